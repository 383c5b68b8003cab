section
-- ===== PART A: goes FIRST, ahead of the names: the tables' words, and 'selects' of the private methods out of them =====
/-- a private method of a class that the tables say can be made, by its rows of tables_1 -/
def lw_okq (q : MethodName × Nat) : Prop := (q.1.cls ≠ "java/lang/invoke/MethodHandle" ∧ q.1.cls ≠ "java/lang/invoke/VarHandle") ∧ Cond.instantiable q.1.cls q.2 ∈ tables_1 ∧ Cond.privateMethod q.1 ∈ tables_1 ∧ Cond.instanceMethod q.1 ∈ tables_1
theorem lw_p0 : lw_okq (⟨"RiverSuit$Tape", "readToken", "()Z"⟩, 10) := ⟨⟨by decide +kernel, by decide +kernel⟩, List.mem_of_getElem? (i := 117) (by decide +kernel), List.mem_of_getElem? (i := 305) (by decide +kernel), List.mem_of_getElem? (i := 306) (by decide +kernel)⟩
theorem lw_p1 : lw_okq (⟨"RiverSuit$Tape", "skipBlanks", "()V"⟩, 10) := ⟨⟨by decide +kernel, by decide +kernel⟩, List.mem_of_getElem? (i := 117) (by decide +kernel), List.mem_of_getElem? (i := 309) (by decide +kernel), List.mem_of_getElem? (i := 310) (by decide +kernel)⟩
theorem lw_p2 : lw_okq (⟨"RiverSuit$Tape", "kindAt", "(I)I"⟩, 10) := ⟨⟨by decide +kernel, by decide +kernel⟩, List.mem_of_getElem? (i := 117) (by decide +kernel), List.mem_of_getElem? (i := 313) (by decide +kernel), List.mem_of_getElem? (i := 314) (by decide +kernel)⟩
theorem lw_p3 : lw_okq (⟨"RiverSuit$Tape", "refuse", "(II)Z"⟩, 10) := ⟨⟨by decide +kernel, by decide +kernel⟩, List.mem_of_getElem? (i := 117) (by decide +kernel), List.mem_of_getElem? (i := 317) (by decide +kernel), List.mem_of_getElem? (i := 318) (by decide +kernel)⟩
theorem lw_p4 : lw_okq (⟨"RiverSuit$Tape", "figures", "()I"⟩, 10) := ⟨⟨by decide +kernel, by decide +kernel⟩, List.mem_of_getElem? (i := 117) (by decide +kernel), List.mem_of_getElem? (i := 321) (by decide +kernel), List.mem_of_getElem? (i := 322) (by decide +kernel)⟩
theorem lw_p5 : lw_okq (⟨"RiverSuit$Tape", "readLine", "(LRiverSuit$Suit;)Z"⟩, 10) := ⟨⟨by decide +kernel, by decide +kernel⟩, List.mem_of_getElem? (i := 117) (by decide +kernel), List.mem_of_getElem? (i := 325) (by decide +kernel), List.mem_of_getElem? (i := 326) (by decide +kernel)⟩
theorem lw_p6 : lw_okq (⟨"RiverSuit$Tape", "isWord", "(Ljava/lang/String;)Z"⟩, 10) := ⟨⟨by decide +kernel, by decide +kernel⟩, List.mem_of_getElem? (i := 117) (by decide +kernel), List.mem_of_getElem? (i := 330) (by decide +kernel), List.mem_of_getElem? (i := 331) (by decide +kernel)⟩
theorem lw_p7 : lw_okq (⟨"RiverSuit$Tape", "readClaim", "(LRiverSuit$Suit;I)Z"⟩, 10) := ⟨⟨by decide +kernel, by decide +kernel⟩, List.mem_of_getElem? (i := 117) (by decide +kernel), List.mem_of_getElem? (i := 382) (by decide +kernel), List.mem_of_getElem? (i := 383) (by decide +kernel)⟩
theorem lw_p8 : lw_okq (⟨"RiverSuit$Tape", "readNumber", "(II)Z"⟩, 10) := ⟨⟨by decide +kernel, by decide +kernel⟩, List.mem_of_getElem? (i := 117) (by decide +kernel), List.mem_of_getElem? (i := 386) (by decide +kernel), List.mem_of_getElem? (i := 387) (by decide +kernel)⟩
theorem lw_p9 : lw_okq (⟨"RiverSuit$Tape", "readGrounds", "(LRiverSuit$Suit;I)Z"⟩, 10) := ⟨⟨by decide +kernel, by decide +kernel⟩, List.mem_of_getElem? (i := 117) (by decide +kernel), List.mem_of_getElem? (i := 391) (by decide +kernel), List.mem_of_getElem? (i := 392) (by decide +kernel)⟩
theorem lw_p10 : lw_okq (⟨"RiverSuit$Tape", "takeGround", "(LRiverSuit$Suit;IZ)Z"⟩, 10) := ⟨⟨by decide +kernel, by decide +kernel⟩, List.mem_of_getElem? (i := 117) (by decide +kernel), List.mem_of_getElem? (i := 395) (by decide +kernel), List.mem_of_getElem? (i := 396) (by decide +kernel)⟩
theorem lw_p11 : lw_okq (⟨"RiverSuit$Tape", "readEnd", "(LRiverSuit$Suit;)Z"⟩, 10) := ⟨⟨by decide +kernel, by decide +kernel⟩, List.mem_of_getElem? (i := 117) (by decide +kernel), List.mem_of_getElem? (i := 403) (by decide +kernel), List.mem_of_getElem? (i := 404) (by decide +kernel)⟩
theorem lw_p12 : lw_okq (⟨"RiverSuit$Tape", "readStop", "()Z"⟩, 10) := ⟨⟨by decide +kernel, by decide +kernel⟩, List.mem_of_getElem? (i := 117) (by decide +kernel), List.mem_of_getElem? (i := 407) (by decide +kernel), List.mem_of_getElem? (i := 408) (by decide +kernel)⟩
theorem lw_p13 : lw_okq (⟨"RiverSuit$Tape", "readPlan", "(LRiverSuit$Suit;)Z"⟩, 10) := ⟨⟨by decide +kernel, by decide +kernel⟩, List.mem_of_getElem? (i := 117) (by decide +kernel), List.mem_of_getElem? (i := 412) (by decide +kernel), List.mem_of_getElem? (i := 413) (by decide +kernel)⟩
theorem lw_p14 : lw_okq (⟨"RiverSuit$Tape", "readSaid", "(LRiverSuit$Suit;)Z"⟩, 10) := ⟨⟨by decide +kernel, by decide +kernel⟩, List.mem_of_getElem? (i := 117) (by decide +kernel), List.mem_of_getElem? (i := 421) (by decide +kernel), List.mem_of_getElem? (i := 422) (by decide +kernel)⟩
theorem lw_p15 : lw_okq (⟨"RiverSuit$Tape", "readDay", "(LRiverSuit$Suit;)Z"⟩, 10) := ⟨⟨by decide +kernel, by decide +kernel⟩, List.mem_of_getElem? (i := 117) (by decide +kernel), List.mem_of_getElem? (i := 430) (by decide +kernel), List.mem_of_getElem? (i := 431) (by decide +kernel)⟩
def lw_privs_1 : List (MethodName × Nat) := [(⟨"RiverSuit$Tape", "readToken", "()Z"⟩, 10), (⟨"RiverSuit$Tape", "skipBlanks", "()V"⟩, 10), (⟨"RiverSuit$Tape", "kindAt", "(I)I"⟩, 10), (⟨"RiverSuit$Tape", "refuse", "(II)Z"⟩, 10), (⟨"RiverSuit$Tape", "figures", "()I"⟩, 10), (⟨"RiverSuit$Tape", "readLine", "(LRiverSuit$Suit;)Z"⟩, 10), (⟨"RiverSuit$Tape", "isWord", "(Ljava/lang/String;)Z"⟩, 10), (⟨"RiverSuit$Tape", "readClaim", "(LRiverSuit$Suit;I)Z"⟩, 10), (⟨"RiverSuit$Tape", "readNumber", "(II)Z"⟩, 10), (⟨"RiverSuit$Tape", "readGrounds", "(LRiverSuit$Suit;I)Z"⟩, 10), (⟨"RiverSuit$Tape", "takeGround", "(LRiverSuit$Suit;IZ)Z"⟩, 10), (⟨"RiverSuit$Tape", "readEnd", "(LRiverSuit$Suit;)Z"⟩, 10), (⟨"RiverSuit$Tape", "readStop", "()Z"⟩, 10), (⟨"RiverSuit$Tape", "readPlan", "(LRiverSuit$Suit;)Z"⟩, 10), (⟨"RiverSuit$Tape", "readSaid", "(LRiverSuit$Suit;)Z"⟩, 10), (⟨"RiverSuit$Tape", "readDay", "(LRiverSuit$Suit;)Z"⟩, 10)]
theorem lw_r1 : ∀ q ∈ lw_privs_1, lw_okq q := List.forall_mem_cons.mpr ⟨lw_p0, List.forall_mem_cons.mpr ⟨lw_p1, List.forall_mem_cons.mpr ⟨lw_p2, List.forall_mem_cons.mpr ⟨lw_p3, List.forall_mem_cons.mpr ⟨lw_p4, List.forall_mem_cons.mpr ⟨lw_p5, List.forall_mem_cons.mpr ⟨lw_p6, List.forall_mem_cons.mpr ⟨lw_p7, List.forall_mem_cons.mpr ⟨lw_p8, List.forall_mem_cons.mpr ⟨lw_p9, List.forall_mem_cons.mpr ⟨lw_p10, List.forall_mem_cons.mpr ⟨lw_p11, List.forall_mem_cons.mpr ⟨lw_p12, List.forall_mem_cons.mpr ⟨lw_p13, List.forall_mem_cons.mpr ⟨lw_p14, List.forall_mem_cons.mpr ⟨lw_p15, fun _ h => absurd h List.not_mem_nil⟩⟩⟩⟩⟩⟩⟩⟩⟩⟩⟩⟩⟩⟩⟩⟩
theorem lw_p16 : lw_okq (⟨"RiverSuit$Tape", "close", "(LRiverSuit$Suit;)V"⟩, 10) := ⟨⟨by decide +kernel, by decide +kernel⟩, List.mem_of_getElem? (i := 117) (by decide +kernel), List.mem_of_getElem? (i := 434) (by decide +kernel), List.mem_of_getElem? (i := 435) (by decide +kernel)⟩
theorem lw_p17 : lw_okq (⟨"RiverSuit", "fewestMore", "(ZI)I"⟩, 12) := ⟨⟨by decide +kernel, by decide +kernel⟩, List.mem_of_getElem? (i := 17) (by decide +kernel), List.mem_of_getElem? (i := 561) (by decide +kernel), List.mem_of_getElem? (i := 562) (by decide +kernel)⟩
theorem lw_p18 : lw_okq (⟨"RiverSuit", "weight", "(II)J"⟩, 12) := ⟨⟨by decide +kernel, by decide +kernel⟩, List.mem_of_getElem? (i := 17) (by decide +kernel), List.mem_of_getElem? (i := 594) (by decide +kernel), List.mem_of_getElem? (i := 595) (by decide +kernel)⟩
theorem lw_p19 : lw_okq (⟨"RiverSuit$Game", "stepBack", "(LRiverSuit$Suit;I)V"⟩, 1) := ⟨⟨by decide +kernel, by decide +kernel⟩, List.mem_of_getElem? (i := 198) (by decide +kernel), List.mem_of_getElem? (i := 613) (by decide +kernel), List.mem_of_getElem? (i := 614) (by decide +kernel)⟩
theorem lw_p20 : lw_okq (⟨"RiverSuit$Game", "leastWinning", "(IIZ)I"⟩, 1) := ⟨⟨by decide +kernel, by decide +kernel⟩, List.mem_of_getElem? (i := 198) (by decide +kernel), List.mem_of_getElem? (i := 624) (by decide +kernel), List.mem_of_getElem? (i := 625) (by decide +kernel)⟩
theorem lw_p21 : lw_okq (⟨"RiverSuit", "orders", "(I)J"⟩, 12) := ⟨⟨by decide +kernel, by decide +kernel⟩, List.mem_of_getElem? (i := 17) (by decide +kernel), List.mem_of_getElem? (i := 645) (by decide +kernel), List.mem_of_getElem? (i := 646) (by decide +kernel)⟩
theorem lw_p22 : lw_okq (⟨"RiverSuit$Law", "prepare", "(LRiverSuit$Suit;)V"⟩, 7) := ⟨⟨by decide +kernel, by decide +kernel⟩, List.mem_of_getElem? (i := 208) (by decide +kernel), List.mem_of_getElem? (i := 675) (by decide +kernel), List.mem_of_getElem? (i := 676) (by decide +kernel)⟩
theorem lw_p23 : lw_okq (⟨"RiverSuit$Law", "agrees", "(LRiverSuit$Suit;I)Z"⟩, 7) := ⟨⟨by decide +kernel, by decide +kernel⟩, List.mem_of_getElem? (i := 208) (by decide +kernel), List.mem_of_getElem? (i := 680) (by decide +kernel), List.mem_of_getElem? (i := 681) (by decide +kernel)⟩
theorem lw_p24 : lw_okq (⟨"RiverSuitModel", "firstDraft", "()V"⟩, 29) := ⟨⟨by decide +kernel, by decide +kernel⟩, List.mem_of_getElem? (i := 736) (by decide +kernel), List.mem_of_getElem? (i := 742) (by decide +kernel), List.mem_of_getElem? (i := 743) (by decide +kernel)⟩
theorem lw_p25 : lw_okq (⟨"RiverSuitModel", "keepDraft", "()V"⟩, 29) := ⟨⟨by decide +kernel, by decide +kernel⟩, List.mem_of_getElem? (i := 736) (by decide +kernel), List.mem_of_getElem? (i := 746) (by decide +kernel), List.mem_of_getElem? (i := 747) (by decide +kernel)⟩
theorem lw_p26 : lw_okq (⟨"RiverSuitModel", "next", "()V"⟩, 29) := ⟨⟨by decide +kernel, by decide +kernel⟩, List.mem_of_getElem? (i := 736) (by decide +kernel), List.mem_of_getElem? (i := 854) (by decide +kernel), List.mem_of_getElem? (i := 855) (by decide +kernel)⟩
theorem lw_p27 : lw_okq (⟨"RiverSuitModel", "byteAt", "(I)I"⟩, 29) := ⟨⟨by decide +kernel, by decide +kernel⟩, List.mem_of_getElem? (i := 736) (by decide +kernel), List.mem_of_getElem? (i := 858) (by decide +kernel), List.mem_of_getElem? (i := 859) (by decide +kernel)⟩
theorem lw_p28 : lw_okq (⟨"RiverSuitModel", "needs", "(ZI)V"⟩, 29) := ⟨⟨by decide +kernel, by decide +kernel⟩, List.mem_of_getElem? (i := 736) (by decide +kernel), List.mem_of_getElem? (i := 866) (by decide +kernel), List.mem_of_getElem? (i := 867) (by decide +kernel)⟩
theorem lw_p29 : lw_okq (⟨"RiverSuitModel", "readLine", "()V"⟩, 29) := ⟨⟨by decide +kernel, by decide +kernel⟩, List.mem_of_getElem? (i := 736) (by decide +kernel), List.mem_of_getElem? (i := 870) (by decide +kernel), List.mem_of_getElem? (i := 871) (by decide +kernel)⟩
theorem lw_p30 : lw_okq (⟨"RiverSuitModel", "lineNow", "()I"⟩, 29) := ⟨⟨by decide +kernel, by decide +kernel⟩, List.mem_of_getElem? (i := 736) (by decide +kernel), List.mem_of_getElem? (i := 874) (by decide +kernel), List.mem_of_getElem? (i := 875) (by decide +kernel)⟩
theorem lw_p31 : lw_okq (⟨"RiverSuitModel", "is", "(IIII)Z"⟩, 29) := ⟨⟨by decide +kernel, by decide +kernel⟩, List.mem_of_getElem? (i := 736) (by decide +kernel), List.mem_of_getElem? (i := 878) (by decide +kernel), List.mem_of_getElem? (i := 879) (by decide +kernel)⟩
def lw_privs_2 : List (MethodName × Nat) := [(⟨"RiverSuit$Tape", "close", "(LRiverSuit$Suit;)V"⟩, 10), (⟨"RiverSuit", "fewestMore", "(ZI)I"⟩, 12), (⟨"RiverSuit", "weight", "(II)J"⟩, 12), (⟨"RiverSuit$Game", "stepBack", "(LRiverSuit$Suit;I)V"⟩, 1), (⟨"RiverSuit$Game", "leastWinning", "(IIZ)I"⟩, 1), (⟨"RiverSuit", "orders", "(I)J"⟩, 12), (⟨"RiverSuit$Law", "prepare", "(LRiverSuit$Suit;)V"⟩, 7), (⟨"RiverSuit$Law", "agrees", "(LRiverSuit$Suit;I)Z"⟩, 7), (⟨"RiverSuitModel", "firstDraft", "()V"⟩, 29), (⟨"RiverSuitModel", "keepDraft", "()V"⟩, 29), (⟨"RiverSuitModel", "next", "()V"⟩, 29), (⟨"RiverSuitModel", "byteAt", "(I)I"⟩, 29), (⟨"RiverSuitModel", "needs", "(ZI)V"⟩, 29), (⟨"RiverSuitModel", "readLine", "()V"⟩, 29), (⟨"RiverSuitModel", "lineNow", "()I"⟩, 29), (⟨"RiverSuitModel", "is", "(IIII)Z"⟩, 29)]
theorem lw_r2 : ∀ q ∈ lw_privs_2, lw_okq q := List.forall_mem_cons.mpr ⟨lw_p16, List.forall_mem_cons.mpr ⟨lw_p17, List.forall_mem_cons.mpr ⟨lw_p18, List.forall_mem_cons.mpr ⟨lw_p19, List.forall_mem_cons.mpr ⟨lw_p20, List.forall_mem_cons.mpr ⟨lw_p21, List.forall_mem_cons.mpr ⟨lw_p22, List.forall_mem_cons.mpr ⟨lw_p23, List.forall_mem_cons.mpr ⟨lw_p24, List.forall_mem_cons.mpr ⟨lw_p25, List.forall_mem_cons.mpr ⟨lw_p26, List.forall_mem_cons.mpr ⟨lw_p27, List.forall_mem_cons.mpr ⟨lw_p28, List.forall_mem_cons.mpr ⟨lw_p29, List.forall_mem_cons.mpr ⟨lw_p30, List.forall_mem_cons.mpr ⟨lw_p31, fun _ h => absurd h List.not_mem_nil⟩⟩⟩⟩⟩⟩⟩⟩⟩⟩⟩⟩⟩⟩⟩⟩
theorem lw_p32 : lw_okq (⟨"RiverSuitModel", "ends", "(III)Z"⟩, 29) := ⟨⟨by decide +kernel, by decide +kernel⟩, List.mem_of_getElem? (i := 736) (by decide +kernel), List.mem_of_getElem? (i := 882) (by decide +kernel), List.mem_of_getElem? (i := 883) (by decide +kernel)⟩
theorem lw_p33 : lw_okq (⟨"RiverSuitModel", "readLineOf", "(I)V"⟩, 29) := ⟨⟨by decide +kernel, by decide +kernel⟩, List.mem_of_getElem? (i := 736) (by decide +kernel), List.mem_of_getElem? (i := 888) (by decide +kernel), List.mem_of_getElem? (i := 889) (by decide +kernel)⟩
theorem lw_p34 : lw_okq (⟨"RiverSuitModel", "readClaim", "()I"⟩, 29) := ⟨⟨by decide +kernel, by decide +kernel⟩, List.mem_of_getElem? (i := 736) (by decide +kernel), List.mem_of_getElem? (i := 892) (by decide +kernel), List.mem_of_getElem? (i := 893) (by decide +kernel)⟩
theorem lw_p35 : lw_okq (⟨"RiverSuitModel", "readNumber", "(II)I"⟩, 29) := ⟨⟨by decide +kernel, by decide +kernel⟩, List.mem_of_getElem? (i := 736) (by decide +kernel), List.mem_of_getElem? (i := 896) (by decide +kernel), List.mem_of_getElem? (i := 897) (by decide +kernel)⟩
theorem lw_p36 : lw_okq (⟨"RiverSuitModel", "looked", "(II)I"⟩, 29) := ⟨⟨by decide +kernel, by decide +kernel⟩, List.mem_of_getElem? (i := 736) (by decide +kernel), List.mem_of_getElem? (i := 900) (by decide +kernel), List.mem_of_getElem? (i := 901) (by decide +kernel)⟩
theorem lw_p37 : lw_okq (⟨"RiverSuitModel", "readMore", "(II)I"⟩, 29) := ⟨⟨by decide +kernel, by decide +kernel⟩, List.mem_of_getElem? (i := 736) (by decide +kernel), List.mem_of_getElem? (i := 904) (by decide +kernel), List.mem_of_getElem? (i := 905) (by decide +kernel)⟩
theorem lw_p38 : lw_okq (⟨"RiverSuitModel", "readWhole", "(I)V"⟩, 29) := ⟨⟨by decide +kernel, by decide +kernel⟩, List.mem_of_getElem? (i := 736) (by decide +kernel), List.mem_of_getElem? (i := 908) (by decide +kernel), List.mem_of_getElem? (i := 909) (by decide +kernel)⟩
theorem lw_p39 : lw_okq (⟨"RiverSuitModel", "isUnless", "()Z"⟩, 29) := ⟨⟨by decide +kernel, by decide +kernel⟩, List.mem_of_getElem? (i := 736) (by decide +kernel), List.mem_of_getElem? (i := 912) (by decide +kernel), List.mem_of_getElem? (i := 913) (by decide +kernel)⟩
theorem lw_p40 : lw_okq (⟨"RiverSuitModel", "standing", "(I)I"⟩, 29) := ⟨⟨by decide +kernel, by decide +kernel⟩, List.mem_of_getElem? (i := 736) (by decide +kernel), List.mem_of_getElem? (i := 924) (by decide +kernel), List.mem_of_getElem? (i := 925) (by decide +kernel)⟩
theorem lw_p41 : lw_okq (⟨"RiverSuitModel", "isClaim", "(I)Z"⟩, 29) := ⟨⟨by decide +kernel, by decide +kernel⟩, List.mem_of_getElem? (i := 736) (by decide +kernel), List.mem_of_getElem? (i := 935) (by decide +kernel), List.mem_of_getElem? (i := 936) (by decide +kernel)⟩
theorem lw_p42 : lw_okq (⟨"RiverSuitModel", "inTime", "(II)Z"⟩, 29) := ⟨⟨by decide +kernel, by decide +kernel⟩, List.mem_of_getElem? (i := 736) (by decide +kernel), List.mem_of_getElem? (i := 947) (by decide +kernel), List.mem_of_getElem? (i := 948) (by decide +kernel)⟩
theorem lw_p43 : lw_okq (⟨"RiverSuitModel", "becomes", "(II)I"⟩, 29) := ⟨⟨by decide +kernel, by decide +kernel⟩, List.mem_of_getElem? (i := 736) (by decide +kernel), List.mem_of_getElem? (i := 963) (by decide +kernel), List.mem_of_getElem? (i := 964) (by decide +kernel)⟩
theorem lw_p44 : lw_okq (⟨"RiverSuitModel", "becomesBit", "(IIZII)I"⟩, 29) := ⟨⟨by decide +kernel, by decide +kernel⟩, List.mem_of_getElem? (i := 736) (by decide +kernel), List.mem_of_getElem? (i := 975) (by decide +kernel), List.mem_of_getElem? (i := 976) (by decide +kernel)⟩
theorem lw_p45 : lw_okq (⟨"RiverSuitModel", "every", "()I"⟩, 29) := ⟨⟨by decide +kernel, by decide +kernel⟩, List.mem_of_getElem? (i := 736) (by decide +kernel), List.mem_of_getElem? (i := 999) (by decide +kernel), List.mem_of_getElem? (i := 1000) (by decide +kernel)⟩
theorem lw_p46 : lw_okq (⟨"RiverSuitModel", "fewest", "(ZI)I"⟩, 29) := ⟨⟨by decide +kernel, by decide +kernel⟩, List.mem_of_getElem? (i := 736) (by decide +kernel), List.mem_of_getElem? (i := 1035) (by decide +kernel), List.mem_of_getElem? (i := 1036) (by decide +kernel)⟩
theorem lw_p47 : lw_okq (⟨"RiverSuitModel", "endStands", "(I)Z"⟩, 29) := ⟨⟨by decide +kernel, by decide +kernel⟩, List.mem_of_getElem? (i := 736) (by decide +kernel), List.mem_of_getElem? (i := 1040) (by decide +kernel), List.mem_of_getElem? (i := 1041) (by decide +kernel)⟩
def lw_privs_3 : List (MethodName × Nat) := [(⟨"RiverSuitModel", "ends", "(III)Z"⟩, 29), (⟨"RiverSuitModel", "readLineOf", "(I)V"⟩, 29), (⟨"RiverSuitModel", "readClaim", "()I"⟩, 29), (⟨"RiverSuitModel", "readNumber", "(II)I"⟩, 29), (⟨"RiverSuitModel", "looked", "(II)I"⟩, 29), (⟨"RiverSuitModel", "readMore", "(II)I"⟩, 29), (⟨"RiverSuitModel", "readWhole", "(I)V"⟩, 29), (⟨"RiverSuitModel", "isUnless", "()Z"⟩, 29), (⟨"RiverSuitModel", "standing", "(I)I"⟩, 29), (⟨"RiverSuitModel", "isClaim", "(I)Z"⟩, 29), (⟨"RiverSuitModel", "inTime", "(II)Z"⟩, 29), (⟨"RiverSuitModel", "becomes", "(II)I"⟩, 29), (⟨"RiverSuitModel", "becomesBit", "(IIZII)I"⟩, 29), (⟨"RiverSuitModel", "every", "()I"⟩, 29), (⟨"RiverSuitModel", "fewest", "(ZI)I"⟩, 29), (⟨"RiverSuitModel", "endStands", "(I)Z"⟩, 29)]
theorem lw_r3 : ∀ q ∈ lw_privs_3, lw_okq q := List.forall_mem_cons.mpr ⟨lw_p32, List.forall_mem_cons.mpr ⟨lw_p33, List.forall_mem_cons.mpr ⟨lw_p34, List.forall_mem_cons.mpr ⟨lw_p35, List.forall_mem_cons.mpr ⟨lw_p36, List.forall_mem_cons.mpr ⟨lw_p37, List.forall_mem_cons.mpr ⟨lw_p38, List.forall_mem_cons.mpr ⟨lw_p39, List.forall_mem_cons.mpr ⟨lw_p40, List.forall_mem_cons.mpr ⟨lw_p41, List.forall_mem_cons.mpr ⟨lw_p42, List.forall_mem_cons.mpr ⟨lw_p43, List.forall_mem_cons.mpr ⟨lw_p44, List.forall_mem_cons.mpr ⟨lw_p45, List.forall_mem_cons.mpr ⟨lw_p46, List.forall_mem_cons.mpr ⟨lw_p47, fun _ h => absurd h List.not_mem_nil⟩⟩⟩⟩⟩⟩⟩⟩⟩⟩⟩⟩⟩⟩⟩⟩
theorem lw_p48 : lw_okq (⟨"RiverSuitModel", "tries", "(I)I"⟩, 29) := ⟨⟨by decide +kernel, by decide +kernel⟩, List.mem_of_getElem? (i := 736) (by decide +kernel), List.mem_of_getElem? (i := 1052) (by decide +kernel), List.mem_of_getElem? (i := 1053) (by decide +kernel)⟩
theorem lw_p49 : lw_okq (⟨"RiverSuitModel", "play", "()V"⟩, 29) := ⟨⟨by decide +kernel, by decide +kernel⟩, List.mem_of_getElem? (i := 736) (by decide +kernel), List.mem_of_getElem? (i := 1073) (by decide +kernel), List.mem_of_getElem? (i := 1074) (by decide +kernel)⟩
theorem lw_p50 : lw_okq (⟨"RiverSuitModel", "canSay", "(III)Z"⟩, 29) := ⟨⟨by decide +kernel, by decide +kernel⟩, List.mem_of_getElem? (i := 736) (by decide +kernel), List.mem_of_getElem? (i := 1077) (by decide +kernel), List.mem_of_getElem? (i := 1078) (by decide +kernel)⟩
theorem lw_p51 : lw_okq (⟨"RiverSuitModel", "isSo", "(I)Z"⟩, 29) := ⟨⟨by decide +kernel, by decide +kernel⟩, List.mem_of_getElem? (i := 736) (by decide +kernel), List.mem_of_getElem? (i := 1104) (by decide +kernel), List.mem_of_getElem? (i := 1105) (by decide +kernel)⟩
theorem lw_p52 : lw_okq (⟨"RiverSuitModel", "copies", "(II)V"⟩, 29) := ⟨⟨by decide +kernel, by decide +kernel⟩, List.mem_of_getElem? (i := 736) (by decide +kernel), List.mem_of_getElem? (i := 1118) (by decide +kernel), List.mem_of_getElem? (i := 1119) (by decide +kernel)⟩
def lw_privs_4 : List (MethodName × Nat) := [(⟨"RiverSuitModel", "tries", "(I)I"⟩, 29), (⟨"RiverSuitModel", "play", "()V"⟩, 29), (⟨"RiverSuitModel", "canSay", "(III)Z"⟩, 29), (⟨"RiverSuitModel", "isSo", "(I)Z"⟩, 29), (⟨"RiverSuitModel", "copies", "(II)V"⟩, 29)]
theorem lw_r4 : ∀ q ∈ lw_privs_4, lw_okq q := List.forall_mem_cons.mpr ⟨lw_p48, List.forall_mem_cons.mpr ⟨lw_p49, List.forall_mem_cons.mpr ⟨lw_p50, List.forall_mem_cons.mpr ⟨lw_p51, List.forall_mem_cons.mpr ⟨lw_p52, fun _ h => absurd h List.not_mem_nil⟩⟩⟩⟩⟩
def lw_privs : List (MethodName × Nat) := lw_privs_1 ++ (lw_privs_2 ++ (lw_privs_3 ++ (lw_privs_4)))
def lw_tbl : List Cond := k2_sels lw_privs ++ tables_1
theorem lw_privs_ok : ∀ q ∈ lw_privs, lw_okq q := by
  show ∀ q ∈ lw_privs_1 ++ (lw_privs_2 ++ (lw_privs_3 ++ (lw_privs_4))), lw_okq q
  exact List.forall_mem_append.mpr ⟨lw_r1, List.forall_mem_append.mpr ⟨lw_r2, List.forall_mem_append.mpr ⟨lw_r3, lw_r4⟩⟩⟩

/-- the words that hold in every state that a call comes to -/
def lw_g : List Cond := lw_tbl.filter goodWord
theorem lw_g_good : ∀ w ∈ lw_g, (w.onTables && w.keeps) = true ∨ ∃ ty, w = .arrayClass ty := fun w h => good_of_word (List.mem_filter.mp h).2
theorem lw_g_in : ∀ w ∈ lw_g, w ∈ lw_tbl := fun _ h => (List.mem_filter.mp h).1
theorem lw_g_of (w : Cond) (i : Nat) (h : lw_tbl[i]? = some w) (hg : goodWord w = true) : w ∈ lw_g := List.mem_filter.mpr ⟨List.mem_of_getElem? h, hg⟩
end
section
def RX0 : String := "RiverSuit$Game"
def TX0 : u_T := fun k => match k with
  | _ => ("RiverSuit$Game", "wins", "[Z", true)
def tyX0 : Nat → FieldType := fun k => match k with
  | _ => .array .boolean
abbrev wsX00 : List Cond := u_ws RX0 TX0 1
theorem nmX0 : ∀ a, a < 1 → ∀ b, b < 1 → a ≠ b → (TX0 a).2.1 ≠ (TX0 b).2.1 := by decide +kernel
theorem tyX0_ok : ∀ k, k < 1 → parseFieldDescriptor (TX0 k).2.2.1 = some (tyX0 k) := by decide +kernel
abbrev cX0_init : ByteArray := prog_2_method_1_code
def yX0_init : MethodName := ⟨RX0, "<init>", "()V"⟩
abbrev cX0_riverWins : ByteArray := prog_2_method_2_code
def yX0_riverWins : MethodName := ⟨RX0, "riverWins", "(I)Z"⟩
abbrev cX0_solve : ByteArray := prog_2_method_3_code
def yX0_solve : MethodName := ⟨RX0, "solve", "(LRiverSuit$Suit;I)I"⟩
abbrev cX0_stepBack : ByteArray := prog_2_method_4_code
def yX0_stepBack : MethodName := ⟨RX0, "stepBack", "(LRiverSuit$Suit;I)V"⟩
abbrev cX0_mover : ByteArray := prog_2_method_5_code
def yX0_mover : MethodName := ⟨RX0, "mover", "(I)I"⟩
abbrev cX0_sayableOn : ByteArray := prog_2_method_6_code
def yX0_sayableOn : MethodName := ⟨RX0, "sayableOn", "(LRiverSuit$Suit;I)I"⟩
abbrev cX0_leastWinning : ByteArray := prog_2_method_7_code
def yX0_leastWinning : MethodName := ⟨RX0, "leastWinning", "(IIZ)I"⟩
abbrev cX0_bestSaying : ByteArray := prog_2_method_8_code
def yX0_bestSaying : MethodName := ⟨RX0, "bestSaying", "(LRiverSuit$Suit;)I"⟩
def RX1 : String := "RiverSuit$Law"
def TX1 : u_T := fun k => match k with
  | 0 => ("RiverSuit$Law", "could", "I", false)
  | 1 => ("RiverSuit$Law", "fitting", "I", false)
  | 2 => ("RiverSuit$Law", "least", "I", false)
  | 3 => ("RiverSuit$Law", "inAll", "I", false)
  | 4 => ("RiverSuit$Law", "inSome", "I", false)
  | 5 => ("RiverSuit$Law", "standing", "[I", true)
  | _ => ("RiverSuit$Law", "ready", "[Z", true)
def tyX1 : Nat → FieldType := fun k => match k with
  | 0 => .int
  | 1 => .int
  | 2 => .int
  | 3 => .int
  | 4 => .int
  | 5 => .array .int
  | _ => .array .boolean
abbrev wsX10 : List Cond := u_ws RX1 TX1 7
theorem nmX1 : ∀ a, a < 7 → ∀ b, b < 7 → a ≠ b → (TX1 a).2.1 ≠ (TX1 b).2.1 := by decide +kernel
theorem tyX1_ok : ∀ k, k < 7 → parseFieldDescriptor (TX1 k).2.2.1 = some (tyX1 k) := by decide +kernel
abbrev cX1_init : ByteArray := prog_3_method_1_code
def yX1_init : MethodName := ⟨RX1, "<init>", "()V"⟩
abbrev cX1_search : ByteArray := prog_3_method_2_code
def yX1_search : MethodName := ⟨RX1, "search", "(LRiverSuit$Suit;)V"⟩
abbrev cX1_prepare : ByteArray := prog_3_method_3_code
def yX1_prepare : MethodName := ⟨RX1, "prepare", "(LRiverSuit$Suit;)V"⟩
abbrev cX1_agrees : ByteArray := prog_3_method_4_code
def yX1_agrees : MethodName := ⟨RX1, "agrees", "(LRiverSuit$Suit;I)Z"⟩
def RX2 : String := "RiverSuit$Sheet"
def TX2 : u_T := fun k => match k with
  | 0 => ("RiverSuit$Sheet", "cells", "[I", true)
  | 1 => ("RiverSuit$Sheet", "lane", "I", false)
  | _ => ("RiverSuit$Sheet", "size", "I", false)
def tyX2 : Nat → FieldType := fun k => match k with
  | 0 => .array .int
  | 1 => .int
  | _ => .int
abbrev wsX20 : List Cond := u_ws RX2 TX2 3
theorem nmX2 : ∀ a, a < 3 → ∀ b, b < 3 → a ≠ b → (TX2 a).2.1 ≠ (TX2 b).2.1 := by decide +kernel
theorem tyX2_ok : ∀ k, k < 3 → parseFieldDescriptor (TX2 k).2.2.1 = some (tyX2 k) := by decide +kernel
abbrev cX2_init : ByteArray := prog_4_method_1_code
def yX2_init : MethodName := ⟨RX2, "<init>", "()V"⟩
abbrev cX2_blank : ByteArray := prog_4_method_2_code
def yX2_blank : MethodName := ⟨RX2, "blank", "()Z"⟩
abbrev cX2_renew : ByteArray := prog_4_method_3_code
def yX2_renew : MethodName := ⟨RX2, "renew", "(II)V"⟩
abbrev cX2_faultOf : ByteArray := prog_4_method_4_code
def yX2_faultOf : MethodName := ⟨RX2, "faultOf", "(II)I"⟩
abbrev cX2_put : ByteArray := prog_4_method_5_code
def yX2_put : MethodName := ⟨RX2, "put", "(II)V"⟩
def RX3 : String := "RiverSuit$Suit"
def TX3 : u_T := fun k => match k with
  | 0 => ("RiverSuit$Suit", "sides", "[I", true)
  | 1 => ("RiverSuit$Suit", "from", "[I", true)
  | 2 => ("RiverSuit$Suit", "to", "[I", true)
  | 3 => ("RiverSuit$Suit", "yards", "[I", true)
  | 4 => ("RiverSuit$Suit", "leans", "[I", true)
  | 5 => ("RiverSuit$Suit", "falls", "[I", true)
  | 6 => ("RiverSuit$Suit", "plan", "[I", true)
  | 7 => ("RiverSuit$Suit", "seenSets", "[I", true)
  | 8 => ("RiverSuit$Suit", "seenStood", "I", false)
  | 9 => ("RiverSuit$Suit", "claims", "I", false)
  | 10 => ("RiverSuit$Suit", "end", "I", false)
  | 11 => ("RiverSuit$Suit", "day", "I", false)
  | 12 => ("RiverSuit$Suit", "said", "I", false)
  | 13 => ("RiverSuit$Suit", "planned", "I", false)
  | _ => ("RiverSuit$Suit", "seen", "I", false)
def tyX3 : Nat → FieldType := fun k => match k with
  | 0 => .array .int
  | 1 => .array .int
  | 2 => .array .int
  | 3 => .array .int
  | 4 => .array .int
  | 5 => .array .int
  | 6 => .array .int
  | 7 => .array .int
  | 8 => .int
  | 9 => .int
  | 10 => .int
  | 11 => .int
  | 12 => .int
  | 13 => .int
  | _ => .int
abbrev wsX30 : List Cond := u_ws RX3 TX3 15
theorem nmX3 : ∀ a, a < 15 → ∀ b, b < 15 → a ≠ b → (TX3 a).2.1 ≠ (TX3 b).2.1 := by decide +kernel
theorem tyX3_ok : ∀ k, k < 15 → parseFieldDescriptor (TX3 k).2.2.1 = some (tyX3 k) := by decide +kernel
abbrev cX3_init : ByteArray := prog_5_method_1_code
def yX3_init : MethodName := ⟨RX3, "<init>", "()V"⟩
abbrev cX3_empty : ByteArray := prog_5_method_2_code
def yX3_empty : MethodName := ⟨RX3, "empty", "()V"⟩
abbrev cX3_become : ByteArray := prog_5_method_3_code
def yX3_become : MethodName := ⟨RX3, "become", "(LRiverSuit$Suit;)V"⟩
abbrev cX3_hasClaim : ByteArray := prog_5_method_4_code
def yX3_hasClaim : MethodName := ⟨RX3, "hasClaim", "(I)Z"⟩
abbrev cX3_hasSet : ByteArray := prog_5_method_5_code
def yX3_hasSet : MethodName := ⟨RX3, "hasSet", "(I)Z"⟩
abbrev cX3_isSaid : ByteArray := prog_5_method_6_code
def yX3_isSaid : MethodName := ⟨RX3, "isSaid", "(I)Z"⟩
abbrev cX3_inTime : ByteArray := prog_5_method_7_code
def yX3_inTime : MethodName := ⟨RX3, "inTime", "(II)Z"⟩
abbrev cX3_standing : ByteArray := prog_5_method_8_code
def yX3_standing : MethodName := ⟨RX3, "standing", "(I)I"⟩
abbrev cX3_endStands : ByteArray := prog_5_method_9_code
def yX3_endStands : MethodName := ⟨RX3, "endStands", "(I)Z"⟩
abbrev cX3_addToPlan : ByteArray := prog_5_method_10_code
def yX3_addToPlan : MethodName := ⟨RX3, "addToPlan", "(I)Z"⟩
abbrev cX3_addSeen : ByteArray := prog_5_method_11_code
def yX3_addSeen : MethodName := ⟨RX3, "addSeen", "(IZ)Z"⟩
def RX4 : String := "RiverSuit$Tape"
def TX4 : u_T := fun k => match k with
  | 0 => ("RiverSuit$Tape", "bytes", "[B", true)
  | 1 => ("RiverSuit$Tape", "length", "I", false)
  | 2 => ("RiverSuit$Tape", "fault", "I", false)
  | 3 => ("RiverSuit$Tape", "faultPlace", "I", false)
  | 4 => ("RiverSuit$Tape", "kind", "I", false)
  | 5 => ("RiverSuit$Tape", "start", "I", false)
  | 6 => ("RiverSuit$Tape", "place", "I", false)
  | 7 => ("RiverSuit$Tape", "value", "I", false)
  | 8 => ("RiverSuit$Tape", "endTold", "Z", false)
  | _ => ("RiverSuit$Tape", "dayTold", "Z", false)
def tyX4 : Nat → FieldType := fun k => match k with
  | 0 => .array .byte
  | 1 => .int
  | 2 => .int
  | 3 => .int
  | 4 => .int
  | 5 => .int
  | 6 => .int
  | 7 => .int
  | 8 => .boolean
  | _ => .boolean
abbrev wsX40 : List Cond := u_ws RX4 TX4 10
theorem nmX4 : ∀ a, a < 10 → ∀ b, b < 10 → a ≠ b → (TX4 a).2.1 ≠ (TX4 b).2.1 := by decide +kernel
theorem tyX4_ok : ∀ k, k < 10 → parseFieldDescriptor (TX4 k).2.2.1 = some (tyX4 k) := by decide +kernel
abbrev cX4_init : ByteArray := prog_6_method_1_code
def yX4_init : MethodName := ⟨RX4, "<init>", "()V"⟩
abbrev cX4_append : ByteArray := prog_6_method_2_code
def yX4_append : MethodName := ⟨RX4, "append", "(I)Z"⟩
abbrev cX4_tell : ByteArray := prog_6_method_3_code
def yX4_tell : MethodName := ⟨RX4, "tell", "(LRiverSuit$Suit;)I"⟩
abbrev cX4_refuse : ByteArray := prog_6_method_4_code
def yX4_refuse : MethodName := ⟨RX4, "refuse", "(II)Z"⟩
abbrev cX4_close : ByteArray := prog_6_method_5_code
def yX4_close : MethodName := ⟨RX4, "close", "(LRiverSuit$Suit;)V"⟩
abbrev cX4_readLine : ByteArray := prog_6_method_6_code
def yX4_readLine : MethodName := ⟨RX4, "readLine", "(LRiverSuit$Suit;)Z"⟩
abbrev cX4_readClaim : ByteArray := prog_6_method_7_code
def yX4_readClaim : MethodName := ⟨RX4, "readClaim", "(LRiverSuit$Suit;I)Z"⟩
abbrev cX4_readGrounds : ByteArray := prog_6_method_8_code
def yX4_readGrounds : MethodName := ⟨RX4, "readGrounds", "(LRiverSuit$Suit;I)Z"⟩
abbrev cX4_takeGround : ByteArray := prog_6_method_9_code
def yX4_takeGround : MethodName := ⟨RX4, "takeGround", "(LRiverSuit$Suit;IZ)Z"⟩
abbrev cX4_readEnd : ByteArray := prog_6_method_10_code
def yX4_readEnd : MethodName := ⟨RX4, "readEnd", "(LRiverSuit$Suit;)Z"⟩
abbrev cX4_readPlan : ByteArray := prog_6_method_11_code
def yX4_readPlan : MethodName := ⟨RX4, "readPlan", "(LRiverSuit$Suit;)Z"⟩
abbrev cX4_readSaid : ByteArray := prog_6_method_12_code
def yX4_readSaid : MethodName := ⟨RX4, "readSaid", "(LRiverSuit$Suit;)Z"⟩
abbrev cX4_readDay : ByteArray := prog_6_method_13_code
def yX4_readDay : MethodName := ⟨RX4, "readDay", "(LRiverSuit$Suit;)Z"⟩
abbrev cX4_readNumber : ByteArray := prog_6_method_14_code
def yX4_readNumber : MethodName := ⟨RX4, "readNumber", "(II)Z"⟩
abbrev cX4_readStop : ByteArray := prog_6_method_15_code
def yX4_readStop : MethodName := ⟨RX4, "readStop", "()Z"⟩
abbrev cX4_readToken : ByteArray := prog_6_method_16_code
def yX4_readToken : MethodName := ⟨RX4, "readToken", "()Z"⟩
abbrev cX4_skipBlanks : ByteArray := prog_6_method_17_code
def yX4_skipBlanks : MethodName := ⟨RX4, "skipBlanks", "()V"⟩
abbrev cX4_kindAt : ByteArray := prog_6_method_18_code
def yX4_kindAt : MethodName := ⟨RX4, "kindAt", "(I)I"⟩
abbrev cX4_figures : ByteArray := prog_6_method_19_code
def yX4_figures : MethodName := ⟨RX4, "figures", "()I"⟩
abbrev cX4_isWord : ByteArray := prog_6_method_20_code
def yX4_isWord : MethodName := ⟨RX4, "isWord", "(Ljava/lang/String;)Z"⟩
def RX5 : String := "RiverSuit$Trial"
def TX5 : u_T := fun k => match k with
  | 0 => ("RiverSuit$Trial", "said", "I", false)
  | 1 => ("RiverSuit$Trial", "firstLost", "I", false)
  | _ => ("RiverSuit$Trial", "lost", "I", false)
def tyX5 : Nat → FieldType := fun k => match k with
  | 0 => .int
  | 1 => .int
  | _ => .int
abbrev wsX50 : List Cond := u_ws RX5 TX5 3
theorem nmX5 : ∀ a, a < 3 → ∀ b, b < 3 → a ≠ b → (TX5 a).2.1 ≠ (TX5 b).2.1 := by decide +kernel
theorem tyX5_ok : ∀ k, k < 3 → parseFieldDescriptor (TX5 k).2.2.1 = some (tyX5 k) := by decide +kernel
abbrev cX5_init : ByteArray := prog_7_method_1_code
def yX5_init : MethodName := ⟨RX5, "<init>", "()V"⟩
abbrev cX5_hold : ByteArray := prog_7_method_2_code
def yX5_hold : MethodName := ⟨RX5, "hold", "(LRiverSuit$Suit;I)V"⟩
def RX6 : String := "RiverSuit"
def TX6 : u_T := fun k => match k with
  | 0 => ("RiverSuit", "suit", "LRiverSuit$Suit;", true)
  | 1 => ("RiverSuit", "draft", "LRiverSuit$Suit;", true)
  | 2 => ("RiverSuit", "images", "[LRiverSuit$Suit;", true)
  | 3 => ("RiverSuit", "kept", "[Z", true)
  | 4 => ("RiverSuit", "tape", "LRiverSuit$Tape;", true)
  | 5 => ("RiverSuit", "sheets", "[LRiverSuit$Sheet;", true)
  | 6 => ("RiverSuit", "trial", "LRiverSuit$Trial;", true)
  | 7 => ("RiverSuit", "game", "LRiverSuit$Game;", true)
  | 8 => ("RiverSuit", "law", "LRiverSuit$Law;", true)
  | 9 => ("RiverSuit", "chains", "[I", true)
  | 10 => ("RiverSuit", "textFault", "I", false)
  | _ => ("RiverSuit", "readFault", "I", false)
def tyX6 : Nat → FieldType := fun k => match k with
  | 0 => .object "RiverSuit$Suit"
  | 1 => .object "RiverSuit$Suit"
  | 2 => .array (.object "RiverSuit$Suit")
  | 3 => .array .boolean
  | 4 => .object "RiverSuit$Tape"
  | 5 => .array (.object "RiverSuit$Sheet")
  | 6 => .object "RiverSuit$Trial"
  | 7 => .object "RiverSuit$Game"
  | 8 => .object "RiverSuit$Law"
  | 9 => .array .int
  | 10 => .int
  | _ => .int
abbrev wsX60 : List Cond := u_ws RX6 TX6 12
theorem nmX6 : ∀ a, a < 12 → ∀ b, b < 12 → a ≠ b → (TX6 a).2.1 ≠ (TX6 b).2.1 := by decide +kernel
theorem tyX6_ok : ∀ k, k < 12 → parseFieldDescriptor (TX6 k).2.2.1 = some (tyX6 k) := by decide +kernel
abbrev cX6_init : ByteArray := prog_1_method_1_code
def yX6_init : MethodName := ⟨RX6, "<init>", "()V"⟩
abbrev cX6_feed : ByteArray := prog_1_method_2_code
def yX6_feed : MethodName := ⟨RX6, "feed", "(I)I"⟩
abbrev cX6_end : ByteArray := prog_1_method_3_code
def yX6_end : MethodName := ⟨RX6, "end", "(I)I"⟩
abbrev cX6_text : ByteArray := prog_1_method_4_code
def yX6_text : MethodName := ⟨RX6, "text", "()I"⟩
abbrev cX6_fault : ByteArray := prog_1_method_5_code
def yX6_fault : MethodName := ⟨RX6, "fault", "()I"⟩
abbrev cX6_rule : ByteArray := prog_1_method_6_code
def yX6_rule : MethodName := ⟨RX6, "rule", "(I)I"⟩
abbrev cX6_claim : ByteArray := prog_1_method_7_code
def yX6_claim : MethodName := ⟨RX6, "claim", "(II)I"⟩
abbrev cX6_plan : ByteArray := prog_1_method_8_code
def yX6_plan : MethodName := ⟨RX6, "plan", "(I)I"⟩
abbrev cX6_say : ByteArray := prog_1_method_9_code
def yX6_say : MethodName := ⟨RX6, "say", "(I)I"⟩
abbrev cX6_drop : ByteArray := prog_1_method_10_code
def yX6_drop : MethodName := ⟨RX6, "drop", "(I)I"⟩
abbrev cX6_day : ByteArray := prog_1_method_11_code
def yX6_day : MethodName := ⟨RX6, "day", "(I)I"⟩
abbrev cX6_aim : ByteArray := prog_1_method_12_code
def yX6_aim : MethodName := ⟨RX6, "aim", "(I)I"⟩
abbrev cX6_leans : ByteArray := prog_1_method_13_code
def yX6_leans : MethodName := ⟨RX6, "leans", "(IIZ)I"⟩
abbrev cX6_falls : ByteArray := prog_1_method_14_code
def yX6_falls : MethodName := ⟨RX6, "falls", "(IIZ)I"⟩
abbrev cX6_yards : ByteArray := prog_1_method_15_code
def yX6_yards : MethodName := ⟨RX6, "yards", "(II)I"⟩
abbrev cX6_plans : ByteArray := prog_1_method_16_code
def yX6_plans : MethodName := ⟨RX6, "plans", "(I)I"⟩
abbrev cX6_cut : ByteArray := prog_1_method_17_code
def yX6_cut : MethodName := ⟨RX6, "cut", "(I)I"⟩
abbrev cX6_stands : ByteArray := prog_1_method_18_code
def yX6_stands : MethodName := ⟨RX6, "stands", "(I)I"⟩
abbrev cX6_sum : ByteArray := prog_1_method_19_code
def yX6_sum : MethodName := ⟨RX6, "sum", "(I)I"⟩
abbrev cX6_upon : ByteArray := prog_1_method_20_code
def yX6_upon : MethodName := ⟨RX6, "upon", "(I)I"⟩
abbrev cX6_reply : ByteArray := prog_1_method_21_code
def yX6_reply : MethodName := ⟨RX6, "reply", "(II)I"⟩
abbrev cX6_ever : ByteArray := prog_1_method_22_code
def yX6_ever : MethodName := ⟨RX6, "ever", "(I)I"⟩
abbrev cX6_chain : ByteArray := prog_1_method_23_code
def yX6_chain : MethodName := ⟨RX6, "chain", "(I)I"⟩
abbrev cX6_late : ByteArray := prog_1_method_24_code
def yX6_late : MethodName := ⟨RX6, "late", "()I"⟩
abbrev cX6_few : ByteArray := prog_1_method_25_code
def yX6_few : MethodName := ⟨RX6, "few", "(I)I"⟩
abbrev cX6_foil : ByteArray := prog_1_method_26_code
def yX6_foil : MethodName := ⟨RX6, "foil", "(I)I"⟩
abbrev cX6_trial : ByteArray := prog_1_method_27_code
def yX6_trial : MethodName := ⟨RX6, "trial", "(I)I"⟩
abbrev cX6_luck : ByteArray := prog_1_method_28_code
def yX6_luck : MethodName := ⟨RX6, "luck", "(II)J"⟩
abbrev cX6_game : ByteArray := prog_1_method_29_code
def yX6_game : MethodName := ⟨RX6, "game", "(I)I"⟩
abbrev cX6_days : ByteArray := prog_1_method_30_code
def yX6_days : MethodName := ⟨RX6, "days", "()I"⟩
abbrev cX6_share : ByteArray := prog_1_method_31_code
def yX6_share : MethodName := ⟨RX6, "share", "(II)J"⟩
abbrev cX6_see : ByteArray := prog_1_method_32_code
def yX6_see : MethodName := ⟨RX6, "see", "(IZ)I"⟩
abbrev cX6_forget : ByteArray := prog_1_method_33_code
def yX6_forget : MethodName := ⟨RX6, "forget", "(I)I"⟩
abbrev cX6_fits : ByteArray := prog_1_method_34_code
def yX6_fits : MethodName := ⟨RX6, "fits", "(I)I"⟩
abbrev cX6_drift : ByteArray := prog_1_method_35_code
def yX6_drift : MethodName := ⟨RX6, "drift", "(III)I"⟩
abbrev cX6_keep : ByteArray := prog_1_method_36_code
def yX6_keep : MethodName := ⟨RX6, "keep", "(I)I"⟩
abbrev cX6_back : ByteArray := prog_1_method_37_code
def yX6_back : MethodName := ⟨RX6, "back", "(I)I"⟩
abbrev cX6_sheet : ByteArray := prog_1_method_38_code
def yX6_sheet : MethodName := ⟨RX6, "sheet", "(III)I"⟩
abbrev cX6_lay : ByteArray := prog_1_method_39_code
def yX6_lay : MethodName := ⟨RX6, "lay", "(III)I"⟩
abbrev cX6_read : ByteArray := prog_1_method_40_code
def yX6_read : MethodName := ⟨RX6, "read", "(IIII)I"⟩
abbrev cX6_torn : ByteArray := prog_1_method_41_code
def yX6_torn : MethodName := ⟨RX6, "torn", "()I"⟩
abbrev cX6_count : ByteArray := prog_1_method_42_code
def yX6_count : MethodName := ⟨RX6, "count", "(I)I"⟩
abbrev cX6_within : ByteArray := prog_1_method_43_code
def yX6_within : MethodName := ⟨RX6, "within", "(III)Z"⟩
abbrev cX6_oneIf : ByteArray := prog_1_method_44_code
def yX6_oneIf : MethodName := ⟨RX6, "oneIf", "(Z)I"⟩
abbrev cX6_bind : ByteArray := prog_1_method_45_code
def yX6_bind : MethodName := ⟨RX6, "bind", "([I[IIIZ)I"⟩
abbrev cX6_fewestMore : ByteArray := prog_1_method_46_code
def yX6_fewestMore : MethodName := ⟨RX6, "fewestMore", "(ZI)I"⟩
abbrev cX6_weight : ByteArray := prog_1_method_47_code
def yX6_weight : MethodName := ⟨RX6, "weight", "(II)J"⟩
abbrev cX6_orders : ByteArray := prog_1_method_48_code
def yX6_orders : MethodName := ⟨RX6, "orders", "(I)J"⟩
abbrev cX6_factorial : ByteArray := prog_1_method_49_code
def yX6_factorial : MethodName := ⟨RX6, "factorial", "(I)J"⟩
abbrev cX6_lowest : ByteArray := prog_1_method_50_code
def yX6_lowest : MethodName := ⟨RX6, "lowest", "(JJI)J"⟩
def RX7 : String := "RiverSuitModel"
def TX7 : u_T := fun k => match k with
  | 0 => ("RiverSuitModel", "st", "[I", true)
  | 1 => ("RiverSuitModel", "isKept", "[Z", true)
  | 2 => ("RiverSuitModel", "claims", "I", false)
  | 3 => ("RiverSuitModel", "sides", "[I", true)
  | 4 => ("RiverSuitModel", "froms", "[I", true)
  | 5 => ("RiverSuitModel", "tos", "[I", true)
  | 6 => ("RiverSuitModel", "draft", "[I", true)
  | 7 => ("RiverSuitModel", "dClaims", "I", false)
  | 8 => ("RiverSuitModel", "dSides", "[I", true)
  | 9 => ("RiverSuitModel", "dFroms", "[I", true)
  | 10 => ("RiverSuitModel", "dTos", "[I", true)
  | 11 => ("RiverSuitModel", "toldLines", "I", false)
  | 12 => ("RiverSuitModel", "highest", "I", false)
  | 13 => ("RiverSuitModel", "tape", "[I", true)
  | 14 => ("RiverSuitModel", "taped", "I", false)
  | 15 => ("RiverSuitModel", "pos", "I", false)
  | 16 => ("RiverSuitModel", "from", "I", false)
  | 17 => ("RiverSuitModel", "sort", "I", false)
  | 18 => ("RiverSuitModel", "value", "I", false)
  | 19 => ("RiverSuitModel", "fault", "I", false)
  | 20 => ("RiverSuitModel", "wrongAt", "I", false)
  | 21 => ("RiverSuitModel", "chains", "[I", true)
  | 22 => ("RiverSuitModel", "lostFirst", "I", false)
  | 23 => ("RiverSuitModel", "lostMany", "I", false)
  | 24 => ("RiverSuitModel", "wins", "[Z", true)
  | 25 => ("RiverSuitModel", "lanes", "[I", true)
  | 26 => ("RiverSuitModel", "sizes", "[I", true)
  | 27 => ("RiverSuitModel", "cells", "[I", true)
  | _ => ("RiverSuitModel", "torn", "I", false)
def tyX7 : Nat → FieldType := fun k => match k with
  | 0 => .array .int
  | 1 => .array .boolean
  | 2 => .int
  | 3 => .array .int
  | 4 => .array .int
  | 5 => .array .int
  | 6 => .array .int
  | 7 => .int
  | 8 => .array .int
  | 9 => .array .int
  | 10 => .array .int
  | 11 => .int
  | 12 => .int
  | 13 => .array .int
  | 14 => .int
  | 15 => .int
  | 16 => .int
  | 17 => .int
  | 18 => .int
  | 19 => .int
  | 20 => .int
  | 21 => .array .int
  | 22 => .int
  | 23 => .int
  | 24 => .array .boolean
  | 25 => .array .int
  | 26 => .array .int
  | 27 => .array .int
  | _ => .int
abbrev wsX70 : List Cond := u_ws RX7 TX7 29
theorem nmX7 : ∀ a, a < 29 → ∀ b, b < 29 → a ≠ b → (TX7 a).2.1 ≠ (TX7 b).2.1 := by decide +kernel
theorem tyX7_ok : ∀ k, k < 29 → parseFieldDescriptor (TX7 k).2.2.1 = some (tyX7 k) := by decide +kernel
abbrev cX7_init : ByteArray := prog_9_method_1_code
def yX7_init : MethodName := ⟨RX7, "<init>", "()V"⟩
abbrev cX7_in : ByteArray := prog_9_method_3_code
def yX7_in : MethodName := ⟨RX7, "in", "(JJJ)Z"⟩
abbrev cX7_flag : ByteArray := prog_9_method_4_code
def yX7_flag : MethodName := ⟨RX7, "flag", "(Z)I"⟩
abbrev cX7_firstDraft : ByteArray := prog_9_method_5_code
def yX7_firstDraft : MethodName := ⟨RX7, "firstDraft", "()V"⟩
abbrev cX7_keepDraft : ByteArray := prog_9_method_6_code
def yX7_keepDraft : MethodName := ⟨RX7, "keepDraft", "()V"⟩
abbrev cX7_feed : ByteArray := prog_9_method_7_code
def yX7_feed : MethodName := ⟨RX7, "feed", "(I)I"⟩
abbrev cX7_end : ByteArray := prog_9_method_8_code
def yX7_end : MethodName := ⟨RX7, "end", "(I)I"⟩
abbrev cX7_needs : ByteArray := prog_9_method_9_code
def yX7_needs : MethodName := ⟨RX7, "needs", "(ZI)V"⟩
abbrev cX7_byteAt : ByteArray := prog_9_method_10_code
def yX7_byteAt : MethodName := ⟨RX7, "byteAt", "(I)I"⟩
abbrev cX7_is : ByteArray := prog_9_method_11_code
def yX7_is : MethodName := ⟨RX7, "is", "(IIII)Z"⟩
abbrev cX7_ends : ByteArray := prog_9_method_12_code
def yX7_ends : MethodName := ⟨RX7, "ends", "(III)Z"⟩
abbrev cX7_lineNow : ByteArray := prog_9_method_13_code
def yX7_lineNow : MethodName := ⟨RX7, "lineNow", "()I"⟩
abbrev cX7_next : ByteArray := prog_9_method_14_code
def yX7_next : MethodName := ⟨RX7, "next", "()V"⟩
abbrev cX7_looked : ByteArray := prog_9_method_15_code
def yX7_looked : MethodName := ⟨RX7, "looked", "(II)I"⟩
abbrev cX7_readNumber : ByteArray := prog_9_method_16_code
def yX7_readNumber : MethodName := ⟨RX7, "readNumber", "(II)I"⟩
abbrev cX7_readMore : ByteArray := prog_9_method_17_code
def yX7_readMore : MethodName := ⟨RX7, "readMore", "(II)I"⟩
abbrev cX7_readClaim : ByteArray := prog_9_method_18_code
def yX7_readClaim : MethodName := ⟨RX7, "readClaim", "()I"⟩
abbrev cX7_isUnless : ByteArray := prog_9_method_19_code
def yX7_isUnless : MethodName := ⟨RX7, "isUnless", "()Z"⟩
abbrev cX7_readWhole : ByteArray := prog_9_method_20_code
def yX7_readWhole : MethodName := ⟨RX7, "readWhole", "(I)V"⟩
abbrev cX7_readLineOf : ByteArray := prog_9_method_21_code
def yX7_readLineOf : MethodName := ⟨RX7, "readLineOf", "(I)V"⟩
abbrev cX7_readLine : ByteArray := prog_9_method_22_code
def yX7_readLine : MethodName := ⟨RX7, "readLine", "()V"⟩
abbrev cX7_text : ByteArray := prog_9_method_23_code
def yX7_text : MethodName := ⟨RX7, "text", "()I"⟩
abbrev cX7_fault : ByteArray := prog_9_method_24_code
def yX7_fault : MethodName := ⟨RX7, "fault", "()I"⟩
abbrev cX7_isClaim : ByteArray := prog_9_method_25_code
def yX7_isClaim : MethodName := ⟨RX7, "isClaim", "(I)Z"⟩
abbrev cX7_every : ByteArray := prog_9_method_26_code
def yX7_every : MethodName := ⟨RX7, "every", "()I"⟩
abbrev cX7_isPart : ByteArray := prog_9_method_27_code
def yX7_isPart : MethodName := ⟨RX7, "isPart", "(I)Z"⟩
abbrev cX7_bitsOf : ByteArray := prog_9_method_28_code
def yX7_bitsOf : MethodName := ⟨RX7, "bitsOf", "(I)I"⟩
abbrev cX7_standing : ByteArray := prog_9_method_29_code
def yX7_standing : MethodName := ⟨RX7, "standing", "(I)I"⟩
abbrev cX7_endStands : ByteArray := prog_9_method_30_code
def yX7_endStands : MethodName := ⟨RX7, "endStands", "(I)Z"⟩
abbrev cX7_inTime : ByteArray := prog_9_method_31_code
def yX7_inTime : MethodName := ⟨RX7, "inTime", "(II)Z"⟩
abbrev cX7_rule : ByteArray := prog_9_method_32_code
def yX7_rule : MethodName := ⟨RX7, "rule", "(I)I"⟩
abbrev cX7_claim : ByteArray := prog_9_method_33_code
def yX7_claim : MethodName := ⟨RX7, "claim", "(II)I"⟩
abbrev cX7_plan : ByteArray := prog_9_method_34_code
def yX7_plan : MethodName := ⟨RX7, "plan", "(I)I"⟩
abbrev cX7_becomes : ByteArray := prog_9_method_35_code
def yX7_becomes : MethodName := ⟨RX7, "becomes", "(II)I"⟩
abbrev cX7_say : ByteArray := prog_9_method_36_code
def yX7_say : MethodName := ⟨RX7, "say", "(I)I"⟩
abbrev cX7_drop : ByteArray := prog_9_method_37_code
def yX7_drop : MethodName := ⟨RX7, "drop", "(I)I"⟩
abbrev cX7_day : ByteArray := prog_9_method_38_code
def yX7_day : MethodName := ⟨RX7, "day", "(I)I"⟩
abbrev cX7_aim : ByteArray := prog_9_method_39_code
def yX7_aim : MethodName := ⟨RX7, "aim", "(I)I"⟩
abbrev cX7_becomesBit : ByteArray := prog_9_method_40_code
def yX7_becomesBit : MethodName := ⟨RX7, "becomesBit", "(IIZII)I"⟩
abbrev cX7_leans : ByteArray := prog_9_method_41_code
def yX7_leans : MethodName := ⟨RX7, "leans", "(IIZ)I"⟩
abbrev cX7_falls : ByteArray := prog_9_method_42_code
def yX7_falls : MethodName := ⟨RX7, "falls", "(IIZ)I"⟩
abbrev cX7_yards : ByteArray := prog_9_method_43_code
def yX7_yards : MethodName := ⟨RX7, "yards", "(II)I"⟩
abbrev cX7_plans : ByteArray := prog_9_method_44_code
def yX7_plans : MethodName := ⟨RX7, "plans", "(I)I"⟩
abbrev cX7_cut : ByteArray := prog_9_method_45_code
def yX7_cut : MethodName := ⟨RX7, "cut", "(I)I"⟩
abbrev cX7_stands : ByteArray := prog_9_method_46_code
def yX7_stands : MethodName := ⟨RX7, "stands", "(I)I"⟩
abbrev cX7_sum : ByteArray := prog_9_method_47_code
def yX7_sum : MethodName := ⟨RX7, "sum", "(I)I"⟩
abbrev cX7_upon : ByteArray := prog_9_method_48_code
def yX7_upon : MethodName := ⟨RX7, "upon", "(I)I"⟩
abbrev cX7_reply : ByteArray := prog_9_method_49_code
def yX7_reply : MethodName := ⟨RX7, "reply", "(II)I"⟩
abbrev cX7_ever : ByteArray := prog_9_method_50_code
def yX7_ever : MethodName := ⟨RX7, "ever", "(I)I"⟩
abbrev cX7_chain : ByteArray := prog_9_method_51_code
def yX7_chain : MethodName := ⟨RX7, "chain", "(I)I"⟩
abbrev cX7_late : ByteArray := prog_9_method_52_code
def yX7_late : MethodName := ⟨RX7, "late", "()I"⟩
abbrev cX7_fewest : ByteArray := prog_9_method_53_code
def yX7_fewest : MethodName := ⟨RX7, "fewest", "(ZI)I"⟩
abbrev cX7_few : ByteArray := prog_9_method_54_code
def yX7_few : MethodName := ⟨RX7, "few", "(I)I"⟩
abbrev cX7_foil : ByteArray := prog_9_method_55_code
def yX7_foil : MethodName := ⟨RX7, "foil", "(I)I"⟩
abbrev cX7_tries : ByteArray := prog_9_method_56_code
def yX7_tries : MethodName := ⟨RX7, "tries", "(I)I"⟩
abbrev cX7_trial : ByteArray := prog_9_method_57_code
def yX7_trial : MethodName := ⟨RX7, "trial", "(I)I"⟩
abbrev cX7_common : ByteArray := prog_9_method_58_code
def yX7_common : MethodName := ⟨RX7, "common", "(JJ)J"⟩
abbrev cX7_told : ByteArray := prog_9_method_59_code
def yX7_told : MethodName := ⟨RX7, "told", "(JJI)J"⟩
abbrev cX7_luck : ByteArray := prog_9_method_60_code
def yX7_luck : MethodName := ⟨RX7, "luck", "(II)J"⟩
abbrev cX7_play : ByteArray := prog_9_method_61_code
def yX7_play : MethodName := ⟨RX7, "play", "()V"⟩
abbrev cX7_canSay : ByteArray := prog_9_method_62_code
def yX7_canSay : MethodName := ⟨RX7, "canSay", "(III)Z"⟩
abbrev cX7_game : ByteArray := prog_9_method_63_code
def yX7_game : MethodName := ⟨RX7, "game", "(I)I"⟩
abbrev cX7_days : ByteArray := prog_9_method_64_code
def yX7_days : MethodName := ⟨RX7, "days", "()I"⟩
abbrev cX7_orders : ByteArray := prog_9_method_65_code
def yX7_orders : MethodName := ⟨RX7, "orders", "(I)J"⟩
abbrev cX7_share : ByteArray := prog_9_method_66_code
def yX7_share : MethodName := ⟨RX7, "share", "(II)J"⟩
abbrev cX7_see : ByteArray := prog_9_method_67_code
def yX7_see : MethodName := ⟨RX7, "see", "(IZ)I"⟩
abbrev cX7_forget : ByteArray := prog_9_method_68_code
def yX7_forget : MethodName := ⟨RX7, "forget", "(I)I"⟩
abbrev cX7_isSo : ByteArray := prog_9_method_69_code
def yX7_isSo : MethodName := ⟨RX7, "isSo", "(I)Z"⟩
abbrev cX7_fits : ByteArray := prog_9_method_70_code
def yX7_fits : MethodName := ⟨RX7, "fits", "(I)I"⟩
abbrev cX7_drift : ByteArray := prog_9_method_71_code
def yX7_drift : MethodName := ⟨RX7, "drift", "(III)I"⟩
abbrev cX7_copies : ByteArray := prog_9_method_72_code
def yX7_copies : MethodName := ⟨RX7, "copies", "(II)V"⟩
abbrev cX7_keep : ByteArray := prog_9_method_73_code
def yX7_keep : MethodName := ⟨RX7, "keep", "(I)I"⟩
abbrev cX7_back : ByteArray := prog_9_method_74_code
def yX7_back : MethodName := ⟨RX7, "back", "(I)I"⟩
abbrev cX7_isSheet : ByteArray := prog_9_method_75_code
def yX7_isSheet : MethodName := ⟨RX7, "isSheet", "(II)Z"⟩
abbrev cX7_sheet : ByteArray := prog_9_method_76_code
def yX7_sheet : MethodName := ⟨RX7, "sheet", "(III)I"⟩
abbrev cX7_lay : ByteArray := prog_9_method_77_code
def yX7_lay : MethodName := ⟨RX7, "lay", "(III)I"⟩
abbrev cX7_read : ByteArray := prog_9_method_78_code
def yX7_read : MethodName := ⟨RX7, "read", "(IIII)I"⟩
abbrev cX7_torn : ByteArray := prog_9_method_79_code
def yX7_torn : MethodName := ⟨RX7, "torn", "()I"⟩
abbrev cX7_count : ByteArray := prog_9_method_80_code
def yX7_count : MethodName := ⟨RX7, "count", "(I)I"⟩
def RJ6 : String := "java/lang/Integer"
def TJ6 : u_T := fun k => match k with
  | _ => ("", "", "", false)
def tyJ6 : Nat → FieldType := fun k => match k with
  | _ => .int
abbrev wsJ60 : List Cond := u_ws RJ6 TJ6 0
theorem nmJ6 : ∀ a, a < 0 → ∀ b, b < 0 → a ≠ b → (TJ6 a).2.1 ≠ (TJ6 b).2.1 := by decide +kernel
theorem tyJ6_ok : ∀ k, k < 0 → parseFieldDescriptor (TJ6 k).2.2.1 = some (tyJ6 k) := by decide +kernel
abbrev cJ6_bitCount_0f7a4 : ByteArray := prog_10_method_49_code
def yJ6_bitCount_0f7a4 : MethodName := ⟨RJ6, "bitCount", "(I)I"⟩
def RJ9 : String := "java/lang/Math"
def TJ9 : u_T := fun k => match k with
  | _ => ("", "", "", false)
def tyJ9 : Nat → FieldType := fun k => match k with
  | _ => .int
abbrev wsJ90 : List Cond := u_ws RJ9 TJ9 0
theorem nmJ9 : ∀ a, a < 0 → ∀ b, b < 0 → a ≠ b → (TJ9 a).2.1 ≠ (TJ9 b).2.1 := by decide +kernel
theorem tyJ9_ok : ∀ k, k < 0 → parseFieldDescriptor (TJ9 k).2.2.1 = some (tyJ9 k) := by decide +kernel
abbrev cJ9_abs_067f4 : ByteArray := prog_11_method_61_code
def yJ9_abs_067f4 : MethodName := ⟨RJ9, "abs", "(J)J"⟩
abbrev cJ9_max_7cf53 : ByteArray := prog_11_method_65_code
def yJ9_max_7cf53 : MethodName := ⟨RJ9, "max", "(II)I"⟩
def RJ0 : String := "java/lang/String"
def TJ0 : u_T := fun k => match k with
  | _ => ("", "", "", false)
def tyJ0 : Nat → FieldType := fun k => match k with
  | _ => .int
abbrev wsJ00 : List Cond := u_ws RJ0 TJ0 0
theorem nmJ0 : ∀ a, a < 0 → ∀ b, b < 0 → a ≠ b → (TJ0 a).2.1 ≠ (TJ0 b).2.1 := by decide +kernel
theorem tyJ0_ok : ∀ k, k < 0 → parseFieldDescriptor (TJ0 k).2.2.1 = some (tyJ0 k) := by decide +kernel
abbrev cJ0_length_8abf5 : ByteArray := prog_12_method_54_code
def yJ0_length_8abf5 : MethodName := ⟨RJ0, "length", "()I"⟩
abbrev cJ0_charAt_5068e : ByteArray := prog_12_method_56_code
def yJ0_charAt_5068e : MethodName := ⟨RJ0, "charAt", "(I)C"⟩
abbrev cJ0_coder_7d493 : ByteArray := prog_12_method_152_code
def yJ0_coder_7d493 : MethodName := ⟨RJ0, "coder", "()B"⟩
abbrev cJ0_isLatin1_aae02 : ByteArray := prog_12_method_154_code
def yJ0_isLatin1_aae02 : MethodName := ⟨RJ0, "isLatin1", "()Z"⟩
abbrev cJ0_checkIndex_df160 : ByteArray := prog_12_method_155_code
def yJ0_checkIndex_df160 : MethodName := ⟨RJ0, "checkIndex", "(II)V"⟩
def RJ1 : String := "java/lang/StringLatin1"
def TJ1 : u_T := fun k => match k with
  | _ => ("", "", "", false)
def tyJ1 : Nat → FieldType := fun k => match k with
  | _ => .int
abbrev wsJ10 : List Cond := u_ws RJ1 TJ1 0
theorem nmJ1 : ∀ a, a < 0 → ∀ b, b < 0 → a ≠ b → (TJ1 a).2.1 ≠ (TJ1 b).2.1 := by decide +kernel
theorem tyJ1_ok : ∀ k, k < 0 → parseFieldDescriptor (TJ1 k).2.2.1 = some (tyJ1 k) := by decide +kernel
abbrev cJ1_charAt_3b067 : ByteArray := prog_13_method_2_code
def yJ1_charAt_3b067 : MethodName := ⟨RJ1, "charAt", "([BI)C"⟩
def RJ2 : String := "java/lang/StringUTF16"
def TJ2 : u_T := fun k => match k with
  | _ => ("", "", "", false)
def tyJ2 : Nat → FieldType := fun k => match k with
  | _ => .int
abbrev wsJ20 : List Cond := u_ws RJ2 TJ2 0
theorem nmJ2 : ∀ a, a < 0 → ∀ b, b < 0 → a ≠ b → (TJ2 a).2.1 ≠ (TJ2 b).2.1 := by decide +kernel
theorem tyJ2_ok : ∀ k, k < 0 → parseFieldDescriptor (TJ2 k).2.2.1 = some (tyJ2 k) := by decide +kernel
abbrev cJ2_getChar_3b067 : ByteArray := prog_14_method_5_code
def yJ2_getChar_3b067 : MethodName := ⟨RJ2, "getChar", "([BI)C"⟩
abbrev cJ2_length_9d52b : ByteArray := prog_14_method_6_code
def yJ2_length_9d52b : MethodName := ⟨RJ2, "length", "([B)I"⟩
abbrev cJ2_charAt_3b067 : ByteArray := prog_14_method_83_code
def yJ2_charAt_3b067 : MethodName := ⟨RJ2, "charAt", "([BI)C"⟩
abbrev cJ2_checkIndex_2214a : ByteArray := prog_14_method_91_code
def yJ2_checkIndex_2214a : MethodName := ⟨RJ2, "checkIndex", "(I[B)V"⟩
def RJ10 : String := "java/lang/System"
def TJ10 : u_T := fun k => match k with
  | _ => ("", "", "", false)
def tyJ10 : Nat → FieldType := fun k => match k with
  | _ => .int
abbrev wsJ100 : List Cond := u_ws RJ10 TJ10 0
theorem nmJ10 : ∀ a, a < 0 → ∀ b, b < 0 → a ≠ b → (TJ10 a).2.1 ≠ (TJ10 b).2.1 := by decide +kernel
theorem tyJ10_ok : ∀ k, k < 0 → parseFieldDescriptor (TJ10 k).2.2.1 = some (tyJ10 k) := by decide +kernel
def RJ3 : String := "jdk/internal/util/Preconditions"
def TJ3 : u_T := fun k => match k with
  | _ => ("", "", "", false)
def tyJ3 : Nat → FieldType := fun k => match k with
  | _ => .int
abbrev wsJ30 : List Cond := u_ws RJ3 TJ3 0
theorem nmJ3 : ∀ a, a < 0 → ∀ b, b < 0 → a ≠ b → (TJ3 a).2.1 ≠ (TJ3 b).2.1 := by decide +kernel
theorem tyJ3_ok : ∀ k, k < 0 → parseFieldDescriptor (TJ3 k).2.2.1 = some (tyJ3 k) := by decide +kernel
abbrev cJ3_checkIndex_8e157 : ByteArray := prog_16_method_11_code
def yJ3_checkIndex_8e157 : MethodName := ⟨RJ3, "checkIndex", "(IILjava/util/function/BiFunction;)I"⟩
def RL : String := "RiverSuitLaw"
abbrev cL_law : ByteArray := code
def yL_law : MethodName := ⟨RL, "law", "([I)Z"⟩
abbrev vwCl : List vw_C := [(RX0, TX0, 1), (RX1, TX1, 7), (RX2, TX2, 3), (RX3, TX3, 15), (RX4, TX4, 10), (RX5, TX5, 3), (RX6, TX6, 12), (RX7, TX7, 29)]
end
section
theorem dX0_init_0 : decode cX0_init 0 = .ok (.aload_n 0, 1) := by decide +kernel
theorem dX0_init_1 : decode cX0_init 1 = .ok (.invokespecial 3, 3) := by decide +kernel
theorem dX0_init_4 : decode cX0_init 4 = .ok (.aload_n 0, 1) := by decide +kernel
theorem dX0_init_5 : decode cX0_init 5 = .ok (.sipush 256, 3) := by decide +kernel
theorem dX0_init_8 : decode cX0_init 8 = .ok (.newarray .boolean, 2) := by decide +kernel
theorem dX0_init_10 : decode cX0_init 10 = .ok (.putfield 9, 3) := by decide +kernel
theorem dX0_init_13 : decode cX0_init 13 = .ok (.return_, 1) := by decide +kernel
theorem dX0_riverWins_0 : decode cX0_riverWins 0 = .ok (.iload_n 1, 1) := by decide +kernel
theorem dX0_riverWins_1 : decode cX0_riverWins 1 = .ok (.ifCond .lt 23, 3) := by decide +kernel
theorem dX0_riverWins_4 : decode cX0_riverWins 4 = .ok (.iload_n 1, 1) := by decide +kernel
theorem dX0_riverWins_5 : decode cX0_riverWins 5 = .ok (.sipush 256, 3) := by decide +kernel
theorem dX0_riverWins_8 : decode cX0_riverWins 8 = .ok (.if_icmp .ge 16, 3) := by decide +kernel
theorem dX0_riverWins_11 : decode cX0_riverWins 11 = .ok (.aload_n 0, 1) := by decide +kernel
theorem dX0_riverWins_12 : decode cX0_riverWins 12 = .ok (.getfield 9, 3) := by decide +kernel
theorem dX0_riverWins_15 : decode cX0_riverWins 15 = .ok (.iload_n 1, 1) := by decide +kernel
theorem dX0_riverWins_16 : decode cX0_riverWins 16 = .ok (.baload, 1) := by decide +kernel
theorem dX0_riverWins_17 : decode cX0_riverWins 17 = .ok (.ifCond .eq 7, 3) := by decide +kernel
theorem dX0_riverWins_20 : decode cX0_riverWins 20 = .ok (.iconst 1, 1) := by decide +kernel
theorem dX0_riverWins_21 : decode cX0_riverWins 21 = .ok (.goto 4, 3) := by decide +kernel
theorem dX0_riverWins_24 : decode cX0_riverWins 24 = .ok (.iconst 0, 1) := by decide +kernel
theorem dX0_riverWins_25 : decode cX0_riverWins 25 = .ok (.ireturn, 1) := by decide +kernel
theorem dX0_solve_0 : decode cX0_solve 0 = .ok (.iconst 0, 1) := by decide +kernel
theorem dX0_solve_1 : decode cX0_solve 1 = .ok (.istore_n 3, 1) := by decide +kernel
theorem dX0_solve_2 : decode cX0_solve 2 = .ok (.iload_n 3, 1) := by decide +kernel
theorem dX0_solve_3 : decode cX0_solve 3 = .ok (.iconst 1, 1) := by decide +kernel
theorem dX0_solve_4 : decode cX0_solve 4 = .ok (.aload_n 1, 1) := by decide +kernel
theorem dX0_solve_5 : decode cX0_solve 5 = .ok (.getfield 15, 3) := by decide +kernel
theorem dX0_solve_8 : decode cX0_solve 8 = .ok (.ishl, 1) := by decide +kernel
theorem dX0_solve_9 : decode cX0_solve 9 = .ok (.if_icmp .ge 41, 3) := by decide +kernel
theorem dX0_solve_12 : decode cX0_solve 12 = .ok (.aload_n 0, 1) := by decide +kernel
theorem dX0_solve_13 : decode cX0_solve 13 = .ok (.getfield 9, 3) := by decide +kernel
theorem dX0_solve_16 : decode cX0_solve 16 = .ok (.iload_n 3, 1) := by decide +kernel
theorem dX0_solve_17 : decode cX0_solve 17 = .ok (.iload_n 3, 1) := by decide +kernel
theorem dX0_solve_18 : decode cX0_solve 18 = .ok (.aload_n 1, 1) := by decide +kernel
theorem dX0_solve_19 : decode cX0_solve 19 = .ok (.getfield 21, 3) := by decide +kernel
theorem dX0_solve_22 : decode cX0_solve 22 = .ok (.iand, 1) := by decide +kernel
theorem dX0_solve_23 : decode cX0_solve 23 = .ok (.aload_n 1, 1) := by decide +kernel
theorem dX0_solve_24 : decode cX0_solve 24 = .ok (.getfield 21, 3) := by decide +kernel
theorem dX0_solve_27 : decode cX0_solve 27 = .ok (.if_icmp .ne 15, 3) := by decide +kernel
theorem dX0_solve_30 : decode cX0_solve 30 = .ok (.aload_n 1, 1) := by decide +kernel
theorem dX0_solve_31 : decode cX0_solve 31 = .ok (.iload_n 3, 1) := by decide +kernel
theorem dX0_solve_32 : decode cX0_solve 32 = .ok (.invokevirtual 24, 3) := by decide +kernel
theorem dX0_solve_35 : decode cX0_solve 35 = .ok (.ifCond .eq 7, 3) := by decide +kernel
theorem dX0_solve_38 : decode cX0_solve 38 = .ok (.iconst 1, 1) := by decide +kernel
theorem dX0_solve_39 : decode cX0_solve 39 = .ok (.goto 4, 3) := by decide +kernel
theorem dX0_solve_42 : decode cX0_solve 42 = .ok (.iconst 0, 1) := by decide +kernel
theorem dX0_solve_43 : decode cX0_solve 43 = .ok (.bastore, 1) := by decide +kernel
theorem dX0_solve_44 : decode cX0_solve 44 = .ok (.iinc 3 1, 3) := by decide +kernel
theorem dX0_solve_47 : decode cX0_solve 47 = .ok (.goto (-45), 3) := by decide +kernel
theorem dX0_solve_50 : decode cX0_solve 50 = .ok (.iconst 0, 1) := by decide +kernel
theorem dX0_solve_51 : decode cX0_solve 51 = .ok (.istore_n 3, 1) := by decide +kernel
theorem dX0_solve_52 : decode cX0_solve 52 = .ok (.bipush 9, 2) := by decide +kernel
theorem dX0_solve_54 : decode cX0_solve 54 = .ok (.istore 4, 2) := by decide +kernel
theorem dX0_solve_56 : decode cX0_solve 56 = .ok (.iload 4, 2) := by decide +kernel
theorem dX0_solve_58 : decode cX0_solve 58 = .ok (.iload_n 2, 1) := by decide +kernel
theorem dX0_solve_59 : decode cX0_solve 59 = .ok (.if_icmp .lt 34, 3) := by decide +kernel
theorem dX0_solve_62 : decode cX0_solve 62 = .ok (.aload_n 0, 1) := by decide +kernel
theorem dX0_solve_63 : decode cX0_solve 63 = .ok (.aload_n 1, 1) := by decide +kernel
theorem dX0_solve_64 : decode cX0_solve 64 = .ok (.iload 4, 2) := by decide +kernel
theorem dX0_solve_66 : decode cX0_solve 66 = .ok (.invokevirtual 28, 3) := by decide +kernel
theorem dX0_solve_69 : decode cX0_solve 69 = .ok (.aload_n 0, 1) := by decide +kernel
theorem dX0_solve_70 : decode cX0_solve 70 = .ok (.aload_n 1, 1) := by decide +kernel
theorem dX0_solve_71 : decode cX0_solve 71 = .ok (.getfield 21, 3) := by decide +kernel
theorem dX0_solve_74 : decode cX0_solve 74 = .ok (.invokevirtual 32, 3) := by decide +kernel
theorem dX0_solve_77 : decode cX0_solve 77 = .ok (.ifCond .eq 10, 3) := by decide +kernel
theorem dX0_solve_80 : decode cX0_solve 80 = .ok (.iload_n 3, 1) := by decide +kernel
theorem dX0_solve_81 : decode cX0_solve 81 = .ok (.iconst 1, 1) := by decide +kernel
theorem dX0_solve_82 : decode cX0_solve 82 = .ok (.iload 4, 2) := by decide +kernel
theorem dX0_solve_84 : decode cX0_solve 84 = .ok (.ishl, 1) := by decide +kernel
theorem dX0_solve_85 : decode cX0_solve 85 = .ok (.ior, 1) := by decide +kernel
theorem dX0_solve_86 : decode cX0_solve 86 = .ok (.istore_n 3, 1) := by decide +kernel
theorem dX0_solve_87 : decode cX0_solve 87 = .ok (.iinc 4 (-1), 3) := by decide +kernel
theorem dX0_solve_90 : decode cX0_solve 90 = .ok (.goto (-34), 3) := by decide +kernel
theorem dX0_solve_93 : decode cX0_solve 93 = .ok (.iload_n 3, 1) := by decide +kernel
theorem dX0_solve_94 : decode cX0_solve 94 = .ok (.ireturn, 1) := by decide +kernel
theorem dX0_stepBack_0 : decode cX0_stepBack 0 = .ok (.iload_n 2, 1) := by decide +kernel
theorem dX0_stepBack_1 : decode cX0_stepBack 1 = .ok (.invokestatic 35, 3) := by decide +kernel
theorem dX0_stepBack_4 : decode cX0_stepBack 4 = .ok (.ifCond .ne 7, 3) := by decide +kernel
theorem dX0_stepBack_7 : decode cX0_stepBack 7 = .ok (.iconst 1, 1) := by decide +kernel
theorem dX0_stepBack_8 : decode cX0_stepBack 8 = .ok (.goto 4, 3) := by decide +kernel
theorem dX0_stepBack_11 : decode cX0_stepBack 11 = .ok (.iconst 0, 1) := by decide +kernel
theorem dX0_stepBack_12 : decode cX0_stepBack 12 = .ok (.istore_n 3, 1) := by decide +kernel
theorem dX0_stepBack_13 : decode cX0_stepBack 13 = .ok (.aload_n 1, 1) := by decide +kernel
theorem dX0_stepBack_14 : decode cX0_stepBack 14 = .ok (.iload_n 2, 1) := by decide +kernel
theorem dX0_stepBack_15 : decode cX0_stepBack 15 = .ok (.invokestatic 39, 3) := by decide +kernel
theorem dX0_stepBack_18 : decode cX0_stepBack 18 = .ok (.istore 4, 2) := by decide +kernel
theorem dX0_stepBack_20 : decode cX0_stepBack 20 = .ok (.aload_n 1, 1) := by decide +kernel
theorem dX0_stepBack_21 : decode cX0_stepBack 21 = .ok (.getfield 21, 3) := by decide +kernel
theorem dX0_stepBack_24 : decode cX0_stepBack 24 = .ok (.istore 5, 2) := by decide +kernel
theorem dX0_stepBack_26 : decode cX0_stepBack 26 = .ok (.iload 5, 2) := by decide +kernel
theorem dX0_stepBack_28 : decode cX0_stepBack 28 = .ok (.iconst 1, 1) := by decide +kernel
theorem dX0_stepBack_29 : decode cX0_stepBack 29 = .ok (.aload_n 1, 1) := by decide +kernel
theorem dX0_stepBack_30 : decode cX0_stepBack 30 = .ok (.getfield 15, 3) := by decide +kernel
theorem dX0_stepBack_33 : decode cX0_stepBack 33 = .ok (.ishl, 1) := by decide +kernel
theorem dX0_stepBack_34 : decode cX0_stepBack 34 = .ok (.if_icmp .ge 68, 3) := by decide +kernel
theorem dX0_stepBack_37 : decode cX0_stepBack 37 = .ok (.iload 5, 2) := by decide +kernel
theorem dX0_stepBack_39 : decode cX0_stepBack 39 = .ok (.aload_n 1, 1) := by decide +kernel
theorem dX0_stepBack_40 : decode cX0_stepBack 40 = .ok (.getfield 21, 3) := by decide +kernel
theorem dX0_stepBack_43 : decode cX0_stepBack 43 = .ok (.iand, 1) := by decide +kernel
theorem dX0_stepBack_44 : decode cX0_stepBack 44 = .ok (.aload_n 1, 1) := by decide +kernel
theorem dX0_stepBack_45 : decode cX0_stepBack 45 = .ok (.getfield 21, 3) := by decide +kernel
theorem dX0_stepBack_48 : decode cX0_stepBack 48 = .ok (.if_icmp .ne 7, 3) := by decide +kernel
theorem dX0_stepBack_51 : decode cX0_stepBack 51 = .ok (.iconst 1, 1) := by decide +kernel
theorem dX0_stepBack_52 : decode cX0_stepBack 52 = .ok (.goto 4, 3) := by decide +kernel
theorem dX0_stepBack_55 : decode cX0_stepBack 55 = .ok (.iconst 0, 1) := by decide +kernel
theorem dX0_stepBack_56 : decode cX0_stepBack 56 = .ok (.istore 6, 2) := by decide +kernel
theorem dX0_stepBack_58 : decode cX0_stepBack 58 = .ok (.iload 6, 2) := by decide +kernel
theorem dX0_stepBack_60 : decode cX0_stepBack 60 = .ok (.ifCond .eq 36, 3) := by decide +kernel
theorem dX0_stepBack_63 : decode cX0_stepBack 63 = .ok (.aload_n 0, 1) := by decide +kernel
theorem dX0_stepBack_64 : decode cX0_stepBack 64 = .ok (.getfield 9, 3) := by decide +kernel
theorem dX0_stepBack_67 : decode cX0_stepBack 67 = .ok (.iload 5, 2) := by decide +kernel
theorem dX0_stepBack_69 : decode cX0_stepBack 69 = .ok (.baload, 1) := by decide +kernel
theorem dX0_stepBack_70 : decode cX0_stepBack 70 = .ok (.iload_n 3, 1) := by decide +kernel
theorem dX0_stepBack_71 : decode cX0_stepBack 71 = .ok (.if_icmp .eq 25, 3) := by decide +kernel
theorem dX0_stepBack_74 : decode cX0_stepBack 74 = .ok (.aload_n 0, 1) := by decide +kernel
theorem dX0_stepBack_75 : decode cX0_stepBack 75 = .ok (.iload 5, 2) := by decide +kernel
theorem dX0_stepBack_77 : decode cX0_stepBack 77 = .ok (.iload 4, 2) := by decide +kernel
theorem dX0_stepBack_79 : decode cX0_stepBack 79 = .ok (.iload_n 3, 1) := by decide +kernel
theorem dX0_stepBack_80 : decode cX0_stepBack 80 = .ok (.invokevirtual 43, 3) := by decide +kernel
theorem dX0_stepBack_83 : decode cX0_stepBack 83 = .ok (.bipush (-4), 2) := by decide +kernel
theorem dX0_stepBack_85 : decode cX0_stepBack 85 = .ok (.if_icmp .eq 11, 3) := by decide +kernel
theorem dX0_stepBack_88 : decode cX0_stepBack 88 = .ok (.aload_n 0, 1) := by decide +kernel
theorem dX0_stepBack_89 : decode cX0_stepBack 89 = .ok (.getfield 9, 3) := by decide +kernel
theorem dX0_stepBack_92 : decode cX0_stepBack 92 = .ok (.iload 5, 2) := by decide +kernel
theorem dX0_stepBack_94 : decode cX0_stepBack 94 = .ok (.iload_n 3, 1) := by decide +kernel
theorem dX0_stepBack_95 : decode cX0_stepBack 95 = .ok (.bastore, 1) := by decide +kernel
theorem dX0_stepBack_96 : decode cX0_stepBack 96 = .ok (.iinc 5 1, 3) := by decide +kernel
theorem dX0_stepBack_99 : decode cX0_stepBack 99 = .ok (.goto (-73), 3) := by decide +kernel
theorem dX0_stepBack_102 : decode cX0_stepBack 102 = .ok (.return_, 1) := by decide +kernel
theorem dX0_mover_0 : decode cX0_mover 0 = .ok (.iload_n 0, 1) := by decide +kernel
theorem dX0_mover_1 : decode cX0_mover 1 = .ok (.iconst 1, 1) := by decide +kernel
theorem dX0_mover_2 : decode cX0_mover 2 = .ok (.iand, 1) := by decide +kernel
theorem dX0_mover_3 : decode cX0_mover 3 = .ok (.ifCond .ne 7, 3) := by decide +kernel
theorem dX0_mover_6 : decode cX0_mover 6 = .ok (.iconst 0, 1) := by decide +kernel
theorem dX0_mover_7 : decode cX0_mover 7 = .ok (.goto 4, 3) := by decide +kernel
theorem dX0_mover_10 : decode cX0_mover 10 = .ok (.iconst 1, 1) := by decide +kernel
theorem dX0_mover_11 : decode cX0_mover 11 = .ok (.ireturn, 1) := by decide +kernel
theorem dX0_sayableOn_0 : decode cX0_sayableOn 0 = .ok (.iconst 0, 1) := by decide +kernel
theorem dX0_sayableOn_1 : decode cX0_sayableOn 1 = .ok (.istore_n 2, 1) := by decide +kernel
theorem dX0_sayableOn_2 : decode cX0_sayableOn 2 = .ok (.iconst 0, 1) := by decide +kernel
theorem dX0_sayableOn_3 : decode cX0_sayableOn 3 = .ok (.istore_n 3, 1) := by decide +kernel
theorem dX0_sayableOn_4 : decode cX0_sayableOn 4 = .ok (.iload_n 3, 1) := by decide +kernel
theorem dX0_sayableOn_5 : decode cX0_sayableOn 5 = .ok (.aload_n 0, 1) := by decide +kernel
theorem dX0_sayableOn_6 : decode cX0_sayableOn 6 = .ok (.getfield 15, 3) := by decide +kernel
theorem dX0_sayableOn_9 : decode cX0_sayableOn 9 = .ok (.if_icmp .ge 37, 3) := by decide +kernel
theorem dX0_sayableOn_12 : decode cX0_sayableOn 12 = .ok (.aload_n 0, 1) := by decide +kernel
theorem dX0_sayableOn_13 : decode cX0_sayableOn 13 = .ok (.getfield 47, 3) := by decide +kernel
theorem dX0_sayableOn_16 : decode cX0_sayableOn 16 = .ok (.iload_n 3, 1) := by decide +kernel
theorem dX0_sayableOn_17 : decode cX0_sayableOn 17 = .ok (.iaload, 1) := by decide +kernel
theorem dX0_sayableOn_18 : decode cX0_sayableOn 18 = .ok (.iload_n 1, 1) := by decide +kernel
theorem dX0_sayableOn_19 : decode cX0_sayableOn 19 = .ok (.invokestatic 35, 3) := by decide +kernel
theorem dX0_sayableOn_22 : decode cX0_sayableOn 22 = .ok (.if_icmp .ne 18, 3) := by decide +kernel
theorem dX0_sayableOn_25 : decode cX0_sayableOn 25 = .ok (.aload_n 0, 1) := by decide +kernel
theorem dX0_sayableOn_26 : decode cX0_sayableOn 26 = .ok (.iload_n 3, 1) := by decide +kernel
theorem dX0_sayableOn_27 : decode cX0_sayableOn 27 = .ok (.iload_n 1, 1) := by decide +kernel
theorem dX0_sayableOn_28 : decode cX0_sayableOn 28 = .ok (.invokevirtual 51, 3) := by decide +kernel
theorem dX0_sayableOn_31 : decode cX0_sayableOn 31 = .ok (.ifCond .eq 9, 3) := by decide +kernel
theorem dX0_sayableOn_34 : decode cX0_sayableOn 34 = .ok (.iload_n 2, 1) := by decide +kernel
theorem dX0_sayableOn_35 : decode cX0_sayableOn 35 = .ok (.iconst 1, 1) := by decide +kernel
theorem dX0_sayableOn_36 : decode cX0_sayableOn 36 = .ok (.iload_n 3, 1) := by decide +kernel
theorem dX0_sayableOn_37 : decode cX0_sayableOn 37 = .ok (.ishl, 1) := by decide +kernel
theorem dX0_sayableOn_38 : decode cX0_sayableOn 38 = .ok (.ior, 1) := by decide +kernel
theorem dX0_sayableOn_39 : decode cX0_sayableOn 39 = .ok (.istore_n 2, 1) := by decide +kernel
theorem dX0_sayableOn_40 : decode cX0_sayableOn 40 = .ok (.iinc 3 1, 3) := by decide +kernel
theorem dX0_sayableOn_43 : decode cX0_sayableOn 43 = .ok (.goto (-39), 3) := by decide +kernel
theorem dX0_sayableOn_46 : decode cX0_sayableOn 46 = .ok (.iload_n 2, 1) := by decide +kernel
theorem dX0_sayableOn_47 : decode cX0_sayableOn 47 = .ok (.ireturn, 1) := by decide +kernel
theorem dX0_leastWinning_0 : decode cX0_leastWinning 0 = .ok (.iload_n 2, 1) := by decide +kernel
theorem dX0_leastWinning_1 : decode cX0_leastWinning 1 = .ok (.iload_n 1, 1) := by decide +kernel
theorem dX0_leastWinning_2 : decode cX0_leastWinning 2 = .ok (.iconst (-1), 1) := by decide +kernel
theorem dX0_leastWinning_3 : decode cX0_leastWinning 3 = .ok (.ixor, 1) := by decide +kernel
theorem dX0_leastWinning_4 : decode cX0_leastWinning 4 = .ok (.iand, 1) := by decide +kernel
theorem dX0_leastWinning_5 : decode cX0_leastWinning 5 = .ok (.istore 4, 2) := by decide +kernel
theorem dX0_leastWinning_7 : decode cX0_leastWinning 7 = .ok (.iconst 0, 1) := by decide +kernel
theorem dX0_leastWinning_8 : decode cX0_leastWinning 8 = .ok (.istore 5, 2) := by decide +kernel
theorem dX0_leastWinning_10 : decode cX0_leastWinning 10 = .ok (.iload 5, 2) := by decide +kernel
theorem dX0_leastWinning_12 : decode cX0_leastWinning 12 = .ok (.bipush 8, 2) := by decide +kernel
theorem dX0_leastWinning_14 : decode cX0_leastWinning 14 = .ok (.if_icmp .ge 37, 3) := by decide +kernel
theorem dX0_leastWinning_17 : decode cX0_leastWinning 17 = .ok (.iload 4, 2) := by decide +kernel
theorem dX0_leastWinning_19 : decode cX0_leastWinning 19 = .ok (.iload 5, 2) := by decide +kernel
theorem dX0_leastWinning_21 : decode cX0_leastWinning 21 = .ok (.ishr, 1) := by decide +kernel
theorem dX0_leastWinning_22 : decode cX0_leastWinning 22 = .ok (.iconst 1, 1) := by decide +kernel
theorem dX0_leastWinning_23 : decode cX0_leastWinning 23 = .ok (.iand, 1) := by decide +kernel
theorem dX0_leastWinning_24 : decode cX0_leastWinning 24 = .ok (.iconst 1, 1) := by decide +kernel
theorem dX0_leastWinning_25 : decode cX0_leastWinning 25 = .ok (.if_icmp .ne 20, 3) := by decide +kernel
theorem dX0_leastWinning_28 : decode cX0_leastWinning 28 = .ok (.aload_n 0, 1) := by decide +kernel
theorem dX0_leastWinning_29 : decode cX0_leastWinning 29 = .ok (.iload_n 1, 1) := by decide +kernel
theorem dX0_leastWinning_30 : decode cX0_leastWinning 30 = .ok (.iconst 1, 1) := by decide +kernel
theorem dX0_leastWinning_31 : decode cX0_leastWinning 31 = .ok (.iload 5, 2) := by decide +kernel
theorem dX0_leastWinning_33 : decode cX0_leastWinning 33 = .ok (.ishl, 1) := by decide +kernel
theorem dX0_leastWinning_34 : decode cX0_leastWinning 34 = .ok (.ior, 1) := by decide +kernel
theorem dX0_leastWinning_35 : decode cX0_leastWinning 35 = .ok (.invokevirtual 32, 3) := by decide +kernel
theorem dX0_leastWinning_38 : decode cX0_leastWinning 38 = .ok (.iload_n 3, 1) := by decide +kernel
theorem dX0_leastWinning_39 : decode cX0_leastWinning 39 = .ok (.if_icmp .ne 6, 3) := by decide +kernel
theorem dX0_leastWinning_42 : decode cX0_leastWinning 42 = .ok (.iload 5, 2) := by decide +kernel
theorem dX0_leastWinning_44 : decode cX0_leastWinning 44 = .ok (.ireturn, 1) := by decide +kernel
theorem dX0_leastWinning_45 : decode cX0_leastWinning 45 = .ok (.iinc 5 1, 3) := by decide +kernel
theorem dX0_leastWinning_48 : decode cX0_leastWinning 48 = .ok (.goto (-38), 3) := by decide +kernel
theorem dX0_leastWinning_51 : decode cX0_leastWinning 51 = .ok (.bipush (-4), 2) := by decide +kernel
theorem dX0_leastWinning_53 : decode cX0_leastWinning 53 = .ok (.ireturn, 1) := by decide +kernel
theorem dX0_bestSaying_0 : decode cX0_bestSaying 0 = .ok (.aload_n 1, 1) := by decide +kernel
theorem dX0_bestSaying_1 : decode cX0_bestSaying 1 = .ok (.getfield 55, 3) := by decide +kernel
theorem dX0_bestSaying_4 : decode cX0_bestSaying 4 = .ok (.invokestatic 35, 3) := by decide +kernel
theorem dX0_bestSaying_7 : decode cX0_bestSaying 7 = .ok (.ifCond .ne 7, 3) := by decide +kernel
theorem dX0_bestSaying_10 : decode cX0_bestSaying 10 = .ok (.iconst 1, 1) := by decide +kernel
theorem dX0_bestSaying_11 : decode cX0_bestSaying 11 = .ok (.goto 4, 3) := by decide +kernel
theorem dX0_bestSaying_14 : decode cX0_bestSaying 14 = .ok (.iconst 0, 1) := by decide +kernel
theorem dX0_bestSaying_15 : decode cX0_bestSaying 15 = .ok (.istore_n 2, 1) := by decide +kernel
theorem dX0_bestSaying_16 : decode cX0_bestSaying 16 = .ok (.aload_n 0, 1) := by decide +kernel
theorem dX0_bestSaying_17 : decode cX0_bestSaying 17 = .ok (.aload_n 1, 1) := by decide +kernel
theorem dX0_bestSaying_18 : decode cX0_bestSaying 18 = .ok (.getfield 21, 3) := by decide +kernel
theorem dX0_bestSaying_21 : decode cX0_bestSaying 21 = .ok (.invokevirtual 32, 3) := by decide +kernel
theorem dX0_bestSaying_24 : decode cX0_bestSaying 24 = .ok (.iload_n 2, 1) := by decide +kernel
theorem dX0_bestSaying_25 : decode cX0_bestSaying 25 = .ok (.if_icmp .ne 6, 3) := by decide +kernel
theorem dX0_bestSaying_28 : decode cX0_bestSaying 28 = .ok (.bipush (-4), 2) := by decide +kernel
theorem dX0_bestSaying_30 : decode cX0_bestSaying 30 = .ok (.ireturn, 1) := by decide +kernel
theorem dX0_bestSaying_31 : decode cX0_bestSaying 31 = .ok (.aload_n 0, 1) := by decide +kernel
theorem dX0_bestSaying_32 : decode cX0_bestSaying 32 = .ok (.aload_n 1, 1) := by decide +kernel
theorem dX0_bestSaying_33 : decode cX0_bestSaying 33 = .ok (.getfield 21, 3) := by decide +kernel
theorem dX0_bestSaying_36 : decode cX0_bestSaying 36 = .ok (.aload_n 1, 1) := by decide +kernel
theorem dX0_bestSaying_37 : decode cX0_bestSaying 37 = .ok (.aload_n 1, 1) := by decide +kernel
theorem dX0_bestSaying_38 : decode cX0_bestSaying 38 = .ok (.getfield 55, 3) := by decide +kernel
theorem dX0_bestSaying_41 : decode cX0_bestSaying 41 = .ok (.invokestatic 39, 3) := by decide +kernel
theorem dX0_bestSaying_44 : decode cX0_bestSaying 44 = .ok (.iload_n 2, 1) := by decide +kernel
theorem dX0_bestSaying_45 : decode cX0_bestSaying 45 = .ok (.invokevirtual 43, 3) := by decide +kernel
theorem dX0_bestSaying_48 : decode cX0_bestSaying 48 = .ok (.ireturn, 1) := by decide +kernel
theorem dX1_init_0 : decode cX1_init 0 = .ok (.aload_n 0, 1) := by decide +kernel
theorem dX1_init_1 : decode cX1_init 1 = .ok (.invokespecial 3, 3) := by decide +kernel
theorem dX1_init_4 : decode cX1_init 4 = .ok (.aload_n 0, 1) := by decide +kernel
theorem dX1_init_5 : decode cX1_init 5 = .ok (.bipush 6, 2) := by decide +kernel
theorem dX1_init_7 : decode cX1_init 7 = .ok (.newarray .int, 2) := by decide +kernel
theorem dX1_init_9 : decode cX1_init 9 = .ok (.putfield 9, 3) := by decide +kernel
theorem dX1_init_12 : decode cX1_init 12 = .ok (.aload_n 0, 1) := by decide +kernel
theorem dX1_init_13 : decode cX1_init 13 = .ok (.bipush 6, 2) := by decide +kernel
theorem dX1_init_15 : decode cX1_init 15 = .ok (.newarray .boolean, 2) := by decide +kernel
theorem dX1_init_17 : decode cX1_init 17 = .ok (.putfield 15, 3) := by decide +kernel
theorem dX1_init_20 : decode cX1_init 20 = .ok (.return_, 1) := by decide +kernel
theorem dX1_search_0 : decode cX1_search 0 = .ok (.aload_n 0, 1) := by decide +kernel
theorem dX1_search_1 : decode cX1_search 1 = .ok (.iconst 0, 1) := by decide +kernel
theorem dX1_search_2 : decode cX1_search 2 = .ok (.putfield 19, 3) := by decide +kernel
theorem dX1_search_5 : decode cX1_search 5 = .ok (.aload_n 0, 1) := by decide +kernel
theorem dX1_search_6 : decode cX1_search 6 = .ok (.iconst 0, 1) := by decide +kernel
theorem dX1_search_7 : decode cX1_search 7 = .ok (.putfield 23, 3) := by decide +kernel
theorem dX1_search_10 : decode cX1_search 10 = .ok (.aload_n 0, 1) := by decide +kernel
theorem dX1_search_11 : decode cX1_search 11 = .ok (.iconst 0, 1) := by decide +kernel
theorem dX1_search_12 : decode cX1_search 12 = .ok (.putfield 26, 3) := by decide +kernel
theorem dX1_search_15 : decode cX1_search 15 = .ok (.aload_n 0, 1) := by decide +kernel
theorem dX1_search_16 : decode cX1_search 16 = .ok (.iconst 0, 1) := by decide +kernel
theorem dX1_search_17 : decode cX1_search 17 = .ok (.putfield 29, 3) := by decide +kernel
theorem dX1_search_20 : decode cX1_search 20 = .ok (.aload_n 1, 1) := by decide +kernel
theorem dX1_search_21 : decode cX1_search 21 = .ok (.aload_n 1, 1) := by decide +kernel
theorem dX1_search_22 : decode cX1_search 22 = .ok (.getfield 32, 3) := by decide +kernel
theorem dX1_search_25 : decode cX1_search 25 = .ok (.invokevirtual 37, 3) := by decide +kernel
theorem dX1_search_28 : decode cX1_search 28 = .ok (.ifCond .eq 32, 3) := by decide +kernel
theorem dX1_search_31 : decode cX1_search 31 = .ok (.aload_n 0, 1) := by decide +kernel
theorem dX1_search_32 : decode cX1_search 32 = .ok (.iconst 1, 1) := by decide +kernel
theorem dX1_search_33 : decode cX1_search 33 = .ok (.aload_n 1, 1) := by decide +kernel
theorem dX1_search_34 : decode cX1_search 34 = .ok (.getfield 32, 3) := by decide +kernel
theorem dX1_search_37 : decode cX1_search 37 = .ok (.ishl, 1) := by decide +kernel
theorem dX1_search_38 : decode cX1_search 38 = .ok (.iconst 1, 1) := by decide +kernel
theorem dX1_search_39 : decode cX1_search 39 = .ok (.isub, 1) := by decide +kernel
theorem dX1_search_40 : decode cX1_search 40 = .ok (.aload_n 1, 1) := by decide +kernel
theorem dX1_search_41 : decode cX1_search 41 = .ok (.getfield 41, 3) := by decide +kernel
theorem dX1_search_44 : decode cX1_search 44 = .ok (.aload_n 1, 1) := by decide +kernel
theorem dX1_search_45 : decode cX1_search 45 = .ok (.getfield 32, 3) := by decide +kernel
theorem dX1_search_48 : decode cX1_search 48 = .ok (.iaload, 1) := by decide +kernel
theorem dX1_search_49 : decode cX1_search 49 = .ok (.iconst (-1), 1) := by decide +kernel
theorem dX1_search_50 : decode cX1_search 50 = .ok (.ixor, 1) := by decide +kernel
theorem dX1_search_51 : decode cX1_search 51 = .ok (.iand, 1) := by decide +kernel
theorem dX1_search_52 : decode cX1_search 52 = .ok (.putfield 26, 3) := by decide +kernel
theorem dX1_search_55 : decode cX1_search 55 = .ok (.aload_n 0, 1) := by decide +kernel
theorem dX1_search_56 : decode cX1_search 56 = .ok (.aload_n 1, 1) := by decide +kernel
theorem dX1_search_57 : decode cX1_search 57 = .ok (.invokevirtual 44, 3) := by decide +kernel
theorem dX1_search_60 : decode cX1_search 60 = .ok (.aload_n 0, 1) := by decide +kernel
theorem dX1_search_61 : decode cX1_search 61 = .ok (.aload_n 0, 1) := by decide +kernel
theorem dX1_search_62 : decode cX1_search 62 = .ok (.getfield 26, 3) := by decide +kernel
theorem dX1_search_65 : decode cX1_search 65 = .ok (.putfield 48, 3) := by decide +kernel
theorem dX1_search_68 : decode cX1_search 68 = .ok (.iconst 0, 1) := by decide +kernel
theorem dX1_search_69 : decode cX1_search 69 = .ok (.istore_n 2, 1) := by decide +kernel
theorem dX1_search_70 : decode cX1_search 70 = .ok (.iload_n 2, 1) := by decide +kernel
theorem dX1_search_71 : decode cX1_search 71 = .ok (.aload_n 0, 1) := by decide +kernel
theorem dX1_search_72 : decode cX1_search 72 = .ok (.getfield 26, 3) := by decide +kernel
theorem dX1_search_75 : decode cX1_search 75 = .ok (.if_icmp .gt 78, 3) := by decide +kernel
theorem dX1_search_78 : decode cX1_search 78 = .ok (.iload_n 2, 1) := by decide +kernel
theorem dX1_search_79 : decode cX1_search 79 = .ok (.aload_n 0, 1) := by decide +kernel
theorem dX1_search_80 : decode cX1_search 80 = .ok (.getfield 26, 3) := by decide +kernel
theorem dX1_search_83 : decode cX1_search 83 = .ok (.iconst (-1), 1) := by decide +kernel
theorem dX1_search_84 : decode cX1_search 84 = .ok (.ixor, 1) := by decide +kernel
theorem dX1_search_85 : decode cX1_search 85 = .ok (.iand, 1) := by decide +kernel
theorem dX1_search_86 : decode cX1_search 86 = .ok (.ifCond .ne 61, 3) := by decide +kernel
theorem dX1_search_89 : decode cX1_search 89 = .ok (.aload_n 0, 1) := by decide +kernel
theorem dX1_search_90 : decode cX1_search 90 = .ok (.aload_n 1, 1) := by decide +kernel
theorem dX1_search_91 : decode cX1_search 91 = .ok (.iload_n 2, 1) := by decide +kernel
theorem dX1_search_92 : decode cX1_search 92 = .ok (.invokevirtual 51, 3) := by decide +kernel
theorem dX1_search_95 : decode cX1_search 95 = .ok (.ifCond .eq 52, 3) := by decide +kernel
theorem dX1_search_98 : decode cX1_search 98 = .ok (.aload_n 0, 1) := by decide +kernel
theorem dX1_search_99 : decode cX1_search 99 = .ok (.aload_n 0, 1) := by decide +kernel
theorem dX1_search_100 : decode cX1_search 100 = .ok (.getfield 19, 3) := by decide +kernel
theorem dX1_search_103 : decode cX1_search 103 = .ok (.ifCond .ne 7, 3) := by decide +kernel
theorem dX1_search_106 : decode cX1_search 106 = .ok (.iload_n 2, 1) := by decide +kernel
theorem dX1_search_107 : decode cX1_search 107 = .ok (.goto 7, 3) := by decide +kernel
theorem dX1_search_110 : decode cX1_search 110 = .ok (.aload_n 0, 1) := by decide +kernel
theorem dX1_search_111 : decode cX1_search 111 = .ok (.getfield 23, 3) := by decide +kernel
theorem dX1_search_114 : decode cX1_search 114 = .ok (.putfield 23, 3) := by decide +kernel
theorem dX1_search_117 : decode cX1_search 117 = .ok (.aload_n 0, 1) := by decide +kernel
theorem dX1_search_118 : decode cX1_search 118 = .ok (.dup, 1) := by decide +kernel
theorem dX1_search_119 : decode cX1_search 119 = .ok (.getfield 19, 3) := by decide +kernel
theorem dX1_search_122 : decode cX1_search 122 = .ok (.iconst 1, 1) := by decide +kernel
theorem dX1_search_123 : decode cX1_search 123 = .ok (.iadd, 1) := by decide +kernel
theorem dX1_search_124 : decode cX1_search 124 = .ok (.putfield 19, 3) := by decide +kernel
theorem dX1_search_127 : decode cX1_search 127 = .ok (.aload_n 0, 1) := by decide +kernel
theorem dX1_search_128 : decode cX1_search 128 = .ok (.dup, 1) := by decide +kernel
theorem dX1_search_129 : decode cX1_search 129 = .ok (.getfield 48, 3) := by decide +kernel
theorem dX1_search_132 : decode cX1_search 132 = .ok (.iload_n 2, 1) := by decide +kernel
theorem dX1_search_133 : decode cX1_search 133 = .ok (.iand, 1) := by decide +kernel
theorem dX1_search_134 : decode cX1_search 134 = .ok (.putfield 48, 3) := by decide +kernel
theorem dX1_search_137 : decode cX1_search 137 = .ok (.aload_n 0, 1) := by decide +kernel
theorem dX1_search_138 : decode cX1_search 138 = .ok (.dup, 1) := by decide +kernel
theorem dX1_search_139 : decode cX1_search 139 = .ok (.getfield 29, 3) := by decide +kernel
theorem dX1_search_142 : decode cX1_search 142 = .ok (.iload_n 2, 1) := by decide +kernel
theorem dX1_search_143 : decode cX1_search 143 = .ok (.ior, 1) := by decide +kernel
theorem dX1_search_144 : decode cX1_search 144 = .ok (.putfield 29, 3) := by decide +kernel
theorem dX1_search_147 : decode cX1_search 147 = .ok (.iinc 2 1, 3) := by decide +kernel
theorem dX1_search_150 : decode cX1_search 150 = .ok (.goto (-80), 3) := by decide +kernel
theorem dX1_search_153 : decode cX1_search 153 = .ok (.return_, 1) := by decide +kernel
theorem dX1_prepare_0 : decode cX1_prepare 0 = .ok (.aload_n 1, 1) := by decide +kernel
theorem dX1_prepare_1 : decode cX1_prepare 1 = .ok (.getfield 41, 3) := by decide +kernel
theorem dX1_prepare_4 : decode cX1_prepare 4 = .ok (.aload_n 1, 1) := by decide +kernel
theorem dX1_prepare_5 : decode cX1_prepare 5 = .ok (.getfield 32, 3) := by decide +kernel
theorem dX1_prepare_8 : decode cX1_prepare 8 = .ok (.iaload, 1) := by decide +kernel
theorem dX1_prepare_9 : decode cX1_prepare 9 = .ok (.istore_n 2, 1) := by decide +kernel
theorem dX1_prepare_10 : decode cX1_prepare 10 = .ok (.iconst 0, 1) := by decide +kernel
theorem dX1_prepare_11 : decode cX1_prepare 11 = .ok (.istore_n 3, 1) := by decide +kernel
theorem dX1_prepare_12 : decode cX1_prepare 12 = .ok (.iload_n 3, 1) := by decide +kernel
theorem dX1_prepare_13 : decode cX1_prepare 13 = .ok (.aload_n 1, 1) := by decide +kernel
theorem dX1_prepare_14 : decode cX1_prepare 14 = .ok (.getfield 55, 3) := by decide +kernel
theorem dX1_prepare_17 : decode cX1_prepare 17 = .ok (.if_icmp .ge 66, 3) := by decide +kernel
theorem dX1_prepare_20 : decode cX1_prepare 20 = .ok (.aload_n 0, 1) := by decide +kernel
theorem dX1_prepare_21 : decode cX1_prepare 21 = .ok (.getfield 9, 3) := by decide +kernel
theorem dX1_prepare_24 : decode cX1_prepare 24 = .ok (.iload_n 3, 1) := by decide +kernel
theorem dX1_prepare_25 : decode cX1_prepare 25 = .ok (.aload_n 1, 1) := by decide +kernel
theorem dX1_prepare_26 : decode cX1_prepare 26 = .ok (.aload_n 1, 1) := by decide +kernel
theorem dX1_prepare_27 : decode cX1_prepare 27 = .ok (.getfield 58, 3) := by decide +kernel
theorem dX1_prepare_30 : decode cX1_prepare 30 = .ok (.iload_n 3, 1) := by decide +kernel
theorem dX1_prepare_31 : decode cX1_prepare 31 = .ok (.iaload, 1) := by decide +kernel
theorem dX1_prepare_32 : decode cX1_prepare 32 = .ok (.invokevirtual 61, 3) := by decide +kernel
theorem dX1_prepare_35 : decode cX1_prepare 35 = .ok (.iastore, 1) := by decide +kernel
theorem dX1_prepare_36 : decode cX1_prepare 36 = .ok (.aload_n 0, 1) := by decide +kernel
theorem dX1_prepare_37 : decode cX1_prepare 37 = .ok (.getfield 15, 3) := by decide +kernel
theorem dX1_prepare_40 : decode cX1_prepare 40 = .ok (.iload_n 3, 1) := by decide +kernel
theorem dX1_prepare_41 : decode cX1_prepare 41 = .ok (.aload_n 1, 1) := by decide +kernel
theorem dX1_prepare_42 : decode cX1_prepare 42 = .ok (.getfield 58, 3) := by decide +kernel
theorem dX1_prepare_45 : decode cX1_prepare 45 = .ok (.iload_n 3, 1) := by decide +kernel
theorem dX1_prepare_46 : decode cX1_prepare 46 = .ok (.iaload, 1) := by decide +kernel
theorem dX1_prepare_47 : decode cX1_prepare 47 = .ok (.aload_n 1, 1) := by decide +kernel
theorem dX1_prepare_48 : decode cX1_prepare 48 = .ok (.getfield 32, 3) := by decide +kernel
theorem dX1_prepare_51 : decode cX1_prepare 51 = .ok (.ishr, 1) := by decide +kernel
theorem dX1_prepare_52 : decode cX1_prepare 52 = .ok (.iconst 1, 1) := by decide +kernel
theorem dX1_prepare_53 : decode cX1_prepare 53 = .ok (.iand, 1) := by decide +kernel
theorem dX1_prepare_54 : decode cX1_prepare 54 = .ok (.iconst 1, 1) := by decide +kernel
theorem dX1_prepare_55 : decode cX1_prepare 55 = .ok (.if_icmp .ne 20, 3) := by decide +kernel
theorem dX1_prepare_58 : decode cX1_prepare 58 = .ok (.iload_n 2, 1) := by decide +kernel
theorem dX1_prepare_59 : decode cX1_prepare 59 = .ok (.aload_n 0, 1) := by decide +kernel
theorem dX1_prepare_60 : decode cX1_prepare 60 = .ok (.getfield 9, 3) := by decide +kernel
theorem dX1_prepare_63 : decode cX1_prepare 63 = .ok (.iload_n 3, 1) := by decide +kernel
theorem dX1_prepare_64 : decode cX1_prepare 64 = .ok (.iaload, 1) := by decide +kernel
theorem dX1_prepare_65 : decode cX1_prepare 65 = .ok (.iconst (-1), 1) := by decide +kernel
theorem dX1_prepare_66 : decode cX1_prepare 66 = .ok (.ixor, 1) := by decide +kernel
theorem dX1_prepare_67 : decode cX1_prepare 67 = .ok (.iand, 1) := by decide +kernel
theorem dX1_prepare_68 : decode cX1_prepare 68 = .ok (.ifCond .ne 7, 3) := by decide +kernel
theorem dX1_prepare_71 : decode cX1_prepare 71 = .ok (.iconst 1, 1) := by decide +kernel
theorem dX1_prepare_72 : decode cX1_prepare 72 = .ok (.goto 4, 3) := by decide +kernel
theorem dX1_prepare_75 : decode cX1_prepare 75 = .ok (.iconst 0, 1) := by decide +kernel
theorem dX1_prepare_76 : decode cX1_prepare 76 = .ok (.bastore, 1) := by decide +kernel
theorem dX1_prepare_77 : decode cX1_prepare 77 = .ok (.iinc 3 1, 3) := by decide +kernel
theorem dX1_prepare_80 : decode cX1_prepare 80 = .ok (.goto (-68), 3) := by decide +kernel
theorem dX1_prepare_83 : decode cX1_prepare 83 = .ok (.return_, 1) := by decide +kernel
theorem dX1_agrees_0 : decode cX1_agrees 0 = .ok (.iconst 0, 1) := by decide +kernel
theorem dX1_agrees_1 : decode cX1_agrees 1 = .ok (.istore_n 3, 1) := by decide +kernel
theorem dX1_agrees_2 : decode cX1_agrees 2 = .ok (.iload_n 3, 1) := by decide +kernel
theorem dX1_agrees_3 : decode cX1_agrees 3 = .ok (.aload_n 1, 1) := by decide +kernel
theorem dX1_agrees_4 : decode cX1_agrees 4 = .ok (.getfield 55, 3) := by decide +kernel
theorem dX1_agrees_7 : decode cX1_agrees 7 = .ok (.if_icmp .ge 60, 3) := by decide +kernel
theorem dX1_agrees_10 : decode cX1_agrees 10 = .ok (.aload_n 0, 1) := by decide +kernel
theorem dX1_agrees_11 : decode cX1_agrees 11 = .ok (.getfield 15, 3) := by decide +kernel
theorem dX1_agrees_14 : decode cX1_agrees 14 = .ok (.iload_n 3, 1) := by decide +kernel
theorem dX1_agrees_15 : decode cX1_agrees 15 = .ok (.baload, 1) := by decide +kernel
theorem dX1_agrees_16 : decode cX1_agrees 16 = .ok (.ifCond .eq 18, 3) := by decide +kernel
theorem dX1_agrees_19 : decode cX1_agrees 19 = .ok (.aload_n 0, 1) := by decide +kernel
theorem dX1_agrees_20 : decode cX1_agrees 20 = .ok (.getfield 9, 3) := by decide +kernel
theorem dX1_agrees_23 : decode cX1_agrees 23 = .ok (.iload_n 3, 1) := by decide +kernel
theorem dX1_agrees_24 : decode cX1_agrees 24 = .ok (.iaload, 1) := by decide +kernel
theorem dX1_agrees_25 : decode cX1_agrees 25 = .ok (.iload_n 2, 1) := by decide +kernel
theorem dX1_agrees_26 : decode cX1_agrees 26 = .ok (.iand, 1) := by decide +kernel
theorem dX1_agrees_27 : decode cX1_agrees 27 = .ok (.ifCond .ne 7, 3) := by decide +kernel
theorem dX1_agrees_30 : decode cX1_agrees 30 = .ok (.iconst 1, 1) := by decide +kernel
theorem dX1_agrees_31 : decode cX1_agrees 31 = .ok (.goto 4, 3) := by decide +kernel
theorem dX1_agrees_34 : decode cX1_agrees 34 = .ok (.iconst 0, 1) := by decide +kernel
theorem dX1_agrees_35 : decode cX1_agrees 35 = .ok (.istore 4, 2) := by decide +kernel
theorem dX1_agrees_37 : decode cX1_agrees 37 = .ok (.iload 4, 2) := by decide +kernel
theorem dX1_agrees_39 : decode cX1_agrees 39 = .ok (.aload_n 1, 1) := by decide +kernel
theorem dX1_agrees_40 : decode cX1_agrees 40 = .ok (.getfield 64, 3) := by decide +kernel
theorem dX1_agrees_43 : decode cX1_agrees 43 = .ok (.iload_n 3, 1) := by decide +kernel
theorem dX1_agrees_44 : decode cX1_agrees 44 = .ok (.ishr, 1) := by decide +kernel
theorem dX1_agrees_45 : decode cX1_agrees 45 = .ok (.iconst 1, 1) := by decide +kernel
theorem dX1_agrees_46 : decode cX1_agrees 46 = .ok (.iand, 1) := by decide +kernel
theorem dX1_agrees_47 : decode cX1_agrees 47 = .ok (.iconst 1, 1) := by decide +kernel
theorem dX1_agrees_48 : decode cX1_agrees 48 = .ok (.if_icmp .ne 7, 3) := by decide +kernel
theorem dX1_agrees_51 : decode cX1_agrees 51 = .ok (.iconst 1, 1) := by decide +kernel
theorem dX1_agrees_52 : decode cX1_agrees 52 = .ok (.goto 4, 3) := by decide +kernel
theorem dX1_agrees_55 : decode cX1_agrees 55 = .ok (.iconst 0, 1) := by decide +kernel
theorem dX1_agrees_56 : decode cX1_agrees 56 = .ok (.if_icmp .eq 5, 3) := by decide +kernel
theorem dX1_agrees_59 : decode cX1_agrees 59 = .ok (.iconst 0, 1) := by decide +kernel
theorem dX1_agrees_60 : decode cX1_agrees 60 = .ok (.ireturn, 1) := by decide +kernel
theorem dX1_agrees_61 : decode cX1_agrees 61 = .ok (.iinc 3 1, 3) := by decide +kernel
theorem dX1_agrees_64 : decode cX1_agrees 64 = .ok (.goto (-62), 3) := by decide +kernel
theorem dX1_agrees_67 : decode cX1_agrees 67 = .ok (.iconst 1, 1) := by decide +kernel
theorem dX1_agrees_68 : decode cX1_agrees 68 = .ok (.ireturn, 1) := by decide +kernel
theorem dX2_init_0 : decode cX2_init 0 = .ok (.aload_n 0, 1) := by decide +kernel
theorem dX2_init_1 : decode cX2_init 1 = .ok (.invokespecial 3, 3) := by decide +kernel
theorem dX2_init_4 : decode cX2_init 4 = .ok (.aload_n 0, 1) := by decide +kernel
theorem dX2_init_5 : decode cX2_init 5 = .ok (.bipush 40, 2) := by decide +kernel
theorem dX2_init_7 : decode cX2_init 7 = .ok (.newarray .int, 2) := by decide +kernel
theorem dX2_init_9 : decode cX2_init 9 = .ok (.putfield 9, 3) := by decide +kernel
theorem dX2_init_12 : decode cX2_init 12 = .ok (.aload_n 0, 1) := by decide +kernel
theorem dX2_init_13 : decode cX2_init 13 = .ok (.iconst (-1), 1) := by decide +kernel
theorem dX2_init_14 : decode cX2_init 14 = .ok (.putfield 15, 3) := by decide +kernel
theorem dX2_init_17 : decode cX2_init 17 = .ok (.return_, 1) := by decide +kernel
theorem dX2_blank_0 : decode cX2_blank 0 = .ok (.aload_n 0, 1) := by decide +kernel
theorem dX2_blank_1 : decode cX2_blank 1 = .ok (.getfield 15, 3) := by decide +kernel
theorem dX2_blank_4 : decode cX2_blank 4 = .ok (.iconst (-1), 1) := by decide +kernel
theorem dX2_blank_5 : decode cX2_blank 5 = .ok (.if_icmp .ne 7, 3) := by decide +kernel
theorem dX2_blank_8 : decode cX2_blank 8 = .ok (.iconst 1, 1) := by decide +kernel
theorem dX2_blank_9 : decode cX2_blank 9 = .ok (.goto 4, 3) := by decide +kernel
theorem dX2_blank_12 : decode cX2_blank 12 = .ok (.iconst 0, 1) := by decide +kernel
theorem dX2_blank_13 : decode cX2_blank 13 = .ok (.ireturn, 1) := by decide +kernel
theorem dX2_renew_0 : decode cX2_renew 0 = .ok (.aload_n 0, 1) := by decide +kernel
theorem dX2_renew_1 : decode cX2_renew 1 = .ok (.iload_n 1, 1) := by decide +kernel
theorem dX2_renew_2 : decode cX2_renew 2 = .ok (.putfield 19, 3) := by decide +kernel
theorem dX2_renew_5 : decode cX2_renew 5 = .ok (.aload_n 0, 1) := by decide +kernel
theorem dX2_renew_6 : decode cX2_renew 6 = .ok (.iload_n 2, 1) := by decide +kernel
theorem dX2_renew_7 : decode cX2_renew 7 = .ok (.putfield 15, 3) := by decide +kernel
theorem dX2_renew_10 : decode cX2_renew 10 = .ok (.iconst 0, 1) := by decide +kernel
theorem dX2_renew_11 : decode cX2_renew 11 = .ok (.istore_n 3, 1) := by decide +kernel
theorem dX2_renew_12 : decode cX2_renew 12 = .ok (.iload_n 3, 1) := by decide +kernel
theorem dX2_renew_13 : decode cX2_renew 13 = .ok (.bipush 40, 2) := by decide +kernel
theorem dX2_renew_15 : decode cX2_renew 15 = .ok (.if_icmp .ge 16, 3) := by decide +kernel
theorem dX2_renew_18 : decode cX2_renew 18 = .ok (.aload_n 0, 1) := by decide +kernel
theorem dX2_renew_19 : decode cX2_renew 19 = .ok (.getfield 9, 3) := by decide +kernel
theorem dX2_renew_22 : decode cX2_renew 22 = .ok (.iload_n 3, 1) := by decide +kernel
theorem dX2_renew_23 : decode cX2_renew 23 = .ok (.iconst 0, 1) := by decide +kernel
theorem dX2_renew_24 : decode cX2_renew 24 = .ok (.iastore, 1) := by decide +kernel
theorem dX2_renew_25 : decode cX2_renew 25 = .ok (.iinc 3 1, 3) := by decide +kernel
theorem dX2_renew_28 : decode cX2_renew 28 = .ok (.goto (-16), 3) := by decide +kernel
theorem dX2_renew_31 : decode cX2_renew 31 = .ok (.return_, 1) := by decide +kernel
theorem dX2_faultOf_0 : decode cX2_faultOf 0 = .ok (.aload_n 0, 1) := by decide +kernel
theorem dX2_faultOf_1 : decode cX2_faultOf 1 = .ok (.invokevirtual 22, 3) := by decide +kernel
theorem dX2_faultOf_4 : decode cX2_faultOf 4 = .ok (.ifCond .eq 5, 3) := by decide +kernel
theorem dX2_faultOf_7 : decode cX2_faultOf 7 = .ok (.iconst 1, 1) := by decide +kernel
theorem dX2_faultOf_8 : decode cX2_faultOf 8 = .ok (.ireturn, 1) := by decide +kernel
theorem dX2_faultOf_9 : decode cX2_faultOf 9 = .ok (.iload_n 1, 1) := by decide +kernel
theorem dX2_faultOf_10 : decode cX2_faultOf 10 = .ok (.aload_n 0, 1) := by decide +kernel
theorem dX2_faultOf_11 : decode cX2_faultOf 11 = .ok (.getfield 19, 3) := by decide +kernel
theorem dX2_faultOf_14 : decode cX2_faultOf 14 = .ok (.if_icmp .eq 5, 3) := by decide +kernel
theorem dX2_faultOf_17 : decode cX2_faultOf 17 = .ok (.iconst 3, 1) := by decide +kernel
theorem dX2_faultOf_18 : decode cX2_faultOf 18 = .ok (.ireturn, 1) := by decide +kernel
theorem dX2_faultOf_19 : decode cX2_faultOf 19 = .ok (.iload_n 2, 1) := by decide +kernel
theorem dX2_faultOf_20 : decode cX2_faultOf 20 = .ok (.iconst 0, 1) := by decide +kernel
theorem dX2_faultOf_21 : decode cX2_faultOf 21 = .ok (.aload_n 0, 1) := by decide +kernel
theorem dX2_faultOf_22 : decode cX2_faultOf 22 = .ok (.getfield 15, 3) := by decide +kernel
theorem dX2_faultOf_25 : decode cX2_faultOf 25 = .ok (.iconst 1, 1) := by decide +kernel
theorem dX2_faultOf_26 : decode cX2_faultOf 26 = .ok (.isub, 1) := by decide +kernel
theorem dX2_faultOf_27 : decode cX2_faultOf 27 = .ok (.invokestatic 26, 3) := by decide +kernel
theorem dX2_faultOf_30 : decode cX2_faultOf 30 = .ok (.ifCond .eq 7, 3) := by decide +kernel
theorem dX2_faultOf_33 : decode cX2_faultOf 33 = .ok (.iconst 0, 1) := by decide +kernel
theorem dX2_faultOf_34 : decode cX2_faultOf 34 = .ok (.goto 4, 3) := by decide +kernel
theorem dX2_faultOf_37 : decode cX2_faultOf 37 = .ok (.iconst 2, 1) := by decide +kernel
theorem dX2_faultOf_38 : decode cX2_faultOf 38 = .ok (.ireturn, 1) := by decide +kernel
theorem dX2_put_0 : decode cX2_put 0 = .ok (.aload_n 0, 1) := by decide +kernel
theorem dX2_put_1 : decode cX2_put 1 = .ok (.getfield 19, 3) := by decide +kernel
theorem dX2_put_4 : decode cX2_put 4 = .ok (.lookupswitch 50 #[(0, 28), (1, 39)], 28) := by decide +kernel
theorem dX2_put_32 : decode cX2_put 32 = .ok (.aload_n 0, 1) := by decide +kernel
theorem dX2_put_33 : decode cX2_put 33 = .ok (.getfield 9, 3) := by decide +kernel
theorem dX2_put_36 : decode cX2_put 36 = .ok (.iload_n 1, 1) := by decide +kernel
theorem dX2_put_37 : decode cX2_put 37 = .ok (.iload_n 2, 1) := by decide +kernel
theorem dX2_put_38 : decode cX2_put 38 = .ok (.i2b, 1) := by decide +kernel
theorem dX2_put_39 : decode cX2_put 39 = .ok (.iastore, 1) := by decide +kernel
theorem dX2_put_40 : decode cX2_put 40 = .ok (.goto 21, 3) := by decide +kernel
theorem dX2_put_43 : decode cX2_put 43 = .ok (.aload_n 0, 1) := by decide +kernel
theorem dX2_put_44 : decode cX2_put 44 = .ok (.getfield 9, 3) := by decide +kernel
theorem dX2_put_47 : decode cX2_put 47 = .ok (.iload_n 1, 1) := by decide +kernel
theorem dX2_put_48 : decode cX2_put 48 = .ok (.iload_n 2, 1) := by decide +kernel
theorem dX2_put_49 : decode cX2_put 49 = .ok (.i2s, 1) := by decide +kernel
theorem dX2_put_50 : decode cX2_put 50 = .ok (.iastore, 1) := by decide +kernel
theorem dX2_put_51 : decode cX2_put 51 = .ok (.goto 10, 3) := by decide +kernel
theorem dX2_put_54 : decode cX2_put 54 = .ok (.aload_n 0, 1) := by decide +kernel
theorem dX2_put_55 : decode cX2_put 55 = .ok (.getfield 9, 3) := by decide +kernel
theorem dX2_put_58 : decode cX2_put 58 = .ok (.iload_n 1, 1) := by decide +kernel
theorem dX2_put_59 : decode cX2_put 59 = .ok (.iload_n 2, 1) := by decide +kernel
theorem dX2_put_60 : decode cX2_put 60 = .ok (.iastore, 1) := by decide +kernel
theorem dX2_put_61 : decode cX2_put 61 = .ok (.return_, 1) := by decide +kernel
theorem dX3_init_0 : decode cX3_init 0 = .ok (.aload_n 0, 1) := by decide +kernel
theorem dX3_init_1 : decode cX3_init 1 = .ok (.invokespecial 3, 3) := by decide +kernel
theorem dX3_init_4 : decode cX3_init 4 = .ok (.aload_n 0, 1) := by decide +kernel
theorem dX3_init_5 : decode cX3_init 5 = .ok (.bipush 8, 2) := by decide +kernel
theorem dX3_init_7 : decode cX3_init 7 = .ok (.newarray .int, 2) := by decide +kernel
theorem dX3_init_9 : decode cX3_init 9 = .ok (.putfield 9, 3) := by decide +kernel
theorem dX3_init_12 : decode cX3_init 12 = .ok (.aload_n 0, 1) := by decide +kernel
theorem dX3_init_13 : decode cX3_init 13 = .ok (.bipush 8, 2) := by decide +kernel
theorem dX3_init_15 : decode cX3_init 15 = .ok (.newarray .int, 2) := by decide +kernel
theorem dX3_init_17 : decode cX3_init 17 = .ok (.putfield 15, 3) := by decide +kernel
theorem dX3_init_20 : decode cX3_init 20 = .ok (.aload_n 0, 1) := by decide +kernel
theorem dX3_init_21 : decode cX3_init 21 = .ok (.bipush 8, 2) := by decide +kernel
theorem dX3_init_23 : decode cX3_init 23 = .ok (.newarray .int, 2) := by decide +kernel
theorem dX3_init_25 : decode cX3_init 25 = .ok (.putfield 18, 3) := by decide +kernel
theorem dX3_init_28 : decode cX3_init 28 = .ok (.aload_n 0, 1) := by decide +kernel
theorem dX3_init_29 : decode cX3_init 29 = .ok (.bipush 8, 2) := by decide +kernel
theorem dX3_init_31 : decode cX3_init 31 = .ok (.newarray .int, 2) := by decide +kernel
theorem dX3_init_33 : decode cX3_init 33 = .ok (.putfield 21, 3) := by decide +kernel
theorem dX3_init_36 : decode cX3_init 36 = .ok (.aload_n 0, 1) := by decide +kernel
theorem dX3_init_37 : decode cX3_init 37 = .ok (.bipush 8, 2) := by decide +kernel
theorem dX3_init_39 : decode cX3_init 39 = .ok (.newarray .int, 2) := by decide +kernel
theorem dX3_init_41 : decode cX3_init 41 = .ok (.putfield 24, 3) := by decide +kernel
theorem dX3_init_44 : decode cX3_init 44 = .ok (.aload_n 0, 1) := by decide +kernel
theorem dX3_init_45 : decode cX3_init 45 = .ok (.bipush 8, 2) := by decide +kernel
theorem dX3_init_47 : decode cX3_init 47 = .ok (.newarray .int, 2) := by decide +kernel
theorem dX3_init_49 : decode cX3_init 49 = .ok (.putfield 27, 3) := by decide +kernel
theorem dX3_init_52 : decode cX3_init 52 = .ok (.aload_n 0, 1) := by decide +kernel
theorem dX3_init_53 : decode cX3_init 53 = .ok (.bipush 6, 2) := by decide +kernel
theorem dX3_init_55 : decode cX3_init 55 = .ok (.newarray .int, 2) := by decide +kernel
theorem dX3_init_57 : decode cX3_init 57 = .ok (.putfield 30, 3) := by decide +kernel
theorem dX3_init_60 : decode cX3_init 60 = .ok (.aload_n 0, 1) := by decide +kernel
theorem dX3_init_61 : decode cX3_init 61 = .ok (.bipush 6, 2) := by decide +kernel
theorem dX3_init_63 : decode cX3_init 63 = .ok (.newarray .int, 2) := by decide +kernel
theorem dX3_init_65 : decode cX3_init 65 = .ok (.putfield 33, 3) := by decide +kernel
theorem dX3_init_68 : decode cX3_init 68 = .ok (.aload_n 0, 1) := by decide +kernel
theorem dX3_init_69 : decode cX3_init 69 = .ok (.bipush (-4), 2) := by decide +kernel
theorem dX3_init_71 : decode cX3_init 71 = .ok (.putfield 36, 3) := by decide +kernel
theorem dX3_init_74 : decode cX3_init 74 = .ok (.return_, 1) := by decide +kernel
theorem dX3_empty_0 : decode cX3_empty 0 = .ok (.aload_n 0, 1) := by decide +kernel
theorem dX3_empty_1 : decode cX3_empty 1 = .ok (.iconst 0, 1) := by decide +kernel
theorem dX3_empty_2 : decode cX3_empty 2 = .ok (.putfield 40, 3) := by decide +kernel
theorem dX3_empty_5 : decode cX3_empty 5 = .ok (.aload_n 0, 1) := by decide +kernel
theorem dX3_empty_6 : decode cX3_empty 6 = .ok (.bipush (-4), 2) := by decide +kernel
theorem dX3_empty_8 : decode cX3_empty 8 = .ok (.putfield 36, 3) := by decide +kernel
theorem dX3_empty_11 : decode cX3_empty 11 = .ok (.aload_n 0, 1) := by decide +kernel
theorem dX3_empty_12 : decode cX3_empty 12 = .ok (.iconst 0, 1) := by decide +kernel
theorem dX3_empty_13 : decode cX3_empty 13 = .ok (.putfield 43, 3) := by decide +kernel
theorem dX3_empty_16 : decode cX3_empty 16 = .ok (.aload_n 0, 1) := by decide +kernel
theorem dX3_empty_17 : decode cX3_empty 17 = .ok (.iconst 0, 1) := by decide +kernel
theorem dX3_empty_18 : decode cX3_empty 18 = .ok (.putfield 46, 3) := by decide +kernel
theorem dX3_empty_21 : decode cX3_empty 21 = .ok (.aload_n 0, 1) := by decide +kernel
theorem dX3_empty_22 : decode cX3_empty 22 = .ok (.iconst 0, 1) := by decide +kernel
theorem dX3_empty_23 : decode cX3_empty 23 = .ok (.putfield 49, 3) := by decide +kernel
theorem dX3_empty_26 : decode cX3_empty 26 = .ok (.aload_n 0, 1) := by decide +kernel
theorem dX3_empty_27 : decode cX3_empty 27 = .ok (.iconst 0, 1) := by decide +kernel
theorem dX3_empty_28 : decode cX3_empty 28 = .ok (.putfield 52, 3) := by decide +kernel
theorem dX3_empty_31 : decode cX3_empty 31 = .ok (.return_, 1) := by decide +kernel
theorem dX3_become_0 : decode cX3_become 0 = .ok (.aload_n 1, 1) := by decide +kernel
theorem dX3_become_1 : decode cX3_become 1 = .ok (.getfield 9, 3) := by decide +kernel
theorem dX3_become_4 : decode cX3_become 4 = .ok (.iconst 0, 1) := by decide +kernel
theorem dX3_become_5 : decode cX3_become 5 = .ok (.aload_n 0, 1) := by decide +kernel
theorem dX3_become_6 : decode cX3_become 6 = .ok (.getfield 9, 3) := by decide +kernel
theorem dX3_become_9 : decode cX3_become 9 = .ok (.iconst 0, 1) := by decide +kernel
theorem dX3_become_10 : decode cX3_become 10 = .ok (.bipush 8, 2) := by decide +kernel
theorem dX3_become_12 : decode cX3_become 12 = .ok (.invokestatic 55, 3) := by decide +kernel
theorem dX3_become_15 : decode cX3_become 15 = .ok (.aload_n 1, 1) := by decide +kernel
theorem dX3_become_16 : decode cX3_become 16 = .ok (.getfield 15, 3) := by decide +kernel
theorem dX3_become_19 : decode cX3_become 19 = .ok (.iconst 0, 1) := by decide +kernel
theorem dX3_become_20 : decode cX3_become 20 = .ok (.aload_n 0, 1) := by decide +kernel
theorem dX3_become_21 : decode cX3_become 21 = .ok (.getfield 15, 3) := by decide +kernel
theorem dX3_become_24 : decode cX3_become 24 = .ok (.iconst 0, 1) := by decide +kernel
theorem dX3_become_25 : decode cX3_become 25 = .ok (.bipush 8, 2) := by decide +kernel
theorem dX3_become_27 : decode cX3_become 27 = .ok (.invokestatic 55, 3) := by decide +kernel
theorem dX3_become_30 : decode cX3_become 30 = .ok (.aload_n 1, 1) := by decide +kernel
theorem dX3_become_31 : decode cX3_become 31 = .ok (.getfield 18, 3) := by decide +kernel
theorem dX3_become_34 : decode cX3_become 34 = .ok (.iconst 0, 1) := by decide +kernel
theorem dX3_become_35 : decode cX3_become 35 = .ok (.aload_n 0, 1) := by decide +kernel
theorem dX3_become_36 : decode cX3_become 36 = .ok (.getfield 18, 3) := by decide +kernel
theorem dX3_become_39 : decode cX3_become 39 = .ok (.iconst 0, 1) := by decide +kernel
theorem dX3_become_40 : decode cX3_become 40 = .ok (.bipush 8, 2) := by decide +kernel
theorem dX3_become_42 : decode cX3_become 42 = .ok (.invokestatic 55, 3) := by decide +kernel
theorem dX3_become_45 : decode cX3_become 45 = .ok (.aload_n 1, 1) := by decide +kernel
theorem dX3_become_46 : decode cX3_become 46 = .ok (.getfield 21, 3) := by decide +kernel
theorem dX3_become_49 : decode cX3_become 49 = .ok (.iconst 0, 1) := by decide +kernel
theorem dX3_become_50 : decode cX3_become 50 = .ok (.aload_n 0, 1) := by decide +kernel
theorem dX3_become_51 : decode cX3_become 51 = .ok (.getfield 21, 3) := by decide +kernel
theorem dX3_become_54 : decode cX3_become 54 = .ok (.iconst 0, 1) := by decide +kernel
theorem dX3_become_55 : decode cX3_become 55 = .ok (.bipush 8, 2) := by decide +kernel
theorem dX3_become_57 : decode cX3_become 57 = .ok (.invokestatic 55, 3) := by decide +kernel
theorem dX3_become_60 : decode cX3_become 60 = .ok (.aload_n 1, 1) := by decide +kernel
theorem dX3_become_61 : decode cX3_become 61 = .ok (.getfield 24, 3) := by decide +kernel
theorem dX3_become_64 : decode cX3_become 64 = .ok (.iconst 0, 1) := by decide +kernel
theorem dX3_become_65 : decode cX3_become 65 = .ok (.aload_n 0, 1) := by decide +kernel
theorem dX3_become_66 : decode cX3_become 66 = .ok (.getfield 24, 3) := by decide +kernel
theorem dX3_become_69 : decode cX3_become 69 = .ok (.iconst 0, 1) := by decide +kernel
theorem dX3_become_70 : decode cX3_become 70 = .ok (.bipush 8, 2) := by decide +kernel
theorem dX3_become_72 : decode cX3_become 72 = .ok (.invokestatic 55, 3) := by decide +kernel
theorem dX3_become_75 : decode cX3_become 75 = .ok (.aload_n 1, 1) := by decide +kernel
theorem dX3_become_76 : decode cX3_become 76 = .ok (.getfield 27, 3) := by decide +kernel
theorem dX3_become_79 : decode cX3_become 79 = .ok (.iconst 0, 1) := by decide +kernel
theorem dX3_become_80 : decode cX3_become 80 = .ok (.aload_n 0, 1) := by decide +kernel
theorem dX3_become_81 : decode cX3_become 81 = .ok (.getfield 27, 3) := by decide +kernel
theorem dX3_become_84 : decode cX3_become 84 = .ok (.iconst 0, 1) := by decide +kernel
theorem dX3_become_85 : decode cX3_become 85 = .ok (.bipush 8, 2) := by decide +kernel
theorem dX3_become_87 : decode cX3_become 87 = .ok (.invokestatic 55, 3) := by decide +kernel
theorem dX3_become_90 : decode cX3_become 90 = .ok (.aload_n 1, 1) := by decide +kernel
theorem dX3_become_91 : decode cX3_become 91 = .ok (.getfield 30, 3) := by decide +kernel
theorem dX3_become_94 : decode cX3_become 94 = .ok (.iconst 0, 1) := by decide +kernel
theorem dX3_become_95 : decode cX3_become 95 = .ok (.aload_n 0, 1) := by decide +kernel
theorem dX3_become_96 : decode cX3_become 96 = .ok (.getfield 30, 3) := by decide +kernel
theorem dX3_become_99 : decode cX3_become 99 = .ok (.iconst 0, 1) := by decide +kernel
theorem dX3_become_100 : decode cX3_become 100 = .ok (.bipush 6, 2) := by decide +kernel
theorem dX3_become_102 : decode cX3_become 102 = .ok (.invokestatic 55, 3) := by decide +kernel
theorem dX3_become_105 : decode cX3_become 105 = .ok (.aload_n 1, 1) := by decide +kernel
theorem dX3_become_106 : decode cX3_become 106 = .ok (.getfield 33, 3) := by decide +kernel
theorem dX3_become_109 : decode cX3_become 109 = .ok (.iconst 0, 1) := by decide +kernel
theorem dX3_become_110 : decode cX3_become 110 = .ok (.aload_n 0, 1) := by decide +kernel
theorem dX3_become_111 : decode cX3_become 111 = .ok (.getfield 33, 3) := by decide +kernel
theorem dX3_become_114 : decode cX3_become 114 = .ok (.iconst 0, 1) := by decide +kernel
theorem dX3_become_115 : decode cX3_become 115 = .ok (.bipush 6, 2) := by decide +kernel
theorem dX3_become_117 : decode cX3_become 117 = .ok (.invokestatic 55, 3) := by decide +kernel
theorem dX3_become_120 : decode cX3_become 120 = .ok (.aload_n 0, 1) := by decide +kernel
theorem dX3_become_121 : decode cX3_become 121 = .ok (.aload_n 1, 1) := by decide +kernel
theorem dX3_become_122 : decode cX3_become 122 = .ok (.getfield 61, 3) := by decide +kernel
theorem dX3_become_125 : decode cX3_become 125 = .ok (.putfield 61, 3) := by decide +kernel
theorem dX3_become_128 : decode cX3_become 128 = .ok (.aload_n 0, 1) := by decide +kernel
theorem dX3_become_129 : decode cX3_become 129 = .ok (.aload_n 1, 1) := by decide +kernel
theorem dX3_become_130 : decode cX3_become 130 = .ok (.getfield 40, 3) := by decide +kernel
theorem dX3_become_133 : decode cX3_become 133 = .ok (.putfield 40, 3) := by decide +kernel
theorem dX3_become_136 : decode cX3_become 136 = .ok (.aload_n 0, 1) := by decide +kernel
theorem dX3_become_137 : decode cX3_become 137 = .ok (.aload_n 1, 1) := by decide +kernel
theorem dX3_become_138 : decode cX3_become 138 = .ok (.getfield 36, 3) := by decide +kernel
theorem dX3_become_141 : decode cX3_become 141 = .ok (.putfield 36, 3) := by decide +kernel
theorem dX3_become_144 : decode cX3_become 144 = .ok (.aload_n 0, 1) := by decide +kernel
theorem dX3_become_145 : decode cX3_become 145 = .ok (.aload_n 1, 1) := by decide +kernel
theorem dX3_become_146 : decode cX3_become 146 = .ok (.getfield 43, 3) := by decide +kernel
theorem dX3_become_149 : decode cX3_become 149 = .ok (.putfield 43, 3) := by decide +kernel
theorem dX3_become_152 : decode cX3_become 152 = .ok (.aload_n 0, 1) := by decide +kernel
theorem dX3_become_153 : decode cX3_become 153 = .ok (.aload_n 1, 1) := by decide +kernel
theorem dX3_become_154 : decode cX3_become 154 = .ok (.getfield 46, 3) := by decide +kernel
theorem dX3_become_157 : decode cX3_become 157 = .ok (.putfield 46, 3) := by decide +kernel
theorem dX3_become_160 : decode cX3_become 160 = .ok (.aload_n 0, 1) := by decide +kernel
theorem dX3_become_161 : decode cX3_become 161 = .ok (.aload_n 1, 1) := by decide +kernel
theorem dX3_become_162 : decode cX3_become 162 = .ok (.getfield 49, 3) := by decide +kernel
theorem dX3_become_165 : decode cX3_become 165 = .ok (.putfield 49, 3) := by decide +kernel
theorem dX3_become_168 : decode cX3_become 168 = .ok (.aload_n 0, 1) := by decide +kernel
theorem dX3_become_169 : decode cX3_become 169 = .ok (.aload_n 1, 1) := by decide +kernel
theorem dX3_become_170 : decode cX3_become 170 = .ok (.getfield 52, 3) := by decide +kernel
theorem dX3_become_173 : decode cX3_become 173 = .ok (.putfield 52, 3) := by decide +kernel
theorem dX3_become_176 : decode cX3_become 176 = .ok (.return_, 1) := by decide +kernel
theorem dX3_hasClaim_0 : decode cX3_hasClaim 0 = .ok (.iload_n 1, 1) := by decide +kernel
theorem dX3_hasClaim_1 : decode cX3_hasClaim 1 = .ok (.ifCond .lt 15, 3) := by decide +kernel
theorem dX3_hasClaim_4 : decode cX3_hasClaim 4 = .ok (.iload_n 1, 1) := by decide +kernel
theorem dX3_hasClaim_5 : decode cX3_hasClaim 5 = .ok (.aload_n 0, 1) := by decide +kernel
theorem dX3_hasClaim_6 : decode cX3_hasClaim 6 = .ok (.getfield 40, 3) := by decide +kernel
theorem dX3_hasClaim_9 : decode cX3_hasClaim 9 = .ok (.if_icmp .ge 7, 3) := by decide +kernel
theorem dX3_hasClaim_12 : decode cX3_hasClaim 12 = .ok (.iconst 1, 1) := by decide +kernel
theorem dX3_hasClaim_13 : decode cX3_hasClaim 13 = .ok (.goto 4, 3) := by decide +kernel
theorem dX3_hasClaim_16 : decode cX3_hasClaim 16 = .ok (.iconst 0, 1) := by decide +kernel
theorem dX3_hasClaim_17 : decode cX3_hasClaim 17 = .ok (.ireturn, 1) := by decide +kernel
theorem dX3_hasSet_0 : decode cX3_hasSet 0 = .ok (.iload_n 1, 1) := by decide +kernel
theorem dX3_hasSet_1 : decode cX3_hasSet 1 = .ok (.ifCond .lt 17, 3) := by decide +kernel
theorem dX3_hasSet_4 : decode cX3_hasSet 4 = .ok (.iload_n 1, 1) := by decide +kernel
theorem dX3_hasSet_5 : decode cX3_hasSet 5 = .ok (.iconst 1, 1) := by decide +kernel
theorem dX3_hasSet_6 : decode cX3_hasSet 6 = .ok (.aload_n 0, 1) := by decide +kernel
theorem dX3_hasSet_7 : decode cX3_hasSet 7 = .ok (.getfield 40, 3) := by decide +kernel
theorem dX3_hasSet_10 : decode cX3_hasSet 10 = .ok (.ishl, 1) := by decide +kernel
theorem dX3_hasSet_11 : decode cX3_hasSet 11 = .ok (.if_icmp .ge 7, 3) := by decide +kernel
theorem dX3_hasSet_14 : decode cX3_hasSet 14 = .ok (.iconst 1, 1) := by decide +kernel
theorem dX3_hasSet_15 : decode cX3_hasSet 15 = .ok (.goto 4, 3) := by decide +kernel
theorem dX3_hasSet_18 : decode cX3_hasSet 18 = .ok (.iconst 0, 1) := by decide +kernel
theorem dX3_hasSet_19 : decode cX3_hasSet 19 = .ok (.ireturn, 1) := by decide +kernel
theorem dX3_isSaid_0 : decode cX3_isSaid 0 = .ok (.aload_n 0, 1) := by decide +kernel
theorem dX3_isSaid_1 : decode cX3_isSaid 1 = .ok (.getfield 46, 3) := by decide +kernel
theorem dX3_isSaid_4 : decode cX3_isSaid 4 = .ok (.iload_n 1, 1) := by decide +kernel
theorem dX3_isSaid_5 : decode cX3_isSaid 5 = .ok (.ishr, 1) := by decide +kernel
theorem dX3_isSaid_6 : decode cX3_isSaid 6 = .ok (.iconst 1, 1) := by decide +kernel
theorem dX3_isSaid_7 : decode cX3_isSaid 7 = .ok (.iand, 1) := by decide +kernel
theorem dX3_isSaid_8 : decode cX3_isSaid 8 = .ok (.iconst 1, 1) := by decide +kernel
theorem dX3_isSaid_9 : decode cX3_isSaid 9 = .ok (.if_icmp .ne 7, 3) := by decide +kernel
theorem dX3_isSaid_12 : decode cX3_isSaid 12 = .ok (.iconst 1, 1) := by decide +kernel
theorem dX3_isSaid_13 : decode cX3_isSaid 13 = .ok (.goto 4, 3) := by decide +kernel
theorem dX3_isSaid_16 : decode cX3_isSaid 16 = .ok (.iconst 0, 1) := by decide +kernel
theorem dX3_isSaid_17 : decode cX3_isSaid 17 = .ok (.ireturn, 1) := by decide +kernel
theorem dX3_inTime_0 : decode cX3_inTime 0 = .ok (.iload_n 2, 1) := by decide +kernel
theorem dX3_inTime_1 : decode cX3_inTime 1 = .ok (.aload_n 0, 1) := by decide +kernel
theorem dX3_inTime_2 : decode cX3_inTime 2 = .ok (.getfield 15, 3) := by decide +kernel
theorem dX3_inTime_5 : decode cX3_inTime 5 = .ok (.iload_n 1, 1) := by decide +kernel
theorem dX3_inTime_6 : decode cX3_inTime 6 = .ok (.iaload, 1) := by decide +kernel
theorem dX3_inTime_7 : decode cX3_inTime 7 = .ok (.if_icmp .lt 17, 3) := by decide +kernel
theorem dX3_inTime_10 : decode cX3_inTime 10 = .ok (.iload_n 2, 1) := by decide +kernel
theorem dX3_inTime_11 : decode cX3_inTime 11 = .ok (.aload_n 0, 1) := by decide +kernel
theorem dX3_inTime_12 : decode cX3_inTime 12 = .ok (.getfield 18, 3) := by decide +kernel
theorem dX3_inTime_15 : decode cX3_inTime 15 = .ok (.iload_n 1, 1) := by decide +kernel
theorem dX3_inTime_16 : decode cX3_inTime 16 = .ok (.iaload, 1) := by decide +kernel
theorem dX3_inTime_17 : decode cX3_inTime 17 = .ok (.if_icmp .gt 7, 3) := by decide +kernel
theorem dX3_inTime_20 : decode cX3_inTime 20 = .ok (.iconst 1, 1) := by decide +kernel
theorem dX3_inTime_21 : decode cX3_inTime 21 = .ok (.goto 4, 3) := by decide +kernel
theorem dX3_inTime_24 : decode cX3_inTime 24 = .ok (.iconst 0, 1) := by decide +kernel
theorem dX3_inTime_25 : decode cX3_inTime 25 = .ok (.ireturn, 1) := by decide +kernel
theorem dX3_standing_0 : decode cX3_standing 0 = .ok (.iconst 0, 1) := by decide +kernel
theorem dX3_standing_1 : decode cX3_standing 1 = .ok (.istore_n 2, 1) := by decide +kernel
theorem dX3_standing_2 : decode cX3_standing 2 = .ok (.iconst 0, 1) := by decide +kernel
theorem dX3_standing_3 : decode cX3_standing 3 = .ok (.istore_n 3, 1) := by decide +kernel
theorem dX3_standing_4 : decode cX3_standing 4 = .ok (.iload_n 3, 1) := by decide +kernel
theorem dX3_standing_5 : decode cX3_standing 5 = .ok (.aload_n 0, 1) := by decide +kernel
theorem dX3_standing_6 : decode cX3_standing 6 = .ok (.getfield 40, 3) := by decide +kernel
theorem dX3_standing_9 : decode cX3_standing 9 = .ok (.if_icmp .ge 60, 3) := by decide +kernel
theorem dX3_standing_12 : decode cX3_standing 12 = .ok (.aload_n 0, 1) := by decide +kernel
theorem dX3_standing_13 : decode cX3_standing 13 = .ok (.getfield 24, 3) := by decide +kernel
theorem dX3_standing_16 : decode cX3_standing 16 = .ok (.iload_n 3, 1) := by decide +kernel
theorem dX3_standing_17 : decode cX3_standing 17 = .ok (.iaload, 1) := by decide +kernel
theorem dX3_standing_18 : decode cX3_standing 18 = .ok (.iload_n 2, 1) := by decide +kernel
theorem dX3_standing_19 : decode cX3_standing 19 = .ok (.iconst (-1), 1) := by decide +kernel
theorem dX3_standing_20 : decode cX3_standing 20 = .ok (.ixor, 1) := by decide +kernel
theorem dX3_standing_21 : decode cX3_standing 21 = .ok (.iand, 1) := by decide +kernel
theorem dX3_standing_22 : decode cX3_standing 22 = .ok (.ifCond .ne 18, 3) := by decide +kernel
theorem dX3_standing_25 : decode cX3_standing 25 = .ok (.aload_n 0, 1) := by decide +kernel
theorem dX3_standing_26 : decode cX3_standing 26 = .ok (.getfield 27, 3) := by decide +kernel
theorem dX3_standing_29 : decode cX3_standing 29 = .ok (.iload_n 3, 1) := by decide +kernel
theorem dX3_standing_30 : decode cX3_standing 30 = .ok (.iaload, 1) := by decide +kernel
theorem dX3_standing_31 : decode cX3_standing 31 = .ok (.iload_n 2, 1) := by decide +kernel
theorem dX3_standing_32 : decode cX3_standing 32 = .ok (.iand, 1) := by decide +kernel
theorem dX3_standing_33 : decode cX3_standing 33 = .ok (.ifCond .ne 7, 3) := by decide +kernel
theorem dX3_standing_36 : decode cX3_standing 36 = .ok (.iconst 1, 1) := by decide +kernel
theorem dX3_standing_37 : decode cX3_standing 37 = .ok (.goto 4, 3) := by decide +kernel
theorem dX3_standing_40 : decode cX3_standing 40 = .ok (.iconst 0, 1) := by decide +kernel
theorem dX3_standing_41 : decode cX3_standing 41 = .ok (.istore 4, 2) := by decide +kernel
theorem dX3_standing_43 : decode cX3_standing 43 = .ok (.iload 4, 2) := by decide +kernel
theorem dX3_standing_45 : decode cX3_standing 45 = .ok (.ifCond .eq 18, 3) := by decide +kernel
theorem dX3_standing_48 : decode cX3_standing 48 = .ok (.iload_n 1, 1) := by decide +kernel
theorem dX3_standing_49 : decode cX3_standing 49 = .ok (.iload_n 3, 1) := by decide +kernel
theorem dX3_standing_50 : decode cX3_standing 50 = .ok (.ishr, 1) := by decide +kernel
theorem dX3_standing_51 : decode cX3_standing 51 = .ok (.iconst 1, 1) := by decide +kernel
theorem dX3_standing_52 : decode cX3_standing 52 = .ok (.iand, 1) := by decide +kernel
theorem dX3_standing_53 : decode cX3_standing 53 = .ok (.iconst 1, 1) := by decide +kernel
theorem dX3_standing_54 : decode cX3_standing 54 = .ok (.if_icmp .ne 9, 3) := by decide +kernel
theorem dX3_standing_57 : decode cX3_standing 57 = .ok (.iload_n 2, 1) := by decide +kernel
theorem dX3_standing_58 : decode cX3_standing 58 = .ok (.iconst 1, 1) := by decide +kernel
theorem dX3_standing_59 : decode cX3_standing 59 = .ok (.iload_n 3, 1) := by decide +kernel
theorem dX3_standing_60 : decode cX3_standing 60 = .ok (.ishl, 1) := by decide +kernel
theorem dX3_standing_61 : decode cX3_standing 61 = .ok (.ior, 1) := by decide +kernel
theorem dX3_standing_62 : decode cX3_standing 62 = .ok (.istore_n 2, 1) := by decide +kernel
theorem dX3_standing_63 : decode cX3_standing 63 = .ok (.iinc 3 1, 3) := by decide +kernel
theorem dX3_standing_66 : decode cX3_standing 66 = .ok (.goto (-62), 3) := by decide +kernel
theorem dX3_standing_69 : decode cX3_standing 69 = .ok (.iload_n 2, 1) := by decide +kernel
theorem dX3_standing_70 : decode cX3_standing 70 = .ok (.ireturn, 1) := by decide +kernel
theorem dX3_endStands_0 : decode cX3_endStands 0 = .ok (.aload_n 0, 1) := by decide +kernel
theorem dX3_endStands_1 : decode cX3_endStands 1 = .ok (.aload_n 0, 1) := by decide +kernel
theorem dX3_endStands_2 : decode cX3_endStands 2 = .ok (.getfield 36, 3) := by decide +kernel
theorem dX3_endStands_5 : decode cX3_endStands 5 = .ok (.invokevirtual 64, 3) := by decide +kernel
theorem dX3_endStands_8 : decode cX3_endStands 8 = .ok (.ifCond .eq 23, 3) := by decide +kernel
theorem dX3_endStands_11 : decode cX3_endStands 11 = .ok (.aload_n 0, 1) := by decide +kernel
theorem dX3_endStands_12 : decode cX3_endStands 12 = .ok (.iload_n 1, 1) := by decide +kernel
theorem dX3_endStands_13 : decode cX3_endStands 13 = .ok (.invokevirtual 68, 3) := by decide +kernel
theorem dX3_endStands_16 : decode cX3_endStands 16 = .ok (.aload_n 0, 1) := by decide +kernel
theorem dX3_endStands_17 : decode cX3_endStands 17 = .ok (.getfield 36, 3) := by decide +kernel
theorem dX3_endStands_20 : decode cX3_endStands 20 = .ok (.ishr, 1) := by decide +kernel
theorem dX3_endStands_21 : decode cX3_endStands 21 = .ok (.iconst 1, 1) := by decide +kernel
theorem dX3_endStands_22 : decode cX3_endStands 22 = .ok (.iand, 1) := by decide +kernel
theorem dX3_endStands_23 : decode cX3_endStands 23 = .ok (.iconst 1, 1) := by decide +kernel
theorem dX3_endStands_24 : decode cX3_endStands 24 = .ok (.if_icmp .ne 7, 3) := by decide +kernel
theorem dX3_endStands_27 : decode cX3_endStands 27 = .ok (.iconst 1, 1) := by decide +kernel
theorem dX3_endStands_28 : decode cX3_endStands 28 = .ok (.goto 4, 3) := by decide +kernel
theorem dX3_endStands_31 : decode cX3_endStands 31 = .ok (.iconst 0, 1) := by decide +kernel
theorem dX3_endStands_32 : decode cX3_endStands 32 = .ok (.ireturn, 1) := by decide +kernel
theorem dX3_addToPlan_0 : decode cX3_addToPlan 0 = .ok (.aload_n 0, 1) := by decide +kernel
theorem dX3_addToPlan_1 : decode cX3_addToPlan 1 = .ok (.getfield 49, 3) := by decide +kernel
theorem dX3_addToPlan_4 : decode cX3_addToPlan 4 = .ok (.bipush 6, 2) := by decide +kernel
theorem dX3_addToPlan_6 : decode cX3_addToPlan 6 = .ok (.if_icmp .lt 5, 3) := by decide +kernel
theorem dX3_addToPlan_9 : decode cX3_addToPlan 9 = .ok (.iconst 0, 1) := by decide +kernel
theorem dX3_addToPlan_10 : decode cX3_addToPlan 10 = .ok (.ireturn, 1) := by decide +kernel
theorem dX3_addToPlan_11 : decode cX3_addToPlan 11 = .ok (.aload_n 0, 1) := by decide +kernel
theorem dX3_addToPlan_12 : decode cX3_addToPlan 12 = .ok (.getfield 30, 3) := by decide +kernel
theorem dX3_addToPlan_15 : decode cX3_addToPlan 15 = .ok (.aload_n 0, 1) := by decide +kernel
theorem dX3_addToPlan_16 : decode cX3_addToPlan 16 = .ok (.getfield 49, 3) := by decide +kernel
theorem dX3_addToPlan_19 : decode cX3_addToPlan 19 = .ok (.iload_n 1, 1) := by decide +kernel
theorem dX3_addToPlan_20 : decode cX3_addToPlan 20 = .ok (.iastore, 1) := by decide +kernel
theorem dX3_addToPlan_21 : decode cX3_addToPlan 21 = .ok (.aload_n 0, 1) := by decide +kernel
theorem dX3_addToPlan_22 : decode cX3_addToPlan 22 = .ok (.dup, 1) := by decide +kernel
theorem dX3_addToPlan_23 : decode cX3_addToPlan 23 = .ok (.getfield 49, 3) := by decide +kernel
theorem dX3_addToPlan_26 : decode cX3_addToPlan 26 = .ok (.iconst 1, 1) := by decide +kernel
theorem dX3_addToPlan_27 : decode cX3_addToPlan 27 = .ok (.iadd, 1) := by decide +kernel
theorem dX3_addToPlan_28 : decode cX3_addToPlan 28 = .ok (.putfield 49, 3) := by decide +kernel
theorem dX3_addToPlan_31 : decode cX3_addToPlan 31 = .ok (.iconst 1, 1) := by decide +kernel
theorem dX3_addToPlan_32 : decode cX3_addToPlan 32 = .ok (.ireturn, 1) := by decide +kernel
theorem dX3_addSeen_0 : decode cX3_addSeen 0 = .ok (.aload_n 0, 1) := by decide +kernel
theorem dX3_addSeen_1 : decode cX3_addSeen 1 = .ok (.getfield 52, 3) := by decide +kernel
theorem dX3_addSeen_4 : decode cX3_addSeen 4 = .ok (.bipush 6, 2) := by decide +kernel
theorem dX3_addSeen_6 : decode cX3_addSeen 6 = .ok (.if_icmp .lt 5, 3) := by decide +kernel
theorem dX3_addSeen_9 : decode cX3_addSeen 9 = .ok (.iconst 0, 1) := by decide +kernel
theorem dX3_addSeen_10 : decode cX3_addSeen 10 = .ok (.ireturn, 1) := by decide +kernel
theorem dX3_addSeen_11 : decode cX3_addSeen 11 = .ok (.aload_n 0, 1) := by decide +kernel
theorem dX3_addSeen_12 : decode cX3_addSeen 12 = .ok (.getfield 33, 3) := by decide +kernel
theorem dX3_addSeen_15 : decode cX3_addSeen 15 = .ok (.aload_n 0, 1) := by decide +kernel
theorem dX3_addSeen_16 : decode cX3_addSeen 16 = .ok (.getfield 52, 3) := by decide +kernel
theorem dX3_addSeen_19 : decode cX3_addSeen 19 = .ok (.iload_n 1, 1) := by decide +kernel
theorem dX3_addSeen_20 : decode cX3_addSeen 20 = .ok (.iastore, 1) := by decide +kernel
theorem dX3_addSeen_21 : decode cX3_addSeen 21 = .ok (.iconst 1, 1) := by decide +kernel
theorem dX3_addSeen_22 : decode cX3_addSeen 22 = .ok (.aload_n 0, 1) := by decide +kernel
theorem dX3_addSeen_23 : decode cX3_addSeen 23 = .ok (.getfield 52, 3) := by decide +kernel
theorem dX3_addSeen_26 : decode cX3_addSeen 26 = .ok (.ishl, 1) := by decide +kernel
theorem dX3_addSeen_27 : decode cX3_addSeen 27 = .ok (.istore_n 3, 1) := by decide +kernel
theorem dX3_addSeen_28 : decode cX3_addSeen 28 = .ok (.aload_n 0, 1) := by decide +kernel
theorem dX3_addSeen_29 : decode cX3_addSeen 29 = .ok (.iload_n 2, 1) := by decide +kernel
theorem dX3_addSeen_30 : decode cX3_addSeen 30 = .ok (.ifCond .eq 12, 3) := by decide +kernel
theorem dX3_addSeen_33 : decode cX3_addSeen 33 = .ok (.aload_n 0, 1) := by decide +kernel
theorem dX3_addSeen_34 : decode cX3_addSeen 34 = .ok (.getfield 61, 3) := by decide +kernel
theorem dX3_addSeen_37 : decode cX3_addSeen 37 = .ok (.iload_n 3, 1) := by decide +kernel
theorem dX3_addSeen_38 : decode cX3_addSeen 38 = .ok (.ior, 1) := by decide +kernel
theorem dX3_addSeen_39 : decode cX3_addSeen 39 = .ok (.goto 11, 3) := by decide +kernel
theorem dX3_addSeen_42 : decode cX3_addSeen 42 = .ok (.aload_n 0, 1) := by decide +kernel
theorem dX3_addSeen_43 : decode cX3_addSeen 43 = .ok (.getfield 61, 3) := by decide +kernel
theorem dX3_addSeen_46 : decode cX3_addSeen 46 = .ok (.iload_n 3, 1) := by decide +kernel
theorem dX3_addSeen_47 : decode cX3_addSeen 47 = .ok (.iconst (-1), 1) := by decide +kernel
theorem dX3_addSeen_48 : decode cX3_addSeen 48 = .ok (.ixor, 1) := by decide +kernel
theorem dX3_addSeen_49 : decode cX3_addSeen 49 = .ok (.iand, 1) := by decide +kernel
theorem dX3_addSeen_50 : decode cX3_addSeen 50 = .ok (.putfield 61, 3) := by decide +kernel
theorem dX3_addSeen_53 : decode cX3_addSeen 53 = .ok (.aload_n 0, 1) := by decide +kernel
theorem dX3_addSeen_54 : decode cX3_addSeen 54 = .ok (.dup, 1) := by decide +kernel
theorem dX3_addSeen_55 : decode cX3_addSeen 55 = .ok (.getfield 52, 3) := by decide +kernel
theorem dX3_addSeen_58 : decode cX3_addSeen 58 = .ok (.iconst 1, 1) := by decide +kernel
theorem dX3_addSeen_59 : decode cX3_addSeen 59 = .ok (.iadd, 1) := by decide +kernel
theorem dX3_addSeen_60 : decode cX3_addSeen 60 = .ok (.putfield 52, 3) := by decide +kernel
theorem dX3_addSeen_63 : decode cX3_addSeen 63 = .ok (.iconst 1, 1) := by decide +kernel
theorem dX3_addSeen_64 : decode cX3_addSeen 64 = .ok (.ireturn, 1) := by decide +kernel
theorem dX4_init_0 : decode cX4_init 0 = .ok (.aload_n 0, 1) := by decide +kernel
theorem dX4_init_1 : decode cX4_init 1 = .ok (.invokespecial 3, 3) := by decide +kernel
theorem dX4_init_4 : decode cX4_init 4 = .ok (.aload_n 0, 1) := by decide +kernel
theorem dX4_init_5 : decode cX4_init 5 = .ok (.sipush 160, 3) := by decide +kernel
theorem dX4_init_8 : decode cX4_init 8 = .ok (.newarray .byte, 2) := by decide +kernel
theorem dX4_init_10 : decode cX4_init 10 = .ok (.putfield 9, 3) := by decide +kernel
theorem dX4_init_13 : decode cX4_init 13 = .ok (.return_, 1) := by decide +kernel
theorem dX4_append_0 : decode cX4_append 0 = .ok (.aload_n 0, 1) := by decide +kernel
theorem dX4_append_1 : decode cX4_append 1 = .ok (.getfield 15, 3) := by decide +kernel
theorem dX4_append_4 : decode cX4_append 4 = .ok (.sipush 160, 3) := by decide +kernel
theorem dX4_append_7 : decode cX4_append 7 = .ok (.if_icmp .lt 5, 3) := by decide +kernel
theorem dX4_append_10 : decode cX4_append 10 = .ok (.iconst 0, 1) := by decide +kernel
theorem dX4_append_11 : decode cX4_append 11 = .ok (.ireturn, 1) := by decide +kernel
theorem dX4_append_12 : decode cX4_append 12 = .ok (.aload_n 0, 1) := by decide +kernel
theorem dX4_append_13 : decode cX4_append 13 = .ok (.getfield 9, 3) := by decide +kernel
theorem dX4_append_16 : decode cX4_append 16 = .ok (.aload_n 0, 1) := by decide +kernel
theorem dX4_append_17 : decode cX4_append 17 = .ok (.getfield 15, 3) := by decide +kernel
theorem dX4_append_20 : decode cX4_append 20 = .ok (.iload_n 1, 1) := by decide +kernel
theorem dX4_append_21 : decode cX4_append 21 = .ok (.i2b, 1) := by decide +kernel
theorem dX4_append_22 : decode cX4_append 22 = .ok (.bastore, 1) := by decide +kernel
theorem dX4_append_23 : decode cX4_append 23 = .ok (.aload_n 0, 1) := by decide +kernel
theorem dX4_append_24 : decode cX4_append 24 = .ok (.dup, 1) := by decide +kernel
theorem dX4_append_25 : decode cX4_append 25 = .ok (.getfield 15, 3) := by decide +kernel
theorem dX4_append_28 : decode cX4_append 28 = .ok (.iconst 1, 1) := by decide +kernel
theorem dX4_append_29 : decode cX4_append 29 = .ok (.iadd, 1) := by decide +kernel
theorem dX4_append_30 : decode cX4_append 30 = .ok (.putfield 15, 3) := by decide +kernel
theorem dX4_append_33 : decode cX4_append 33 = .ok (.iconst 1, 1) := by decide +kernel
theorem dX4_append_34 : decode cX4_append 34 = .ok (.ireturn, 1) := by decide +kernel
theorem dX4_tell_0 : decode cX4_tell 0 = .ok (.aload_n 1, 1) := by decide +kernel
theorem dX4_tell_1 : decode cX4_tell 1 = .ok (.invokevirtual 19, 3) := by decide +kernel
theorem dX4_tell_4 : decode cX4_tell 4 = .ok (.aload_n 0, 1) := by decide +kernel
theorem dX4_tell_5 : decode cX4_tell 5 = .ok (.iconst 0, 1) := by decide +kernel
theorem dX4_tell_6 : decode cX4_tell 6 = .ok (.putfield 24, 3) := by decide +kernel
theorem dX4_tell_9 : decode cX4_tell 9 = .ok (.aload_n 0, 1) := by decide +kernel
theorem dX4_tell_10 : decode cX4_tell 10 = .ok (.iconst 0, 1) := by decide +kernel
theorem dX4_tell_11 : decode cX4_tell 11 = .ok (.putfield 27, 3) := by decide +kernel
theorem dX4_tell_14 : decode cX4_tell 14 = .ok (.aload_n 0, 1) := by decide +kernel
theorem dX4_tell_15 : decode cX4_tell 15 = .ok (.iconst 0, 1) := by decide +kernel
theorem dX4_tell_16 : decode cX4_tell 16 = .ok (.putfield 30, 3) := by decide +kernel
theorem dX4_tell_19 : decode cX4_tell 19 = .ok (.aload_n 0, 1) := by decide +kernel
theorem dX4_tell_20 : decode cX4_tell 20 = .ok (.iconst 0, 1) := by decide +kernel
theorem dX4_tell_21 : decode cX4_tell 21 = .ok (.putfield 33, 3) := by decide +kernel
theorem dX4_tell_24 : decode cX4_tell 24 = .ok (.aload_n 0, 1) := by decide +kernel
theorem dX4_tell_25 : decode cX4_tell 25 = .ok (.iconst 0, 1) := by decide +kernel
theorem dX4_tell_26 : decode cX4_tell 26 = .ok (.putfield 37, 3) := by decide +kernel
theorem dX4_tell_29 : decode cX4_tell 29 = .ok (.iconst 0, 1) := by decide +kernel
theorem dX4_tell_30 : decode cX4_tell 30 = .ok (.istore_n 2, 1) := by decide +kernel
theorem dX4_tell_31 : decode cX4_tell 31 = .ok (.iconst 0, 1) := by decide +kernel
theorem dX4_tell_32 : decode cX4_tell 32 = .ok (.istore_n 3, 1) := by decide +kernel
theorem dX4_tell_33 : decode cX4_tell 33 = .ok (.iload_n 3, 1) := by decide +kernel
theorem dX4_tell_34 : decode cX4_tell 34 = .ok (.sipush 160, 3) := by decide +kernel
theorem dX4_tell_37 : decode cX4_tell 37 = .ok (.if_icmp .gt 37, 3) := by decide +kernel
theorem dX4_tell_40 : decode cX4_tell 40 = .ok (.aload_n 0, 1) := by decide +kernel
theorem dX4_tell_41 : decode cX4_tell 41 = .ok (.invokevirtual 40, 3) := by decide +kernel
theorem dX4_tell_44 : decode cX4_tell 44 = .ok (.ifCond .eq 30, 3) := by decide +kernel
theorem dX4_tell_47 : decode cX4_tell 47 = .ok (.aload_n 0, 1) := by decide +kernel
theorem dX4_tell_48 : decode cX4_tell 48 = .ok (.getfield 44, 3) := by decide +kernel
theorem dX4_tell_51 : decode cX4_tell 51 = .ok (.ifCond .eq 23, 3) := by decide +kernel
theorem dX4_tell_54 : decode cX4_tell 54 = .ok (.aload_n 0, 1) := by decide +kernel
theorem dX4_tell_55 : decode cX4_tell 55 = .ok (.aload_n 1, 1) := by decide +kernel
theorem dX4_tell_56 : decode cX4_tell 56 = .ok (.invokevirtual 47, 3) := by decide +kernel
theorem dX4_tell_59 : decode cX4_tell 59 = .ok (.ifCond .ne 6, 3) := by decide +kernel
theorem dX4_tell_62 : decode cX4_tell 62 = .ok (.goto 12, 3) := by decide +kernel
theorem dX4_tell_65 : decode cX4_tell 65 = .ok (.iinc 2 1, 3) := by decide +kernel
theorem dX4_tell_68 : decode cX4_tell 68 = .ok (.iinc 3 1, 3) := by decide +kernel
theorem dX4_tell_71 : decode cX4_tell 71 = .ok (.goto (-38), 3) := by decide +kernel
theorem dX4_tell_74 : decode cX4_tell 74 = .ok (.aload_n 0, 1) := by decide +kernel
theorem dX4_tell_75 : decode cX4_tell 75 = .ok (.getfield 24, 3) := by decide +kernel
theorem dX4_tell_78 : decode cX4_tell 78 = .ok (.ifCond .ne 8, 3) := by decide +kernel
theorem dX4_tell_81 : decode cX4_tell 81 = .ok (.aload_n 0, 1) := by decide +kernel
theorem dX4_tell_82 : decode cX4_tell 82 = .ok (.aload_n 1, 1) := by decide +kernel
theorem dX4_tell_83 : decode cX4_tell 83 = .ok (.invokevirtual 51, 3) := by decide +kernel
theorem dX4_tell_86 : decode cX4_tell 86 = .ok (.aload_n 0, 1) := by decide +kernel
theorem dX4_tell_87 : decode cX4_tell 87 = .ok (.iconst 0, 1) := by decide +kernel
theorem dX4_tell_88 : decode cX4_tell 88 = .ok (.putfield 15, 3) := by decide +kernel
theorem dX4_tell_91 : decode cX4_tell 91 = .ok (.iload_n 2, 1) := by decide +kernel
theorem dX4_tell_92 : decode cX4_tell 92 = .ok (.ireturn, 1) := by decide +kernel
theorem dX4_refuse_0 : decode cX4_refuse 0 = .ok (.aload_n 0, 1) := by decide +kernel
theorem dX4_refuse_1 : decode cX4_refuse 1 = .ok (.iload_n 1, 1) := by decide +kernel
theorem dX4_refuse_2 : decode cX4_refuse 2 = .ok (.putfield 24, 3) := by decide +kernel
theorem dX4_refuse_5 : decode cX4_refuse 5 = .ok (.aload_n 0, 1) := by decide +kernel
theorem dX4_refuse_6 : decode cX4_refuse 6 = .ok (.iload_n 2, 1) := by decide +kernel
theorem dX4_refuse_7 : decode cX4_refuse 7 = .ok (.putfield 27, 3) := by decide +kernel
theorem dX4_refuse_10 : decode cX4_refuse 10 = .ok (.iconst 0, 1) := by decide +kernel
theorem dX4_refuse_11 : decode cX4_refuse 11 = .ok (.ireturn, 1) := by decide +kernel
theorem dX4_close_0 : decode cX4_close 0 = .ok (.aload_n 0, 1) := by decide +kernel
theorem dX4_close_1 : decode cX4_close 1 = .ok (.getfield 33, 3) := by decide +kernel
theorem dX4_close_4 : decode cX4_close 4 = .ok (.ifCond .ne 25, 3) := by decide +kernel
theorem dX4_close_7 : decode cX4_close 7 = .ok (.aload_n 1, 1) := by decide +kernel
theorem dX4_close_8 : decode cX4_close 8 = .ok (.aload_n 1, 1) := by decide +kernel
theorem dX4_close_9 : decode cX4_close 9 = .ok (.getfield 55, 3) := by decide +kernel
theorem dX4_close_12 : decode cX4_close 12 = .ok (.ifCond .ne 8, 3) := by decide +kernel
theorem dX4_close_15 : decode cX4_close 15 = .ok (.bipush (-4), 2) := by decide +kernel
theorem dX4_close_17 : decode cX4_close 17 = .ok (.goto 9, 3) := by decide +kernel
theorem dX4_close_20 : decode cX4_close 20 = .ok (.aload_n 1, 1) := by decide +kernel
theorem dX4_close_21 : decode cX4_close 21 = .ok (.getfield 55, 3) := by decide +kernel
theorem dX4_close_24 : decode cX4_close 24 = .ok (.iconst 1, 1) := by decide +kernel
theorem dX4_close_25 : decode cX4_close 25 = .ok (.isub, 1) := by decide +kernel
theorem dX4_close_26 : decode cX4_close 26 = .ok (.putfield 58, 3) := by decide +kernel
theorem dX4_close_29 : decode cX4_close 29 = .ok (.aload_n 1, 1) := by decide +kernel
theorem dX4_close_30 : decode cX4_close 30 = .ok (.aload_n 1, 1) := by decide +kernel
theorem dX4_close_31 : decode cX4_close 31 = .ok (.getfield 61, 3) := by decide +kernel
theorem dX4_close_34 : decode cX4_close 34 = .ok (.invokevirtual 64, 3) := by decide +kernel
theorem dX4_close_37 : decode cX4_close 37 = .ok (.ifCond .eq 25, 3) := by decide +kernel
theorem dX4_close_40 : decode cX4_close 40 = .ok (.aload_n 0, 1) := by decide +kernel
theorem dX4_close_41 : decode cX4_close 41 = .ok (.getfield 33, 3) := by decide +kernel
theorem dX4_close_44 : decode cX4_close 44 = .ok (.ifCond .eq 14, 3) := by decide +kernel
theorem dX4_close_47 : decode cX4_close 47 = .ok (.aload_n 1, 1) := by decide +kernel
theorem dX4_close_48 : decode cX4_close 48 = .ok (.aload_n 1, 1) := by decide +kernel
theorem dX4_close_49 : decode cX4_close 49 = .ok (.getfield 58, 3) := by decide +kernel
theorem dX4_close_52 : decode cX4_close 52 = .ok (.invokevirtual 68, 3) := by decide +kernel
theorem dX4_close_55 : decode cX4_close 55 = .ok (.ifCond .eq 7, 3) := by decide +kernel
theorem dX4_close_58 : decode cX4_close 58 = .ok (.iconst 1, 1) := by decide +kernel
theorem dX4_close_59 : decode cX4_close 59 = .ok (.goto 4, 3) := by decide +kernel
theorem dX4_close_62 : decode cX4_close 62 = .ok (.iconst 0, 1) := by decide +kernel
theorem dX4_close_63 : decode cX4_close 63 = .ok (.istore_n 2, 1) := by decide +kernel
theorem dX4_close_64 : decode cX4_close 64 = .ok (.iconst 0, 1) := by decide +kernel
theorem dX4_close_65 : decode cX4_close 65 = .ok (.istore_n 3, 1) := by decide +kernel
theorem dX4_close_66 : decode cX4_close 66 = .ok (.iload_n 3, 1) := by decide +kernel
theorem dX4_close_67 : decode cX4_close 67 = .ok (.aload_n 1, 1) := by decide +kernel
theorem dX4_close_68 : decode cX4_close 68 = .ok (.getfield 71, 3) := by decide +kernel
theorem dX4_close_71 : decode cX4_close 71 = .ok (.if_icmp .ge 32, 3) := by decide +kernel
theorem dX4_close_74 : decode cX4_close 74 = .ok (.iload_n 2, 1) := by decide +kernel
theorem dX4_close_75 : decode cX4_close 75 = .ok (.ifCond .eq 20, 3) := by decide +kernel
theorem dX4_close_78 : decode cX4_close 78 = .ok (.aload_n 1, 1) := by decide +kernel
theorem dX4_close_79 : decode cX4_close 79 = .ok (.aload_n 1, 1) := by decide +kernel
theorem dX4_close_80 : decode cX4_close 80 = .ok (.getfield 74, 3) := by decide +kernel
theorem dX4_close_83 : decode cX4_close 83 = .ok (.iload_n 3, 1) := by decide +kernel
theorem dX4_close_84 : decode cX4_close 84 = .ok (.iaload, 1) := by decide +kernel
theorem dX4_close_85 : decode cX4_close 85 = .ok (.invokevirtual 68, 3) := by decide +kernel
theorem dX4_close_88 : decode cX4_close 88 = .ok (.ifCond .eq 7, 3) := by decide +kernel
theorem dX4_close_91 : decode cX4_close 91 = .ok (.iconst 1, 1) := by decide +kernel
theorem dX4_close_92 : decode cX4_close 92 = .ok (.goto 4, 3) := by decide +kernel
theorem dX4_close_95 : decode cX4_close 95 = .ok (.iconst 0, 1) := by decide +kernel
theorem dX4_close_96 : decode cX4_close 96 = .ok (.istore_n 2, 1) := by decide +kernel
theorem dX4_close_97 : decode cX4_close 97 = .ok (.iinc 3 1, 3) := by decide +kernel
theorem dX4_close_100 : decode cX4_close 100 = .ok (.goto (-34), 3) := by decide +kernel
theorem dX4_close_103 : decode cX4_close 103 = .ok (.iload_n 2, 1) := by decide +kernel
theorem dX4_close_104 : decode cX4_close 104 = .ok (.ifCond .ne 14, 3) := by decide +kernel
theorem dX4_close_107 : decode cX4_close 107 = .ok (.aload_n 0, 1) := by decide +kernel
theorem dX4_close_108 : decode cX4_close 108 = .ok (.bipush 6, 2) := by decide +kernel
theorem dX4_close_110 : decode cX4_close 110 = .ok (.aload_n 0, 1) := by decide +kernel
theorem dX4_close_111 : decode cX4_close 111 = .ok (.getfield 15, 3) := by decide +kernel
theorem dX4_close_114 : decode cX4_close 114 = .ok (.invokevirtual 78, 3) := by decide +kernel
theorem dX4_close_117 : decode cX4_close 117 = .ok (.pop, 1) := by decide +kernel
theorem dX4_close_118 : decode cX4_close 118 = .ok (.return_, 1) := by decide +kernel
theorem dX4_readLine_0 : decode cX4_readLine 0 = .ok (.aload_n 0, 1) := by decide +kernel
theorem dX4_readLine_1 : decode cX4_readLine 1 = .ok (.ldc 82, 2) := by decide +kernel
theorem dX4_readLine_3 : decode cX4_readLine 3 = .ok (.invokevirtual 84, 3) := by decide +kernel
theorem dX4_readLine_6 : decode cX4_readLine 6 = .ok (.ifCond .eq 10, 3) := by decide +kernel
theorem dX4_readLine_9 : decode cX4_readLine 9 = .ok (.aload_n 0, 1) := by decide +kernel
theorem dX4_readLine_10 : decode cX4_readLine 10 = .ok (.aload_n 1, 1) := by decide +kernel
theorem dX4_readLine_11 : decode cX4_readLine 11 = .ok (.iconst 0, 1) := by decide +kernel
theorem dX4_readLine_12 : decode cX4_readLine 12 = .ok (.invokevirtual 88, 3) := by decide +kernel
theorem dX4_readLine_15 : decode cX4_readLine 15 = .ok (.ireturn, 1) := by decide +kernel
theorem dX4_readLine_16 : decode cX4_readLine 16 = .ok (.aload_n 0, 1) := by decide +kernel
theorem dX4_readLine_17 : decode cX4_readLine 17 = .ok (.ldc 92, 2) := by decide +kernel
theorem dX4_readLine_19 : decode cX4_readLine 19 = .ok (.invokevirtual 84, 3) := by decide +kernel
theorem dX4_readLine_22 : decode cX4_readLine 22 = .ok (.ifCond .eq 10, 3) := by decide +kernel
theorem dX4_readLine_25 : decode cX4_readLine 25 = .ok (.aload_n 0, 1) := by decide +kernel
theorem dX4_readLine_26 : decode cX4_readLine 26 = .ok (.aload_n 1, 1) := by decide +kernel
theorem dX4_readLine_27 : decode cX4_readLine 27 = .ok (.iconst 1, 1) := by decide +kernel
theorem dX4_readLine_28 : decode cX4_readLine 28 = .ok (.invokevirtual 88, 3) := by decide +kernel
theorem dX4_readLine_31 : decode cX4_readLine 31 = .ok (.ireturn, 1) := by decide +kernel
theorem dX4_readLine_32 : decode cX4_readLine 32 = .ok (.aload_n 0, 1) := by decide +kernel
theorem dX4_readLine_33 : decode cX4_readLine 33 = .ok (.ldc 94, 2) := by decide +kernel
theorem dX4_readLine_35 : decode cX4_readLine 35 = .ok (.invokevirtual 84, 3) := by decide +kernel
theorem dX4_readLine_38 : decode cX4_readLine 38 = .ok (.ifCond .eq 10, 3) := by decide +kernel
theorem dX4_readLine_41 : decode cX4_readLine 41 = .ok (.aload_n 0, 1) := by decide +kernel
theorem dX4_readLine_42 : decode cX4_readLine 42 = .ok (.aload_n 1, 1) := by decide +kernel
theorem dX4_readLine_43 : decode cX4_readLine 43 = .ok (.iconst 2, 1) := by decide +kernel
theorem dX4_readLine_44 : decode cX4_readLine 44 = .ok (.invokevirtual 88, 3) := by decide +kernel
theorem dX4_readLine_47 : decode cX4_readLine 47 = .ok (.ireturn, 1) := by decide +kernel
theorem dX4_readLine_48 : decode cX4_readLine 48 = .ok (.aload_n 0, 1) := by decide +kernel
theorem dX4_readLine_49 : decode cX4_readLine 49 = .ok (.ldc 96, 2) := by decide +kernel
theorem dX4_readLine_51 : decode cX4_readLine 51 = .ok (.invokevirtual 84, 3) := by decide +kernel
theorem dX4_readLine_54 : decode cX4_readLine 54 = .ok (.ifCond .eq 9, 3) := by decide +kernel
theorem dX4_readLine_57 : decode cX4_readLine 57 = .ok (.aload_n 0, 1) := by decide +kernel
theorem dX4_readLine_58 : decode cX4_readLine 58 = .ok (.aload_n 1, 1) := by decide +kernel
theorem dX4_readLine_59 : decode cX4_readLine 59 = .ok (.invokevirtual 97, 3) := by decide +kernel
theorem dX4_readLine_62 : decode cX4_readLine 62 = .ok (.ireturn, 1) := by decide +kernel
theorem dX4_readLine_63 : decode cX4_readLine 63 = .ok (.aload_n 0, 1) := by decide +kernel
theorem dX4_readLine_64 : decode cX4_readLine 64 = .ok (.ldc 100, 2) := by decide +kernel
theorem dX4_readLine_66 : decode cX4_readLine 66 = .ok (.invokevirtual 84, 3) := by decide +kernel
theorem dX4_readLine_69 : decode cX4_readLine 69 = .ok (.ifCond .eq 9, 3) := by decide +kernel
theorem dX4_readLine_72 : decode cX4_readLine 72 = .ok (.aload_n 0, 1) := by decide +kernel
theorem dX4_readLine_73 : decode cX4_readLine 73 = .ok (.aload_n 1, 1) := by decide +kernel
theorem dX4_readLine_74 : decode cX4_readLine 74 = .ok (.invokevirtual 101, 3) := by decide +kernel
theorem dX4_readLine_77 : decode cX4_readLine 77 = .ok (.ireturn, 1) := by decide +kernel
theorem dX4_readLine_78 : decode cX4_readLine 78 = .ok (.aload_n 0, 1) := by decide +kernel
theorem dX4_readLine_79 : decode cX4_readLine 79 = .ok (.ldc 104, 2) := by decide +kernel
theorem dX4_readLine_81 : decode cX4_readLine 81 = .ok (.invokevirtual 84, 3) := by decide +kernel
theorem dX4_readLine_84 : decode cX4_readLine 84 = .ok (.ifCond .eq 9, 3) := by decide +kernel
theorem dX4_readLine_87 : decode cX4_readLine 87 = .ok (.aload_n 0, 1) := by decide +kernel
theorem dX4_readLine_88 : decode cX4_readLine 88 = .ok (.aload_n 1, 1) := by decide +kernel
theorem dX4_readLine_89 : decode cX4_readLine 89 = .ok (.invokevirtual 105, 3) := by decide +kernel
theorem dX4_readLine_92 : decode cX4_readLine 92 = .ok (.ireturn, 1) := by decide +kernel
theorem dX4_readLine_93 : decode cX4_readLine 93 = .ok (.aload_n 0, 1) := by decide +kernel
theorem dX4_readLine_94 : decode cX4_readLine 94 = .ok (.ldc 108, 2) := by decide +kernel
theorem dX4_readLine_96 : decode cX4_readLine 96 = .ok (.invokevirtual 84, 3) := by decide +kernel
theorem dX4_readLine_99 : decode cX4_readLine 99 = .ok (.ifCond .eq 9, 3) := by decide +kernel
theorem dX4_readLine_102 : decode cX4_readLine 102 = .ok (.aload_n 0, 1) := by decide +kernel
theorem dX4_readLine_103 : decode cX4_readLine 103 = .ok (.aload_n 1, 1) := by decide +kernel
theorem dX4_readLine_104 : decode cX4_readLine 104 = .ok (.invokevirtual 110, 3) := by decide +kernel
theorem dX4_readLine_107 : decode cX4_readLine 107 = .ok (.ireturn, 1) := by decide +kernel
theorem dX4_readLine_108 : decode cX4_readLine 108 = .ok (.aload_n 0, 1) := by decide +kernel
theorem dX4_readLine_109 : decode cX4_readLine 109 = .ok (.iconst 2, 1) := by decide +kernel
theorem dX4_readLine_110 : decode cX4_readLine 110 = .ok (.aload_n 0, 1) := by decide +kernel
theorem dX4_readLine_111 : decode cX4_readLine 111 = .ok (.getfield 113, 3) := by decide +kernel
theorem dX4_readLine_114 : decode cX4_readLine 114 = .ok (.invokevirtual 78, 3) := by decide +kernel
theorem dX4_readLine_117 : decode cX4_readLine 117 = .ok (.ireturn, 1) := by decide +kernel
theorem dX4_readClaim_0 : decode cX4_readClaim 0 = .ok (.aload_n 1, 1) := by decide +kernel
theorem dX4_readClaim_1 : decode cX4_readClaim 1 = .ok (.getfield 55, 3) := by decide +kernel
theorem dX4_readClaim_4 : decode cX4_readClaim 4 = .ok (.istore_n 3, 1) := by decide +kernel
theorem dX4_readClaim_5 : decode cX4_readClaim 5 = .ok (.iload_n 3, 1) := by decide +kernel
theorem dX4_readClaim_6 : decode cX4_readClaim 6 = .ok (.bipush 8, 2) := by decide +kernel
theorem dX4_readClaim_8 : decode cX4_readClaim 8 = .ok (.if_icmp .lt 13, 3) := by decide +kernel
theorem dX4_readClaim_11 : decode cX4_readClaim 11 = .ok (.aload_n 0, 1) := by decide +kernel
theorem dX4_readClaim_12 : decode cX4_readClaim 12 = .ok (.iconst 5, 1) := by decide +kernel
theorem dX4_readClaim_13 : decode cX4_readClaim 13 = .ok (.aload_n 0, 1) := by decide +kernel
theorem dX4_readClaim_14 : decode cX4_readClaim 14 = .ok (.getfield 113, 3) := by decide +kernel
theorem dX4_readClaim_17 : decode cX4_readClaim 17 = .ok (.invokevirtual 78, 3) := by decide +kernel
theorem dX4_readClaim_20 : decode cX4_readClaim 20 = .ok (.ireturn, 1) := by decide +kernel
theorem dX4_readClaim_21 : decode cX4_readClaim 21 = .ok (.aload_n 0, 1) := by decide +kernel
theorem dX4_readClaim_22 : decode cX4_readClaim 22 = .ok (.iconst 0, 1) := by decide +kernel
theorem dX4_readClaim_23 : decode cX4_readClaim 23 = .ok (.bipush 9, 2) := by decide +kernel
theorem dX4_readClaim_25 : decode cX4_readClaim 25 = .ok (.invokevirtual 116, 3) := by decide +kernel
theorem dX4_readClaim_28 : decode cX4_readClaim 28 = .ok (.ifCond .ne 5, 3) := by decide +kernel
theorem dX4_readClaim_31 : decode cX4_readClaim 31 = .ok (.iconst 0, 1) := by decide +kernel
theorem dX4_readClaim_32 : decode cX4_readClaim 32 = .ok (.ireturn, 1) := by decide +kernel
theorem dX4_readClaim_33 : decode cX4_readClaim 33 = .ok (.aload_n 1, 1) := by decide +kernel
theorem dX4_readClaim_34 : decode cX4_readClaim 34 = .ok (.getfield 119, 3) := by decide +kernel
theorem dX4_readClaim_37 : decode cX4_readClaim 37 = .ok (.iload_n 3, 1) := by decide +kernel
theorem dX4_readClaim_38 : decode cX4_readClaim 38 = .ok (.aload_n 0, 1) := by decide +kernel
theorem dX4_readClaim_39 : decode cX4_readClaim 39 = .ok (.getfield 122, 3) := by decide +kernel
theorem dX4_readClaim_42 : decode cX4_readClaim 42 = .ok (.iastore, 1) := by decide +kernel
theorem dX4_readClaim_43 : decode cX4_readClaim 43 = .ok (.aload_n 0, 1) := by decide +kernel
theorem dX4_readClaim_44 : decode cX4_readClaim 44 = .ok (.aload_n 0, 1) := by decide +kernel
theorem dX4_readClaim_45 : decode cX4_readClaim 45 = .ok (.getfield 122, 3) := by decide +kernel
theorem dX4_readClaim_48 : decode cX4_readClaim 48 = .ok (.bipush 9, 2) := by decide +kernel
theorem dX4_readClaim_50 : decode cX4_readClaim 50 = .ok (.invokevirtual 116, 3) := by decide +kernel
theorem dX4_readClaim_53 : decode cX4_readClaim 53 = .ok (.ifCond .ne 5, 3) := by decide +kernel
theorem dX4_readClaim_56 : decode cX4_readClaim 56 = .ok (.iconst 0, 1) := by decide +kernel
theorem dX4_readClaim_57 : decode cX4_readClaim 57 = .ok (.ireturn, 1) := by decide +kernel
theorem dX4_readClaim_58 : decode cX4_readClaim 58 = .ok (.aload_n 1, 1) := by decide +kernel
theorem dX4_readClaim_59 : decode cX4_readClaim 59 = .ok (.getfield 125, 3) := by decide +kernel
theorem dX4_readClaim_62 : decode cX4_readClaim 62 = .ok (.iload_n 3, 1) := by decide +kernel
theorem dX4_readClaim_63 : decode cX4_readClaim 63 = .ok (.aload_n 0, 1) := by decide +kernel
theorem dX4_readClaim_64 : decode cX4_readClaim 64 = .ok (.getfield 122, 3) := by decide +kernel
theorem dX4_readClaim_67 : decode cX4_readClaim 67 = .ok (.iastore, 1) := by decide +kernel
theorem dX4_readClaim_68 : decode cX4_readClaim 68 = .ok (.aload_n 0, 1) := by decide +kernel
theorem dX4_readClaim_69 : decode cX4_readClaim 69 = .ok (.iconst 0, 1) := by decide +kernel
theorem dX4_readClaim_70 : decode cX4_readClaim 70 = .ok (.bipush 9, 2) := by decide +kernel
theorem dX4_readClaim_72 : decode cX4_readClaim 72 = .ok (.invokevirtual 116, 3) := by decide +kernel
theorem dX4_readClaim_75 : decode cX4_readClaim 75 = .ok (.ifCond .ne 5, 3) := by decide +kernel
theorem dX4_readClaim_78 : decode cX4_readClaim 78 = .ok (.iconst 0, 1) := by decide +kernel
theorem dX4_readClaim_79 : decode cX4_readClaim 79 = .ok (.ireturn, 1) := by decide +kernel
theorem dX4_readClaim_80 : decode cX4_readClaim 80 = .ok (.aload_n 1, 1) := by decide +kernel
theorem dX4_readClaim_81 : decode cX4_readClaim 81 = .ok (.getfield 128, 3) := by decide +kernel
theorem dX4_readClaim_84 : decode cX4_readClaim 84 = .ok (.iload_n 3, 1) := by decide +kernel
theorem dX4_readClaim_85 : decode cX4_readClaim 85 = .ok (.aload_n 0, 1) := by decide +kernel
theorem dX4_readClaim_86 : decode cX4_readClaim 86 = .ok (.getfield 122, 3) := by decide +kernel
theorem dX4_readClaim_89 : decode cX4_readClaim 89 = .ok (.iastore, 1) := by decide +kernel
theorem dX4_readClaim_90 : decode cX4_readClaim 90 = .ok (.aload_n 1, 1) := by decide +kernel
theorem dX4_readClaim_91 : decode cX4_readClaim 91 = .ok (.getfield 131, 3) := by decide +kernel
theorem dX4_readClaim_94 : decode cX4_readClaim 94 = .ok (.iload_n 3, 1) := by decide +kernel
theorem dX4_readClaim_95 : decode cX4_readClaim 95 = .ok (.iload_n 2, 1) := by decide +kernel
theorem dX4_readClaim_96 : decode cX4_readClaim 96 = .ok (.iastore, 1) := by decide +kernel
theorem dX4_readClaim_97 : decode cX4_readClaim 97 = .ok (.aload_n 1, 1) := by decide +kernel
theorem dX4_readClaim_98 : decode cX4_readClaim 98 = .ok (.getfield 134, 3) := by decide +kernel
theorem dX4_readClaim_101 : decode cX4_readClaim 101 = .ok (.iload_n 3, 1) := by decide +kernel
theorem dX4_readClaim_102 : decode cX4_readClaim 102 = .ok (.iconst 0, 1) := by decide +kernel
theorem dX4_readClaim_103 : decode cX4_readClaim 103 = .ok (.iastore, 1) := by decide +kernel
theorem dX4_readClaim_104 : decode cX4_readClaim 104 = .ok (.aload_n 1, 1) := by decide +kernel
theorem dX4_readClaim_105 : decode cX4_readClaim 105 = .ok (.getfield 137, 3) := by decide +kernel
theorem dX4_readClaim_108 : decode cX4_readClaim 108 = .ok (.iload_n 3, 1) := by decide +kernel
theorem dX4_readClaim_109 : decode cX4_readClaim 109 = .ok (.iconst 0, 1) := by decide +kernel
theorem dX4_readClaim_110 : decode cX4_readClaim 110 = .ok (.iastore, 1) := by decide +kernel
theorem dX4_readClaim_111 : decode cX4_readClaim 111 = .ok (.aload_n 1, 1) := by decide +kernel
theorem dX4_readClaim_112 : decode cX4_readClaim 112 = .ok (.dup, 1) := by decide +kernel
theorem dX4_readClaim_113 : decode cX4_readClaim 113 = .ok (.getfield 55, 3) := by decide +kernel
theorem dX4_readClaim_116 : decode cX4_readClaim 116 = .ok (.iconst 1, 1) := by decide +kernel
theorem dX4_readClaim_117 : decode cX4_readClaim 117 = .ok (.iadd, 1) := by decide +kernel
theorem dX4_readClaim_118 : decode cX4_readClaim 118 = .ok (.putfield 55, 3) := by decide +kernel
theorem dX4_readClaim_121 : decode cX4_readClaim 121 = .ok (.aload_n 0, 1) := by decide +kernel
theorem dX4_readClaim_122 : decode cX4_readClaim 122 = .ok (.aload_n 1, 1) := by decide +kernel
theorem dX4_readClaim_123 : decode cX4_readClaim 123 = .ok (.iload_n 3, 1) := by decide +kernel
theorem dX4_readClaim_124 : decode cX4_readClaim 124 = .ok (.invokevirtual 140, 3) := by decide +kernel
theorem dX4_readClaim_127 : decode cX4_readClaim 127 = .ok (.ireturn, 1) := by decide +kernel
theorem dX4_readGrounds_0 : decode cX4_readGrounds 0 = .ok (.iconst 0, 1) := by decide +kernel
theorem dX4_readGrounds_1 : decode cX4_readGrounds 1 = .ok (.istore_n 3, 1) := by decide +kernel
theorem dX4_readGrounds_2 : decode cX4_readGrounds 2 = .ok (.iconst 0, 1) := by decide +kernel
theorem dX4_readGrounds_3 : decode cX4_readGrounds 3 = .ok (.istore 4, 2) := by decide +kernel
theorem dX4_readGrounds_5 : decode cX4_readGrounds 5 = .ok (.iload 4, 2) := by decide +kernel
theorem dX4_readGrounds_7 : decode cX4_readGrounds 7 = .ok (.sipush 160, 3) := by decide +kernel
theorem dX4_readGrounds_10 : decode cX4_readGrounds 10 = .ok (.if_icmp .gt 79, 3) := by decide +kernel
theorem dX4_readGrounds_13 : decode cX4_readGrounds 13 = .ok (.aload_n 0, 1) := by decide +kernel
theorem dX4_readGrounds_14 : decode cX4_readGrounds 14 = .ok (.invokevirtual 40, 3) := by decide +kernel
theorem dX4_readGrounds_17 : decode cX4_readGrounds 17 = .ok (.ifCond .ne 5, 3) := by decide +kernel
theorem dX4_readGrounds_20 : decode cX4_readGrounds 20 = .ok (.iconst 0, 1) := by decide +kernel
theorem dX4_readGrounds_21 : decode cX4_readGrounds 21 = .ok (.ireturn, 1) := by decide +kernel
theorem dX4_readGrounds_22 : decode cX4_readGrounds 22 = .ok (.aload_n 0, 1) := by decide +kernel
theorem dX4_readGrounds_23 : decode cX4_readGrounds 23 = .ok (.getfield 44, 3) := by decide +kernel
theorem dX4_readGrounds_26 : decode cX4_readGrounds 26 = .ok (.iconst 2, 1) := by decide +kernel
theorem dX4_readGrounds_27 : decode cX4_readGrounds 27 = .ok (.if_icmp .ne 15, 3) := by decide +kernel
theorem dX4_readGrounds_30 : decode cX4_readGrounds 30 = .ok (.aload_n 0, 1) := by decide +kernel
theorem dX4_readGrounds_31 : decode cX4_readGrounds 31 = .ok (.aload_n 1, 1) := by decide +kernel
theorem dX4_readGrounds_32 : decode cX4_readGrounds 32 = .ok (.iload_n 2, 1) := by decide +kernel
theorem dX4_readGrounds_33 : decode cX4_readGrounds 33 = .ok (.iload_n 3, 1) := by decide +kernel
theorem dX4_readGrounds_34 : decode cX4_readGrounds 34 = .ok (.invokevirtual 143, 3) := by decide +kernel
theorem dX4_readGrounds_37 : decode cX4_readGrounds 37 = .ok (.ifCond .ne 46, 3) := by decide +kernel
theorem dX4_readGrounds_40 : decode cX4_readGrounds 40 = .ok (.iconst 0, 1) := by decide +kernel
theorem dX4_readGrounds_41 : decode cX4_readGrounds 41 = .ok (.ireturn, 1) := by decide +kernel
theorem dX4_readGrounds_42 : decode cX4_readGrounds 42 = .ok (.iload_n 3, 1) := by decide +kernel
theorem dX4_readGrounds_43 : decode cX4_readGrounds 43 = .ok (.ifCond .ne 17, 3) := by decide +kernel
theorem dX4_readGrounds_46 : decode cX4_readGrounds 46 = .ok (.aload_n 0, 1) := by decide +kernel
theorem dX4_readGrounds_47 : decode cX4_readGrounds 47 = .ok (.ldc 147, 2) := by decide +kernel
theorem dX4_readGrounds_49 : decode cX4_readGrounds 49 = .ok (.invokevirtual 84, 3) := by decide +kernel
theorem dX4_readGrounds_52 : decode cX4_readGrounds 52 = .ok (.ifCond .eq 8, 3) := by decide +kernel
theorem dX4_readGrounds_55 : decode cX4_readGrounds 55 = .ok (.iconst 1, 1) := by decide +kernel
theorem dX4_readGrounds_56 : decode cX4_readGrounds 56 = .ok (.istore_n 3, 1) := by decide +kernel
theorem dX4_readGrounds_57 : decode cX4_readGrounds 57 = .ok (.goto 26, 3) := by decide +kernel
theorem dX4_readGrounds_60 : decode cX4_readGrounds 60 = .ok (.aload_n 0, 1) := by decide +kernel
theorem dX4_readGrounds_61 : decode cX4_readGrounds 61 = .ok (.getfield 44, 3) := by decide +kernel
theorem dX4_readGrounds_64 : decode cX4_readGrounds 64 = .ok (.iconst 3, 1) := by decide +kernel
theorem dX4_readGrounds_65 : decode cX4_readGrounds 65 = .ok (.if_icmp .ne 24, 3) := by decide +kernel
theorem dX4_readGrounds_68 : decode cX4_readGrounds 68 = .ok (.iload_n 3, 1) := by decide +kernel
theorem dX4_readGrounds_69 : decode cX4_readGrounds 69 = .ok (.ifCond .eq 12, 3) := by decide +kernel
theorem dX4_readGrounds_72 : decode cX4_readGrounds 72 = .ok (.aload_n 1, 1) := by decide +kernel
theorem dX4_readGrounds_73 : decode cX4_readGrounds 73 = .ok (.getfield 137, 3) := by decide +kernel
theorem dX4_readGrounds_76 : decode cX4_readGrounds 76 = .ok (.iload_n 2, 1) := by decide +kernel
theorem dX4_readGrounds_77 : decode cX4_readGrounds 77 = .ok (.iaload, 1) := by decide +kernel
theorem dX4_readGrounds_78 : decode cX4_readGrounds 78 = .ok (.ifCond .eq 11, 3) := by decide +kernel
theorem dX4_readGrounds_81 : decode cX4_readGrounds 81 = .ok (.iconst 1, 1) := by decide +kernel
theorem dX4_readGrounds_82 : decode cX4_readGrounds 82 = .ok (.ireturn, 1) := by decide +kernel
theorem dX4_readGrounds_83 : decode cX4_readGrounds 83 = .ok (.iinc 4 1, 3) := by decide +kernel
theorem dX4_readGrounds_86 : decode cX4_readGrounds 86 = .ok (.goto (-81), 3) := by decide +kernel
theorem dX4_readGrounds_89 : decode cX4_readGrounds 89 = .ok (.aload_n 0, 1) := by decide +kernel
theorem dX4_readGrounds_90 : decode cX4_readGrounds 90 = .ok (.iconst 2, 1) := by decide +kernel
theorem dX4_readGrounds_91 : decode cX4_readGrounds 91 = .ok (.aload_n 0, 1) := by decide +kernel
theorem dX4_readGrounds_92 : decode cX4_readGrounds 92 = .ok (.getfield 113, 3) := by decide +kernel
theorem dX4_readGrounds_95 : decode cX4_readGrounds 95 = .ok (.invokevirtual 78, 3) := by decide +kernel
theorem dX4_readGrounds_98 : decode cX4_readGrounds 98 = .ok (.ireturn, 1) := by decide +kernel
theorem dX4_takeGround_0 : decode cX4_takeGround 0 = .ok (.aload_n 0, 1) := by decide +kernel
theorem dX4_takeGround_1 : decode cX4_takeGround 1 = .ok (.getfield 122, 3) := by decide +kernel
theorem dX4_takeGround_4 : decode cX4_takeGround 4 = .ok (.iload_n 2, 1) := by decide +kernel
theorem dX4_takeGround_5 : decode cX4_takeGround 5 = .ok (.if_icmp .lt 13, 3) := by decide +kernel
theorem dX4_takeGround_8 : decode cX4_takeGround 8 = .ok (.aload_n 0, 1) := by decide +kernel
theorem dX4_takeGround_9 : decode cX4_takeGround 9 = .ok (.iconst 3, 1) := by decide +kernel
theorem dX4_takeGround_10 : decode cX4_takeGround 10 = .ok (.aload_n 0, 1) := by decide +kernel
theorem dX4_takeGround_11 : decode cX4_takeGround 11 = .ok (.getfield 113, 3) := by decide +kernel
theorem dX4_takeGround_14 : decode cX4_takeGround 14 = .ok (.invokevirtual 78, 3) := by decide +kernel
theorem dX4_takeGround_17 : decode cX4_takeGround 17 = .ok (.ireturn, 1) := by decide +kernel
theorem dX4_takeGround_18 : decode cX4_takeGround 18 = .ok (.iconst 1, 1) := by decide +kernel
theorem dX4_takeGround_19 : decode cX4_takeGround 19 = .ok (.aload_n 0, 1) := by decide +kernel
theorem dX4_takeGround_20 : decode cX4_takeGround 20 = .ok (.getfield 122, 3) := by decide +kernel
theorem dX4_takeGround_23 : decode cX4_takeGround 23 = .ok (.ishl, 1) := by decide +kernel
theorem dX4_takeGround_24 : decode cX4_takeGround 24 = .ok (.istore 4, 2) := by decide +kernel
theorem dX4_takeGround_26 : decode cX4_takeGround 26 = .ok (.aload_n 1, 1) := by decide +kernel
theorem dX4_takeGround_27 : decode cX4_takeGround 27 = .ok (.getfield 134, 3) := by decide +kernel
theorem dX4_takeGround_30 : decode cX4_takeGround 30 = .ok (.iload_n 2, 1) := by decide +kernel
theorem dX4_takeGround_31 : decode cX4_takeGround 31 = .ok (.iaload, 1) := by decide +kernel
theorem dX4_takeGround_32 : decode cX4_takeGround 32 = .ok (.aload_n 1, 1) := by decide +kernel
theorem dX4_takeGround_33 : decode cX4_takeGround 33 = .ok (.getfield 137, 3) := by decide +kernel
theorem dX4_takeGround_36 : decode cX4_takeGround 36 = .ok (.iload_n 2, 1) := by decide +kernel
theorem dX4_takeGround_37 : decode cX4_takeGround 37 = .ok (.iaload, 1) := by decide +kernel
theorem dX4_takeGround_38 : decode cX4_takeGround 38 = .ok (.ior, 1) := by decide +kernel
theorem dX4_takeGround_39 : decode cX4_takeGround 39 = .ok (.iload 4, 2) := by decide +kernel
theorem dX4_takeGround_41 : decode cX4_takeGround 41 = .ok (.iand, 1) := by decide +kernel
theorem dX4_takeGround_42 : decode cX4_takeGround 42 = .ok (.ifCond .eq 13, 3) := by decide +kernel
theorem dX4_takeGround_45 : decode cX4_takeGround 45 = .ok (.aload_n 0, 1) := by decide +kernel
theorem dX4_takeGround_46 : decode cX4_takeGround 46 = .ok (.iconst 4, 1) := by decide +kernel
theorem dX4_takeGround_47 : decode cX4_takeGround 47 = .ok (.aload_n 0, 1) := by decide +kernel
theorem dX4_takeGround_48 : decode cX4_takeGround 48 = .ok (.getfield 113, 3) := by decide +kernel
theorem dX4_takeGround_51 : decode cX4_takeGround 51 = .ok (.invokevirtual 78, 3) := by decide +kernel
theorem dX4_takeGround_54 : decode cX4_takeGround 54 = .ok (.ireturn, 1) := by decide +kernel
theorem dX4_takeGround_55 : decode cX4_takeGround 55 = .ok (.iload_n 3, 1) := by decide +kernel
theorem dX4_takeGround_56 : decode cX4_takeGround 56 = .ok (.ifCond .eq 17, 3) := by decide +kernel
theorem dX4_takeGround_59 : decode cX4_takeGround 59 = .ok (.aload_n 1, 1) := by decide +kernel
theorem dX4_takeGround_60 : decode cX4_takeGround 60 = .ok (.getfield 137, 3) := by decide +kernel
theorem dX4_takeGround_63 : decode cX4_takeGround 63 = .ok (.iload_n 2, 1) := by decide +kernel
theorem dX4_takeGround_64 : decode cX4_takeGround 64 = .ok (.dup2, 1) := by decide +kernel
theorem dX4_takeGround_65 : decode cX4_takeGround 65 = .ok (.iaload, 1) := by decide +kernel
theorem dX4_takeGround_66 : decode cX4_takeGround 66 = .ok (.iload 4, 2) := by decide +kernel
theorem dX4_takeGround_68 : decode cX4_takeGround 68 = .ok (.ior, 1) := by decide +kernel
theorem dX4_takeGround_69 : decode cX4_takeGround 69 = .ok (.iastore, 1) := by decide +kernel
theorem dX4_takeGround_70 : decode cX4_takeGround 70 = .ok (.goto 14, 3) := by decide +kernel
theorem dX4_takeGround_73 : decode cX4_takeGround 73 = .ok (.aload_n 1, 1) := by decide +kernel
theorem dX4_takeGround_74 : decode cX4_takeGround 74 = .ok (.getfield 134, 3) := by decide +kernel
theorem dX4_takeGround_77 : decode cX4_takeGround 77 = .ok (.iload_n 2, 1) := by decide +kernel
theorem dX4_takeGround_78 : decode cX4_takeGround 78 = .ok (.dup2, 1) := by decide +kernel
theorem dX4_takeGround_79 : decode cX4_takeGround 79 = .ok (.iaload, 1) := by decide +kernel
theorem dX4_takeGround_80 : decode cX4_takeGround 80 = .ok (.iload 4, 2) := by decide +kernel
theorem dX4_takeGround_82 : decode cX4_takeGround 82 = .ok (.ior, 1) := by decide +kernel
theorem dX4_takeGround_83 : decode cX4_takeGround 83 = .ok (.iastore, 1) := by decide +kernel
theorem dX4_takeGround_84 : decode cX4_takeGround 84 = .ok (.iconst 1, 1) := by decide +kernel
theorem dX4_takeGround_85 : decode cX4_takeGround 85 = .ok (.ireturn, 1) := by decide +kernel
theorem dX4_readEnd_0 : decode cX4_readEnd 0 = .ok (.aload_n 0, 1) := by decide +kernel
theorem dX4_readEnd_1 : decode cX4_readEnd 1 = .ok (.getfield 33, 3) := by decide +kernel
theorem dX4_readEnd_4 : decode cX4_readEnd 4 = .ok (.ifCond .eq 13, 3) := by decide +kernel
theorem dX4_readEnd_7 : decode cX4_readEnd 7 = .ok (.aload_n 0, 1) := by decide +kernel
theorem dX4_readEnd_8 : decode cX4_readEnd 8 = .ok (.iconst 4, 1) := by decide +kernel
theorem dX4_readEnd_9 : decode cX4_readEnd 9 = .ok (.aload_n 0, 1) := by decide +kernel
theorem dX4_readEnd_10 : decode cX4_readEnd 10 = .ok (.getfield 113, 3) := by decide +kernel
theorem dX4_readEnd_13 : decode cX4_readEnd 13 = .ok (.invokevirtual 78, 3) := by decide +kernel
theorem dX4_readEnd_16 : decode cX4_readEnd 16 = .ok (.ireturn, 1) := by decide +kernel
theorem dX4_readEnd_17 : decode cX4_readEnd 17 = .ok (.aload_n 0, 1) := by decide +kernel
theorem dX4_readEnd_18 : decode cX4_readEnd 18 = .ok (.iconst 0, 1) := by decide +kernel
theorem dX4_readEnd_19 : decode cX4_readEnd 19 = .ok (.bipush 7, 2) := by decide +kernel
theorem dX4_readEnd_21 : decode cX4_readEnd 21 = .ok (.invokevirtual 116, 3) := by decide +kernel
theorem dX4_readEnd_24 : decode cX4_readEnd 24 = .ok (.ifCond .ne 5, 3) := by decide +kernel
theorem dX4_readEnd_27 : decode cX4_readEnd 27 = .ok (.iconst 0, 1) := by decide +kernel
theorem dX4_readEnd_28 : decode cX4_readEnd 28 = .ok (.ireturn, 1) := by decide +kernel
theorem dX4_readEnd_29 : decode cX4_readEnd 29 = .ok (.aload_n 1, 1) := by decide +kernel
theorem dX4_readEnd_30 : decode cX4_readEnd 30 = .ok (.aload_n 0, 1) := by decide +kernel
theorem dX4_readEnd_31 : decode cX4_readEnd 31 = .ok (.getfield 122, 3) := by decide +kernel
theorem dX4_readEnd_34 : decode cX4_readEnd 34 = .ok (.putfield 58, 3) := by decide +kernel
theorem dX4_readEnd_37 : decode cX4_readEnd 37 = .ok (.aload_n 0, 1) := by decide +kernel
theorem dX4_readEnd_38 : decode cX4_readEnd 38 = .ok (.iconst 1, 1) := by decide +kernel
theorem dX4_readEnd_39 : decode cX4_readEnd 39 = .ok (.putfield 33, 3) := by decide +kernel
theorem dX4_readEnd_42 : decode cX4_readEnd 42 = .ok (.aload_n 0, 1) := by decide +kernel
theorem dX4_readEnd_43 : decode cX4_readEnd 43 = .ok (.invokevirtual 149, 3) := by decide +kernel
theorem dX4_readEnd_46 : decode cX4_readEnd 46 = .ok (.ireturn, 1) := by decide +kernel
theorem dX4_readPlan_0 : decode cX4_readPlan 0 = .ok (.aload_n 1, 1) := by decide +kernel
theorem dX4_readPlan_1 : decode cX4_readPlan 1 = .ok (.getfield 71, 3) := by decide +kernel
theorem dX4_readPlan_4 : decode cX4_readPlan 4 = .ok (.bipush 6, 2) := by decide +kernel
theorem dX4_readPlan_6 : decode cX4_readPlan 6 = .ok (.if_icmp .lt 13, 3) := by decide +kernel
theorem dX4_readPlan_9 : decode cX4_readPlan 9 = .ok (.aload_n 0, 1) := by decide +kernel
theorem dX4_readPlan_10 : decode cX4_readPlan 10 = .ok (.iconst 5, 1) := by decide +kernel
theorem dX4_readPlan_11 : decode cX4_readPlan 11 = .ok (.aload_n 0, 1) := by decide +kernel
theorem dX4_readPlan_12 : decode cX4_readPlan 12 = .ok (.getfield 113, 3) := by decide +kernel
theorem dX4_readPlan_15 : decode cX4_readPlan 15 = .ok (.invokevirtual 78, 3) := by decide +kernel
theorem dX4_readPlan_18 : decode cX4_readPlan 18 = .ok (.ireturn, 1) := by decide +kernel
theorem dX4_readPlan_19 : decode cX4_readPlan 19 = .ok (.aload_n 0, 1) := by decide +kernel
theorem dX4_readPlan_20 : decode cX4_readPlan 20 = .ok (.iconst 0, 1) := by decide +kernel
theorem dX4_readPlan_21 : decode cX4_readPlan 21 = .ok (.bipush 7, 2) := by decide +kernel
theorem dX4_readPlan_23 : decode cX4_readPlan 23 = .ok (.invokevirtual 116, 3) := by decide +kernel
theorem dX4_readPlan_26 : decode cX4_readPlan 26 = .ok (.ifCond .eq 25, 3) := by decide +kernel
theorem dX4_readPlan_29 : decode cX4_readPlan 29 = .ok (.aload_n 1, 1) := by decide +kernel
theorem dX4_readPlan_30 : decode cX4_readPlan 30 = .ok (.aload_n 0, 1) := by decide +kernel
theorem dX4_readPlan_31 : decode cX4_readPlan 31 = .ok (.getfield 122, 3) := by decide +kernel
theorem dX4_readPlan_34 : decode cX4_readPlan 34 = .ok (.invokevirtual 152, 3) := by decide +kernel
theorem dX4_readPlan_37 : decode cX4_readPlan 37 = .ok (.ifCond .eq 14, 3) := by decide +kernel
theorem dX4_readPlan_40 : decode cX4_readPlan 40 = .ok (.aload_n 0, 1) := by decide +kernel
theorem dX4_readPlan_41 : decode cX4_readPlan 41 = .ok (.invokevirtual 149, 3) := by decide +kernel
theorem dX4_readPlan_44 : decode cX4_readPlan 44 = .ok (.ifCond .eq 7, 3) := by decide +kernel
theorem dX4_readPlan_47 : decode cX4_readPlan 47 = .ok (.iconst 1, 1) := by decide +kernel
theorem dX4_readPlan_48 : decode cX4_readPlan 48 = .ok (.goto 4, 3) := by decide +kernel
theorem dX4_readPlan_51 : decode cX4_readPlan 51 = .ok (.iconst 0, 1) := by decide +kernel
theorem dX4_readPlan_52 : decode cX4_readPlan 52 = .ok (.ireturn, 1) := by decide +kernel
theorem dX4_readSaid_0 : decode cX4_readSaid 0 = .ok (.aload_n 0, 1) := by decide +kernel
theorem dX4_readSaid_1 : decode cX4_readSaid 1 = .ok (.iconst 0, 1) := by decide +kernel
theorem dX4_readSaid_2 : decode cX4_readSaid 2 = .ok (.bipush 7, 2) := by decide +kernel
theorem dX4_readSaid_4 : decode cX4_readSaid 4 = .ok (.invokevirtual 116, 3) := by decide +kernel
theorem dX4_readSaid_7 : decode cX4_readSaid 7 = .ok (.ifCond .ne 5, 3) := by decide +kernel
theorem dX4_readSaid_10 : decode cX4_readSaid 10 = .ok (.iconst 0, 1) := by decide +kernel
theorem dX4_readSaid_11 : decode cX4_readSaid 11 = .ok (.ireturn, 1) := by decide +kernel
theorem dX4_readSaid_12 : decode cX4_readSaid 12 = .ok (.aload_n 1, 1) := by decide +kernel
theorem dX4_readSaid_13 : decode cX4_readSaid 13 = .ok (.aload_n 0, 1) := by decide +kernel
theorem dX4_readSaid_14 : decode cX4_readSaid 14 = .ok (.getfield 122, 3) := by decide +kernel
theorem dX4_readSaid_17 : decode cX4_readSaid 17 = .ok (.invokevirtual 155, 3) := by decide +kernel
theorem dX4_readSaid_20 : decode cX4_readSaid 20 = .ok (.ifCond .eq 13, 3) := by decide +kernel
theorem dX4_readSaid_23 : decode cX4_readSaid 23 = .ok (.aload_n 0, 1) := by decide +kernel
theorem dX4_readSaid_24 : decode cX4_readSaid 24 = .ok (.iconst 4, 1) := by decide +kernel
theorem dX4_readSaid_25 : decode cX4_readSaid 25 = .ok (.aload_n 0, 1) := by decide +kernel
theorem dX4_readSaid_26 : decode cX4_readSaid 26 = .ok (.getfield 113, 3) := by decide +kernel
theorem dX4_readSaid_29 : decode cX4_readSaid 29 = .ok (.invokevirtual 78, 3) := by decide +kernel
theorem dX4_readSaid_32 : decode cX4_readSaid 32 = .ok (.ireturn, 1) := by decide +kernel
theorem dX4_readSaid_33 : decode cX4_readSaid 33 = .ok (.aload_n 1, 1) := by decide +kernel
theorem dX4_readSaid_34 : decode cX4_readSaid 34 = .ok (.dup, 1) := by decide +kernel
theorem dX4_readSaid_35 : decode cX4_readSaid 35 = .ok (.getfield 61, 3) := by decide +kernel
theorem dX4_readSaid_38 : decode cX4_readSaid 38 = .ok (.iconst 1, 1) := by decide +kernel
theorem dX4_readSaid_39 : decode cX4_readSaid 39 = .ok (.aload_n 0, 1) := by decide +kernel
theorem dX4_readSaid_40 : decode cX4_readSaid 40 = .ok (.getfield 122, 3) := by decide +kernel
theorem dX4_readSaid_43 : decode cX4_readSaid 43 = .ok (.ishl, 1) := by decide +kernel
theorem dX4_readSaid_44 : decode cX4_readSaid 44 = .ok (.ior, 1) := by decide +kernel
theorem dX4_readSaid_45 : decode cX4_readSaid 45 = .ok (.putfield 61, 3) := by decide +kernel
theorem dX4_readSaid_48 : decode cX4_readSaid 48 = .ok (.aload_n 0, 1) := by decide +kernel
theorem dX4_readSaid_49 : decode cX4_readSaid 49 = .ok (.invokevirtual 149, 3) := by decide +kernel
theorem dX4_readSaid_52 : decode cX4_readSaid 52 = .ok (.ireturn, 1) := by decide +kernel
theorem dX4_readDay_0 : decode cX4_readDay 0 = .ok (.aload_n 0, 1) := by decide +kernel
theorem dX4_readDay_1 : decode cX4_readDay 1 = .ok (.getfield 37, 3) := by decide +kernel
theorem dX4_readDay_4 : decode cX4_readDay 4 = .ok (.ifCond .eq 13, 3) := by decide +kernel
theorem dX4_readDay_7 : decode cX4_readDay 7 = .ok (.aload_n 0, 1) := by decide +kernel
theorem dX4_readDay_8 : decode cX4_readDay 8 = .ok (.iconst 4, 1) := by decide +kernel
theorem dX4_readDay_9 : decode cX4_readDay 9 = .ok (.aload_n 0, 1) := by decide +kernel
theorem dX4_readDay_10 : decode cX4_readDay 10 = .ok (.getfield 113, 3) := by decide +kernel
theorem dX4_readDay_13 : decode cX4_readDay 13 = .ok (.invokevirtual 78, 3) := by decide +kernel
theorem dX4_readDay_16 : decode cX4_readDay 16 = .ok (.ireturn, 1) := by decide +kernel
theorem dX4_readDay_17 : decode cX4_readDay 17 = .ok (.aload_n 0, 1) := by decide +kernel
theorem dX4_readDay_18 : decode cX4_readDay 18 = .ok (.iconst 0, 1) := by decide +kernel
theorem dX4_readDay_19 : decode cX4_readDay 19 = .ok (.bipush 9, 2) := by decide +kernel
theorem dX4_readDay_21 : decode cX4_readDay 21 = .ok (.invokevirtual 116, 3) := by decide +kernel
theorem dX4_readDay_24 : decode cX4_readDay 24 = .ok (.ifCond .ne 5, 3) := by decide +kernel
theorem dX4_readDay_27 : decode cX4_readDay 27 = .ok (.iconst 0, 1) := by decide +kernel
theorem dX4_readDay_28 : decode cX4_readDay 28 = .ok (.ireturn, 1) := by decide +kernel
theorem dX4_readDay_29 : decode cX4_readDay 29 = .ok (.aload_n 1, 1) := by decide +kernel
theorem dX4_readDay_30 : decode cX4_readDay 30 = .ok (.aload_n 0, 1) := by decide +kernel
theorem dX4_readDay_31 : decode cX4_readDay 31 = .ok (.getfield 122, 3) := by decide +kernel
theorem dX4_readDay_34 : decode cX4_readDay 34 = .ok (.putfield 158, 3) := by decide +kernel
theorem dX4_readDay_37 : decode cX4_readDay 37 = .ok (.aload_n 0, 1) := by decide +kernel
theorem dX4_readDay_38 : decode cX4_readDay 38 = .ok (.iconst 1, 1) := by decide +kernel
theorem dX4_readDay_39 : decode cX4_readDay 39 = .ok (.putfield 37, 3) := by decide +kernel
theorem dX4_readDay_42 : decode cX4_readDay 42 = .ok (.aload_n 0, 1) := by decide +kernel
theorem dX4_readDay_43 : decode cX4_readDay 43 = .ok (.invokevirtual 149, 3) := by decide +kernel
theorem dX4_readDay_46 : decode cX4_readDay 46 = .ok (.ireturn, 1) := by decide +kernel
theorem dX4_readNumber_0 : decode cX4_readNumber 0 = .ok (.aload_n 0, 1) := by decide +kernel
theorem dX4_readNumber_1 : decode cX4_readNumber 1 = .ok (.invokevirtual 40, 3) := by decide +kernel
theorem dX4_readNumber_4 : decode cX4_readNumber 4 = .ok (.ifCond .ne 5, 3) := by decide +kernel
theorem dX4_readNumber_7 : decode cX4_readNumber 7 = .ok (.iconst 0, 1) := by decide +kernel
theorem dX4_readNumber_8 : decode cX4_readNumber 8 = .ok (.ireturn, 1) := by decide +kernel
theorem dX4_readNumber_9 : decode cX4_readNumber 9 = .ok (.aload_n 0, 1) := by decide +kernel
theorem dX4_readNumber_10 : decode cX4_readNumber 10 = .ok (.getfield 44, 3) := by decide +kernel
theorem dX4_readNumber_13 : decode cX4_readNumber 13 = .ok (.iconst 2, 1) := by decide +kernel
theorem dX4_readNumber_14 : decode cX4_readNumber 14 = .ok (.if_icmp .eq 13, 3) := by decide +kernel
theorem dX4_readNumber_17 : decode cX4_readNumber 17 = .ok (.aload_n 0, 1) := by decide +kernel
theorem dX4_readNumber_18 : decode cX4_readNumber 18 = .ok (.iconst 2, 1) := by decide +kernel
theorem dX4_readNumber_19 : decode cX4_readNumber 19 = .ok (.aload_n 0, 1) := by decide +kernel
theorem dX4_readNumber_20 : decode cX4_readNumber 20 = .ok (.getfield 113, 3) := by decide +kernel
theorem dX4_readNumber_23 : decode cX4_readNumber 23 = .ok (.invokevirtual 78, 3) := by decide +kernel
theorem dX4_readNumber_26 : decode cX4_readNumber 26 = .ok (.ireturn, 1) := by decide +kernel
theorem dX4_readNumber_27 : decode cX4_readNumber 27 = .ok (.aload_n 0, 1) := by decide +kernel
theorem dX4_readNumber_28 : decode cX4_readNumber 28 = .ok (.getfield 122, 3) := by decide +kernel
theorem dX4_readNumber_31 : decode cX4_readNumber 31 = .ok (.iload_n 1, 1) := by decide +kernel
theorem dX4_readNumber_32 : decode cX4_readNumber 32 = .ok (.iload_n 2, 1) := by decide +kernel
theorem dX4_readNumber_33 : decode cX4_readNumber 33 = .ok (.invokestatic 160, 3) := by decide +kernel
theorem dX4_readNumber_36 : decode cX4_readNumber 36 = .ok (.ifCond .ne 15, 3) := by decide +kernel
theorem dX4_readNumber_39 : decode cX4_readNumber 39 = .ok (.aload_n 0, 1) := by decide +kernel
theorem dX4_readNumber_40 : decode cX4_readNumber 40 = .ok (.iconst 3, 1) := by decide +kernel
theorem dX4_readNumber_41 : decode cX4_readNumber 41 = .ok (.aload_n 0, 1) := by decide +kernel
theorem dX4_readNumber_42 : decode cX4_readNumber 42 = .ok (.getfield 113, 3) := by decide +kernel
theorem dX4_readNumber_45 : decode cX4_readNumber 45 = .ok (.invokevirtual 78, 3) := by decide +kernel
theorem dX4_readNumber_48 : decode cX4_readNumber 48 = .ok (.ifCond .eq 7, 3) := by decide +kernel
theorem dX4_readNumber_51 : decode cX4_readNumber 51 = .ok (.iconst 1, 1) := by decide +kernel
theorem dX4_readNumber_52 : decode cX4_readNumber 52 = .ok (.goto 4, 3) := by decide +kernel
theorem dX4_readNumber_55 : decode cX4_readNumber 55 = .ok (.iconst 0, 1) := by decide +kernel
theorem dX4_readNumber_56 : decode cX4_readNumber 56 = .ok (.ireturn, 1) := by decide +kernel
theorem dX4_readStop_0 : decode cX4_readStop 0 = .ok (.aload_n 0, 1) := by decide +kernel
theorem dX4_readStop_1 : decode cX4_readStop 1 = .ok (.invokevirtual 40, 3) := by decide +kernel
theorem dX4_readStop_4 : decode cX4_readStop 4 = .ok (.ifCond .eq 27, 3) := by decide +kernel
theorem dX4_readStop_7 : decode cX4_readStop 7 = .ok (.aload_n 0, 1) := by decide +kernel
theorem dX4_readStop_8 : decode cX4_readStop 8 = .ok (.getfield 44, 3) := by decide +kernel
theorem dX4_readStop_11 : decode cX4_readStop 11 = .ok (.iconst 3, 1) := by decide +kernel
theorem dX4_readStop_12 : decode cX4_readStop 12 = .ok (.if_icmp .eq 15, 3) := by decide +kernel
theorem dX4_readStop_15 : decode cX4_readStop 15 = .ok (.aload_n 0, 1) := by decide +kernel
theorem dX4_readStop_16 : decode cX4_readStop 16 = .ok (.iconst 2, 1) := by decide +kernel
theorem dX4_readStop_17 : decode cX4_readStop 17 = .ok (.aload_n 0, 1) := by decide +kernel
theorem dX4_readStop_18 : decode cX4_readStop 18 = .ok (.getfield 113, 3) := by decide +kernel
theorem dX4_readStop_21 : decode cX4_readStop 21 = .ok (.invokevirtual 78, 3) := by decide +kernel
theorem dX4_readStop_24 : decode cX4_readStop 24 = .ok (.ifCond .eq 7, 3) := by decide +kernel
theorem dX4_readStop_27 : decode cX4_readStop 27 = .ok (.iconst 1, 1) := by decide +kernel
theorem dX4_readStop_28 : decode cX4_readStop 28 = .ok (.goto 4, 3) := by decide +kernel
theorem dX4_readStop_31 : decode cX4_readStop 31 = .ok (.iconst 0, 1) := by decide +kernel
theorem dX4_readStop_32 : decode cX4_readStop 32 = .ok (.ireturn, 1) := by decide +kernel
theorem dX4_readToken_0 : decode cX4_readToken 0 = .ok (.aload_n 0, 1) := by decide +kernel
theorem dX4_readToken_1 : decode cX4_readToken 1 = .ok (.invokevirtual 164, 3) := by decide +kernel
theorem dX4_readToken_4 : decode cX4_readToken 4 = .ok (.aload_n 0, 1) := by decide +kernel
theorem dX4_readToken_5 : decode cX4_readToken 5 = .ok (.aload_n 0, 1) := by decide +kernel
theorem dX4_readToken_6 : decode cX4_readToken 6 = .ok (.aload_n 0, 1) := by decide +kernel
theorem dX4_readToken_7 : decode cX4_readToken 7 = .ok (.getfield 113, 3) := by decide +kernel
theorem dX4_readToken_10 : decode cX4_readToken 10 = .ok (.invokevirtual 167, 3) := by decide +kernel
theorem dX4_readToken_13 : decode cX4_readToken 13 = .ok (.putfield 44, 3) := by decide +kernel
theorem dX4_readToken_16 : decode cX4_readToken 16 = .ok (.aload_n 0, 1) := by decide +kernel
theorem dX4_readToken_17 : decode cX4_readToken 17 = .ok (.aload_n 0, 1) := by decide +kernel
theorem dX4_readToken_18 : decode cX4_readToken 18 = .ok (.getfield 44, 3) := by decide +kernel
theorem dX4_readToken_21 : decode cX4_readToken 21 = .ok (.ifCond .ne 10, 3) := by decide +kernel
theorem dX4_readToken_24 : decode cX4_readToken 24 = .ok (.aload_n 0, 1) := by decide +kernel
theorem dX4_readToken_25 : decode cX4_readToken 25 = .ok (.getfield 113, 3) := by decide +kernel
theorem dX4_readToken_28 : decode cX4_readToken 28 = .ok (.goto 9, 3) := by decide +kernel
theorem dX4_readToken_31 : decode cX4_readToken 31 = .ok (.aload_n 0, 1) := by decide +kernel
theorem dX4_readToken_32 : decode cX4_readToken 32 = .ok (.getfield 113, 3) := by decide +kernel
theorem dX4_readToken_35 : decode cX4_readToken 35 = .ok (.iconst 1, 1) := by decide +kernel
theorem dX4_readToken_36 : decode cX4_readToken 36 = .ok (.iadd, 1) := by decide +kernel
theorem dX4_readToken_37 : decode cX4_readToken 37 = .ok (.putfield 30, 3) := by decide +kernel
theorem dX4_readToken_40 : decode cX4_readToken 40 = .ok (.aload_n 0, 1) := by decide +kernel
theorem dX4_readToken_41 : decode cX4_readToken 41 = .ok (.getfield 44, 3) := by decide +kernel
theorem dX4_readToken_44 : decode cX4_readToken 44 = .ok (.iconst 1, 1) := by decide +kernel
theorem dX4_readToken_45 : decode cX4_readToken 45 = .ok (.if_icmp .eq 11, 3) := by decide +kernel
theorem dX4_readToken_48 : decode cX4_readToken 48 = .ok (.aload_n 0, 1) := by decide +kernel
theorem dX4_readToken_49 : decode cX4_readToken 49 = .ok (.getfield 44, 3) := by decide +kernel
theorem dX4_readToken_52 : decode cX4_readToken 52 = .ok (.iconst 2, 1) := by decide +kernel
theorem dX4_readToken_53 : decode cX4_readToken 53 = .ok (.if_icmp .ne 41, 3) := by decide +kernel
theorem dX4_readToken_56 : decode cX4_readToken 56 = .ok (.aload_n 0, 1) := by decide +kernel
theorem dX4_readToken_57 : decode cX4_readToken 57 = .ok (.getfield 30, 3) := by decide +kernel
theorem dX4_readToken_60 : decode cX4_readToken 60 = .ok (.istore_n 1, 1) := by decide +kernel
theorem dX4_readToken_61 : decode cX4_readToken 61 = .ok (.iload_n 1, 1) := by decide +kernel
theorem dX4_readToken_62 : decode cX4_readToken 62 = .ok (.aload_n 0, 1) := by decide +kernel
theorem dX4_readToken_63 : decode cX4_readToken 63 = .ok (.getfield 15, 3) := by decide +kernel
theorem dX4_readToken_66 : decode cX4_readToken 66 = .ok (.if_icmp .ge 28, 3) := by decide +kernel
theorem dX4_readToken_69 : decode cX4_readToken 69 = .ok (.aload_n 0, 1) := by decide +kernel
theorem dX4_readToken_70 : decode cX4_readToken 70 = .ok (.iload_n 1, 1) := by decide +kernel
theorem dX4_readToken_71 : decode cX4_readToken 71 = .ok (.invokevirtual 167, 3) := by decide +kernel
theorem dX4_readToken_74 : decode cX4_readToken 74 = .ok (.aload_n 0, 1) := by decide +kernel
theorem dX4_readToken_75 : decode cX4_readToken 75 = .ok (.getfield 44, 3) := by decide +kernel
theorem dX4_readToken_78 : decode cX4_readToken 78 = .ok (.if_icmp .ne 16, 3) := by decide +kernel
theorem dX4_readToken_81 : decode cX4_readToken 81 = .ok (.aload_n 0, 1) := by decide +kernel
theorem dX4_readToken_82 : decode cX4_readToken 82 = .ok (.iload_n 1, 1) := by decide +kernel
theorem dX4_readToken_83 : decode cX4_readToken 83 = .ok (.iconst 1, 1) := by decide +kernel
theorem dX4_readToken_84 : decode cX4_readToken 84 = .ok (.iadd, 1) := by decide +kernel
theorem dX4_readToken_85 : decode cX4_readToken 85 = .ok (.putfield 30, 3) := by decide +kernel
theorem dX4_readToken_88 : decode cX4_readToken 88 = .ok (.iinc 1 1, 3) := by decide +kernel
theorem dX4_readToken_91 : decode cX4_readToken 91 = .ok (.goto (-30), 3) := by decide +kernel
theorem dX4_readToken_94 : decode cX4_readToken 94 = .ok (.aload_n 0, 1) := by decide +kernel
theorem dX4_readToken_95 : decode cX4_readToken 95 = .ok (.getfield 44, 3) := by decide +kernel
theorem dX4_readToken_98 : decode cX4_readToken 98 = .ok (.iconst 2, 1) := by decide +kernel
theorem dX4_readToken_99 : decode cX4_readToken 99 = .ok (.if_icmp .ne 20, 3) := by decide +kernel
theorem dX4_readToken_102 : decode cX4_readToken 102 = .ok (.aload_n 0, 1) := by decide +kernel
theorem dX4_readToken_103 : decode cX4_readToken 103 = .ok (.getfield 30, 3) := by decide +kernel
theorem dX4_readToken_106 : decode cX4_readToken 106 = .ok (.aload_n 0, 1) := by decide +kernel
theorem dX4_readToken_107 : decode cX4_readToken 107 = .ok (.getfield 113, 3) := by decide +kernel
theorem dX4_readToken_110 : decode cX4_readToken 110 = .ok (.isub, 1) := by decide +kernel
theorem dX4_readToken_111 : decode cX4_readToken 111 = .ok (.iconst 2, 1) := by decide +kernel
theorem dX4_readToken_112 : decode cX4_readToken 112 = .ok (.if_icmp .le 7, 3) := by decide +kernel
theorem dX4_readToken_115 : decode cX4_readToken 115 = .ok (.iconst 1, 1) := by decide +kernel
theorem dX4_readToken_116 : decode cX4_readToken 116 = .ok (.goto 4, 3) := by decide +kernel
theorem dX4_readToken_119 : decode cX4_readToken 119 = .ok (.iconst 0, 1) := by decide +kernel
theorem dX4_readToken_120 : decode cX4_readToken 120 = .ok (.istore_n 1, 1) := by decide +kernel
theorem dX4_readToken_121 : decode cX4_readToken 121 = .ok (.aload_n 0, 1) := by decide +kernel
theorem dX4_readToken_122 : decode cX4_readToken 122 = .ok (.getfield 44, 3) := by decide +kernel
theorem dX4_readToken_125 : decode cX4_readToken 125 = .ok (.iconst 4, 1) := by decide +kernel
theorem dX4_readToken_126 : decode cX4_readToken 126 = .ok (.if_icmp .eq 7, 3) := by decide +kernel
theorem dX4_readToken_129 : decode cX4_readToken 129 = .ok (.iload_n 1, 1) := by decide +kernel
theorem dX4_readToken_130 : decode cX4_readToken 130 = .ok (.ifCond .eq 13, 3) := by decide +kernel
theorem dX4_readToken_133 : decode cX4_readToken 133 = .ok (.aload_n 0, 1) := by decide +kernel
theorem dX4_readToken_134 : decode cX4_readToken 134 = .ok (.iconst 1, 1) := by decide +kernel
theorem dX4_readToken_135 : decode cX4_readToken 135 = .ok (.aload_n 0, 1) := by decide +kernel
theorem dX4_readToken_136 : decode cX4_readToken 136 = .ok (.getfield 113, 3) := by decide +kernel
theorem dX4_readToken_139 : decode cX4_readToken 139 = .ok (.invokevirtual 78, 3) := by decide +kernel
theorem dX4_readToken_142 : decode cX4_readToken 142 = .ok (.ireturn, 1) := by decide +kernel
theorem dX4_readToken_143 : decode cX4_readToken 143 = .ok (.aload_n 0, 1) := by decide +kernel
theorem dX4_readToken_144 : decode cX4_readToken 144 = .ok (.getfield 44, 3) := by decide +kernel
theorem dX4_readToken_147 : decode cX4_readToken 147 = .ok (.iconst 2, 1) := by decide +kernel
theorem dX4_readToken_148 : decode cX4_readToken 148 = .ok (.if_icmp .ne 11, 3) := by decide +kernel
theorem dX4_readToken_151 : decode cX4_readToken 151 = .ok (.aload_n 0, 1) := by decide +kernel
theorem dX4_readToken_152 : decode cX4_readToken 152 = .ok (.aload_n 0, 1) := by decide +kernel
theorem dX4_readToken_153 : decode cX4_readToken 153 = .ok (.invokevirtual 171, 3) := by decide +kernel
theorem dX4_readToken_156 : decode cX4_readToken 156 = .ok (.putfield 122, 3) := by decide +kernel
theorem dX4_readToken_159 : decode cX4_readToken 159 = .ok (.iconst 1, 1) := by decide +kernel
theorem dX4_readToken_160 : decode cX4_readToken 160 = .ok (.ireturn, 1) := by decide +kernel
theorem dX4_skipBlanks_0 : decode cX4_skipBlanks 0 = .ok (.aload_n 0, 1) := by decide +kernel
theorem dX4_skipBlanks_1 : decode cX4_skipBlanks 1 = .ok (.aload_n 0, 1) := by decide +kernel
theorem dX4_skipBlanks_2 : decode cX4_skipBlanks 2 = .ok (.getfield 30, 3) := by decide +kernel
theorem dX4_skipBlanks_5 : decode cX4_skipBlanks 5 = .ok (.putfield 113, 3) := by decide +kernel
theorem dX4_skipBlanks_8 : decode cX4_skipBlanks 8 = .ok (.aload_n 0, 1) := by decide +kernel
theorem dX4_skipBlanks_9 : decode cX4_skipBlanks 9 = .ok (.getfield 30, 3) := by decide +kernel
theorem dX4_skipBlanks_12 : decode cX4_skipBlanks 12 = .ok (.istore_n 1, 1) := by decide +kernel
theorem dX4_skipBlanks_13 : decode cX4_skipBlanks 13 = .ok (.iload_n 1, 1) := by decide +kernel
theorem dX4_skipBlanks_14 : decode cX4_skipBlanks 14 = .ok (.aload_n 0, 1) := by decide +kernel
theorem dX4_skipBlanks_15 : decode cX4_skipBlanks 15 = .ok (.getfield 15, 3) := by decide +kernel
theorem dX4_skipBlanks_18 : decode cX4_skipBlanks 18 = .ok (.if_icmp .ge 27, 3) := by decide +kernel
theorem dX4_skipBlanks_21 : decode cX4_skipBlanks 21 = .ok (.aload_n 0, 1) := by decide +kernel
theorem dX4_skipBlanks_22 : decode cX4_skipBlanks 22 = .ok (.getfield 9, 3) := by decide +kernel
theorem dX4_skipBlanks_25 : decode cX4_skipBlanks 25 = .ok (.iload_n 1, 1) := by decide +kernel
theorem dX4_skipBlanks_26 : decode cX4_skipBlanks 26 = .ok (.baload, 1) := by decide +kernel
theorem dX4_skipBlanks_27 : decode cX4_skipBlanks 27 = .ok (.bipush 32, 2) := by decide +kernel
theorem dX4_skipBlanks_29 : decode cX4_skipBlanks 29 = .ok (.if_icmp .ne 16, 3) := by decide +kernel
theorem dX4_skipBlanks_32 : decode cX4_skipBlanks 32 = .ok (.aload_n 0, 1) := by decide +kernel
theorem dX4_skipBlanks_33 : decode cX4_skipBlanks 33 = .ok (.iload_n 1, 1) := by decide +kernel
theorem dX4_skipBlanks_34 : decode cX4_skipBlanks 34 = .ok (.iconst 1, 1) := by decide +kernel
theorem dX4_skipBlanks_35 : decode cX4_skipBlanks 35 = .ok (.iadd, 1) := by decide +kernel
theorem dX4_skipBlanks_36 : decode cX4_skipBlanks 36 = .ok (.putfield 113, 3) := by decide +kernel
theorem dX4_skipBlanks_39 : decode cX4_skipBlanks 39 = .ok (.iinc 1 1, 3) := by decide +kernel
theorem dX4_skipBlanks_42 : decode cX4_skipBlanks 42 = .ok (.goto (-29), 3) := by decide +kernel
theorem dX4_skipBlanks_45 : decode cX4_skipBlanks 45 = .ok (.return_, 1) := by decide +kernel
theorem dX4_kindAt_0 : decode cX4_kindAt 0 = .ok (.iload_n 1, 1) := by decide +kernel
theorem dX4_kindAt_1 : decode cX4_kindAt 1 = .ok (.ifCond .lt 11, 3) := by decide +kernel
theorem dX4_kindAt_4 : decode cX4_kindAt 4 = .ok (.iload_n 1, 1) := by decide +kernel
theorem dX4_kindAt_5 : decode cX4_kindAt 5 = .ok (.aload_n 0, 1) := by decide +kernel
theorem dX4_kindAt_6 : decode cX4_kindAt 6 = .ok (.getfield 15, 3) := by decide +kernel
theorem dX4_kindAt_9 : decode cX4_kindAt 9 = .ok (.if_icmp .lt 5, 3) := by decide +kernel
theorem dX4_kindAt_12 : decode cX4_kindAt 12 = .ok (.iconst 0, 1) := by decide +kernel
theorem dX4_kindAt_13 : decode cX4_kindAt 13 = .ok (.ireturn, 1) := by decide +kernel
theorem dX4_kindAt_14 : decode cX4_kindAt 14 = .ok (.aload_n 0, 1) := by decide +kernel
theorem dX4_kindAt_15 : decode cX4_kindAt 15 = .ok (.getfield 9, 3) := by decide +kernel
theorem dX4_kindAt_18 : decode cX4_kindAt 18 = .ok (.iload_n 1, 1) := by decide +kernel
theorem dX4_kindAt_19 : decode cX4_kindAt 19 = .ok (.baload, 1) := by decide +kernel
theorem dX4_kindAt_20 : decode cX4_kindAt 20 = .ok (.istore_n 2, 1) := by decide +kernel
theorem dX4_kindAt_21 : decode cX4_kindAt 21 = .ok (.iload_n 2, 1) := by decide +kernel
theorem dX4_kindAt_22 : decode cX4_kindAt 22 = .ok (.bipush 97, 2) := by decide +kernel
theorem dX4_kindAt_24 : decode cX4_kindAt 24 = .ok (.if_icmp .lt 11, 3) := by decide +kernel
theorem dX4_kindAt_27 : decode cX4_kindAt 27 = .ok (.iload_n 2, 1) := by decide +kernel
theorem dX4_kindAt_28 : decode cX4_kindAt 28 = .ok (.bipush 122, 2) := by decide +kernel
theorem dX4_kindAt_30 : decode cX4_kindAt 30 = .ok (.if_icmp .gt 5, 3) := by decide +kernel
theorem dX4_kindAt_33 : decode cX4_kindAt 33 = .ok (.iconst 1, 1) := by decide +kernel
theorem dX4_kindAt_34 : decode cX4_kindAt 34 = .ok (.ireturn, 1) := by decide +kernel
theorem dX4_kindAt_35 : decode cX4_kindAt 35 = .ok (.iload_n 2, 1) := by decide +kernel
theorem dX4_kindAt_36 : decode cX4_kindAt 36 = .ok (.bipush 48, 2) := by decide +kernel
theorem dX4_kindAt_38 : decode cX4_kindAt 38 = .ok (.if_icmp .lt 11, 3) := by decide +kernel
theorem dX4_kindAt_41 : decode cX4_kindAt 41 = .ok (.iload_n 2, 1) := by decide +kernel
theorem dX4_kindAt_42 : decode cX4_kindAt 42 = .ok (.bipush 57, 2) := by decide +kernel
theorem dX4_kindAt_44 : decode cX4_kindAt 44 = .ok (.if_icmp .gt 5, 3) := by decide +kernel
theorem dX4_kindAt_47 : decode cX4_kindAt 47 = .ok (.iconst 2, 1) := by decide +kernel
theorem dX4_kindAt_48 : decode cX4_kindAt 48 = .ok (.ireturn, 1) := by decide +kernel
theorem dX4_kindAt_49 : decode cX4_kindAt 49 = .ok (.iload_n 2, 1) := by decide +kernel
theorem dX4_kindAt_50 : decode cX4_kindAt 50 = .ok (.bipush 59, 2) := by decide +kernel
theorem dX4_kindAt_52 : decode cX4_kindAt 52 = .ok (.if_icmp .ne 7, 3) := by decide +kernel
theorem dX4_kindAt_55 : decode cX4_kindAt 55 = .ok (.iconst 3, 1) := by decide +kernel
theorem dX4_kindAt_56 : decode cX4_kindAt 56 = .ok (.goto 4, 3) := by decide +kernel
theorem dX4_kindAt_59 : decode cX4_kindAt 59 = .ok (.iconst 4, 1) := by decide +kernel
theorem dX4_kindAt_60 : decode cX4_kindAt 60 = .ok (.ireturn, 1) := by decide +kernel
theorem dX4_figures_0 : decode cX4_figures 0 = .ok (.iconst 0, 1) := by decide +kernel
theorem dX4_figures_1 : decode cX4_figures 1 = .ok (.istore_n 1, 1) := by decide +kernel
theorem dX4_figures_2 : decode cX4_figures 2 = .ok (.aload_n 0, 1) := by decide +kernel
theorem dX4_figures_3 : decode cX4_figures 3 = .ok (.getfield 113, 3) := by decide +kernel
theorem dX4_figures_6 : decode cX4_figures 6 = .ok (.istore_n 2, 1) := by decide +kernel
theorem dX4_figures_7 : decode cX4_figures 7 = .ok (.iload_n 2, 1) := by decide +kernel
theorem dX4_figures_8 : decode cX4_figures 8 = .ok (.aload_n 0, 1) := by decide +kernel
theorem dX4_figures_9 : decode cX4_figures 9 = .ok (.getfield 30, 3) := by decide +kernel
theorem dX4_figures_12 : decode cX4_figures 12 = .ok (.if_icmp .ge 24, 3) := by decide +kernel
theorem dX4_figures_15 : decode cX4_figures 15 = .ok (.iload_n 1, 1) := by decide +kernel
theorem dX4_figures_16 : decode cX4_figures 16 = .ok (.bipush 10, 2) := by decide +kernel
theorem dX4_figures_18 : decode cX4_figures 18 = .ok (.imul, 1) := by decide +kernel
theorem dX4_figures_19 : decode cX4_figures 19 = .ok (.aload_n 0, 1) := by decide +kernel
theorem dX4_figures_20 : decode cX4_figures 20 = .ok (.getfield 9, 3) := by decide +kernel
theorem dX4_figures_23 : decode cX4_figures 23 = .ok (.iload_n 2, 1) := by decide +kernel
theorem dX4_figures_24 : decode cX4_figures 24 = .ok (.baload, 1) := by decide +kernel
theorem dX4_figures_25 : decode cX4_figures 25 = .ok (.iadd, 1) := by decide +kernel
theorem dX4_figures_26 : decode cX4_figures 26 = .ok (.bipush 48, 2) := by decide +kernel
theorem dX4_figures_28 : decode cX4_figures 28 = .ok (.isub, 1) := by decide +kernel
theorem dX4_figures_29 : decode cX4_figures 29 = .ok (.istore_n 1, 1) := by decide +kernel
theorem dX4_figures_30 : decode cX4_figures 30 = .ok (.iinc 2 1, 3) := by decide +kernel
theorem dX4_figures_33 : decode cX4_figures 33 = .ok (.goto (-26), 3) := by decide +kernel
theorem dX4_figures_36 : decode cX4_figures 36 = .ok (.iload_n 1, 1) := by decide +kernel
theorem dX4_figures_37 : decode cX4_figures 37 = .ok (.ireturn, 1) := by decide +kernel
theorem dX4_isWord_0 : decode cX4_isWord 0 = .ok (.aload_n 0, 1) := by decide +kernel
theorem dX4_isWord_1 : decode cX4_isWord 1 = .ok (.getfield 44, 3) := by decide +kernel
theorem dX4_isWord_4 : decode cX4_isWord 4 = .ok (.iconst 1, 1) := by decide +kernel
theorem dX4_isWord_5 : decode cX4_isWord 5 = .ok (.if_icmp .ne 19, 3) := by decide +kernel
theorem dX4_isWord_8 : decode cX4_isWord 8 = .ok (.aload_n 0, 1) := by decide +kernel
theorem dX4_isWord_9 : decode cX4_isWord 9 = .ok (.getfield 30, 3) := by decide +kernel
theorem dX4_isWord_12 : decode cX4_isWord 12 = .ok (.aload_n 0, 1) := by decide +kernel
theorem dX4_isWord_13 : decode cX4_isWord 13 = .ok (.getfield 113, 3) := by decide +kernel
theorem dX4_isWord_16 : decode cX4_isWord 16 = .ok (.isub, 1) := by decide +kernel
theorem dX4_isWord_17 : decode cX4_isWord 17 = .ok (.aload_n 1, 1) := by decide +kernel
theorem dX4_isWord_18 : decode cX4_isWord 18 = .ok (.invokevirtual 175, 3) := by decide +kernel
theorem dX4_isWord_21 : decode cX4_isWord 21 = .ok (.if_icmp .eq 5, 3) := by decide +kernel
theorem dX4_isWord_24 : decode cX4_isWord 24 = .ok (.iconst 0, 1) := by decide +kernel
theorem dX4_isWord_25 : decode cX4_isWord 25 = .ok (.ireturn, 1) := by decide +kernel
theorem dX4_isWord_26 : decode cX4_isWord 26 = .ok (.aload_n 0, 1) := by decide +kernel
theorem dX4_isWord_27 : decode cX4_isWord 27 = .ok (.getfield 113, 3) := by decide +kernel
theorem dX4_isWord_30 : decode cX4_isWord 30 = .ok (.istore_n 2, 1) := by decide +kernel
theorem dX4_isWord_31 : decode cX4_isWord 31 = .ok (.iload_n 2, 1) := by decide +kernel
theorem dX4_isWord_32 : decode cX4_isWord 32 = .ok (.aload_n 0, 1) := by decide +kernel
theorem dX4_isWord_33 : decode cX4_isWord 33 = .ok (.getfield 30, 3) := by decide +kernel
theorem dX4_isWord_36 : decode cX4_isWord 36 = .ok (.if_icmp .ge 30, 3) := by decide +kernel
theorem dX4_isWord_39 : decode cX4_isWord 39 = .ok (.aload_n 0, 1) := by decide +kernel
theorem dX4_isWord_40 : decode cX4_isWord 40 = .ok (.getfield 9, 3) := by decide +kernel
theorem dX4_isWord_43 : decode cX4_isWord 43 = .ok (.iload_n 2, 1) := by decide +kernel
theorem dX4_isWord_44 : decode cX4_isWord 44 = .ok (.baload, 1) := by decide +kernel
theorem dX4_isWord_45 : decode cX4_isWord 45 = .ok (.aload_n 1, 1) := by decide +kernel
theorem dX4_isWord_46 : decode cX4_isWord 46 = .ok (.iload_n 2, 1) := by decide +kernel
theorem dX4_isWord_47 : decode cX4_isWord 47 = .ok (.aload_n 0, 1) := by decide +kernel
theorem dX4_isWord_48 : decode cX4_isWord 48 = .ok (.getfield 113, 3) := by decide +kernel
theorem dX4_isWord_51 : decode cX4_isWord 51 = .ok (.isub, 1) := by decide +kernel
theorem dX4_isWord_52 : decode cX4_isWord 52 = .ok (.invokevirtual 179, 3) := by decide +kernel
theorem dX4_isWord_55 : decode cX4_isWord 55 = .ok (.if_icmp .eq 5, 3) := by decide +kernel
theorem dX4_isWord_58 : decode cX4_isWord 58 = .ok (.iconst 0, 1) := by decide +kernel
theorem dX4_isWord_59 : decode cX4_isWord 59 = .ok (.ireturn, 1) := by decide +kernel
theorem dX4_isWord_60 : decode cX4_isWord 60 = .ok (.iinc 2 1, 3) := by decide +kernel
theorem dX4_isWord_63 : decode cX4_isWord 63 = .ok (.goto (-32), 3) := by decide +kernel
theorem dX4_isWord_66 : decode cX4_isWord 66 = .ok (.iconst 1, 1) := by decide +kernel
theorem dX4_isWord_67 : decode cX4_isWord 67 = .ok (.ireturn, 1) := by decide +kernel
theorem dX5_init_0 : decode cX5_init 0 = .ok (.aload_n 0, 1) := by decide +kernel
theorem dX5_init_1 : decode cX5_init 1 = .ok (.invokespecial 3, 3) := by decide +kernel
theorem dX5_init_4 : decode cX5_init 4 = .ok (.return_, 1) := by decide +kernel
theorem dX5_hold_0 : decode cX5_hold 0 = .ok (.aload_n 0, 1) := by decide +kernel
theorem dX5_hold_1 : decode cX5_hold 1 = .ok (.aload_n 1, 1) := by decide +kernel
theorem dX5_hold_2 : decode cX5_hold 2 = .ok (.getfield 9, 3) := by decide +kernel
theorem dX5_hold_5 : decode cX5_hold 5 = .ok (.putfield 15, 3) := by decide +kernel
theorem dX5_hold_8 : decode cX5_hold 8 = .ok (.aload_n 0, 1) := by decide +kernel
theorem dX5_hold_9 : decode cX5_hold 9 = .ok (.bipush (-4), 2) := by decide +kernel
theorem dX5_hold_11 : decode cX5_hold 11 = .ok (.putfield 18, 3) := by decide +kernel
theorem dX5_hold_14 : decode cX5_hold 14 = .ok (.aload_n 0, 1) := by decide +kernel
theorem dX5_hold_15 : decode cX5_hold 15 = .ok (.iconst 0, 1) := by decide +kernel
theorem dX5_hold_16 : decode cX5_hold 16 = .ok (.putfield 21, 3) := by decide +kernel
theorem dX5_hold_19 : decode cX5_hold 19 = .ok (.iconst 0, 1) := by decide +kernel
theorem dX5_hold_20 : decode cX5_hold 20 = .ok (.istore_n 3, 1) := by decide +kernel
theorem dX5_hold_21 : decode cX5_hold 21 = .ok (.iload_n 3, 1) := by decide +kernel
theorem dX5_hold_22 : decode cX5_hold 22 = .ok (.aload_n 1, 1) := by decide +kernel
theorem dX5_hold_23 : decode cX5_hold 23 = .ok (.getfield 24, 3) := by decide +kernel
theorem dX5_hold_26 : decode cX5_hold 26 = .ok (.if_icmp .ge 110, 3) := by decide +kernel
theorem dX5_hold_29 : decode cX5_hold 29 = .ok (.aload_n 1, 1) := by decide +kernel
theorem dX5_hold_30 : decode cX5_hold 30 = .ok (.getfield 27, 3) := by decide +kernel
theorem dX5_hold_33 : decode cX5_hold 33 = .ok (.iload_n 3, 1) := by decide +kernel
theorem dX5_hold_34 : decode cX5_hold 34 = .ok (.iaload, 1) := by decide +kernel
theorem dX5_hold_35 : decode cX5_hold 35 = .ok (.istore 4, 2) := by decide +kernel
theorem dX5_hold_37 : decode cX5_hold 37 = .ok (.iload_n 2, 1) := by decide +kernel
theorem dX5_hold_38 : decode cX5_hold 38 = .ok (.iload_n 3, 1) := by decide +kernel
theorem dX5_hold_39 : decode cX5_hold 39 = .ok (.ishr, 1) := by decide +kernel
theorem dX5_hold_40 : decode cX5_hold 40 = .ok (.iconst 1, 1) := by decide +kernel
theorem dX5_hold_41 : decode cX5_hold 41 = .ok (.iand, 1) := by decide +kernel
theorem dX5_hold_42 : decode cX5_hold 42 = .ok (.iconst 1, 1) := by decide +kernel
theorem dX5_hold_43 : decode cX5_hold 43 = .ok (.if_icmp .ne 7, 3) := by decide +kernel
theorem dX5_hold_46 : decode cX5_hold 46 = .ok (.iconst 1, 1) := by decide +kernel
theorem dX5_hold_47 : decode cX5_hold 47 = .ok (.goto 4, 3) := by decide +kernel
theorem dX5_hold_50 : decode cX5_hold 50 = .ok (.iconst 0, 1) := by decide +kernel
theorem dX5_hold_51 : decode cX5_hold 51 = .ok (.istore 5, 2) := by decide +kernel
theorem dX5_hold_53 : decode cX5_hold 53 = .ok (.iload 5, 2) := by decide +kernel
theorem dX5_hold_55 : decode cX5_hold 55 = .ok (.ifCond .ne 46, 3) := by decide +kernel
theorem dX5_hold_58 : decode cX5_hold 58 = .ok (.aload_n 1, 1) := by decide +kernel
theorem dX5_hold_59 : decode cX5_hold 59 = .ok (.iload 4, 2) := by decide +kernel
theorem dX5_hold_61 : decode cX5_hold 61 = .ok (.aload_n 1, 1) := by decide +kernel
theorem dX5_hold_62 : decode cX5_hold 62 = .ok (.getfield 31, 3) := by decide +kernel
theorem dX5_hold_65 : decode cX5_hold 65 = .ok (.iload_n 3, 1) := by decide +kernel
theorem dX5_hold_66 : decode cX5_hold 66 = .ok (.iadd, 1) := by decide +kernel
theorem dX5_hold_67 : decode cX5_hold 67 = .ok (.invokevirtual 34, 3) := by decide +kernel
theorem dX5_hold_70 : decode cX5_hold 70 = .ok (.ifCond .eq 31, 3) := by decide +kernel
theorem dX5_hold_73 : decode cX5_hold 73 = .ok (.aload_n 0, 1) := by decide +kernel
theorem dX5_hold_74 : decode cX5_hold 74 = .ok (.getfield 15, 3) := by decide +kernel
theorem dX5_hold_77 : decode cX5_hold 77 = .ok (.iload 4, 2) := by decide +kernel
theorem dX5_hold_79 : decode cX5_hold 79 = .ok (.ishr, 1) := by decide +kernel
theorem dX5_hold_80 : decode cX5_hold 80 = .ok (.iconst 1, 1) := by decide +kernel
theorem dX5_hold_81 : decode cX5_hold 81 = .ok (.iand, 1) := by decide +kernel
theorem dX5_hold_82 : decode cX5_hold 82 = .ok (.ifCond .ne 19, 3) := by decide +kernel
theorem dX5_hold_85 : decode cX5_hold 85 = .ok (.aload_n 0, 1) := by decide +kernel
theorem dX5_hold_86 : decode cX5_hold 86 = .ok (.dup, 1) := by decide +kernel
theorem dX5_hold_87 : decode cX5_hold 87 = .ok (.getfield 15, 3) := by decide +kernel
theorem dX5_hold_90 : decode cX5_hold 90 = .ok (.iconst 1, 1) := by decide +kernel
theorem dX5_hold_91 : decode cX5_hold 91 = .ok (.iload 4, 2) := by decide +kernel
theorem dX5_hold_93 : decode cX5_hold 93 = .ok (.ishl, 1) := by decide +kernel
theorem dX5_hold_94 : decode cX5_hold 94 = .ok (.ior, 1) := by decide +kernel
theorem dX5_hold_95 : decode cX5_hold 95 = .ok (.putfield 15, 3) := by decide +kernel
theorem dX5_hold_98 : decode cX5_hold 98 = .ok (.goto 32, 3) := by decide +kernel
theorem dX5_hold_101 : decode cX5_hold 101 = .ok (.aload_n 0, 1) := by decide +kernel
theorem dX5_hold_102 : decode cX5_hold 102 = .ok (.aload_n 0, 1) := by decide +kernel
theorem dX5_hold_103 : decode cX5_hold 103 = .ok (.getfield 21, 3) := by decide +kernel
theorem dX5_hold_106 : decode cX5_hold 106 = .ok (.ifCond .ne 7, 3) := by decide +kernel
theorem dX5_hold_109 : decode cX5_hold 109 = .ok (.iload_n 3, 1) := by decide +kernel
theorem dX5_hold_110 : decode cX5_hold 110 = .ok (.goto 7, 3) := by decide +kernel
theorem dX5_hold_113 : decode cX5_hold 113 = .ok (.aload_n 0, 1) := by decide +kernel
theorem dX5_hold_114 : decode cX5_hold 114 = .ok (.getfield 18, 3) := by decide +kernel
theorem dX5_hold_117 : decode cX5_hold 117 = .ok (.putfield 18, 3) := by decide +kernel
theorem dX5_hold_120 : decode cX5_hold 120 = .ok (.aload_n 0, 1) := by decide +kernel
theorem dX5_hold_121 : decode cX5_hold 121 = .ok (.dup, 1) := by decide +kernel
theorem dX5_hold_122 : decode cX5_hold 122 = .ok (.getfield 21, 3) := by decide +kernel
theorem dX5_hold_125 : decode cX5_hold 125 = .ok (.iconst 1, 1) := by decide +kernel
theorem dX5_hold_126 : decode cX5_hold 126 = .ok (.iadd, 1) := by decide +kernel
theorem dX5_hold_127 : decode cX5_hold 127 = .ok (.putfield 21, 3) := by decide +kernel
theorem dX5_hold_130 : decode cX5_hold 130 = .ok (.iinc 3 1, 3) := by decide +kernel
theorem dX5_hold_133 : decode cX5_hold 133 = .ok (.goto (-112), 3) := by decide +kernel
theorem dX5_hold_136 : decode cX5_hold 136 = .ok (.return_, 1) := by decide +kernel
theorem dX6_init_0 : decode cX6_init 0 = .ok (.aload_n 0, 1) := by decide +kernel
theorem dX6_init_1 : decode cX6_init 1 = .ok (.invokespecial 1, 3) := by decide +kernel
theorem dX6_init_4 : decode cX6_init 4 = .ok (.aload_n 0, 1) := by decide +kernel
theorem dX6_init_5 : decode cX6_init 5 = .ok (.new 7, 3) := by decide +kernel
theorem dX6_init_8 : decode cX6_init 8 = .ok (.dup, 1) := by decide +kernel
theorem dX6_init_9 : decode cX6_init 9 = .ok (.invokespecial 9, 3) := by decide +kernel
theorem dX6_init_12 : decode cX6_init 12 = .ok (.putfield 10, 3) := by decide +kernel
theorem dX6_init_15 : decode cX6_init 15 = .ok (.aload_n 0, 1) := by decide +kernel
theorem dX6_init_16 : decode cX6_init 16 = .ok (.new 7, 3) := by decide +kernel
theorem dX6_init_19 : decode cX6_init 19 = .ok (.dup, 1) := by decide +kernel
theorem dX6_init_20 : decode cX6_init 20 = .ok (.invokespecial 9, 3) := by decide +kernel
theorem dX6_init_23 : decode cX6_init 23 = .ok (.putfield 16, 3) := by decide +kernel
theorem dX6_init_26 : decode cX6_init 26 = .ok (.aload_n 0, 1) := by decide +kernel
theorem dX6_init_27 : decode cX6_init 27 = .ok (.iconst 2, 1) := by decide +kernel
theorem dX6_init_28 : decode cX6_init 28 = .ok (.anewarray 7, 3) := by decide +kernel
theorem dX6_init_31 : decode cX6_init 31 = .ok (.putfield 19, 3) := by decide +kernel
theorem dX6_init_34 : decode cX6_init 34 = .ok (.aload_n 0, 1) := by decide +kernel
theorem dX6_init_35 : decode cX6_init 35 = .ok (.iconst 2, 1) := by decide +kernel
theorem dX6_init_36 : decode cX6_init 36 = .ok (.newarray .boolean, 2) := by decide +kernel
theorem dX6_init_38 : decode cX6_init 38 = .ok (.putfield 23, 3) := by decide +kernel
theorem dX6_init_41 : decode cX6_init 41 = .ok (.iconst 0, 1) := by decide +kernel
theorem dX6_init_42 : decode cX6_init 42 = .ok (.istore_n 1, 1) := by decide +kernel
theorem dX6_init_43 : decode cX6_init 43 = .ok (.iload_n 1, 1) := by decide +kernel
theorem dX6_init_44 : decode cX6_init 44 = .ok (.iconst 2, 1) := by decide +kernel
theorem dX6_init_45 : decode cX6_init 45 = .ok (.if_icmp .ge 22, 3) := by decide +kernel
theorem dX6_init_48 : decode cX6_init 48 = .ok (.aload_n 0, 1) := by decide +kernel
theorem dX6_init_49 : decode cX6_init 49 = .ok (.getfield 19, 3) := by decide +kernel
theorem dX6_init_52 : decode cX6_init 52 = .ok (.iload_n 1, 1) := by decide +kernel
theorem dX6_init_53 : decode cX6_init 53 = .ok (.new 7, 3) := by decide +kernel
theorem dX6_init_56 : decode cX6_init 56 = .ok (.dup, 1) := by decide +kernel
theorem dX6_init_57 : decode cX6_init 57 = .ok (.invokespecial 9, 3) := by decide +kernel
theorem dX6_init_60 : decode cX6_init 60 = .ok (.aastore, 1) := by decide +kernel
theorem dX6_init_61 : decode cX6_init 61 = .ok (.iinc 1 1, 3) := by decide +kernel
theorem dX6_init_64 : decode cX6_init 64 = .ok (.goto (-21), 3) := by decide +kernel
theorem dX6_init_67 : decode cX6_init 67 = .ok (.aload_n 0, 1) := by decide +kernel
theorem dX6_init_68 : decode cX6_init 68 = .ok (.new 27, 3) := by decide +kernel
theorem dX6_init_71 : decode cX6_init 71 = .ok (.dup, 1) := by decide +kernel
theorem dX6_init_72 : decode cX6_init 72 = .ok (.invokespecial 29, 3) := by decide +kernel
theorem dX6_init_75 : decode cX6_init 75 = .ok (.putfield 30, 3) := by decide +kernel
theorem dX6_init_78 : decode cX6_init 78 = .ok (.aload_n 0, 1) := by decide +kernel
theorem dX6_init_79 : decode cX6_init 79 = .ok (.iconst 4, 1) := by decide +kernel
theorem dX6_init_80 : decode cX6_init 80 = .ok (.anewarray 34, 3) := by decide +kernel
theorem dX6_init_83 : decode cX6_init 83 = .ok (.putfield 36, 3) := by decide +kernel
theorem dX6_init_86 : decode cX6_init 86 = .ok (.iconst 0, 1) := by decide +kernel
theorem dX6_init_87 : decode cX6_init 87 = .ok (.istore_n 1, 1) := by decide +kernel
theorem dX6_init_88 : decode cX6_init 88 = .ok (.iload_n 1, 1) := by decide +kernel
theorem dX6_init_89 : decode cX6_init 89 = .ok (.iconst 4, 1) := by decide +kernel
theorem dX6_init_90 : decode cX6_init 90 = .ok (.if_icmp .ge 22, 3) := by decide +kernel
theorem dX6_init_93 : decode cX6_init 93 = .ok (.aload_n 0, 1) := by decide +kernel
theorem dX6_init_94 : decode cX6_init 94 = .ok (.getfield 36, 3) := by decide +kernel
theorem dX6_init_97 : decode cX6_init 97 = .ok (.iload_n 1, 1) := by decide +kernel
theorem dX6_init_98 : decode cX6_init 98 = .ok (.new 34, 3) := by decide +kernel
theorem dX6_init_101 : decode cX6_init 101 = .ok (.dup, 1) := by decide +kernel
theorem dX6_init_102 : decode cX6_init 102 = .ok (.invokespecial 40, 3) := by decide +kernel
theorem dX6_init_105 : decode cX6_init 105 = .ok (.aastore, 1) := by decide +kernel
theorem dX6_init_106 : decode cX6_init 106 = .ok (.iinc 1 1, 3) := by decide +kernel
theorem dX6_init_109 : decode cX6_init 109 = .ok (.goto (-21), 3) := by decide +kernel
theorem dX6_init_112 : decode cX6_init 112 = .ok (.aload_n 0, 1) := by decide +kernel
theorem dX6_init_113 : decode cX6_init 113 = .ok (.new 41, 3) := by decide +kernel
theorem dX6_init_116 : decode cX6_init 116 = .ok (.dup, 1) := by decide +kernel
theorem dX6_init_117 : decode cX6_init 117 = .ok (.invokespecial 43, 3) := by decide +kernel
theorem dX6_init_120 : decode cX6_init 120 = .ok (.putfield 44, 3) := by decide +kernel
theorem dX6_init_123 : decode cX6_init 123 = .ok (.aload_n 0, 1) := by decide +kernel
theorem dX6_init_124 : decode cX6_init 124 = .ok (.new 48, 3) := by decide +kernel
theorem dX6_init_127 : decode cX6_init 127 = .ok (.dup, 1) := by decide +kernel
theorem dX6_init_128 : decode cX6_init 128 = .ok (.invokespecial 50, 3) := by decide +kernel
theorem dX6_init_131 : decode cX6_init 131 = .ok (.putfield 51, 3) := by decide +kernel
theorem dX6_init_134 : decode cX6_init 134 = .ok (.aload_n 0, 1) := by decide +kernel
theorem dX6_init_135 : decode cX6_init 135 = .ok (.new 55, 3) := by decide +kernel
theorem dX6_init_138 : decode cX6_init 138 = .ok (.dup, 1) := by decide +kernel
theorem dX6_init_139 : decode cX6_init 139 = .ok (.invokespecial 57, 3) := by decide +kernel
theorem dX6_init_142 : decode cX6_init 142 = .ok (.putfield 58, 3) := by decide +kernel
theorem dX6_init_145 : decode cX6_init 145 = .ok (.aload_n 0, 1) := by decide +kernel
theorem dX6_init_146 : decode cX6_init 146 = .ok (.bipush 8, 2) := by decide +kernel
theorem dX6_init_148 : decode cX6_init 148 = .ok (.newarray .int, 2) := by decide +kernel
theorem dX6_init_150 : decode cX6_init 150 = .ok (.putfield 62, 3) := by decide +kernel
theorem dX6_init_153 : decode cX6_init 153 = .ok (.return_, 1) := by decide +kernel
theorem dX6_feed_0 : decode cX6_feed 0 = .ok (.iload_n 1, 1) := by decide +kernel
theorem dX6_feed_1 : decode cX6_feed 1 = .ok (.iconst 0, 1) := by decide +kernel
theorem dX6_feed_2 : decode cX6_feed 2 = .ok (.bipush 127, 2) := by decide +kernel
theorem dX6_feed_4 : decode cX6_feed 4 = .ok (.invokestatic 66, 3) := by decide +kernel
theorem dX6_feed_7 : decode cX6_feed 7 = .ok (.ifCond .ne 5, 3) := by decide +kernel
theorem dX6_feed_10 : decode cX6_feed 10 = .ok (.iconst (-1), 1) := by decide +kernel
theorem dX6_feed_11 : decode cX6_feed 11 = .ok (.ireturn, 1) := by decide +kernel
theorem dX6_feed_12 : decode cX6_feed 12 = .ok (.aload_n 0, 1) := by decide +kernel
theorem dX6_feed_13 : decode cX6_feed 13 = .ok (.getfield 30, 3) := by decide +kernel
theorem dX6_feed_16 : decode cX6_feed 16 = .ok (.iload_n 1, 1) := by decide +kernel
theorem dX6_feed_17 : decode cX6_feed 17 = .ok (.invokevirtual 70, 3) := by decide +kernel
theorem dX6_feed_20 : decode cX6_feed 20 = .ok (.ifCond .eq 13, 3) := by decide +kernel
theorem dX6_feed_23 : decode cX6_feed 23 = .ok (.aload_n 0, 1) := by decide +kernel
theorem dX6_feed_24 : decode cX6_feed 24 = .ok (.getfield 30, 3) := by decide +kernel
theorem dX6_feed_27 : decode cX6_feed 27 = .ok (.getfield 74, 3) := by decide +kernel
theorem dX6_feed_30 : decode cX6_feed 30 = .ok (.goto 5, 3) := by decide +kernel
theorem dX6_feed_33 : decode cX6_feed 33 = .ok (.bipush (-3), 2) := by decide +kernel
theorem dX6_feed_35 : decode cX6_feed 35 = .ok (.ireturn, 1) := by decide +kernel
theorem dX6_end_0 : decode cX6_end 0 = .ok (.iload_n 1, 1) := by decide +kernel
theorem dX6_end_1 : decode cX6_end 1 = .ok (.iconst 0, 1) := by decide +kernel
theorem dX6_end_2 : decode cX6_end 2 = .ok (.aload_n 0, 1) := by decide +kernel
theorem dX6_end_3 : decode cX6_end 3 = .ok (.getfield 30, 3) := by decide +kernel
theorem dX6_end_6 : decode cX6_end 6 = .ok (.getfield 74, 3) := by decide +kernel
theorem dX6_end_9 : decode cX6_end 9 = .ok (.invokestatic 66, 3) := by decide +kernel
theorem dX6_end_12 : decode cX6_end 12 = .ok (.ifCond .ne 5, 3) := by decide +kernel
theorem dX6_end_15 : decode cX6_end 15 = .ok (.iconst (-1), 1) := by decide +kernel
theorem dX6_end_16 : decode cX6_end 16 = .ok (.ireturn, 1) := by decide +kernel
theorem dX6_end_17 : decode cX6_end 17 = .ok (.aload_n 0, 1) := by decide +kernel
theorem dX6_end_18 : decode cX6_end 18 = .ok (.getfield 30, 3) := by decide +kernel
theorem dX6_end_21 : decode cX6_end 21 = .ok (.getfield 74, 3) := by decide +kernel
theorem dX6_end_24 : decode cX6_end 24 = .ok (.istore_n 2, 1) := by decide +kernel
theorem dX6_end_25 : decode cX6_end 25 = .ok (.aload_n 0, 1) := by decide +kernel
theorem dX6_end_26 : decode cX6_end 26 = .ok (.getfield 30, 3) := by decide +kernel
theorem dX6_end_29 : decode cX6_end 29 = .ok (.iload_n 1, 1) := by decide +kernel
theorem dX6_end_30 : decode cX6_end 30 = .ok (.putfield 74, 3) := by decide +kernel
theorem dX6_end_33 : decode cX6_end 33 = .ok (.iload_n 2, 1) := by decide +kernel
theorem dX6_end_34 : decode cX6_end 34 = .ok (.ireturn, 1) := by decide +kernel
theorem dX6_text_0 : decode cX6_text 0 = .ok (.aload_n 0, 1) := by decide +kernel
theorem dX6_text_1 : decode cX6_text 1 = .ok (.getfield 30, 3) := by decide +kernel
theorem dX6_text_4 : decode cX6_text 4 = .ok (.aload_n 0, 1) := by decide +kernel
theorem dX6_text_5 : decode cX6_text 5 = .ok (.getfield 16, 3) := by decide +kernel
theorem dX6_text_8 : decode cX6_text 8 = .ok (.invokevirtual 78, 3) := by decide +kernel
theorem dX6_text_11 : decode cX6_text 11 = .ok (.istore_n 1, 1) := by decide +kernel
theorem dX6_text_12 : decode cX6_text 12 = .ok (.aload_n 0, 1) := by decide +kernel
theorem dX6_text_13 : decode cX6_text 13 = .ok (.aload_n 0, 1) := by decide +kernel
theorem dX6_text_14 : decode cX6_text 14 = .ok (.getfield 30, 3) := by decide +kernel
theorem dX6_text_17 : decode cX6_text 17 = .ok (.getfield 82, 3) := by decide +kernel
theorem dX6_text_20 : decode cX6_text 20 = .ok (.putfield 85, 3) := by decide +kernel
theorem dX6_text_23 : decode cX6_text 23 = .ok (.aload_n 0, 1) := by decide +kernel
theorem dX6_text_24 : decode cX6_text 24 = .ok (.getfield 85, 3) := by decide +kernel
theorem dX6_text_27 : decode cX6_text 27 = .ok (.ifCond .eq 14, 3) := by decide +kernel
theorem dX6_text_30 : decode cX6_text 30 = .ok (.bipush (-10), 2) := by decide +kernel
theorem dX6_text_32 : decode cX6_text 32 = .ok (.aload_n 0, 1) := by decide +kernel
theorem dX6_text_33 : decode cX6_text 33 = .ok (.getfield 30, 3) := by decide +kernel
theorem dX6_text_36 : decode cX6_text 36 = .ok (.getfield 88, 3) := by decide +kernel
theorem dX6_text_39 : decode cX6_text 39 = .ok (.isub, 1) := by decide +kernel
theorem dX6_text_40 : decode cX6_text 40 = .ok (.ireturn, 1) := by decide +kernel
theorem dX6_text_41 : decode cX6_text 41 = .ok (.aload_n 0, 1) := by decide +kernel
theorem dX6_text_42 : decode cX6_text 42 = .ok (.getfield 10, 3) := by decide +kernel
theorem dX6_text_45 : decode cX6_text 45 = .ok (.aload_n 0, 1) := by decide +kernel
theorem dX6_text_46 : decode cX6_text 46 = .ok (.getfield 16, 3) := by decide +kernel
theorem dX6_text_49 : decode cX6_text 49 = .ok (.invokevirtual 91, 3) := by decide +kernel
theorem dX6_text_52 : decode cX6_text 52 = .ok (.iconst 0, 1) := by decide +kernel
theorem dX6_text_53 : decode cX6_text 53 = .ok (.istore_n 2, 1) := by decide +kernel
theorem dX6_text_54 : decode cX6_text 54 = .ok (.iload_n 2, 1) := by decide +kernel
theorem dX6_text_55 : decode cX6_text 55 = .ok (.iconst 2, 1) := by decide +kernel
theorem dX6_text_56 : decode cX6_text 56 = .ok (.if_icmp .ge 16, 3) := by decide +kernel
theorem dX6_text_59 : decode cX6_text 59 = .ok (.aload_n 0, 1) := by decide +kernel
theorem dX6_text_60 : decode cX6_text 60 = .ok (.getfield 23, 3) := by decide +kernel
theorem dX6_text_63 : decode cX6_text 63 = .ok (.iload_n 2, 1) := by decide +kernel
theorem dX6_text_64 : decode cX6_text 64 = .ok (.iconst 0, 1) := by decide +kernel
theorem dX6_text_65 : decode cX6_text 65 = .ok (.bastore, 1) := by decide +kernel
theorem dX6_text_66 : decode cX6_text 66 = .ok (.iinc 2 1, 3) := by decide +kernel
theorem dX6_text_69 : decode cX6_text 69 = .ok (.goto (-15), 3) := by decide +kernel
theorem dX6_text_72 : decode cX6_text 72 = .ok (.iload_n 1, 1) := by decide +kernel
theorem dX6_text_73 : decode cX6_text 73 = .ok (.ireturn, 1) := by decide +kernel
theorem dX6_fault_0 : decode cX6_fault 0 = .ok (.aload_n 0, 1) := by decide +kernel
theorem dX6_fault_1 : decode cX6_fault 1 = .ok (.getfield 85, 3) := by decide +kernel
theorem dX6_fault_4 : decode cX6_fault 4 = .ok (.ireturn, 1) := by decide +kernel
theorem dX6_rule_0 : decode cX6_rule 0 = .ok (.iload_n 1, 1) := by decide +kernel
theorem dX6_rule_1 : decode cX6_rule 1 = .ok (.tableswitch 109 0 5 #[39, 47, 70, 78, 86, 101], 39) := by decide +kernel
theorem dX6_rule_40 : decode cX6_rule 40 = .ok (.aload_n 0, 1) := by decide +kernel
theorem dX6_rule_41 : decode cX6_rule 41 = .ok (.getfield 10, 3) := by decide +kernel
theorem dX6_rule_44 : decode cX6_rule 44 = .ok (.getfield 95, 3) := by decide +kernel
theorem dX6_rule_47 : decode cX6_rule 47 = .ok (.ireturn, 1) := by decide +kernel
theorem dX6_rule_48 : decode cX6_rule 48 = .ok (.aload_n 0, 1) := by decide +kernel
theorem dX6_rule_49 : decode cX6_rule 49 = .ok (.getfield 10, 3) := by decide +kernel
theorem dX6_rule_52 : decode cX6_rule 52 = .ok (.getfield 95, 3) := by decide +kernel
theorem dX6_rule_55 : decode cX6_rule 55 = .ok (.ifCond .ne 8, 3) := by decide +kernel
theorem dX6_rule_58 : decode cX6_rule 58 = .ok (.bipush (-4), 2) := by decide +kernel
theorem dX6_rule_60 : decode cX6_rule 60 = .ok (.goto 10, 3) := by decide +kernel
theorem dX6_rule_63 : decode cX6_rule 63 = .ok (.aload_n 0, 1) := by decide +kernel
theorem dX6_rule_64 : decode cX6_rule 64 = .ok (.getfield 10, 3) := by decide +kernel
theorem dX6_rule_67 : decode cX6_rule 67 = .ok (.getfield 98, 3) := by decide +kernel
theorem dX6_rule_70 : decode cX6_rule 70 = .ok (.ireturn, 1) := by decide +kernel
theorem dX6_rule_71 : decode cX6_rule 71 = .ok (.aload_n 0, 1) := by decide +kernel
theorem dX6_rule_72 : decode cX6_rule 72 = .ok (.getfield 10, 3) := by decide +kernel
theorem dX6_rule_75 : decode cX6_rule 75 = .ok (.getfield 101, 3) := by decide +kernel
theorem dX6_rule_78 : decode cX6_rule 78 = .ok (.ireturn, 1) := by decide +kernel
theorem dX6_rule_79 : decode cX6_rule 79 = .ok (.aload_n 0, 1) := by decide +kernel
theorem dX6_rule_80 : decode cX6_rule 80 = .ok (.getfield 10, 3) := by decide +kernel
theorem dX6_rule_83 : decode cX6_rule 83 = .ok (.getfield 104, 3) := by decide +kernel
theorem dX6_rule_86 : decode cX6_rule 86 = .ok (.ireturn, 1) := by decide +kernel
theorem dX6_rule_87 : decode cX6_rule 87 = .ok (.aload_n 0, 1) := by decide +kernel
theorem dX6_rule_88 : decode cX6_rule 88 = .ok (.getfield 10, 3) := by decide +kernel
theorem dX6_rule_91 : decode cX6_rule 91 = .ok (.aload_n 0, 1) := by decide +kernel
theorem dX6_rule_92 : decode cX6_rule 92 = .ok (.getfield 10, 3) := by decide +kernel
theorem dX6_rule_95 : decode cX6_rule 95 = .ok (.getfield 104, 3) := by decide +kernel
theorem dX6_rule_98 : decode cX6_rule 98 = .ok (.invokevirtual 107, 3) := by decide +kernel
theorem dX6_rule_101 : decode cX6_rule 101 = .ok (.ireturn, 1) := by decide +kernel
theorem dX6_rule_102 : decode cX6_rule 102 = .ok (.aload_n 0, 1) := by decide +kernel
theorem dX6_rule_103 : decode cX6_rule 103 = .ok (.getfield 10, 3) := by decide +kernel
theorem dX6_rule_106 : decode cX6_rule 106 = .ok (.getfield 111, 3) := by decide +kernel
theorem dX6_rule_109 : decode cX6_rule 109 = .ok (.ireturn, 1) := by decide +kernel
theorem dX6_rule_110 : decode cX6_rule 110 = .ok (.iconst (-1), 1) := by decide +kernel
theorem dX6_rule_111 : decode cX6_rule 111 = .ok (.ireturn, 1) := by decide +kernel
theorem dX6_claim_0 : decode cX6_claim 0 = .ok (.aload_n 0, 1) := by decide +kernel
theorem dX6_claim_1 : decode cX6_claim 1 = .ok (.getfield 10, 3) := by decide +kernel
theorem dX6_claim_4 : decode cX6_claim 4 = .ok (.iload_n 1, 1) := by decide +kernel
theorem dX6_claim_5 : decode cX6_claim 5 = .ok (.invokevirtual 114, 3) := by decide +kernel
theorem dX6_claim_8 : decode cX6_claim 8 = .ok (.ifCond .ne 5, 3) := by decide +kernel
theorem dX6_claim_11 : decode cX6_claim 11 = .ok (.iconst (-1), 1) := by decide +kernel
theorem dX6_claim_12 : decode cX6_claim 12 = .ok (.ireturn, 1) := by decide +kernel
theorem dX6_claim_13 : decode cX6_claim 13 = .ok (.iload_n 2, 1) := by decide +kernel
theorem dX6_claim_14 : decode cX6_claim 14 = .ok (.tableswitch 121 0 6 #[42, 52, 62, 72, 82, 92, 102], 42) := by decide +kernel
theorem dX6_claim_56 : decode cX6_claim 56 = .ok (.aload_n 0, 1) := by decide +kernel
theorem dX6_claim_57 : decode cX6_claim 57 = .ok (.getfield 10, 3) := by decide +kernel
theorem dX6_claim_60 : decode cX6_claim 60 = .ok (.getfield 117, 3) := by decide +kernel
theorem dX6_claim_63 : decode cX6_claim 63 = .ok (.iload_n 1, 1) := by decide +kernel
theorem dX6_claim_64 : decode cX6_claim 64 = .ok (.iaload, 1) := by decide +kernel
theorem dX6_claim_65 : decode cX6_claim 65 = .ok (.ireturn, 1) := by decide +kernel
theorem dX6_claim_66 : decode cX6_claim 66 = .ok (.aload_n 0, 1) := by decide +kernel
theorem dX6_claim_67 : decode cX6_claim 67 = .ok (.getfield 10, 3) := by decide +kernel
theorem dX6_claim_70 : decode cX6_claim 70 = .ok (.getfield 120, 3) := by decide +kernel
theorem dX6_claim_73 : decode cX6_claim 73 = .ok (.iload_n 1, 1) := by decide +kernel
theorem dX6_claim_74 : decode cX6_claim 74 = .ok (.iaload, 1) := by decide +kernel
theorem dX6_claim_75 : decode cX6_claim 75 = .ok (.ireturn, 1) := by decide +kernel
theorem dX6_claim_76 : decode cX6_claim 76 = .ok (.aload_n 0, 1) := by decide +kernel
theorem dX6_claim_77 : decode cX6_claim 77 = .ok (.getfield 10, 3) := by decide +kernel
theorem dX6_claim_80 : decode cX6_claim 80 = .ok (.getfield 123, 3) := by decide +kernel
theorem dX6_claim_83 : decode cX6_claim 83 = .ok (.iload_n 1, 1) := by decide +kernel
theorem dX6_claim_84 : decode cX6_claim 84 = .ok (.iaload, 1) := by decide +kernel
theorem dX6_claim_85 : decode cX6_claim 85 = .ok (.ireturn, 1) := by decide +kernel
theorem dX6_claim_86 : decode cX6_claim 86 = .ok (.aload_n 0, 1) := by decide +kernel
theorem dX6_claim_87 : decode cX6_claim 87 = .ok (.getfield 10, 3) := by decide +kernel
theorem dX6_claim_90 : decode cX6_claim 90 = .ok (.getfield 126, 3) := by decide +kernel
theorem dX6_claim_93 : decode cX6_claim 93 = .ok (.iload_n 1, 1) := by decide +kernel
theorem dX6_claim_94 : decode cX6_claim 94 = .ok (.iaload, 1) := by decide +kernel
theorem dX6_claim_95 : decode cX6_claim 95 = .ok (.ireturn, 1) := by decide +kernel
theorem dX6_claim_96 : decode cX6_claim 96 = .ok (.aload_n 0, 1) := by decide +kernel
theorem dX6_claim_97 : decode cX6_claim 97 = .ok (.getfield 10, 3) := by decide +kernel
theorem dX6_claim_100 : decode cX6_claim 100 = .ok (.getfield 129, 3) := by decide +kernel
theorem dX6_claim_103 : decode cX6_claim 103 = .ok (.iload_n 1, 1) := by decide +kernel
theorem dX6_claim_104 : decode cX6_claim 104 = .ok (.iaload, 1) := by decide +kernel
theorem dX6_claim_105 : decode cX6_claim 105 = .ok (.ireturn, 1) := by decide +kernel
theorem dX6_claim_106 : decode cX6_claim 106 = .ok (.aload_n 0, 1) := by decide +kernel
theorem dX6_claim_107 : decode cX6_claim 107 = .ok (.getfield 10, 3) := by decide +kernel
theorem dX6_claim_110 : decode cX6_claim 110 = .ok (.getfield 132, 3) := by decide +kernel
theorem dX6_claim_113 : decode cX6_claim 113 = .ok (.iload_n 1, 1) := by decide +kernel
theorem dX6_claim_114 : decode cX6_claim 114 = .ok (.iaload, 1) := by decide +kernel
theorem dX6_claim_115 : decode cX6_claim 115 = .ok (.ireturn, 1) := by decide +kernel
theorem dX6_claim_116 : decode cX6_claim 116 = .ok (.aload_n 0, 1) := by decide +kernel
theorem dX6_claim_117 : decode cX6_claim 117 = .ok (.getfield 10, 3) := by decide +kernel
theorem dX6_claim_120 : decode cX6_claim 120 = .ok (.aload_n 0, 1) := by decide +kernel
theorem dX6_claim_121 : decode cX6_claim 121 = .ok (.getfield 10, 3) := by decide +kernel
theorem dX6_claim_124 : decode cX6_claim 124 = .ok (.getfield 104, 3) := by decide +kernel
theorem dX6_claim_127 : decode cX6_claim 127 = .ok (.invokevirtual 107, 3) := by decide +kernel
theorem dX6_claim_130 : decode cX6_claim 130 = .ok (.iload_n 1, 1) := by decide +kernel
theorem dX6_claim_131 : decode cX6_claim 131 = .ok (.ishr, 1) := by decide +kernel
theorem dX6_claim_132 : decode cX6_claim 132 = .ok (.iconst 1, 1) := by decide +kernel
theorem dX6_claim_133 : decode cX6_claim 133 = .ok (.iand, 1) := by decide +kernel
theorem dX6_claim_134 : decode cX6_claim 134 = .ok (.ireturn, 1) := by decide +kernel
theorem dX6_claim_135 : decode cX6_claim 135 = .ok (.iconst (-1), 1) := by decide +kernel
theorem dX6_claim_136 : decode cX6_claim 136 = .ok (.ireturn, 1) := by decide +kernel
theorem dX6_plan_0 : decode cX6_plan 0 = .ok (.iload_n 1, 1) := by decide +kernel
theorem dX6_plan_1 : decode cX6_plan 1 = .ok (.iconst 0, 1) := by decide +kernel
theorem dX6_plan_2 : decode cX6_plan 2 = .ok (.aload_n 0, 1) := by decide +kernel
theorem dX6_plan_3 : decode cX6_plan 3 = .ok (.getfield 10, 3) := by decide +kernel
theorem dX6_plan_6 : decode cX6_plan 6 = .ok (.getfield 111, 3) := by decide +kernel
theorem dX6_plan_9 : decode cX6_plan 9 = .ok (.iconst 1, 1) := by decide +kernel
theorem dX6_plan_10 : decode cX6_plan 10 = .ok (.isub, 1) := by decide +kernel
theorem dX6_plan_11 : decode cX6_plan 11 = .ok (.invokestatic 66, 3) := by decide +kernel
theorem dX6_plan_14 : decode cX6_plan 14 = .ok (.ifCond .eq 15, 3) := by decide +kernel
theorem dX6_plan_17 : decode cX6_plan 17 = .ok (.aload_n 0, 1) := by decide +kernel
theorem dX6_plan_18 : decode cX6_plan 18 = .ok (.getfield 10, 3) := by decide +kernel
theorem dX6_plan_21 : decode cX6_plan 21 = .ok (.getfield 135, 3) := by decide +kernel
theorem dX6_plan_24 : decode cX6_plan 24 = .ok (.iload_n 1, 1) := by decide +kernel
theorem dX6_plan_25 : decode cX6_plan 25 = .ok (.iaload, 1) := by decide +kernel
theorem dX6_plan_26 : decode cX6_plan 26 = .ok (.goto 4, 3) := by decide +kernel
theorem dX6_plan_29 : decode cX6_plan 29 = .ok (.iconst (-1), 1) := by decide +kernel
theorem dX6_plan_30 : decode cX6_plan 30 = .ok (.ireturn, 1) := by decide +kernel
theorem dX6_say_0 : decode cX6_say 0 = .ok (.aload_n 0, 1) := by decide +kernel
theorem dX6_say_1 : decode cX6_say 1 = .ok (.getfield 10, 3) := by decide +kernel
theorem dX6_say_4 : decode cX6_say 4 = .ok (.iload_n 1, 1) := by decide +kernel
theorem dX6_say_5 : decode cX6_say 5 = .ok (.invokevirtual 114, 3) := by decide +kernel
theorem dX6_say_8 : decode cX6_say 8 = .ok (.ifCond .ne 5, 3) := by decide +kernel
theorem dX6_say_11 : decode cX6_say 11 = .ok (.iconst (-1), 1) := by decide +kernel
theorem dX6_say_12 : decode cX6_say 12 = .ok (.ireturn, 1) := by decide +kernel
theorem dX6_say_13 : decode cX6_say 13 = .ok (.aload_n 0, 1) := by decide +kernel
theorem dX6_say_14 : decode cX6_say 14 = .ok (.getfield 10, 3) := by decide +kernel
theorem dX6_say_17 : decode cX6_say 17 = .ok (.iload_n 1, 1) := by decide +kernel
theorem dX6_say_18 : decode cX6_say 18 = .ok (.invokevirtual 138, 3) := by decide +kernel
theorem dX6_say_21 : decode cX6_say 21 = .ok (.ifCond .ne 21, 3) := by decide +kernel
theorem dX6_say_24 : decode cX6_say 24 = .ok (.aload_n 0, 1) := by decide +kernel
theorem dX6_say_25 : decode cX6_say 25 = .ok (.getfield 10, 3) := by decide +kernel
theorem dX6_say_28 : decode cX6_say 28 = .ok (.iload_n 1, 1) := by decide +kernel
theorem dX6_say_29 : decode cX6_say 29 = .ok (.aload_n 0, 1) := by decide +kernel
theorem dX6_say_30 : decode cX6_say 30 = .ok (.getfield 10, 3) := by decide +kernel
theorem dX6_say_33 : decode cX6_say 33 = .ok (.getfield 101, 3) := by decide +kernel
theorem dX6_say_36 : decode cX6_say 36 = .ok (.invokevirtual 141, 3) := by decide +kernel
theorem dX6_say_39 : decode cX6_say 39 = .ok (.ifCond .ne 6, 3) := by decide +kernel
theorem dX6_say_42 : decode cX6_say 42 = .ok (.bipush (-2), 2) := by decide +kernel
theorem dX6_say_44 : decode cX6_say 44 = .ok (.ireturn, 1) := by decide +kernel
theorem dX6_say_45 : decode cX6_say 45 = .ok (.aload_n 0, 1) := by decide +kernel
theorem dX6_say_46 : decode cX6_say 46 = .ok (.getfield 10, 3) := by decide +kernel
theorem dX6_say_49 : decode cX6_say 49 = .ok (.dup, 1) := by decide +kernel
theorem dX6_say_50 : decode cX6_say 50 = .ok (.getfield 104, 3) := by decide +kernel
theorem dX6_say_53 : decode cX6_say 53 = .ok (.iconst 1, 1) := by decide +kernel
theorem dX6_say_54 : decode cX6_say 54 = .ok (.iload_n 1, 1) := by decide +kernel
theorem dX6_say_55 : decode cX6_say 55 = .ok (.ishl, 1) := by decide +kernel
theorem dX6_say_56 : decode cX6_say 56 = .ok (.ior, 1) := by decide +kernel
theorem dX6_say_57 : decode cX6_say 57 = .ok (.putfield 104, 3) := by decide +kernel
theorem dX6_say_60 : decode cX6_say 60 = .ok (.aload_n 0, 1) := by decide +kernel
theorem dX6_say_61 : decode cX6_say 61 = .ok (.getfield 10, 3) := by decide +kernel
theorem dX6_say_64 : decode cX6_say 64 = .ok (.aload_n 0, 1) := by decide +kernel
theorem dX6_say_65 : decode cX6_say 65 = .ok (.getfield 10, 3) := by decide +kernel
theorem dX6_say_68 : decode cX6_say 68 = .ok (.getfield 104, 3) := by decide +kernel
theorem dX6_say_71 : decode cX6_say 71 = .ok (.invokevirtual 107, 3) := by decide +kernel
theorem dX6_say_74 : decode cX6_say 74 = .ok (.invokestatic 145, 3) := by decide +kernel
theorem dX6_say_77 : decode cX6_say 77 = .ok (.ireturn, 1) := by decide +kernel
theorem dX6_drop_0 : decode cX6_drop 0 = .ok (.aload_n 0, 1) := by decide +kernel
theorem dX6_drop_1 : decode cX6_drop 1 = .ok (.getfield 10, 3) := by decide +kernel
theorem dX6_drop_4 : decode cX6_drop 4 = .ok (.iload_n 1, 1) := by decide +kernel
theorem dX6_drop_5 : decode cX6_drop 5 = .ok (.invokevirtual 114, 3) := by decide +kernel
theorem dX6_drop_8 : decode cX6_drop 8 = .ok (.ifCond .ne 5, 3) := by decide +kernel
theorem dX6_drop_11 : decode cX6_drop 11 = .ok (.iconst (-1), 1) := by decide +kernel
theorem dX6_drop_12 : decode cX6_drop 12 = .ok (.ireturn, 1) := by decide +kernel
theorem dX6_drop_13 : decode cX6_drop 13 = .ok (.aload_n 0, 1) := by decide +kernel
theorem dX6_drop_14 : decode cX6_drop 14 = .ok (.getfield 10, 3) := by decide +kernel
theorem dX6_drop_17 : decode cX6_drop 17 = .ok (.iload_n 1, 1) := by decide +kernel
theorem dX6_drop_18 : decode cX6_drop 18 = .ok (.invokevirtual 138, 3) := by decide +kernel
theorem dX6_drop_21 : decode cX6_drop 21 = .ok (.ifCond .ne 6, 3) := by decide +kernel
theorem dX6_drop_24 : decode cX6_drop 24 = .ok (.bipush (-2), 2) := by decide +kernel
theorem dX6_drop_26 : decode cX6_drop 26 = .ok (.ireturn, 1) := by decide +kernel
theorem dX6_drop_27 : decode cX6_drop 27 = .ok (.aload_n 0, 1) := by decide +kernel
theorem dX6_drop_28 : decode cX6_drop 28 = .ok (.getfield 10, 3) := by decide +kernel
theorem dX6_drop_31 : decode cX6_drop 31 = .ok (.dup, 1) := by decide +kernel
theorem dX6_drop_32 : decode cX6_drop 32 = .ok (.getfield 104, 3) := by decide +kernel
theorem dX6_drop_35 : decode cX6_drop 35 = .ok (.iconst 1, 1) := by decide +kernel
theorem dX6_drop_36 : decode cX6_drop 36 = .ok (.iload_n 1, 1) := by decide +kernel
theorem dX6_drop_37 : decode cX6_drop 37 = .ok (.ishl, 1) := by decide +kernel
theorem dX6_drop_38 : decode cX6_drop 38 = .ok (.iconst (-1), 1) := by decide +kernel
theorem dX6_drop_39 : decode cX6_drop 39 = .ok (.ixor, 1) := by decide +kernel
theorem dX6_drop_40 : decode cX6_drop 40 = .ok (.iand, 1) := by decide +kernel
theorem dX6_drop_41 : decode cX6_drop 41 = .ok (.putfield 104, 3) := by decide +kernel
theorem dX6_drop_44 : decode cX6_drop 44 = .ok (.aload_n 0, 1) := by decide +kernel
theorem dX6_drop_45 : decode cX6_drop 45 = .ok (.getfield 10, 3) := by decide +kernel
theorem dX6_drop_48 : decode cX6_drop 48 = .ok (.aload_n 0, 1) := by decide +kernel
theorem dX6_drop_49 : decode cX6_drop 49 = .ok (.getfield 10, 3) := by decide +kernel
theorem dX6_drop_52 : decode cX6_drop 52 = .ok (.getfield 104, 3) := by decide +kernel
theorem dX6_drop_55 : decode cX6_drop 55 = .ok (.invokevirtual 107, 3) := by decide +kernel
theorem dX6_drop_58 : decode cX6_drop 58 = .ok (.invokestatic 145, 3) := by decide +kernel
theorem dX6_drop_61 : decode cX6_drop 61 = .ok (.ireturn, 1) := by decide +kernel
theorem dX6_day_0 : decode cX6_day 0 = .ok (.iload_n 1, 1) := by decide +kernel
theorem dX6_day_1 : decode cX6_day 1 = .ok (.iconst 0, 1) := by decide +kernel
theorem dX6_day_2 : decode cX6_day 2 = .ok (.bipush 9, 2) := by decide +kernel
theorem dX6_day_4 : decode cX6_day 4 = .ok (.invokestatic 66, 3) := by decide +kernel
theorem dX6_day_7 : decode cX6_day 7 = .ok (.ifCond .ne 5, 3) := by decide +kernel
theorem dX6_day_10 : decode cX6_day 10 = .ok (.iconst (-1), 1) := by decide +kernel
theorem dX6_day_11 : decode cX6_day 11 = .ok (.ireturn, 1) := by decide +kernel
theorem dX6_day_12 : decode cX6_day 12 = .ok (.aload_n 0, 1) := by decide +kernel
theorem dX6_day_13 : decode cX6_day 13 = .ok (.getfield 10, 3) := by decide +kernel
theorem dX6_day_16 : decode cX6_day 16 = .ok (.getfield 101, 3) := by decide +kernel
theorem dX6_day_19 : decode cX6_day 19 = .ok (.istore_n 2, 1) := by decide +kernel
theorem dX6_day_20 : decode cX6_day 20 = .ok (.aload_n 0, 1) := by decide +kernel
theorem dX6_day_21 : decode cX6_day 21 = .ok (.getfield 10, 3) := by decide +kernel
theorem dX6_day_24 : decode cX6_day 24 = .ok (.iload_n 1, 1) := by decide +kernel
theorem dX6_day_25 : decode cX6_day 25 = .ok (.putfield 101, 3) := by decide +kernel
theorem dX6_day_28 : decode cX6_day 28 = .ok (.iload_n 2, 1) := by decide +kernel
theorem dX6_day_29 : decode cX6_day 29 = .ok (.ireturn, 1) := by decide +kernel
theorem dX6_aim_0 : decode cX6_aim 0 = .ok (.aload_n 0, 1) := by decide +kernel
theorem dX6_aim_1 : decode cX6_aim 1 = .ok (.getfield 10, 3) := by decide +kernel
theorem dX6_aim_4 : decode cX6_aim 4 = .ok (.iload_n 1, 1) := by decide +kernel
theorem dX6_aim_5 : decode cX6_aim 5 = .ok (.invokevirtual 114, 3) := by decide +kernel
theorem dX6_aim_8 : decode cX6_aim 8 = .ok (.ifCond .ne 5, 3) := by decide +kernel
theorem dX6_aim_11 : decode cX6_aim 11 = .ok (.iconst (-1), 1) := by decide +kernel
theorem dX6_aim_12 : decode cX6_aim 12 = .ok (.ireturn, 1) := by decide +kernel
theorem dX6_aim_13 : decode cX6_aim 13 = .ok (.aload_n 0, 1) := by decide +kernel
theorem dX6_aim_14 : decode cX6_aim 14 = .ok (.getfield 10, 3) := by decide +kernel
theorem dX6_aim_17 : decode cX6_aim 17 = .ok (.getfield 98, 3) := by decide +kernel
theorem dX6_aim_20 : decode cX6_aim 20 = .ok (.istore_n 2, 1) := by decide +kernel
theorem dX6_aim_21 : decode cX6_aim 21 = .ok (.aload_n 0, 1) := by decide +kernel
theorem dX6_aim_22 : decode cX6_aim 22 = .ok (.getfield 10, 3) := by decide +kernel
theorem dX6_aim_25 : decode cX6_aim 25 = .ok (.iload_n 1, 1) := by decide +kernel
theorem dX6_aim_26 : decode cX6_aim 26 = .ok (.putfield 98, 3) := by decide +kernel
theorem dX6_aim_29 : decode cX6_aim 29 = .ok (.iload_n 2, 1) := by decide +kernel
theorem dX6_aim_30 : decode cX6_aim 30 = .ok (.ireturn, 1) := by decide +kernel
theorem dX6_leans_0 : decode cX6_leans 0 = .ok (.aload_n 0, 1) := by decide +kernel
theorem dX6_leans_1 : decode cX6_leans 1 = .ok (.getfield 10, 3) := by decide +kernel
theorem dX6_leans_4 : decode cX6_leans 4 = .ok (.iload_n 1, 1) := by decide +kernel
theorem dX6_leans_5 : decode cX6_leans 5 = .ok (.invokevirtual 114, 3) := by decide +kernel
theorem dX6_leans_8 : decode cX6_leans 8 = .ok (.ifCond .eq 26, 3) := by decide +kernel
theorem dX6_leans_11 : decode cX6_leans 11 = .ok (.aload_n 0, 1) := by decide +kernel
theorem dX6_leans_12 : decode cX6_leans 12 = .ok (.getfield 10, 3) := by decide +kernel
theorem dX6_leans_15 : decode cX6_leans 15 = .ok (.getfield 129, 3) := by decide +kernel
theorem dX6_leans_18 : decode cX6_leans 18 = .ok (.aload_n 0, 1) := by decide +kernel
theorem dX6_leans_19 : decode cX6_leans 19 = .ok (.getfield 10, 3) := by decide +kernel
theorem dX6_leans_22 : decode cX6_leans 22 = .ok (.getfield 132, 3) := by decide +kernel
theorem dX6_leans_25 : decode cX6_leans 25 = .ok (.iload_n 1, 1) := by decide +kernel
theorem dX6_leans_26 : decode cX6_leans 26 = .ok (.iload_n 2, 1) := by decide +kernel
theorem dX6_leans_27 : decode cX6_leans 27 = .ok (.iload_n 3, 1) := by decide +kernel
theorem dX6_leans_28 : decode cX6_leans 28 = .ok (.invokestatic 150, 3) := by decide +kernel
theorem dX6_leans_31 : decode cX6_leans 31 = .ok (.goto 4, 3) := by decide +kernel
theorem dX6_leans_34 : decode cX6_leans 34 = .ok (.iconst (-1), 1) := by decide +kernel
theorem dX6_leans_35 : decode cX6_leans 35 = .ok (.ireturn, 1) := by decide +kernel
theorem dX6_falls_0 : decode cX6_falls 0 = .ok (.aload_n 0, 1) := by decide +kernel
theorem dX6_falls_1 : decode cX6_falls 1 = .ok (.getfield 10, 3) := by decide +kernel
theorem dX6_falls_4 : decode cX6_falls 4 = .ok (.iload_n 1, 1) := by decide +kernel
theorem dX6_falls_5 : decode cX6_falls 5 = .ok (.invokevirtual 114, 3) := by decide +kernel
theorem dX6_falls_8 : decode cX6_falls 8 = .ok (.ifCond .eq 26, 3) := by decide +kernel
theorem dX6_falls_11 : decode cX6_falls 11 = .ok (.aload_n 0, 1) := by decide +kernel
theorem dX6_falls_12 : decode cX6_falls 12 = .ok (.getfield 10, 3) := by decide +kernel
theorem dX6_falls_15 : decode cX6_falls 15 = .ok (.getfield 132, 3) := by decide +kernel
theorem dX6_falls_18 : decode cX6_falls 18 = .ok (.aload_n 0, 1) := by decide +kernel
theorem dX6_falls_19 : decode cX6_falls 19 = .ok (.getfield 10, 3) := by decide +kernel
theorem dX6_falls_22 : decode cX6_falls 22 = .ok (.getfield 129, 3) := by decide +kernel
theorem dX6_falls_25 : decode cX6_falls 25 = .ok (.iload_n 1, 1) := by decide +kernel
theorem dX6_falls_26 : decode cX6_falls 26 = .ok (.iload_n 2, 1) := by decide +kernel
theorem dX6_falls_27 : decode cX6_falls 27 = .ok (.iload_n 3, 1) := by decide +kernel
theorem dX6_falls_28 : decode cX6_falls 28 = .ok (.invokestatic 150, 3) := by decide +kernel
theorem dX6_falls_31 : decode cX6_falls 31 = .ok (.goto 4, 3) := by decide +kernel
theorem dX6_falls_34 : decode cX6_falls 34 = .ok (.iconst (-1), 1) := by decide +kernel
theorem dX6_falls_35 : decode cX6_falls 35 = .ok (.ireturn, 1) := by decide +kernel
theorem dX6_yards_0 : decode cX6_yards 0 = .ok (.aload_n 0, 1) := by decide +kernel
theorem dX6_yards_1 : decode cX6_yards 1 = .ok (.getfield 10, 3) := by decide +kernel
theorem dX6_yards_4 : decode cX6_yards 4 = .ok (.iload_n 1, 1) := by decide +kernel
theorem dX6_yards_5 : decode cX6_yards 5 = .ok (.invokevirtual 114, 3) := by decide +kernel
theorem dX6_yards_8 : decode cX6_yards 8 = .ok (.ifCond .eq 13, 3) := by decide +kernel
theorem dX6_yards_11 : decode cX6_yards 11 = .ok (.iload_n 2, 1) := by decide +kernel
theorem dX6_yards_12 : decode cX6_yards 12 = .ok (.iconst 0, 1) := by decide +kernel
theorem dX6_yards_13 : decode cX6_yards 13 = .ok (.bipush 9, 2) := by decide +kernel
theorem dX6_yards_15 : decode cX6_yards 15 = .ok (.invokestatic 66, 3) := by decide +kernel
theorem dX6_yards_18 : decode cX6_yards 18 = .ok (.ifCond .ne 5, 3) := by decide +kernel
theorem dX6_yards_21 : decode cX6_yards 21 = .ok (.iconst (-1), 1) := by decide +kernel
theorem dX6_yards_22 : decode cX6_yards 22 = .ok (.ireturn, 1) := by decide +kernel
theorem dX6_yards_23 : decode cX6_yards 23 = .ok (.aload_n 0, 1) := by decide +kernel
theorem dX6_yards_24 : decode cX6_yards 24 = .ok (.getfield 10, 3) := by decide +kernel
theorem dX6_yards_27 : decode cX6_yards 27 = .ok (.getfield 126, 3) := by decide +kernel
theorem dX6_yards_30 : decode cX6_yards 30 = .ok (.iload_n 1, 1) := by decide +kernel
theorem dX6_yards_31 : decode cX6_yards 31 = .ok (.iaload, 1) := by decide +kernel
theorem dX6_yards_32 : decode cX6_yards 32 = .ok (.istore_n 3, 1) := by decide +kernel
theorem dX6_yards_33 : decode cX6_yards 33 = .ok (.aload_n 0, 1) := by decide +kernel
theorem dX6_yards_34 : decode cX6_yards 34 = .ok (.getfield 10, 3) := by decide +kernel
theorem dX6_yards_37 : decode cX6_yards 37 = .ok (.getfield 126, 3) := by decide +kernel
theorem dX6_yards_40 : decode cX6_yards 40 = .ok (.iload_n 1, 1) := by decide +kernel
theorem dX6_yards_41 : decode cX6_yards 41 = .ok (.iload_n 2, 1) := by decide +kernel
theorem dX6_yards_42 : decode cX6_yards 42 = .ok (.iastore, 1) := by decide +kernel
theorem dX6_yards_43 : decode cX6_yards 43 = .ok (.iload_n 3, 1) := by decide +kernel
theorem dX6_yards_44 : decode cX6_yards 44 = .ok (.ireturn, 1) := by decide +kernel
theorem dX6_plans_0 : decode cX6_plans 0 = .ok (.aload_n 0, 1) := by decide +kernel
theorem dX6_plans_1 : decode cX6_plans 1 = .ok (.getfield 10, 3) := by decide +kernel
theorem dX6_plans_4 : decode cX6_plans 4 = .ok (.iload_n 1, 1) := by decide +kernel
theorem dX6_plans_5 : decode cX6_plans 5 = .ok (.invokevirtual 114, 3) := by decide +kernel
theorem dX6_plans_8 : decode cX6_plans 8 = .ok (.ifCond .ne 5, 3) := by decide +kernel
theorem dX6_plans_11 : decode cX6_plans 11 = .ok (.iconst (-1), 1) := by decide +kernel
theorem dX6_plans_12 : decode cX6_plans 12 = .ok (.ireturn, 1) := by decide +kernel
theorem dX6_plans_13 : decode cX6_plans 13 = .ok (.aload_n 0, 1) := by decide +kernel
theorem dX6_plans_14 : decode cX6_plans 14 = .ok (.getfield 10, 3) := by decide +kernel
theorem dX6_plans_17 : decode cX6_plans 17 = .ok (.iload_n 1, 1) := by decide +kernel
theorem dX6_plans_18 : decode cX6_plans 18 = .ok (.invokevirtual 154, 3) := by decide +kernel
theorem dX6_plans_21 : decode cX6_plans 21 = .ok (.ifCond .eq 13, 3) := by decide +kernel
theorem dX6_plans_24 : decode cX6_plans 24 = .ok (.aload_n 0, 1) := by decide +kernel
theorem dX6_plans_25 : decode cX6_plans 25 = .ok (.getfield 10, 3) := by decide +kernel
theorem dX6_plans_28 : decode cX6_plans 28 = .ok (.getfield 111, 3) := by decide +kernel
theorem dX6_plans_31 : decode cX6_plans 31 = .ok (.goto 5, 3) := by decide +kernel
theorem dX6_plans_34 : decode cX6_plans 34 = .ok (.bipush (-3), 2) := by decide +kernel
theorem dX6_plans_36 : decode cX6_plans 36 = .ok (.ireturn, 1) := by decide +kernel
theorem dX6_cut_0 : decode cX6_cut 0 = .ok (.iload_n 1, 1) := by decide +kernel
theorem dX6_cut_1 : decode cX6_cut 1 = .ok (.iconst 0, 1) := by decide +kernel
theorem dX6_cut_2 : decode cX6_cut 2 = .ok (.aload_n 0, 1) := by decide +kernel
theorem dX6_cut_3 : decode cX6_cut 3 = .ok (.getfield 10, 3) := by decide +kernel
theorem dX6_cut_6 : decode cX6_cut 6 = .ok (.getfield 111, 3) := by decide +kernel
theorem dX6_cut_9 : decode cX6_cut 9 = .ok (.invokestatic 66, 3) := by decide +kernel
theorem dX6_cut_12 : decode cX6_cut 12 = .ok (.ifCond .ne 5, 3) := by decide +kernel
theorem dX6_cut_15 : decode cX6_cut 15 = .ok (.iconst (-1), 1) := by decide +kernel
theorem dX6_cut_16 : decode cX6_cut 16 = .ok (.ireturn, 1) := by decide +kernel
theorem dX6_cut_17 : decode cX6_cut 17 = .ok (.aload_n 0, 1) := by decide +kernel
theorem dX6_cut_18 : decode cX6_cut 18 = .ok (.getfield 10, 3) := by decide +kernel
theorem dX6_cut_21 : decode cX6_cut 21 = .ok (.getfield 111, 3) := by decide +kernel
theorem dX6_cut_24 : decode cX6_cut 24 = .ok (.istore_n 2, 1) := by decide +kernel
theorem dX6_cut_25 : decode cX6_cut 25 = .ok (.aload_n 0, 1) := by decide +kernel
theorem dX6_cut_26 : decode cX6_cut 26 = .ok (.getfield 10, 3) := by decide +kernel
theorem dX6_cut_29 : decode cX6_cut 29 = .ok (.iload_n 1, 1) := by decide +kernel
theorem dX6_cut_30 : decode cX6_cut 30 = .ok (.putfield 111, 3) := by decide +kernel
theorem dX6_cut_33 : decode cX6_cut 33 = .ok (.iload_n 2, 1) := by decide +kernel
theorem dX6_cut_34 : decode cX6_cut 34 = .ok (.ireturn, 1) := by decide +kernel
theorem dX6_stands_0 : decode cX6_stands 0 = .ok (.aload_n 0, 1) := by decide +kernel
theorem dX6_stands_1 : decode cX6_stands 1 = .ok (.getfield 10, 3) := by decide +kernel
theorem dX6_stands_4 : decode cX6_stands 4 = .ok (.iload_n 1, 1) := by decide +kernel
theorem dX6_stands_5 : decode cX6_stands 5 = .ok (.invokevirtual 157, 3) := by decide +kernel
theorem dX6_stands_8 : decode cX6_stands 8 = .ok (.ifCond .eq 14, 3) := by decide +kernel
theorem dX6_stands_11 : decode cX6_stands 11 = .ok (.aload_n 0, 1) := by decide +kernel
theorem dX6_stands_12 : decode cX6_stands 12 = .ok (.getfield 10, 3) := by decide +kernel
theorem dX6_stands_15 : decode cX6_stands 15 = .ok (.iload_n 1, 1) := by decide +kernel
theorem dX6_stands_16 : decode cX6_stands 16 = .ok (.invokevirtual 107, 3) := by decide +kernel
theorem dX6_stands_19 : decode cX6_stands 19 = .ok (.goto 4, 3) := by decide +kernel
theorem dX6_stands_22 : decode cX6_stands 22 = .ok (.iconst (-1), 1) := by decide +kernel
theorem dX6_stands_23 : decode cX6_stands 23 = .ok (.ireturn, 1) := by decide +kernel
theorem dX6_sum_0 : decode cX6_sum 0 = .ok (.iload_n 1, 1) := by decide +kernel
theorem dX6_sum_1 : decode cX6_sum 1 = .ok (.iconst 0, 1) := by decide +kernel
theorem dX6_sum_2 : decode cX6_sum 2 = .ok (.iconst 2, 1) := by decide +kernel
theorem dX6_sum_3 : decode cX6_sum 3 = .ok (.invokestatic 66, 3) := by decide +kernel
theorem dX6_sum_6 : decode cX6_sum 6 = .ok (.ifCond .ne 5, 3) := by decide +kernel
theorem dX6_sum_9 : decode cX6_sum 9 = .ok (.iconst (-1), 1) := by decide +kernel
theorem dX6_sum_10 : decode cX6_sum 10 = .ok (.ireturn, 1) := by decide +kernel
theorem dX6_sum_11 : decode cX6_sum 11 = .ok (.aload_n 0, 1) := by decide +kernel
theorem dX6_sum_12 : decode cX6_sum 12 = .ok (.getfield 10, 3) := by decide +kernel
theorem dX6_sum_15 : decode cX6_sum 15 = .ok (.aload_n 0, 1) := by decide +kernel
theorem dX6_sum_16 : decode cX6_sum 16 = .ok (.getfield 10, 3) := by decide +kernel
theorem dX6_sum_19 : decode cX6_sum 19 = .ok (.getfield 104, 3) := by decide +kernel
theorem dX6_sum_22 : decode cX6_sum 22 = .ok (.invokevirtual 107, 3) := by decide +kernel
theorem dX6_sum_25 : decode cX6_sum 25 = .ok (.istore_n 2, 1) := by decide +kernel
theorem dX6_sum_26 : decode cX6_sum 26 = .ok (.iconst 0, 1) := by decide +kernel
theorem dX6_sum_27 : decode cX6_sum 27 = .ok (.istore_n 3, 1) := by decide +kernel
theorem dX6_sum_28 : decode cX6_sum 28 = .ok (.iconst 0, 1) := by decide +kernel
theorem dX6_sum_29 : decode cX6_sum 29 = .ok (.istore 4, 2) := by decide +kernel
theorem dX6_sum_31 : decode cX6_sum 31 = .ok (.iload 4, 2) := by decide +kernel
theorem dX6_sum_33 : decode cX6_sum 33 = .ok (.aload_n 0, 1) := by decide +kernel
theorem dX6_sum_34 : decode cX6_sum 34 = .ok (.getfield 10, 3) := by decide +kernel
theorem dX6_sum_37 : decode cX6_sum 37 = .ok (.getfield 95, 3) := by decide +kernel
theorem dX6_sum_40 : decode cX6_sum 40 = .ok (.if_icmp .ge 46, 3) := by decide +kernel
theorem dX6_sum_43 : decode cX6_sum 43 = .ok (.aload_n 0, 1) := by decide +kernel
theorem dX6_sum_44 : decode cX6_sum 44 = .ok (.getfield 10, 3) := by decide +kernel
theorem dX6_sum_47 : decode cX6_sum 47 = .ok (.getfield 117, 3) := by decide +kernel
theorem dX6_sum_50 : decode cX6_sum 50 = .ok (.iload 4, 2) := by decide +kernel
theorem dX6_sum_52 : decode cX6_sum 52 = .ok (.iaload, 1) := by decide +kernel
theorem dX6_sum_53 : decode cX6_sum 53 = .ok (.iload_n 1, 1) := by decide +kernel
theorem dX6_sum_54 : decode cX6_sum 54 = .ok (.if_icmp .ne 26, 3) := by decide +kernel
theorem dX6_sum_57 : decode cX6_sum 57 = .ok (.iload_n 2, 1) := by decide +kernel
theorem dX6_sum_58 : decode cX6_sum 58 = .ok (.iload 4, 2) := by decide +kernel
theorem dX6_sum_60 : decode cX6_sum 60 = .ok (.ishr, 1) := by decide +kernel
theorem dX6_sum_61 : decode cX6_sum 61 = .ok (.iconst 1, 1) := by decide +kernel
theorem dX6_sum_62 : decode cX6_sum 62 = .ok (.iand, 1) := by decide +kernel
theorem dX6_sum_63 : decode cX6_sum 63 = .ok (.iconst 1, 1) := by decide +kernel
theorem dX6_sum_64 : decode cX6_sum 64 = .ok (.if_icmp .ne 16, 3) := by decide +kernel
theorem dX6_sum_67 : decode cX6_sum 67 = .ok (.iload_n 3, 1) := by decide +kernel
theorem dX6_sum_68 : decode cX6_sum 68 = .ok (.aload_n 0, 1) := by decide +kernel
theorem dX6_sum_69 : decode cX6_sum 69 = .ok (.getfield 10, 3) := by decide +kernel
theorem dX6_sum_72 : decode cX6_sum 72 = .ok (.getfield 126, 3) := by decide +kernel
theorem dX6_sum_75 : decode cX6_sum 75 = .ok (.iload 4, 2) := by decide +kernel
theorem dX6_sum_77 : decode cX6_sum 77 = .ok (.iaload, 1) := by decide +kernel
theorem dX6_sum_78 : decode cX6_sum 78 = .ok (.iadd, 1) := by decide +kernel
theorem dX6_sum_79 : decode cX6_sum 79 = .ok (.istore_n 3, 1) := by decide +kernel
theorem dX6_sum_80 : decode cX6_sum 80 = .ok (.iinc 4 1, 3) := by decide +kernel
theorem dX6_sum_83 : decode cX6_sum 83 = .ok (.goto (-52), 3) := by decide +kernel
end
section
theorem dX6_sum_86 : decode cX6_sum 86 = .ok (.iload_n 3, 1) := by decide +kernel
theorem dX6_sum_87 : decode cX6_sum 87 = .ok (.ireturn, 1) := by decide +kernel
theorem dX6_upon_0 : decode cX6_upon 0 = .ok (.aload_n 0, 1) := by decide +kernel
theorem dX6_upon_1 : decode cX6_upon 1 = .ok (.getfield 10, 3) := by decide +kernel
theorem dX6_upon_4 : decode cX6_upon 4 = .ok (.iload_n 1, 1) := by decide +kernel
theorem dX6_upon_5 : decode cX6_upon 5 = .ok (.invokevirtual 114, 3) := by decide +kernel
theorem dX6_upon_8 : decode cX6_upon 8 = .ok (.ifCond .ne 5, 3) := by decide +kernel
theorem dX6_upon_11 : decode cX6_upon 11 = .ok (.iconst (-1), 1) := by decide +kernel
theorem dX6_upon_12 : decode cX6_upon 12 = .ok (.ireturn, 1) := by decide +kernel
theorem dX6_upon_13 : decode cX6_upon 13 = .ok (.aload_n 0, 1) := by decide +kernel
theorem dX6_upon_14 : decode cX6_upon 14 = .ok (.getfield 10, 3) := by decide +kernel
theorem dX6_upon_17 : decode cX6_upon 17 = .ok (.aload_n 0, 1) := by decide +kernel
theorem dX6_upon_18 : decode cX6_upon 18 = .ok (.getfield 10, 3) := by decide +kernel
theorem dX6_upon_21 : decode cX6_upon 21 = .ok (.getfield 104, 3) := by decide +kernel
theorem dX6_upon_24 : decode cX6_upon 24 = .ok (.invokevirtual 107, 3) := by decide +kernel
theorem dX6_upon_27 : decode cX6_upon 27 = .ok (.aload_n 0, 1) := by decide +kernel
theorem dX6_upon_28 : decode cX6_upon 28 = .ok (.getfield 10, 3) := by decide +kernel
theorem dX6_upon_31 : decode cX6_upon 31 = .ok (.aload_n 0, 1) := by decide +kernel
theorem dX6_upon_32 : decode cX6_upon 32 = .ok (.getfield 10, 3) := by decide +kernel
theorem dX6_upon_35 : decode cX6_upon 35 = .ok (.getfield 104, 3) := by decide +kernel
theorem dX6_upon_38 : decode cX6_upon 38 = .ok (.iconst 1, 1) := by decide +kernel
theorem dX6_upon_39 : decode cX6_upon 39 = .ok (.iload_n 1, 1) := by decide +kernel
theorem dX6_upon_40 : decode cX6_upon 40 = .ok (.ishl, 1) := by decide +kernel
theorem dX6_upon_41 : decode cX6_upon 41 = .ok (.iconst (-1), 1) := by decide +kernel
theorem dX6_upon_42 : decode cX6_upon 42 = .ok (.ixor, 1) := by decide +kernel
theorem dX6_upon_43 : decode cX6_upon 43 = .ok (.iand, 1) := by decide +kernel
theorem dX6_upon_44 : decode cX6_upon 44 = .ok (.invokevirtual 107, 3) := by decide +kernel
theorem dX6_upon_47 : decode cX6_upon 47 = .ok (.iconst (-1), 1) := by decide +kernel
theorem dX6_upon_48 : decode cX6_upon 48 = .ok (.ixor, 1) := by decide +kernel
theorem dX6_upon_49 : decode cX6_upon 49 = .ok (.iand, 1) := by decide +kernel
theorem dX6_upon_50 : decode cX6_upon 50 = .ok (.ireturn, 1) := by decide +kernel
theorem dX6_reply_0 : decode cX6_reply 0 = .ok (.aload_n 0, 1) := by decide +kernel
theorem dX6_reply_1 : decode cX6_reply 1 = .ok (.getfield 10, 3) := by decide +kernel
theorem dX6_reply_4 : decode cX6_reply 4 = .ok (.iload_n 1, 1) := by decide +kernel
theorem dX6_reply_5 : decode cX6_reply 5 = .ok (.invokevirtual 114, 3) := by decide +kernel
theorem dX6_reply_8 : decode cX6_reply 8 = .ok (.ifCond .eq 12, 3) := by decide +kernel
theorem dX6_reply_11 : decode cX6_reply 11 = .ok (.iload_n 2, 1) := by decide +kernel
theorem dX6_reply_12 : decode cX6_reply 12 = .ok (.iconst 0, 1) := by decide +kernel
theorem dX6_reply_13 : decode cX6_reply 13 = .ok (.iconst 1, 1) := by decide +kernel
theorem dX6_reply_14 : decode cX6_reply 14 = .ok (.invokestatic 66, 3) := by decide +kernel
theorem dX6_reply_17 : decode cX6_reply 17 = .ok (.ifCond .ne 5, 3) := by decide +kernel
theorem dX6_reply_20 : decode cX6_reply 20 = .ok (.iconst (-1), 1) := by decide +kernel
theorem dX6_reply_21 : decode cX6_reply 21 = .ok (.ireturn, 1) := by decide +kernel
theorem dX6_reply_22 : decode cX6_reply 22 = .ok (.aload_n 0, 1) := by decide +kernel
theorem dX6_reply_23 : decode cX6_reply 23 = .ok (.getfield 10, 3) := by decide +kernel
theorem dX6_reply_26 : decode cX6_reply 26 = .ok (.aload_n 0, 1) := by decide +kernel
theorem dX6_reply_27 : decode cX6_reply 27 = .ok (.getfield 10, 3) := by decide +kernel
theorem dX6_reply_30 : decode cX6_reply 30 = .ok (.getfield 104, 3) := by decide +kernel
theorem dX6_reply_33 : decode cX6_reply 33 = .ok (.invokevirtual 107, 3) := by decide +kernel
theorem dX6_reply_36 : decode cX6_reply 36 = .ok (.iload_n 1, 1) := by decide +kernel
theorem dX6_reply_37 : decode cX6_reply 37 = .ok (.ishr, 1) := by decide +kernel
theorem dX6_reply_38 : decode cX6_reply 38 = .ok (.iconst 1, 1) := by decide +kernel
theorem dX6_reply_39 : decode cX6_reply 39 = .ok (.iand, 1) := by decide +kernel
theorem dX6_reply_40 : decode cX6_reply 40 = .ok (.istore_n 3, 1) := by decide +kernel
theorem dX6_reply_41 : decode cX6_reply 41 = .ok (.iload_n 3, 1) := by decide +kernel
theorem dX6_reply_42 : decode cX6_reply 42 = .ok (.iload_n 2, 1) := by decide +kernel
theorem dX6_reply_43 : decode cX6_reply 43 = .ok (.if_icmp .ne 5, 3) := by decide +kernel
theorem dX6_reply_46 : decode cX6_reply 46 = .ok (.iconst 0, 1) := by decide +kernel
theorem dX6_reply_47 : decode cX6_reply 47 = .ok (.ireturn, 1) := by decide +kernel
theorem dX6_reply_48 : decode cX6_reply 48 = .ok (.iconst 0, 1) := by decide +kernel
theorem dX6_reply_49 : decode cX6_reply 49 = .ok (.istore 4, 2) := by decide +kernel
theorem dX6_reply_51 : decode cX6_reply 51 = .ok (.iconst 0, 1) := by decide +kernel
theorem dX6_reply_52 : decode cX6_reply 52 = .ok (.istore 5, 2) := by decide +kernel
theorem dX6_reply_54 : decode cX6_reply 54 = .ok (.iload 5, 2) := by decide +kernel
theorem dX6_reply_56 : decode cX6_reply 56 = .ok (.aload_n 0, 1) := by decide +kernel
theorem dX6_reply_57 : decode cX6_reply 57 = .ok (.getfield 10, 3) := by decide +kernel
theorem dX6_reply_60 : decode cX6_reply 60 = .ok (.getfield 95, 3) := by decide +kernel
theorem dX6_reply_63 : decode cX6_reply 63 = .ok (.if_icmp .ge 57, 3) := by decide +kernel
theorem dX6_reply_66 : decode cX6_reply 66 = .ok (.aload_n 0, 1) := by decide +kernel
theorem dX6_reply_67 : decode cX6_reply 67 = .ok (.getfield 10, 3) := by decide +kernel
theorem dX6_reply_70 : decode cX6_reply 70 = .ok (.iload 5, 2) := by decide +kernel
theorem dX6_reply_72 : decode cX6_reply 72 = .ok (.invokevirtual 138, 3) := by decide +kernel
theorem dX6_reply_75 : decode cX6_reply 75 = .ok (.ifCond .ne 39, 3) := by decide +kernel
theorem dX6_reply_78 : decode cX6_reply 78 = .ok (.aload_n 0, 1) := by decide +kernel
theorem dX6_reply_79 : decode cX6_reply 79 = .ok (.getfield 10, 3) := by decide +kernel
theorem dX6_reply_82 : decode cX6_reply 82 = .ok (.aload_n 0, 1) := by decide +kernel
theorem dX6_reply_83 : decode cX6_reply 83 = .ok (.getfield 10, 3) := by decide +kernel
theorem dX6_reply_86 : decode cX6_reply 86 = .ok (.getfield 104, 3) := by decide +kernel
theorem dX6_reply_89 : decode cX6_reply 89 = .ok (.iconst 1, 1) := by decide +kernel
theorem dX6_reply_90 : decode cX6_reply 90 = .ok (.iload 5, 2) := by decide +kernel
theorem dX6_reply_92 : decode cX6_reply 92 = .ok (.ishl, 1) := by decide +kernel
theorem dX6_reply_93 : decode cX6_reply 93 = .ok (.ior, 1) := by decide +kernel
theorem dX6_reply_94 : decode cX6_reply 94 = .ok (.invokevirtual 107, 3) := by decide +kernel
theorem dX6_reply_97 : decode cX6_reply 97 = .ok (.iload_n 1, 1) := by decide +kernel
theorem dX6_reply_98 : decode cX6_reply 98 = .ok (.ishr, 1) := by decide +kernel
theorem dX6_reply_99 : decode cX6_reply 99 = .ok (.iconst 1, 1) := by decide +kernel
theorem dX6_reply_100 : decode cX6_reply 100 = .ok (.iand, 1) := by decide +kernel
theorem dX6_reply_101 : decode cX6_reply 101 = .ok (.iload_n 3, 1) := by decide +kernel
theorem dX6_reply_102 : decode cX6_reply 102 = .ok (.if_icmp .eq 12, 3) := by decide +kernel
theorem dX6_reply_105 : decode cX6_reply 105 = .ok (.iload 4, 2) := by decide +kernel
theorem dX6_reply_107 : decode cX6_reply 107 = .ok (.iconst 1, 1) := by decide +kernel
theorem dX6_reply_108 : decode cX6_reply 108 = .ok (.iload 5, 2) := by decide +kernel
theorem dX6_reply_110 : decode cX6_reply 110 = .ok (.ishl, 1) := by decide +kernel
theorem dX6_reply_111 : decode cX6_reply 111 = .ok (.ior, 1) := by decide +kernel
theorem dX6_reply_112 : decode cX6_reply 112 = .ok (.istore 4, 2) := by decide +kernel
theorem dX6_reply_114 : decode cX6_reply 114 = .ok (.iinc 5 1, 3) := by decide +kernel
theorem dX6_reply_117 : decode cX6_reply 117 = .ok (.goto (-63), 3) := by decide +kernel
theorem dX6_reply_120 : decode cX6_reply 120 = .ok (.iload 4, 2) := by decide +kernel
theorem dX6_reply_122 : decode cX6_reply 122 = .ok (.ireturn, 1) := by decide +kernel
theorem dX6_ever_0 : decode cX6_ever 0 = .ok (.iload_n 1, 1) := by decide +kernel
theorem dX6_ever_1 : decode cX6_ever 1 = .ok (.iconst 0, 1) := by decide +kernel
theorem dX6_ever_2 : decode cX6_ever 2 = .ok (.iconst 1, 1) := by decide +kernel
theorem dX6_ever_3 : decode cX6_ever 3 = .ok (.invokestatic 66, 3) := by decide +kernel
theorem dX6_ever_6 : decode cX6_ever 6 = .ok (.ifCond .ne 5, 3) := by decide +kernel
theorem dX6_ever_9 : decode cX6_ever 9 = .ok (.iconst (-1), 1) := by decide +kernel
theorem dX6_ever_10 : decode cX6_ever 10 = .ok (.ireturn, 1) := by decide +kernel
theorem dX6_ever_11 : decode cX6_ever 11 = .ok (.iconst 1, 1) := by decide +kernel
theorem dX6_ever_12 : decode cX6_ever 12 = .ok (.aload_n 0, 1) := by decide +kernel
theorem dX6_ever_13 : decode cX6_ever 13 = .ok (.getfield 10, 3) := by decide +kernel
theorem dX6_ever_16 : decode cX6_ever 16 = .ok (.getfield 95, 3) := by decide +kernel
theorem dX6_ever_19 : decode cX6_ever 19 = .ok (.ishl, 1) := by decide +kernel
theorem dX6_ever_20 : decode cX6_ever 20 = .ok (.istore_n 2, 1) := by decide +kernel
theorem dX6_ever_21 : decode cX6_ever 21 = .ok (.iconst 0, 1) := by decide +kernel
theorem dX6_ever_22 : decode cX6_ever 22 = .ok (.istore_n 3, 1) := by decide +kernel
theorem dX6_ever_23 : decode cX6_ever 23 = .ok (.iconst 0, 1) := by decide +kernel
theorem dX6_ever_24 : decode cX6_ever 24 = .ok (.istore 4, 2) := by decide +kernel
theorem dX6_ever_26 : decode cX6_ever 26 = .ok (.iconst 0, 1) := by decide +kernel
theorem dX6_ever_27 : decode cX6_ever 27 = .ok (.istore 5, 2) := by decide +kernel
theorem dX6_ever_29 : decode cX6_ever 29 = .ok (.iload 5, 2) := by decide +kernel
theorem dX6_ever_31 : decode cX6_ever 31 = .ok (.iload_n 2, 1) := by decide +kernel
theorem dX6_ever_32 : decode cX6_ever 32 = .ok (.if_icmp .ge 37, 3) := by decide +kernel
theorem dX6_ever_35 : decode cX6_ever 35 = .ok (.aload_n 0, 1) := by decide +kernel
theorem dX6_ever_36 : decode cX6_ever 36 = .ok (.getfield 10, 3) := by decide +kernel
theorem dX6_ever_39 : decode cX6_ever 39 = .ok (.iload 5, 2) := by decide +kernel
theorem dX6_ever_41 : decode cX6_ever 41 = .ok (.invokevirtual 107, 3) := by decide +kernel
theorem dX6_ever_44 : decode cX6_ever 44 = .ok (.istore 6, 2) := by decide +kernel
theorem dX6_ever_46 : decode cX6_ever 46 = .ok (.iload_n 3, 1) := by decide +kernel
theorem dX6_ever_47 : decode cX6_ever 47 = .ok (.iload 6, 2) := by decide +kernel
theorem dX6_ever_49 : decode cX6_ever 49 = .ok (.ior, 1) := by decide +kernel
theorem dX6_ever_50 : decode cX6_ever 50 = .ok (.istore_n 3, 1) := by decide +kernel
theorem dX6_ever_51 : decode cX6_ever 51 = .ok (.iload 4, 2) := by decide +kernel
theorem dX6_ever_53 : decode cX6_ever 53 = .ok (.iload 5, 2) := by decide +kernel
theorem dX6_ever_55 : decode cX6_ever 55 = .ok (.iload 6, 2) := by decide +kernel
theorem dX6_ever_57 : decode cX6_ever 57 = .ok (.iconst (-1), 1) := by decide +kernel
theorem dX6_ever_58 : decode cX6_ever 58 = .ok (.ixor, 1) := by decide +kernel
theorem dX6_ever_59 : decode cX6_ever 59 = .ok (.iand, 1) := by decide +kernel
theorem dX6_ever_60 : decode cX6_ever 60 = .ok (.ior, 1) := by decide +kernel
theorem dX6_ever_61 : decode cX6_ever 61 = .ok (.istore 4, 2) := by decide +kernel
theorem dX6_ever_63 : decode cX6_ever 63 = .ok (.iinc 5 1, 3) := by decide +kernel
theorem dX6_ever_66 : decode cX6_ever 66 = .ok (.goto (-37), 3) := by decide +kernel
theorem dX6_ever_69 : decode cX6_ever 69 = .ok (.iload_n 2, 1) := by decide +kernel
theorem dX6_ever_70 : decode cX6_ever 70 = .ok (.iconst 1, 1) := by decide +kernel
theorem dX6_ever_71 : decode cX6_ever 71 = .ok (.isub, 1) := by decide +kernel
theorem dX6_ever_72 : decode cX6_ever 72 = .ok (.iload_n 1, 1) := by decide +kernel
theorem dX6_ever_73 : decode cX6_ever 73 = .ok (.ifCond .ne 7, 3) := by decide +kernel
theorem dX6_ever_76 : decode cX6_ever 76 = .ok (.iload_n 3, 1) := by decide +kernel
theorem dX6_ever_77 : decode cX6_ever 77 = .ok (.goto 5, 3) := by decide +kernel
theorem dX6_ever_80 : decode cX6_ever 80 = .ok (.iload 4, 2) := by decide +kernel
theorem dX6_ever_82 : decode cX6_ever 82 = .ok (.iconst (-1), 1) := by decide +kernel
theorem dX6_ever_83 : decode cX6_ever 83 = .ok (.ixor, 1) := by decide +kernel
theorem dX6_ever_84 : decode cX6_ever 84 = .ok (.iand, 1) := by decide +kernel
theorem dX6_ever_85 : decode cX6_ever 85 = .ok (.ireturn, 1) := by decide +kernel
theorem dX6_chain_0 : decode cX6_chain 0 = .ok (.aload_n 0, 1) := by decide +kernel
theorem dX6_chain_1 : decode cX6_chain 1 = .ok (.getfield 10, 3) := by decide +kernel
theorem dX6_chain_4 : decode cX6_chain 4 = .ok (.iload_n 1, 1) := by decide +kernel
theorem dX6_chain_5 : decode cX6_chain 5 = .ok (.invokevirtual 114, 3) := by decide +kernel
theorem dX6_chain_8 : decode cX6_chain 8 = .ok (.ifCond .ne 5, 3) := by decide +kernel
theorem dX6_chain_11 : decode cX6_chain 11 = .ok (.iconst (-1), 1) := by decide +kernel
theorem dX6_chain_12 : decode cX6_chain 12 = .ok (.ireturn, 1) := by decide +kernel
theorem dX6_chain_13 : decode cX6_chain 13 = .ok (.iconst 0, 1) := by decide +kernel
theorem dX6_chain_14 : decode cX6_chain 14 = .ok (.istore_n 2, 1) := by decide +kernel
theorem dX6_chain_15 : decode cX6_chain 15 = .ok (.iload_n 2, 1) := by decide +kernel
theorem dX6_chain_16 : decode cX6_chain 16 = .ok (.iload_n 1, 1) := by decide +kernel
theorem dX6_chain_17 : decode cX6_chain 17 = .ok (.if_icmp .gt 69, 3) := by decide +kernel
theorem dX6_chain_20 : decode cX6_chain 20 = .ok (.aload_n 0, 1) := by decide +kernel
theorem dX6_chain_21 : decode cX6_chain 21 = .ok (.getfield 62, 3) := by decide +kernel
theorem dX6_chain_24 : decode cX6_chain 24 = .ok (.iload_n 2, 1) := by decide +kernel
theorem dX6_chain_25 : decode cX6_chain 25 = .ok (.iconst 1, 1) := by decide +kernel
theorem dX6_chain_26 : decode cX6_chain 26 = .ok (.iastore, 1) := by decide +kernel
theorem dX6_chain_27 : decode cX6_chain 27 = .ok (.iconst 0, 1) := by decide +kernel
theorem dX6_chain_28 : decode cX6_chain 28 = .ok (.istore_n 3, 1) := by decide +kernel
theorem dX6_chain_29 : decode cX6_chain 29 = .ok (.iload_n 3, 1) := by decide +kernel
theorem dX6_chain_30 : decode cX6_chain 30 = .ok (.iload_n 2, 1) := by decide +kernel
theorem dX6_chain_31 : decode cX6_chain 31 = .ok (.if_icmp .ge 49, 3) := by decide +kernel
theorem dX6_chain_34 : decode cX6_chain 34 = .ok (.aload_n 0, 1) := by decide +kernel
theorem dX6_chain_35 : decode cX6_chain 35 = .ok (.getfield 10, 3) := by decide +kernel
theorem dX6_chain_38 : decode cX6_chain 38 = .ok (.getfield 129, 3) := by decide +kernel
theorem dX6_chain_41 : decode cX6_chain 41 = .ok (.iload_n 2, 1) := by decide +kernel
theorem dX6_chain_42 : decode cX6_chain 42 = .ok (.iaload, 1) := by decide +kernel
theorem dX6_chain_43 : decode cX6_chain 43 = .ok (.iload_n 3, 1) := by decide +kernel
theorem dX6_chain_44 : decode cX6_chain 44 = .ok (.ishr, 1) := by decide +kernel
theorem dX6_chain_45 : decode cX6_chain 45 = .ok (.iconst 1, 1) := by decide +kernel
theorem dX6_chain_46 : decode cX6_chain 46 = .ok (.iand, 1) := by decide +kernel
theorem dX6_chain_47 : decode cX6_chain 47 = .ok (.iconst 1, 1) := by decide +kernel
theorem dX6_chain_48 : decode cX6_chain 48 = .ok (.if_icmp .ne 26, 3) := by decide +kernel
theorem dX6_chain_51 : decode cX6_chain 51 = .ok (.aload_n 0, 1) := by decide +kernel
theorem dX6_chain_52 : decode cX6_chain 52 = .ok (.getfield 62, 3) := by decide +kernel
theorem dX6_chain_55 : decode cX6_chain 55 = .ok (.iload_n 2, 1) := by decide +kernel
theorem dX6_chain_56 : decode cX6_chain 56 = .ok (.aload_n 0, 1) := by decide +kernel
theorem dX6_chain_57 : decode cX6_chain 57 = .ok (.getfield 62, 3) := by decide +kernel
theorem dX6_chain_60 : decode cX6_chain 60 = .ok (.iload_n 2, 1) := by decide +kernel
theorem dX6_chain_61 : decode cX6_chain 61 = .ok (.iaload, 1) := by decide +kernel
theorem dX6_chain_62 : decode cX6_chain 62 = .ok (.aload_n 0, 1) := by decide +kernel
theorem dX6_chain_63 : decode cX6_chain 63 = .ok (.getfield 62, 3) := by decide +kernel
theorem dX6_chain_66 : decode cX6_chain 66 = .ok (.iload_n 3, 1) := by decide +kernel
theorem dX6_chain_67 : decode cX6_chain 67 = .ok (.iaload, 1) := by decide +kernel
theorem dX6_chain_68 : decode cX6_chain 68 = .ok (.iconst 1, 1) := by decide +kernel
theorem dX6_chain_69 : decode cX6_chain 69 = .ok (.iadd, 1) := by decide +kernel
theorem dX6_chain_70 : decode cX6_chain 70 = .ok (.invokestatic 160, 3) := by decide +kernel
theorem dX6_chain_73 : decode cX6_chain 73 = .ok (.iastore, 1) := by decide +kernel
theorem dX6_chain_74 : decode cX6_chain 74 = .ok (.iinc 3 1, 3) := by decide +kernel
theorem dX6_chain_77 : decode cX6_chain 77 = .ok (.goto (-48), 3) := by decide +kernel
theorem dX6_chain_80 : decode cX6_chain 80 = .ok (.iinc 2 1, 3) := by decide +kernel
theorem dX6_chain_83 : decode cX6_chain 83 = .ok (.goto (-68), 3) := by decide +kernel
theorem dX6_chain_86 : decode cX6_chain 86 = .ok (.aload_n 0, 1) := by decide +kernel
theorem dX6_chain_87 : decode cX6_chain 87 = .ok (.getfield 62, 3) := by decide +kernel
theorem dX6_chain_90 : decode cX6_chain 90 = .ok (.iload_n 1, 1) := by decide +kernel
theorem dX6_chain_91 : decode cX6_chain 91 = .ok (.iaload, 1) := by decide +kernel
theorem dX6_chain_92 : decode cX6_chain 92 = .ok (.ireturn, 1) := by decide +kernel
theorem dX6_late_0 : decode cX6_late 0 = .ok (.iconst 0, 1) := by decide +kernel
theorem dX6_late_1 : decode cX6_late 1 = .ok (.istore_n 1, 1) := by decide +kernel
theorem dX6_late_2 : decode cX6_late 2 = .ok (.iconst 0, 1) := by decide +kernel
theorem dX6_late_3 : decode cX6_late 3 = .ok (.istore_n 2, 1) := by decide +kernel
theorem dX6_late_4 : decode cX6_late 4 = .ok (.iload_n 2, 1) := by decide +kernel
theorem dX6_late_5 : decode cX6_late 5 = .ok (.aload_n 0, 1) := by decide +kernel
theorem dX6_late_6 : decode cX6_late 6 = .ok (.getfield 10, 3) := by decide +kernel
theorem dX6_late_9 : decode cX6_late 9 = .ok (.getfield 95, 3) := by decide +kernel
theorem dX6_late_12 : decode cX6_late 12 = .ok (.if_icmp .ge 45, 3) := by decide +kernel
theorem dX6_late_15 : decode cX6_late 15 = .ok (.aload_n 0, 1) := by decide +kernel
theorem dX6_late_16 : decode cX6_late 16 = .ok (.getfield 10, 3) := by decide +kernel
theorem dX6_late_19 : decode cX6_late 19 = .ok (.iload_n 2, 1) := by decide +kernel
theorem dX6_late_20 : decode cX6_late 20 = .ok (.invokevirtual 138, 3) := by decide +kernel
theorem dX6_late_23 : decode cX6_late 23 = .ok (.ifCond .ne 28, 3) := by decide +kernel
theorem dX6_late_26 : decode cX6_late 26 = .ok (.aload_n 0, 1) := by decide +kernel
theorem dX6_late_27 : decode cX6_late 27 = .ok (.getfield 10, 3) := by decide +kernel
theorem dX6_late_30 : decode cX6_late 30 = .ok (.getfield 123, 3) := by decide +kernel
theorem dX6_late_33 : decode cX6_late 33 = .ok (.iload_n 2, 1) := by decide +kernel
theorem dX6_late_34 : decode cX6_late 34 = .ok (.iaload, 1) := by decide +kernel
theorem dX6_late_35 : decode cX6_late 35 = .ok (.aload_n 0, 1) := by decide +kernel
theorem dX6_late_36 : decode cX6_late 36 = .ok (.getfield 10, 3) := by decide +kernel
theorem dX6_late_39 : decode cX6_late 39 = .ok (.getfield 101, 3) := by decide +kernel
theorem dX6_late_42 : decode cX6_late 42 = .ok (.if_icmp .ge 9, 3) := by decide +kernel
theorem dX6_late_45 : decode cX6_late 45 = .ok (.iload_n 1, 1) := by decide +kernel
theorem dX6_late_46 : decode cX6_late 46 = .ok (.iconst 1, 1) := by decide +kernel
theorem dX6_late_47 : decode cX6_late 47 = .ok (.iload_n 2, 1) := by decide +kernel
theorem dX6_late_48 : decode cX6_late 48 = .ok (.ishl, 1) := by decide +kernel
theorem dX6_late_49 : decode cX6_late 49 = .ok (.ior, 1) := by decide +kernel
theorem dX6_late_50 : decode cX6_late 50 = .ok (.istore_n 1, 1) := by decide +kernel
theorem dX6_late_51 : decode cX6_late 51 = .ok (.iinc 2 1, 3) := by decide +kernel
theorem dX6_late_54 : decode cX6_late 54 = .ok (.goto (-50), 3) := by decide +kernel
theorem dX6_late_57 : decode cX6_late 57 = .ok (.iload_n 1, 1) := by decide +kernel
theorem dX6_late_58 : decode cX6_late 58 = .ok (.ireturn, 1) := by decide +kernel
theorem dX6_few_0 : decode cX6_few 0 = .ok (.iload_n 1, 1) := by decide +kernel
theorem dX6_few_1 : decode cX6_few 1 = .ok (.iconst 0, 1) := by decide +kernel
theorem dX6_few_2 : decode cX6_few 2 = .ok (.iconst 1, 1) := by decide +kernel
theorem dX6_few_3 : decode cX6_few 3 = .ok (.invokestatic 66, 3) := by decide +kernel
theorem dX6_few_6 : decode cX6_few 6 = .ok (.ifCond .eq 12, 3) := by decide +kernel
theorem dX6_few_9 : decode cX6_few 9 = .ok (.aload_n 0, 1) := by decide +kernel
theorem dX6_few_10 : decode cX6_few 10 = .ok (.iconst 1, 1) := by decide +kernel
theorem dX6_few_11 : decode cX6_few 11 = .ok (.iload_n 1, 1) := by decide +kernel
theorem dX6_few_12 : decode cX6_few 12 = .ok (.invokevirtual 166, 3) := by decide +kernel
theorem dX6_few_15 : decode cX6_few 15 = .ok (.goto 4, 3) := by decide +kernel
theorem dX6_few_18 : decode cX6_few 18 = .ok (.iconst (-1), 1) := by decide +kernel
theorem dX6_few_19 : decode cX6_few 19 = .ok (.ireturn, 1) := by decide +kernel
theorem dX6_foil_0 : decode cX6_foil 0 = .ok (.iload_n 1, 1) := by decide +kernel
theorem dX6_foil_1 : decode cX6_foil 1 = .ok (.iconst 0, 1) := by decide +kernel
theorem dX6_foil_2 : decode cX6_foil 2 = .ok (.iconst 1, 1) := by decide +kernel
theorem dX6_foil_3 : decode cX6_foil 3 = .ok (.invokestatic 66, 3) := by decide +kernel
theorem dX6_foil_6 : decode cX6_foil 6 = .ok (.ifCond .eq 12, 3) := by decide +kernel
theorem dX6_foil_9 : decode cX6_foil 9 = .ok (.aload_n 0, 1) := by decide +kernel
theorem dX6_foil_10 : decode cX6_foil 10 = .ok (.iconst 0, 1) := by decide +kernel
theorem dX6_foil_11 : decode cX6_foil 11 = .ok (.iload_n 1, 1) := by decide +kernel
theorem dX6_foil_12 : decode cX6_foil 12 = .ok (.invokevirtual 166, 3) := by decide +kernel
theorem dX6_foil_15 : decode cX6_foil 15 = .ok (.goto 4, 3) := by decide +kernel
theorem dX6_foil_18 : decode cX6_foil 18 = .ok (.iconst (-1), 1) := by decide +kernel
theorem dX6_foil_19 : decode cX6_foil 19 = .ok (.ireturn, 1) := by decide +kernel
theorem dX6_trial_0 : decode cX6_trial 0 = .ok (.iload_n 1, 1) := by decide +kernel
theorem dX6_trial_1 : decode cX6_trial 1 = .ok (.iconst 0, 1) := by decide +kernel
theorem dX6_trial_2 : decode cX6_trial 2 = .ok (.iconst 3, 1) := by decide +kernel
theorem dX6_trial_3 : decode cX6_trial 3 = .ok (.invokestatic 66, 3) := by decide +kernel
theorem dX6_trial_6 : decode cX6_trial 6 = .ok (.ifCond .ne 5, 3) := by decide +kernel
theorem dX6_trial_9 : decode cX6_trial 9 = .ok (.iconst (-1), 1) := by decide +kernel
theorem dX6_trial_10 : decode cX6_trial 10 = .ok (.ireturn, 1) := by decide +kernel
theorem dX6_trial_11 : decode cX6_trial 11 = .ok (.aload_n 0, 1) := by decide +kernel
theorem dX6_trial_12 : decode cX6_trial 12 = .ok (.getfield 44, 3) := by decide +kernel
theorem dX6_trial_15 : decode cX6_trial 15 = .ok (.aload_n 0, 1) := by decide +kernel
theorem dX6_trial_16 : decode cX6_trial 16 = .ok (.getfield 10, 3) := by decide +kernel
theorem dX6_trial_19 : decode cX6_trial 19 = .ok (.iconst 0, 1) := by decide +kernel
theorem dX6_trial_20 : decode cX6_trial 20 = .ok (.invokevirtual 170, 3) := by decide +kernel
theorem dX6_trial_23 : decode cX6_trial 23 = .ok (.iload_n 1, 1) := by decide +kernel
theorem dX6_trial_24 : decode cX6_trial 24 = .ok (.tableswitch 84 0 2 #[28, 43, 76], 28) := by decide +kernel
theorem dX6_trial_52 : decode cX6_trial 52 = .ok (.aload_n 0, 1) := by decide +kernel
theorem dX6_trial_53 : decode cX6_trial 53 = .ok (.getfield 10, 3) := by decide +kernel
theorem dX6_trial_56 : decode cX6_trial 56 = .ok (.aload_n 0, 1) := by decide +kernel
theorem dX6_trial_57 : decode cX6_trial 57 = .ok (.getfield 44, 3) := by decide +kernel
theorem dX6_trial_60 : decode cX6_trial 60 = .ok (.getfield 174, 3) := by decide +kernel
theorem dX6_trial_63 : decode cX6_trial 63 = .ok (.invokevirtual 107, 3) := by decide +kernel
theorem dX6_trial_66 : decode cX6_trial 66 = .ok (.ireturn, 1) := by decide +kernel
theorem dX6_trial_67 : decode cX6_trial 67 = .ok (.aload_n 0, 1) := by decide +kernel
theorem dX6_trial_68 : decode cX6_trial 68 = .ok (.getfield 10, 3) := by decide +kernel
theorem dX6_trial_71 : decode cX6_trial 71 = .ok (.getfield 95, 3) := by decide +kernel
theorem dX6_trial_74 : decode cX6_trial 74 = .ok (.ifCond .ne 8, 3) := by decide +kernel
theorem dX6_trial_77 : decode cX6_trial 77 = .ok (.bipush (-4), 2) := by decide +kernel
theorem dX6_trial_79 : decode cX6_trial 79 = .ok (.goto 20, 3) := by decide +kernel
theorem dX6_trial_82 : decode cX6_trial 82 = .ok (.aload_n 0, 1) := by decide +kernel
theorem dX6_trial_83 : decode cX6_trial 83 = .ok (.getfield 10, 3) := by decide +kernel
theorem dX6_trial_86 : decode cX6_trial 86 = .ok (.aload_n 0, 1) := by decide +kernel
theorem dX6_trial_87 : decode cX6_trial 87 = .ok (.getfield 44, 3) := by decide +kernel
theorem dX6_trial_90 : decode cX6_trial 90 = .ok (.getfield 174, 3) := by decide +kernel
theorem dX6_trial_93 : decode cX6_trial 93 = .ok (.invokevirtual 175, 3) := by decide +kernel
theorem dX6_trial_96 : decode cX6_trial 96 = .ok (.invokestatic 178, 3) := by decide +kernel
theorem dX6_trial_99 : decode cX6_trial 99 = .ok (.ireturn, 1) := by decide +kernel
theorem dX6_trial_100 : decode cX6_trial 100 = .ok (.aload_n 0, 1) := by decide +kernel
theorem dX6_trial_101 : decode cX6_trial 101 = .ok (.getfield 44, 3) := by decide +kernel
theorem dX6_trial_104 : decode cX6_trial 104 = .ok (.getfield 182, 3) := by decide +kernel
theorem dX6_trial_107 : decode cX6_trial 107 = .ok (.ireturn, 1) := by decide +kernel
theorem dX6_trial_108 : decode cX6_trial 108 = .ok (.aload_n 0, 1) := by decide +kernel
theorem dX6_trial_109 : decode cX6_trial 109 = .ok (.getfield 44, 3) := by decide +kernel
theorem dX6_trial_112 : decode cX6_trial 112 = .ok (.getfield 185, 3) := by decide +kernel
theorem dX6_trial_115 : decode cX6_trial 115 = .ok (.ireturn, 1) := by decide +kernel
theorem dX6_luck_0 : decode cX6_luck 0 = .ok (.iload_n 1, 1) := by decide +kernel
theorem dX6_luck_1 : decode cX6_luck 1 = .ok (.iconst 0, 1) := by decide +kernel
theorem dX6_luck_2 : decode cX6_luck 2 = .ok (.bipush 10, 2) := by decide +kernel
theorem dX6_luck_4 : decode cX6_luck 4 = .ok (.invokestatic 66, 3) := by decide +kernel
theorem dX6_luck_7 : decode cX6_luck 7 = .ok (.ifCond .eq 12, 3) := by decide +kernel
theorem dX6_luck_10 : decode cX6_luck 10 = .ok (.iload_n 2, 1) := by decide +kernel
theorem dX6_luck_11 : decode cX6_luck 11 = .ok (.iconst 0, 1) := by decide +kernel
theorem dX6_luck_12 : decode cX6_luck 12 = .ok (.iconst 1, 1) := by decide +kernel
theorem dX6_luck_13 : decode cX6_luck 13 = .ok (.invokestatic 66, 3) := by decide +kernel
theorem dX6_luck_16 : decode cX6_luck 16 = .ok (.ifCond .ne 7, 3) := by decide +kernel
theorem dX6_luck_19 : decode cX6_luck 19 = .ok (.ldc2_w 188, 3) := by decide +kernel
theorem dX6_luck_22 : decode cX6_luck 22 = .ok (.lreturn, 1) := by decide +kernel
theorem dX6_luck_23 : decode cX6_luck 23 = .ok (.aload_n 0, 1) := by decide +kernel
theorem dX6_luck_24 : decode cX6_luck 24 = .ok (.getfield 10, 3) := by decide +kernel
theorem dX6_luck_27 : decode cX6_luck 27 = .ok (.getfield 95, 3) := by decide +kernel
theorem dX6_luck_30 : decode cX6_luck 30 = .ok (.ifCond .ne 7, 3) := by decide +kernel
theorem dX6_luck_33 : decode cX6_luck 33 = .ok (.ldc2_w 190, 3) := by decide +kernel
theorem dX6_luck_36 : decode cX6_luck 36 = .ok (.lreturn, 1) := by decide +kernel
theorem dX6_luck_37 : decode cX6_luck 37 = .ok (.lconst 1, 1) := by decide +kernel
theorem dX6_luck_38 : decode cX6_luck 38 = .ok (.lstore_n 3, 1) := by decide +kernel
theorem dX6_luck_39 : decode cX6_luck 39 = .ok (.iconst 0, 1) := by decide +kernel
theorem dX6_luck_40 : decode cX6_luck 40 = .ok (.istore 5, 2) := by decide +kernel
theorem dX6_luck_42 : decode cX6_luck 42 = .ok (.iload 5, 2) := by decide +kernel
theorem dX6_luck_44 : decode cX6_luck 44 = .ok (.aload_n 0, 1) := by decide +kernel
theorem dX6_luck_45 : decode cX6_luck 45 = .ok (.getfield 10, 3) := by decide +kernel
theorem dX6_luck_48 : decode cX6_luck 48 = .ok (.getfield 111, 3) := by decide +kernel
theorem dX6_luck_51 : decode cX6_luck 51 = .ok (.if_icmp .ge 15, 3) := by decide +kernel
theorem dX6_luck_54 : decode cX6_luck 54 = .ok (.lload_n 3, 1) := by decide +kernel
theorem dX6_luck_55 : decode cX6_luck 55 = .ok (.ldc2_w 192, 3) := by decide +kernel
theorem dX6_luck_58 : decode cX6_luck 58 = .ok (.lmul, 1) := by decide +kernel
theorem dX6_luck_59 : decode cX6_luck 59 = .ok (.lstore_n 3, 1) := by decide +kernel
theorem dX6_luck_60 : decode cX6_luck 60 = .ok (.iinc 5 1, 3) := by decide +kernel
theorem dX6_luck_63 : decode cX6_luck 63 = .ok (.goto (-21), 3) := by decide +kernel
theorem dX6_luck_66 : decode cX6_luck 66 = .ok (.lconst 0, 1) := by decide +kernel
theorem dX6_luck_67 : decode cX6_luck 67 = .ok (.lstore 5, 2) := by decide +kernel
theorem dX6_luck_69 : decode cX6_luck 69 = .ok (.iconst 0, 1) := by decide +kernel
theorem dX6_luck_70 : decode cX6_luck 70 = .ok (.istore 7, 2) := by decide +kernel
theorem dX6_luck_72 : decode cX6_luck 72 = .ok (.iload 7, 2) := by decide +kernel
theorem dX6_luck_74 : decode cX6_luck 74 = .ok (.iconst 1, 1) := by decide +kernel
theorem dX6_luck_75 : decode cX6_luck 75 = .ok (.aload_n 0, 1) := by decide +kernel
theorem dX6_luck_76 : decode cX6_luck 76 = .ok (.getfield 10, 3) := by decide +kernel
theorem dX6_luck_79 : decode cX6_luck 79 = .ok (.getfield 111, 3) := by decide +kernel
theorem dX6_luck_82 : decode cX6_luck 82 = .ok (.ishl, 1) := by decide +kernel
theorem dX6_luck_83 : decode cX6_luck 83 = .ok (.if_icmp .ge 51, 3) := by decide +kernel
theorem dX6_luck_86 : decode cX6_luck 86 = .ok (.aload_n 0, 1) := by decide +kernel
theorem dX6_luck_87 : decode cX6_luck 87 = .ok (.getfield 44, 3) := by decide +kernel
theorem dX6_luck_90 : decode cX6_luck 90 = .ok (.aload_n 0, 1) := by decide +kernel
theorem dX6_luck_91 : decode cX6_luck 91 = .ok (.getfield 10, 3) := by decide +kernel
theorem dX6_luck_94 : decode cX6_luck 94 = .ok (.iload 7, 2) := by decide +kernel
theorem dX6_luck_96 : decode cX6_luck 96 = .ok (.invokevirtual 170, 3) := by decide +kernel
theorem dX6_luck_99 : decode cX6_luck 99 = .ok (.aload_n 0, 1) := by decide +kernel
theorem dX6_luck_100 : decode cX6_luck 100 = .ok (.getfield 10, 3) := by decide +kernel
theorem dX6_luck_103 : decode cX6_luck 103 = .ok (.aload_n 0, 1) := by decide +kernel
theorem dX6_luck_104 : decode cX6_luck 104 = .ok (.getfield 44, 3) := by decide +kernel
theorem dX6_luck_107 : decode cX6_luck 107 = .ok (.getfield 174, 3) := by decide +kernel
theorem dX6_luck_110 : decode cX6_luck 110 = .ok (.invokevirtual 175, 3) := by decide +kernel
theorem dX6_luck_113 : decode cX6_luck 113 = .ok (.ifCond .eq 15, 3) := by decide +kernel
theorem dX6_luck_116 : decode cX6_luck 116 = .ok (.lload 5, 2) := by decide +kernel
theorem dX6_luck_118 : decode cX6_luck 118 = .ok (.aload_n 0, 1) := by decide +kernel
theorem dX6_luck_119 : decode cX6_luck 119 = .ok (.iload 7, 2) := by decide +kernel
theorem dX6_luck_121 : decode cX6_luck 121 = .ok (.iload_n 1, 1) := by decide +kernel
theorem dX6_luck_122 : decode cX6_luck 122 = .ok (.invokevirtual 194, 3) := by decide +kernel
theorem dX6_luck_125 : decode cX6_luck 125 = .ok (.ladd, 1) := by decide +kernel
theorem dX6_luck_126 : decode cX6_luck 126 = .ok (.lstore 5, 2) := by decide +kernel
theorem dX6_luck_128 : decode cX6_luck 128 = .ok (.iinc 7 1, 3) := by decide +kernel
theorem dX6_luck_131 : decode cX6_luck 131 = .ok (.goto (-59), 3) := by decide +kernel
theorem dX6_luck_134 : decode cX6_luck 134 = .ok (.lload 5, 2) := by decide +kernel
theorem dX6_luck_136 : decode cX6_luck 136 = .ok (.lload_n 3, 1) := by decide +kernel
theorem dX6_luck_137 : decode cX6_luck 137 = .ok (.iload_n 2, 1) := by decide +kernel
theorem dX6_luck_138 : decode cX6_luck 138 = .ok (.invokestatic 198, 3) := by decide +kernel
theorem dX6_luck_141 : decode cX6_luck 141 = .ok (.lreturn, 1) := by decide +kernel
theorem dX6_game_0 : decode cX6_game 0 = .ok (.iload_n 1, 1) := by decide +kernel
theorem dX6_game_1 : decode cX6_game 1 = .ok (.iconst 0, 1) := by decide +kernel
theorem dX6_game_2 : decode cX6_game 2 = .ok (.iconst 1, 1) := by decide +kernel
theorem dX6_game_3 : decode cX6_game 3 = .ok (.invokestatic 66, 3) := by decide +kernel
theorem dX6_game_6 : decode cX6_game 6 = .ok (.ifCond .ne 5, 3) := by decide +kernel
theorem dX6_game_9 : decode cX6_game 9 = .ok (.iconst (-1), 1) := by decide +kernel
theorem dX6_game_10 : decode cX6_game 10 = .ok (.ireturn, 1) := by decide +kernel
theorem dX6_game_11 : decode cX6_game 11 = .ok (.aload_n 0, 1) := by decide +kernel
theorem dX6_game_12 : decode cX6_game 12 = .ok (.getfield 10, 3) := by decide +kernel
theorem dX6_game_15 : decode cX6_game 15 = .ok (.getfield 95, 3) := by decide +kernel
theorem dX6_game_18 : decode cX6_game 18 = .ok (.ifCond .ne 6, 3) := by decide +kernel
theorem dX6_game_21 : decode cX6_game 21 = .ok (.bipush (-2), 2) := by decide +kernel
theorem dX6_game_23 : decode cX6_game 23 = .ok (.ireturn, 1) := by decide +kernel
theorem dX6_game_24 : decode cX6_game 24 = .ok (.iload_n 1, 1) := by decide +kernel
theorem dX6_game_25 : decode cX6_game 25 = .ok (.ifCond .ne 40, 3) := by decide +kernel
theorem dX6_game_28 : decode cX6_game 28 = .ok (.aload_n 0, 1) := by decide +kernel
theorem dX6_game_29 : decode cX6_game 29 = .ok (.getfield 51, 3) := by decide +kernel
theorem dX6_game_32 : decode cX6_game 32 = .ok (.aload_n 0, 1) := by decide +kernel
theorem dX6_game_33 : decode cX6_game 33 = .ok (.getfield 10, 3) := by decide +kernel
theorem dX6_game_36 : decode cX6_game 36 = .ok (.aload_n 0, 1) := by decide +kernel
theorem dX6_game_37 : decode cX6_game 37 = .ok (.getfield 10, 3) := by decide +kernel
theorem dX6_game_40 : decode cX6_game 40 = .ok (.getfield 101, 3) := by decide +kernel
theorem dX6_game_43 : decode cX6_game 43 = .ok (.invokevirtual 202, 3) := by decide +kernel
theorem dX6_game_46 : decode cX6_game 46 = .ok (.pop, 1) := by decide +kernel
theorem dX6_game_47 : decode cX6_game 47 = .ok (.aload_n 0, 1) := by decide +kernel
theorem dX6_game_48 : decode cX6_game 48 = .ok (.getfield 51, 3) := by decide +kernel
theorem dX6_game_51 : decode cX6_game 51 = .ok (.aload_n 0, 1) := by decide +kernel
theorem dX6_game_52 : decode cX6_game 52 = .ok (.getfield 10, 3) := by decide +kernel
theorem dX6_game_55 : decode cX6_game 55 = .ok (.getfield 104, 3) := by decide +kernel
theorem dX6_game_58 : decode cX6_game 58 = .ok (.invokevirtual 206, 3) := by decide +kernel
theorem dX6_game_61 : decode cX6_game 61 = .ok (.invokestatic 178, 3) := by decide +kernel
theorem dX6_game_64 : decode cX6_game 64 = .ok (.ireturn, 1) := by decide +kernel
theorem dX6_game_65 : decode cX6_game 65 = .ok (.aload_n 0, 1) := by decide +kernel
theorem dX6_game_66 : decode cX6_game 66 = .ok (.getfield 51, 3) := by decide +kernel
theorem dX6_game_69 : decode cX6_game 69 = .ok (.aload_n 0, 1) := by decide +kernel
theorem dX6_game_70 : decode cX6_game 70 = .ok (.getfield 10, 3) := by decide +kernel
theorem dX6_game_73 : decode cX6_game 73 = .ok (.aload_n 0, 1) := by decide +kernel
theorem dX6_game_74 : decode cX6_game 74 = .ok (.getfield 10, 3) := by decide +kernel
theorem dX6_game_77 : decode cX6_game 77 = .ok (.getfield 101, 3) := by decide +kernel
theorem dX6_game_80 : decode cX6_game 80 = .ok (.iconst 1, 1) := by decide +kernel
theorem dX6_game_81 : decode cX6_game 81 = .ok (.iadd, 1) := by decide +kernel
theorem dX6_game_82 : decode cX6_game 82 = .ok (.invokevirtual 202, 3) := by decide +kernel
theorem dX6_game_85 : decode cX6_game 85 = .ok (.pop, 1) := by decide +kernel
theorem dX6_game_86 : decode cX6_game 86 = .ok (.aload_n 0, 1) := by decide +kernel
theorem dX6_game_87 : decode cX6_game 87 = .ok (.getfield 51, 3) := by decide +kernel
theorem dX6_game_90 : decode cX6_game 90 = .ok (.aload_n 0, 1) := by decide +kernel
theorem dX6_game_91 : decode cX6_game 91 = .ok (.getfield 10, 3) := by decide +kernel
theorem dX6_game_94 : decode cX6_game 94 = .ok (.invokevirtual 209, 3) := by decide +kernel
theorem dX6_game_97 : decode cX6_game 97 = .ok (.ireturn, 1) := by decide +kernel
theorem dX6_days_0 : decode cX6_days 0 = .ok (.aload_n 0, 1) := by decide +kernel
theorem dX6_days_1 : decode cX6_days 1 = .ok (.getfield 10, 3) := by decide +kernel
theorem dX6_days_4 : decode cX6_days 4 = .ok (.getfield 95, 3) := by decide +kernel
theorem dX6_days_7 : decode cX6_days 7 = .ok (.ifCond .ne 6, 3) := by decide +kernel
theorem dX6_days_10 : decode cX6_days 10 = .ok (.bipush (-2), 2) := by decide +kernel
theorem dX6_days_12 : decode cX6_days 12 = .ok (.ireturn, 1) := by decide +kernel
theorem dX6_days_13 : decode cX6_days 13 = .ok (.aload_n 0, 1) := by decide +kernel
theorem dX6_days_14 : decode cX6_days 14 = .ok (.getfield 51, 3) := by decide +kernel
theorem dX6_days_17 : decode cX6_days 17 = .ok (.aload_n 0, 1) := by decide +kernel
theorem dX6_days_18 : decode cX6_days 18 = .ok (.getfield 10, 3) := by decide +kernel
theorem dX6_days_21 : decode cX6_days 21 = .ok (.iconst 0, 1) := by decide +kernel
theorem dX6_days_22 : decode cX6_days 22 = .ok (.invokevirtual 202, 3) := by decide +kernel
theorem dX6_days_25 : decode cX6_days 25 = .ok (.ireturn, 1) := by decide +kernel
theorem dX6_share_0 : decode cX6_share 0 = .ok (.aload_n 0, 1) := by decide +kernel
theorem dX6_share_1 : decode cX6_share 1 = .ok (.getfield 10, 3) := by decide +kernel
theorem dX6_share_4 : decode cX6_share 4 = .ok (.iload_n 1, 1) := by decide +kernel
theorem dX6_share_5 : decode cX6_share 5 = .ok (.invokevirtual 114, 3) := by decide +kernel
theorem dX6_share_8 : decode cX6_share 8 = .ok (.ifCond .eq 12, 3) := by decide +kernel
theorem dX6_share_11 : decode cX6_share 11 = .ok (.iload_n 2, 1) := by decide +kernel
theorem dX6_share_12 : decode cX6_share 12 = .ok (.iconst 0, 1) := by decide +kernel
theorem dX6_share_13 : decode cX6_share 13 = .ok (.iconst 1, 1) := by decide +kernel
theorem dX6_share_14 : decode cX6_share 14 = .ok (.invokestatic 66, 3) := by decide +kernel
theorem dX6_share_17 : decode cX6_share 17 = .ok (.ifCond .ne 7, 3) := by decide +kernel
theorem dX6_share_20 : decode cX6_share 20 = .ok (.ldc2_w 188, 3) := by decide +kernel
theorem dX6_share_23 : decode cX6_share 23 = .ok (.lreturn, 1) := by decide +kernel
theorem dX6_share_24 : decode cX6_share 24 = .ok (.lconst 0, 1) := by decide +kernel
theorem dX6_share_25 : decode cX6_share 25 = .ok (.lstore_n 3, 1) := by decide +kernel
theorem dX6_share_26 : decode cX6_share 26 = .ok (.iconst 0, 1) := by decide +kernel
theorem dX6_share_27 : decode cX6_share 27 = .ok (.istore 5, 2) := by decide +kernel
theorem dX6_share_29 : decode cX6_share 29 = .ok (.iload 5, 2) := by decide +kernel
theorem dX6_share_31 : decode cX6_share 31 = .ok (.iconst 1, 1) := by decide +kernel
theorem dX6_share_32 : decode cX6_share 32 = .ok (.aload_n 0, 1) := by decide +kernel
theorem dX6_share_33 : decode cX6_share 33 = .ok (.getfield 10, 3) := by decide +kernel
theorem dX6_share_36 : decode cX6_share 36 = .ok (.getfield 95, 3) := by decide +kernel
theorem dX6_share_39 : decode cX6_share 39 = .ok (.ishl, 1) := by decide +kernel
theorem dX6_share_40 : decode cX6_share 40 = .ok (.if_icmp .ge 65, 3) := by decide +kernel
theorem dX6_share_43 : decode cX6_share 43 = .ok (.iload 5, 2) := by decide +kernel
theorem dX6_share_45 : decode cX6_share 45 = .ok (.iload_n 1, 1) := by decide +kernel
theorem dX6_share_46 : decode cX6_share 46 = .ok (.ishr, 1) := by decide +kernel
theorem dX6_share_47 : decode cX6_share 47 = .ok (.iconst 1, 1) := by decide +kernel
theorem dX6_share_48 : decode cX6_share 48 = .ok (.iand, 1) := by decide +kernel
theorem dX6_share_49 : decode cX6_share 49 = .ok (.ifCond .ne 50, 3) := by decide +kernel
theorem dX6_share_52 : decode cX6_share 52 = .ok (.aload_n 0, 1) := by decide +kernel
theorem dX6_share_53 : decode cX6_share 53 = .ok (.getfield 10, 3) := by decide +kernel
theorem dX6_share_56 : decode cX6_share 56 = .ok (.iload 5, 2) := by decide +kernel
theorem dX6_share_58 : decode cX6_share 58 = .ok (.iconst 1, 1) := by decide +kernel
theorem dX6_share_59 : decode cX6_share 59 = .ok (.iload_n 1, 1) := by decide +kernel
theorem dX6_share_60 : decode cX6_share 60 = .ok (.ishl, 1) := by decide +kernel
theorem dX6_share_61 : decode cX6_share 61 = .ok (.ior, 1) := by decide +kernel
theorem dX6_share_62 : decode cX6_share 62 = .ok (.invokevirtual 175, 3) := by decide +kernel
theorem dX6_share_65 : decode cX6_share 65 = .ok (.invokestatic 178, 3) := by decide +kernel
theorem dX6_share_68 : decode cX6_share 68 = .ok (.aload_n 0, 1) := by decide +kernel
theorem dX6_share_69 : decode cX6_share 69 = .ok (.getfield 10, 3) := by decide +kernel
theorem dX6_share_72 : decode cX6_share 72 = .ok (.iload 5, 2) := by decide +kernel
theorem dX6_share_74 : decode cX6_share 74 = .ok (.invokevirtual 175, 3) := by decide +kernel
theorem dX6_share_77 : decode cX6_share 77 = .ok (.invokestatic 178, 3) := by decide +kernel
theorem dX6_share_80 : decode cX6_share 80 = .ok (.isub, 1) := by decide +kernel
theorem dX6_share_81 : decode cX6_share 81 = .ok (.istore 6, 2) := by decide +kernel
theorem dX6_share_83 : decode cX6_share 83 = .ok (.lload_n 3, 1) := by decide +kernel
theorem dX6_share_84 : decode cX6_share 84 = .ok (.iload 6, 2) := by decide +kernel
theorem dX6_share_86 : decode cX6_share 86 = .ok (.i2l, 1) := by decide +kernel
theorem dX6_share_87 : decode cX6_share 87 = .ok (.aload_n 0, 1) := by decide +kernel
theorem dX6_share_88 : decode cX6_share 88 = .ok (.iload 5, 2) := by decide +kernel
theorem dX6_share_90 : decode cX6_share 90 = .ok (.invokestatic 145, 3) := by decide +kernel
theorem dX6_share_93 : decode cX6_share 93 = .ok (.invokevirtual 212, 3) := by decide +kernel
theorem dX6_share_96 : decode cX6_share 96 = .ok (.lmul, 1) := by decide +kernel
theorem dX6_share_97 : decode cX6_share 97 = .ok (.ladd, 1) := by decide +kernel
theorem dX6_share_98 : decode cX6_share 98 = .ok (.lstore_n 3, 1) := by decide +kernel
theorem dX6_share_99 : decode cX6_share 99 = .ok (.iinc 5 1, 3) := by decide +kernel
theorem dX6_share_102 : decode cX6_share 102 = .ok (.goto (-73), 3) := by decide +kernel
theorem dX6_share_105 : decode cX6_share 105 = .ok (.lload_n 3, 1) := by decide +kernel
theorem dX6_share_106 : decode cX6_share 106 = .ok (.aload_n 0, 1) := by decide +kernel
theorem dX6_share_107 : decode cX6_share 107 = .ok (.getfield 10, 3) := by decide +kernel
theorem dX6_share_110 : decode cX6_share 110 = .ok (.getfield 95, 3) := by decide +kernel
theorem dX6_share_113 : decode cX6_share 113 = .ok (.invokestatic 216, 3) := by decide +kernel
theorem dX6_share_116 : decode cX6_share 116 = .ok (.iload_n 2, 1) := by decide +kernel
theorem dX6_share_117 : decode cX6_share 117 = .ok (.invokestatic 198, 3) := by decide +kernel
theorem dX6_share_120 : decode cX6_share 120 = .ok (.lreturn, 1) := by decide +kernel
theorem dX6_see_0 : decode cX6_see 0 = .ok (.aload_n 0, 1) := by decide +kernel
theorem dX6_see_1 : decode cX6_see 1 = .ok (.getfield 10, 3) := by decide +kernel
theorem dX6_see_4 : decode cX6_see 4 = .ok (.iload_n 1, 1) := by decide +kernel
theorem dX6_see_5 : decode cX6_see 5 = .ok (.invokevirtual 157, 3) := by decide +kernel
theorem dX6_see_8 : decode cX6_see 8 = .ok (.ifCond .ne 5, 3) := by decide +kernel
theorem dX6_see_11 : decode cX6_see 11 = .ok (.iconst (-1), 1) := by decide +kernel
theorem dX6_see_12 : decode cX6_see 12 = .ok (.ireturn, 1) := by decide +kernel
theorem dX6_see_13 : decode cX6_see 13 = .ok (.aload_n 0, 1) := by decide +kernel
theorem dX6_see_14 : decode cX6_see 14 = .ok (.getfield 10, 3) := by decide +kernel
theorem dX6_see_17 : decode cX6_see 17 = .ok (.iload_n 1, 1) := by decide +kernel
theorem dX6_see_18 : decode cX6_see 18 = .ok (.iload_n 2, 1) := by decide +kernel
theorem dX6_see_19 : decode cX6_see 19 = .ok (.invokevirtual 219, 3) := by decide +kernel
theorem dX6_see_22 : decode cX6_see 22 = .ok (.ifCond .eq 13, 3) := by decide +kernel
theorem dX6_see_25 : decode cX6_see 25 = .ok (.aload_n 0, 1) := by decide +kernel
theorem dX6_see_26 : decode cX6_see 26 = .ok (.getfield 10, 3) := by decide +kernel
theorem dX6_see_29 : decode cX6_see 29 = .ok (.getfield 223, 3) := by decide +kernel
theorem dX6_see_32 : decode cX6_see 32 = .ok (.goto 5, 3) := by decide +kernel
theorem dX6_see_35 : decode cX6_see 35 = .ok (.bipush (-3), 2) := by decide +kernel
theorem dX6_see_37 : decode cX6_see 37 = .ok (.ireturn, 1) := by decide +kernel
theorem dX6_forget_0 : decode cX6_forget 0 = .ok (.iload_n 1, 1) := by decide +kernel
theorem dX6_forget_1 : decode cX6_forget 1 = .ok (.iconst 0, 1) := by decide +kernel
theorem dX6_forget_2 : decode cX6_forget 2 = .ok (.aload_n 0, 1) := by decide +kernel
theorem dX6_forget_3 : decode cX6_forget 3 = .ok (.getfield 10, 3) := by decide +kernel
theorem dX6_forget_6 : decode cX6_forget 6 = .ok (.getfield 223, 3) := by decide +kernel
theorem dX6_forget_9 : decode cX6_forget 9 = .ok (.invokestatic 66, 3) := by decide +kernel
theorem dX6_forget_12 : decode cX6_forget 12 = .ok (.ifCond .ne 5, 3) := by decide +kernel
theorem dX6_forget_15 : decode cX6_forget 15 = .ok (.iconst (-1), 1) := by decide +kernel
theorem dX6_forget_16 : decode cX6_forget 16 = .ok (.ireturn, 1) := by decide +kernel
theorem dX6_forget_17 : decode cX6_forget 17 = .ok (.aload_n 0, 1) := by decide +kernel
theorem dX6_forget_18 : decode cX6_forget 18 = .ok (.getfield 10, 3) := by decide +kernel
theorem dX6_forget_21 : decode cX6_forget 21 = .ok (.getfield 223, 3) := by decide +kernel
theorem dX6_forget_24 : decode cX6_forget 24 = .ok (.istore_n 2, 1) := by decide +kernel
theorem dX6_forget_25 : decode cX6_forget 25 = .ok (.aload_n 0, 1) := by decide +kernel
theorem dX6_forget_26 : decode cX6_forget 26 = .ok (.getfield 10, 3) := by decide +kernel
theorem dX6_forget_29 : decode cX6_forget 29 = .ok (.iload_n 1, 1) := by decide +kernel
theorem dX6_forget_30 : decode cX6_forget 30 = .ok (.putfield 223, 3) := by decide +kernel
theorem dX6_forget_33 : decode cX6_forget 33 = .ok (.iload_n 2, 1) := by decide +kernel
theorem dX6_forget_34 : decode cX6_forget 34 = .ok (.ireturn, 1) := by decide +kernel
theorem dX6_fits_0 : decode cX6_fits 0 = .ok (.iload_n 1, 1) := by decide +kernel
theorem dX6_fits_1 : decode cX6_fits 1 = .ok (.iconst 0, 1) := by decide +kernel
theorem dX6_fits_2 : decode cX6_fits 2 = .ok (.iconst 3, 1) := by decide +kernel
theorem dX6_fits_3 : decode cX6_fits 3 = .ok (.invokestatic 66, 3) := by decide +kernel
theorem dX6_fits_6 : decode cX6_fits 6 = .ok (.ifCond .ne 5, 3) := by decide +kernel
theorem dX6_fits_9 : decode cX6_fits 9 = .ok (.iconst (-1), 1) := by decide +kernel
theorem dX6_fits_10 : decode cX6_fits 10 = .ok (.ireturn, 1) := by decide +kernel
theorem dX6_fits_11 : decode cX6_fits 11 = .ok (.aload_n 0, 1) := by decide +kernel
theorem dX6_fits_12 : decode cX6_fits 12 = .ok (.getfield 10, 3) := by decide +kernel
theorem dX6_fits_15 : decode cX6_fits 15 = .ok (.getfield 95, 3) := by decide +kernel
theorem dX6_fits_18 : decode cX6_fits 18 = .ok (.ifCond .ne 6, 3) := by decide +kernel
theorem dX6_fits_21 : decode cX6_fits 21 = .ok (.bipush (-2), 2) := by decide +kernel
theorem dX6_fits_23 : decode cX6_fits 23 = .ok (.ireturn, 1) := by decide +kernel
theorem dX6_fits_24 : decode cX6_fits 24 = .ok (.aload_n 0, 1) := by decide +kernel
theorem dX6_fits_25 : decode cX6_fits 25 = .ok (.getfield 58, 3) := by decide +kernel
theorem dX6_fits_28 : decode cX6_fits 28 = .ok (.aload_n 0, 1) := by decide +kernel
theorem dX6_fits_29 : decode cX6_fits 29 = .ok (.getfield 10, 3) := by decide +kernel
theorem dX6_fits_32 : decode cX6_fits 32 = .ok (.invokevirtual 226, 3) := by decide +kernel
theorem dX6_fits_35 : decode cX6_fits 35 = .ok (.iload_n 1, 1) := by decide +kernel
theorem dX6_fits_36 : decode cX6_fits 36 = .ok (.ifCond .ne 11, 3) := by decide +kernel
theorem dX6_fits_39 : decode cX6_fits 39 = .ok (.aload_n 0, 1) := by decide +kernel
theorem dX6_fits_40 : decode cX6_fits 40 = .ok (.getfield 58, 3) := by decide +kernel
theorem dX6_fits_43 : decode cX6_fits 43 = .ok (.getfield 229, 3) := by decide +kernel
theorem dX6_fits_46 : decode cX6_fits 46 = .ok (.ireturn, 1) := by decide +kernel
theorem dX6_fits_47 : decode cX6_fits 47 = .ok (.aload_n 0, 1) := by decide +kernel
theorem dX6_fits_48 : decode cX6_fits 48 = .ok (.getfield 58, 3) := by decide +kernel
theorem dX6_fits_51 : decode cX6_fits 51 = .ok (.getfield 229, 3) := by decide +kernel
theorem dX6_fits_54 : decode cX6_fits 54 = .ok (.ifCond .ne 6, 3) := by decide +kernel
theorem dX6_fits_57 : decode cX6_fits 57 = .ok (.bipush (-4), 2) := by decide +kernel
theorem dX6_fits_59 : decode cX6_fits 59 = .ok (.ireturn, 1) := by decide +kernel
theorem dX6_fits_60 : decode cX6_fits 60 = .ok (.iload_n 1, 1) := by decide +kernel
theorem dX6_fits_61 : decode cX6_fits 61 = .ok (.lookupswitch 43 #[(1, 27), (2, 35)], 27) := by decide +kernel
theorem dX6_fits_88 : decode cX6_fits 88 = .ok (.aload_n 0, 1) := by decide +kernel
theorem dX6_fits_89 : decode cX6_fits 89 = .ok (.getfield 58, 3) := by decide +kernel
theorem dX6_fits_92 : decode cX6_fits 92 = .ok (.getfield 232, 3) := by decide +kernel
theorem dX6_fits_95 : decode cX6_fits 95 = .ok (.ireturn, 1) := by decide +kernel
theorem dX6_fits_96 : decode cX6_fits 96 = .ok (.aload_n 0, 1) := by decide +kernel
theorem dX6_fits_97 : decode cX6_fits 97 = .ok (.getfield 58, 3) := by decide +kernel
theorem dX6_fits_100 : decode cX6_fits 100 = .ok (.getfield 235, 3) := by decide +kernel
theorem dX6_fits_103 : decode cX6_fits 103 = .ok (.ireturn, 1) := by decide +kernel
theorem dX6_fits_104 : decode cX6_fits 104 = .ok (.aload_n 0, 1) := by decide +kernel
theorem dX6_fits_105 : decode cX6_fits 105 = .ok (.getfield 58, 3) := by decide +kernel
theorem dX6_fits_108 : decode cX6_fits 108 = .ok (.getfield 238, 3) := by decide +kernel
theorem dX6_fits_111 : decode cX6_fits 111 = .ok (.aload_n 0, 1) := by decide +kernel
theorem dX6_fits_112 : decode cX6_fits 112 = .ok (.getfield 58, 3) := by decide +kernel
theorem dX6_fits_115 : decode cX6_fits 115 = .ok (.getfield 241, 3) := by decide +kernel
theorem dX6_fits_118 : decode cX6_fits 118 = .ok (.iconst (-1), 1) := by decide +kernel
theorem dX6_fits_119 : decode cX6_fits 119 = .ok (.ixor, 1) := by decide +kernel
theorem dX6_fits_120 : decode cX6_fits 120 = .ok (.iand, 1) := by decide +kernel
theorem dX6_fits_121 : decode cX6_fits 121 = .ok (.ireturn, 1) := by decide +kernel
theorem dX6_drift_0 : decode cX6_drift 0 = .ok (.iload_n 2, 1) := by decide +kernel
theorem dX6_drift_1 : decode cX6_drift 1 = .ok (.iconst 1, 1) := by decide +kernel
theorem dX6_drift_2 : decode cX6_drift 2 = .ok (.bipush 60, 2) := by decide +kernel
theorem dX6_drift_4 : decode cX6_drift 4 = .ok (.invokestatic 66, 3) := by decide +kernel
theorem dX6_drift_7 : decode cX6_drift 7 = .ok (.ifCond .eq 12, 3) := by decide +kernel
theorem dX6_drift_10 : decode cX6_drift 10 = .ok (.iload_n 3, 1) := by decide +kernel
theorem dX6_drift_11 : decode cX6_drift 11 = .ok (.iconst 0, 1) := by decide +kernel
theorem dX6_drift_12 : decode cX6_drift 12 = .ok (.iconst 1, 1) := by decide +kernel
theorem dX6_drift_13 : decode cX6_drift 13 = .ok (.invokestatic 66, 3) := by decide +kernel
theorem dX6_drift_16 : decode cX6_drift 16 = .ok (.ifCond .ne 5, 3) := by decide +kernel
theorem dX6_drift_19 : decode cX6_drift 19 = .ok (.iconst (-1), 1) := by decide +kernel
theorem dX6_drift_20 : decode cX6_drift 20 = .ok (.ireturn, 1) := by decide +kernel
theorem dX6_drift_21 : decode cX6_drift 21 = .ok (.aload_n 0, 1) := by decide +kernel
theorem dX6_drift_22 : decode cX6_drift 22 = .ok (.getfield 10, 3) := by decide +kernel
theorem dX6_drift_25 : decode cX6_drift 25 = .ok (.getfield 95, 3) := by decide +kernel
theorem dX6_drift_28 : decode cX6_drift 28 = .ok (.ifCond .ne 6, 3) := by decide +kernel
theorem dX6_drift_31 : decode cX6_drift 31 = .ok (.bipush (-2), 2) := by decide +kernel
theorem dX6_drift_33 : decode cX6_drift 33 = .ok (.ireturn, 1) := by decide +kernel
theorem dX6_drift_34 : decode cX6_drift 34 = .ok (.aload_n 0, 1) := by decide +kernel
theorem dX6_drift_35 : decode cX6_drift 35 = .ok (.getfield 10, 3) := by decide +kernel
theorem dX6_drift_38 : decode cX6_drift 38 = .ok (.getfield 104, 3) := by decide +kernel
theorem dX6_drift_41 : decode cX6_drift 41 = .ok (.istore 4, 2) := by decide +kernel
theorem dX6_drift_43 : decode cX6_drift 43 = .ok (.iconst 0, 1) := by decide +kernel
theorem dX6_drift_44 : decode cX6_drift 44 = .ok (.istore 5, 2) := by decide +kernel
theorem dX6_drift_46 : decode cX6_drift 46 = .ok (.iload_n 1, 1) := by decide +kernel
theorem dX6_drift_47 : decode cX6_drift 47 = .ok (.istore 6, 2) := by decide +kernel
theorem dX6_drift_49 : decode cX6_drift 49 = .ok (.iconst 0, 1) := by decide +kernel
theorem dX6_drift_50 : decode cX6_drift 50 = .ok (.istore 7, 2) := by decide +kernel
theorem dX6_drift_52 : decode cX6_drift 52 = .ok (.iload 7, 2) := by decide +kernel
theorem dX6_drift_54 : decode cX6_drift 54 = .ok (.iload_n 2, 1) := by decide +kernel
theorem dX6_drift_55 : decode cX6_drift 55 = .ok (.if_icmp .ge 61, 3) := by decide +kernel
theorem dX6_drift_58 : decode cX6_drift 58 = .ok (.iload 6, 2) := by decide +kernel
theorem dX6_drift_60 : decode cX6_drift 60 = .ok (.ldc 244, 2) := by decide +kernel
theorem dX6_drift_62 : decode cX6_drift 62 = .ok (.imul, 1) := by decide +kernel
theorem dX6_drift_63 : decode cX6_drift 63 = .ok (.sipush 12345, 3) := by decide +kernel
theorem dX6_drift_66 : decode cX6_drift 66 = .ok (.iadd, 1) := by decide +kernel
theorem dX6_drift_67 : decode cX6_drift 67 = .ok (.istore 6, 2) := by decide +kernel
theorem dX6_drift_69 : decode cX6_drift 69 = .ok (.iload 4, 2) := by decide +kernel
theorem dX6_drift_71 : decode cX6_drift 71 = .ok (.iconst 1, 1) := by decide +kernel
theorem dX6_drift_72 : decode cX6_drift 72 = .ok (.iload 6, 2) := by decide +kernel
theorem dX6_drift_74 : decode cX6_drift 74 = .ok (.bipush 16, 2) := by decide +kernel
theorem dX6_drift_76 : decode cX6_drift 76 = .ok (.iushr, 1) := by decide +kernel
theorem dX6_drift_77 : decode cX6_drift 77 = .ok (.sipush 32767, 3) := by decide +kernel
theorem dX6_drift_80 : decode cX6_drift 80 = .ok (.iand, 1) := by decide +kernel
theorem dX6_drift_81 : decode cX6_drift 81 = .ok (.aload_n 0, 1) := by decide +kernel
theorem dX6_drift_82 : decode cX6_drift 82 = .ok (.getfield 10, 3) := by decide +kernel
theorem dX6_drift_85 : decode cX6_drift 85 = .ok (.getfield 95, 3) := by decide +kernel
theorem dX6_drift_88 : decode cX6_drift 88 = .ok (.irem, 1) := by decide +kernel
theorem dX6_drift_89 : decode cX6_drift 89 = .ok (.ishl, 1) := by decide +kernel
theorem dX6_drift_90 : decode cX6_drift 90 = .ok (.ixor, 1) := by decide +kernel
theorem dX6_drift_91 : decode cX6_drift 91 = .ok (.istore 4, 2) := by decide +kernel
theorem dX6_drift_93 : decode cX6_drift 93 = .ok (.iload 5, 2) := by decide +kernel
theorem dX6_drift_95 : decode cX6_drift 95 = .ok (.aload_n 0, 1) := by decide +kernel
theorem dX6_drift_96 : decode cX6_drift 96 = .ok (.getfield 10, 3) := by decide +kernel
theorem dX6_drift_99 : decode cX6_drift 99 = .ok (.iload 4, 2) := by decide +kernel
theorem dX6_drift_101 : decode cX6_drift 101 = .ok (.invokevirtual 175, 3) := by decide +kernel
theorem dX6_drift_104 : decode cX6_drift 104 = .ok (.invokestatic 178, 3) := by decide +kernel
theorem dX6_drift_107 : decode cX6_drift 107 = .ok (.iadd, 1) := by decide +kernel
theorem dX6_drift_108 : decode cX6_drift 108 = .ok (.istore 5, 2) := by decide +kernel
theorem dX6_drift_110 : decode cX6_drift 110 = .ok (.iinc 7 1, 3) := by decide +kernel
theorem dX6_drift_113 : decode cX6_drift 113 = .ok (.goto (-61), 3) := by decide +kernel
theorem dX6_drift_116 : decode cX6_drift 116 = .ok (.iload_n 3, 1) := by decide +kernel
theorem dX6_drift_117 : decode cX6_drift 117 = .ok (.ifCond .ne 8, 3) := by decide +kernel
theorem dX6_drift_120 : decode cX6_drift 120 = .ok (.iload 5, 2) := by decide +kernel
theorem dX6_drift_122 : decode cX6_drift 122 = .ok (.goto 12, 3) := by decide +kernel
theorem dX6_drift_125 : decode cX6_drift 125 = .ok (.aload_n 0, 1) := by decide +kernel
theorem dX6_drift_126 : decode cX6_drift 126 = .ok (.getfield 10, 3) := by decide +kernel
theorem dX6_drift_129 : decode cX6_drift 129 = .ok (.iload 4, 2) := by decide +kernel
theorem dX6_drift_131 : decode cX6_drift 131 = .ok (.invokevirtual 107, 3) := by decide +kernel
theorem dX6_drift_134 : decode cX6_drift 134 = .ok (.ireturn, 1) := by decide +kernel
theorem dX6_keep_0 : decode cX6_keep 0 = .ok (.iload_n 1, 1) := by decide +kernel
theorem dX6_keep_1 : decode cX6_keep 1 = .ok (.iconst 0, 1) := by decide +kernel
theorem dX6_keep_2 : decode cX6_keep 2 = .ok (.iconst 1, 1) := by decide +kernel
theorem dX6_keep_3 : decode cX6_keep 3 = .ok (.invokestatic 66, 3) := by decide +kernel
theorem dX6_keep_6 : decode cX6_keep 6 = .ok (.ifCond .ne 5, 3) := by decide +kernel
theorem dX6_keep_9 : decode cX6_keep 9 = .ok (.iconst (-1), 1) := by decide +kernel
theorem dX6_keep_10 : decode cX6_keep 10 = .ok (.ireturn, 1) := by decide +kernel
theorem dX6_keep_11 : decode cX6_keep 11 = .ok (.aload_n 0, 1) := by decide +kernel
theorem dX6_keep_12 : decode cX6_keep 12 = .ok (.getfield 23, 3) := by decide +kernel
theorem dX6_keep_15 : decode cX6_keep 15 = .ok (.iload_n 1, 1) := by decide +kernel
theorem dX6_keep_16 : decode cX6_keep 16 = .ok (.baload, 1) := by decide +kernel
theorem dX6_keep_17 : decode cX6_keep 17 = .ok (.invokestatic 178, 3) := by decide +kernel
theorem dX6_keep_20 : decode cX6_keep 20 = .ok (.istore_n 2, 1) := by decide +kernel
theorem dX6_keep_21 : decode cX6_keep 21 = .ok (.aload_n 0, 1) := by decide +kernel
theorem dX6_keep_22 : decode cX6_keep 22 = .ok (.getfield 19, 3) := by decide +kernel
theorem dX6_keep_25 : decode cX6_keep 25 = .ok (.iload_n 1, 1) := by decide +kernel
theorem dX6_keep_26 : decode cX6_keep 26 = .ok (.aaload, 1) := by decide +kernel
theorem dX6_keep_27 : decode cX6_keep 27 = .ok (.aload_n 0, 1) := by decide +kernel
theorem dX6_keep_28 : decode cX6_keep 28 = .ok (.getfield 10, 3) := by decide +kernel
theorem dX6_keep_31 : decode cX6_keep 31 = .ok (.invokevirtual 91, 3) := by decide +kernel
theorem dX6_keep_34 : decode cX6_keep 34 = .ok (.aload_n 0, 1) := by decide +kernel
theorem dX6_keep_35 : decode cX6_keep 35 = .ok (.getfield 23, 3) := by decide +kernel
theorem dX6_keep_38 : decode cX6_keep 38 = .ok (.iload_n 1, 1) := by decide +kernel
theorem dX6_keep_39 : decode cX6_keep 39 = .ok (.iconst 1, 1) := by decide +kernel
theorem dX6_keep_40 : decode cX6_keep 40 = .ok (.bastore, 1) := by decide +kernel
theorem dX6_keep_41 : decode cX6_keep 41 = .ok (.iload_n 2, 1) := by decide +kernel
theorem dX6_keep_42 : decode cX6_keep 42 = .ok (.ireturn, 1) := by decide +kernel
theorem dX6_back_0 : decode cX6_back 0 = .ok (.iload_n 1, 1) := by decide +kernel
theorem dX6_back_1 : decode cX6_back 1 = .ok (.iconst 0, 1) := by decide +kernel
theorem dX6_back_2 : decode cX6_back 2 = .ok (.iconst 1, 1) := by decide +kernel
theorem dX6_back_3 : decode cX6_back 3 = .ok (.invokestatic 66, 3) := by decide +kernel
theorem dX6_back_6 : decode cX6_back 6 = .ok (.ifCond .ne 5, 3) := by decide +kernel
theorem dX6_back_9 : decode cX6_back 9 = .ok (.iconst (-1), 1) := by decide +kernel
theorem dX6_back_10 : decode cX6_back 10 = .ok (.ireturn, 1) := by decide +kernel
theorem dX6_back_11 : decode cX6_back 11 = .ok (.aload_n 0, 1) := by decide +kernel
theorem dX6_back_12 : decode cX6_back 12 = .ok (.getfield 23, 3) := by decide +kernel
theorem dX6_back_15 : decode cX6_back 15 = .ok (.iload_n 1, 1) := by decide +kernel
theorem dX6_back_16 : decode cX6_back 16 = .ok (.baload, 1) := by decide +kernel
theorem dX6_back_17 : decode cX6_back 17 = .ok (.ifCond .ne 6, 3) := by decide +kernel
theorem dX6_back_20 : decode cX6_back 20 = .ok (.bipush (-2), 2) := by decide +kernel
theorem dX6_back_22 : decode cX6_back 22 = .ok (.ireturn, 1) := by decide +kernel
theorem dX6_back_23 : decode cX6_back 23 = .ok (.aload_n 0, 1) := by decide +kernel
theorem dX6_back_24 : decode cX6_back 24 = .ok (.getfield 10, 3) := by decide +kernel
theorem dX6_back_27 : decode cX6_back 27 = .ok (.aload_n 0, 1) := by decide +kernel
theorem dX6_back_28 : decode cX6_back 28 = .ok (.getfield 19, 3) := by decide +kernel
theorem dX6_back_31 : decode cX6_back 31 = .ok (.iload_n 1, 1) := by decide +kernel
theorem dX6_back_32 : decode cX6_back 32 = .ok (.aaload, 1) := by decide +kernel
theorem dX6_back_33 : decode cX6_back 33 = .ok (.invokevirtual 91, 3) := by decide +kernel
theorem dX6_back_36 : decode cX6_back 36 = .ok (.aload_n 0, 1) := by decide +kernel
theorem dX6_back_37 : decode cX6_back 37 = .ok (.getfield 10, 3) := by decide +kernel
theorem dX6_back_40 : decode cX6_back 40 = .ok (.getfield 101, 3) := by decide +kernel
theorem dX6_back_43 : decode cX6_back 43 = .ok (.ireturn, 1) := by decide +kernel
theorem dX6_sheet_0 : decode cX6_sheet 0 = .ok (.iload_n 1, 1) := by decide +kernel
theorem dX6_sheet_1 : decode cX6_sheet 1 = .ok (.iconst 0, 1) := by decide +kernel
theorem dX6_sheet_2 : decode cX6_sheet 2 = .ok (.iconst 3, 1) := by decide +kernel
theorem dX6_sheet_3 : decode cX6_sheet 3 = .ok (.invokestatic 66, 3) := by decide +kernel
theorem dX6_sheet_6 : decode cX6_sheet 6 = .ok (.ifCond .eq 18, 3) := by decide +kernel
theorem dX6_sheet_9 : decode cX6_sheet 9 = .ok (.iload_n 2, 1) := by decide +kernel
theorem dX6_sheet_10 : decode cX6_sheet 10 = .ok (.iconst 0, 1) := by decide +kernel
theorem dX6_sheet_11 : decode cX6_sheet 11 = .ok (.iconst 2, 1) := by decide +kernel
theorem dX6_sheet_12 : decode cX6_sheet 12 = .ok (.invokestatic 66, 3) := by decide +kernel
theorem dX6_sheet_15 : decode cX6_sheet 15 = .ok (.ifCond .eq 9, 3) := by decide +kernel
theorem dX6_sheet_18 : decode cX6_sheet 18 = .ok (.iload_n 3, 1) := by decide +kernel
theorem dX6_sheet_19 : decode cX6_sheet 19 = .ok (.bipush 40, 2) := by decide +kernel
theorem dX6_sheet_21 : decode cX6_sheet 21 = .ok (.if_icmp .le 5, 3) := by decide +kernel
theorem dX6_sheet_24 : decode cX6_sheet 24 = .ok (.iconst (-1), 1) := by decide +kernel
theorem dX6_sheet_25 : decode cX6_sheet 25 = .ok (.ireturn, 1) := by decide +kernel
theorem dX6_sheet_26 : decode cX6_sheet 26 = .ok (.iload_n 3, 1) := by decide +kernel
theorem dX6_sheet_27 : decode cX6_sheet 27 = .ok (.ifCond .ge 6, 3) := by decide +kernel
theorem dX6_sheet_30 : decode cX6_sheet 30 = .ok (.bipush (-14), 2) := by decide +kernel
theorem dX6_sheet_32 : decode cX6_sheet 32 = .ok (.ireturn, 1) := by decide +kernel
theorem dX6_sheet_33 : decode cX6_sheet 33 = .ok (.aload_n 0, 1) := by decide +kernel
theorem dX6_sheet_34 : decode cX6_sheet 34 = .ok (.getfield 36, 3) := by decide +kernel
theorem dX6_sheet_37 : decode cX6_sheet 37 = .ok (.iload_n 1, 1) := by decide +kernel
theorem dX6_sheet_38 : decode cX6_sheet 38 = .ok (.aaload, 1) := by decide +kernel
theorem dX6_sheet_39 : decode cX6_sheet 39 = .ok (.iload_n 2, 1) := by decide +kernel
theorem dX6_sheet_40 : decode cX6_sheet 40 = .ok (.iload_n 3, 1) := by decide +kernel
theorem dX6_sheet_41 : decode cX6_sheet 41 = .ok (.invokevirtual 245, 3) := by decide +kernel
theorem dX6_sheet_44 : decode cX6_sheet 44 = .ok (.iconst 1, 1) := by decide +kernel
theorem dX6_sheet_45 : decode cX6_sheet 45 = .ok (.ireturn, 1) := by decide +kernel
theorem dX6_lay_0 : decode cX6_lay 0 = .ok (.iload_n 1, 1) := by decide +kernel
theorem dX6_lay_1 : decode cX6_lay 1 = .ok (.iconst 0, 1) := by decide +kernel
theorem dX6_lay_2 : decode cX6_lay 2 = .ok (.iconst 3, 1) := by decide +kernel
theorem dX6_lay_3 : decode cX6_lay 3 = .ok (.invokestatic 66, 3) := by decide +kernel
theorem dX6_lay_6 : decode cX6_lay 6 = .ok (.ifCond .ne 5, 3) := by decide +kernel
theorem dX6_lay_9 : decode cX6_lay 9 = .ok (.iconst (-1), 1) := by decide +kernel
theorem dX6_lay_10 : decode cX6_lay 10 = .ok (.ireturn, 1) := by decide +kernel
theorem dX6_lay_11 : decode cX6_lay 11 = .ok (.aload_n 0, 1) := by decide +kernel
theorem dX6_lay_12 : decode cX6_lay 12 = .ok (.getfield 36, 3) := by decide +kernel
theorem dX6_lay_15 : decode cX6_lay 15 = .ok (.iload_n 1, 1) := by decide +kernel
theorem dX6_lay_16 : decode cX6_lay 16 = .ok (.aaload, 1) := by decide +kernel
theorem dX6_lay_17 : decode cX6_lay 17 = .ok (.astore 4, 2) := by decide +kernel
theorem dX6_lay_19 : decode cX6_lay 19 = .ok (.aload 4, 2) := by decide +kernel
theorem dX6_lay_21 : decode cX6_lay 21 = .ok (.aload 4, 2) := by decide +kernel
theorem dX6_lay_23 : decode cX6_lay 23 = .ok (.getfield 249, 3) := by decide +kernel
theorem dX6_lay_26 : decode cX6_lay 26 = .ok (.iload_n 2, 1) := by decide +kernel
theorem dX6_lay_27 : decode cX6_lay 27 = .ok (.invokevirtual 252, 3) := by decide +kernel
theorem dX6_lay_30 : decode cX6_lay 30 = .ok (.istore 5, 2) := by decide +kernel
theorem dX6_lay_32 : decode cX6_lay 32 = .ok (.iload 5, 2) := by decide +kernel
theorem dX6_lay_34 : decode cX6_lay 34 = .ok (.ifCond .eq 9, 3) := by decide +kernel
theorem dX6_lay_37 : decode cX6_lay 37 = .ok (.bipush (-10), 2) := by decide +kernel
theorem dX6_lay_39 : decode cX6_lay 39 = .ok (.iload 5, 2) := by decide +kernel
theorem dX6_lay_41 : decode cX6_lay 41 = .ok (.isub, 1) := by decide +kernel
theorem dX6_lay_42 : decode cX6_lay 42 = .ok (.ireturn, 1) := by decide +kernel
theorem dX6_lay_43 : decode cX6_lay 43 = .ok (.aload 4, 2) := by decide +kernel
theorem dX6_lay_45 : decode cX6_lay 45 = .ok (.iload_n 2, 1) := by decide +kernel
theorem dX6_lay_46 : decode cX6_lay 46 = .ok (.iload_n 3, 1) := by decide +kernel
theorem dX6_lay_47 : decode cX6_lay 47 = .ok (.invokevirtual 255, 3) := by decide +kernel
theorem dX6_lay_50 : decode cX6_lay 50 = .ok (.iconst 1, 1) := by decide +kernel
theorem dX6_lay_51 : decode cX6_lay 51 = .ok (.ireturn, 1) := by decide +kernel
theorem dX6_read_0 : decode cX6_read 0 = .ok (.iload_n 1, 1) := by decide +kernel
theorem dX6_read_1 : decode cX6_read 1 = .ok (.iconst 0, 1) := by decide +kernel
theorem dX6_read_2 : decode cX6_read 2 = .ok (.iconst 3, 1) := by decide +kernel
theorem dX6_read_3 : decode cX6_read 3 = .ok (.invokestatic 66, 3) := by decide +kernel
theorem dX6_read_6 : decode cX6_read 6 = .ok (.ifCond .eq 23, 3) := by decide +kernel
theorem dX6_read_9 : decode cX6_read 9 = .ok (.iload_n 2, 1) := by decide +kernel
theorem dX6_read_10 : decode cX6_read 10 = .ok (.iconst 0, 1) := by decide +kernel
theorem dX6_read_11 : decode cX6_read 11 = .ok (.iconst 2, 1) := by decide +kernel
theorem dX6_read_12 : decode cX6_read 12 = .ok (.invokestatic 66, 3) := by decide +kernel
theorem dX6_read_15 : decode cX6_read 15 = .ok (.ifCond .eq 14, 3) := by decide +kernel
theorem dX6_read_18 : decode cX6_read 18 = .ok (.iload 4, 2) := by decide +kernel
theorem dX6_read_20 : decode cX6_read 20 = .ok (.iconst 0, 1) := by decide +kernel
theorem dX6_read_21 : decode cX6_read 21 = .ok (.bipush 20, 2) := by decide +kernel
theorem dX6_read_23 : decode cX6_read 23 = .ok (.invokestatic 66, 3) := by decide +kernel
theorem dX6_read_26 : decode cX6_read 26 = .ok (.ifCond .ne 5, 3) := by decide +kernel
theorem dX6_read_29 : decode cX6_read 29 = .ok (.iconst (-1), 1) := by decide +kernel
theorem dX6_read_30 : decode cX6_read 30 = .ok (.ireturn, 1) := by decide +kernel
theorem dX6_read_31 : decode cX6_read 31 = .ok (.aload_n 0, 1) := by decide +kernel
theorem dX6_read_32 : decode cX6_read 32 = .ok (.getfield 36, 3) := by decide +kernel
theorem dX6_read_35 : decode cX6_read 35 = .ok (.iload_n 1, 1) := by decide +kernel
theorem dX6_read_36 : decode cX6_read 36 = .ok (.aaload, 1) := by decide +kernel
theorem dX6_read_37 : decode cX6_read 37 = .ok (.astore 5, 2) := by decide +kernel
theorem dX6_read_39 : decode cX6_read 39 = .ok (.aload_n 0, 1) := by decide +kernel
theorem dX6_read_40 : decode cX6_read 40 = .ok (.getfield 10, 3) := by decide +kernel
theorem dX6_read_43 : decode cX6_read 43 = .ok (.getfield 104, 3) := by decide +kernel
theorem dX6_read_46 : decode cX6_read 46 = .ok (.istore 6, 2) := by decide +kernel
theorem dX6_read_48 : decode cX6_read 48 = .ok (.iconst 0, 1) := by decide +kernel
theorem dX6_read_49 : decode cX6_read 49 = .ok (.istore 7, 2) := by decide +kernel
theorem dX6_read_51 : decode cX6_read 51 = .ok (.iconst 0, 1) := by decide +kernel
theorem dX6_read_52 : decode cX6_read 52 = .ok (.istore 8, 2) := by decide +kernel
theorem dX6_read_54 : decode cX6_read 54 = .ok (.iconst 0, 1) := by decide +kernel
theorem dX6_read_55 : decode cX6_read 55 = .ok (.istore 9, 2) := by decide +kernel
theorem dX6_read_57 : decode cX6_read 57 = .ok (.iload 9, 2) := by decide +kernel
theorem dX6_read_59 : decode cX6_read 59 = .ok (.iload 4, 2) := by decide +kernel
theorem dX6_read_61 : decode cX6_read 61 = .ok (.if_icmp .ge 66, 3) := by decide +kernel
theorem dX6_read_64 : decode cX6_read 64 = .ok (.iload 7, 2) := by decide +kernel
theorem dX6_read_66 : decode cX6_read 66 = .ok (.ifCond .ne 61, 3) := by decide +kernel
theorem dX6_read_69 : decode cX6_read 69 = .ok (.aload 5, 2) := by decide +kernel
theorem dX6_read_71 : decode cX6_read 71 = .ok (.iload_n 2, 1) := by decide +kernel
theorem dX6_read_72 : decode cX6_read 72 = .ok (.iload_n 3, 1) := by decide +kernel
theorem dX6_read_73 : decode cX6_read 73 = .ok (.iload 9, 2) := by decide +kernel
theorem dX6_read_75 : decode cX6_read 75 = .ok (.iadd, 1) := by decide +kernel
theorem dX6_read_76 : decode cX6_read 76 = .ok (.invokevirtual 252, 3) := by decide +kernel
theorem dX6_read_79 : decode cX6_read 79 = .ok (.istore 7, 2) := by decide +kernel
theorem dX6_read_81 : decode cX6_read 81 = .ok (.iload 7, 2) := by decide +kernel
theorem dX6_read_83 : decode cX6_read 83 = .ok (.ifCond .ne 38, 3) := by decide +kernel
theorem dX6_read_86 : decode cX6_read 86 = .ok (.aload_n 0, 1) := by decide +kernel
theorem dX6_read_87 : decode cX6_read 87 = .ok (.aload 5, 2) := by decide +kernel
theorem dX6_read_89 : decode cX6_read 89 = .ok (.getfield 258, 3) := by decide +kernel
theorem dX6_read_92 : decode cX6_read 92 = .ok (.iload_n 3, 1) := by decide +kernel
theorem dX6_read_93 : decode cX6_read 93 = .ok (.iload 9, 2) := by decide +kernel
theorem dX6_read_95 : decode cX6_read 95 = .ok (.iadd, 1) := by decide +kernel
theorem dX6_read_96 : decode cX6_read 96 = .ok (.iaload, 1) := by decide +kernel
theorem dX6_read_97 : decode cX6_read 97 = .ok (.invokevirtual 261, 3) := by decide +kernel
theorem dX6_read_100 : decode cX6_read 100 = .ok (.ifCond .ge 18, 3) := by decide +kernel
theorem dX6_read_103 : decode cX6_read 103 = .ok (.aload_n 0, 1) := by decide +kernel
theorem dX6_read_104 : decode cX6_read 104 = .ok (.getfield 10, 3) := by decide +kernel
theorem dX6_read_107 : decode cX6_read 107 = .ok (.iload 6, 2) := by decide +kernel
theorem dX6_read_109 : decode cX6_read 109 = .ok (.putfield 104, 3) := by decide +kernel
theorem dX6_read_112 : decode cX6_read 112 = .ok (.bipush (-20), 2) := by decide +kernel
theorem dX6_read_114 : decode cX6_read 114 = .ok (.iload 9, 2) := by decide +kernel
theorem dX6_read_116 : decode cX6_read 116 = .ok (.isub, 1) := by decide +kernel
theorem dX6_read_117 : decode cX6_read 117 = .ok (.ireturn, 1) := by decide +kernel
theorem dX6_read_118 : decode cX6_read 118 = .ok (.iinc 8 1, 3) := by decide +kernel
theorem dX6_read_121 : decode cX6_read 121 = .ok (.iinc 9 1, 3) := by decide +kernel
theorem dX6_read_124 : decode cX6_read 124 = .ok (.goto (-67), 3) := by decide +kernel
theorem dX6_read_127 : decode cX6_read 127 = .ok (.aload_n 0, 1) := by decide +kernel
theorem dX6_read_128 : decode cX6_read 128 = .ok (.iload 7, 2) := by decide +kernel
theorem dX6_read_130 : decode cX6_read 130 = .ok (.putfield 264, 3) := by decide +kernel
theorem dX6_read_133 : decode cX6_read 133 = .ok (.iload 8, 2) := by decide +kernel
theorem dX6_read_135 : decode cX6_read 135 = .ok (.ireturn, 1) := by decide +kernel
theorem dX6_torn_0 : decode cX6_torn 0 = .ok (.aload_n 0, 1) := by decide +kernel
theorem dX6_torn_1 : decode cX6_torn 1 = .ok (.getfield 264, 3) := by decide +kernel
theorem dX6_torn_4 : decode cX6_torn 4 = .ok (.ireturn, 1) := by decide +kernel
theorem dX6_count_0 : decode cX6_count 0 = .ok (.iload_n 1, 1) := by decide +kernel
theorem dX6_count_1 : decode cX6_count 1 = .ok (.tableswitch 131 0 5 #[39, 50, 68, 76, 96, 104], 39) := by decide +kernel
theorem dX6_count_40 : decode cX6_count 40 = .ok (.aload_n 0, 1) := by decide +kernel
theorem dX6_count_41 : decode cX6_count 41 = .ok (.getfield 10, 3) := by decide +kernel
theorem dX6_count_44 : decode cX6_count 44 = .ok (.getfield 104, 3) := by decide +kernel
theorem dX6_count_47 : decode cX6_count 47 = .ok (.invokestatic 145, 3) := by decide +kernel
theorem dX6_count_50 : decode cX6_count 50 = .ok (.ireturn, 1) := by decide +kernel
theorem dX6_count_51 : decode cX6_count 51 = .ok (.aload_n 0, 1) := by decide +kernel
theorem dX6_count_52 : decode cX6_count 52 = .ok (.getfield 10, 3) := by decide +kernel
theorem dX6_count_55 : decode cX6_count 55 = .ok (.aload_n 0, 1) := by decide +kernel
theorem dX6_count_56 : decode cX6_count 56 = .ok (.getfield 10, 3) := by decide +kernel
theorem dX6_count_59 : decode cX6_count 59 = .ok (.getfield 104, 3) := by decide +kernel
theorem dX6_count_62 : decode cX6_count 62 = .ok (.invokevirtual 107, 3) := by decide +kernel
theorem dX6_count_65 : decode cX6_count 65 = .ok (.invokestatic 145, 3) := by decide +kernel
theorem dX6_count_68 : decode cX6_count 68 = .ok (.ireturn, 1) := by decide +kernel
theorem dX6_count_69 : decode cX6_count 69 = .ok (.aload_n 0, 1) := by decide +kernel
theorem dX6_count_70 : decode cX6_count 70 = .ok (.getfield 10, 3) := by decide +kernel
theorem dX6_count_73 : decode cX6_count 73 = .ok (.getfield 223, 3) := by decide +kernel
theorem dX6_count_76 : decode cX6_count 76 = .ok (.ireturn, 1) := by decide +kernel
theorem dX6_count_77 : decode cX6_count 77 = .ok (.aload_n 0, 1) := by decide +kernel
theorem dX6_count_78 : decode cX6_count 78 = .ok (.getfield 23, 3) := by decide +kernel
theorem dX6_count_81 : decode cX6_count 81 = .ok (.iconst 0, 1) := by decide +kernel
theorem dX6_count_82 : decode cX6_count 82 = .ok (.baload, 1) := by decide +kernel
theorem dX6_count_83 : decode cX6_count 83 = .ok (.invokestatic 178, 3) := by decide +kernel
theorem dX6_count_86 : decode cX6_count 86 = .ok (.aload_n 0, 1) := by decide +kernel
theorem dX6_count_87 : decode cX6_count 87 = .ok (.getfield 23, 3) := by decide +kernel
theorem dX6_count_90 : decode cX6_count 90 = .ok (.iconst 1, 1) := by decide +kernel
theorem dX6_count_91 : decode cX6_count 91 = .ok (.baload, 1) := by decide +kernel
theorem dX6_count_92 : decode cX6_count 92 = .ok (.invokestatic 178, 3) := by decide +kernel
theorem dX6_count_95 : decode cX6_count 95 = .ok (.iadd, 1) := by decide +kernel
theorem dX6_count_96 : decode cX6_count 96 = .ok (.ireturn, 1) := by decide +kernel
theorem dX6_count_97 : decode cX6_count 97 = .ok (.aload_n 0, 1) := by decide +kernel
theorem dX6_count_98 : decode cX6_count 98 = .ok (.getfield 30, 3) := by decide +kernel
theorem dX6_count_101 : decode cX6_count 101 = .ok (.getfield 74, 3) := by decide +kernel
theorem dX6_count_104 : decode cX6_count 104 = .ok (.ireturn, 1) := by decide +kernel
theorem dX6_count_105 : decode cX6_count 105 = .ok (.aload_n 0, 1) := by decide +kernel
theorem dX6_count_106 : decode cX6_count 106 = .ok (.getfield 36, 3) := by decide +kernel
theorem dX6_count_109 : decode cX6_count 109 = .ok (.iconst 0, 1) := by decide +kernel
theorem dX6_count_110 : decode cX6_count 110 = .ok (.aaload, 1) := by decide +kernel
theorem dX6_count_111 : decode cX6_count 111 = .ok (.invokevirtual 267, 3) := by decide +kernel
theorem dX6_count_114 : decode cX6_count 114 = .ok (.ifCond .eq 8, 3) := by decide +kernel
theorem dX6_count_117 : decode cX6_count 117 = .ok (.bipush (-4), 2) := by decide +kernel
theorem dX6_count_119 : decode cX6_count 119 = .ok (.goto 12, 3) := by decide +kernel
theorem dX6_count_122 : decode cX6_count 122 = .ok (.aload_n 0, 1) := by decide +kernel
theorem dX6_count_123 : decode cX6_count 123 = .ok (.getfield 36, 3) := by decide +kernel
theorem dX6_count_126 : decode cX6_count 126 = .ok (.iconst 0, 1) := by decide +kernel
theorem dX6_count_127 : decode cX6_count 127 = .ok (.aaload, 1) := by decide +kernel
theorem dX6_count_128 : decode cX6_count 128 = .ok (.getfield 271, 3) := by decide +kernel
theorem dX6_count_131 : decode cX6_count 131 = .ok (.ireturn, 1) := by decide +kernel
theorem dX6_count_132 : decode cX6_count 132 = .ok (.iconst (-1), 1) := by decide +kernel
theorem dX6_count_133 : decode cX6_count 133 = .ok (.ireturn, 1) := by decide +kernel
theorem dX6_within_0 : decode cX6_within 0 = .ok (.iload_n 0, 1) := by decide +kernel
theorem dX6_within_1 : decode cX6_within 1 = .ok (.iload_n 1, 1) := by decide +kernel
theorem dX6_within_2 : decode cX6_within 2 = .ok (.if_icmp .lt 12, 3) := by decide +kernel
theorem dX6_within_5 : decode cX6_within 5 = .ok (.iload_n 0, 1) := by decide +kernel
theorem dX6_within_6 : decode cX6_within 6 = .ok (.iload_n 2, 1) := by decide +kernel
theorem dX6_within_7 : decode cX6_within 7 = .ok (.if_icmp .gt 7, 3) := by decide +kernel
theorem dX6_within_10 : decode cX6_within 10 = .ok (.iconst 1, 1) := by decide +kernel
theorem dX6_within_11 : decode cX6_within 11 = .ok (.goto 4, 3) := by decide +kernel
theorem dX6_within_14 : decode cX6_within 14 = .ok (.iconst 0, 1) := by decide +kernel
theorem dX6_within_15 : decode cX6_within 15 = .ok (.ireturn, 1) := by decide +kernel
theorem dX6_oneIf_0 : decode cX6_oneIf 0 = .ok (.iload_n 0, 1) := by decide +kernel
theorem dX6_oneIf_1 : decode cX6_oneIf 1 = .ok (.ifCond .eq 7, 3) := by decide +kernel
theorem dX6_oneIf_4 : decode cX6_oneIf 4 = .ok (.iconst 1, 1) := by decide +kernel
theorem dX6_oneIf_5 : decode cX6_oneIf 5 = .ok (.goto 4, 3) := by decide +kernel
theorem dX6_oneIf_8 : decode cX6_oneIf 8 = .ok (.iconst 0, 1) := by decide +kernel
theorem dX6_oneIf_9 : decode cX6_oneIf 9 = .ok (.ireturn, 1) := by decide +kernel
theorem dX6_bind_0 : decode cX6_bind 0 = .ok (.iload_n 3, 1) := by decide +kernel
theorem dX6_bind_1 : decode cX6_bind 1 = .ok (.iconst 0, 1) := by decide +kernel
theorem dX6_bind_2 : decode cX6_bind 2 = .ok (.iload_n 2, 1) := by decide +kernel
theorem dX6_bind_3 : decode cX6_bind 3 = .ok (.iconst 1, 1) := by decide +kernel
theorem dX6_bind_4 : decode cX6_bind 4 = .ok (.isub, 1) := by decide +kernel
theorem dX6_bind_5 : decode cX6_bind 5 = .ok (.invokestatic 66, 3) := by decide +kernel
theorem dX6_bind_8 : decode cX6_bind 8 = .ok (.ifCond .ne 5, 3) := by decide +kernel
theorem dX6_bind_11 : decode cX6_bind 11 = .ok (.iconst (-1), 1) := by decide +kernel
theorem dX6_bind_12 : decode cX6_bind 12 = .ok (.ireturn, 1) := by decide +kernel
theorem dX6_bind_13 : decode cX6_bind 13 = .ok (.iconst 1, 1) := by decide +kernel
theorem dX6_bind_14 : decode cX6_bind 14 = .ok (.iload_n 3, 1) := by decide +kernel
theorem dX6_bind_15 : decode cX6_bind 15 = .ok (.ishl, 1) := by decide +kernel
theorem dX6_bind_16 : decode cX6_bind 16 = .ok (.istore 5, 2) := by decide +kernel
theorem dX6_bind_18 : decode cX6_bind 18 = .ok (.iload 4, 2) := by decide +kernel
theorem dX6_bind_20 : decode cX6_bind 20 = .ok (.ifCond .eq 15, 3) := by decide +kernel
theorem dX6_bind_23 : decode cX6_bind 23 = .ok (.aload_n 1, 1) := by decide +kernel
theorem dX6_bind_24 : decode cX6_bind 24 = .ok (.iload_n 2, 1) := by decide +kernel
theorem dX6_bind_25 : decode cX6_bind 25 = .ok (.iaload, 1) := by decide +kernel
theorem dX6_bind_26 : decode cX6_bind 26 = .ok (.iload 5, 2) := by decide +kernel
theorem dX6_bind_28 : decode cX6_bind 28 = .ok (.iand, 1) := by decide +kernel
theorem dX6_bind_29 : decode cX6_bind 29 = .ok (.ifCond .eq 6, 3) := by decide +kernel
theorem dX6_bind_32 : decode cX6_bind 32 = .ok (.bipush (-2), 2) := by decide +kernel
theorem dX6_bind_34 : decode cX6_bind 34 = .ok (.ireturn, 1) := by decide +kernel
theorem dX6_bind_35 : decode cX6_bind 35 = .ok (.aload_n 0, 1) := by decide +kernel
theorem dX6_bind_36 : decode cX6_bind 36 = .ok (.iload_n 2, 1) := by decide +kernel
theorem dX6_bind_37 : decode cX6_bind 37 = .ok (.iaload, 1) := by decide +kernel
theorem dX6_bind_38 : decode cX6_bind 38 = .ok (.iload_n 3, 1) := by decide +kernel
theorem dX6_bind_39 : decode cX6_bind 39 = .ok (.ishr, 1) := by decide +kernel
theorem dX6_bind_40 : decode cX6_bind 40 = .ok (.iconst 1, 1) := by decide +kernel
theorem dX6_bind_41 : decode cX6_bind 41 = .ok (.iand, 1) := by decide +kernel
theorem dX6_bind_42 : decode cX6_bind 42 = .ok (.istore 6, 2) := by decide +kernel
theorem dX6_bind_44 : decode cX6_bind 44 = .ok (.aload_n 0, 1) := by decide +kernel
theorem dX6_bind_45 : decode cX6_bind 45 = .ok (.iload_n 2, 1) := by decide +kernel
theorem dX6_bind_46 : decode cX6_bind 46 = .ok (.iload 4, 2) := by decide +kernel
theorem dX6_bind_48 : decode cX6_bind 48 = .ok (.ifCond .eq 12, 3) := by decide +kernel
theorem dX6_bind_51 : decode cX6_bind 51 = .ok (.aload_n 0, 1) := by decide +kernel
theorem dX6_bind_52 : decode cX6_bind 52 = .ok (.iload_n 2, 1) := by decide +kernel
theorem dX6_bind_53 : decode cX6_bind 53 = .ok (.iaload, 1) := by decide +kernel
theorem dX6_bind_54 : decode cX6_bind 54 = .ok (.iload 5, 2) := by decide +kernel
theorem dX6_bind_56 : decode cX6_bind 56 = .ok (.ior, 1) := by decide +kernel
theorem dX6_bind_57 : decode cX6_bind 57 = .ok (.goto 11, 3) := by decide +kernel
theorem dX6_bind_60 : decode cX6_bind 60 = .ok (.aload_n 0, 1) := by decide +kernel
theorem dX6_bind_61 : decode cX6_bind 61 = .ok (.iload_n 2, 1) := by decide +kernel
theorem dX6_bind_62 : decode cX6_bind 62 = .ok (.iaload, 1) := by decide +kernel
theorem dX6_bind_63 : decode cX6_bind 63 = .ok (.iload 5, 2) := by decide +kernel
theorem dX6_bind_65 : decode cX6_bind 65 = .ok (.iconst (-1), 1) := by decide +kernel
theorem dX6_bind_66 : decode cX6_bind 66 = .ok (.ixor, 1) := by decide +kernel
theorem dX6_bind_67 : decode cX6_bind 67 = .ok (.iand, 1) := by decide +kernel
theorem dX6_bind_68 : decode cX6_bind 68 = .ok (.iastore, 1) := by decide +kernel
theorem dX6_bind_69 : decode cX6_bind 69 = .ok (.iload 6, 2) := by decide +kernel
theorem dX6_bind_71 : decode cX6_bind 71 = .ok (.ireturn, 1) := by decide +kernel
theorem dX6_fewestMore_0 : decode cX6_fewestMore 0 = .ok (.aload_n 0, 1) := by decide +kernel
theorem dX6_fewestMore_1 : decode cX6_fewestMore 1 = .ok (.getfield 10, 3) := by decide +kernel
theorem dX6_fewestMore_4 : decode cX6_fewestMore 4 = .ok (.getfield 95, 3) := by decide +kernel
theorem dX6_fewestMore_7 : decode cX6_fewestMore 7 = .ok (.ifCond .ne 6, 3) := by decide +kernel
theorem dX6_fewestMore_10 : decode cX6_fewestMore 10 = .ok (.bipush (-4), 2) := by decide +kernel
theorem dX6_fewestMore_12 : decode cX6_fewestMore 12 = .ok (.ireturn, 1) := by decide +kernel
theorem dX6_fewestMore_13 : decode cX6_fewestMore 13 = .ok (.bipush 9, 2) := by decide +kernel
theorem dX6_fewestMore_15 : decode cX6_fewestMore 15 = .ok (.istore_n 3, 1) := by decide +kernel
theorem dX6_fewestMore_16 : decode cX6_fewestMore 16 = .ok (.iconst 0, 1) := by decide +kernel
theorem dX6_fewestMore_17 : decode cX6_fewestMore 17 = .ok (.istore 4, 2) := by decide +kernel
theorem dX6_fewestMore_19 : decode cX6_fewestMore 19 = .ok (.iconst 0, 1) := by decide +kernel
theorem dX6_fewestMore_20 : decode cX6_fewestMore 20 = .ok (.istore 5, 2) := by decide +kernel
theorem dX6_fewestMore_22 : decode cX6_fewestMore 22 = .ok (.iload 5, 2) := by decide +kernel
theorem dX6_fewestMore_24 : decode cX6_fewestMore 24 = .ok (.iconst 1, 1) := by decide +kernel
theorem dX6_fewestMore_25 : decode cX6_fewestMore 25 = .ok (.aload_n 0, 1) := by decide +kernel
theorem dX6_fewestMore_26 : decode cX6_fewestMore 26 = .ok (.getfield 10, 3) := by decide +kernel
theorem dX6_fewestMore_29 : decode cX6_fewestMore 29 = .ok (.getfield 95, 3) := by decide +kernel
theorem dX6_fewestMore_32 : decode cX6_fewestMore 32 = .ok (.ishl, 1) := by decide +kernel
theorem dX6_fewestMore_33 : decode cX6_fewestMore 33 = .ok (.if_icmp .ge 63, 3) := by decide +kernel
theorem dX6_fewestMore_36 : decode cX6_fewestMore 36 = .ok (.iload 5, 2) := by decide +kernel
theorem dX6_fewestMore_38 : decode cX6_fewestMore 38 = .ok (.invokestatic 145, 3) := by decide +kernel
theorem dX6_fewestMore_41 : decode cX6_fewestMore 41 = .ok (.istore 6, 2) := by decide +kernel
theorem dX6_fewestMore_43 : decode cX6_fewestMore 43 = .ok (.iload 5, 2) := by decide +kernel
theorem dX6_fewestMore_45 : decode cX6_fewestMore 45 = .ok (.aload_n 0, 1) := by decide +kernel
theorem dX6_fewestMore_46 : decode cX6_fewestMore 46 = .ok (.getfield 10, 3) := by decide +kernel
theorem dX6_fewestMore_49 : decode cX6_fewestMore 49 = .ok (.getfield 104, 3) := by decide +kernel
theorem dX6_fewestMore_52 : decode cX6_fewestMore 52 = .ok (.iand, 1) := by decide +kernel
theorem dX6_fewestMore_53 : decode cX6_fewestMore 53 = .ok (.ifCond .ne 37, 3) := by decide +kernel
theorem dX6_fewestMore_56 : decode cX6_fewestMore 56 = .ok (.iload 6, 2) := by decide +kernel
theorem dX6_fewestMore_58 : decode cX6_fewestMore 58 = .ok (.iload_n 3, 1) := by decide +kernel
theorem dX6_fewestMore_59 : decode cX6_fewestMore 59 = .ok (.if_icmp .ge 31, 3) := by decide +kernel
theorem dX6_fewestMore_62 : decode cX6_fewestMore 62 = .ok (.aload_n 0, 1) := by decide +kernel
theorem dX6_fewestMore_63 : decode cX6_fewestMore 63 = .ok (.getfield 10, 3) := by decide +kernel
theorem dX6_fewestMore_66 : decode cX6_fewestMore 66 = .ok (.aload_n 0, 1) := by decide +kernel
theorem dX6_fewestMore_67 : decode cX6_fewestMore 67 = .ok (.getfield 10, 3) := by decide +kernel
theorem dX6_fewestMore_70 : decode cX6_fewestMore 70 = .ok (.getfield 104, 3) := by decide +kernel
theorem dX6_fewestMore_73 : decode cX6_fewestMore 73 = .ok (.iload 5, 2) := by decide +kernel
theorem dX6_fewestMore_75 : decode cX6_fewestMore 75 = .ok (.ior, 1) := by decide +kernel
theorem dX6_fewestMore_76 : decode cX6_fewestMore 76 = .ok (.invokevirtual 175, 3) := by decide +kernel
theorem dX6_fewestMore_79 : decode cX6_fewestMore 79 = .ok (.iload_n 1, 1) := by decide +kernel
theorem dX6_fewestMore_80 : decode cX6_fewestMore 80 = .ok (.if_icmp .ne 10, 3) := by decide +kernel
theorem dX6_fewestMore_83 : decode cX6_fewestMore 83 = .ok (.iload 6, 2) := by decide +kernel
theorem dX6_fewestMore_85 : decode cX6_fewestMore 85 = .ok (.istore_n 3, 1) := by decide +kernel
theorem dX6_fewestMore_86 : decode cX6_fewestMore 86 = .ok (.iload 5, 2) := by decide +kernel
theorem dX6_fewestMore_88 : decode cX6_fewestMore 88 = .ok (.istore 4, 2) := by decide +kernel
theorem dX6_fewestMore_90 : decode cX6_fewestMore 90 = .ok (.iinc 5 1, 3) := by decide +kernel
theorem dX6_fewestMore_93 : decode cX6_fewestMore 93 = .ok (.goto (-71), 3) := by decide +kernel
theorem dX6_fewestMore_96 : decode cX6_fewestMore 96 = .ok (.iload_n 3, 1) := by decide +kernel
theorem dX6_fewestMore_97 : decode cX6_fewestMore 97 = .ok (.bipush 8, 2) := by decide +kernel
theorem dX6_fewestMore_99 : decode cX6_fewestMore 99 = .ok (.if_icmp .le 6, 3) := by decide +kernel
theorem dX6_fewestMore_102 : decode cX6_fewestMore 102 = .ok (.bipush (-4), 2) := by decide +kernel
theorem dX6_fewestMore_104 : decode cX6_fewestMore 104 = .ok (.ireturn, 1) := by decide +kernel
theorem dX6_fewestMore_105 : decode cX6_fewestMore 105 = .ok (.iload_n 2, 1) := by decide +kernel
theorem dX6_fewestMore_106 : decode cX6_fewestMore 106 = .ok (.ifCond .ne 7, 3) := by decide +kernel
theorem dX6_fewestMore_109 : decode cX6_fewestMore 109 = .ok (.iload_n 3, 1) := by decide +kernel
theorem dX6_fewestMore_110 : decode cX6_fewestMore 110 = .ok (.goto 5, 3) := by decide +kernel
theorem dX6_fewestMore_113 : decode cX6_fewestMore 113 = .ok (.iload 4, 2) := by decide +kernel
theorem dX6_fewestMore_115 : decode cX6_fewestMore 115 = .ok (.ireturn, 1) := by decide +kernel
theorem dX6_weight_0 : decode cX6_weight 0 = .ok (.lconst 1, 1) := by decide +kernel
theorem dX6_weight_1 : decode cX6_weight 1 = .ok (.lstore_n 3, 1) := by decide +kernel
theorem dX6_weight_2 : decode cX6_weight 2 = .ok (.iconst 0, 1) := by decide +kernel
theorem dX6_weight_3 : decode cX6_weight 3 = .ok (.istore 5, 2) := by decide +kernel
theorem dX6_weight_5 : decode cX6_weight 5 = .ok (.iload 5, 2) := by decide +kernel
theorem dX6_weight_7 : decode cX6_weight 7 = .ok (.aload_n 0, 1) := by decide +kernel
theorem dX6_weight_8 : decode cX6_weight 8 = .ok (.getfield 10, 3) := by decide +kernel
theorem dX6_weight_11 : decode cX6_weight 11 = .ok (.getfield 111, 3) := by decide +kernel
theorem dX6_weight_14 : decode cX6_weight 14 = .ok (.if_icmp .ge 32, 3) := by decide +kernel
theorem dX6_weight_17 : decode cX6_weight 17 = .ok (.lload_n 3, 1) := by decide +kernel
theorem dX6_weight_18 : decode cX6_weight 18 = .ok (.iload_n 1, 1) := by decide +kernel
theorem dX6_weight_19 : decode cX6_weight 19 = .ok (.iload 5, 2) := by decide +kernel
theorem dX6_weight_21 : decode cX6_weight 21 = .ok (.ishr, 1) := by decide +kernel
theorem dX6_weight_22 : decode cX6_weight 22 = .ok (.iconst 1, 1) := by decide +kernel
theorem dX6_weight_23 : decode cX6_weight 23 = .ok (.iand, 1) := by decide +kernel
theorem dX6_weight_24 : decode cX6_weight 24 = .ok (.iconst 1, 1) := by decide +kernel
theorem dX6_weight_25 : decode cX6_weight 25 = .ok (.if_icmp .ne 8, 3) := by decide +kernel
theorem dX6_weight_28 : decode cX6_weight 28 = .ok (.iload_n 2, 1) := by decide +kernel
theorem dX6_weight_29 : decode cX6_weight 29 = .ok (.i2l, 1) := by decide +kernel
theorem dX6_weight_30 : decode cX6_weight 30 = .ok (.goto 8, 3) := by decide +kernel
theorem dX6_weight_33 : decode cX6_weight 33 = .ok (.bipush 10, 2) := by decide +kernel
theorem dX6_weight_35 : decode cX6_weight 35 = .ok (.iload_n 2, 1) := by decide +kernel
theorem dX6_weight_36 : decode cX6_weight 36 = .ok (.isub, 1) := by decide +kernel
theorem dX6_weight_37 : decode cX6_weight 37 = .ok (.i2l, 1) := by decide +kernel
theorem dX6_weight_38 : decode cX6_weight 38 = .ok (.lmul, 1) := by decide +kernel
theorem dX6_weight_39 : decode cX6_weight 39 = .ok (.lstore_n 3, 1) := by decide +kernel
theorem dX6_weight_40 : decode cX6_weight 40 = .ok (.iinc 5 1, 3) := by decide +kernel
theorem dX6_weight_43 : decode cX6_weight 43 = .ok (.goto (-38), 3) := by decide +kernel
theorem dX6_weight_46 : decode cX6_weight 46 = .ok (.lload_n 3, 1) := by decide +kernel
theorem dX6_weight_47 : decode cX6_weight 47 = .ok (.lreturn, 1) := by decide +kernel
theorem dX6_orders_0 : decode cX6_orders 0 = .ok (.iload_n 1, 1) := by decide +kernel
theorem dX6_orders_1 : decode cX6_orders 1 = .ok (.invokestatic 216, 3) := by decide +kernel
theorem dX6_orders_4 : decode cX6_orders 4 = .ok (.aload_n 0, 1) := by decide +kernel
theorem dX6_orders_5 : decode cX6_orders 5 = .ok (.getfield 10, 3) := by decide +kernel
theorem dX6_orders_8 : decode cX6_orders 8 = .ok (.getfield 95, 3) := by decide +kernel
theorem dX6_orders_11 : decode cX6_orders 11 = .ok (.iconst 1, 1) := by decide +kernel
theorem dX6_orders_12 : decode cX6_orders 12 = .ok (.isub, 1) := by decide +kernel
theorem dX6_orders_13 : decode cX6_orders 13 = .ok (.iload_n 1, 1) := by decide +kernel
theorem dX6_orders_14 : decode cX6_orders 14 = .ok (.isub, 1) := by decide +kernel
theorem dX6_orders_15 : decode cX6_orders 15 = .ok (.invokestatic 216, 3) := by decide +kernel
theorem dX6_orders_18 : decode cX6_orders 18 = .ok (.lmul, 1) := by decide +kernel
theorem dX6_orders_19 : decode cX6_orders 19 = .ok (.lreturn, 1) := by decide +kernel
theorem dX6_factorial_0 : decode cX6_factorial 0 = .ok (.iload_n 0, 1) := by decide +kernel
theorem dX6_factorial_1 : decode cX6_factorial 1 = .ok (.iconst 0, 1) := by decide +kernel
theorem dX6_factorial_2 : decode cX6_factorial 2 = .ok (.bipush 8, 2) := by decide +kernel
theorem dX6_factorial_4 : decode cX6_factorial 4 = .ok (.invokestatic 66, 3) := by decide +kernel
theorem dX6_factorial_7 : decode cX6_factorial 7 = .ok (.ifCond .eq 12, 3) := by decide +kernel
theorem dX6_factorial_10 : decode cX6_factorial 10 = .ok (.getstatic 274, 3) := by decide +kernel
theorem dX6_factorial_13 : decode cX6_factorial 13 = .ok (.iload_n 0, 1) := by decide +kernel
theorem dX6_factorial_14 : decode cX6_factorial 14 = .ok (.iaload, 1) := by decide +kernel
theorem dX6_factorial_15 : decode cX6_factorial 15 = .ok (.i2l, 1) := by decide +kernel
theorem dX6_factorial_16 : decode cX6_factorial 16 = .ok (.goto 4, 3) := by decide +kernel
theorem dX6_factorial_19 : decode cX6_factorial 19 = .ok (.lconst 0, 1) := by decide +kernel
theorem dX6_factorial_20 : decode cX6_factorial 20 = .ok (.lreturn, 1) := by decide +kernel
theorem dX6_lowest_0 : decode cX6_lowest 0 = .ok (.lload_n 0, 1) := by decide +kernel
theorem dX6_lowest_1 : decode cX6_lowest 1 = .ok (.invokestatic 277, 3) := by decide +kernel
theorem dX6_lowest_4 : decode cX6_lowest 4 = .ok (.lstore 5, 2) := by decide +kernel
theorem dX6_lowest_6 : decode cX6_lowest 6 = .ok (.lload_n 2, 1) := by decide +kernel
theorem dX6_lowest_7 : decode cX6_lowest 7 = .ok (.lstore 7, 2) := by decide +kernel
theorem dX6_lowest_9 : decode cX6_lowest 9 = .ok (.iconst 0, 1) := by decide +kernel
theorem dX6_lowest_10 : decode cX6_lowest 10 = .ok (.istore 9, 2) := by decide +kernel
theorem dX6_lowest_12 : decode cX6_lowest 12 = .ok (.iload 9, 2) := by decide +kernel
theorem dX6_lowest_14 : decode cX6_lowest 14 = .ok (.sipush 1000, 3) := by decide +kernel
theorem dX6_lowest_17 : decode cX6_lowest 17 = .ok (.if_icmp .ge 31, 3) := by decide +kernel
theorem dX6_lowest_20 : decode cX6_lowest 20 = .ok (.lload 5, 2) := by decide +kernel
theorem dX6_lowest_22 : decode cX6_lowest 22 = .ok (.lconst 0, 1) := by decide +kernel
theorem dX6_lowest_23 : decode cX6_lowest 23 = .ok (.lcmp, 1) := by decide +kernel
theorem dX6_lowest_24 : decode cX6_lowest 24 = .ok (.ifCond .eq 24, 3) := by decide +kernel
theorem dX6_lowest_27 : decode cX6_lowest 27 = .ok (.lload 7, 2) := by decide +kernel
theorem dX6_lowest_29 : decode cX6_lowest 29 = .ok (.lload 5, 2) := by decide +kernel
theorem dX6_lowest_31 : decode cX6_lowest 31 = .ok (.lrem, 1) := by decide +kernel
theorem dX6_lowest_32 : decode cX6_lowest 32 = .ok (.lstore 10, 2) := by decide +kernel
theorem dX6_lowest_34 : decode cX6_lowest 34 = .ok (.lload 5, 2) := by decide +kernel
theorem dX6_lowest_36 : decode cX6_lowest 36 = .ok (.lstore 7, 2) := by decide +kernel
theorem dX6_lowest_38 : decode cX6_lowest 38 = .ok (.lload 10, 2) := by decide +kernel
theorem dX6_lowest_40 : decode cX6_lowest 40 = .ok (.lstore 5, 2) := by decide +kernel
theorem dX6_lowest_42 : decode cX6_lowest 42 = .ok (.iinc 9 1, 3) := by decide +kernel
theorem dX6_lowest_45 : decode cX6_lowest 45 = .ok (.goto (-33), 3) := by decide +kernel
theorem dX6_lowest_48 : decode cX6_lowest 48 = .ok (.lload 7, 2) := by decide +kernel
theorem dX6_lowest_50 : decode cX6_lowest 50 = .ok (.lconst 0, 1) := by decide +kernel
theorem dX6_lowest_51 : decode cX6_lowest 51 = .ok (.lcmp, 1) := by decide +kernel
theorem dX6_lowest_52 : decode cX6_lowest 52 = .ok (.ifCond .ne 5, 3) := by decide +kernel
theorem dX6_lowest_55 : decode cX6_lowest 55 = .ok (.lconst 0, 1) := by decide +kernel
theorem dX6_lowest_56 : decode cX6_lowest 56 = .ok (.lreturn, 1) := by decide +kernel
theorem dX6_lowest_57 : decode cX6_lowest 57 = .ok (.iload 4, 2) := by decide +kernel
theorem dX6_lowest_59 : decode cX6_lowest 59 = .ok (.ifCond .ne 7, 3) := by decide +kernel
theorem dX6_lowest_62 : decode cX6_lowest 62 = .ok (.lload_n 0, 1) := by decide +kernel
theorem dX6_lowest_63 : decode cX6_lowest 63 = .ok (.goto 4, 3) := by decide +kernel
theorem dX6_lowest_66 : decode cX6_lowest 66 = .ok (.lload_n 2, 1) := by decide +kernel
theorem dX6_lowest_67 : decode cX6_lowest 67 = .ok (.lload 7, 2) := by decide +kernel
theorem dX6_lowest_69 : decode cX6_lowest 69 = .ok (.ldiv, 1) := by decide +kernel
theorem dX6_lowest_70 : decode cX6_lowest 70 = .ok (.lreturn, 1) := by decide +kernel
theorem dX7_init_0 : decode cX7_init 0 = .ok (.aload_n 0, 1) := by decide +kernel
theorem dX7_init_1 : decode cX7_init 1 = .ok (.invokespecial 1, 3) := by decide +kernel
theorem dX7_init_4 : decode cX7_init 4 = .ok (.aload_n 0, 1) := by decide +kernel
theorem dX7_init_5 : decode cX7_init 5 = .ok (.sipush 141, 3) := by decide +kernel
theorem dX7_init_8 : decode cX7_init 8 = .ok (.newarray .int, 2) := by decide +kernel
theorem dX7_init_10 : decode cX7_init 10 = .ok (.putfield 7, 3) := by decide +kernel
theorem dX7_init_13 : decode cX7_init 13 = .ok (.aload_n 0, 1) := by decide +kernel
theorem dX7_init_14 : decode cX7_init 14 = .ok (.iconst 2, 1) := by decide +kernel
theorem dX7_init_15 : decode cX7_init 15 = .ok (.newarray .boolean, 2) := by decide +kernel
theorem dX7_init_17 : decode cX7_init 17 = .ok (.putfield 13, 3) := by decide +kernel
theorem dX7_init_20 : decode cX7_init 20 = .ok (.aload_n 0, 1) := by decide +kernel
theorem dX7_init_21 : decode cX7_init 21 = .ok (.bipush 8, 2) := by decide +kernel
theorem dX7_init_23 : decode cX7_init 23 = .ok (.newarray .int, 2) := by decide +kernel
theorem dX7_init_25 : decode cX7_init 25 = .ok (.putfield 17, 3) := by decide +kernel
theorem dX7_init_28 : decode cX7_init 28 = .ok (.aload_n 0, 1) := by decide +kernel
theorem dX7_init_29 : decode cX7_init 29 = .ok (.bipush 8, 2) := by decide +kernel
theorem dX7_init_31 : decode cX7_init 31 = .ok (.newarray .int, 2) := by decide +kernel
theorem dX7_init_33 : decode cX7_init 33 = .ok (.putfield 20, 3) := by decide +kernel
theorem dX7_init_36 : decode cX7_init 36 = .ok (.aload_n 0, 1) := by decide +kernel
theorem dX7_init_37 : decode cX7_init 37 = .ok (.bipush 8, 2) := by decide +kernel
theorem dX7_init_39 : decode cX7_init 39 = .ok (.newarray .int, 2) := by decide +kernel
theorem dX7_init_41 : decode cX7_init 41 = .ok (.putfield 23, 3) := by decide +kernel
theorem dX7_init_44 : decode cX7_init 44 = .ok (.aload_n 0, 1) := by decide +kernel
theorem dX7_init_45 : decode cX7_init 45 = .ok (.bipush 47, 2) := by decide +kernel
theorem dX7_init_47 : decode cX7_init 47 = .ok (.newarray .int, 2) := by decide +kernel
theorem dX7_init_49 : decode cX7_init 49 = .ok (.putfield 26, 3) := by decide +kernel
theorem dX7_init_52 : decode cX7_init 52 = .ok (.aload_n 0, 1) := by decide +kernel
theorem dX7_init_53 : decode cX7_init 53 = .ok (.bipush 8, 2) := by decide +kernel
theorem dX7_init_55 : decode cX7_init 55 = .ok (.newarray .int, 2) := by decide +kernel
theorem dX7_init_57 : decode cX7_init 57 = .ok (.putfield 29, 3) := by decide +kernel
theorem dX7_init_60 : decode cX7_init 60 = .ok (.aload_n 0, 1) := by decide +kernel
theorem dX7_init_61 : decode cX7_init 61 = .ok (.bipush 8, 2) := by decide +kernel
theorem dX7_init_63 : decode cX7_init 63 = .ok (.newarray .int, 2) := by decide +kernel
theorem dX7_init_65 : decode cX7_init 65 = .ok (.putfield 32, 3) := by decide +kernel
theorem dX7_init_68 : decode cX7_init 68 = .ok (.aload_n 0, 1) := by decide +kernel
theorem dX7_init_69 : decode cX7_init 69 = .ok (.bipush 8, 2) := by decide +kernel
theorem dX7_init_71 : decode cX7_init 71 = .ok (.newarray .int, 2) := by decide +kernel
theorem dX7_init_73 : decode cX7_init 73 = .ok (.putfield 35, 3) := by decide +kernel
theorem dX7_init_76 : decode cX7_init 76 = .ok (.aload_n 0, 1) := by decide +kernel
theorem dX7_init_77 : decode cX7_init 77 = .ok (.sipush 160, 3) := by decide +kernel
theorem dX7_init_80 : decode cX7_init 80 = .ok (.newarray .int, 2) := by decide +kernel
theorem dX7_init_82 : decode cX7_init 82 = .ok (.putfield 38, 3) := by decide +kernel
theorem dX7_init_85 : decode cX7_init 85 = .ok (.aload_n 0, 1) := by decide +kernel
theorem dX7_init_86 : decode cX7_init 86 = .ok (.bipush 8, 2) := by decide +kernel
theorem dX7_init_88 : decode cX7_init 88 = .ok (.newarray .int, 2) := by decide +kernel
theorem dX7_init_90 : decode cX7_init 90 = .ok (.putfield 41, 3) := by decide +kernel
theorem dX7_init_93 : decode cX7_init 93 = .ok (.aload_n 0, 1) := by decide +kernel
theorem dX7_init_94 : decode cX7_init 94 = .ok (.sipush 2816, 3) := by decide +kernel
theorem dX7_init_97 : decode cX7_init 97 = .ok (.newarray .boolean, 2) := by decide +kernel
theorem dX7_init_99 : decode cX7_init 99 = .ok (.putfield 44, 3) := by decide +kernel
theorem dX7_init_102 : decode cX7_init 102 = .ok (.aload_n 0, 1) := by decide +kernel
theorem dX7_init_103 : decode cX7_init 103 = .ok (.iconst 4, 1) := by decide +kernel
theorem dX7_init_104 : decode cX7_init 104 = .ok (.newarray .int, 2) := by decide +kernel
theorem dX7_init_106 : decode cX7_init 106 = .ok (.putfield 47, 3) := by decide +kernel
theorem dX7_init_109 : decode cX7_init 109 = .ok (.aload_n 0, 1) := by decide +kernel
theorem dX7_init_110 : decode cX7_init 110 = .ok (.iconst 4, 1) := by decide +kernel
theorem dX7_init_111 : decode cX7_init 111 = .ok (.newarray .int, 2) := by decide +kernel
theorem dX7_init_113 : decode cX7_init 113 = .ok (.putfield 50, 3) := by decide +kernel
theorem dX7_init_116 : decode cX7_init 116 = .ok (.aload_n 0, 1) := by decide +kernel
theorem dX7_init_117 : decode cX7_init 117 = .ok (.sipush 160, 3) := by decide +kernel
theorem dX7_init_120 : decode cX7_init 120 = .ok (.newarray .int, 2) := by decide +kernel
theorem dX7_init_122 : decode cX7_init 122 = .ok (.putfield 53, 3) := by decide +kernel
theorem dX7_init_125 : decode cX7_init 125 = .ok (.iconst 0, 1) := by decide +kernel
theorem dX7_init_126 : decode cX7_init 126 = .ok (.istore_n 1, 1) := by decide +kernel
theorem dX7_init_127 : decode cX7_init 127 = .ok (.iload_n 1, 1) := by decide +kernel
theorem dX7_init_128 : decode cX7_init 128 = .ok (.iconst 4, 1) := by decide +kernel
theorem dX7_init_129 : decode cX7_init 129 = .ok (.if_icmp .ge 17, 3) := by decide +kernel
theorem dX7_init_132 : decode cX7_init 132 = .ok (.aload_n 0, 1) := by decide +kernel
theorem dX7_init_133 : decode cX7_init 133 = .ok (.getfield 47, 3) := by decide +kernel
theorem dX7_init_136 : decode cX7_init 136 = .ok (.iload_n 1, 1) := by decide +kernel
theorem dX7_init_137 : decode cX7_init 137 = .ok (.bipush (-4), 2) := by decide +kernel
theorem dX7_init_139 : decode cX7_init 139 = .ok (.iastore, 1) := by decide +kernel
theorem dX7_init_140 : decode cX7_init 140 = .ok (.iinc 1 1, 3) := by decide +kernel
theorem dX7_init_143 : decode cX7_init 143 = .ok (.goto (-16), 3) := by decide +kernel
theorem dX7_init_146 : decode cX7_init 146 = .ok (.aload_n 0, 1) := by decide +kernel
theorem dX7_init_147 : decode cX7_init 147 = .ok (.invokevirtual 56, 3) := by decide +kernel
theorem dX7_init_150 : decode cX7_init 150 = .ok (.aload_n 0, 1) := by decide +kernel
theorem dX7_init_151 : decode cX7_init 151 = .ok (.invokevirtual 59, 3) := by decide +kernel
theorem dX7_init_154 : decode cX7_init 154 = .ok (.return_, 1) := by decide +kernel
theorem dX7_in_0 : decode cX7_in 0 = .ok (.lload_n 0, 1) := by decide +kernel
theorem dX7_in_1 : decode cX7_in 1 = .ok (.lload_n 2, 1) := by decide +kernel
theorem dX7_in_2 : decode cX7_in 2 = .ok (.lcmp, 1) := by decide +kernel
theorem dX7_in_3 : decode cX7_in 3 = .ok (.ifCond .lt 14, 3) := by decide +kernel
theorem dX7_in_6 : decode cX7_in 6 = .ok (.lload_n 0, 1) := by decide +kernel
theorem dX7_in_7 : decode cX7_in 7 = .ok (.lload 4, 2) := by decide +kernel
theorem dX7_in_9 : decode cX7_in 9 = .ok (.lcmp, 1) := by decide +kernel
theorem dX7_in_10 : decode cX7_in 10 = .ok (.ifCond .gt 7, 3) := by decide +kernel
theorem dX7_in_13 : decode cX7_in 13 = .ok (.iconst 1, 1) := by decide +kernel
theorem dX7_in_14 : decode cX7_in 14 = .ok (.goto 4, 3) := by decide +kernel
theorem dX7_in_17 : decode cX7_in 17 = .ok (.iconst 0, 1) := by decide +kernel
theorem dX7_in_18 : decode cX7_in 18 = .ok (.ireturn, 1) := by decide +kernel
theorem dX7_flag_0 : decode cX7_flag 0 = .ok (.iload_n 0, 1) := by decide +kernel
theorem dX7_flag_1 : decode cX7_flag 1 = .ok (.ifCond .eq 7, 3) := by decide +kernel
theorem dX7_flag_4 : decode cX7_flag 4 = .ok (.iconst 1, 1) := by decide +kernel
theorem dX7_flag_5 : decode cX7_flag 5 = .ok (.goto 4, 3) := by decide +kernel
theorem dX7_flag_8 : decode cX7_flag 8 = .ok (.iconst 0, 1) := by decide +kernel
theorem dX7_flag_9 : decode cX7_flag 9 = .ok (.ireturn, 1) := by decide +kernel
theorem dX7_firstDraft_0 : decode cX7_firstDraft 0 = .ok (.iconst 0, 1) := by decide +kernel
theorem dX7_firstDraft_1 : decode cX7_firstDraft 1 = .ok (.istore_n 1, 1) := by decide +kernel
theorem dX7_firstDraft_2 : decode cX7_firstDraft 2 = .ok (.iload_n 1, 1) := by decide +kernel
theorem dX7_firstDraft_3 : decode cX7_firstDraft 3 = .ok (.bipush 47, 2) := by decide +kernel
theorem dX7_firstDraft_5 : decode cX7_firstDraft 5 = .ok (.if_icmp .ge 16, 3) := by decide +kernel
theorem dX7_firstDraft_8 : decode cX7_firstDraft 8 = .ok (.aload_n 0, 1) := by decide +kernel
theorem dX7_firstDraft_9 : decode cX7_firstDraft 9 = .ok (.getfield 26, 3) := by decide +kernel
theorem dX7_firstDraft_12 : decode cX7_firstDraft 12 = .ok (.iload_n 1, 1) := by decide +kernel
theorem dX7_firstDraft_13 : decode cX7_firstDraft 13 = .ok (.iconst 0, 1) := by decide +kernel
theorem dX7_firstDraft_14 : decode cX7_firstDraft 14 = .ok (.iastore, 1) := by decide +kernel
theorem dX7_firstDraft_15 : decode cX7_firstDraft 15 = .ok (.iinc 1 1, 3) := by decide +kernel
theorem dX7_firstDraft_18 : decode cX7_firstDraft 18 = .ok (.goto (-16), 3) := by decide +kernel
theorem dX7_firstDraft_21 : decode cX7_firstDraft 21 = .ok (.aload_n 0, 1) := by decide +kernel
theorem dX7_firstDraft_22 : decode cX7_firstDraft 22 = .ok (.getfield 26, 3) := by decide +kernel
theorem dX7_firstDraft_25 : decode cX7_firstDraft 25 = .ok (.bipush 25, 2) := by decide +kernel
theorem dX7_firstDraft_27 : decode cX7_firstDraft 27 = .ok (.bipush (-4), 2) := by decide +kernel
theorem dX7_firstDraft_29 : decode cX7_firstDraft 29 = .ok (.iastore, 1) := by decide +kernel
theorem dX7_firstDraft_30 : decode cX7_firstDraft 30 = .ok (.aload_n 0, 1) := by decide +kernel
theorem dX7_firstDraft_31 : decode cX7_firstDraft 31 = .ok (.iconst 0, 1) := by decide +kernel
theorem dX7_firstDraft_32 : decode cX7_firstDraft 32 = .ok (.putfield 62, 3) := by decide +kernel
theorem dX7_firstDraft_35 : decode cX7_firstDraft 35 = .ok (.aload_n 0, 1) := by decide +kernel
theorem dX7_firstDraft_36 : decode cX7_firstDraft 36 = .ok (.iconst 0, 1) := by decide +kernel
theorem dX7_firstDraft_37 : decode cX7_firstDraft 37 = .ok (.putfield 66, 3) := by decide +kernel
theorem dX7_firstDraft_40 : decode cX7_firstDraft 40 = .ok (.aload_n 0, 1) := by decide +kernel
theorem dX7_firstDraft_41 : decode cX7_firstDraft 41 = .ok (.bipush (-4), 2) := by decide +kernel
theorem dX7_firstDraft_43 : decode cX7_firstDraft 43 = .ok (.putfield 69, 3) := by decide +kernel
theorem dX7_firstDraft_46 : decode cX7_firstDraft 46 = .ok (.return_, 1) := by decide +kernel
theorem dX7_keepDraft_0 : decode cX7_keepDraft 0 = .ok (.iconst 0, 1) := by decide +kernel
theorem dX7_keepDraft_1 : decode cX7_keepDraft 1 = .ok (.istore_n 1, 1) := by decide +kernel
theorem dX7_keepDraft_2 : decode cX7_keepDraft 2 = .ok (.iload_n 1, 1) := by decide +kernel
theorem dX7_keepDraft_3 : decode cX7_keepDraft 3 = .ok (.bipush 47, 2) := by decide +kernel
theorem dX7_keepDraft_5 : decode cX7_keepDraft 5 = .ok (.if_icmp .ge 21, 3) := by decide +kernel
theorem dX7_keepDraft_8 : decode cX7_keepDraft 8 = .ok (.aload_n 0, 1) := by decide +kernel
theorem dX7_keepDraft_9 : decode cX7_keepDraft 9 = .ok (.getfield 7, 3) := by decide +kernel
theorem dX7_keepDraft_12 : decode cX7_keepDraft 12 = .ok (.iload_n 1, 1) := by decide +kernel
theorem dX7_keepDraft_13 : decode cX7_keepDraft 13 = .ok (.aload_n 0, 1) := by decide +kernel
theorem dX7_keepDraft_14 : decode cX7_keepDraft 14 = .ok (.getfield 26, 3) := by decide +kernel
theorem dX7_keepDraft_17 : decode cX7_keepDraft 17 = .ok (.iload_n 1, 1) := by decide +kernel
theorem dX7_keepDraft_18 : decode cX7_keepDraft 18 = .ok (.iaload, 1) := by decide +kernel
theorem dX7_keepDraft_19 : decode cX7_keepDraft 19 = .ok (.iastore, 1) := by decide +kernel
theorem dX7_keepDraft_20 : decode cX7_keepDraft 20 = .ok (.iinc 1 1, 3) := by decide +kernel
theorem dX7_keepDraft_23 : decode cX7_keepDraft 23 = .ok (.goto (-21), 3) := by decide +kernel
theorem dX7_keepDraft_26 : decode cX7_keepDraft 26 = .ok (.aload_n 0, 1) := by decide +kernel
theorem dX7_keepDraft_27 : decode cX7_keepDraft 27 = .ok (.aload_n 0, 1) := by decide +kernel
theorem dX7_keepDraft_28 : decode cX7_keepDraft 28 = .ok (.getfield 62, 3) := by decide +kernel
theorem dX7_keepDraft_31 : decode cX7_keepDraft 31 = .ok (.putfield 72, 3) := by decide +kernel
theorem dX7_keepDraft_34 : decode cX7_keepDraft 34 = .ok (.iconst 0, 1) := by decide +kernel
theorem dX7_keepDraft_35 : decode cX7_keepDraft 35 = .ok (.istore_n 1, 1) := by decide +kernel
theorem dX7_keepDraft_36 : decode cX7_keepDraft 36 = .ok (.iload_n 1, 1) := by decide +kernel
theorem dX7_keepDraft_37 : decode cX7_keepDraft 37 = .ok (.aload_n 0, 1) := by decide +kernel
theorem dX7_keepDraft_38 : decode cX7_keepDraft 38 = .ok (.getfield 72, 3) := by decide +kernel
theorem dX7_keepDraft_41 : decode cX7_keepDraft 41 = .ok (.if_icmp .ge 45, 3) := by decide +kernel
theorem dX7_keepDraft_44 : decode cX7_keepDraft 44 = .ok (.aload_n 0, 1) := by decide +kernel
theorem dX7_keepDraft_45 : decode cX7_keepDraft 45 = .ok (.getfield 17, 3) := by decide +kernel
theorem dX7_keepDraft_48 : decode cX7_keepDraft 48 = .ok (.iload_n 1, 1) := by decide +kernel
theorem dX7_keepDraft_49 : decode cX7_keepDraft 49 = .ok (.aload_n 0, 1) := by decide +kernel
theorem dX7_keepDraft_50 : decode cX7_keepDraft 50 = .ok (.getfield 29, 3) := by decide +kernel
theorem dX7_keepDraft_53 : decode cX7_keepDraft 53 = .ok (.iload_n 1, 1) := by decide +kernel
theorem dX7_keepDraft_54 : decode cX7_keepDraft 54 = .ok (.iaload, 1) := by decide +kernel
theorem dX7_keepDraft_55 : decode cX7_keepDraft 55 = .ok (.iastore, 1) := by decide +kernel
theorem dX7_keepDraft_56 : decode cX7_keepDraft 56 = .ok (.aload_n 0, 1) := by decide +kernel
theorem dX7_keepDraft_57 : decode cX7_keepDraft 57 = .ok (.getfield 20, 3) := by decide +kernel
theorem dX7_keepDraft_60 : decode cX7_keepDraft 60 = .ok (.iload_n 1, 1) := by decide +kernel
theorem dX7_keepDraft_61 : decode cX7_keepDraft 61 = .ok (.aload_n 0, 1) := by decide +kernel
theorem dX7_keepDraft_62 : decode cX7_keepDraft 62 = .ok (.getfield 32, 3) := by decide +kernel
theorem dX7_keepDraft_65 : decode cX7_keepDraft 65 = .ok (.iload_n 1, 1) := by decide +kernel
theorem dX7_keepDraft_66 : decode cX7_keepDraft 66 = .ok (.iaload, 1) := by decide +kernel
theorem dX7_keepDraft_67 : decode cX7_keepDraft 67 = .ok (.iastore, 1) := by decide +kernel
theorem dX7_keepDraft_68 : decode cX7_keepDraft 68 = .ok (.aload_n 0, 1) := by decide +kernel
theorem dX7_keepDraft_69 : decode cX7_keepDraft 69 = .ok (.getfield 23, 3) := by decide +kernel
theorem dX7_keepDraft_72 : decode cX7_keepDraft 72 = .ok (.iload_n 1, 1) := by decide +kernel
theorem dX7_keepDraft_73 : decode cX7_keepDraft 73 = .ok (.aload_n 0, 1) := by decide +kernel
theorem dX7_keepDraft_74 : decode cX7_keepDraft 74 = .ok (.getfield 35, 3) := by decide +kernel
theorem dX7_keepDraft_77 : decode cX7_keepDraft 77 = .ok (.iload_n 1, 1) := by decide +kernel
theorem dX7_keepDraft_78 : decode cX7_keepDraft 78 = .ok (.iaload, 1) := by decide +kernel
theorem dX7_keepDraft_79 : decode cX7_keepDraft 79 = .ok (.iastore, 1) := by decide +kernel
theorem dX7_keepDraft_80 : decode cX7_keepDraft 80 = .ok (.iinc 1 1, 3) := by decide +kernel
theorem dX7_keepDraft_83 : decode cX7_keepDraft 83 = .ok (.goto (-47), 3) := by decide +kernel
theorem dX7_keepDraft_86 : decode cX7_keepDraft 86 = .ok (.aload_n 0, 1) := by decide +kernel
theorem dX7_keepDraft_87 : decode cX7_keepDraft 87 = .ok (.getfield 7, 3) := by decide +kernel
theorem dX7_keepDraft_90 : decode cX7_keepDraft 90 = .ok (.bipush 25, 2) := by decide +kernel
theorem dX7_keepDraft_92 : decode cX7_keepDraft 92 = .ok (.aload_n 0, 1) := by decide +kernel
theorem dX7_keepDraft_93 : decode cX7_keepDraft 93 = .ok (.getfield 7, 3) := by decide +kernel
theorem dX7_keepDraft_96 : decode cX7_keepDraft 96 = .ok (.bipush 25, 2) := by decide +kernel
theorem dX7_keepDraft_98 : decode cX7_keepDraft 98 = .ok (.iaload, 1) := by decide +kernel
theorem dX7_keepDraft_99 : decode cX7_keepDraft 99 = .ok (.bipush (-4), 2) := by decide +kernel
theorem dX7_keepDraft_101 : decode cX7_keepDraft 101 = .ok (.if_icmp .ne 19, 3) := by decide +kernel
theorem dX7_keepDraft_104 : decode cX7_keepDraft 104 = .ok (.aload_n 0, 1) := by decide +kernel
theorem dX7_keepDraft_105 : decode cX7_keepDraft 105 = .ok (.getfield 72, 3) := by decide +kernel
theorem dX7_keepDraft_108 : decode cX7_keepDraft 108 = .ok (.ifCond .le 12, 3) := by decide +kernel
theorem dX7_keepDraft_111 : decode cX7_keepDraft 111 = .ok (.aload_n 0, 1) := by decide +kernel
theorem dX7_keepDraft_112 : decode cX7_keepDraft 112 = .ok (.getfield 72, 3) := by decide +kernel
theorem dX7_keepDraft_115 : decode cX7_keepDraft 115 = .ok (.iconst 1, 1) := by decide +kernel
theorem dX7_keepDraft_116 : decode cX7_keepDraft 116 = .ok (.isub, 1) := by decide +kernel
theorem dX7_keepDraft_117 : decode cX7_keepDraft 117 = .ok (.goto 10, 3) := by decide +kernel
theorem dX7_keepDraft_120 : decode cX7_keepDraft 120 = .ok (.aload_n 0, 1) := by decide +kernel
theorem dX7_keepDraft_121 : decode cX7_keepDraft 121 = .ok (.getfield 7, 3) := by decide +kernel
theorem dX7_keepDraft_124 : decode cX7_keepDraft 124 = .ok (.bipush 25, 2) := by decide +kernel
theorem dX7_keepDraft_126 : decode cX7_keepDraft 126 = .ok (.iaload, 1) := by decide +kernel
theorem dX7_keepDraft_127 : decode cX7_keepDraft 127 = .ok (.iastore, 1) := by decide +kernel
theorem dX7_keepDraft_128 : decode cX7_keepDraft 128 = .ok (.aload_n 0, 1) := by decide +kernel
theorem dX7_keepDraft_129 : decode cX7_keepDraft 129 = .ok (.getfield 13, 3) := by decide +kernel
theorem dX7_keepDraft_132 : decode cX7_keepDraft 132 = .ok (.iconst 0, 1) := by decide +kernel
theorem dX7_keepDraft_133 : decode cX7_keepDraft 133 = .ok (.iconst 0, 1) := by decide +kernel
theorem dX7_keepDraft_134 : decode cX7_keepDraft 134 = .ok (.bastore, 1) := by decide +kernel
theorem dX7_keepDraft_135 : decode cX7_keepDraft 135 = .ok (.aload_n 0, 1) := by decide +kernel
theorem dX7_keepDraft_136 : decode cX7_keepDraft 136 = .ok (.getfield 13, 3) := by decide +kernel
theorem dX7_keepDraft_139 : decode cX7_keepDraft 139 = .ok (.iconst 1, 1) := by decide +kernel
theorem dX7_keepDraft_140 : decode cX7_keepDraft 140 = .ok (.iconst 0, 1) := by decide +kernel
theorem dX7_keepDraft_141 : decode cX7_keepDraft 141 = .ok (.bastore, 1) := by decide +kernel
theorem dX7_keepDraft_142 : decode cX7_keepDraft 142 = .ok (.return_, 1) := by decide +kernel
theorem dX7_feed_0 : decode cX7_feed 0 = .ok (.iload_n 1, 1) := by decide +kernel
theorem dX7_feed_1 : decode cX7_feed 1 = .ok (.i2l, 1) := by decide +kernel
theorem dX7_feed_2 : decode cX7_feed 2 = .ok (.lconst 0, 1) := by decide +kernel
theorem dX7_feed_3 : decode cX7_feed 3 = .ok (.ldc2_w 75, 3) := by decide +kernel
theorem dX7_feed_6 : decode cX7_feed 6 = .ok (.invokestatic 77, 3) := by decide +kernel
theorem dX7_feed_9 : decode cX7_feed 9 = .ok (.ifCond .ne 5, 3) := by decide +kernel
theorem dX7_feed_12 : decode cX7_feed 12 = .ok (.iconst (-1), 1) := by decide +kernel
theorem dX7_feed_13 : decode cX7_feed 13 = .ok (.ireturn, 1) := by decide +kernel
theorem dX7_feed_14 : decode cX7_feed 14 = .ok (.aload_n 0, 1) := by decide +kernel
theorem dX7_feed_15 : decode cX7_feed 15 = .ok (.getfield 81, 3) := by decide +kernel
theorem dX7_feed_18 : decode cX7_feed 18 = .ok (.sipush 160, 3) := by decide +kernel
theorem dX7_feed_21 : decode cX7_feed 21 = .ok (.if_icmp .ne 6, 3) := by decide +kernel
theorem dX7_feed_24 : decode cX7_feed 24 = .ok (.bipush (-3), 2) := by decide +kernel
theorem dX7_feed_26 : decode cX7_feed 26 = .ok (.ireturn, 1) := by decide +kernel
theorem dX7_feed_27 : decode cX7_feed 27 = .ok (.aload_n 0, 1) := by decide +kernel
theorem dX7_feed_28 : decode cX7_feed 28 = .ok (.getfield 38, 3) := by decide +kernel
theorem dX7_feed_31 : decode cX7_feed 31 = .ok (.aload_n 0, 1) := by decide +kernel
theorem dX7_feed_32 : decode cX7_feed 32 = .ok (.getfield 81, 3) := by decide +kernel
theorem dX7_feed_35 : decode cX7_feed 35 = .ok (.iload_n 1, 1) := by decide +kernel
theorem dX7_feed_36 : decode cX7_feed 36 = .ok (.iastore, 1) := by decide +kernel
theorem dX7_feed_37 : decode cX7_feed 37 = .ok (.aload_n 0, 1) := by decide +kernel
theorem dX7_feed_38 : decode cX7_feed 38 = .ok (.dup, 1) := by decide +kernel
theorem dX7_feed_39 : decode cX7_feed 39 = .ok (.getfield 81, 3) := by decide +kernel
theorem dX7_feed_42 : decode cX7_feed 42 = .ok (.iconst 1, 1) := by decide +kernel
theorem dX7_feed_43 : decode cX7_feed 43 = .ok (.iadd, 1) := by decide +kernel
theorem dX7_feed_44 : decode cX7_feed 44 = .ok (.putfield 81, 3) := by decide +kernel
theorem dX7_feed_47 : decode cX7_feed 47 = .ok (.aload_n 0, 1) := by decide +kernel
theorem dX7_feed_48 : decode cX7_feed 48 = .ok (.getfield 81, 3) := by decide +kernel
theorem dX7_feed_51 : decode cX7_feed 51 = .ok (.ireturn, 1) := by decide +kernel
theorem dX7_end_0 : decode cX7_end 0 = .ok (.iload_n 1, 1) := by decide +kernel
theorem dX7_end_1 : decode cX7_end 1 = .ok (.i2l, 1) := by decide +kernel
theorem dX7_end_2 : decode cX7_end 2 = .ok (.lconst 0, 1) := by decide +kernel
theorem dX7_end_3 : decode cX7_end 3 = .ok (.aload_n 0, 1) := by decide +kernel
theorem dX7_end_4 : decode cX7_end 4 = .ok (.getfield 81, 3) := by decide +kernel
theorem dX7_end_7 : decode cX7_end 7 = .ok (.i2l, 1) := by decide +kernel
theorem dX7_end_8 : decode cX7_end 8 = .ok (.invokestatic 77, 3) := by decide +kernel
theorem dX7_end_11 : decode cX7_end 11 = .ok (.ifCond .ne 5, 3) := by decide +kernel
theorem dX7_end_14 : decode cX7_end 14 = .ok (.iconst (-1), 1) := by decide +kernel
theorem dX7_end_15 : decode cX7_end 15 = .ok (.ireturn, 1) := by decide +kernel
theorem dX7_end_16 : decode cX7_end 16 = .ok (.aload_n 0, 1) := by decide +kernel
theorem dX7_end_17 : decode cX7_end 17 = .ok (.getfield 81, 3) := by decide +kernel
theorem dX7_end_20 : decode cX7_end 20 = .ok (.istore_n 2, 1) := by decide +kernel
theorem dX7_end_21 : decode cX7_end 21 = .ok (.aload_n 0, 1) := by decide +kernel
theorem dX7_end_22 : decode cX7_end 22 = .ok (.iload_n 1, 1) := by decide +kernel
theorem dX7_end_23 : decode cX7_end 23 = .ok (.putfield 81, 3) := by decide +kernel
theorem dX7_end_26 : decode cX7_end 26 = .ok (.iload_n 2, 1) := by decide +kernel
theorem dX7_end_27 : decode cX7_end 27 = .ok (.ireturn, 1) := by decide +kernel
theorem dX7_needs_0 : decode cX7_needs 0 = .ok (.iload_n 1, 1) := by decide +kernel
theorem dX7_needs_1 : decode cX7_needs 1 = .ok (.ifCond .ne 23, 3) := by decide +kernel
theorem dX7_needs_4 : decode cX7_needs 4 = .ok (.aload_n 0, 1) := by decide +kernel
theorem dX7_needs_5 : decode cX7_needs 5 = .ok (.getfield 84, 3) := by decide +kernel
theorem dX7_needs_8 : decode cX7_needs 8 = .ok (.ifCond .ne 16, 3) := by decide +kernel
theorem dX7_needs_11 : decode cX7_needs 11 = .ok (.aload_n 0, 1) := by decide +kernel
theorem dX7_needs_12 : decode cX7_needs 12 = .ok (.iload_n 2, 1) := by decide +kernel
theorem dX7_needs_13 : decode cX7_needs 13 = .ok (.putfield 84, 3) := by decide +kernel
theorem dX7_needs_16 : decode cX7_needs 16 = .ok (.aload_n 0, 1) := by decide +kernel
theorem dX7_needs_17 : decode cX7_needs 17 = .ok (.aload_n 0, 1) := by decide +kernel
theorem dX7_needs_18 : decode cX7_needs 18 = .ok (.getfield 87, 3) := by decide +kernel
theorem dX7_needs_21 : decode cX7_needs 21 = .ok (.putfield 90, 3) := by decide +kernel
theorem dX7_needs_24 : decode cX7_needs 24 = .ok (.return_, 1) := by decide +kernel
theorem dX7_byteAt_0 : decode cX7_byteAt 0 = .ok (.iload_n 1, 1) := by decide +kernel
theorem dX7_byteAt_1 : decode cX7_byteAt 1 = .ok (.aload_n 0, 1) := by decide +kernel
theorem dX7_byteAt_2 : decode cX7_byteAt 2 = .ok (.getfield 81, 3) := by decide +kernel
theorem dX7_byteAt_5 : decode cX7_byteAt 5 = .ok (.if_icmp .ge 12, 3) := by decide +kernel
theorem dX7_byteAt_8 : decode cX7_byteAt 8 = .ok (.aload_n 0, 1) := by decide +kernel
theorem dX7_byteAt_9 : decode cX7_byteAt 9 = .ok (.getfield 38, 3) := by decide +kernel
theorem dX7_byteAt_12 : decode cX7_byteAt 12 = .ok (.iload_n 1, 1) := by decide +kernel
theorem dX7_byteAt_13 : decode cX7_byteAt 13 = .ok (.iaload, 1) := by decide +kernel
theorem dX7_byteAt_14 : decode cX7_byteAt 14 = .ok (.goto 4, 3) := by decide +kernel
theorem dX7_byteAt_17 : decode cX7_byteAt 17 = .ok (.iconst (-1), 1) := by decide +kernel
theorem dX7_byteAt_18 : decode cX7_byteAt 18 = .ok (.ireturn, 1) := by decide +kernel
theorem dX7_is_0 : decode cX7_is 0 = .ok (.aload_n 0, 1) := by decide +kernel
theorem dX7_is_1 : decode cX7_is 1 = .ok (.getfield 93, 3) := by decide +kernel
theorem dX7_is_4 : decode cX7_is 4 = .ok (.aload_n 0, 1) := by decide +kernel
theorem dX7_is_5 : decode cX7_is 5 = .ok (.getfield 87, 3) := by decide +kernel
theorem dX7_is_8 : decode cX7_is 8 = .ok (.isub, 1) := by decide +kernel
theorem dX7_is_9 : decode cX7_is 9 = .ok (.iload_n 1, 1) := by decide +kernel
theorem dX7_is_10 : decode cX7_is 10 = .ok (.if_icmp .ne 48, 3) := by decide +kernel
theorem dX7_is_13 : decode cX7_is 13 = .ok (.aload_n 0, 1) := by decide +kernel
theorem dX7_is_14 : decode cX7_is 14 = .ok (.aload_n 0, 1) := by decide +kernel
theorem dX7_is_15 : decode cX7_is 15 = .ok (.getfield 87, 3) := by decide +kernel
theorem dX7_is_18 : decode cX7_is 18 = .ok (.invokevirtual 96, 3) := by decide +kernel
theorem dX7_is_21 : decode cX7_is 21 = .ok (.iload_n 2, 1) := by decide +kernel
theorem dX7_is_22 : decode cX7_is 22 = .ok (.if_icmp .ne 36, 3) := by decide +kernel
theorem dX7_is_25 : decode cX7_is 25 = .ok (.aload_n 0, 1) := by decide +kernel
theorem dX7_is_26 : decode cX7_is 26 = .ok (.aload_n 0, 1) := by decide +kernel
theorem dX7_is_27 : decode cX7_is 27 = .ok (.getfield 87, 3) := by decide +kernel
theorem dX7_is_30 : decode cX7_is 30 = .ok (.iconst 1, 1) := by decide +kernel
theorem dX7_is_31 : decode cX7_is 31 = .ok (.iadd, 1) := by decide +kernel
theorem dX7_is_32 : decode cX7_is 32 = .ok (.invokevirtual 96, 3) := by decide +kernel
theorem dX7_is_35 : decode cX7_is 35 = .ok (.iload_n 3, 1) := by decide +kernel
theorem dX7_is_36 : decode cX7_is 36 = .ok (.if_icmp .ne 22, 3) := by decide +kernel
theorem dX7_is_39 : decode cX7_is 39 = .ok (.aload_n 0, 1) := by decide +kernel
theorem dX7_is_40 : decode cX7_is 40 = .ok (.aload_n 0, 1) := by decide +kernel
theorem dX7_is_41 : decode cX7_is 41 = .ok (.getfield 87, 3) := by decide +kernel
theorem dX7_is_44 : decode cX7_is 44 = .ok (.iconst 2, 1) := by decide +kernel
theorem dX7_is_45 : decode cX7_is 45 = .ok (.iadd, 1) := by decide +kernel
theorem dX7_is_46 : decode cX7_is 46 = .ok (.invokevirtual 96, 3) := by decide +kernel
theorem dX7_is_49 : decode cX7_is 49 = .ok (.iload 4, 2) := by decide +kernel
theorem dX7_is_51 : decode cX7_is 51 = .ok (.if_icmp .ne 7, 3) := by decide +kernel
theorem dX7_is_54 : decode cX7_is 54 = .ok (.iconst 1, 1) := by decide +kernel
theorem dX7_is_55 : decode cX7_is 55 = .ok (.goto 4, 3) := by decide +kernel
theorem dX7_is_58 : decode cX7_is 58 = .ok (.iconst 0, 1) := by decide +kernel
theorem dX7_is_59 : decode cX7_is 59 = .ok (.ireturn, 1) := by decide +kernel
theorem dX7_ends_0 : decode cX7_ends 0 = .ok (.aload_n 0, 1) := by decide +kernel
theorem dX7_ends_1 : decode cX7_ends 1 = .ok (.aload_n 0, 1) := by decide +kernel
theorem dX7_ends_2 : decode cX7_ends 2 = .ok (.getfield 87, 3) := by decide +kernel
theorem dX7_ends_5 : decode cX7_ends 5 = .ok (.iconst 3, 1) := by decide +kernel
theorem dX7_ends_6 : decode cX7_ends 6 = .ok (.iadd, 1) := by decide +kernel
theorem dX7_ends_7 : decode cX7_ends 7 = .ok (.invokevirtual 96, 3) := by decide +kernel
theorem dX7_ends_10 : decode cX7_ends 10 = .ok (.iload_n 1, 1) := by decide +kernel
theorem dX7_ends_11 : decode cX7_ends 11 = .ok (.if_icmp .ne 43, 3) := by decide +kernel
theorem dX7_ends_14 : decode cX7_ends 14 = .ok (.iload_n 2, 1) := by decide +kernel
theorem dX7_ends_15 : decode cX7_ends 15 = .ok (.ifCond .eq 17, 3) := by decide +kernel
theorem dX7_ends_18 : decode cX7_ends 18 = .ok (.aload_n 0, 1) := by decide +kernel
theorem dX7_ends_19 : decode cX7_ends 19 = .ok (.aload_n 0, 1) := by decide +kernel
theorem dX7_ends_20 : decode cX7_ends 20 = .ok (.getfield 87, 3) := by decide +kernel
theorem dX7_ends_23 : decode cX7_ends 23 = .ok (.iconst 4, 1) := by decide +kernel
theorem dX7_ends_24 : decode cX7_ends 24 = .ok (.iadd, 1) := by decide +kernel
theorem dX7_ends_25 : decode cX7_ends 25 = .ok (.invokevirtual 96, 3) := by decide +kernel
theorem dX7_ends_28 : decode cX7_ends 28 = .ok (.iload_n 2, 1) := by decide +kernel
theorem dX7_ends_29 : decode cX7_ends 29 = .ok (.if_icmp .ne 25, 3) := by decide +kernel
theorem dX7_ends_32 : decode cX7_ends 32 = .ok (.iload_n 3, 1) := by decide +kernel
theorem dX7_ends_33 : decode cX7_ends 33 = .ok (.ifCond .eq 17, 3) := by decide +kernel
theorem dX7_ends_36 : decode cX7_ends 36 = .ok (.aload_n 0, 1) := by decide +kernel
theorem dX7_ends_37 : decode cX7_ends 37 = .ok (.aload_n 0, 1) := by decide +kernel
theorem dX7_ends_38 : decode cX7_ends 38 = .ok (.getfield 87, 3) := by decide +kernel
theorem dX7_ends_41 : decode cX7_ends 41 = .ok (.iconst 5, 1) := by decide +kernel
theorem dX7_ends_42 : decode cX7_ends 42 = .ok (.iadd, 1) := by decide +kernel
theorem dX7_ends_43 : decode cX7_ends 43 = .ok (.invokevirtual 96, 3) := by decide +kernel
theorem dX7_ends_46 : decode cX7_ends 46 = .ok (.iload_n 3, 1) := by decide +kernel
theorem dX7_ends_47 : decode cX7_ends 47 = .ok (.if_icmp .ne 7, 3) := by decide +kernel
theorem dX7_ends_50 : decode cX7_ends 50 = .ok (.iconst 1, 1) := by decide +kernel
theorem dX7_ends_51 : decode cX7_ends 51 = .ok (.goto 4, 3) := by decide +kernel
theorem dX7_ends_54 : decode cX7_ends 54 = .ok (.iconst 0, 1) := by decide +kernel
theorem dX7_ends_55 : decode cX7_ends 55 = .ok (.ireturn, 1) := by decide +kernel
theorem dX7_lineNow_0 : decode cX7_lineNow 0 = .ok (.aload_n 0, 1) := by decide +kernel
theorem dX7_lineNow_1 : decode cX7_lineNow 1 = .ok (.iconst 5, 1) := by decide +kernel
theorem dX7_lineNow_2 : decode cX7_lineNow 2 = .ok (.bipush 114, 2) := by decide +kernel
theorem dX7_lineNow_4 : decode cX7_lineNow 4 = .ok (.bipush 105, 2) := by decide +kernel
theorem dX7_lineNow_6 : decode cX7_lineNow 6 = .ok (.bipush 118, 2) := by decide +kernel
theorem dX7_lineNow_8 : decode cX7_lineNow 8 = .ok (.invokevirtual 100, 3) := by decide +kernel
theorem dX7_lineNow_11 : decode cX7_lineNow 11 = .ok (.ifCond .eq 17, 3) := by decide +kernel
theorem dX7_lineNow_14 : decode cX7_lineNow 14 = .ok (.aload_n 0, 1) := by decide +kernel
theorem dX7_lineNow_15 : decode cX7_lineNow 15 = .ok (.bipush 101, 2) := by decide +kernel
theorem dX7_lineNow_17 : decode cX7_lineNow 17 = .ok (.bipush 114, 2) := by decide +kernel
theorem dX7_lineNow_19 : decode cX7_lineNow 19 = .ok (.iconst 0, 1) := by decide +kernel
theorem dX7_lineNow_20 : decode cX7_lineNow 20 = .ok (.invokevirtual 104, 3) := by decide +kernel
theorem dX7_lineNow_23 : decode cX7_lineNow 23 = .ok (.ifCond .eq 5, 3) := by decide +kernel
theorem dX7_lineNow_26 : decode cX7_lineNow 26 = .ok (.iconst 0, 1) := by decide +kernel
theorem dX7_lineNow_27 : decode cX7_lineNow 27 = .ok (.ireturn, 1) := by decide +kernel
theorem dX7_lineNow_28 : decode cX7_lineNow 28 = .ok (.aload_n 0, 1) := by decide +kernel
theorem dX7_lineNow_29 : decode cX7_lineNow 29 = .ok (.bipush 6, 2) := by decide +kernel
theorem dX7_lineNow_31 : decode cX7_lineNow 31 = .ok (.bipush 98, 2) := by decide +kernel
theorem dX7_lineNow_33 : decode cX7_lineNow 33 = .ok (.bipush 114, 2) := by decide +kernel
theorem dX7_lineNow_35 : decode cX7_lineNow 35 = .ok (.bipush 105, 2) := by decide +kernel
theorem dX7_lineNow_37 : decode cX7_lineNow 37 = .ok (.invokevirtual 100, 3) := by decide +kernel
theorem dX7_lineNow_40 : decode cX7_lineNow 40 = .ok (.ifCond .eq 18, 3) := by decide +kernel
theorem dX7_lineNow_43 : decode cX7_lineNow 43 = .ok (.aload_n 0, 1) := by decide +kernel
theorem dX7_lineNow_44 : decode cX7_lineNow 44 = .ok (.bipush 100, 2) := by decide +kernel
theorem dX7_lineNow_46 : decode cX7_lineNow 46 = .ok (.bipush 103, 2) := by decide +kernel
theorem dX7_lineNow_48 : decode cX7_lineNow 48 = .ok (.bipush 101, 2) := by decide +kernel
theorem dX7_lineNow_50 : decode cX7_lineNow 50 = .ok (.invokevirtual 104, 3) := by decide +kernel
theorem dX7_lineNow_53 : decode cX7_lineNow 53 = .ok (.ifCond .eq 5, 3) := by decide +kernel
theorem dX7_lineNow_56 : decode cX7_lineNow 56 = .ok (.iconst 1, 1) := by decide +kernel
theorem dX7_lineNow_57 : decode cX7_lineNow 57 = .ok (.ireturn, 1) := by decide +kernel
theorem dX7_lineNow_58 : decode cX7_lineNow 58 = .ok (.aload_n 0, 1) := by decide +kernel
theorem dX7_lineNow_59 : decode cX7_lineNow 59 = .ok (.iconst 5, 1) := by decide +kernel
theorem dX7_lineNow_60 : decode cX7_lineNow 60 = .ok (.bipush 102, 2) := by decide +kernel
theorem dX7_lineNow_62 : decode cX7_lineNow 62 = .ok (.bipush 101, 2) := by decide +kernel
theorem dX7_lineNow_64 : decode cX7_lineNow 64 = .ok (.bipush 114, 2) := by decide +kernel
theorem dX7_lineNow_66 : decode cX7_lineNow 66 = .ok (.invokevirtual 100, 3) := by decide +kernel
theorem dX7_lineNow_69 : decode cX7_lineNow 69 = .ok (.ifCond .eq 17, 3) := by decide +kernel
theorem dX7_lineNow_72 : decode cX7_lineNow 72 = .ok (.aload_n 0, 1) := by decide +kernel
theorem dX7_lineNow_73 : decode cX7_lineNow 73 = .ok (.bipush 114, 2) := by decide +kernel
theorem dX7_lineNow_75 : decode cX7_lineNow 75 = .ok (.bipush 121, 2) := by decide +kernel
theorem dX7_lineNow_77 : decode cX7_lineNow 77 = .ok (.iconst 0, 1) := by decide +kernel
theorem dX7_lineNow_78 : decode cX7_lineNow 78 = .ok (.invokevirtual 104, 3) := by decide +kernel
theorem dX7_lineNow_81 : decode cX7_lineNow 81 = .ok (.ifCond .eq 5, 3) := by decide +kernel
theorem dX7_lineNow_84 : decode cX7_lineNow 84 = .ok (.iconst 2, 1) := by decide +kernel
theorem dX7_lineNow_85 : decode cX7_lineNow 85 = .ok (.ireturn, 1) := by decide +kernel
theorem dX7_lineNow_86 : decode cX7_lineNow 86 = .ok (.aload_n 0, 1) := by decide +kernel
theorem dX7_lineNow_87 : decode cX7_lineNow 87 = .ok (.iconst 3, 1) := by decide +kernel
theorem dX7_lineNow_88 : decode cX7_lineNow 88 = .ok (.bipush 101, 2) := by decide +kernel
theorem dX7_lineNow_90 : decode cX7_lineNow 90 = .ok (.bipush 110, 2) := by decide +kernel
theorem dX7_lineNow_92 : decode cX7_lineNow 92 = .ok (.bipush 100, 2) := by decide +kernel
theorem dX7_lineNow_94 : decode cX7_lineNow 94 = .ok (.invokevirtual 100, 3) := by decide +kernel
theorem dX7_lineNow_97 : decode cX7_lineNow 97 = .ok (.ifCond .eq 5, 3) := by decide +kernel
theorem dX7_lineNow_100 : decode cX7_lineNow 100 = .ok (.iconst 3, 1) := by decide +kernel
theorem dX7_lineNow_101 : decode cX7_lineNow 101 = .ok (.ireturn, 1) := by decide +kernel
theorem dX7_lineNow_102 : decode cX7_lineNow 102 = .ok (.aload_n 0, 1) := by decide +kernel
theorem dX7_lineNow_103 : decode cX7_lineNow 103 = .ok (.iconst 3, 1) := by decide +kernel
theorem dX7_lineNow_104 : decode cX7_lineNow 104 = .ok (.bipush 100, 2) := by decide +kernel
theorem dX7_lineNow_106 : decode cX7_lineNow 106 = .ok (.bipush 97, 2) := by decide +kernel
theorem dX7_lineNow_108 : decode cX7_lineNow 108 = .ok (.bipush 121, 2) := by decide +kernel
theorem dX7_lineNow_110 : decode cX7_lineNow 110 = .ok (.invokevirtual 100, 3) := by decide +kernel
theorem dX7_lineNow_113 : decode cX7_lineNow 113 = .ok (.ifCond .eq 5, 3) := by decide +kernel
theorem dX7_lineNow_116 : decode cX7_lineNow 116 = .ok (.iconst 4, 1) := by decide +kernel
theorem dX7_lineNow_117 : decode cX7_lineNow 117 = .ok (.ireturn, 1) := by decide +kernel
theorem dX7_lineNow_118 : decode cX7_lineNow 118 = .ok (.aload_n 0, 1) := by decide +kernel
theorem dX7_lineNow_119 : decode cX7_lineNow 119 = .ok (.iconst 4, 1) := by decide +kernel
theorem dX7_lineNow_120 : decode cX7_lineNow 120 = .ok (.bipush 112, 2) := by decide +kernel
theorem dX7_lineNow_122 : decode cX7_lineNow 122 = .ok (.bipush 108, 2) := by decide +kernel
theorem dX7_lineNow_124 : decode cX7_lineNow 124 = .ok (.bipush 97, 2) := by decide +kernel
theorem dX7_lineNow_126 : decode cX7_lineNow 126 = .ok (.invokevirtual 100, 3) := by decide +kernel
theorem dX7_lineNow_129 : decode cX7_lineNow 129 = .ok (.ifCond .eq 18, 3) := by decide +kernel
theorem dX7_lineNow_132 : decode cX7_lineNow 132 = .ok (.aload_n 0, 1) := by decide +kernel
theorem dX7_lineNow_133 : decode cX7_lineNow 133 = .ok (.bipush 110, 2) := by decide +kernel
theorem dX7_lineNow_135 : decode cX7_lineNow 135 = .ok (.iconst 0, 1) := by decide +kernel
theorem dX7_lineNow_136 : decode cX7_lineNow 136 = .ok (.iconst 0, 1) := by decide +kernel
theorem dX7_lineNow_137 : decode cX7_lineNow 137 = .ok (.invokevirtual 104, 3) := by decide +kernel
theorem dX7_lineNow_140 : decode cX7_lineNow 140 = .ok (.ifCond .eq 7, 3) := by decide +kernel
theorem dX7_lineNow_143 : decode cX7_lineNow 143 = .ok (.iconst 5, 1) := by decide +kernel
theorem dX7_lineNow_144 : decode cX7_lineNow 144 = .ok (.goto 35, 3) := by decide +kernel
theorem dX7_lineNow_147 : decode cX7_lineNow 147 = .ok (.aload_n 0, 1) := by decide +kernel
theorem dX7_lineNow_148 : decode cX7_lineNow 148 = .ok (.iconst 4, 1) := by decide +kernel
theorem dX7_lineNow_149 : decode cX7_lineNow 149 = .ok (.bipush 115, 2) := by decide +kernel
theorem dX7_lineNow_151 : decode cX7_lineNow 151 = .ok (.bipush 97, 2) := by decide +kernel
theorem dX7_lineNow_153 : decode cX7_lineNow 153 = .ok (.bipush 105, 2) := by decide +kernel
theorem dX7_lineNow_155 : decode cX7_lineNow 155 = .ok (.invokevirtual 100, 3) := by decide +kernel
theorem dX7_lineNow_158 : decode cX7_lineNow 158 = .ok (.ifCond .eq 19, 3) := by decide +kernel
theorem dX7_lineNow_161 : decode cX7_lineNow 161 = .ok (.aload_n 0, 1) := by decide +kernel
theorem dX7_lineNow_162 : decode cX7_lineNow 162 = .ok (.bipush 100, 2) := by decide +kernel
theorem dX7_lineNow_164 : decode cX7_lineNow 164 = .ok (.iconst 0, 1) := by decide +kernel
theorem dX7_lineNow_165 : decode cX7_lineNow 165 = .ok (.iconst 0, 1) := by decide +kernel
theorem dX7_lineNow_166 : decode cX7_lineNow 166 = .ok (.invokevirtual 104, 3) := by decide +kernel
theorem dX7_lineNow_169 : decode cX7_lineNow 169 = .ok (.ifCond .eq 8, 3) := by decide +kernel
theorem dX7_lineNow_172 : decode cX7_lineNow 172 = .ok (.bipush 6, 2) := by decide +kernel
theorem dX7_lineNow_174 : decode cX7_lineNow 174 = .ok (.goto 5, 3) := by decide +kernel
theorem dX7_lineNow_177 : decode cX7_lineNow 177 = .ok (.bipush (-4), 2) := by decide +kernel
theorem dX7_lineNow_179 : decode cX7_lineNow 179 = .ok (.ireturn, 1) := by decide +kernel
theorem dX7_next_0 : decode cX7_next 0 = .ok (.aload_n 0, 1) := by decide +kernel
theorem dX7_next_1 : decode cX7_next 1 = .ok (.getfield 84, 3) := by decide +kernel
theorem dX7_next_4 : decode cX7_next 4 = .ok (.ifCond .le 4, 3) := by decide +kernel
theorem dX7_next_7 : decode cX7_next 7 = .ok (.return_, 1) := by decide +kernel
theorem dX7_next_8 : decode cX7_next 8 = .ok (.aload_n 0, 1) := by decide +kernel
theorem dX7_next_9 : decode cX7_next 9 = .ok (.aload_n 0, 1) := by decide +kernel
theorem dX7_next_10 : decode cX7_next 10 = .ok (.getfield 93, 3) := by decide +kernel
theorem dX7_next_13 : decode cX7_next 13 = .ok (.invokevirtual 96, 3) := by decide +kernel
theorem dX7_next_16 : decode cX7_next 16 = .ok (.bipush 32, 2) := by decide +kernel
theorem dX7_next_18 : decode cX7_next 18 = .ok (.if_icmp .ne 16, 3) := by decide +kernel
theorem dX7_next_21 : decode cX7_next 21 = .ok (.aload_n 0, 1) := by decide +kernel
theorem dX7_next_22 : decode cX7_next 22 = .ok (.dup, 1) := by decide +kernel
theorem dX7_next_23 : decode cX7_next 23 = .ok (.getfield 93, 3) := by decide +kernel
theorem dX7_next_26 : decode cX7_next 26 = .ok (.iconst 1, 1) := by decide +kernel
theorem dX7_next_27 : decode cX7_next 27 = .ok (.iadd, 1) := by decide +kernel
theorem dX7_next_28 : decode cX7_next 28 = .ok (.putfield 93, 3) := by decide +kernel
theorem dX7_next_31 : decode cX7_next 31 = .ok (.goto (-23), 3) := by decide +kernel
theorem dX7_next_34 : decode cX7_next 34 = .ok (.aload_n 0, 1) := by decide +kernel
theorem dX7_next_35 : decode cX7_next 35 = .ok (.aload_n 0, 1) := by decide +kernel
theorem dX7_next_36 : decode cX7_next 36 = .ok (.getfield 93, 3) := by decide +kernel
theorem dX7_next_39 : decode cX7_next 39 = .ok (.putfield 87, 3) := by decide +kernel
theorem dX7_next_42 : decode cX7_next 42 = .ok (.aload_n 0, 1) := by decide +kernel
theorem dX7_next_43 : decode cX7_next 43 = .ok (.aload_n 0, 1) := by decide +kernel
theorem dX7_next_44 : decode cX7_next 44 = .ok (.getfield 93, 3) := by decide +kernel
theorem dX7_next_47 : decode cX7_next 47 = .ok (.invokevirtual 96, 3) := by decide +kernel
theorem dX7_next_50 : decode cX7_next 50 = .ok (.istore_n 1, 1) := by decide +kernel
theorem dX7_next_51 : decode cX7_next 51 = .ok (.iload_n 1, 1) := by decide +kernel
theorem dX7_next_52 : decode cX7_next 52 = .ok (.ifCond .ge 11, 3) := by decide +kernel
theorem dX7_next_55 : decode cX7_next 55 = .ok (.aload_n 0, 1) := by decide +kernel
theorem dX7_next_56 : decode cX7_next 56 = .ok (.iconst 0, 1) := by decide +kernel
theorem dX7_next_57 : decode cX7_next 57 = .ok (.putfield 108, 3) := by decide +kernel
theorem dX7_next_60 : decode cX7_next 60 = .ok (.goto 214, 3) := by decide +kernel
theorem dX7_next_63 : decode cX7_next 63 = .ok (.iload_n 1, 1) := by decide +kernel
theorem dX7_next_64 : decode cX7_next 64 = .ok (.i2l, 1) := by decide +kernel
theorem dX7_next_65 : decode cX7_next 65 = .ok (.ldc2_w 111, 3) := by decide +kernel
theorem dX7_next_68 : decode cX7_next 68 = .ok (.ldc2_w 113, 3) := by decide +kernel
theorem dX7_next_71 : decode cX7_next 71 = .ok (.invokestatic 77, 3) := by decide +kernel
theorem dX7_next_74 : decode cX7_next 74 = .ok (.ifCond .eq 42, 3) := by decide +kernel
theorem dX7_next_77 : decode cX7_next 77 = .ok (.aload_n 0, 1) := by decide +kernel
theorem dX7_next_78 : decode cX7_next 78 = .ok (.iconst 1, 1) := by decide +kernel
theorem dX7_next_79 : decode cX7_next 79 = .ok (.putfield 108, 3) := by decide +kernel
theorem dX7_next_82 : decode cX7_next 82 = .ok (.aload_n 0, 1) := by decide +kernel
theorem dX7_next_83 : decode cX7_next 83 = .ok (.aload_n 0, 1) := by decide +kernel
theorem dX7_next_84 : decode cX7_next 84 = .ok (.getfield 93, 3) := by decide +kernel
theorem dX7_next_87 : decode cX7_next 87 = .ok (.invokevirtual 96, 3) := by decide +kernel
theorem dX7_next_90 : decode cX7_next 90 = .ok (.i2l, 1) := by decide +kernel
theorem dX7_next_91 : decode cX7_next 91 = .ok (.ldc2_w 111, 3) := by decide +kernel
theorem dX7_next_94 : decode cX7_next 94 = .ok (.ldc2_w 113, 3) := by decide +kernel
theorem dX7_next_97 : decode cX7_next 97 = .ok (.invokestatic 77, 3) := by decide +kernel
theorem dX7_next_100 : decode cX7_next 100 = .ok (.ifCond .eq 174, 3) := by decide +kernel
theorem dX7_next_103 : decode cX7_next 103 = .ok (.aload_n 0, 1) := by decide +kernel
theorem dX7_next_104 : decode cX7_next 104 = .ok (.dup, 1) := by decide +kernel
theorem dX7_next_105 : decode cX7_next 105 = .ok (.getfield 93, 3) := by decide +kernel
theorem dX7_next_108 : decode cX7_next 108 = .ok (.iconst 1, 1) := by decide +kernel
theorem dX7_next_109 : decode cX7_next 109 = .ok (.iadd, 1) := by decide +kernel
theorem dX7_next_110 : decode cX7_next 110 = .ok (.putfield 93, 3) := by decide +kernel
theorem dX7_next_113 : decode cX7_next 113 = .ok (.goto (-31), 3) := by decide +kernel
theorem dX7_next_116 : decode cX7_next 116 = .ok (.iload_n 1, 1) := by decide +kernel
theorem dX7_next_117 : decode cX7_next 117 = .ok (.i2l, 1) := by decide +kernel
theorem dX7_next_118 : decode cX7_next 118 = .ok (.ldc2_w 115, 3) := by decide +kernel
theorem dX7_next_121 : decode cX7_next 121 = .ok (.ldc2_w 117, 3) := by decide +kernel
theorem dX7_next_124 : decode cX7_next 124 = .ok (.invokestatic 77, 3) := by decide +kernel
theorem dX7_next_127 : decode cX7_next 127 = .ok (.ifCond .eq 116, 3) := by decide +kernel
theorem dX7_next_130 : decode cX7_next 130 = .ok (.aload_n 0, 1) := by decide +kernel
theorem dX7_next_131 : decode cX7_next 131 = .ok (.iconst 2, 1) := by decide +kernel
theorem dX7_next_132 : decode cX7_next 132 = .ok (.putfield 108, 3) := by decide +kernel
theorem dX7_next_135 : decode cX7_next 135 = .ok (.aload_n 0, 1) := by decide +kernel
theorem dX7_next_136 : decode cX7_next 136 = .ok (.iconst 0, 1) := by decide +kernel
theorem dX7_next_137 : decode cX7_next 137 = .ok (.putfield 119, 3) := by decide +kernel
theorem dX7_next_140 : decode cX7_next 140 = .ok (.aload_n 0, 1) := by decide +kernel
theorem dX7_next_141 : decode cX7_next 141 = .ok (.aload_n 0, 1) := by decide +kernel
theorem dX7_next_142 : decode cX7_next 142 = .ok (.getfield 93, 3) := by decide +kernel
theorem dX7_next_145 : decode cX7_next 145 = .ok (.invokevirtual 96, 3) := by decide +kernel
theorem dX7_next_148 : decode cX7_next 148 = .ok (.i2l, 1) := by decide +kernel
theorem dX7_next_149 : decode cX7_next 149 = .ok (.ldc2_w 115, 3) := by decide +kernel
theorem dX7_next_152 : decode cX7_next 152 = .ok (.ldc2_w 117, 3) := by decide +kernel
theorem dX7_next_155 : decode cX7_next 155 = .ok (.invokestatic 77, 3) := by decide +kernel
theorem dX7_next_158 : decode cX7_next 158 = .ok (.ifCond .eq 59, 3) := by decide +kernel
theorem dX7_next_161 : decode cX7_next 161 = .ok (.aload_n 0, 1) := by decide +kernel
theorem dX7_next_162 : decode cX7_next 162 = .ok (.aload_n 0, 1) := by decide +kernel
theorem dX7_next_163 : decode cX7_next 163 = .ok (.getfield 93, 3) := by decide +kernel
theorem dX7_next_166 : decode cX7_next 166 = .ok (.aload_n 0, 1) := by decide +kernel
theorem dX7_next_167 : decode cX7_next 167 = .ok (.getfield 87, 3) := by decide +kernel
theorem dX7_next_170 : decode cX7_next 170 = .ok (.isub, 1) := by decide +kernel
theorem dX7_next_171 : decode cX7_next 171 = .ok (.iconst 2, 1) := by decide +kernel
theorem dX7_next_172 : decode cX7_next 172 = .ok (.if_icmp .ge 25, 3) := by decide +kernel
theorem dX7_next_175 : decode cX7_next 175 = .ok (.bipush 10, 2) := by decide +kernel
theorem dX7_next_177 : decode cX7_next 177 = .ok (.aload_n 0, 1) := by decide +kernel
theorem dX7_next_178 : decode cX7_next 178 = .ok (.getfield 119, 3) := by decide +kernel
theorem dX7_next_181 : decode cX7_next 181 = .ok (.imul, 1) := by decide +kernel
theorem dX7_next_182 : decode cX7_next 182 = .ok (.aload_n 0, 1) := by decide +kernel
theorem dX7_next_183 : decode cX7_next 183 = .ok (.aload_n 0, 1) := by decide +kernel
theorem dX7_next_184 : decode cX7_next 184 = .ok (.getfield 93, 3) := by decide +kernel
theorem dX7_next_187 : decode cX7_next 187 = .ok (.invokevirtual 96, 3) := by decide +kernel
theorem dX7_next_190 : decode cX7_next 190 = .ok (.iadd, 1) := by decide +kernel
theorem dX7_next_191 : decode cX7_next 191 = .ok (.bipush 48, 2) := by decide +kernel
theorem dX7_next_193 : decode cX7_next 193 = .ok (.isub, 1) := by decide +kernel
theorem dX7_next_194 : decode cX7_next 194 = .ok (.goto 7, 3) := by decide +kernel
theorem dX7_next_197 : decode cX7_next 197 = .ok (.aload_n 0, 1) := by decide +kernel
theorem dX7_next_198 : decode cX7_next 198 = .ok (.getfield 119, 3) := by decide +kernel
theorem dX7_next_201 : decode cX7_next 201 = .ok (.putfield 119, 3) := by decide +kernel
theorem dX7_next_204 : decode cX7_next 204 = .ok (.aload_n 0, 1) := by decide +kernel
theorem dX7_next_205 : decode cX7_next 205 = .ok (.dup, 1) := by decide +kernel
theorem dX7_next_206 : decode cX7_next 206 = .ok (.getfield 93, 3) := by decide +kernel
theorem dX7_next_209 : decode cX7_next 209 = .ok (.iconst 1, 1) := by decide +kernel
theorem dX7_next_210 : decode cX7_next 210 = .ok (.iadd, 1) := by decide +kernel
theorem dX7_next_211 : decode cX7_next 211 = .ok (.putfield 93, 3) := by decide +kernel
theorem dX7_next_214 : decode cX7_next 214 = .ok (.goto (-74), 3) := by decide +kernel
theorem dX7_next_217 : decode cX7_next 217 = .ok (.aload_n 0, 1) := by decide +kernel
theorem dX7_next_218 : decode cX7_next 218 = .ok (.aload_n 0, 1) := by decide +kernel
theorem dX7_next_219 : decode cX7_next 219 = .ok (.getfield 93, 3) := by decide +kernel
theorem dX7_next_222 : decode cX7_next 222 = .ok (.aload_n 0, 1) := by decide +kernel
theorem dX7_next_223 : decode cX7_next 223 = .ok (.getfield 87, 3) := by decide +kernel
theorem dX7_next_226 : decode cX7_next 226 = .ok (.isub, 1) := by decide +kernel
theorem dX7_next_227 : decode cX7_next 227 = .ok (.iconst 2, 1) := by decide +kernel
theorem dX7_next_228 : decode cX7_next 228 = .ok (.if_icmp .gt 7, 3) := by decide +kernel
theorem dX7_next_231 : decode cX7_next 231 = .ok (.iconst 1, 1) := by decide +kernel
theorem dX7_next_232 : decode cX7_next 232 = .ok (.goto 4, 3) := by decide +kernel
theorem dX7_next_235 : decode cX7_next 235 = .ok (.iconst 0, 1) := by decide +kernel
theorem dX7_next_236 : decode cX7_next 236 = .ok (.iconst 1, 1) := by decide +kernel
theorem dX7_next_237 : decode cX7_next 237 = .ok (.invokevirtual 122, 3) := by decide +kernel
theorem dX7_next_240 : decode cX7_next 240 = .ok (.goto 34, 3) := by decide +kernel
theorem dX7_next_243 : decode cX7_next 243 = .ok (.aload_n 0, 1) := by decide +kernel
theorem dX7_next_244 : decode cX7_next 244 = .ok (.iconst 3, 1) := by decide +kernel
theorem dX7_next_245 : decode cX7_next 245 = .ok (.putfield 108, 3) := by decide +kernel
theorem dX7_next_248 : decode cX7_next 248 = .ok (.aload_n 0, 1) := by decide +kernel
theorem dX7_next_249 : decode cX7_next 249 = .ok (.iload_n 1, 1) := by decide +kernel
theorem dX7_next_250 : decode cX7_next 250 = .ok (.bipush 59, 2) := by decide +kernel
theorem dX7_next_252 : decode cX7_next 252 = .ok (.if_icmp .ne 7, 3) := by decide +kernel
theorem dX7_next_255 : decode cX7_next 255 = .ok (.iconst 1, 1) := by decide +kernel
theorem dX7_next_256 : decode cX7_next 256 = .ok (.goto 4, 3) := by decide +kernel
theorem dX7_next_259 : decode cX7_next 259 = .ok (.iconst 0, 1) := by decide +kernel
theorem dX7_next_260 : decode cX7_next 260 = .ok (.iconst 1, 1) := by decide +kernel
theorem dX7_next_261 : decode cX7_next 261 = .ok (.invokevirtual 122, 3) := by decide +kernel
theorem dX7_next_264 : decode cX7_next 264 = .ok (.aload_n 0, 1) := by decide +kernel
theorem dX7_next_265 : decode cX7_next 265 = .ok (.dup, 1) := by decide +kernel
theorem dX7_next_266 : decode cX7_next 266 = .ok (.getfield 93, 3) := by decide +kernel
theorem dX7_next_269 : decode cX7_next 269 = .ok (.iconst 1, 1) := by decide +kernel
theorem dX7_next_270 : decode cX7_next 270 = .ok (.iadd, 1) := by decide +kernel
theorem dX7_next_271 : decode cX7_next 271 = .ok (.putfield 93, 3) := by decide +kernel
theorem dX7_next_274 : decode cX7_next 274 = .ok (.return_, 1) := by decide +kernel
theorem dX7_looked_0 : decode cX7_looked 0 = .ok (.aload_n 0, 1) := by decide +kernel
theorem dX7_looked_1 : decode cX7_looked 1 = .ok (.getfield 84, 3) := by decide +kernel
theorem dX7_looked_4 : decode cX7_looked 4 = .ok (.ifCond .ne 21, 3) := by decide +kernel
theorem dX7_looked_7 : decode cX7_looked 7 = .ok (.aload_n 0, 1) := by decide +kernel
theorem dX7_looked_8 : decode cX7_looked 8 = .ok (.aload_n 0, 1) := by decide +kernel
theorem dX7_looked_9 : decode cX7_looked 9 = .ok (.getfield 108, 3) := by decide +kernel
theorem dX7_looked_12 : decode cX7_looked 12 = .ok (.iconst 2, 1) := by decide +kernel
theorem dX7_looked_13 : decode cX7_looked 13 = .ok (.if_icmp .ne 7, 3) := by decide +kernel
theorem dX7_looked_16 : decode cX7_looked 16 = .ok (.iconst 1, 1) := by decide +kernel
theorem dX7_looked_17 : decode cX7_looked 17 = .ok (.goto 4, 3) := by decide +kernel
theorem dX7_looked_20 : decode cX7_looked 20 = .ok (.iconst 0, 1) := by decide +kernel
theorem dX7_looked_21 : decode cX7_looked 21 = .ok (.iconst 2, 1) := by decide +kernel
theorem dX7_looked_22 : decode cX7_looked 22 = .ok (.invokevirtual 122, 3) := by decide +kernel
theorem dX7_looked_25 : decode cX7_looked 25 = .ok (.aload_n 0, 1) := by decide +kernel
theorem dX7_looked_26 : decode cX7_looked 26 = .ok (.getfield 84, 3) := by decide +kernel
theorem dX7_looked_29 : decode cX7_looked 29 = .ok (.ifCond .ne 20, 3) := by decide +kernel
theorem dX7_looked_32 : decode cX7_looked 32 = .ok (.aload_n 0, 1) := by decide +kernel
theorem dX7_looked_33 : decode cX7_looked 33 = .ok (.aload_n 0, 1) := by decide +kernel
theorem dX7_looked_34 : decode cX7_looked 34 = .ok (.getfield 119, 3) := by decide +kernel
theorem dX7_looked_37 : decode cX7_looked 37 = .ok (.i2l, 1) := by decide +kernel
theorem dX7_looked_38 : decode cX7_looked 38 = .ok (.iload_n 1, 1) := by decide +kernel
theorem dX7_looked_39 : decode cX7_looked 39 = .ok (.i2l, 1) := by decide +kernel
theorem dX7_looked_40 : decode cX7_looked 40 = .ok (.iload_n 2, 1) := by decide +kernel
theorem dX7_looked_41 : decode cX7_looked 41 = .ok (.i2l, 1) := by decide +kernel
theorem dX7_looked_42 : decode cX7_looked 42 = .ok (.invokestatic 77, 3) := by decide +kernel
theorem dX7_looked_45 : decode cX7_looked 45 = .ok (.iconst 3, 1) := by decide +kernel
theorem dX7_looked_46 : decode cX7_looked 46 = .ok (.invokevirtual 122, 3) := by decide +kernel
theorem dX7_looked_49 : decode cX7_looked 49 = .ok (.aload_n 0, 1) := by decide +kernel
theorem dX7_looked_50 : decode cX7_looked 50 = .ok (.getfield 84, 3) := by decide +kernel
theorem dX7_looked_53 : decode cX7_looked 53 = .ok (.ifCond .ne 10, 3) := by decide +kernel
theorem dX7_looked_56 : decode cX7_looked 56 = .ok (.aload_n 0, 1) := by decide +kernel
theorem dX7_looked_57 : decode cX7_looked 57 = .ok (.getfield 119, 3) := by decide +kernel
theorem dX7_looked_60 : decode cX7_looked 60 = .ok (.goto 4, 3) := by decide +kernel
theorem dX7_looked_63 : decode cX7_looked 63 = .ok (.iconst 0, 1) := by decide +kernel
theorem dX7_looked_64 : decode cX7_looked 64 = .ok (.ireturn, 1) := by decide +kernel
theorem dX7_readNumber_0 : decode cX7_readNumber 0 = .ok (.aload_n 0, 1) := by decide +kernel
theorem dX7_readNumber_1 : decode cX7_readNumber 1 = .ok (.iload_n 1, 1) := by decide +kernel
theorem dX7_readNumber_2 : decode cX7_readNumber 2 = .ok (.iload_n 2, 1) := by decide +kernel
theorem dX7_readNumber_3 : decode cX7_readNumber 3 = .ok (.invokevirtual 126, 3) := by decide +kernel
theorem dX7_readNumber_6 : decode cX7_readNumber 6 = .ok (.istore_n 3, 1) := by decide +kernel
theorem dX7_readNumber_7 : decode cX7_readNumber 7 = .ok (.aload_n 0, 1) := by decide +kernel
theorem dX7_readNumber_8 : decode cX7_readNumber 8 = .ok (.invokevirtual 130, 3) := by decide +kernel
theorem dX7_readNumber_11 : decode cX7_readNumber 11 = .ok (.iload_n 3, 1) := by decide +kernel
theorem dX7_readNumber_12 : decode cX7_readNumber 12 = .ok (.ireturn, 1) := by decide +kernel
theorem dX7_readMore_0 : decode cX7_readMore 0 = .ok (.aload_n 0, 1) := by decide +kernel
theorem dX7_readMore_1 : decode cX7_readMore 1 = .ok (.iconst 0, 1) := by decide +kernel
theorem dX7_readMore_2 : decode cX7_readMore 2 = .ok (.iload_n 2, 1) := by decide +kernel
theorem dX7_readMore_3 : decode cX7_readMore 3 = .ok (.invokevirtual 126, 3) := by decide +kernel
theorem dX7_readMore_6 : decode cX7_readMore 6 = .ok (.istore_n 3, 1) := by decide +kernel
theorem dX7_readMore_7 : decode cX7_readMore 7 = .ok (.aload_n 0, 1) := by decide +kernel
theorem dX7_readMore_8 : decode cX7_readMore 8 = .ok (.getfield 84, 3) := by decide +kernel
theorem dX7_readMore_11 : decode cX7_readMore 11 = .ok (.ifCond .ne 21, 3) := by decide +kernel
theorem dX7_readMore_14 : decode cX7_readMore 14 = .ok (.aload_n 0, 1) := by decide +kernel
theorem dX7_readMore_15 : decode cX7_readMore 15 = .ok (.iload_n 1, 1) := by decide +kernel
theorem dX7_readMore_16 : decode cX7_readMore 16 = .ok (.iload_n 3, 1) := by decide +kernel
theorem dX7_readMore_17 : decode cX7_readMore 17 = .ok (.ishr, 1) := by decide +kernel
theorem dX7_readMore_18 : decode cX7_readMore 18 = .ok (.iconst 1, 1) := by decide +kernel
theorem dX7_readMore_19 : decode cX7_readMore 19 = .ok (.iand, 1) := by decide +kernel
theorem dX7_readMore_20 : decode cX7_readMore 20 = .ok (.ifCond .ne 7, 3) := by decide +kernel
theorem dX7_readMore_23 : decode cX7_readMore 23 = .ok (.iconst 1, 1) := by decide +kernel
theorem dX7_readMore_24 : decode cX7_readMore 24 = .ok (.goto 4, 3) := by decide +kernel
theorem dX7_readMore_27 : decode cX7_readMore 27 = .ok (.iconst 0, 1) := by decide +kernel
theorem dX7_readMore_28 : decode cX7_readMore 28 = .ok (.iconst 4, 1) := by decide +kernel
theorem dX7_readMore_29 : decode cX7_readMore 29 = .ok (.invokevirtual 122, 3) := by decide +kernel
theorem dX7_readMore_32 : decode cX7_readMore 32 = .ok (.aload_n 0, 1) := by decide +kernel
theorem dX7_readMore_33 : decode cX7_readMore 33 = .ok (.invokevirtual 130, 3) := by decide +kernel
theorem dX7_readMore_36 : decode cX7_readMore 36 = .ok (.aload_n 0, 1) := by decide +kernel
theorem dX7_readMore_37 : decode cX7_readMore 37 = .ok (.getfield 84, 3) := by decide +kernel
theorem dX7_readMore_40 : decode cX7_readMore 40 = .ok (.ifCond .ne 11, 3) := by decide +kernel
theorem dX7_readMore_43 : decode cX7_readMore 43 = .ok (.iload_n 1, 1) := by decide +kernel
theorem dX7_readMore_44 : decode cX7_readMore 44 = .ok (.iconst 1, 1) := by decide +kernel
theorem dX7_readMore_45 : decode cX7_readMore 45 = .ok (.iload_n 3, 1) := by decide +kernel
theorem dX7_readMore_46 : decode cX7_readMore 46 = .ok (.ishl, 1) := by decide +kernel
theorem dX7_readMore_47 : decode cX7_readMore 47 = .ok (.ior, 1) := by decide +kernel
theorem dX7_readMore_48 : decode cX7_readMore 48 = .ok (.goto 4, 3) := by decide +kernel
theorem dX7_readMore_51 : decode cX7_readMore 51 = .ok (.iload_n 1, 1) := by decide +kernel
theorem dX7_readMore_52 : decode cX7_readMore 52 = .ok (.ireturn, 1) := by decide +kernel
theorem dX7_readClaim_0 : decode cX7_readClaim 0 = .ok (.aload_n 0, 1) := by decide +kernel
theorem dX7_readClaim_1 : decode cX7_readClaim 1 = .ok (.iconst 0, 1) := by decide +kernel
theorem dX7_readClaim_2 : decode cX7_readClaim 2 = .ok (.bipush 7, 2) := by decide +kernel
theorem dX7_readClaim_4 : decode cX7_readClaim 4 = .ok (.invokevirtual 133, 3) := by decide +kernel
theorem dX7_readClaim_7 : decode cX7_readClaim 7 = .ok (.istore_n 1, 1) := by decide +kernel
theorem dX7_readClaim_8 : decode cX7_readClaim 8 = .ok (.aload_n 0, 1) := by decide +kernel
theorem dX7_readClaim_9 : decode cX7_readClaim 9 = .ok (.iload_n 1, 1) := by decide +kernel
theorem dX7_readClaim_10 : decode cX7_readClaim 10 = .ok (.aload_n 0, 1) := by decide +kernel
theorem dX7_readClaim_11 : decode cX7_readClaim 11 = .ok (.getfield 69, 3) := by decide +kernel
theorem dX7_readClaim_14 : decode cX7_readClaim 14 = .ok (.if_icmp .le 7, 3) := by decide +kernel
theorem dX7_readClaim_17 : decode cX7_readClaim 17 = .ok (.iload_n 1, 1) := by decide +kernel
theorem dX7_readClaim_18 : decode cX7_readClaim 18 = .ok (.goto 7, 3) := by decide +kernel
theorem dX7_readClaim_21 : decode cX7_readClaim 21 = .ok (.aload_n 0, 1) := by decide +kernel
theorem dX7_readClaim_22 : decode cX7_readClaim 22 = .ok (.getfield 69, 3) := by decide +kernel
theorem dX7_readClaim_25 : decode cX7_readClaim 25 = .ok (.putfield 69, 3) := by decide +kernel
theorem dX7_readClaim_28 : decode cX7_readClaim 28 = .ok (.iload_n 1, 1) := by decide +kernel
theorem dX7_readClaim_29 : decode cX7_readClaim 29 = .ok (.ireturn, 1) := by decide +kernel
theorem dX7_isUnless_0 : decode cX7_isUnless 0 = .ok (.aload_n 0, 1) := by decide +kernel
theorem dX7_isUnless_1 : decode cX7_isUnless 1 = .ok (.getfield 108, 3) := by decide +kernel
theorem dX7_isUnless_4 : decode cX7_isUnless 4 = .ok (.iconst 1, 1) := by decide +kernel
theorem dX7_isUnless_5 : decode cX7_isUnless 5 = .ok (.if_icmp .ne 35, 3) := by decide +kernel
theorem dX7_isUnless_8 : decode cX7_isUnless 8 = .ok (.aload_n 0, 1) := by decide +kernel
theorem dX7_isUnless_9 : decode cX7_isUnless 9 = .ok (.bipush 6, 2) := by decide +kernel
theorem dX7_isUnless_11 : decode cX7_isUnless 11 = .ok (.bipush 117, 2) := by decide +kernel
theorem dX7_isUnless_13 : decode cX7_isUnless 13 = .ok (.bipush 110, 2) := by decide +kernel
theorem dX7_isUnless_15 : decode cX7_isUnless 15 = .ok (.bipush 108, 2) := by decide +kernel
theorem dX7_isUnless_17 : decode cX7_isUnless 17 = .ok (.invokevirtual 100, 3) := by decide +kernel
theorem dX7_isUnless_20 : decode cX7_isUnless 20 = .ok (.ifCond .eq 20, 3) := by decide +kernel
theorem dX7_isUnless_23 : decode cX7_isUnless 23 = .ok (.aload_n 0, 1) := by decide +kernel
theorem dX7_isUnless_24 : decode cX7_isUnless 24 = .ok (.bipush 101, 2) := by decide +kernel
theorem dX7_isUnless_26 : decode cX7_isUnless 26 = .ok (.bipush 115, 2) := by decide +kernel
theorem dX7_isUnless_28 : decode cX7_isUnless 28 = .ok (.bipush 115, 2) := by decide +kernel
theorem dX7_isUnless_30 : decode cX7_isUnless 30 = .ok (.invokevirtual 104, 3) := by decide +kernel
theorem dX7_isUnless_33 : decode cX7_isUnless 33 = .ok (.ifCond .eq 7, 3) := by decide +kernel
theorem dX7_isUnless_36 : decode cX7_isUnless 36 = .ok (.iconst 1, 1) := by decide +kernel
theorem dX7_isUnless_37 : decode cX7_isUnless 37 = .ok (.goto 4, 3) := by decide +kernel
theorem dX7_isUnless_40 : decode cX7_isUnless 40 = .ok (.iconst 0, 1) := by decide +kernel
theorem dX7_isUnless_41 : decode cX7_isUnless 41 = .ok (.ireturn, 1) := by decide +kernel
theorem dX7_readWhole_0 : decode cX7_readWhole 0 = .ok (.aload_n 0, 1) := by decide +kernel
theorem dX7_readWhole_1 : decode cX7_readWhole 1 = .ok (.getfield 62, 3) := by decide +kernel
theorem dX7_readWhole_4 : decode cX7_readWhole 4 = .ok (.istore_n 2, 1) := by decide +kernel
theorem dX7_readWhole_5 : decode cX7_readWhole 5 = .ok (.aload_n 0, 1) := by decide +kernel
theorem dX7_readWhole_6 : decode cX7_readWhole 6 = .ok (.getfield 29, 3) := by decide +kernel
theorem dX7_readWhole_9 : decode cX7_readWhole 9 = .ok (.iload_n 2, 1) := by decide +kernel
theorem dX7_readWhole_10 : decode cX7_readWhole 10 = .ok (.iload_n 1, 1) := by decide +kernel
theorem dX7_readWhole_11 : decode cX7_readWhole 11 = .ok (.iastore, 1) := by decide +kernel
theorem dX7_readWhole_12 : decode cX7_readWhole 12 = .ok (.aload_n 0, 1) := by decide +kernel
theorem dX7_readWhole_13 : decode cX7_readWhole 13 = .ok (.getfield 32, 3) := by decide +kernel
theorem dX7_readWhole_16 : decode cX7_readWhole 16 = .ok (.iload_n 2, 1) := by decide +kernel
theorem dX7_readWhole_17 : decode cX7_readWhole 17 = .ok (.aload_n 0, 1) := by decide +kernel
theorem dX7_readWhole_18 : decode cX7_readWhole 18 = .ok (.iconst 0, 1) := by decide +kernel
theorem dX7_readWhole_19 : decode cX7_readWhole 19 = .ok (.bipush 9, 2) := by decide +kernel
theorem dX7_readWhole_21 : decode cX7_readWhole 21 = .ok (.invokevirtual 133, 3) := by decide +kernel
theorem dX7_readWhole_24 : decode cX7_readWhole 24 = .ok (.iastore, 1) := by decide +kernel
theorem dX7_readWhole_25 : decode cX7_readWhole 25 = .ok (.aload_n 0, 1) := by decide +kernel
theorem dX7_readWhole_26 : decode cX7_readWhole 26 = .ok (.getfield 35, 3) := by decide +kernel
theorem dX7_readWhole_29 : decode cX7_readWhole 29 = .ok (.iload_n 2, 1) := by decide +kernel
theorem dX7_readWhole_30 : decode cX7_readWhole 30 = .ok (.aload_n 0, 1) := by decide +kernel
theorem dX7_readWhole_31 : decode cX7_readWhole 31 = .ok (.aload_n 0, 1) := by decide +kernel
theorem dX7_readWhole_32 : decode cX7_readWhole 32 = .ok (.getfield 32, 3) := by decide +kernel
theorem dX7_readWhole_35 : decode cX7_readWhole 35 = .ok (.iload_n 2, 1) := by decide +kernel
theorem dX7_readWhole_36 : decode cX7_readWhole 36 = .ok (.iaload, 1) := by decide +kernel
theorem dX7_readWhole_37 : decode cX7_readWhole 37 = .ok (.bipush 9, 2) := by decide +kernel
theorem dX7_readWhole_39 : decode cX7_readWhole 39 = .ok (.invokevirtual 133, 3) := by decide +kernel
theorem dX7_readWhole_42 : decode cX7_readWhole 42 = .ok (.iastore, 1) := by decide +kernel
theorem dX7_readWhole_43 : decode cX7_readWhole 43 = .ok (.aload_n 0, 1) := by decide +kernel
theorem dX7_readWhole_44 : decode cX7_readWhole 44 = .ok (.getfield 26, 3) := by decide +kernel
theorem dX7_readWhole_47 : decode cX7_readWhole 47 = .ok (.bipush 16, 2) := by decide +kernel
theorem dX7_readWhole_49 : decode cX7_readWhole 49 = .ok (.iload_n 2, 1) := by decide +kernel
theorem dX7_readWhole_50 : decode cX7_readWhole 50 = .ok (.iadd, 1) := by decide +kernel
theorem dX7_readWhole_51 : decode cX7_readWhole 51 = .ok (.aload_n 0, 1) := by decide +kernel
theorem dX7_readWhole_52 : decode cX7_readWhole 52 = .ok (.iconst 0, 1) := by decide +kernel
theorem dX7_readWhole_53 : decode cX7_readWhole 53 = .ok (.bipush 9, 2) := by decide +kernel
theorem dX7_readWhole_55 : decode cX7_readWhole 55 = .ok (.invokevirtual 133, 3) := by decide +kernel
theorem dX7_readWhole_58 : decode cX7_readWhole 58 = .ok (.iastore, 1) := by decide +kernel
theorem dX7_readWhole_59 : decode cX7_readWhole 59 = .ok (.iconst 0, 1) := by decide +kernel
theorem dX7_readWhole_60 : decode cX7_readWhole 60 = .ok (.istore_n 3, 1) := by decide +kernel
theorem dX7_readWhole_61 : decode cX7_readWhole 61 = .ok (.aload_n 0, 1) := by decide +kernel
theorem dX7_readWhole_62 : decode cX7_readWhole 62 = .ok (.getfield 84, 3) := by decide +kernel
theorem dX7_readWhole_65 : decode cX7_readWhole 65 = .ok (.ifCond .ne 23, 3) := by decide +kernel
theorem dX7_readWhole_68 : decode cX7_readWhole 68 = .ok (.aload_n 0, 1) := by decide +kernel
theorem dX7_readWhole_69 : decode cX7_readWhole 69 = .ok (.getfield 108, 3) := by decide +kernel
theorem dX7_readWhole_72 : decode cX7_readWhole 72 = .ok (.iconst 2, 1) := by decide +kernel
theorem dX7_readWhole_73 : decode cX7_readWhole 73 = .ok (.if_icmp .ne 15, 3) := by decide +kernel
theorem dX7_readWhole_76 : decode cX7_readWhole 76 = .ok (.aload_n 0, 1) := by decide +kernel
theorem dX7_readWhole_77 : decode cX7_readWhole 77 = .ok (.iload_n 3, 1) := by decide +kernel
theorem dX7_readWhole_78 : decode cX7_readWhole 78 = .ok (.iload_n 2, 1) := by decide +kernel
theorem dX7_readWhole_79 : decode cX7_readWhole 79 = .ok (.iconst 1, 1) := by decide +kernel
theorem dX7_readWhole_80 : decode cX7_readWhole 80 = .ok (.isub, 1) := by decide +kernel
theorem dX7_readWhole_81 : decode cX7_readWhole 81 = .ok (.invokevirtual 136, 3) := by decide +kernel
theorem dX7_readWhole_84 : decode cX7_readWhole 84 = .ok (.istore_n 3, 1) := by decide +kernel
theorem dX7_readWhole_85 : decode cX7_readWhole 85 = .ok (.goto (-24), 3) := by decide +kernel
theorem dX7_readWhole_88 : decode cX7_readWhole 88 = .ok (.aload_n 0, 1) := by decide +kernel
theorem dX7_readWhole_89 : decode cX7_readWhole 89 = .ok (.getfield 26, 3) := by decide +kernel
theorem dX7_readWhole_92 : decode cX7_readWhole 92 = .ok (.iconst 0, 1) := by decide +kernel
theorem dX7_readWhole_93 : decode cX7_readWhole 93 = .ok (.iload_n 2, 1) := by decide +kernel
theorem dX7_readWhole_94 : decode cX7_readWhole 94 = .ok (.iadd, 1) := by decide +kernel
theorem dX7_readWhole_95 : decode cX7_readWhole 95 = .ok (.iload_n 3, 1) := by decide +kernel
theorem dX7_readWhole_96 : decode cX7_readWhole 96 = .ok (.iastore, 1) := by decide +kernel
theorem dX7_readWhole_97 : decode cX7_readWhole 97 = .ok (.aload_n 0, 1) := by decide +kernel
theorem dX7_readWhole_98 : decode cX7_readWhole 98 = .ok (.getfield 84, 3) := by decide +kernel
theorem dX7_readWhole_101 : decode cX7_readWhole 101 = .ok (.ifCond .ne 48, 3) := by decide +kernel
theorem dX7_readWhole_104 : decode cX7_readWhole 104 = .ok (.aload_n 0, 1) := by decide +kernel
theorem dX7_readWhole_105 : decode cX7_readWhole 105 = .ok (.getfield 108, 3) := by decide +kernel
theorem dX7_readWhole_108 : decode cX7_readWhole 108 = .ok (.iconst 1, 1) := by decide +kernel
theorem dX7_readWhole_109 : decode cX7_readWhole 109 = .ok (.if_icmp .ne 40, 3) := by decide +kernel
theorem dX7_readWhole_112 : decode cX7_readWhole 112 = .ok (.aload_n 0, 1) := by decide +kernel
theorem dX7_readWhole_113 : decode cX7_readWhole 113 = .ok (.aload_n 0, 1) := by decide +kernel
theorem dX7_readWhole_114 : decode cX7_readWhole 114 = .ok (.invokevirtual 139, 3) := by decide +kernel
theorem dX7_readWhole_117 : decode cX7_readWhole 117 = .ok (.iconst 2, 1) := by decide +kernel
theorem dX7_readWhole_118 : decode cX7_readWhole 118 = .ok (.invokevirtual 122, 3) := by decide +kernel
theorem dX7_readWhole_121 : decode cX7_readWhole 121 = .ok (.aload_n 0, 1) := by decide +kernel
theorem dX7_readWhole_122 : decode cX7_readWhole 122 = .ok (.invokevirtual 130, 3) := by decide +kernel
theorem dX7_readWhole_125 : decode cX7_readWhole 125 = .ok (.aload_n 0, 1) := by decide +kernel
theorem dX7_readWhole_126 : decode cX7_readWhole 126 = .ok (.iload_n 3, 1) := by decide +kernel
theorem dX7_readWhole_127 : decode cX7_readWhole 127 = .ok (.iload_n 2, 1) := by decide +kernel
theorem dX7_readWhole_128 : decode cX7_readWhole 128 = .ok (.iconst 1, 1) := by decide +kernel
theorem dX7_readWhole_129 : decode cX7_readWhole 129 = .ok (.isub, 1) := by decide +kernel
theorem dX7_readWhole_130 : decode cX7_readWhole 130 = .ok (.invokevirtual 136, 3) := by decide +kernel
theorem dX7_readWhole_133 : decode cX7_readWhole 133 = .ok (.istore_n 3, 1) := by decide +kernel
theorem dX7_readWhole_134 : decode cX7_readWhole 134 = .ok (.aload_n 0, 1) := by decide +kernel
theorem dX7_readWhole_135 : decode cX7_readWhole 135 = .ok (.getfield 84, 3) := by decide +kernel
theorem dX7_readWhole_138 : decode cX7_readWhole 138 = .ok (.ifCond .ne 11, 3) := by decide +kernel
theorem dX7_readWhole_141 : decode cX7_readWhole 141 = .ok (.aload_n 0, 1) := by decide +kernel
theorem dX7_readWhole_142 : decode cX7_readWhole 142 = .ok (.getfield 108, 3) := by decide +kernel
theorem dX7_readWhole_145 : decode cX7_readWhole 145 = .ok (.iconst 2, 1) := by decide +kernel
theorem dX7_readWhole_146 : decode cX7_readWhole 146 = .ok (.if_icmp .eq (-21), 3) := by decide +kernel
theorem dX7_readWhole_149 : decode cX7_readWhole 149 = .ok (.aload_n 0, 1) := by decide +kernel
theorem dX7_readWhole_150 : decode cX7_readWhole 150 = .ok (.getfield 26, 3) := by decide +kernel
theorem dX7_readWhole_153 : decode cX7_readWhole 153 = .ok (.bipush 8, 2) := by decide +kernel
theorem dX7_readWhole_155 : decode cX7_readWhole 155 = .ok (.iload_n 2, 1) := by decide +kernel
theorem dX7_readWhole_156 : decode cX7_readWhole 156 = .ok (.iadd, 1) := by decide +kernel
theorem dX7_readWhole_157 : decode cX7_readWhole 157 = .ok (.iload_n 3, 1) := by decide +kernel
theorem dX7_readWhole_158 : decode cX7_readWhole 158 = .ok (.aload_n 0, 1) := by decide +kernel
theorem dX7_readWhole_159 : decode cX7_readWhole 159 = .ok (.getfield 26, 3) := by decide +kernel
theorem dX7_readWhole_162 : decode cX7_readWhole 162 = .ok (.iconst 0, 1) := by decide +kernel
theorem dX7_readWhole_163 : decode cX7_readWhole 163 = .ok (.iload_n 2, 1) := by decide +kernel
theorem dX7_readWhole_164 : decode cX7_readWhole 164 = .ok (.iadd, 1) := by decide +kernel
theorem dX7_readWhole_165 : decode cX7_readWhole 165 = .ok (.iaload, 1) := by decide +kernel
theorem dX7_readWhole_166 : decode cX7_readWhole 166 = .ok (.iconst (-1), 1) := by decide +kernel
theorem dX7_readWhole_167 : decode cX7_readWhole 167 = .ok (.ixor, 1) := by decide +kernel
theorem dX7_readWhole_168 : decode cX7_readWhole 168 = .ok (.iand, 1) := by decide +kernel
theorem dX7_readWhole_169 : decode cX7_readWhole 169 = .ok (.iastore, 1) := by decide +kernel
theorem dX7_readWhole_170 : decode cX7_readWhole 170 = .ok (.aload_n 0, 1) := by decide +kernel
theorem dX7_readWhole_171 : decode cX7_readWhole 171 = .ok (.dup, 1) := by decide +kernel
theorem dX7_readWhole_172 : decode cX7_readWhole 172 = .ok (.getfield 62, 3) := by decide +kernel
theorem dX7_readWhole_175 : decode cX7_readWhole 175 = .ok (.iconst 1, 1) := by decide +kernel
theorem dX7_readWhole_176 : decode cX7_readWhole 176 = .ok (.iadd, 1) := by decide +kernel
theorem dX7_readWhole_177 : decode cX7_readWhole 177 = .ok (.putfield 62, 3) := by decide +kernel
theorem dX7_readWhole_180 : decode cX7_readWhole 180 = .ok (.return_, 1) := by decide +kernel
theorem dX7_readLineOf_0 : decode cX7_readLineOf 0 = .ok (.iload_n 1, 1) := by decide +kernel
theorem dX7_readLineOf_1 : decode cX7_readLineOf 1 = .ok (.tableswitch 153 3 6 #[31, 45, 62, 95], 31) := by decide +kernel
theorem dX7_readLineOf_32 : decode cX7_readLineOf 32 = .ok (.aload_n 0, 1) := by decide +kernel
theorem dX7_readLineOf_33 : decode cX7_readLineOf 33 = .ok (.getfield 26, 3) := by decide +kernel
theorem dX7_readLineOf_36 : decode cX7_readLineOf 36 = .ok (.bipush 25, 2) := by decide +kernel
theorem dX7_readLineOf_38 : decode cX7_readLineOf 38 = .ok (.aload_n 0, 1) := by decide +kernel
theorem dX7_readLineOf_39 : decode cX7_readLineOf 39 = .ok (.invokevirtual 143, 3) := by decide +kernel
theorem dX7_readLineOf_42 : decode cX7_readLineOf 42 = .ok (.iastore, 1) := by decide +kernel
theorem dX7_readLineOf_43 : decode cX7_readLineOf 43 = .ok (.goto 116, 3) := by decide +kernel
theorem dX7_readLineOf_46 : decode cX7_readLineOf 46 = .ok (.aload_n 0, 1) := by decide +kernel
theorem dX7_readLineOf_47 : decode cX7_readLineOf 47 = .ok (.getfield 26, 3) := by decide +kernel
theorem dX7_readLineOf_50 : decode cX7_readLineOf 50 = .ok (.bipush 26, 2) := by decide +kernel
theorem dX7_readLineOf_52 : decode cX7_readLineOf 52 = .ok (.aload_n 0, 1) := by decide +kernel
theorem dX7_readLineOf_53 : decode cX7_readLineOf 53 = .ok (.iconst 0, 1) := by decide +kernel
theorem dX7_readLineOf_54 : decode cX7_readLineOf 54 = .ok (.bipush 9, 2) := by decide +kernel
theorem dX7_readLineOf_56 : decode cX7_readLineOf 56 = .ok (.invokevirtual 133, 3) := by decide +kernel
theorem dX7_readLineOf_59 : decode cX7_readLineOf 59 = .ok (.iastore, 1) := by decide +kernel
theorem dX7_readLineOf_60 : decode cX7_readLineOf 60 = .ok (.goto 99, 3) := by decide +kernel
theorem dX7_readLineOf_63 : decode cX7_readLineOf 63 = .ok (.aload_n 0, 1) := by decide +kernel
theorem dX7_readLineOf_64 : decode cX7_readLineOf 64 = .ok (.getfield 26, 3) := by decide +kernel
theorem dX7_readLineOf_67 : decode cX7_readLineOf 67 = .ok (.bipush 28, 2) := by decide +kernel
theorem dX7_readLineOf_69 : decode cX7_readLineOf 69 = .ok (.aload_n 0, 1) := by decide +kernel
theorem dX7_readLineOf_70 : decode cX7_readLineOf 70 = .ok (.getfield 26, 3) := by decide +kernel
theorem dX7_readLineOf_73 : decode cX7_readLineOf 73 = .ok (.bipush 27, 2) := by decide +kernel
theorem dX7_readLineOf_75 : decode cX7_readLineOf 75 = .ok (.iaload, 1) := by decide +kernel
theorem dX7_readLineOf_76 : decode cX7_readLineOf 76 = .ok (.iadd, 1) := by decide +kernel
theorem dX7_readLineOf_77 : decode cX7_readLineOf 77 = .ok (.aload_n 0, 1) := by decide +kernel
theorem dX7_readLineOf_78 : decode cX7_readLineOf 78 = .ok (.invokevirtual 143, 3) := by decide +kernel
theorem dX7_readLineOf_81 : decode cX7_readLineOf 81 = .ok (.iastore, 1) := by decide +kernel
theorem dX7_readLineOf_82 : decode cX7_readLineOf 82 = .ok (.aload_n 0, 1) := by decide +kernel
theorem dX7_readLineOf_83 : decode cX7_readLineOf 83 = .ok (.getfield 26, 3) := by decide +kernel
theorem dX7_readLineOf_86 : decode cX7_readLineOf 86 = .ok (.bipush 27, 2) := by decide +kernel
theorem dX7_readLineOf_88 : decode cX7_readLineOf 88 = .ok (.dup2, 1) := by decide +kernel
theorem dX7_readLineOf_89 : decode cX7_readLineOf 89 = .ok (.iaload, 1) := by decide +kernel
theorem dX7_readLineOf_90 : decode cX7_readLineOf 90 = .ok (.iconst 1, 1) := by decide +kernel
theorem dX7_readLineOf_91 : decode cX7_readLineOf 91 = .ok (.iadd, 1) := by decide +kernel
theorem dX7_readLineOf_92 : decode cX7_readLineOf 92 = .ok (.iastore, 1) := by decide +kernel
theorem dX7_readLineOf_93 : decode cX7_readLineOf 93 = .ok (.goto 66, 3) := by decide +kernel
theorem dX7_readLineOf_96 : decode cX7_readLineOf 96 = .ok (.aload_n 0, 1) := by decide +kernel
theorem dX7_readLineOf_97 : decode cX7_readLineOf 97 = .ok (.iconst 0, 1) := by decide +kernel
theorem dX7_readLineOf_98 : decode cX7_readLineOf 98 = .ok (.bipush 7, 2) := by decide +kernel
theorem dX7_readLineOf_100 : decode cX7_readLineOf 100 = .ok (.invokevirtual 126, 3) := by decide +kernel
theorem dX7_readLineOf_103 : decode cX7_readLineOf 103 = .ok (.istore_n 2, 1) := by decide +kernel
theorem dX7_readLineOf_104 : decode cX7_readLineOf 104 = .ok (.aload_n 0, 1) := by decide +kernel
theorem dX7_readLineOf_105 : decode cX7_readLineOf 105 = .ok (.aload_n 0, 1) := by decide +kernel
theorem dX7_readLineOf_106 : decode cX7_readLineOf 106 = .ok (.getfield 84, 3) := by decide +kernel
theorem dX7_readLineOf_109 : decode cX7_readLineOf 109 = .ok (.ifCond .ne 15, 3) := by decide +kernel
theorem dX7_readLineOf_112 : decode cX7_readLineOf 112 = .ok (.iload_n 2, 1) := by decide +kernel
theorem dX7_readLineOf_113 : decode cX7_readLineOf 113 = .ok (.aload_n 0, 1) := by decide +kernel
theorem dX7_readLineOf_114 : decode cX7_readLineOf 114 = .ok (.getfield 69, 3) := by decide +kernel
theorem dX7_readLineOf_117 : decode cX7_readLineOf 117 = .ok (.if_icmp .le 7, 3) := by decide +kernel
theorem dX7_readLineOf_120 : decode cX7_readLineOf 120 = .ok (.iload_n 2, 1) := by decide +kernel
theorem dX7_readLineOf_121 : decode cX7_readLineOf 121 = .ok (.goto 7, 3) := by decide +kernel
theorem dX7_readLineOf_124 : decode cX7_readLineOf 124 = .ok (.aload_n 0, 1) := by decide +kernel
theorem dX7_readLineOf_125 : decode cX7_readLineOf 125 = .ok (.getfield 69, 3) := by decide +kernel
theorem dX7_readLineOf_128 : decode cX7_readLineOf 128 = .ok (.putfield 69, 3) := by decide +kernel
theorem dX7_readLineOf_131 : decode cX7_readLineOf 131 = .ok (.aload_n 0, 1) := by decide +kernel
theorem dX7_readLineOf_132 : decode cX7_readLineOf 132 = .ok (.getfield 26, 3) := by decide +kernel
theorem dX7_readLineOf_135 : decode cX7_readLineOf 135 = .ok (.bipush 24, 2) := by decide +kernel
theorem dX7_readLineOf_137 : decode cX7_readLineOf 137 = .ok (.aload_n 0, 1) := by decide +kernel
theorem dX7_readLineOf_138 : decode cX7_readLineOf 138 = .ok (.aload_n 0, 1) := by decide +kernel
theorem dX7_readLineOf_139 : decode cX7_readLineOf 139 = .ok (.getfield 26, 3) := by decide +kernel
theorem dX7_readLineOf_142 : decode cX7_readLineOf 142 = .ok (.bipush 24, 2) := by decide +kernel
theorem dX7_readLineOf_144 : decode cX7_readLineOf 144 = .ok (.iaload, 1) := by decide +kernel
theorem dX7_readLineOf_145 : decode cX7_readLineOf 145 = .ok (.bipush 7, 2) := by decide +kernel
theorem dX7_readLineOf_147 : decode cX7_readLineOf 147 = .ok (.invokevirtual 136, 3) := by decide +kernel
theorem dX7_readLineOf_150 : decode cX7_readLineOf 150 = .ok (.iastore, 1) := by decide +kernel
theorem dX7_readLineOf_151 : decode cX7_readLineOf 151 = .ok (.goto 8, 3) := by decide +kernel
theorem dX7_readLineOf_154 : decode cX7_readLineOf 154 = .ok (.aload_n 0, 1) := by decide +kernel
theorem dX7_readLineOf_155 : decode cX7_readLineOf 155 = .ok (.iload_n 1, 1) := by decide +kernel
theorem dX7_readLineOf_156 : decode cX7_readLineOf 156 = .ok (.invokevirtual 147, 3) := by decide +kernel
theorem dX7_readLineOf_159 : decode cX7_readLineOf 159 = .ok (.return_, 1) := by decide +kernel
theorem dX7_readLine_0 : decode cX7_readLine 0 = .ok (.aload_n 0, 1) := by decide +kernel
theorem dX7_readLine_1 : decode cX7_readLine 1 = .ok (.getfield 108, 3) := by decide +kernel
theorem dX7_readLine_4 : decode cX7_readLine 4 = .ok (.iconst 1, 1) := by decide +kernel
theorem dX7_readLine_5 : decode cX7_readLine 5 = .ok (.if_icmp .ne 10, 3) := by decide +kernel
theorem dX7_readLine_8 : decode cX7_readLine 8 = .ok (.aload_n 0, 1) := by decide +kernel
theorem dX7_readLine_9 : decode cX7_readLine 9 = .ok (.invokevirtual 151, 3) := by decide +kernel
theorem dX7_readLine_12 : decode cX7_readLine 12 = .ok (.goto 5, 3) := by decide +kernel
theorem dX7_readLine_15 : decode cX7_readLine 15 = .ok (.bipush (-4), 2) := by decide +kernel
theorem dX7_readLine_17 : decode cX7_readLine 17 = .ok (.istore_n 1, 1) := by decide +kernel
theorem dX7_readLine_18 : decode cX7_readLine 18 = .ok (.aload_n 0, 1) := by decide +kernel
theorem dX7_readLine_19 : decode cX7_readLine 19 = .ok (.iload_n 1, 1) := by decide +kernel
theorem dX7_readLine_20 : decode cX7_readLine 20 = .ok (.bipush (-4), 2) := by decide +kernel
theorem dX7_readLine_22 : decode cX7_readLine 22 = .ok (.if_icmp .eq 7, 3) := by decide +kernel
theorem dX7_readLine_25 : decode cX7_readLine 25 = .ok (.iconst 1, 1) := by decide +kernel
theorem dX7_readLine_26 : decode cX7_readLine 26 = .ok (.goto 4, 3) := by decide +kernel
theorem dX7_readLine_29 : decode cX7_readLine 29 = .ok (.iconst 0, 1) := by decide +kernel
theorem dX7_readLine_30 : decode cX7_readLine 30 = .ok (.iconst 2, 1) := by decide +kernel
theorem dX7_readLine_31 : decode cX7_readLine 31 = .ok (.invokevirtual 122, 3) := by decide +kernel
theorem dX7_readLine_34 : decode cX7_readLine 34 = .ok (.aload_n 0, 1) := by decide +kernel
theorem dX7_readLine_35 : decode cX7_readLine 35 = .ok (.iload_n 1, 1) := by decide +kernel
theorem dX7_readLine_36 : decode cX7_readLine 36 = .ok (.iconst 2, 1) := by decide +kernel
theorem dX7_readLine_37 : decode cX7_readLine 37 = .ok (.if_icmp .gt 12, 3) := by decide +kernel
theorem dX7_readLine_40 : decode cX7_readLine 40 = .ok (.aload_n 0, 1) := by decide +kernel
theorem dX7_readLine_41 : decode cX7_readLine 41 = .ok (.getfield 62, 3) := by decide +kernel
theorem dX7_readLine_44 : decode cX7_readLine 44 = .ok (.bipush 8, 2) := by decide +kernel
theorem dX7_readLine_46 : decode cX7_readLine 46 = .ok (.if_icmp .ge 24, 3) := by decide +kernel
theorem dX7_readLine_49 : decode cX7_readLine 49 = .ok (.iload_n 1, 1) := by decide +kernel
theorem dX7_readLine_50 : decode cX7_readLine 50 = .ok (.iconst 5, 1) := by decide +kernel
theorem dX7_readLine_51 : decode cX7_readLine 51 = .ok (.if_icmp .ne 15, 3) := by decide +kernel
theorem dX7_readLine_54 : decode cX7_readLine 54 = .ok (.aload_n 0, 1) := by decide +kernel
theorem dX7_readLine_55 : decode cX7_readLine 55 = .ok (.getfield 26, 3) := by decide +kernel
theorem dX7_readLine_58 : decode cX7_readLine 58 = .ok (.bipush 27, 2) := by decide +kernel
theorem dX7_readLine_60 : decode cX7_readLine 60 = .ok (.iaload, 1) := by decide +kernel
theorem dX7_readLine_61 : decode cX7_readLine 61 = .ok (.bipush 6, 2) := by decide +kernel
theorem dX7_readLine_63 : decode cX7_readLine 63 = .ok (.if_icmp .ge 7, 3) := by decide +kernel
theorem dX7_readLine_66 : decode cX7_readLine 66 = .ok (.iconst 1, 1) := by decide +kernel
theorem dX7_readLine_67 : decode cX7_readLine 67 = .ok (.goto 4, 3) := by decide +kernel
theorem dX7_readLine_70 : decode cX7_readLine 70 = .ok (.iconst 0, 1) := by decide +kernel
theorem dX7_readLine_71 : decode cX7_readLine 71 = .ok (.iconst 5, 1) := by decide +kernel
theorem dX7_readLine_72 : decode cX7_readLine 72 = .ok (.invokevirtual 122, 3) := by decide +kernel
theorem dX7_readLine_75 : decode cX7_readLine 75 = .ok (.aload_n 0, 1) := by decide +kernel
theorem dX7_readLine_76 : decode cX7_readLine 76 = .ok (.getfield 84, 3) := by decide +kernel
theorem dX7_readLine_79 : decode cX7_readLine 79 = .ok (.ifCond .ne 50, 3) := by decide +kernel
theorem dX7_readLine_82 : decode cX7_readLine 82 = .ok (.iload_n 1, 1) := by decide +kernel
theorem dX7_readLine_83 : decode cX7_readLine 83 = .ok (.i2l, 1) := by decide +kernel
theorem dX7_readLine_84 : decode cX7_readLine 84 = .ok (.ldc2_w 154, 3) := by decide +kernel
theorem dX7_readLine_87 : decode cX7_readLine 87 = .ok (.ldc2_w 156, 3) := by decide +kernel
theorem dX7_readLine_90 : decode cX7_readLine 90 = .ok (.invokestatic 77, 3) := by decide +kernel
theorem dX7_readLine_93 : decode cX7_readLine 93 = .ok (.ifCond .eq 36, 3) := by decide +kernel
theorem dX7_readLine_96 : decode cX7_readLine 96 = .ok (.aload_n 0, 1) := by decide +kernel
theorem dX7_readLine_97 : decode cX7_readLine 97 = .ok (.aload_n 0, 1) := by decide +kernel
theorem dX7_readLine_98 : decode cX7_readLine 98 = .ok (.getfield 66, 3) := by decide +kernel
theorem dX7_readLine_101 : decode cX7_readLine 101 = .ok (.iload_n 1, 1) := by decide +kernel
theorem dX7_readLine_102 : decode cX7_readLine 102 = .ok (.ishr, 1) := by decide +kernel
theorem dX7_readLine_103 : decode cX7_readLine 103 = .ok (.iconst 1, 1) := by decide +kernel
theorem dX7_readLine_104 : decode cX7_readLine 104 = .ok (.iand, 1) := by decide +kernel
theorem dX7_readLine_105 : decode cX7_readLine 105 = .ok (.ifCond .ne 7, 3) := by decide +kernel
theorem dX7_readLine_108 : decode cX7_readLine 108 = .ok (.iconst 1, 1) := by decide +kernel
theorem dX7_readLine_109 : decode cX7_readLine 109 = .ok (.goto 4, 3) := by decide +kernel
theorem dX7_readLine_112 : decode cX7_readLine 112 = .ok (.iconst 0, 1) := by decide +kernel
theorem dX7_readLine_113 : decode cX7_readLine 113 = .ok (.iconst 4, 1) := by decide +kernel
theorem dX7_readLine_114 : decode cX7_readLine 114 = .ok (.invokevirtual 122, 3) := by decide +kernel
theorem dX7_readLine_117 : decode cX7_readLine 117 = .ok (.aload_n 0, 1) := by decide +kernel
theorem dX7_readLine_118 : decode cX7_readLine 118 = .ok (.dup, 1) := by decide +kernel
theorem dX7_readLine_119 : decode cX7_readLine 119 = .ok (.getfield 66, 3) := by decide +kernel
theorem dX7_readLine_122 : decode cX7_readLine 122 = .ok (.iconst 1, 1) := by decide +kernel
theorem dX7_readLine_123 : decode cX7_readLine 123 = .ok (.iload_n 1, 1) := by decide +kernel
theorem dX7_readLine_124 : decode cX7_readLine 124 = .ok (.ishl, 1) := by decide +kernel
theorem dX7_readLine_125 : decode cX7_readLine 125 = .ok (.ior, 1) := by decide +kernel
theorem dX7_readLine_126 : decode cX7_readLine 126 = .ok (.putfield 66, 3) := by decide +kernel
theorem dX7_readLine_129 : decode cX7_readLine 129 = .ok (.aload_n 0, 1) := by decide +kernel
theorem dX7_readLine_130 : decode cX7_readLine 130 = .ok (.invokevirtual 130, 3) := by decide +kernel
theorem dX7_readLine_133 : decode cX7_readLine 133 = .ok (.aload_n 0, 1) := by decide +kernel
theorem dX7_readLine_134 : decode cX7_readLine 134 = .ok (.getfield 84, 3) := by decide +kernel
theorem dX7_readLine_137 : decode cX7_readLine 137 = .ok (.ifCond .le 4, 3) := by decide +kernel
theorem dX7_readLine_140 : decode cX7_readLine 140 = .ok (.return_, 1) := by decide +kernel
theorem dX7_readLine_141 : decode cX7_readLine 141 = .ok (.aload_n 0, 1) := by decide +kernel
theorem dX7_readLine_142 : decode cX7_readLine 142 = .ok (.iload_n 1, 1) := by decide +kernel
theorem dX7_readLine_143 : decode cX7_readLine 143 = .ok (.invokevirtual 158, 3) := by decide +kernel
theorem dX7_readLine_146 : decode cX7_readLine 146 = .ok (.aload_n 0, 1) := by decide +kernel
theorem dX7_readLine_147 : decode cX7_readLine 147 = .ok (.getfield 84, 3) := by decide +kernel
theorem dX7_readLine_150 : decode cX7_readLine 150 = .ok (.ifCond .ne 21, 3) := by decide +kernel
theorem dX7_readLine_153 : decode cX7_readLine 153 = .ok (.aload_n 0, 1) := by decide +kernel
theorem dX7_readLine_154 : decode cX7_readLine 154 = .ok (.aload_n 0, 1) := by decide +kernel
theorem dX7_readLine_155 : decode cX7_readLine 155 = .ok (.getfield 108, 3) := by decide +kernel
theorem dX7_readLine_158 : decode cX7_readLine 158 = .ok (.iconst 3, 1) := by decide +kernel
theorem dX7_readLine_159 : decode cX7_readLine 159 = .ok (.if_icmp .ne 7, 3) := by decide +kernel
theorem dX7_readLine_162 : decode cX7_readLine 162 = .ok (.iconst 1, 1) := by decide +kernel
theorem dX7_readLine_163 : decode cX7_readLine 163 = .ok (.goto 4, 3) := by decide +kernel
theorem dX7_readLine_166 : decode cX7_readLine 166 = .ok (.iconst 0, 1) := by decide +kernel
theorem dX7_readLine_167 : decode cX7_readLine 167 = .ok (.iconst 2, 1) := by decide +kernel
theorem dX7_readLine_168 : decode cX7_readLine 168 = .ok (.invokevirtual 122, 3) := by decide +kernel
theorem dX7_readLine_171 : decode cX7_readLine 171 = .ok (.aload_n 0, 1) := by decide +kernel
theorem dX7_readLine_172 : decode cX7_readLine 172 = .ok (.invokevirtual 130, 3) := by decide +kernel
theorem dX7_readLine_175 : decode cX7_readLine 175 = .ok (.return_, 1) := by decide +kernel
theorem dX7_text_0 : decode cX7_text 0 = .ok (.iconst 0, 1) := by decide +kernel
theorem dX7_text_1 : decode cX7_text 1 = .ok (.istore_n 1, 1) := by decide +kernel
theorem dX7_text_2 : decode cX7_text 2 = .ok (.aload_n 0, 1) := by decide +kernel
theorem dX7_text_3 : decode cX7_text 3 = .ok (.iconst 0, 1) := by decide +kernel
theorem dX7_text_4 : decode cX7_text 4 = .ok (.putfield 84, 3) := by decide +kernel
theorem dX7_text_7 : decode cX7_text 7 = .ok (.aload_n 0, 1) := by decide +kernel
theorem dX7_text_8 : decode cX7_text 8 = .ok (.iconst 0, 1) := by decide +kernel
theorem dX7_text_9 : decode cX7_text 9 = .ok (.putfield 93, 3) := by decide +kernel
theorem dX7_text_12 : decode cX7_text 12 = .ok (.aload_n 0, 1) := by decide +kernel
theorem dX7_text_13 : decode cX7_text 13 = .ok (.invokevirtual 56, 3) := by decide +kernel
theorem dX7_text_16 : decode cX7_text 16 = .ok (.aload_n 0, 1) := by decide +kernel
theorem dX7_text_17 : decode cX7_text 17 = .ok (.invokevirtual 130, 3) := by decide +kernel
theorem dX7_text_20 : decode cX7_text 20 = .ok (.aload_n 0, 1) := by decide +kernel
theorem dX7_text_21 : decode cX7_text 21 = .ok (.getfield 84, 3) := by decide +kernel
theorem dX7_text_24 : decode cX7_text 24 = .ok (.ifCond .ne 20, 3) := by decide +kernel
theorem dX7_text_27 : decode cX7_text 27 = .ok (.aload_n 0, 1) := by decide +kernel
theorem dX7_text_28 : decode cX7_text 28 = .ok (.getfield 108, 3) := by decide +kernel
theorem dX7_text_31 : decode cX7_text 31 = .ok (.ifCond .eq 13, 3) := by decide +kernel
theorem dX7_text_34 : decode cX7_text 34 = .ok (.aload_n 0, 1) := by decide +kernel
theorem dX7_text_35 : decode cX7_text 35 = .ok (.invokevirtual 161, 3) := by decide +kernel
theorem dX7_text_38 : decode cX7_text 38 = .ok (.iinc 1 1, 3) := by decide +kernel
theorem dX7_text_41 : decode cX7_text 41 = .ok (.goto (-21), 3) := by decide +kernel
theorem dX7_text_44 : decode cX7_text 44 = .ok (.aload_n 0, 1) := by decide +kernel
theorem dX7_text_45 : decode cX7_text 45 = .ok (.getfield 84, 3) := by decide +kernel
theorem dX7_text_48 : decode cX7_text 48 = .ok (.ifCond .ne 25, 3) := by decide +kernel
theorem dX7_text_51 : decode cX7_text 51 = .ok (.aload_n 0, 1) := by decide +kernel
theorem dX7_text_52 : decode cX7_text 52 = .ok (.aload_n 0, 1) := by decide +kernel
theorem dX7_text_53 : decode cX7_text 53 = .ok (.getfield 69, 3) := by decide +kernel
theorem dX7_text_56 : decode cX7_text 56 = .ok (.aload_n 0, 1) := by decide +kernel
theorem dX7_text_57 : decode cX7_text 57 = .ok (.getfield 62, 3) := by decide +kernel
theorem dX7_text_60 : decode cX7_text 60 = .ok (.if_icmp .ge 7, 3) := by decide +kernel
theorem dX7_text_63 : decode cX7_text 63 = .ok (.iconst 1, 1) := by decide +kernel
theorem dX7_text_64 : decode cX7_text 64 = .ok (.goto 4, 3) := by decide +kernel
theorem dX7_text_67 : decode cX7_text 67 = .ok (.iconst 0, 1) := by decide +kernel
theorem dX7_text_68 : decode cX7_text 68 = .ok (.bipush 6, 2) := by decide +kernel
theorem dX7_text_70 : decode cX7_text 70 = .ok (.invokevirtual 122, 3) := by decide +kernel
theorem dX7_text_73 : decode cX7_text 73 = .ok (.aload_n 0, 1) := by decide +kernel
theorem dX7_text_74 : decode cX7_text 74 = .ok (.iconst 0, 1) := by decide +kernel
theorem dX7_text_75 : decode cX7_text 75 = .ok (.putfield 81, 3) := by decide +kernel
theorem dX7_text_78 : decode cX7_text 78 = .ok (.aload_n 0, 1) := by decide +kernel
theorem dX7_text_79 : decode cX7_text 79 = .ok (.getfield 84, 3) := by decide +kernel
theorem dX7_text_82 : decode cX7_text 82 = .ok (.ifCond .le 11, 3) := by decide +kernel
theorem dX7_text_85 : decode cX7_text 85 = .ok (.bipush (-10), 2) := by decide +kernel
theorem dX7_text_87 : decode cX7_text 87 = .ok (.aload_n 0, 1) := by decide +kernel
theorem dX7_text_88 : decode cX7_text 88 = .ok (.getfield 90, 3) := by decide +kernel
theorem dX7_text_91 : decode cX7_text 91 = .ok (.isub, 1) := by decide +kernel
theorem dX7_text_92 : decode cX7_text 92 = .ok (.ireturn, 1) := by decide +kernel
theorem dX7_text_93 : decode cX7_text 93 = .ok (.aload_n 0, 1) := by decide +kernel
theorem dX7_text_94 : decode cX7_text 94 = .ok (.invokevirtual 59, 3) := by decide +kernel
theorem dX7_text_97 : decode cX7_text 97 = .ok (.iload_n 1, 1) := by decide +kernel
theorem dX7_text_98 : decode cX7_text 98 = .ok (.ireturn, 1) := by decide +kernel
theorem dX7_fault_0 : decode cX7_fault 0 = .ok (.aload_n 0, 1) := by decide +kernel
theorem dX7_fault_1 : decode cX7_fault 1 = .ok (.getfield 84, 3) := by decide +kernel
theorem dX7_fault_4 : decode cX7_fault 4 = .ok (.ireturn, 1) := by decide +kernel
theorem dX7_isClaim_0 : decode cX7_isClaim 0 = .ok (.iload_n 1, 1) := by decide +kernel
theorem dX7_isClaim_1 : decode cX7_isClaim 1 = .ok (.i2l, 1) := by decide +kernel
theorem dX7_isClaim_2 : decode cX7_isClaim 2 = .ok (.lconst 0, 1) := by decide +kernel
theorem dX7_isClaim_3 : decode cX7_isClaim 3 = .ok (.aload_n 0, 1) := by decide +kernel
theorem dX7_isClaim_4 : decode cX7_isClaim 4 = .ok (.getfield 72, 3) := by decide +kernel
theorem dX7_isClaim_7 : decode cX7_isClaim 7 = .ok (.iconst 1, 1) := by decide +kernel
theorem dX7_isClaim_8 : decode cX7_isClaim 8 = .ok (.isub, 1) := by decide +kernel
theorem dX7_isClaim_9 : decode cX7_isClaim 9 = .ok (.i2l, 1) := by decide +kernel
theorem dX7_isClaim_10 : decode cX7_isClaim 10 = .ok (.invokestatic 77, 3) := by decide +kernel
theorem dX7_isClaim_13 : decode cX7_isClaim 13 = .ok (.ireturn, 1) := by decide +kernel
theorem dX7_every_0 : decode cX7_every 0 = .ok (.iconst 1, 1) := by decide +kernel
theorem dX7_every_1 : decode cX7_every 1 = .ok (.aload_n 0, 1) := by decide +kernel
theorem dX7_every_2 : decode cX7_every 2 = .ok (.getfield 72, 3) := by decide +kernel
theorem dX7_every_5 : decode cX7_every 5 = .ok (.ishl, 1) := by decide +kernel
theorem dX7_every_6 : decode cX7_every 6 = .ok (.iconst 1, 1) := by decide +kernel
theorem dX7_every_7 : decode cX7_every 7 = .ok (.isub, 1) := by decide +kernel
theorem dX7_every_8 : decode cX7_every 8 = .ok (.ireturn, 1) := by decide +kernel
theorem dX7_isPart_0 : decode cX7_isPart 0 = .ok (.iload_n 0, 1) := by decide +kernel
theorem dX7_isPart_1 : decode cX7_isPart 1 = .ok (.i2l, 1) := by decide +kernel
theorem dX7_isPart_2 : decode cX7_isPart 2 = .ok (.lconst 0, 1) := by decide +kernel
theorem dX7_isPart_3 : decode cX7_isPart 3 = .ok (.lconst 1, 1) := by decide +kernel
theorem dX7_isPart_4 : decode cX7_isPart 4 = .ok (.invokestatic 77, 3) := by decide +kernel
theorem dX7_isPart_7 : decode cX7_isPart 7 = .ok (.ireturn, 1) := by decide +kernel
theorem dX7_bitsOf_0 : decode cX7_bitsOf 0 = .ok (.iconst 0, 1) := by decide +kernel
theorem dX7_bitsOf_1 : decode cX7_bitsOf 1 = .ok (.istore_n 1, 1) := by decide +kernel
theorem dX7_bitsOf_2 : decode cX7_bitsOf 2 = .ok (.iconst 0, 1) := by decide +kernel
theorem dX7_bitsOf_3 : decode cX7_bitsOf 3 = .ok (.istore_n 2, 1) := by decide +kernel
theorem dX7_bitsOf_4 : decode cX7_bitsOf 4 = .ok (.iload_n 2, 1) := by decide +kernel
theorem dX7_bitsOf_5 : decode cX7_bitsOf 5 = .ok (.bipush 8, 2) := by decide +kernel
theorem dX7_bitsOf_7 : decode cX7_bitsOf 7 = .ok (.if_icmp .ge 17, 3) := by decide +kernel
theorem dX7_bitsOf_10 : decode cX7_bitsOf 10 = .ok (.iload_n 1, 1) := by decide +kernel
theorem dX7_bitsOf_11 : decode cX7_bitsOf 11 = .ok (.iload_n 0, 1) := by decide +kernel
theorem dX7_bitsOf_12 : decode cX7_bitsOf 12 = .ok (.iload_n 2, 1) := by decide +kernel
theorem dX7_bitsOf_13 : decode cX7_bitsOf 13 = .ok (.ishr, 1) := by decide +kernel
theorem dX7_bitsOf_14 : decode cX7_bitsOf 14 = .ok (.iconst 1, 1) := by decide +kernel
theorem dX7_bitsOf_15 : decode cX7_bitsOf 15 = .ok (.iand, 1) := by decide +kernel
theorem dX7_bitsOf_16 : decode cX7_bitsOf 16 = .ok (.iadd, 1) := by decide +kernel
theorem dX7_bitsOf_17 : decode cX7_bitsOf 17 = .ok (.istore_n 1, 1) := by decide +kernel
theorem dX7_bitsOf_18 : decode cX7_bitsOf 18 = .ok (.iinc 2 1, 3) := by decide +kernel
theorem dX7_bitsOf_21 : decode cX7_bitsOf 21 = .ok (.goto (-17), 3) := by decide +kernel
theorem dX7_bitsOf_24 : decode cX7_bitsOf 24 = .ok (.iload_n 1, 1) := by decide +kernel
theorem dX7_bitsOf_25 : decode cX7_bitsOf 25 = .ok (.ireturn, 1) := by decide +kernel
theorem dX7_standing_0 : decode cX7_standing 0 = .ok (.iconst 0, 1) := by decide +kernel
theorem dX7_standing_1 : decode cX7_standing 1 = .ok (.istore_n 2, 1) := by decide +kernel
theorem dX7_standing_2 : decode cX7_standing 2 = .ok (.iconst 0, 1) := by decide +kernel
theorem dX7_standing_3 : decode cX7_standing 3 = .ok (.istore_n 3, 1) := by decide +kernel
theorem dX7_standing_4 : decode cX7_standing 4 = .ok (.iload_n 3, 1) := by decide +kernel
theorem dX7_standing_5 : decode cX7_standing 5 = .ok (.aload_n 0, 1) := by decide +kernel
theorem dX7_standing_6 : decode cX7_standing 6 = .ok (.getfield 72, 3) := by decide +kernel
theorem dX7_standing_9 : decode cX7_standing 9 = .ok (.if_icmp .ge 64, 3) := by decide +kernel
theorem dX7_standing_12 : decode cX7_standing 12 = .ok (.iload_n 1, 1) := by decide +kernel
theorem dX7_standing_13 : decode cX7_standing 13 = .ok (.iload_n 3, 1) := by decide +kernel
theorem dX7_standing_14 : decode cX7_standing 14 = .ok (.ishr, 1) := by decide +kernel
theorem dX7_standing_15 : decode cX7_standing 15 = .ok (.iconst 1, 1) := by decide +kernel
end
section
theorem dX7_standing_16 : decode cX7_standing 16 = .ok (.iand, 1) := by decide +kernel
theorem dX7_standing_17 : decode cX7_standing 17 = .ok (.iconst 1, 1) := by decide +kernel
theorem dX7_standing_18 : decode cX7_standing 18 = .ok (.if_icmp .ne 36, 3) := by decide +kernel
theorem dX7_standing_21 : decode cX7_standing 21 = .ok (.aload_n 0, 1) := by decide +kernel
theorem dX7_standing_22 : decode cX7_standing 22 = .ok (.getfield 7, 3) := by decide +kernel
theorem dX7_standing_25 : decode cX7_standing 25 = .ok (.iconst 0, 1) := by decide +kernel
theorem dX7_standing_26 : decode cX7_standing 26 = .ok (.iload_n 3, 1) := by decide +kernel
theorem dX7_standing_27 : decode cX7_standing 27 = .ok (.iadd, 1) := by decide +kernel
theorem dX7_standing_28 : decode cX7_standing 28 = .ok (.iaload, 1) := by decide +kernel
theorem dX7_standing_29 : decode cX7_standing 29 = .ok (.iload_n 2, 1) := by decide +kernel
theorem dX7_standing_30 : decode cX7_standing 30 = .ok (.iconst (-1), 1) := by decide +kernel
theorem dX7_standing_31 : decode cX7_standing 31 = .ok (.ixor, 1) := by decide +kernel
theorem dX7_standing_32 : decode cX7_standing 32 = .ok (.iand, 1) := by decide +kernel
theorem dX7_standing_33 : decode cX7_standing 33 = .ok (.ifCond .ne 21, 3) := by decide +kernel
theorem dX7_standing_36 : decode cX7_standing 36 = .ok (.aload_n 0, 1) := by decide +kernel
theorem dX7_standing_37 : decode cX7_standing 37 = .ok (.getfield 7, 3) := by decide +kernel
theorem dX7_standing_40 : decode cX7_standing 40 = .ok (.bipush 8, 2) := by decide +kernel
theorem dX7_standing_42 : decode cX7_standing 42 = .ok (.iload_n 3, 1) := by decide +kernel
theorem dX7_standing_43 : decode cX7_standing 43 = .ok (.iadd, 1) := by decide +kernel
theorem dX7_standing_44 : decode cX7_standing 44 = .ok (.iaload, 1) := by decide +kernel
theorem dX7_standing_45 : decode cX7_standing 45 = .ok (.iload_n 2, 1) := by decide +kernel
theorem dX7_standing_46 : decode cX7_standing 46 = .ok (.iand, 1) := by decide +kernel
theorem dX7_standing_47 : decode cX7_standing 47 = .ok (.ifCond .ne 7, 3) := by decide +kernel
theorem dX7_standing_50 : decode cX7_standing 50 = .ok (.iconst 1, 1) := by decide +kernel
theorem dX7_standing_51 : decode cX7_standing 51 = .ok (.goto 4, 3) := by decide +kernel
theorem dX7_standing_54 : decode cX7_standing 54 = .ok (.iconst 0, 1) := by decide +kernel
theorem dX7_standing_55 : decode cX7_standing 55 = .ok (.istore 4, 2) := by decide +kernel
theorem dX7_standing_57 : decode cX7_standing 57 = .ok (.iload_n 2, 1) := by decide +kernel
theorem dX7_standing_58 : decode cX7_standing 58 = .ok (.iload 4, 2) := by decide +kernel
theorem dX7_standing_60 : decode cX7_standing 60 = .ok (.invokestatic 164, 3) := by decide +kernel
theorem dX7_standing_63 : decode cX7_standing 63 = .ok (.iload_n 3, 1) := by decide +kernel
theorem dX7_standing_64 : decode cX7_standing 64 = .ok (.ishl, 1) := by decide +kernel
theorem dX7_standing_65 : decode cX7_standing 65 = .ok (.ior, 1) := by decide +kernel
theorem dX7_standing_66 : decode cX7_standing 66 = .ok (.istore_n 2, 1) := by decide +kernel
theorem dX7_standing_67 : decode cX7_standing 67 = .ok (.iinc 3 1, 3) := by decide +kernel
theorem dX7_standing_70 : decode cX7_standing 70 = .ok (.goto (-66), 3) := by decide +kernel
theorem dX7_standing_73 : decode cX7_standing 73 = .ok (.iload_n 2, 1) := by decide +kernel
theorem dX7_standing_74 : decode cX7_standing 74 = .ok (.ireturn, 1) := by decide +kernel
theorem dX7_endStands_0 : decode cX7_endStands 0 = .ok (.aload_n 0, 1) := by decide +kernel
theorem dX7_endStands_1 : decode cX7_endStands 1 = .ok (.getfield 72, 3) := by decide +kernel
theorem dX7_endStands_4 : decode cX7_endStands 4 = .ok (.ifCond .le 26, 3) := by decide +kernel
theorem dX7_endStands_7 : decode cX7_endStands 7 = .ok (.aload_n 0, 1) := by decide +kernel
theorem dX7_endStands_8 : decode cX7_endStands 8 = .ok (.iload_n 1, 1) := by decide +kernel
theorem dX7_endStands_9 : decode cX7_endStands 9 = .ok (.invokevirtual 168, 3) := by decide +kernel
theorem dX7_endStands_12 : decode cX7_endStands 12 = .ok (.aload_n 0, 1) := by decide +kernel
theorem dX7_endStands_13 : decode cX7_endStands 13 = .ok (.getfield 7, 3) := by decide +kernel
theorem dX7_endStands_16 : decode cX7_endStands 16 = .ok (.bipush 25, 2) := by decide +kernel
theorem dX7_endStands_18 : decode cX7_endStands 18 = .ok (.iaload, 1) := by decide +kernel
theorem dX7_endStands_19 : decode cX7_endStands 19 = .ok (.ishr, 1) := by decide +kernel
theorem dX7_endStands_20 : decode cX7_endStands 20 = .ok (.iconst 1, 1) := by decide +kernel
theorem dX7_endStands_21 : decode cX7_endStands 21 = .ok (.iand, 1) := by decide +kernel
theorem dX7_endStands_22 : decode cX7_endStands 22 = .ok (.iconst 1, 1) := by decide +kernel
theorem dX7_endStands_23 : decode cX7_endStands 23 = .ok (.if_icmp .ne 7, 3) := by decide +kernel
theorem dX7_endStands_26 : decode cX7_endStands 26 = .ok (.iconst 1, 1) := by decide +kernel
theorem dX7_endStands_27 : decode cX7_endStands 27 = .ok (.goto 4, 3) := by decide +kernel
theorem dX7_endStands_30 : decode cX7_endStands 30 = .ok (.iconst 0, 1) := by decide +kernel
theorem dX7_endStands_31 : decode cX7_endStands 31 = .ok (.ireturn, 1) := by decide +kernel
theorem dX7_inTime_0 : decode cX7_inTime 0 = .ok (.iload_n 2, 1) := by decide +kernel
theorem dX7_inTime_1 : decode cX7_inTime 1 = .ok (.i2l, 1) := by decide +kernel
theorem dX7_inTime_2 : decode cX7_inTime 2 = .ok (.aload_n 0, 1) := by decide +kernel
theorem dX7_inTime_3 : decode cX7_inTime 3 = .ok (.getfield 20, 3) := by decide +kernel
theorem dX7_inTime_6 : decode cX7_inTime 6 = .ok (.iload_n 1, 1) := by decide +kernel
theorem dX7_inTime_7 : decode cX7_inTime 7 = .ok (.iaload, 1) := by decide +kernel
theorem dX7_inTime_8 : decode cX7_inTime 8 = .ok (.i2l, 1) := by decide +kernel
theorem dX7_inTime_9 : decode cX7_inTime 9 = .ok (.aload_n 0, 1) := by decide +kernel
theorem dX7_inTime_10 : decode cX7_inTime 10 = .ok (.getfield 23, 3) := by decide +kernel
theorem dX7_inTime_13 : decode cX7_inTime 13 = .ok (.iload_n 1, 1) := by decide +kernel
theorem dX7_inTime_14 : decode cX7_inTime 14 = .ok (.iaload, 1) := by decide +kernel
theorem dX7_inTime_15 : decode cX7_inTime 15 = .ok (.i2l, 1) := by decide +kernel
theorem dX7_inTime_16 : decode cX7_inTime 16 = .ok (.invokestatic 77, 3) := by decide +kernel
theorem dX7_inTime_19 : decode cX7_inTime 19 = .ok (.ireturn, 1) := by decide +kernel
theorem dX7_rule_0 : decode cX7_rule 0 = .ok (.iload_n 1, 1) := by decide +kernel
theorem dX7_rule_1 : decode cX7_rule 1 = .ok (.tableswitch 88 0 5 #[39, 44, 52, 60, 68, 80], 39) := by decide +kernel
theorem dX7_rule_40 : decode cX7_rule 40 = .ok (.aload_n 0, 1) := by decide +kernel
theorem dX7_rule_41 : decode cX7_rule 41 = .ok (.getfield 72, 3) := by decide +kernel
theorem dX7_rule_44 : decode cX7_rule 44 = .ok (.ireturn, 1) := by decide +kernel
theorem dX7_rule_45 : decode cX7_rule 45 = .ok (.aload_n 0, 1) := by decide +kernel
theorem dX7_rule_46 : decode cX7_rule 46 = .ok (.getfield 7, 3) := by decide +kernel
theorem dX7_rule_49 : decode cX7_rule 49 = .ok (.bipush 25, 2) := by decide +kernel
theorem dX7_rule_51 : decode cX7_rule 51 = .ok (.iaload, 1) := by decide +kernel
theorem dX7_rule_52 : decode cX7_rule 52 = .ok (.ireturn, 1) := by decide +kernel
theorem dX7_rule_53 : decode cX7_rule 53 = .ok (.aload_n 0, 1) := by decide +kernel
theorem dX7_rule_54 : decode cX7_rule 54 = .ok (.getfield 7, 3) := by decide +kernel
theorem dX7_rule_57 : decode cX7_rule 57 = .ok (.bipush 26, 2) := by decide +kernel
theorem dX7_rule_59 : decode cX7_rule 59 = .ok (.iaload, 1) := by decide +kernel
theorem dX7_rule_60 : decode cX7_rule 60 = .ok (.ireturn, 1) := by decide +kernel
theorem dX7_rule_61 : decode cX7_rule 61 = .ok (.aload_n 0, 1) := by decide +kernel
theorem dX7_rule_62 : decode cX7_rule 62 = .ok (.getfield 7, 3) := by decide +kernel
theorem dX7_rule_65 : decode cX7_rule 65 = .ok (.bipush 24, 2) := by decide +kernel
theorem dX7_rule_67 : decode cX7_rule 67 = .ok (.iaload, 1) := by decide +kernel
theorem dX7_rule_68 : decode cX7_rule 68 = .ok (.ireturn, 1) := by decide +kernel
theorem dX7_rule_69 : decode cX7_rule 69 = .ok (.aload_n 0, 1) := by decide +kernel
theorem dX7_rule_70 : decode cX7_rule 70 = .ok (.aload_n 0, 1) := by decide +kernel
theorem dX7_rule_71 : decode cX7_rule 71 = .ok (.getfield 7, 3) := by decide +kernel
theorem dX7_rule_74 : decode cX7_rule 74 = .ok (.bipush 24, 2) := by decide +kernel
theorem dX7_rule_76 : decode cX7_rule 76 = .ok (.iaload, 1) := by decide +kernel
theorem dX7_rule_77 : decode cX7_rule 77 = .ok (.invokevirtual 168, 3) := by decide +kernel
theorem dX7_rule_80 : decode cX7_rule 80 = .ok (.ireturn, 1) := by decide +kernel
theorem dX7_rule_81 : decode cX7_rule 81 = .ok (.aload_n 0, 1) := by decide +kernel
theorem dX7_rule_82 : decode cX7_rule 82 = .ok (.getfield 7, 3) := by decide +kernel
theorem dX7_rule_85 : decode cX7_rule 85 = .ok (.bipush 27, 2) := by decide +kernel
theorem dX7_rule_87 : decode cX7_rule 87 = .ok (.iaload, 1) := by decide +kernel
theorem dX7_rule_88 : decode cX7_rule 88 = .ok (.ireturn, 1) := by decide +kernel
theorem dX7_rule_89 : decode cX7_rule 89 = .ok (.iconst (-1), 1) := by decide +kernel
theorem dX7_rule_90 : decode cX7_rule 90 = .ok (.ireturn, 1) := by decide +kernel
theorem dX7_claim_0 : decode cX7_claim 0 = .ok (.aload_n 0, 1) := by decide +kernel
theorem dX7_claim_1 : decode cX7_claim 1 = .ok (.iload_n 1, 1) := by decide +kernel
theorem dX7_claim_2 : decode cX7_claim 2 = .ok (.invokevirtual 171, 3) := by decide +kernel
theorem dX7_claim_5 : decode cX7_claim 5 = .ok (.ifCond .ne 5, 3) := by decide +kernel
theorem dX7_claim_8 : decode cX7_claim 8 = .ok (.iconst (-1), 1) := by decide +kernel
theorem dX7_claim_9 : decode cX7_claim 9 = .ok (.ireturn, 1) := by decide +kernel
theorem dX7_claim_10 : decode cX7_claim 10 = .ok (.iload_n 2, 1) := by decide +kernel
theorem dX7_claim_11 : decode cX7_claim 11 = .ok (.tableswitch 107 0 6 #[41, 48, 55, 62, 72, 81, 91], 41) := by decide +kernel
theorem dX7_claim_52 : decode cX7_claim 52 = .ok (.aload_n 0, 1) := by decide +kernel
theorem dX7_claim_53 : decode cX7_claim 53 = .ok (.getfield 17, 3) := by decide +kernel
theorem dX7_claim_56 : decode cX7_claim 56 = .ok (.iload_n 1, 1) := by decide +kernel
theorem dX7_claim_57 : decode cX7_claim 57 = .ok (.iaload, 1) := by decide +kernel
theorem dX7_claim_58 : decode cX7_claim 58 = .ok (.ireturn, 1) := by decide +kernel
theorem dX7_claim_59 : decode cX7_claim 59 = .ok (.aload_n 0, 1) := by decide +kernel
theorem dX7_claim_60 : decode cX7_claim 60 = .ok (.getfield 20, 3) := by decide +kernel
theorem dX7_claim_63 : decode cX7_claim 63 = .ok (.iload_n 1, 1) := by decide +kernel
theorem dX7_claim_64 : decode cX7_claim 64 = .ok (.iaload, 1) := by decide +kernel
theorem dX7_claim_65 : decode cX7_claim 65 = .ok (.ireturn, 1) := by decide +kernel
theorem dX7_claim_66 : decode cX7_claim 66 = .ok (.aload_n 0, 1) := by decide +kernel
theorem dX7_claim_67 : decode cX7_claim 67 = .ok (.getfield 23, 3) := by decide +kernel
theorem dX7_claim_70 : decode cX7_claim 70 = .ok (.iload_n 1, 1) := by decide +kernel
theorem dX7_claim_71 : decode cX7_claim 71 = .ok (.iaload, 1) := by decide +kernel
theorem dX7_claim_72 : decode cX7_claim 72 = .ok (.ireturn, 1) := by decide +kernel
theorem dX7_claim_73 : decode cX7_claim 73 = .ok (.aload_n 0, 1) := by decide +kernel
theorem dX7_claim_74 : decode cX7_claim 74 = .ok (.getfield 7, 3) := by decide +kernel
theorem dX7_claim_77 : decode cX7_claim 77 = .ok (.bipush 16, 2) := by decide +kernel
theorem dX7_claim_79 : decode cX7_claim 79 = .ok (.iload_n 1, 1) := by decide +kernel
theorem dX7_claim_80 : decode cX7_claim 80 = .ok (.iadd, 1) := by decide +kernel
theorem dX7_claim_81 : decode cX7_claim 81 = .ok (.iaload, 1) := by decide +kernel
theorem dX7_claim_82 : decode cX7_claim 82 = .ok (.ireturn, 1) := by decide +kernel
theorem dX7_claim_83 : decode cX7_claim 83 = .ok (.aload_n 0, 1) := by decide +kernel
theorem dX7_claim_84 : decode cX7_claim 84 = .ok (.getfield 7, 3) := by decide +kernel
theorem dX7_claim_87 : decode cX7_claim 87 = .ok (.iconst 0, 1) := by decide +kernel
theorem dX7_claim_88 : decode cX7_claim 88 = .ok (.iload_n 1, 1) := by decide +kernel
theorem dX7_claim_89 : decode cX7_claim 89 = .ok (.iadd, 1) := by decide +kernel
theorem dX7_claim_90 : decode cX7_claim 90 = .ok (.iaload, 1) := by decide +kernel
theorem dX7_claim_91 : decode cX7_claim 91 = .ok (.ireturn, 1) := by decide +kernel
theorem dX7_claim_92 : decode cX7_claim 92 = .ok (.aload_n 0, 1) := by decide +kernel
theorem dX7_claim_93 : decode cX7_claim 93 = .ok (.getfield 7, 3) := by decide +kernel
theorem dX7_claim_96 : decode cX7_claim 96 = .ok (.bipush 8, 2) := by decide +kernel
theorem dX7_claim_98 : decode cX7_claim 98 = .ok (.iload_n 1, 1) := by decide +kernel
theorem dX7_claim_99 : decode cX7_claim 99 = .ok (.iadd, 1) := by decide +kernel
theorem dX7_claim_100 : decode cX7_claim 100 = .ok (.iaload, 1) := by decide +kernel
theorem dX7_claim_101 : decode cX7_claim 101 = .ok (.ireturn, 1) := by decide +kernel
theorem dX7_claim_102 : decode cX7_claim 102 = .ok (.aload_n 0, 1) := by decide +kernel
theorem dX7_claim_103 : decode cX7_claim 103 = .ok (.aload_n 0, 1) := by decide +kernel
theorem dX7_claim_104 : decode cX7_claim 104 = .ok (.getfield 7, 3) := by decide +kernel
theorem dX7_claim_107 : decode cX7_claim 107 = .ok (.bipush 24, 2) := by decide +kernel
theorem dX7_claim_109 : decode cX7_claim 109 = .ok (.iaload, 1) := by decide +kernel
theorem dX7_claim_110 : decode cX7_claim 110 = .ok (.invokevirtual 168, 3) := by decide +kernel
theorem dX7_claim_113 : decode cX7_claim 113 = .ok (.iload_n 1, 1) := by decide +kernel
theorem dX7_claim_114 : decode cX7_claim 114 = .ok (.ishr, 1) := by decide +kernel
theorem dX7_claim_115 : decode cX7_claim 115 = .ok (.iconst 1, 1) := by decide +kernel
theorem dX7_claim_116 : decode cX7_claim 116 = .ok (.iand, 1) := by decide +kernel
theorem dX7_claim_117 : decode cX7_claim 117 = .ok (.ireturn, 1) := by decide +kernel
theorem dX7_claim_118 : decode cX7_claim 118 = .ok (.iconst (-1), 1) := by decide +kernel
theorem dX7_claim_119 : decode cX7_claim 119 = .ok (.ireturn, 1) := by decide +kernel
theorem dX7_plan_0 : decode cX7_plan 0 = .ok (.iload_n 1, 1) := by decide +kernel
theorem dX7_plan_1 : decode cX7_plan 1 = .ok (.i2l, 1) := by decide +kernel
theorem dX7_plan_2 : decode cX7_plan 2 = .ok (.lconst 0, 1) := by decide +kernel
theorem dX7_plan_3 : decode cX7_plan 3 = .ok (.aload_n 0, 1) := by decide +kernel
theorem dX7_plan_4 : decode cX7_plan 4 = .ok (.getfield 7, 3) := by decide +kernel
theorem dX7_plan_7 : decode cX7_plan 7 = .ok (.bipush 27, 2) := by decide +kernel
theorem dX7_plan_9 : decode cX7_plan 9 = .ok (.iaload, 1) := by decide +kernel
theorem dX7_plan_10 : decode cX7_plan 10 = .ok (.iconst 1, 1) := by decide +kernel
theorem dX7_plan_11 : decode cX7_plan 11 = .ok (.isub, 1) := by decide +kernel
theorem dX7_plan_12 : decode cX7_plan 12 = .ok (.i2l, 1) := by decide +kernel
theorem dX7_plan_13 : decode cX7_plan 13 = .ok (.invokestatic 77, 3) := by decide +kernel
theorem dX7_plan_16 : decode cX7_plan 16 = .ok (.ifCond .eq 15, 3) := by decide +kernel
theorem dX7_plan_19 : decode cX7_plan 19 = .ok (.aload_n 0, 1) := by decide +kernel
theorem dX7_plan_20 : decode cX7_plan 20 = .ok (.getfield 7, 3) := by decide +kernel
theorem dX7_plan_23 : decode cX7_plan 23 = .ok (.bipush 28, 2) := by decide +kernel
theorem dX7_plan_25 : decode cX7_plan 25 = .ok (.iload_n 1, 1) := by decide +kernel
theorem dX7_plan_26 : decode cX7_plan 26 = .ok (.iadd, 1) := by decide +kernel
theorem dX7_plan_27 : decode cX7_plan 27 = .ok (.iaload, 1) := by decide +kernel
theorem dX7_plan_28 : decode cX7_plan 28 = .ok (.goto 4, 3) := by decide +kernel
theorem dX7_plan_31 : decode cX7_plan 31 = .ok (.iconst (-1), 1) := by decide +kernel
theorem dX7_plan_32 : decode cX7_plan 32 = .ok (.ireturn, 1) := by decide +kernel
theorem dX7_becomes_0 : decode cX7_becomes 0 = .ok (.aload_n 0, 1) := by decide +kernel
theorem dX7_becomes_1 : decode cX7_becomes 1 = .ok (.getfield 7, 3) := by decide +kernel
theorem dX7_becomes_4 : decode cX7_becomes 4 = .ok (.iload_n 1, 1) := by decide +kernel
theorem dX7_becomes_5 : decode cX7_becomes 5 = .ok (.iaload, 1) := by decide +kernel
theorem dX7_becomes_6 : decode cX7_becomes 6 = .ok (.istore_n 3, 1) := by decide +kernel
theorem dX7_becomes_7 : decode cX7_becomes 7 = .ok (.aload_n 0, 1) := by decide +kernel
theorem dX7_becomes_8 : decode cX7_becomes 8 = .ok (.getfield 7, 3) := by decide +kernel
theorem dX7_becomes_11 : decode cX7_becomes 11 = .ok (.iload_n 1, 1) := by decide +kernel
theorem dX7_becomes_12 : decode cX7_becomes 12 = .ok (.iload_n 2, 1) := by decide +kernel
theorem dX7_becomes_13 : decode cX7_becomes 13 = .ok (.iastore, 1) := by decide +kernel
theorem dX7_becomes_14 : decode cX7_becomes 14 = .ok (.iload_n 3, 1) := by decide +kernel
theorem dX7_becomes_15 : decode cX7_becomes 15 = .ok (.ireturn, 1) := by decide +kernel
theorem dX7_say_0 : decode cX7_say 0 = .ok (.aload_n 0, 1) := by decide +kernel
theorem dX7_say_1 : decode cX7_say 1 = .ok (.iload_n 1, 1) := by decide +kernel
theorem dX7_say_2 : decode cX7_say 2 = .ok (.invokevirtual 171, 3) := by decide +kernel
theorem dX7_say_5 : decode cX7_say 5 = .ok (.ifCond .ne 5, 3) := by decide +kernel
theorem dX7_say_8 : decode cX7_say 8 = .ok (.iconst (-1), 1) := by decide +kernel
theorem dX7_say_9 : decode cX7_say 9 = .ok (.ireturn, 1) := by decide +kernel
theorem dX7_say_10 : decode cX7_say 10 = .ok (.aload_n 0, 1) := by decide +kernel
theorem dX7_say_11 : decode cX7_say 11 = .ok (.getfield 7, 3) := by decide +kernel
theorem dX7_say_14 : decode cX7_say 14 = .ok (.bipush 24, 2) := by decide +kernel
theorem dX7_say_16 : decode cX7_say 16 = .ok (.iaload, 1) := by decide +kernel
theorem dX7_say_17 : decode cX7_say 17 = .ok (.iload_n 1, 1) := by decide +kernel
theorem dX7_say_18 : decode cX7_say 18 = .ok (.ishr, 1) := by decide +kernel
theorem dX7_say_19 : decode cX7_say 19 = .ok (.iconst 1, 1) := by decide +kernel
theorem dX7_say_20 : decode cX7_say 20 = .ok (.iand, 1) := by decide +kernel
theorem dX7_say_21 : decode cX7_say 21 = .ok (.iconst 1, 1) := by decide +kernel
theorem dX7_say_22 : decode cX7_say 22 = .ok (.if_icmp .eq 18, 3) := by decide +kernel
theorem dX7_say_25 : decode cX7_say 25 = .ok (.aload_n 0, 1) := by decide +kernel
theorem dX7_say_26 : decode cX7_say 26 = .ok (.iload_n 1, 1) := by decide +kernel
theorem dX7_say_27 : decode cX7_say 27 = .ok (.aload_n 0, 1) := by decide +kernel
theorem dX7_say_28 : decode cX7_say 28 = .ok (.getfield 7, 3) := by decide +kernel
theorem dX7_say_31 : decode cX7_say 31 = .ok (.bipush 26, 2) := by decide +kernel
theorem dX7_say_33 : decode cX7_say 33 = .ok (.iaload, 1) := by decide +kernel
theorem dX7_say_34 : decode cX7_say 34 = .ok (.invokevirtual 175, 3) := by decide +kernel
theorem dX7_say_37 : decode cX7_say 37 = .ok (.ifCond .ne 6, 3) := by decide +kernel
theorem dX7_say_40 : decode cX7_say 40 = .ok (.bipush (-2), 2) := by decide +kernel
theorem dX7_say_42 : decode cX7_say 42 = .ok (.ireturn, 1) := by decide +kernel
theorem dX7_say_43 : decode cX7_say 43 = .ok (.aload_n 0, 1) := by decide +kernel
theorem dX7_say_44 : decode cX7_say 44 = .ok (.getfield 7, 3) := by decide +kernel
theorem dX7_say_47 : decode cX7_say 47 = .ok (.bipush 24, 2) := by decide +kernel
theorem dX7_say_49 : decode cX7_say 49 = .ok (.dup2, 1) := by decide +kernel
theorem dX7_say_50 : decode cX7_say 50 = .ok (.iaload, 1) := by decide +kernel
theorem dX7_say_51 : decode cX7_say 51 = .ok (.iconst 1, 1) := by decide +kernel
theorem dX7_say_52 : decode cX7_say 52 = .ok (.iload_n 1, 1) := by decide +kernel
theorem dX7_say_53 : decode cX7_say 53 = .ok (.ishl, 1) := by decide +kernel
theorem dX7_say_54 : decode cX7_say 54 = .ok (.ior, 1) := by decide +kernel
theorem dX7_say_55 : decode cX7_say 55 = .ok (.iastore, 1) := by decide +kernel
theorem dX7_say_56 : decode cX7_say 56 = .ok (.aload_n 0, 1) := by decide +kernel
theorem dX7_say_57 : decode cX7_say 57 = .ok (.aload_n 0, 1) := by decide +kernel
theorem dX7_say_58 : decode cX7_say 58 = .ok (.getfield 7, 3) := by decide +kernel
theorem dX7_say_61 : decode cX7_say 61 = .ok (.bipush 24, 2) := by decide +kernel
theorem dX7_say_63 : decode cX7_say 63 = .ok (.iaload, 1) := by decide +kernel
theorem dX7_say_64 : decode cX7_say 64 = .ok (.invokevirtual 168, 3) := by decide +kernel
theorem dX7_say_67 : decode cX7_say 67 = .ok (.invokestatic 179, 3) := by decide +kernel
theorem dX7_say_70 : decode cX7_say 70 = .ok (.ireturn, 1) := by decide +kernel
theorem dX7_drop_0 : decode cX7_drop 0 = .ok (.aload_n 0, 1) := by decide +kernel
theorem dX7_drop_1 : decode cX7_drop 1 = .ok (.iload_n 1, 1) := by decide +kernel
theorem dX7_drop_2 : decode cX7_drop 2 = .ok (.invokevirtual 171, 3) := by decide +kernel
theorem dX7_drop_5 : decode cX7_drop 5 = .ok (.ifCond .ne 5, 3) := by decide +kernel
theorem dX7_drop_8 : decode cX7_drop 8 = .ok (.iconst (-1), 1) := by decide +kernel
theorem dX7_drop_9 : decode cX7_drop 9 = .ok (.ireturn, 1) := by decide +kernel
theorem dX7_drop_10 : decode cX7_drop 10 = .ok (.aload_n 0, 1) := by decide +kernel
theorem dX7_drop_11 : decode cX7_drop 11 = .ok (.getfield 7, 3) := by decide +kernel
theorem dX7_drop_14 : decode cX7_drop 14 = .ok (.bipush 24, 2) := by decide +kernel
theorem dX7_drop_16 : decode cX7_drop 16 = .ok (.iaload, 1) := by decide +kernel
theorem dX7_drop_17 : decode cX7_drop 17 = .ok (.iload_n 1, 1) := by decide +kernel
theorem dX7_drop_18 : decode cX7_drop 18 = .ok (.ishr, 1) := by decide +kernel
theorem dX7_drop_19 : decode cX7_drop 19 = .ok (.iconst 1, 1) := by decide +kernel
theorem dX7_drop_20 : decode cX7_drop 20 = .ok (.iand, 1) := by decide +kernel
theorem dX7_drop_21 : decode cX7_drop 21 = .ok (.ifCond .ne 6, 3) := by decide +kernel
theorem dX7_drop_24 : decode cX7_drop 24 = .ok (.bipush (-2), 2) := by decide +kernel
theorem dX7_drop_26 : decode cX7_drop 26 = .ok (.ireturn, 1) := by decide +kernel
theorem dX7_drop_27 : decode cX7_drop 27 = .ok (.aload_n 0, 1) := by decide +kernel
theorem dX7_drop_28 : decode cX7_drop 28 = .ok (.getfield 7, 3) := by decide +kernel
theorem dX7_drop_31 : decode cX7_drop 31 = .ok (.bipush 24, 2) := by decide +kernel
theorem dX7_drop_33 : decode cX7_drop 33 = .ok (.dup2, 1) := by decide +kernel
theorem dX7_drop_34 : decode cX7_drop 34 = .ok (.iaload, 1) := by decide +kernel
theorem dX7_drop_35 : decode cX7_drop 35 = .ok (.iconst 1, 1) := by decide +kernel
theorem dX7_drop_36 : decode cX7_drop 36 = .ok (.iload_n 1, 1) := by decide +kernel
theorem dX7_drop_37 : decode cX7_drop 37 = .ok (.ishl, 1) := by decide +kernel
theorem dX7_drop_38 : decode cX7_drop 38 = .ok (.iconst (-1), 1) := by decide +kernel
theorem dX7_drop_39 : decode cX7_drop 39 = .ok (.ixor, 1) := by decide +kernel
theorem dX7_drop_40 : decode cX7_drop 40 = .ok (.iand, 1) := by decide +kernel
theorem dX7_drop_41 : decode cX7_drop 41 = .ok (.iastore, 1) := by decide +kernel
theorem dX7_drop_42 : decode cX7_drop 42 = .ok (.aload_n 0, 1) := by decide +kernel
theorem dX7_drop_43 : decode cX7_drop 43 = .ok (.aload_n 0, 1) := by decide +kernel
theorem dX7_drop_44 : decode cX7_drop 44 = .ok (.getfield 7, 3) := by decide +kernel
theorem dX7_drop_47 : decode cX7_drop 47 = .ok (.bipush 24, 2) := by decide +kernel
theorem dX7_drop_49 : decode cX7_drop 49 = .ok (.iaload, 1) := by decide +kernel
theorem dX7_drop_50 : decode cX7_drop 50 = .ok (.invokevirtual 168, 3) := by decide +kernel
theorem dX7_drop_53 : decode cX7_drop 53 = .ok (.invokestatic 179, 3) := by decide +kernel
theorem dX7_drop_56 : decode cX7_drop 56 = .ok (.ireturn, 1) := by decide +kernel
theorem dX7_day_0 : decode cX7_day 0 = .ok (.iload_n 1, 1) := by decide +kernel
theorem dX7_day_1 : decode cX7_day 1 = .ok (.i2l, 1) := by decide +kernel
theorem dX7_day_2 : decode cX7_day 2 = .ok (.lconst 0, 1) := by decide +kernel
theorem dX7_day_3 : decode cX7_day 3 = .ok (.ldc2_w 182, 3) := by decide +kernel
theorem dX7_day_6 : decode cX7_day 6 = .ok (.invokestatic 77, 3) := by decide +kernel
theorem dX7_day_9 : decode cX7_day 9 = .ok (.ifCond .eq 13, 3) := by decide +kernel
theorem dX7_day_12 : decode cX7_day 12 = .ok (.aload_n 0, 1) := by decide +kernel
theorem dX7_day_13 : decode cX7_day 13 = .ok (.bipush 26, 2) := by decide +kernel
theorem dX7_day_15 : decode cX7_day 15 = .ok (.iload_n 1, 1) := by decide +kernel
theorem dX7_day_16 : decode cX7_day 16 = .ok (.invokevirtual 184, 3) := by decide +kernel
theorem dX7_day_19 : decode cX7_day 19 = .ok (.goto 4, 3) := by decide +kernel
theorem dX7_day_22 : decode cX7_day 22 = .ok (.iconst (-1), 1) := by decide +kernel
theorem dX7_day_23 : decode cX7_day 23 = .ok (.ireturn, 1) := by decide +kernel
theorem dX7_aim_0 : decode cX7_aim 0 = .ok (.aload_n 0, 1) := by decide +kernel
theorem dX7_aim_1 : decode cX7_aim 1 = .ok (.iload_n 1, 1) := by decide +kernel
theorem dX7_aim_2 : decode cX7_aim 2 = .ok (.invokevirtual 171, 3) := by decide +kernel
theorem dX7_aim_5 : decode cX7_aim 5 = .ok (.ifCond .eq 13, 3) := by decide +kernel
theorem dX7_aim_8 : decode cX7_aim 8 = .ok (.aload_n 0, 1) := by decide +kernel
theorem dX7_aim_9 : decode cX7_aim 9 = .ok (.bipush 25, 2) := by decide +kernel
theorem dX7_aim_11 : decode cX7_aim 11 = .ok (.iload_n 1, 1) := by decide +kernel
theorem dX7_aim_12 : decode cX7_aim 12 = .ok (.invokevirtual 184, 3) := by decide +kernel
theorem dX7_aim_15 : decode cX7_aim 15 = .ok (.goto 4, 3) := by decide +kernel
theorem dX7_aim_18 : decode cX7_aim 18 = .ok (.iconst (-1), 1) := by decide +kernel
theorem dX7_aim_19 : decode cX7_aim 19 = .ok (.ireturn, 1) := by decide +kernel
theorem dX7_becomesBit_0 : decode cX7_becomesBit 0 = .ok (.aload_n 0, 1) := by decide +kernel
theorem dX7_becomesBit_1 : decode cX7_becomesBit 1 = .ok (.iload_n 1, 1) := by decide +kernel
theorem dX7_becomesBit_2 : decode cX7_becomesBit 2 = .ok (.invokevirtual 171, 3) := by decide +kernel
theorem dX7_becomesBit_5 : decode cX7_becomesBit 5 = .ok (.ifCond .eq 16, 3) := by decide +kernel
theorem dX7_becomesBit_8 : decode cX7_becomesBit 8 = .ok (.iload_n 2, 1) := by decide +kernel
theorem dX7_becomesBit_9 : decode cX7_becomesBit 9 = .ok (.i2l, 1) := by decide +kernel
theorem dX7_becomesBit_10 : decode cX7_becomesBit 10 = .ok (.lconst 0, 1) := by decide +kernel
theorem dX7_becomesBit_11 : decode cX7_becomesBit 11 = .ok (.iload_n 1, 1) := by decide +kernel
theorem dX7_becomesBit_12 : decode cX7_becomesBit 12 = .ok (.iconst 1, 1) := by decide +kernel
theorem dX7_becomesBit_13 : decode cX7_becomesBit 13 = .ok (.isub, 1) := by decide +kernel
theorem dX7_becomesBit_14 : decode cX7_becomesBit 14 = .ok (.i2l, 1) := by decide +kernel
theorem dX7_becomesBit_15 : decode cX7_becomesBit 15 = .ok (.invokestatic 77, 3) := by decide +kernel
theorem dX7_becomesBit_18 : decode cX7_becomesBit 18 = .ok (.ifCond .ne 5, 3) := by decide +kernel
theorem dX7_becomesBit_21 : decode cX7_becomesBit 21 = .ok (.iconst (-1), 1) := by decide +kernel
theorem dX7_becomesBit_22 : decode cX7_becomesBit 22 = .ok (.ireturn, 1) := by decide +kernel
theorem dX7_becomesBit_23 : decode cX7_becomesBit 23 = .ok (.iload_n 3, 1) := by decide +kernel
theorem dX7_becomesBit_24 : decode cX7_becomesBit 24 = .ok (.ifCond .eq 23, 3) := by decide +kernel
theorem dX7_becomesBit_27 : decode cX7_becomesBit 27 = .ok (.aload_n 0, 1) := by decide +kernel
theorem dX7_becomesBit_28 : decode cX7_becomesBit 28 = .ok (.getfield 7, 3) := by decide +kernel
theorem dX7_becomesBit_31 : decode cX7_becomesBit 31 = .ok (.iload 5, 2) := by decide +kernel
theorem dX7_becomesBit_33 : decode cX7_becomesBit 33 = .ok (.iload_n 1, 1) := by decide +kernel
theorem dX7_becomesBit_34 : decode cX7_becomesBit 34 = .ok (.iadd, 1) := by decide +kernel
theorem dX7_becomesBit_35 : decode cX7_becomesBit 35 = .ok (.iaload, 1) := by decide +kernel
theorem dX7_becomesBit_36 : decode cX7_becomesBit 36 = .ok (.iload_n 2, 1) := by decide +kernel
theorem dX7_becomesBit_37 : decode cX7_becomesBit 37 = .ok (.ishr, 1) := by decide +kernel
theorem dX7_becomesBit_38 : decode cX7_becomesBit 38 = .ok (.iconst 1, 1) := by decide +kernel
theorem dX7_becomesBit_39 : decode cX7_becomesBit 39 = .ok (.iand, 1) := by decide +kernel
theorem dX7_becomesBit_40 : decode cX7_becomesBit 40 = .ok (.iconst 1, 1) := by decide +kernel
theorem dX7_becomesBit_41 : decode cX7_becomesBit 41 = .ok (.if_icmp .ne 6, 3) := by decide +kernel
theorem dX7_becomesBit_44 : decode cX7_becomesBit 44 = .ok (.bipush (-2), 2) := by decide +kernel
theorem dX7_becomesBit_46 : decode cX7_becomesBit 46 = .ok (.ireturn, 1) := by decide +kernel
theorem dX7_becomesBit_47 : decode cX7_becomesBit 47 = .ok (.aload_n 0, 1) := by decide +kernel
theorem dX7_becomesBit_48 : decode cX7_becomesBit 48 = .ok (.getfield 7, 3) := by decide +kernel
theorem dX7_becomesBit_51 : decode cX7_becomesBit 51 = .ok (.iload 4, 2) := by decide +kernel
theorem dX7_becomesBit_53 : decode cX7_becomesBit 53 = .ok (.iload_n 1, 1) := by decide +kernel
theorem dX7_becomesBit_54 : decode cX7_becomesBit 54 = .ok (.iadd, 1) := by decide +kernel
theorem dX7_becomesBit_55 : decode cX7_becomesBit 55 = .ok (.iaload, 1) := by decide +kernel
theorem dX7_becomesBit_56 : decode cX7_becomesBit 56 = .ok (.iload_n 2, 1) := by decide +kernel
theorem dX7_becomesBit_57 : decode cX7_becomesBit 57 = .ok (.ishr, 1) := by decide +kernel
theorem dX7_becomesBit_58 : decode cX7_becomesBit 58 = .ok (.iconst 1, 1) := by decide +kernel
theorem dX7_becomesBit_59 : decode cX7_becomesBit 59 = .ok (.iand, 1) := by decide +kernel
theorem dX7_becomesBit_60 : decode cX7_becomesBit 60 = .ok (.istore 6, 2) := by decide +kernel
theorem dX7_becomesBit_62 : decode cX7_becomesBit 62 = .ok (.aload_n 0, 1) := by decide +kernel
theorem dX7_becomesBit_63 : decode cX7_becomesBit 63 = .ok (.getfield 7, 3) := by decide +kernel
theorem dX7_becomesBit_66 : decode cX7_becomesBit 66 = .ok (.iload 4, 2) := by decide +kernel
theorem dX7_becomesBit_68 : decode cX7_becomesBit 68 = .ok (.iload_n 1, 1) := by decide +kernel
theorem dX7_becomesBit_69 : decode cX7_becomesBit 69 = .ok (.iadd, 1) := by decide +kernel
theorem dX7_becomesBit_70 : decode cX7_becomesBit 70 = .ok (.iload_n 3, 1) := by decide +kernel
theorem dX7_becomesBit_71 : decode cX7_becomesBit 71 = .ok (.ifCond .eq 19, 3) := by decide +kernel
theorem dX7_becomesBit_74 : decode cX7_becomesBit 74 = .ok (.aload_n 0, 1) := by decide +kernel
theorem dX7_becomesBit_75 : decode cX7_becomesBit 75 = .ok (.getfield 7, 3) := by decide +kernel
theorem dX7_becomesBit_78 : decode cX7_becomesBit 78 = .ok (.iload 4, 2) := by decide +kernel
theorem dX7_becomesBit_80 : decode cX7_becomesBit 80 = .ok (.iload_n 1, 1) := by decide +kernel
theorem dX7_becomesBit_81 : decode cX7_becomesBit 81 = .ok (.iadd, 1) := by decide +kernel
theorem dX7_becomesBit_82 : decode cX7_becomesBit 82 = .ok (.iaload, 1) := by decide +kernel
theorem dX7_becomesBit_83 : decode cX7_becomesBit 83 = .ok (.iconst 1, 1) := by decide +kernel
theorem dX7_becomesBit_84 : decode cX7_becomesBit 84 = .ok (.iload_n 2, 1) := by decide +kernel
theorem dX7_becomesBit_85 : decode cX7_becomesBit 85 = .ok (.ishl, 1) := by decide +kernel
theorem dX7_becomesBit_86 : decode cX7_becomesBit 86 = .ok (.ior, 1) := by decide +kernel
theorem dX7_becomesBit_87 : decode cX7_becomesBit 87 = .ok (.goto 18, 3) := by decide +kernel
theorem dX7_becomesBit_90 : decode cX7_becomesBit 90 = .ok (.aload_n 0, 1) := by decide +kernel
theorem dX7_becomesBit_91 : decode cX7_becomesBit 91 = .ok (.getfield 7, 3) := by decide +kernel
theorem dX7_becomesBit_94 : decode cX7_becomesBit 94 = .ok (.iload 4, 2) := by decide +kernel
theorem dX7_becomesBit_96 : decode cX7_becomesBit 96 = .ok (.iload_n 1, 1) := by decide +kernel
theorem dX7_becomesBit_97 : decode cX7_becomesBit 97 = .ok (.iadd, 1) := by decide +kernel
theorem dX7_becomesBit_98 : decode cX7_becomesBit 98 = .ok (.iaload, 1) := by decide +kernel
theorem dX7_becomesBit_99 : decode cX7_becomesBit 99 = .ok (.iconst 1, 1) := by decide +kernel
theorem dX7_becomesBit_100 : decode cX7_becomesBit 100 = .ok (.iload_n 2, 1) := by decide +kernel
theorem dX7_becomesBit_101 : decode cX7_becomesBit 101 = .ok (.ishl, 1) := by decide +kernel
theorem dX7_becomesBit_102 : decode cX7_becomesBit 102 = .ok (.iconst (-1), 1) := by decide +kernel
theorem dX7_becomesBit_103 : decode cX7_becomesBit 103 = .ok (.ixor, 1) := by decide +kernel
theorem dX7_becomesBit_104 : decode cX7_becomesBit 104 = .ok (.iand, 1) := by decide +kernel
theorem dX7_becomesBit_105 : decode cX7_becomesBit 105 = .ok (.iastore, 1) := by decide +kernel
theorem dX7_becomesBit_106 : decode cX7_becomesBit 106 = .ok (.iload 6, 2) := by decide +kernel
theorem dX7_becomesBit_108 : decode cX7_becomesBit 108 = .ok (.ireturn, 1) := by decide +kernel
theorem dX7_leans_0 : decode cX7_leans 0 = .ok (.aload_n 0, 1) := by decide +kernel
theorem dX7_leans_1 : decode cX7_leans 1 = .ok (.iload_n 1, 1) := by decide +kernel
theorem dX7_leans_2 : decode cX7_leans 2 = .ok (.iload_n 2, 1) := by decide +kernel
theorem dX7_leans_3 : decode cX7_leans 3 = .ok (.iload_n 3, 1) := by decide +kernel
theorem dX7_leans_4 : decode cX7_leans 4 = .ok (.iconst 0, 1) := by decide +kernel
theorem dX7_leans_5 : decode cX7_leans 5 = .ok (.bipush 8, 2) := by decide +kernel
theorem dX7_leans_7 : decode cX7_leans 7 = .ok (.invokevirtual 187, 3) := by decide +kernel
theorem dX7_leans_10 : decode cX7_leans 10 = .ok (.ireturn, 1) := by decide +kernel
theorem dX7_falls_0 : decode cX7_falls 0 = .ok (.aload_n 0, 1) := by decide +kernel
theorem dX7_falls_1 : decode cX7_falls 1 = .ok (.iload_n 1, 1) := by decide +kernel
theorem dX7_falls_2 : decode cX7_falls 2 = .ok (.iload_n 2, 1) := by decide +kernel
theorem dX7_falls_3 : decode cX7_falls 3 = .ok (.iload_n 3, 1) := by decide +kernel
theorem dX7_falls_4 : decode cX7_falls 4 = .ok (.bipush 8, 2) := by decide +kernel
theorem dX7_falls_6 : decode cX7_falls 6 = .ok (.iconst 0, 1) := by decide +kernel
theorem dX7_falls_7 : decode cX7_falls 7 = .ok (.invokevirtual 187, 3) := by decide +kernel
theorem dX7_falls_10 : decode cX7_falls 10 = .ok (.ireturn, 1) := by decide +kernel
theorem dX7_yards_0 : decode cX7_yards 0 = .ok (.aload_n 0, 1) := by decide +kernel
theorem dX7_yards_1 : decode cX7_yards 1 = .ok (.iload_n 1, 1) := by decide +kernel
theorem dX7_yards_2 : decode cX7_yards 2 = .ok (.invokevirtual 171, 3) := by decide +kernel
theorem dX7_yards_5 : decode cX7_yards 5 = .ok (.ifCond .eq 27, 3) := by decide +kernel
theorem dX7_yards_8 : decode cX7_yards 8 = .ok (.iload_n 2, 1) := by decide +kernel
theorem dX7_yards_9 : decode cX7_yards 9 = .ok (.i2l, 1) := by decide +kernel
theorem dX7_yards_10 : decode cX7_yards 10 = .ok (.lconst 0, 1) := by decide +kernel
theorem dX7_yards_11 : decode cX7_yards 11 = .ok (.ldc2_w 182, 3) := by decide +kernel
theorem dX7_yards_14 : decode cX7_yards 14 = .ok (.invokestatic 77, 3) := by decide +kernel
theorem dX7_yards_17 : decode cX7_yards 17 = .ok (.ifCond .eq 15, 3) := by decide +kernel
theorem dX7_yards_20 : decode cX7_yards 20 = .ok (.aload_n 0, 1) := by decide +kernel
theorem dX7_yards_21 : decode cX7_yards 21 = .ok (.bipush 16, 2) := by decide +kernel
theorem dX7_yards_23 : decode cX7_yards 23 = .ok (.iload_n 1, 1) := by decide +kernel
theorem dX7_yards_24 : decode cX7_yards 24 = .ok (.iadd, 1) := by decide +kernel
theorem dX7_yards_25 : decode cX7_yards 25 = .ok (.iload_n 2, 1) := by decide +kernel
theorem dX7_yards_26 : decode cX7_yards 26 = .ok (.invokevirtual 184, 3) := by decide +kernel
theorem dX7_yards_29 : decode cX7_yards 29 = .ok (.goto 4, 3) := by decide +kernel
theorem dX7_yards_32 : decode cX7_yards 32 = .ok (.iconst (-1), 1) := by decide +kernel
theorem dX7_yards_33 : decode cX7_yards 33 = .ok (.ireturn, 1) := by decide +kernel
theorem dX7_plans_0 : decode cX7_plans 0 = .ok (.aload_n 0, 1) := by decide +kernel
theorem dX7_plans_1 : decode cX7_plans 1 = .ok (.iload_n 1, 1) := by decide +kernel
theorem dX7_plans_2 : decode cX7_plans 2 = .ok (.invokevirtual 171, 3) := by decide +kernel
theorem dX7_plans_5 : decode cX7_plans 5 = .ok (.ifCond .ne 5, 3) := by decide +kernel
theorem dX7_plans_8 : decode cX7_plans 8 = .ok (.iconst (-1), 1) := by decide +kernel
theorem dX7_plans_9 : decode cX7_plans 9 = .ok (.ireturn, 1) := by decide +kernel
theorem dX7_plans_10 : decode cX7_plans 10 = .ok (.aload_n 0, 1) := by decide +kernel
theorem dX7_plans_11 : decode cX7_plans 11 = .ok (.getfield 7, 3) := by decide +kernel
theorem dX7_plans_14 : decode cX7_plans 14 = .ok (.bipush 27, 2) := by decide +kernel
theorem dX7_plans_16 : decode cX7_plans 16 = .ok (.iaload, 1) := by decide +kernel
theorem dX7_plans_17 : decode cX7_plans 17 = .ok (.bipush 6, 2) := by decide +kernel
theorem dX7_plans_19 : decode cX7_plans 19 = .ok (.if_icmp .ne 6, 3) := by decide +kernel
theorem dX7_plans_22 : decode cX7_plans 22 = .ok (.bipush (-3), 2) := by decide +kernel
theorem dX7_plans_24 : decode cX7_plans 24 = .ok (.ireturn, 1) := by decide +kernel
theorem dX7_plans_25 : decode cX7_plans 25 = .ok (.aload_n 0, 1) := by decide +kernel
theorem dX7_plans_26 : decode cX7_plans 26 = .ok (.getfield 7, 3) := by decide +kernel
theorem dX7_plans_29 : decode cX7_plans 29 = .ok (.bipush 28, 2) := by decide +kernel
theorem dX7_plans_31 : decode cX7_plans 31 = .ok (.aload_n 0, 1) := by decide +kernel
theorem dX7_plans_32 : decode cX7_plans 32 = .ok (.getfield 7, 3) := by decide +kernel
theorem dX7_plans_35 : decode cX7_plans 35 = .ok (.bipush 27, 2) := by decide +kernel
theorem dX7_plans_37 : decode cX7_plans 37 = .ok (.iaload, 1) := by decide +kernel
theorem dX7_plans_38 : decode cX7_plans 38 = .ok (.iadd, 1) := by decide +kernel
theorem dX7_plans_39 : decode cX7_plans 39 = .ok (.iload_n 1, 1) := by decide +kernel
theorem dX7_plans_40 : decode cX7_plans 40 = .ok (.iastore, 1) := by decide +kernel
theorem dX7_plans_41 : decode cX7_plans 41 = .ok (.aload_n 0, 1) := by decide +kernel
theorem dX7_plans_42 : decode cX7_plans 42 = .ok (.getfield 7, 3) := by decide +kernel
theorem dX7_plans_45 : decode cX7_plans 45 = .ok (.bipush 27, 2) := by decide +kernel
theorem dX7_plans_47 : decode cX7_plans 47 = .ok (.dup2, 1) := by decide +kernel
theorem dX7_plans_48 : decode cX7_plans 48 = .ok (.iaload, 1) := by decide +kernel
theorem dX7_plans_49 : decode cX7_plans 49 = .ok (.iconst 1, 1) := by decide +kernel
theorem dX7_plans_50 : decode cX7_plans 50 = .ok (.iadd, 1) := by decide +kernel
theorem dX7_plans_51 : decode cX7_plans 51 = .ok (.iastore, 1) := by decide +kernel
theorem dX7_plans_52 : decode cX7_plans 52 = .ok (.aload_n 0, 1) := by decide +kernel
theorem dX7_plans_53 : decode cX7_plans 53 = .ok (.getfield 7, 3) := by decide +kernel
theorem dX7_plans_56 : decode cX7_plans 56 = .ok (.bipush 27, 2) := by decide +kernel
theorem dX7_plans_58 : decode cX7_plans 58 = .ok (.iaload, 1) := by decide +kernel
theorem dX7_plans_59 : decode cX7_plans 59 = .ok (.ireturn, 1) := by decide +kernel
theorem dX7_cut_0 : decode cX7_cut 0 = .ok (.iload_n 1, 1) := by decide +kernel
theorem dX7_cut_1 : decode cX7_cut 1 = .ok (.i2l, 1) := by decide +kernel
theorem dX7_cut_2 : decode cX7_cut 2 = .ok (.lconst 0, 1) := by decide +kernel
theorem dX7_cut_3 : decode cX7_cut 3 = .ok (.aload_n 0, 1) := by decide +kernel
theorem dX7_cut_4 : decode cX7_cut 4 = .ok (.getfield 7, 3) := by decide +kernel
theorem dX7_cut_7 : decode cX7_cut 7 = .ok (.bipush 27, 2) := by decide +kernel
theorem dX7_cut_9 : decode cX7_cut 9 = .ok (.iaload, 1) := by decide +kernel
theorem dX7_cut_10 : decode cX7_cut 10 = .ok (.i2l, 1) := by decide +kernel
theorem dX7_cut_11 : decode cX7_cut 11 = .ok (.invokestatic 77, 3) := by decide +kernel
theorem dX7_cut_14 : decode cX7_cut 14 = .ok (.ifCond .eq 13, 3) := by decide +kernel
theorem dX7_cut_17 : decode cX7_cut 17 = .ok (.aload_n 0, 1) := by decide +kernel
theorem dX7_cut_18 : decode cX7_cut 18 = .ok (.bipush 27, 2) := by decide +kernel
theorem dX7_cut_20 : decode cX7_cut 20 = .ok (.iload_n 1, 1) := by decide +kernel
theorem dX7_cut_21 : decode cX7_cut 21 = .ok (.invokevirtual 184, 3) := by decide +kernel
theorem dX7_cut_24 : decode cX7_cut 24 = .ok (.goto 4, 3) := by decide +kernel
theorem dX7_cut_27 : decode cX7_cut 27 = .ok (.iconst (-1), 1) := by decide +kernel
theorem dX7_cut_28 : decode cX7_cut 28 = .ok (.ireturn, 1) := by decide +kernel
theorem dX7_stands_0 : decode cX7_stands 0 = .ok (.iload_n 1, 1) := by decide +kernel
theorem dX7_stands_1 : decode cX7_stands 1 = .ok (.i2l, 1) := by decide +kernel
theorem dX7_stands_2 : decode cX7_stands 2 = .ok (.lconst 0, 1) := by decide +kernel
theorem dX7_stands_3 : decode cX7_stands 3 = .ok (.aload_n 0, 1) := by decide +kernel
theorem dX7_stands_4 : decode cX7_stands 4 = .ok (.invokevirtual 191, 3) := by decide +kernel
theorem dX7_stands_7 : decode cX7_stands 7 = .ok (.i2l, 1) := by decide +kernel
theorem dX7_stands_8 : decode cX7_stands 8 = .ok (.invokestatic 77, 3) := by decide +kernel
theorem dX7_stands_11 : decode cX7_stands 11 = .ok (.ifCond .eq 11, 3) := by decide +kernel
theorem dX7_stands_14 : decode cX7_stands 14 = .ok (.aload_n 0, 1) := by decide +kernel
theorem dX7_stands_15 : decode cX7_stands 15 = .ok (.iload_n 1, 1) := by decide +kernel
theorem dX7_stands_16 : decode cX7_stands 16 = .ok (.invokevirtual 168, 3) := by decide +kernel
theorem dX7_stands_19 : decode cX7_stands 19 = .ok (.goto 4, 3) := by decide +kernel
theorem dX7_stands_22 : decode cX7_stands 22 = .ok (.iconst (-1), 1) := by decide +kernel
theorem dX7_stands_23 : decode cX7_stands 23 = .ok (.ireturn, 1) := by decide +kernel
theorem dX7_sum_0 : decode cX7_sum 0 = .ok (.iload_n 1, 1) := by decide +kernel
theorem dX7_sum_1 : decode cX7_sum 1 = .ok (.i2l, 1) := by decide +kernel
theorem dX7_sum_2 : decode cX7_sum 2 = .ok (.lconst 0, 1) := by decide +kernel
theorem dX7_sum_3 : decode cX7_sum 3 = .ok (.ldc2_w 194, 3) := by decide +kernel
theorem dX7_sum_6 : decode cX7_sum 6 = .ok (.invokestatic 77, 3) := by decide +kernel
theorem dX7_sum_9 : decode cX7_sum 9 = .ok (.ifCond .ne 5, 3) := by decide +kernel
theorem dX7_sum_12 : decode cX7_sum 12 = .ok (.iconst (-1), 1) := by decide +kernel
theorem dX7_sum_13 : decode cX7_sum 13 = .ok (.ireturn, 1) := by decide +kernel
theorem dX7_sum_14 : decode cX7_sum 14 = .ok (.aload_n 0, 1) := by decide +kernel
theorem dX7_sum_15 : decode cX7_sum 15 = .ok (.aload_n 0, 1) := by decide +kernel
theorem dX7_sum_16 : decode cX7_sum 16 = .ok (.getfield 7, 3) := by decide +kernel
theorem dX7_sum_19 : decode cX7_sum 19 = .ok (.bipush 24, 2) := by decide +kernel
theorem dX7_sum_21 : decode cX7_sum 21 = .ok (.iaload, 1) := by decide +kernel
theorem dX7_sum_22 : decode cX7_sum 22 = .ok (.invokevirtual 168, 3) := by decide +kernel
theorem dX7_sum_25 : decode cX7_sum 25 = .ok (.istore_n 2, 1) := by decide +kernel
theorem dX7_sum_26 : decode cX7_sum 26 = .ok (.iconst 0, 1) := by decide +kernel
theorem dX7_sum_27 : decode cX7_sum 27 = .ok (.istore_n 3, 1) := by decide +kernel
theorem dX7_sum_28 : decode cX7_sum 28 = .ok (.iconst 0, 1) := by decide +kernel
theorem dX7_sum_29 : decode cX7_sum 29 = .ok (.istore 4, 2) := by decide +kernel
theorem dX7_sum_31 : decode cX7_sum 31 = .ok (.iload 4, 2) := by decide +kernel
theorem dX7_sum_33 : decode cX7_sum 33 = .ok (.aload_n 0, 1) := by decide +kernel
theorem dX7_sum_34 : decode cX7_sum 34 = .ok (.getfield 72, 3) := by decide +kernel
theorem dX7_sum_37 : decode cX7_sum 37 = .ok (.if_icmp .ge 47, 3) := by decide +kernel
theorem dX7_sum_40 : decode cX7_sum 40 = .ok (.iload_n 3, 1) := by decide +kernel
theorem dX7_sum_41 : decode cX7_sum 41 = .ok (.iload_n 2, 1) := by decide +kernel
theorem dX7_sum_42 : decode cX7_sum 42 = .ok (.iload 4, 2) := by decide +kernel
theorem dX7_sum_44 : decode cX7_sum 44 = .ok (.ishr, 1) := by decide +kernel
theorem dX7_sum_45 : decode cX7_sum 45 = .ok (.iconst 1, 1) := by decide +kernel
theorem dX7_sum_46 : decode cX7_sum 46 = .ok (.iand, 1) := by decide +kernel
theorem dX7_sum_47 : decode cX7_sum 47 = .ok (.iconst 1, 1) := by decide +kernel
theorem dX7_sum_48 : decode cX7_sum 48 = .ok (.if_icmp .ne 27, 3) := by decide +kernel
theorem dX7_sum_51 : decode cX7_sum 51 = .ok (.aload_n 0, 1) := by decide +kernel
theorem dX7_sum_52 : decode cX7_sum 52 = .ok (.getfield 17, 3) := by decide +kernel
theorem dX7_sum_55 : decode cX7_sum 55 = .ok (.iload 4, 2) := by decide +kernel
theorem dX7_sum_57 : decode cX7_sum 57 = .ok (.iaload, 1) := by decide +kernel
theorem dX7_sum_58 : decode cX7_sum 58 = .ok (.iload_n 1, 1) := by decide +kernel
theorem dX7_sum_59 : decode cX7_sum 59 = .ok (.if_icmp .ne 16, 3) := by decide +kernel
theorem dX7_sum_62 : decode cX7_sum 62 = .ok (.aload_n 0, 1) := by decide +kernel
theorem dX7_sum_63 : decode cX7_sum 63 = .ok (.getfield 7, 3) := by decide +kernel
theorem dX7_sum_66 : decode cX7_sum 66 = .ok (.bipush 16, 2) := by decide +kernel
theorem dX7_sum_68 : decode cX7_sum 68 = .ok (.iload 4, 2) := by decide +kernel
theorem dX7_sum_70 : decode cX7_sum 70 = .ok (.iadd, 1) := by decide +kernel
theorem dX7_sum_71 : decode cX7_sum 71 = .ok (.iaload, 1) := by decide +kernel
theorem dX7_sum_72 : decode cX7_sum 72 = .ok (.goto 4, 3) := by decide +kernel
theorem dX7_sum_75 : decode cX7_sum 75 = .ok (.iconst 0, 1) := by decide +kernel
theorem dX7_sum_76 : decode cX7_sum 76 = .ok (.iadd, 1) := by decide +kernel
theorem dX7_sum_77 : decode cX7_sum 77 = .ok (.istore_n 3, 1) := by decide +kernel
theorem dX7_sum_78 : decode cX7_sum 78 = .ok (.iinc 4 1, 3) := by decide +kernel
theorem dX7_sum_81 : decode cX7_sum 81 = .ok (.goto (-50), 3) := by decide +kernel
theorem dX7_sum_84 : decode cX7_sum 84 = .ok (.iload_n 3, 1) := by decide +kernel
theorem dX7_sum_85 : decode cX7_sum 85 = .ok (.ireturn, 1) := by decide +kernel
theorem dX7_upon_0 : decode cX7_upon 0 = .ok (.aload_n 0, 1) := by decide +kernel
theorem dX7_upon_1 : decode cX7_upon 1 = .ok (.iload_n 1, 1) := by decide +kernel
theorem dX7_upon_2 : decode cX7_upon 2 = .ok (.invokevirtual 171, 3) := by decide +kernel
theorem dX7_upon_5 : decode cX7_upon 5 = .ok (.ifCond .eq 37, 3) := by decide +kernel
theorem dX7_upon_8 : decode cX7_upon 8 = .ok (.aload_n 0, 1) := by decide +kernel
theorem dX7_upon_9 : decode cX7_upon 9 = .ok (.aload_n 0, 1) := by decide +kernel
theorem dX7_upon_10 : decode cX7_upon 10 = .ok (.getfield 7, 3) := by decide +kernel
theorem dX7_upon_13 : decode cX7_upon 13 = .ok (.bipush 24, 2) := by decide +kernel
theorem dX7_upon_15 : decode cX7_upon 15 = .ok (.iaload, 1) := by decide +kernel
theorem dX7_upon_16 : decode cX7_upon 16 = .ok (.invokevirtual 168, 3) := by decide +kernel
theorem dX7_upon_19 : decode cX7_upon 19 = .ok (.aload_n 0, 1) := by decide +kernel
theorem dX7_upon_20 : decode cX7_upon 20 = .ok (.aload_n 0, 1) := by decide +kernel
theorem dX7_upon_21 : decode cX7_upon 21 = .ok (.getfield 7, 3) := by decide +kernel
theorem dX7_upon_24 : decode cX7_upon 24 = .ok (.bipush 24, 2) := by decide +kernel
theorem dX7_upon_26 : decode cX7_upon 26 = .ok (.iaload, 1) := by decide +kernel
theorem dX7_upon_27 : decode cX7_upon 27 = .ok (.iconst 1, 1) := by decide +kernel
theorem dX7_upon_28 : decode cX7_upon 28 = .ok (.iload_n 1, 1) := by decide +kernel
theorem dX7_upon_29 : decode cX7_upon 29 = .ok (.ishl, 1) := by decide +kernel
theorem dX7_upon_30 : decode cX7_upon 30 = .ok (.iconst (-1), 1) := by decide +kernel
theorem dX7_upon_31 : decode cX7_upon 31 = .ok (.ixor, 1) := by decide +kernel
theorem dX7_upon_32 : decode cX7_upon 32 = .ok (.iand, 1) := by decide +kernel
theorem dX7_upon_33 : decode cX7_upon 33 = .ok (.invokevirtual 168, 3) := by decide +kernel
theorem dX7_upon_36 : decode cX7_upon 36 = .ok (.iconst (-1), 1) := by decide +kernel
theorem dX7_upon_37 : decode cX7_upon 37 = .ok (.ixor, 1) := by decide +kernel
theorem dX7_upon_38 : decode cX7_upon 38 = .ok (.iand, 1) := by decide +kernel
theorem dX7_upon_39 : decode cX7_upon 39 = .ok (.goto 4, 3) := by decide +kernel
theorem dX7_upon_42 : decode cX7_upon 42 = .ok (.iconst (-1), 1) := by decide +kernel
theorem dX7_upon_43 : decode cX7_upon 43 = .ok (.ireturn, 1) := by decide +kernel
theorem dX7_reply_0 : decode cX7_reply 0 = .ok (.aload_n 0, 1) := by decide +kernel
theorem dX7_reply_1 : decode cX7_reply 1 = .ok (.iload_n 1, 1) := by decide +kernel
theorem dX7_reply_2 : decode cX7_reply 2 = .ok (.invokevirtual 171, 3) := by decide +kernel
theorem dX7_reply_5 : decode cX7_reply 5 = .ok (.ifCond .eq 10, 3) := by decide +kernel
theorem dX7_reply_8 : decode cX7_reply 8 = .ok (.iload_n 2, 1) := by decide +kernel
theorem dX7_reply_9 : decode cX7_reply 9 = .ok (.invokestatic 196, 3) := by decide +kernel
theorem dX7_reply_12 : decode cX7_reply 12 = .ok (.ifCond .ne 5, 3) := by decide +kernel
theorem dX7_reply_15 : decode cX7_reply 15 = .ok (.iconst (-1), 1) := by decide +kernel
theorem dX7_reply_16 : decode cX7_reply 16 = .ok (.ireturn, 1) := by decide +kernel
theorem dX7_reply_17 : decode cX7_reply 17 = .ok (.iconst 0, 1) := by decide +kernel
theorem dX7_reply_18 : decode cX7_reply 18 = .ok (.istore_n 3, 1) := by decide +kernel
theorem dX7_reply_19 : decode cX7_reply 19 = .ok (.aload_n 0, 1) := by decide +kernel
theorem dX7_reply_20 : decode cX7_reply 20 = .ok (.aload_n 0, 1) := by decide +kernel
theorem dX7_reply_21 : decode cX7_reply 21 = .ok (.getfield 7, 3) := by decide +kernel
theorem dX7_reply_24 : decode cX7_reply 24 = .ok (.bipush 24, 2) := by decide +kernel
theorem dX7_reply_26 : decode cX7_reply 26 = .ok (.iaload, 1) := by decide +kernel
theorem dX7_reply_27 : decode cX7_reply 27 = .ok (.invokevirtual 168, 3) := by decide +kernel
theorem dX7_reply_30 : decode cX7_reply 30 = .ok (.iload_n 1, 1) := by decide +kernel
theorem dX7_reply_31 : decode cX7_reply 31 = .ok (.ishr, 1) := by decide +kernel
theorem dX7_reply_32 : decode cX7_reply 32 = .ok (.iconst 1, 1) := by decide +kernel
theorem dX7_reply_33 : decode cX7_reply 33 = .ok (.iand, 1) := by decide +kernel
theorem dX7_reply_34 : decode cX7_reply 34 = .ok (.istore 4, 2) := by decide +kernel
theorem dX7_reply_36 : decode cX7_reply 36 = .ok (.iconst 0, 1) := by decide +kernel
theorem dX7_reply_37 : decode cX7_reply 37 = .ok (.istore 5, 2) := by decide +kernel
theorem dX7_reply_39 : decode cX7_reply 39 = .ok (.iload 5, 2) := by decide +kernel
theorem dX7_reply_41 : decode cX7_reply 41 = .ok (.aload_n 0, 1) := by decide +kernel
theorem dX7_reply_42 : decode cX7_reply 42 = .ok (.getfield 72, 3) := by decide +kernel
theorem dX7_reply_45 : decode cX7_reply 45 = .ok (.if_icmp .ge 78, 3) := by decide +kernel
theorem dX7_reply_48 : decode cX7_reply 48 = .ok (.aload_n 0, 1) := by decide +kernel
theorem dX7_reply_49 : decode cX7_reply 49 = .ok (.aload_n 0, 1) := by decide +kernel
theorem dX7_reply_50 : decode cX7_reply 50 = .ok (.getfield 7, 3) := by decide +kernel
theorem dX7_reply_53 : decode cX7_reply 53 = .ok (.bipush 24, 2) := by decide +kernel
theorem dX7_reply_55 : decode cX7_reply 55 = .ok (.iaload, 1) := by decide +kernel
theorem dX7_reply_56 : decode cX7_reply 56 = .ok (.iconst 1, 1) := by decide +kernel
theorem dX7_reply_57 : decode cX7_reply 57 = .ok (.iload 5, 2) := by decide +kernel
theorem dX7_reply_59 : decode cX7_reply 59 = .ok (.ishl, 1) := by decide +kernel
theorem dX7_reply_60 : decode cX7_reply 60 = .ok (.ior, 1) := by decide +kernel
theorem dX7_reply_61 : decode cX7_reply 61 = .ok (.invokevirtual 168, 3) := by decide +kernel
theorem dX7_reply_64 : decode cX7_reply 64 = .ok (.iload_n 1, 1) := by decide +kernel
theorem dX7_reply_65 : decode cX7_reply 65 = .ok (.ishr, 1) := by decide +kernel
theorem dX7_reply_66 : decode cX7_reply 66 = .ok (.iconst 1, 1) := by decide +kernel
theorem dX7_reply_67 : decode cX7_reply 67 = .ok (.iand, 1) := by decide +kernel
theorem dX7_reply_68 : decode cX7_reply 68 = .ok (.istore 6, 2) := by decide +kernel
theorem dX7_reply_70 : decode cX7_reply 70 = .ok (.aload_n 0, 1) := by decide +kernel
theorem dX7_reply_71 : decode cX7_reply 71 = .ok (.getfield 7, 3) := by decide +kernel
theorem dX7_reply_74 : decode cX7_reply 74 = .ok (.bipush 24, 2) := by decide +kernel
theorem dX7_reply_76 : decode cX7_reply 76 = .ok (.iaload, 1) := by decide +kernel
theorem dX7_reply_77 : decode cX7_reply 77 = .ok (.iload 5, 2) := by decide +kernel
theorem dX7_reply_79 : decode cX7_reply 79 = .ok (.ishr, 1) := by decide +kernel
theorem dX7_reply_80 : decode cX7_reply 80 = .ok (.iconst 1, 1) := by decide +kernel
theorem dX7_reply_81 : decode cX7_reply 81 = .ok (.iand, 1) := by decide +kernel
theorem dX7_reply_82 : decode cX7_reply 82 = .ok (.ifCond .ne 21, 3) := by decide +kernel
theorem dX7_reply_85 : decode cX7_reply 85 = .ok (.iload 4, 2) := by decide +kernel
theorem dX7_reply_87 : decode cX7_reply 87 = .ok (.iconst 1, 1) := by decide +kernel
theorem dX7_reply_88 : decode cX7_reply 88 = .ok (.iload_n 2, 1) := by decide +kernel
theorem dX7_reply_89 : decode cX7_reply 89 = .ok (.isub, 1) := by decide +kernel
theorem dX7_reply_90 : decode cX7_reply 90 = .ok (.if_icmp .ne 13, 3) := by decide +kernel
theorem dX7_reply_93 : decode cX7_reply 93 = .ok (.iload 6, 2) := by decide +kernel
theorem dX7_reply_95 : decode cX7_reply 95 = .ok (.iload_n 2, 1) := by decide +kernel
theorem dX7_reply_96 : decode cX7_reply 96 = .ok (.if_icmp .ne 7, 3) := by decide +kernel
theorem dX7_reply_99 : decode cX7_reply 99 = .ok (.iconst 1, 1) := by decide +kernel
theorem dX7_reply_100 : decode cX7_reply 100 = .ok (.goto 4, 3) := by decide +kernel
theorem dX7_reply_103 : decode cX7_reply 103 = .ok (.iconst 0, 1) := by decide +kernel
theorem dX7_reply_104 : decode cX7_reply 104 = .ok (.istore 7, 2) := by decide +kernel
theorem dX7_reply_106 : decode cX7_reply 106 = .ok (.iload_n 3, 1) := by decide +kernel
theorem dX7_reply_107 : decode cX7_reply 107 = .ok (.iload 7, 2) := by decide +kernel
theorem dX7_reply_109 : decode cX7_reply 109 = .ok (.invokestatic 164, 3) := by decide +kernel
theorem dX7_reply_112 : decode cX7_reply 112 = .ok (.iload 5, 2) := by decide +kernel
theorem dX7_reply_114 : decode cX7_reply 114 = .ok (.ishl, 1) := by decide +kernel
theorem dX7_reply_115 : decode cX7_reply 115 = .ok (.ior, 1) := by decide +kernel
theorem dX7_reply_116 : decode cX7_reply 116 = .ok (.istore_n 3, 1) := by decide +kernel
theorem dX7_reply_117 : decode cX7_reply 117 = .ok (.iinc 5 1, 3) := by decide +kernel
theorem dX7_reply_120 : decode cX7_reply 120 = .ok (.goto (-81), 3) := by decide +kernel
theorem dX7_reply_123 : decode cX7_reply 123 = .ok (.iload_n 3, 1) := by decide +kernel
theorem dX7_reply_124 : decode cX7_reply 124 = .ok (.ireturn, 1) := by decide +kernel
theorem dX7_ever_0 : decode cX7_ever 0 = .ok (.iload_n 1, 1) := by decide +kernel
theorem dX7_ever_1 : decode cX7_ever 1 = .ok (.invokestatic 196, 3) := by decide +kernel
theorem dX7_ever_4 : decode cX7_ever 4 = .ok (.ifCond .ne 5, 3) := by decide +kernel
theorem dX7_ever_7 : decode cX7_ever 7 = .ok (.iconst (-1), 1) := by decide +kernel
theorem dX7_ever_8 : decode cX7_ever 8 = .ok (.ireturn, 1) := by decide +kernel
theorem dX7_ever_9 : decode cX7_ever 9 = .ok (.aload_n 0, 1) := by decide +kernel
theorem dX7_ever_10 : decode cX7_ever 10 = .ok (.invokevirtual 191, 3) := by decide +kernel
theorem dX7_ever_13 : decode cX7_ever 13 = .ok (.istore_n 2, 1) := by decide +kernel
theorem dX7_ever_14 : decode cX7_ever 14 = .ok (.aload_n 0, 1) := by decide +kernel
theorem dX7_ever_15 : decode cX7_ever 15 = .ok (.invokevirtual 191, 3) := by decide +kernel
theorem dX7_ever_18 : decode cX7_ever 18 = .ok (.istore_n 3, 1) := by decide +kernel
theorem dX7_ever_19 : decode cX7_ever 19 = .ok (.iconst 0, 1) := by decide +kernel
theorem dX7_ever_20 : decode cX7_ever 20 = .ok (.istore 4, 2) := by decide +kernel
theorem dX7_ever_22 : decode cX7_ever 22 = .ok (.iload 4, 2) := by decide +kernel
theorem dX7_ever_24 : decode cX7_ever 24 = .ok (.aload_n 0, 1) := by decide +kernel
theorem dX7_ever_25 : decode cX7_ever 25 = .ok (.invokevirtual 191, 3) := by decide +kernel
theorem dX7_ever_28 : decode cX7_ever 28 = .ok (.if_icmp .gt 34, 3) := by decide +kernel
theorem dX7_ever_31 : decode cX7_ever 31 = .ok (.iload_n 2, 1) := by decide +kernel
theorem dX7_ever_32 : decode cX7_ever 32 = .ok (.aload_n 0, 1) := by decide +kernel
theorem dX7_ever_33 : decode cX7_ever 33 = .ok (.iload 4, 2) := by decide +kernel
theorem dX7_ever_35 : decode cX7_ever 35 = .ok (.invokevirtual 168, 3) := by decide +kernel
theorem dX7_ever_38 : decode cX7_ever 38 = .ok (.iconst (-1), 1) := by decide +kernel
theorem dX7_ever_39 : decode cX7_ever 39 = .ok (.ixor, 1) := by decide +kernel
theorem dX7_ever_40 : decode cX7_ever 40 = .ok (.iand, 1) := by decide +kernel
theorem dX7_ever_41 : decode cX7_ever 41 = .ok (.istore_n 2, 1) := by decide +kernel
theorem dX7_ever_42 : decode cX7_ever 42 = .ok (.iload_n 3, 1) := by decide +kernel
theorem dX7_ever_43 : decode cX7_ever 43 = .ok (.iload 4, 2) := by decide +kernel
theorem dX7_ever_45 : decode cX7_ever 45 = .ok (.iconst (-1), 1) := by decide +kernel
theorem dX7_ever_46 : decode cX7_ever 46 = .ok (.ixor, 1) := by decide +kernel
theorem dX7_ever_47 : decode cX7_ever 47 = .ok (.aload_n 0, 1) := by decide +kernel
theorem dX7_ever_48 : decode cX7_ever 48 = .ok (.iload 4, 2) := by decide +kernel
theorem dX7_ever_50 : decode cX7_ever 50 = .ok (.invokevirtual 168, 3) := by decide +kernel
theorem dX7_ever_53 : decode cX7_ever 53 = .ok (.ior, 1) := by decide +kernel
theorem dX7_ever_54 : decode cX7_ever 54 = .ok (.iand, 1) := by decide +kernel
theorem dX7_ever_55 : decode cX7_ever 55 = .ok (.istore_n 3, 1) := by decide +kernel
theorem dX7_ever_56 : decode cX7_ever 56 = .ok (.iinc 4 1, 3) := by decide +kernel
theorem dX7_ever_59 : decode cX7_ever 59 = .ok (.goto (-37), 3) := by decide +kernel
theorem dX7_ever_62 : decode cX7_ever 62 = .ok (.iload_n 1, 1) := by decide +kernel
theorem dX7_ever_63 : decode cX7_ever 63 = .ok (.ifCond .ne 7, 3) := by decide +kernel
theorem dX7_ever_66 : decode cX7_ever 66 = .ok (.iload_n 2, 1) := by decide +kernel
theorem dX7_ever_67 : decode cX7_ever 67 = .ok (.goto 4, 3) := by decide +kernel
theorem dX7_ever_70 : decode cX7_ever 70 = .ok (.iload_n 3, 1) := by decide +kernel
theorem dX7_ever_71 : decode cX7_ever 71 = .ok (.ireturn, 1) := by decide +kernel
theorem dX7_chain_0 : decode cX7_chain 0 = .ok (.aload_n 0, 1) := by decide +kernel
theorem dX7_chain_1 : decode cX7_chain 1 = .ok (.iload_n 1, 1) := by decide +kernel
theorem dX7_chain_2 : decode cX7_chain 2 = .ok (.invokevirtual 171, 3) := by decide +kernel
theorem dX7_chain_5 : decode cX7_chain 5 = .ok (.ifCond .ne 5, 3) := by decide +kernel
theorem dX7_chain_8 : decode cX7_chain 8 = .ok (.iconst (-1), 1) := by decide +kernel
theorem dX7_chain_9 : decode cX7_chain 9 = .ok (.ireturn, 1) := by decide +kernel
theorem dX7_chain_10 : decode cX7_chain 10 = .ok (.iconst 0, 1) := by decide +kernel
theorem dX7_chain_11 : decode cX7_chain 11 = .ok (.istore_n 2, 1) := by decide +kernel
theorem dX7_chain_12 : decode cX7_chain 12 = .ok (.iload_n 2, 1) := by decide +kernel
theorem dX7_chain_13 : decode cX7_chain 13 = .ok (.iload_n 1, 1) := by decide +kernel
theorem dX7_chain_14 : decode cX7_chain 14 = .ok (.if_icmp .gt 95, 3) := by decide +kernel
theorem dX7_chain_17 : decode cX7_chain 17 = .ok (.aload_n 0, 1) := by decide +kernel
theorem dX7_chain_18 : decode cX7_chain 18 = .ok (.getfield 41, 3) := by decide +kernel
theorem dX7_chain_21 : decode cX7_chain 21 = .ok (.iload_n 2, 1) := by decide +kernel
theorem dX7_chain_22 : decode cX7_chain 22 = .ok (.iconst 1, 1) := by decide +kernel
theorem dX7_chain_23 : decode cX7_chain 23 = .ok (.iastore, 1) := by decide +kernel
theorem dX7_chain_24 : decode cX7_chain 24 = .ok (.iconst 0, 1) := by decide +kernel
theorem dX7_chain_25 : decode cX7_chain 25 = .ok (.istore_n 3, 1) := by decide +kernel
theorem dX7_chain_26 : decode cX7_chain 26 = .ok (.iload_n 3, 1) := by decide +kernel
theorem dX7_chain_27 : decode cX7_chain 27 = .ok (.iload_n 2, 1) := by decide +kernel
theorem dX7_chain_28 : decode cX7_chain 28 = .ok (.if_icmp .ge 75, 3) := by decide +kernel
theorem dX7_chain_31 : decode cX7_chain 31 = .ok (.aload_n 0, 1) := by decide +kernel
theorem dX7_chain_32 : decode cX7_chain 32 = .ok (.getfield 7, 3) := by decide +kernel
theorem dX7_chain_35 : decode cX7_chain 35 = .ok (.iconst 0, 1) := by decide +kernel
theorem dX7_chain_36 : decode cX7_chain 36 = .ok (.iload_n 2, 1) := by decide +kernel
theorem dX7_chain_37 : decode cX7_chain 37 = .ok (.iadd, 1) := by decide +kernel
theorem dX7_chain_38 : decode cX7_chain 38 = .ok (.iaload, 1) := by decide +kernel
theorem dX7_chain_39 : decode cX7_chain 39 = .ok (.iload_n 3, 1) := by decide +kernel
theorem dX7_chain_40 : decode cX7_chain 40 = .ok (.ishr, 1) := by decide +kernel
theorem dX7_chain_41 : decode cX7_chain 41 = .ok (.iconst 1, 1) := by decide +kernel
theorem dX7_chain_42 : decode cX7_chain 42 = .ok (.iand, 1) := by decide +kernel
theorem dX7_chain_43 : decode cX7_chain 43 = .ok (.iconst 1, 1) := by decide +kernel
theorem dX7_chain_44 : decode cX7_chain 44 = .ok (.if_icmp .ne 22, 3) := by decide +kernel
theorem dX7_chain_47 : decode cX7_chain 47 = .ok (.aload_n 0, 1) := by decide +kernel
theorem dX7_chain_48 : decode cX7_chain 48 = .ok (.getfield 41, 3) := by decide +kernel
theorem dX7_chain_51 : decode cX7_chain 51 = .ok (.iload_n 3, 1) := by decide +kernel
theorem dX7_chain_52 : decode cX7_chain 52 = .ok (.iaload, 1) := by decide +kernel
theorem dX7_chain_53 : decode cX7_chain 53 = .ok (.aload_n 0, 1) := by decide +kernel
theorem dX7_chain_54 : decode cX7_chain 54 = .ok (.getfield 41, 3) := by decide +kernel
theorem dX7_chain_57 : decode cX7_chain 57 = .ok (.iload_n 2, 1) := by decide +kernel
theorem dX7_chain_58 : decode cX7_chain 58 = .ok (.iaload, 1) := by decide +kernel
theorem dX7_chain_59 : decode cX7_chain 59 = .ok (.if_icmp .lt 7, 3) := by decide +kernel
theorem dX7_chain_62 : decode cX7_chain 62 = .ok (.iconst 1, 1) := by decide +kernel
theorem dX7_chain_63 : decode cX7_chain 63 = .ok (.goto 4, 3) := by decide +kernel
theorem dX7_chain_66 : decode cX7_chain 66 = .ok (.iconst 0, 1) := by decide +kernel
theorem dX7_chain_67 : decode cX7_chain 67 = .ok (.istore 4, 2) := by decide +kernel
theorem dX7_chain_69 : decode cX7_chain 69 = .ok (.aload_n 0, 1) := by decide +kernel
theorem dX7_chain_70 : decode cX7_chain 70 = .ok (.getfield 41, 3) := by decide +kernel
theorem dX7_chain_73 : decode cX7_chain 73 = .ok (.iload_n 2, 1) := by decide +kernel
theorem dX7_chain_74 : decode cX7_chain 74 = .ok (.iload 4, 2) := by decide +kernel
theorem dX7_chain_76 : decode cX7_chain 76 = .ok (.ifCond .eq 14, 3) := by decide +kernel
theorem dX7_chain_79 : decode cX7_chain 79 = .ok (.aload_n 0, 1) := by decide +kernel
theorem dX7_chain_80 : decode cX7_chain 80 = .ok (.getfield 41, 3) := by decide +kernel
theorem dX7_chain_83 : decode cX7_chain 83 = .ok (.iload_n 3, 1) := by decide +kernel
theorem dX7_chain_84 : decode cX7_chain 84 = .ok (.iaload, 1) := by decide +kernel
theorem dX7_chain_85 : decode cX7_chain 85 = .ok (.iconst 1, 1) := by decide +kernel
theorem dX7_chain_86 : decode cX7_chain 86 = .ok (.iadd, 1) := by decide +kernel
theorem dX7_chain_87 : decode cX7_chain 87 = .ok (.goto 9, 3) := by decide +kernel
theorem dX7_chain_90 : decode cX7_chain 90 = .ok (.aload_n 0, 1) := by decide +kernel
theorem dX7_chain_91 : decode cX7_chain 91 = .ok (.getfield 41, 3) := by decide +kernel
theorem dX7_chain_94 : decode cX7_chain 94 = .ok (.iload_n 2, 1) := by decide +kernel
theorem dX7_chain_95 : decode cX7_chain 95 = .ok (.iaload, 1) := by decide +kernel
theorem dX7_chain_96 : decode cX7_chain 96 = .ok (.iastore, 1) := by decide +kernel
theorem dX7_chain_97 : decode cX7_chain 97 = .ok (.iinc 3 1, 3) := by decide +kernel
theorem dX7_chain_100 : decode cX7_chain 100 = .ok (.goto (-74), 3) := by decide +kernel
theorem dX7_chain_103 : decode cX7_chain 103 = .ok (.iinc 2 1, 3) := by decide +kernel
theorem dX7_chain_106 : decode cX7_chain 106 = .ok (.goto (-94), 3) := by decide +kernel
theorem dX7_chain_109 : decode cX7_chain 109 = .ok (.aload_n 0, 1) := by decide +kernel
theorem dX7_chain_110 : decode cX7_chain 110 = .ok (.getfield 41, 3) := by decide +kernel
theorem dX7_chain_113 : decode cX7_chain 113 = .ok (.iload_n 1, 1) := by decide +kernel
theorem dX7_chain_114 : decode cX7_chain 114 = .ok (.iaload, 1) := by decide +kernel
theorem dX7_chain_115 : decode cX7_chain 115 = .ok (.ireturn, 1) := by decide +kernel
theorem dX7_late_0 : decode cX7_late 0 = .ok (.iconst 0, 1) := by decide +kernel
theorem dX7_late_1 : decode cX7_late 1 = .ok (.istore_n 1, 1) := by decide +kernel
theorem dX7_late_2 : decode cX7_late 2 = .ok (.iconst 0, 1) := by decide +kernel
theorem dX7_late_3 : decode cX7_late 3 = .ok (.istore_n 2, 1) := by decide +kernel
theorem dX7_late_4 : decode cX7_late 4 = .ok (.iload_n 2, 1) := by decide +kernel
theorem dX7_late_5 : decode cX7_late 5 = .ok (.aload_n 0, 1) := by decide +kernel
theorem dX7_late_6 : decode cX7_late 6 = .ok (.getfield 72, 3) := by decide +kernel
theorem dX7_late_9 : decode cX7_late 9 = .ok (.if_icmp .ge 52, 3) := by decide +kernel
theorem dX7_late_12 : decode cX7_late 12 = .ok (.iload_n 1, 1) := by decide +kernel
theorem dX7_late_13 : decode cX7_late 13 = .ok (.aload_n 0, 1) := by decide +kernel
theorem dX7_late_14 : decode cX7_late 14 = .ok (.getfield 7, 3) := by decide +kernel
theorem dX7_late_17 : decode cX7_late 17 = .ok (.bipush 24, 2) := by decide +kernel
theorem dX7_late_19 : decode cX7_late 19 = .ok (.iaload, 1) := by decide +kernel
theorem dX7_late_20 : decode cX7_late 20 = .ok (.iload_n 2, 1) := by decide +kernel
theorem dX7_late_21 : decode cX7_late 21 = .ok (.ishr, 1) := by decide +kernel
theorem dX7_late_22 : decode cX7_late 22 = .ok (.iconst 1, 1) := by decide +kernel
theorem dX7_late_23 : decode cX7_late 23 = .ok (.iand, 1) := by decide +kernel
theorem dX7_late_24 : decode cX7_late 24 = .ok (.ifCond .ne 23, 3) := by decide +kernel
theorem dX7_late_27 : decode cX7_late 27 = .ok (.aload_n 0, 1) := by decide +kernel
theorem dX7_late_28 : decode cX7_late 28 = .ok (.getfield 23, 3) := by decide +kernel
theorem dX7_late_31 : decode cX7_late 31 = .ok (.iload_n 2, 1) := by decide +kernel
theorem dX7_late_32 : decode cX7_late 32 = .ok (.iaload, 1) := by decide +kernel
theorem dX7_late_33 : decode cX7_late 33 = .ok (.aload_n 0, 1) := by decide +kernel
theorem dX7_late_34 : decode cX7_late 34 = .ok (.getfield 7, 3) := by decide +kernel
theorem dX7_late_37 : decode cX7_late 37 = .ok (.bipush 26, 2) := by decide +kernel
theorem dX7_late_39 : decode cX7_late 39 = .ok (.iaload, 1) := by decide +kernel
theorem dX7_late_40 : decode cX7_late 40 = .ok (.if_icmp .ge 7, 3) := by decide +kernel
theorem dX7_late_43 : decode cX7_late 43 = .ok (.iconst 1, 1) := by decide +kernel
theorem dX7_late_44 : decode cX7_late 44 = .ok (.goto 4, 3) := by decide +kernel
theorem dX7_late_47 : decode cX7_late 47 = .ok (.iconst 0, 1) := by decide +kernel
theorem dX7_late_48 : decode cX7_late 48 = .ok (.invokestatic 164, 3) := by decide +kernel
theorem dX7_late_51 : decode cX7_late 51 = .ok (.iload_n 2, 1) := by decide +kernel
theorem dX7_late_52 : decode cX7_late 52 = .ok (.ishl, 1) := by decide +kernel
theorem dX7_late_53 : decode cX7_late 53 = .ok (.ior, 1) := by decide +kernel
theorem dX7_late_54 : decode cX7_late 54 = .ok (.istore_n 1, 1) := by decide +kernel
theorem dX7_late_55 : decode cX7_late 55 = .ok (.iinc 2 1, 3) := by decide +kernel
theorem dX7_late_58 : decode cX7_late 58 = .ok (.goto (-54), 3) := by decide +kernel
theorem dX7_late_61 : decode cX7_late 61 = .ok (.iload_n 1, 1) := by decide +kernel
theorem dX7_late_62 : decode cX7_late 62 = .ok (.ireturn, 1) := by decide +kernel
theorem dX7_fewest_0 : decode cX7_fewest 0 = .ok (.iload_n 2, 1) := by decide +kernel
theorem dX7_fewest_1 : decode cX7_fewest 1 = .ok (.invokestatic 196, 3) := by decide +kernel
theorem dX7_fewest_4 : decode cX7_fewest 4 = .ok (.ifCond .ne 5, 3) := by decide +kernel
theorem dX7_fewest_7 : decode cX7_fewest 7 = .ok (.iconst (-1), 1) := by decide +kernel
theorem dX7_fewest_8 : decode cX7_fewest 8 = .ok (.ireturn, 1) := by decide +kernel
theorem dX7_fewest_9 : decode cX7_fewest 9 = .ok (.ldc 199, 2) := by decide +kernel
theorem dX7_fewest_11 : decode cX7_fewest 11 = .ok (.istore_n 3, 1) := by decide +kernel
theorem dX7_fewest_12 : decode cX7_fewest 12 = .ok (.bipush (-4), 2) := by decide +kernel
theorem dX7_fewest_14 : decode cX7_fewest 14 = .ok (.istore 4, 2) := by decide +kernel
theorem dX7_fewest_16 : decode cX7_fewest 16 = .ok (.iconst 0, 1) := by decide +kernel
theorem dX7_fewest_17 : decode cX7_fewest 17 = .ok (.istore 5, 2) := by decide +kernel
theorem dX7_fewest_19 : decode cX7_fewest 19 = .ok (.iload 5, 2) := by decide +kernel
theorem dX7_fewest_21 : decode cX7_fewest 21 = .ok (.aload_n 0, 1) := by decide +kernel
theorem dX7_fewest_22 : decode cX7_fewest 22 = .ok (.invokevirtual 191, 3) := by decide +kernel
theorem dX7_fewest_25 : decode cX7_fewest 25 = .ok (.if_icmp .gt 92, 3) := by decide +kernel
theorem dX7_fewest_28 : decode cX7_fewest 28 = .ok (.aload_n 0, 1) := by decide +kernel
theorem dX7_fewest_29 : decode cX7_fewest 29 = .ok (.getfield 72, 3) := by decide +kernel
theorem dX7_fewest_32 : decode cX7_fewest 32 = .ok (.ifCond .le 85, 3) := by decide +kernel
theorem dX7_fewest_35 : decode cX7_fewest 35 = .ok (.iload 5, 2) := by decide +kernel
theorem dX7_fewest_37 : decode cX7_fewest 37 = .ok (.aload_n 0, 1) := by decide +kernel
theorem dX7_fewest_38 : decode cX7_fewest 38 = .ok (.getfield 7, 3) := by decide +kernel
theorem dX7_fewest_41 : decode cX7_fewest 41 = .ok (.bipush 24, 2) := by decide +kernel
theorem dX7_fewest_43 : decode cX7_fewest 43 = .ok (.iaload, 1) := by decide +kernel
theorem dX7_fewest_44 : decode cX7_fewest 44 = .ok (.iand, 1) := by decide +kernel
theorem dX7_fewest_45 : decode cX7_fewest 45 = .ok (.ifCond .ne 34, 3) := by decide +kernel
theorem dX7_fewest_48 : decode cX7_fewest 48 = .ok (.iload 5, 2) := by decide +kernel
theorem dX7_fewest_50 : decode cX7_fewest 50 = .ok (.invokestatic 179, 3) := by decide +kernel
theorem dX7_fewest_53 : decode cX7_fewest 53 = .ok (.iload_n 3, 1) := by decide +kernel
theorem dX7_fewest_54 : decode cX7_fewest 54 = .ok (.if_icmp .ge 25, 3) := by decide +kernel
theorem dX7_fewest_57 : decode cX7_fewest 57 = .ok (.aload_n 0, 1) := by decide +kernel
theorem dX7_fewest_58 : decode cX7_fewest 58 = .ok (.aload_n 0, 1) := by decide +kernel
theorem dX7_fewest_59 : decode cX7_fewest 59 = .ok (.getfield 7, 3) := by decide +kernel
theorem dX7_fewest_62 : decode cX7_fewest 62 = .ok (.bipush 24, 2) := by decide +kernel
theorem dX7_fewest_64 : decode cX7_fewest 64 = .ok (.iaload, 1) := by decide +kernel
theorem dX7_fewest_65 : decode cX7_fewest 65 = .ok (.iload 5, 2) := by decide +kernel
theorem dX7_fewest_67 : decode cX7_fewest 67 = .ok (.ior, 1) := by decide +kernel
theorem dX7_fewest_68 : decode cX7_fewest 68 = .ok (.invokevirtual 200, 3) := by decide +kernel
theorem dX7_fewest_71 : decode cX7_fewest 71 = .ok (.iload_n 1, 1) := by decide +kernel
theorem dX7_fewest_72 : decode cX7_fewest 72 = .ok (.if_icmp .ne 7, 3) := by decide +kernel
theorem dX7_fewest_75 : decode cX7_fewest 75 = .ok (.iconst 1, 1) := by decide +kernel
theorem dX7_fewest_76 : decode cX7_fewest 76 = .ok (.goto 4, 3) := by decide +kernel
theorem dX7_fewest_79 : decode cX7_fewest 79 = .ok (.iconst 0, 1) := by decide +kernel
theorem dX7_fewest_80 : decode cX7_fewest 80 = .ok (.istore 6, 2) := by decide +kernel
theorem dX7_fewest_82 : decode cX7_fewest 82 = .ok (.iload 6, 2) := by decide +kernel
theorem dX7_fewest_84 : decode cX7_fewest 84 = .ok (.ifCond .eq 8, 3) := by decide +kernel
theorem dX7_fewest_87 : decode cX7_fewest 87 = .ok (.iload 5, 2) := by decide +kernel
theorem dX7_fewest_89 : decode cX7_fewest 89 = .ok (.goto 5, 3) := by decide +kernel
theorem dX7_fewest_92 : decode cX7_fewest 92 = .ok (.iload 4, 2) := by decide +kernel
theorem dX7_fewest_94 : decode cX7_fewest 94 = .ok (.istore 4, 2) := by decide +kernel
theorem dX7_fewest_96 : decode cX7_fewest 96 = .ok (.iload 6, 2) := by decide +kernel
theorem dX7_fewest_98 : decode cX7_fewest 98 = .ok (.ifCond .eq 11, 3) := by decide +kernel
theorem dX7_fewest_101 : decode cX7_fewest 101 = .ok (.iload 5, 2) := by decide +kernel
theorem dX7_fewest_103 : decode cX7_fewest 103 = .ok (.invokestatic 179, 3) := by decide +kernel
theorem dX7_fewest_106 : decode cX7_fewest 106 = .ok (.goto 4, 3) := by decide +kernel
theorem dX7_fewest_109 : decode cX7_fewest 109 = .ok (.iload_n 3, 1) := by decide +kernel
theorem dX7_fewest_110 : decode cX7_fewest 110 = .ok (.istore_n 3, 1) := by decide +kernel
theorem dX7_fewest_111 : decode cX7_fewest 111 = .ok (.iinc 5 1, 3) := by decide +kernel
theorem dX7_fewest_114 : decode cX7_fewest 114 = .ok (.goto (-95), 3) := by decide +kernel
theorem dX7_fewest_117 : decode cX7_fewest 117 = .ok (.iload 4, 2) := by decide +kernel
theorem dX7_fewest_119 : decode cX7_fewest 119 = .ok (.bipush (-4), 2) := by decide +kernel
theorem dX7_fewest_121 : decode cX7_fewest 121 = .ok (.if_icmp .ne 8, 3) := by decide +kernel
theorem dX7_fewest_124 : decode cX7_fewest 124 = .ok (.bipush (-4), 2) := by decide +kernel
theorem dX7_fewest_126 : decode cX7_fewest 126 = .ok (.goto 13, 3) := by decide +kernel
theorem dX7_fewest_129 : decode cX7_fewest 129 = .ok (.iload_n 2, 1) := by decide +kernel
theorem dX7_fewest_130 : decode cX7_fewest 130 = .ok (.ifCond .ne 7, 3) := by decide +kernel
theorem dX7_fewest_133 : decode cX7_fewest 133 = .ok (.iload_n 3, 1) := by decide +kernel
theorem dX7_fewest_134 : decode cX7_fewest 134 = .ok (.goto 5, 3) := by decide +kernel
theorem dX7_fewest_137 : decode cX7_fewest 137 = .ok (.iload 4, 2) := by decide +kernel
theorem dX7_fewest_139 : decode cX7_fewest 139 = .ok (.ireturn, 1) := by decide +kernel
theorem dX7_few_0 : decode cX7_few 0 = .ok (.aload_n 0, 1) := by decide +kernel
theorem dX7_few_1 : decode cX7_few 1 = .ok (.iconst 1, 1) := by decide +kernel
theorem dX7_few_2 : decode cX7_few 2 = .ok (.iload_n 1, 1) := by decide +kernel
theorem dX7_few_3 : decode cX7_few 3 = .ok (.invokevirtual 203, 3) := by decide +kernel
theorem dX7_few_6 : decode cX7_few 6 = .ok (.ireturn, 1) := by decide +kernel
theorem dX7_foil_0 : decode cX7_foil 0 = .ok (.aload_n 0, 1) := by decide +kernel
theorem dX7_foil_1 : decode cX7_foil 1 = .ok (.iconst 0, 1) := by decide +kernel
theorem dX7_foil_2 : decode cX7_foil 2 = .ok (.iload_n 1, 1) := by decide +kernel
theorem dX7_foil_3 : decode cX7_foil 3 = .ok (.invokevirtual 203, 3) := by decide +kernel
theorem dX7_foil_6 : decode cX7_foil 6 = .ok (.ireturn, 1) := by decide +kernel
theorem dX7_tries_0 : decode cX7_tries 0 = .ok (.aload_n 0, 1) := by decide +kernel
theorem dX7_tries_1 : decode cX7_tries 1 = .ok (.getfield 7, 3) := by decide +kernel
theorem dX7_tries_4 : decode cX7_tries 4 = .ok (.bipush 24, 2) := by decide +kernel
theorem dX7_tries_6 : decode cX7_tries 6 = .ok (.iaload, 1) := by decide +kernel
theorem dX7_tries_7 : decode cX7_tries 7 = .ok (.istore_n 2, 1) := by decide +kernel
theorem dX7_tries_8 : decode cX7_tries 8 = .ok (.aload_n 0, 1) := by decide +kernel
theorem dX7_tries_9 : decode cX7_tries 9 = .ok (.bipush (-4), 2) := by decide +kernel
theorem dX7_tries_11 : decode cX7_tries 11 = .ok (.putfield 207, 3) := by decide +kernel
theorem dX7_tries_14 : decode cX7_tries 14 = .ok (.aload_n 0, 1) := by decide +kernel
theorem dX7_tries_15 : decode cX7_tries 15 = .ok (.iconst 0, 1) := by decide +kernel
theorem dX7_tries_16 : decode cX7_tries 16 = .ok (.putfield 210, 3) := by decide +kernel
theorem dX7_tries_19 : decode cX7_tries 19 = .ok (.iconst 0, 1) := by decide +kernel
theorem dX7_tries_20 : decode cX7_tries 20 = .ok (.istore_n 3, 1) := by decide +kernel
theorem dX7_tries_21 : decode cX7_tries 21 = .ok (.iload_n 3, 1) := by decide +kernel
theorem dX7_tries_22 : decode cX7_tries 22 = .ok (.aload_n 0, 1) := by decide +kernel
theorem dX7_tries_23 : decode cX7_tries 23 = .ok (.getfield 7, 3) := by decide +kernel
theorem dX7_tries_26 : decode cX7_tries 26 = .ok (.bipush 27, 2) := by decide +kernel
theorem dX7_tries_28 : decode cX7_tries 28 = .ok (.iaload, 1) := by decide +kernel
theorem dX7_tries_29 : decode cX7_tries 29 = .ok (.if_icmp .ge 132, 3) := by decide +kernel
theorem dX7_tries_32 : decode cX7_tries 32 = .ok (.aload_n 0, 1) := by decide +kernel
theorem dX7_tries_33 : decode cX7_tries 33 = .ok (.getfield 7, 3) := by decide +kernel
theorem dX7_tries_36 : decode cX7_tries 36 = .ok (.bipush 28, 2) := by decide +kernel
theorem dX7_tries_38 : decode cX7_tries 38 = .ok (.iload_n 3, 1) := by decide +kernel
theorem dX7_tries_39 : decode cX7_tries 39 = .ok (.iadd, 1) := by decide +kernel
theorem dX7_tries_40 : decode cX7_tries 40 = .ok (.iaload, 1) := by decide +kernel
theorem dX7_tries_41 : decode cX7_tries 41 = .ok (.istore 4, 2) := by decide +kernel
theorem dX7_tries_43 : decode cX7_tries 43 = .ok (.aload_n 0, 1) := by decide +kernel
theorem dX7_tries_44 : decode cX7_tries 44 = .ok (.getfield 7, 3) := by decide +kernel
theorem dX7_tries_47 : decode cX7_tries 47 = .ok (.bipush 26, 2) := by decide +kernel
theorem dX7_tries_49 : decode cX7_tries 49 = .ok (.iaload, 1) := by decide +kernel
theorem dX7_tries_50 : decode cX7_tries 50 = .ok (.iload_n 3, 1) := by decide +kernel
theorem dX7_tries_51 : decode cX7_tries 51 = .ok (.iadd, 1) := by decide +kernel
theorem dX7_tries_52 : decode cX7_tries 52 = .ok (.istore 5, 2) := by decide +kernel
theorem dX7_tries_54 : decode cX7_tries 54 = .ok (.iload 5, 2) := by decide +kernel
theorem dX7_tries_56 : decode cX7_tries 56 = .ok (.bipush 9, 2) := by decide +kernel
theorem dX7_tries_58 : decode cX7_tries 58 = .ok (.if_icmp .gt 35, 3) := by decide +kernel
theorem dX7_tries_61 : decode cX7_tries 61 = .ok (.aload_n 0, 1) := by decide +kernel
theorem dX7_tries_62 : decode cX7_tries 62 = .ok (.iload 4, 2) := by decide +kernel
theorem dX7_tries_64 : decode cX7_tries 64 = .ok (.iload 5, 2) := by decide +kernel
theorem dX7_tries_66 : decode cX7_tries 66 = .ok (.invokevirtual 175, 3) := by decide +kernel
theorem dX7_tries_69 : decode cX7_tries 69 = .ok (.ifCond .eq 24, 3) := by decide +kernel
theorem dX7_tries_72 : decode cX7_tries 72 = .ok (.iload_n 2, 1) := by decide +kernel
theorem dX7_tries_73 : decode cX7_tries 73 = .ok (.iload 4, 2) := by decide +kernel
theorem dX7_tries_75 : decode cX7_tries 75 = .ok (.ishr, 1) := by decide +kernel
theorem dX7_tries_76 : decode cX7_tries 76 = .ok (.iconst 1, 1) := by decide +kernel
theorem dX7_tries_77 : decode cX7_tries 77 = .ok (.iand, 1) := by decide +kernel
theorem dX7_tries_78 : decode cX7_tries 78 = .ok (.ifCond .ne 15, 3) := by decide +kernel
theorem dX7_tries_81 : decode cX7_tries 81 = .ok (.iload_n 1, 1) := by decide +kernel
theorem dX7_tries_82 : decode cX7_tries 82 = .ok (.iload_n 3, 1) := by decide +kernel
theorem dX7_tries_83 : decode cX7_tries 83 = .ok (.ishr, 1) := by decide +kernel
theorem dX7_tries_84 : decode cX7_tries 84 = .ok (.iconst 1, 1) := by decide +kernel
theorem dX7_tries_85 : decode cX7_tries 85 = .ok (.iand, 1) := by decide +kernel
theorem dX7_tries_86 : decode cX7_tries 86 = .ok (.ifCond .ne 7, 3) := by decide +kernel
theorem dX7_tries_89 : decode cX7_tries 89 = .ok (.iconst 1, 1) := by decide +kernel
theorem dX7_tries_90 : decode cX7_tries 90 = .ok (.goto 4, 3) := by decide +kernel
theorem dX7_tries_93 : decode cX7_tries 93 = .ok (.iconst 0, 1) := by decide +kernel
theorem dX7_tries_94 : decode cX7_tries 94 = .ok (.istore 6, 2) := by decide +kernel
theorem dX7_tries_96 : decode cX7_tries 96 = .ok (.iload_n 2, 1) := by decide +kernel
theorem dX7_tries_97 : decode cX7_tries 97 = .ok (.iload 6, 2) := by decide +kernel
theorem dX7_tries_99 : decode cX7_tries 99 = .ok (.invokestatic 164, 3) := by decide +kernel
theorem dX7_tries_102 : decode cX7_tries 102 = .ok (.iload 4, 2) := by decide +kernel
theorem dX7_tries_104 : decode cX7_tries 104 = .ok (.ishl, 1) := by decide +kernel
theorem dX7_tries_105 : decode cX7_tries 105 = .ok (.ior, 1) := by decide +kernel
theorem dX7_tries_106 : decode cX7_tries 106 = .ok (.istore_n 2, 1) := by decide +kernel
theorem dX7_tries_107 : decode cX7_tries 107 = .ok (.aload_n 0, 1) := by decide +kernel
theorem dX7_tries_108 : decode cX7_tries 108 = .ok (.iload 6, 2) := by decide +kernel
theorem dX7_tries_110 : decode cX7_tries 110 = .ok (.ifCond .ne 16, 3) := by decide +kernel
theorem dX7_tries_113 : decode cX7_tries 113 = .ok (.aload_n 0, 1) := by decide +kernel
theorem dX7_tries_114 : decode cX7_tries 114 = .ok (.getfield 207, 3) := by decide +kernel
theorem dX7_tries_117 : decode cX7_tries 117 = .ok (.bipush (-4), 2) := by decide +kernel
theorem dX7_tries_119 : decode cX7_tries 119 = .ok (.if_icmp .ne 7, 3) := by decide +kernel
theorem dX7_tries_122 : decode cX7_tries 122 = .ok (.iload_n 3, 1) := by decide +kernel
theorem dX7_tries_123 : decode cX7_tries 123 = .ok (.goto 7, 3) := by decide +kernel
theorem dX7_tries_126 : decode cX7_tries 126 = .ok (.aload_n 0, 1) := by decide +kernel
theorem dX7_tries_127 : decode cX7_tries 127 = .ok (.getfield 207, 3) := by decide +kernel
theorem dX7_tries_130 : decode cX7_tries 130 = .ok (.putfield 207, 3) := by decide +kernel
theorem dX7_tries_133 : decode cX7_tries 133 = .ok (.aload_n 0, 1) := by decide +kernel
theorem dX7_tries_134 : decode cX7_tries 134 = .ok (.dup, 1) := by decide +kernel
theorem dX7_tries_135 : decode cX7_tries 135 = .ok (.getfield 210, 3) := by decide +kernel
theorem dX7_tries_138 : decode cX7_tries 138 = .ok (.iload 6, 2) := by decide +kernel
theorem dX7_tries_140 : decode cX7_tries 140 = .ok (.ifCond .ne 7, 3) := by decide +kernel
theorem dX7_tries_143 : decode cX7_tries 143 = .ok (.iconst 1, 1) := by decide +kernel
theorem dX7_tries_144 : decode cX7_tries 144 = .ok (.goto 4, 3) := by decide +kernel
theorem dX7_tries_147 : decode cX7_tries 147 = .ok (.iconst 0, 1) := by decide +kernel
theorem dX7_tries_148 : decode cX7_tries 148 = .ok (.invokestatic 164, 3) := by decide +kernel
theorem dX7_tries_151 : decode cX7_tries 151 = .ok (.iadd, 1) := by decide +kernel
theorem dX7_tries_152 : decode cX7_tries 152 = .ok (.putfield 210, 3) := by decide +kernel
theorem dX7_tries_155 : decode cX7_tries 155 = .ok (.iinc 3 1, 3) := by decide +kernel
theorem dX7_tries_158 : decode cX7_tries 158 = .ok (.goto (-137), 3) := by decide +kernel
theorem dX7_tries_161 : decode cX7_tries 161 = .ok (.iload_n 2, 1) := by decide +kernel
theorem dX7_tries_162 : decode cX7_tries 162 = .ok (.ireturn, 1) := by decide +kernel
theorem dX7_trial_0 : decode cX7_trial 0 = .ok (.aload_n 0, 1) := by decide +kernel
theorem dX7_trial_1 : decode cX7_trial 1 = .ok (.iconst 0, 1) := by decide +kernel
theorem dX7_trial_2 : decode cX7_trial 2 = .ok (.invokevirtual 213, 3) := by decide +kernel
theorem dX7_trial_5 : decode cX7_trial 5 = .ok (.istore_n 2, 1) := by decide +kernel
theorem dX7_trial_6 : decode cX7_trial 6 = .ok (.iload_n 1, 1) := by decide +kernel
theorem dX7_trial_7 : decode cX7_trial 7 = .ok (.tableswitch 66 0 3 #[29, 35, 56, 61], 29) := by decide +kernel
theorem dX7_trial_36 : decode cX7_trial 36 = .ok (.aload_n 0, 1) := by decide +kernel
theorem dX7_trial_37 : decode cX7_trial 37 = .ok (.iload_n 2, 1) := by decide +kernel
theorem dX7_trial_38 : decode cX7_trial 38 = .ok (.invokevirtual 168, 3) := by decide +kernel
theorem dX7_trial_41 : decode cX7_trial 41 = .ok (.ireturn, 1) := by decide +kernel
theorem dX7_trial_42 : decode cX7_trial 42 = .ok (.aload_n 0, 1) := by decide +kernel
theorem dX7_trial_43 : decode cX7_trial 43 = .ok (.getfield 72, 3) := by decide +kernel
theorem dX7_trial_46 : decode cX7_trial 46 = .ok (.ifCond .ne 8, 3) := by decide +kernel
theorem dX7_trial_49 : decode cX7_trial 49 = .ok (.bipush (-4), 2) := by decide +kernel
theorem dX7_trial_51 : decode cX7_trial 51 = .ok (.goto 11, 3) := by decide +kernel
theorem dX7_trial_54 : decode cX7_trial 54 = .ok (.aload_n 0, 1) := by decide +kernel
theorem dX7_trial_55 : decode cX7_trial 55 = .ok (.iload_n 2, 1) := by decide +kernel
theorem dX7_trial_56 : decode cX7_trial 56 = .ok (.invokevirtual 200, 3) := by decide +kernel
theorem dX7_trial_59 : decode cX7_trial 59 = .ok (.invokestatic 164, 3) := by decide +kernel
theorem dX7_trial_62 : decode cX7_trial 62 = .ok (.ireturn, 1) := by decide +kernel
theorem dX7_trial_63 : decode cX7_trial 63 = .ok (.aload_n 0, 1) := by decide +kernel
theorem dX7_trial_64 : decode cX7_trial 64 = .ok (.getfield 207, 3) := by decide +kernel
theorem dX7_trial_67 : decode cX7_trial 67 = .ok (.ireturn, 1) := by decide +kernel
theorem dX7_trial_68 : decode cX7_trial 68 = .ok (.aload_n 0, 1) := by decide +kernel
theorem dX7_trial_69 : decode cX7_trial 69 = .ok (.getfield 210, 3) := by decide +kernel
theorem dX7_trial_72 : decode cX7_trial 72 = .ok (.ireturn, 1) := by decide +kernel
theorem dX7_trial_73 : decode cX7_trial 73 = .ok (.iconst (-1), 1) := by decide +kernel
theorem dX7_trial_74 : decode cX7_trial 74 = .ok (.ireturn, 1) := by decide +kernel
theorem dX7_common_0 : decode cX7_common 0 = .ok (.lload_n 0, 1) := by decide +kernel
theorem dX7_common_1 : decode cX7_common 1 = .ok (.lconst 0, 1) := by decide +kernel
theorem dX7_common_2 : decode cX7_common 2 = .ok (.lcmp, 1) := by decide +kernel
theorem dX7_common_3 : decode cX7_common 3 = .ok (.ifCond .ge 8, 3) := by decide +kernel
theorem dX7_common_6 : decode cX7_common 6 = .ok (.lload_n 0, 1) := by decide +kernel
theorem dX7_common_7 : decode cX7_common 7 = .ok (.lneg, 1) := by decide +kernel
theorem dX7_common_8 : decode cX7_common 8 = .ok (.goto 4, 3) := by decide +kernel
theorem dX7_common_11 : decode cX7_common 11 = .ok (.lload_n 0, 1) := by decide +kernel
theorem dX7_common_12 : decode cX7_common 12 = .ok (.lstore 4, 2) := by decide +kernel
theorem dX7_common_14 : decode cX7_common 14 = .ok (.lload_n 2, 1) := by decide +kernel
theorem dX7_common_15 : decode cX7_common 15 = .ok (.lconst 0, 1) := by decide +kernel
theorem dX7_common_16 : decode cX7_common 16 = .ok (.lcmp, 1) := by decide +kernel
theorem dX7_common_17 : decode cX7_common 17 = .ok (.ifCond .ge 8, 3) := by decide +kernel
theorem dX7_common_20 : decode cX7_common 20 = .ok (.lload_n 2, 1) := by decide +kernel
theorem dX7_common_21 : decode cX7_common 21 = .ok (.lneg, 1) := by decide +kernel
theorem dX7_common_22 : decode cX7_common 22 = .ok (.goto 4, 3) := by decide +kernel
theorem dX7_common_25 : decode cX7_common 25 = .ok (.lload_n 2, 1) := by decide +kernel
theorem dX7_common_26 : decode cX7_common 26 = .ok (.lstore 6, 2) := by decide +kernel
theorem dX7_common_28 : decode cX7_common 28 = .ok (.lload 6, 2) := by decide +kernel
theorem dX7_common_30 : decode cX7_common 30 = .ok (.lconst 0, 1) := by decide +kernel
theorem dX7_common_31 : decode cX7_common 31 = .ok (.lcmp, 1) := by decide +kernel
theorem dX7_common_32 : decode cX7_common 32 = .ok (.ifCond .eq 21, 3) := by decide +kernel
theorem dX7_common_35 : decode cX7_common 35 = .ok (.lload 4, 2) := by decide +kernel
theorem dX7_common_37 : decode cX7_common 37 = .ok (.lload 6, 2) := by decide +kernel
theorem dX7_common_39 : decode cX7_common 39 = .ok (.lrem, 1) := by decide +kernel
theorem dX7_common_40 : decode cX7_common 40 = .ok (.lstore 8, 2) := by decide +kernel
theorem dX7_common_42 : decode cX7_common 42 = .ok (.lload 6, 2) := by decide +kernel
theorem dX7_common_44 : decode cX7_common 44 = .ok (.lstore 4, 2) := by decide +kernel
theorem dX7_common_46 : decode cX7_common 46 = .ok (.lload 8, 2) := by decide +kernel
theorem dX7_common_48 : decode cX7_common 48 = .ok (.lstore 6, 2) := by decide +kernel
theorem dX7_common_50 : decode cX7_common 50 = .ok (.goto (-22), 3) := by decide +kernel
theorem dX7_common_53 : decode cX7_common 53 = .ok (.lload 4, 2) := by decide +kernel
theorem dX7_common_55 : decode cX7_common 55 = .ok (.lreturn, 1) := by decide +kernel
theorem dX7_told_0 : decode cX7_told 0 = .ok (.lload_n 2, 1) := by decide +kernel
theorem dX7_told_1 : decode cX7_told 1 = .ok (.lload_n 0, 1) := by decide +kernel
theorem dX7_told_2 : decode cX7_told 2 = .ok (.invokestatic 216, 3) := by decide +kernel
theorem dX7_told_5 : decode cX7_told 5 = .ok (.lstore 5, 2) := by decide +kernel
theorem dX7_told_7 : decode cX7_told 7 = .ok (.iload 4, 2) := by decide +kernel
theorem dX7_told_9 : decode cX7_told 9 = .ok (.ifCond .ne 10, 3) := by decide +kernel
theorem dX7_told_12 : decode cX7_told 12 = .ok (.lload_n 0, 1) := by decide +kernel
theorem dX7_told_13 : decode cX7_told 13 = .ok (.lload 5, 2) := by decide +kernel
theorem dX7_told_15 : decode cX7_told 15 = .ok (.ldiv, 1) := by decide +kernel
theorem dX7_told_16 : decode cX7_told 16 = .ok (.goto 7, 3) := by decide +kernel
theorem dX7_told_19 : decode cX7_told 19 = .ok (.lload_n 2, 1) := by decide +kernel
theorem dX7_told_20 : decode cX7_told 20 = .ok (.lload 5, 2) := by decide +kernel
theorem dX7_told_22 : decode cX7_told 22 = .ok (.ldiv, 1) := by decide +kernel
theorem dX7_told_23 : decode cX7_told 23 = .ok (.lreturn, 1) := by decide +kernel
theorem dX7_luck_0 : decode cX7_luck 0 = .ok (.iload_n 1, 1) := by decide +kernel
theorem dX7_luck_1 : decode cX7_luck 1 = .ok (.i2l, 1) := by decide +kernel
theorem dX7_luck_2 : decode cX7_luck 2 = .ok (.lconst 0, 1) := by decide +kernel
theorem dX7_luck_3 : decode cX7_luck 3 = .ok (.ldc2_w 220, 3) := by decide +kernel
theorem dX7_luck_6 : decode cX7_luck 6 = .ok (.invokestatic 77, 3) := by decide +kernel
theorem dX7_luck_9 : decode cX7_luck 9 = .ok (.ifCond .eq 10, 3) := by decide +kernel
theorem dX7_luck_12 : decode cX7_luck 12 = .ok (.iload_n 2, 1) := by decide +kernel
theorem dX7_luck_13 : decode cX7_luck 13 = .ok (.invokestatic 196, 3) := by decide +kernel
theorem dX7_luck_16 : decode cX7_luck 16 = .ok (.ifCond .ne 7, 3) := by decide +kernel
theorem dX7_luck_19 : decode cX7_luck 19 = .ok (.ldc2_w 222, 3) := by decide +kernel
theorem dX7_luck_22 : decode cX7_luck 22 = .ok (.lreturn, 1) := by decide +kernel
theorem dX7_luck_23 : decode cX7_luck 23 = .ok (.aload_n 0, 1) := by decide +kernel
theorem dX7_luck_24 : decode cX7_luck 24 = .ok (.getfield 72, 3) := by decide +kernel
theorem dX7_luck_27 : decode cX7_luck 27 = .ok (.ifCond .ne 7, 3) := by decide +kernel
theorem dX7_luck_30 : decode cX7_luck 30 = .ok (.ldc2_w 224, 3) := by decide +kernel
theorem dX7_luck_33 : decode cX7_luck 33 = .ok (.lreturn, 1) := by decide +kernel
theorem dX7_luck_34 : decode cX7_luck 34 = .ok (.bipush 10, 2) := by decide +kernel
theorem dX7_luck_36 : decode cX7_luck 36 = .ok (.aload_n 0, 1) := by decide +kernel
theorem dX7_luck_37 : decode cX7_luck 37 = .ok (.getfield 7, 3) := by decide +kernel
theorem dX7_luck_40 : decode cX7_luck 40 = .ok (.bipush 26, 2) := by decide +kernel
theorem dX7_luck_42 : decode cX7_luck 42 = .ok (.iaload, 1) := by decide +kernel
theorem dX7_luck_43 : decode cX7_luck 43 = .ok (.isub, 1) := by decide +kernel
theorem dX7_luck_44 : decode cX7_luck 44 = .ok (.istore_n 3, 1) := by decide +kernel
theorem dX7_luck_45 : decode cX7_luck 45 = .ok (.aload_n 0, 1) := by decide +kernel
theorem dX7_luck_46 : decode cX7_luck 46 = .ok (.getfield 7, 3) := by decide +kernel
theorem dX7_luck_49 : decode cX7_luck 49 = .ok (.bipush 27, 2) := by decide +kernel
theorem dX7_luck_51 : decode cX7_luck 51 = .ok (.iaload, 1) := by decide +kernel
theorem dX7_luck_52 : decode cX7_luck 52 = .ok (.iload_n 3, 1) := by decide +kernel
theorem dX7_luck_53 : decode cX7_luck 53 = .ok (.if_icmp .ge 13, 3) := by decide +kernel
theorem dX7_luck_56 : decode cX7_luck 56 = .ok (.aload_n 0, 1) := by decide +kernel
theorem dX7_luck_57 : decode cX7_luck 57 = .ok (.getfield 7, 3) := by decide +kernel
theorem dX7_luck_60 : decode cX7_luck 60 = .ok (.bipush 27, 2) := by decide +kernel
theorem dX7_luck_62 : decode cX7_luck 62 = .ok (.iaload, 1) := by decide +kernel
theorem dX7_luck_63 : decode cX7_luck 63 = .ok (.goto 4, 3) := by decide +kernel
theorem dX7_luck_66 : decode cX7_luck 66 = .ok (.iload_n 3, 1) := by decide +kernel
theorem dX7_luck_67 : decode cX7_luck 67 = .ok (.istore 4, 2) := by decide +kernel
theorem dX7_luck_69 : decode cX7_luck 69 = .ok (.lconst 1, 1) := by decide +kernel
theorem dX7_luck_70 : decode cX7_luck 70 = .ok (.lstore 5, 2) := by decide +kernel
theorem dX7_luck_72 : decode cX7_luck 72 = .ok (.lconst 0, 1) := by decide +kernel
theorem dX7_luck_73 : decode cX7_luck 73 = .ok (.lstore 7, 2) := by decide +kernel
theorem dX7_luck_75 : decode cX7_luck 75 = .ok (.iconst 0, 1) := by decide +kernel
theorem dX7_luck_76 : decode cX7_luck 76 = .ok (.istore 9, 2) := by decide +kernel
theorem dX7_luck_78 : decode cX7_luck 78 = .ok (.iload 9, 2) := by decide +kernel
theorem dX7_luck_80 : decode cX7_luck 80 = .ok (.iload 4, 2) := by decide +kernel
theorem dX7_luck_82 : decode cX7_luck 82 = .ok (.if_icmp .ge 17, 3) := by decide +kernel
theorem dX7_luck_85 : decode cX7_luck 85 = .ok (.lload 5, 2) := by decide +kernel
theorem dX7_luck_87 : decode cX7_luck 87 = .ok (.ldc2_w 220, 3) := by decide +kernel
theorem dX7_luck_90 : decode cX7_luck 90 = .ok (.lmul, 1) := by decide +kernel
theorem dX7_luck_91 : decode cX7_luck 91 = .ok (.lstore 5, 2) := by decide +kernel
theorem dX7_luck_93 : decode cX7_luck 93 = .ok (.iinc 9 1, 3) := by decide +kernel
theorem dX7_luck_96 : decode cX7_luck 96 = .ok (.goto (-18), 3) := by decide +kernel
theorem dX7_luck_99 : decode cX7_luck 99 = .ok (.iconst 0, 1) := by decide +kernel
theorem dX7_luck_100 : decode cX7_luck 100 = .ok (.istore 9, 2) := by decide +kernel
theorem dX7_luck_102 : decode cX7_luck 102 = .ok (.iload 9, 2) := by decide +kernel
theorem dX7_luck_104 : decode cX7_luck 104 = .ok (.iconst 1, 1) := by decide +kernel
theorem dX7_luck_105 : decode cX7_luck 105 = .ok (.iload 4, 2) := by decide +kernel
theorem dX7_luck_107 : decode cX7_luck 107 = .ok (.ishl, 1) := by decide +kernel
theorem dX7_luck_108 : decode cX7_luck 108 = .ok (.if_icmp .ge 78, 3) := by decide +kernel
theorem dX7_luck_111 : decode cX7_luck 111 = .ok (.lconst 1, 1) := by decide +kernel
theorem dX7_luck_112 : decode cX7_luck 112 = .ok (.lstore 10, 2) := by decide +kernel
theorem dX7_luck_114 : decode cX7_luck 114 = .ok (.iconst 0, 1) := by decide +kernel
theorem dX7_luck_115 : decode cX7_luck 115 = .ok (.istore 12, 2) := by decide +kernel
theorem dX7_luck_117 : decode cX7_luck 117 = .ok (.iload 12, 2) := by decide +kernel
theorem dX7_luck_119 : decode cX7_luck 119 = .ok (.iload 4, 2) := by decide +kernel
theorem dX7_luck_121 : decode cX7_luck 121 = .ok (.if_icmp .ge 35, 3) := by decide +kernel
theorem dX7_luck_124 : decode cX7_luck 124 = .ok (.lload 10, 2) := by decide +kernel
theorem dX7_luck_126 : decode cX7_luck 126 = .ok (.iload 9, 2) := by decide +kernel
theorem dX7_luck_128 : decode cX7_luck 128 = .ok (.iload 12, 2) := by decide +kernel
theorem dX7_luck_130 : decode cX7_luck 130 = .ok (.ishr, 1) := by decide +kernel
theorem dX7_luck_131 : decode cX7_luck 131 = .ok (.iconst 1, 1) := by decide +kernel
theorem dX7_luck_132 : decode cX7_luck 132 = .ok (.iand, 1) := by decide +kernel
theorem dX7_luck_133 : decode cX7_luck 133 = .ok (.iconst 1, 1) := by decide +kernel
theorem dX7_luck_134 : decode cX7_luck 134 = .ok (.if_icmp .ne 8, 3) := by decide +kernel
theorem dX7_luck_137 : decode cX7_luck 137 = .ok (.iload_n 1, 1) := by decide +kernel
theorem dX7_luck_138 : decode cX7_luck 138 = .ok (.i2l, 1) := by decide +kernel
theorem dX7_luck_139 : decode cX7_luck 139 = .ok (.goto 8, 3) := by decide +kernel
theorem dX7_luck_142 : decode cX7_luck 142 = .ok (.bipush 10, 2) := by decide +kernel
theorem dX7_luck_144 : decode cX7_luck 144 = .ok (.iload_n 1, 1) := by decide +kernel
theorem dX7_luck_145 : decode cX7_luck 145 = .ok (.isub, 1) := by decide +kernel
theorem dX7_luck_146 : decode cX7_luck 146 = .ok (.i2l, 1) := by decide +kernel
theorem dX7_luck_147 : decode cX7_luck 147 = .ok (.lmul, 1) := by decide +kernel
theorem dX7_luck_148 : decode cX7_luck 148 = .ok (.lstore 10, 2) := by decide +kernel
theorem dX7_luck_150 : decode cX7_luck 150 = .ok (.iinc 12 1, 3) := by decide +kernel
theorem dX7_luck_153 : decode cX7_luck 153 = .ok (.goto (-36), 3) := by decide +kernel
theorem dX7_luck_156 : decode cX7_luck 156 = .ok (.lload 7, 2) := by decide +kernel
theorem dX7_luck_158 : decode cX7_luck 158 = .ok (.aload_n 0, 1) := by decide +kernel
theorem dX7_luck_159 : decode cX7_luck 159 = .ok (.aload_n 0, 1) := by decide +kernel
theorem dX7_luck_160 : decode cX7_luck 160 = .ok (.iload 9, 2) := by decide +kernel
theorem dX7_luck_162 : decode cX7_luck 162 = .ok (.invokevirtual 213, 3) := by decide +kernel
theorem dX7_luck_165 : decode cX7_luck 165 = .ok (.invokevirtual 200, 3) := by decide +kernel
theorem dX7_luck_168 : decode cX7_luck 168 = .ok (.ifCond .eq 8, 3) := by decide +kernel
theorem dX7_luck_171 : decode cX7_luck 171 = .ok (.lload 10, 2) := by decide +kernel
theorem dX7_luck_173 : decode cX7_luck 173 = .ok (.goto 4, 3) := by decide +kernel
theorem dX7_luck_176 : decode cX7_luck 176 = .ok (.lconst 0, 1) := by decide +kernel
theorem dX7_luck_177 : decode cX7_luck 177 = .ok (.ladd, 1) := by decide +kernel
theorem dX7_luck_178 : decode cX7_luck 178 = .ok (.lstore 7, 2) := by decide +kernel
theorem dX7_luck_180 : decode cX7_luck 180 = .ok (.iinc 9 1, 3) := by decide +kernel
theorem dX7_luck_183 : decode cX7_luck 183 = .ok (.goto (-81), 3) := by decide +kernel
theorem dX7_luck_186 : decode cX7_luck 186 = .ok (.lload 7, 2) := by decide +kernel
theorem dX7_luck_188 : decode cX7_luck 188 = .ok (.lload 5, 2) := by decide +kernel
theorem dX7_luck_190 : decode cX7_luck 190 = .ok (.iload_n 2, 1) := by decide +kernel
theorem dX7_luck_191 : decode cX7_luck 191 = .ok (.invokestatic 226, 3) := by decide +kernel
theorem dX7_luck_194 : decode cX7_luck 194 = .ok (.lreturn, 1) := by decide +kernel
theorem dX7_play_0 : decode cX7_play 0 = .ok (.iconst 0, 1) := by decide +kernel
theorem dX7_play_1 : decode cX7_play 1 = .ok (.istore_n 1, 1) := by decide +kernel
theorem dX7_play_2 : decode cX7_play 2 = .ok (.iload_n 1, 1) := by decide +kernel
theorem dX7_play_3 : decode cX7_play 3 = .ok (.aload_n 0, 1) := by decide +kernel
theorem dX7_play_4 : decode cX7_play 4 = .ok (.invokevirtual 191, 3) := by decide +kernel
theorem dX7_play_7 : decode cX7_play 7 = .ok (.if_icmp .gt 24, 3) := by decide +kernel
theorem dX7_play_10 : decode cX7_play 10 = .ok (.aload_n 0, 1) := by decide +kernel
theorem dX7_play_11 : decode cX7_play 11 = .ok (.getfield 44, 3) := by decide +kernel
theorem dX7_play_14 : decode cX7_play 14 = .ok (.sipush 2560, 3) := by decide +kernel
theorem dX7_play_17 : decode cX7_play 17 = .ok (.iload_n 1, 1) := by decide +kernel
theorem dX7_play_18 : decode cX7_play 18 = .ok (.iadd, 1) := by decide +kernel
theorem dX7_play_19 : decode cX7_play 19 = .ok (.aload_n 0, 1) := by decide +kernel
theorem dX7_play_20 : decode cX7_play 20 = .ok (.iload_n 1, 1) := by decide +kernel
theorem dX7_play_21 : decode cX7_play 21 = .ok (.invokevirtual 200, 3) := by decide +kernel
theorem dX7_play_24 : decode cX7_play 24 = .ok (.bastore, 1) := by decide +kernel
theorem dX7_play_25 : decode cX7_play 25 = .ok (.iinc 1 1, 3) := by decide +kernel
theorem dX7_play_28 : decode cX7_play 28 = .ok (.goto (-26), 3) := by decide +kernel
theorem dX7_play_31 : decode cX7_play 31 = .ok (.bipush 9, 2) := by decide +kernel
theorem dX7_play_33 : decode cX7_play 33 = .ok (.istore_n 1, 1) := by decide +kernel
theorem dX7_play_34 : decode cX7_play 34 = .ok (.iload_n 1, 1) := by decide +kernel
theorem dX7_play_35 : decode cX7_play 35 = .ok (.ifCond .lt 149, 3) := by decide +kernel
theorem dX7_play_38 : decode cX7_play 38 = .ok (.iconst 0, 1) := by decide +kernel
theorem dX7_play_39 : decode cX7_play 39 = .ok (.istore_n 2, 1) := by decide +kernel
theorem dX7_play_40 : decode cX7_play 40 = .ok (.iload_n 2, 1) := by decide +kernel
theorem dX7_play_41 : decode cX7_play 41 = .ok (.aload_n 0, 1) := by decide +kernel
theorem dX7_play_42 : decode cX7_play 42 = .ok (.invokevirtual 191, 3) := by decide +kernel
theorem dX7_play_45 : decode cX7_play 45 = .ok (.if_icmp .gt 133, 3) := by decide +kernel
theorem dX7_play_48 : decode cX7_play 48 = .ok (.iload_n 1, 1) := by decide +kernel
theorem dX7_play_49 : decode cX7_play 49 = .ok (.iconst 2, 1) := by decide +kernel
theorem dX7_play_50 : decode cX7_play 50 = .ok (.irem, 1) := by decide +kernel
theorem dX7_play_51 : decode cX7_play 51 = .ok (.ifCond .ne 7, 3) := by decide +kernel
theorem dX7_play_54 : decode cX7_play 54 = .ok (.iconst 1, 1) := by decide +kernel
theorem dX7_play_55 : decode cX7_play 55 = .ok (.goto 4, 3) := by decide +kernel
theorem dX7_play_58 : decode cX7_play 58 = .ok (.iconst 0, 1) := by decide +kernel
theorem dX7_play_59 : decode cX7_play 59 = .ok (.istore_n 3, 1) := by decide +kernel
theorem dX7_play_60 : decode cX7_play 60 = .ok (.aload_n 0, 1) := by decide +kernel
theorem dX7_play_61 : decode cX7_play 61 = .ok (.getfield 44, 3) := by decide +kernel
theorem dX7_play_64 : decode cX7_play 64 = .ok (.sipush 256, 3) := by decide +kernel
theorem dX7_play_67 : decode cX7_play 67 = .ok (.iload_n 1, 1) := by decide +kernel
theorem dX7_play_68 : decode cX7_play 68 = .ok (.iconst 1, 1) := by decide +kernel
theorem dX7_play_69 : decode cX7_play 69 = .ok (.iadd, 1) := by decide +kernel
theorem dX7_play_70 : decode cX7_play 70 = .ok (.imul, 1) := by decide +kernel
theorem dX7_play_71 : decode cX7_play 71 = .ok (.iload_n 2, 1) := by decide +kernel
theorem dX7_play_72 : decode cX7_play 72 = .ok (.iadd, 1) := by decide +kernel
theorem dX7_play_73 : decode cX7_play 73 = .ok (.baload, 1) := by decide +kernel
theorem dX7_play_74 : decode cX7_play 74 = .ok (.iload_n 3, 1) := by decide +kernel
theorem dX7_play_75 : decode cX7_play 75 = .ok (.if_icmp .ne 7, 3) := by decide +kernel
theorem dX7_play_78 : decode cX7_play 78 = .ok (.iconst 1, 1) := by decide +kernel
theorem dX7_play_79 : decode cX7_play 79 = .ok (.goto 4, 3) := by decide +kernel
theorem dX7_play_82 : decode cX7_play 82 = .ok (.iconst 0, 1) := by decide +kernel
theorem dX7_play_83 : decode cX7_play 83 = .ok (.istore 4, 2) := by decide +kernel
theorem dX7_play_85 : decode cX7_play 85 = .ok (.iconst 0, 1) := by decide +kernel
theorem dX7_play_86 : decode cX7_play 86 = .ok (.istore 5, 2) := by decide +kernel
theorem dX7_play_88 : decode cX7_play 88 = .ok (.iload 5, 2) := by decide +kernel
theorem dX7_play_90 : decode cX7_play 90 = .ok (.aload_n 0, 1) := by decide +kernel
theorem dX7_play_91 : decode cX7_play 91 = .ok (.getfield 72, 3) := by decide +kernel
theorem dX7_play_94 : decode cX7_play 94 = .ok (.if_icmp .ge 55, 3) := by decide +kernel
theorem dX7_play_97 : decode cX7_play 97 = .ok (.iload 4, 2) := by decide +kernel
theorem dX7_play_99 : decode cX7_play 99 = .ok (.ifCond .ne 37, 3) := by decide +kernel
theorem dX7_play_102 : decode cX7_play 102 = .ok (.aload_n 0, 1) := by decide +kernel
theorem dX7_play_103 : decode cX7_play 103 = .ok (.iload 5, 2) := by decide +kernel
theorem dX7_play_105 : decode cX7_play 105 = .ok (.iload_n 1, 1) := by decide +kernel
theorem dX7_play_106 : decode cX7_play 106 = .ok (.iload_n 2, 1) := by decide +kernel
theorem dX7_play_107 : decode cX7_play 107 = .ok (.invokevirtual 230, 3) := by decide +kernel
theorem dX7_play_110 : decode cX7_play 110 = .ok (.ifCond .eq 30, 3) := by decide +kernel
theorem dX7_play_113 : decode cX7_play 113 = .ok (.aload_n 0, 1) := by decide +kernel
theorem dX7_play_114 : decode cX7_play 114 = .ok (.getfield 44, 3) := by decide +kernel
theorem dX7_play_117 : decode cX7_play 117 = .ok (.sipush 256, 3) := by decide +kernel
theorem dX7_play_120 : decode cX7_play 120 = .ok (.iload_n 1, 1) := by decide +kernel
theorem dX7_play_121 : decode cX7_play 121 = .ok (.iconst 1, 1) := by decide +kernel
theorem dX7_play_122 : decode cX7_play 122 = .ok (.iadd, 1) := by decide +kernel
theorem dX7_play_123 : decode cX7_play 123 = .ok (.imul, 1) := by decide +kernel
theorem dX7_play_124 : decode cX7_play 124 = .ok (.iload_n 2, 1) := by decide +kernel
theorem dX7_play_125 : decode cX7_play 125 = .ok (.iconst 1, 1) := by decide +kernel
theorem dX7_play_126 : decode cX7_play 126 = .ok (.iload 5, 2) := by decide +kernel
theorem dX7_play_128 : decode cX7_play 128 = .ok (.ishl, 1) := by decide +kernel
theorem dX7_play_129 : decode cX7_play 129 = .ok (.ior, 1) := by decide +kernel
theorem dX7_play_130 : decode cX7_play 130 = .ok (.iadd, 1) := by decide +kernel
theorem dX7_play_131 : decode cX7_play 131 = .ok (.baload, 1) := by decide +kernel
theorem dX7_play_132 : decode cX7_play 132 = .ok (.iload_n 3, 1) := by decide +kernel
theorem dX7_play_133 : decode cX7_play 133 = .ok (.if_icmp .ne 7, 3) := by decide +kernel
theorem dX7_play_136 : decode cX7_play 136 = .ok (.iconst 1, 1) := by decide +kernel
theorem dX7_play_137 : decode cX7_play 137 = .ok (.goto 4, 3) := by decide +kernel
theorem dX7_play_140 : decode cX7_play 140 = .ok (.iconst 0, 1) := by decide +kernel
theorem dX7_play_141 : decode cX7_play 141 = .ok (.istore 4, 2) := by decide +kernel
theorem dX7_play_143 : decode cX7_play 143 = .ok (.iinc 5 1, 3) := by decide +kernel
theorem dX7_play_146 : decode cX7_play 146 = .ok (.goto (-58), 3) := by decide +kernel
theorem dX7_play_149 : decode cX7_play 149 = .ok (.aload_n 0, 1) := by decide +kernel
theorem dX7_play_150 : decode cX7_play 150 = .ok (.getfield 44, 3) := by decide +kernel
theorem dX7_play_153 : decode cX7_play 153 = .ok (.sipush 256, 3) := by decide +kernel
theorem dX7_play_156 : decode cX7_play 156 = .ok (.iload_n 1, 1) := by decide +kernel
theorem dX7_play_157 : decode cX7_play 157 = .ok (.imul, 1) := by decide +kernel
theorem dX7_play_158 : decode cX7_play 158 = .ok (.iload_n 2, 1) := by decide +kernel
theorem dX7_play_159 : decode cX7_play 159 = .ok (.iadd, 1) := by decide +kernel
theorem dX7_play_160 : decode cX7_play 160 = .ok (.iload 4, 2) := by decide +kernel
theorem dX7_play_162 : decode cX7_play 162 = .ok (.iload_n 3, 1) := by decide +kernel
theorem dX7_play_163 : decode cX7_play 163 = .ok (.if_icmp .ne 7, 3) := by decide +kernel
theorem dX7_play_166 : decode cX7_play 166 = .ok (.iconst 1, 1) := by decide +kernel
theorem dX7_play_167 : decode cX7_play 167 = .ok (.goto 4, 3) := by decide +kernel
theorem dX7_play_170 : decode cX7_play 170 = .ok (.iconst 0, 1) := by decide +kernel
theorem dX7_play_171 : decode cX7_play 171 = .ok (.bastore, 1) := by decide +kernel
theorem dX7_play_172 : decode cX7_play 172 = .ok (.iinc 2 1, 3) := by decide +kernel
theorem dX7_play_175 : decode cX7_play 175 = .ok (.goto (-135), 3) := by decide +kernel
theorem dX7_play_178 : decode cX7_play 178 = .ok (.iinc 1 (-1), 3) := by decide +kernel
theorem dX7_play_181 : decode cX7_play 181 = .ok (.goto (-147), 3) := by decide +kernel
theorem dX7_play_184 : decode cX7_play 184 = .ok (.return_, 1) := by decide +kernel
theorem dX7_canSay_0 : decode cX7_canSay 0 = .ok (.aload_n 0, 1) := by decide +kernel
theorem dX7_canSay_1 : decode cX7_canSay 1 = .ok (.getfield 17, 3) := by decide +kernel
theorem dX7_canSay_4 : decode cX7_canSay 4 = .ok (.iload_n 1, 1) := by decide +kernel
theorem dX7_canSay_5 : decode cX7_canSay 5 = .ok (.iaload, 1) := by decide +kernel
theorem dX7_canSay_6 : decode cX7_canSay 6 = .ok (.iload_n 2, 1) := by decide +kernel
theorem dX7_canSay_7 : decode cX7_canSay 7 = .ok (.iconst 2, 1) := by decide +kernel
theorem dX7_canSay_8 : decode cX7_canSay 8 = .ok (.irem, 1) := by decide +kernel
theorem dX7_canSay_9 : decode cX7_canSay 9 = .ok (.if_icmp .ne 24, 3) := by decide +kernel
theorem dX7_canSay_12 : decode cX7_canSay 12 = .ok (.aload_n 0, 1) := by decide +kernel
theorem dX7_canSay_13 : decode cX7_canSay 13 = .ok (.iload_n 1, 1) := by decide +kernel
theorem dX7_canSay_14 : decode cX7_canSay 14 = .ok (.iload_n 2, 1) := by decide +kernel
theorem dX7_canSay_15 : decode cX7_canSay 15 = .ok (.invokevirtual 175, 3) := by decide +kernel
theorem dX7_canSay_18 : decode cX7_canSay 18 = .ok (.ifCond .eq 15, 3) := by decide +kernel
theorem dX7_canSay_21 : decode cX7_canSay 21 = .ok (.iload_n 3, 1) := by decide +kernel
theorem dX7_canSay_22 : decode cX7_canSay 22 = .ok (.iload_n 1, 1) := by decide +kernel
theorem dX7_canSay_23 : decode cX7_canSay 23 = .ok (.ishr, 1) := by decide +kernel
theorem dX7_canSay_24 : decode cX7_canSay 24 = .ok (.iconst 1, 1) := by decide +kernel
theorem dX7_canSay_25 : decode cX7_canSay 25 = .ok (.iand, 1) := by decide +kernel
theorem dX7_canSay_26 : decode cX7_canSay 26 = .ok (.ifCond .ne 7, 3) := by decide +kernel
theorem dX7_canSay_29 : decode cX7_canSay 29 = .ok (.iconst 1, 1) := by decide +kernel
theorem dX7_canSay_30 : decode cX7_canSay 30 = .ok (.goto 4, 3) := by decide +kernel
theorem dX7_canSay_33 : decode cX7_canSay 33 = .ok (.iconst 0, 1) := by decide +kernel
theorem dX7_canSay_34 : decode cX7_canSay 34 = .ok (.ireturn, 1) := by decide +kernel
theorem dX7_game_0 : decode cX7_game 0 = .ok (.iload_n 1, 1) := by decide +kernel
theorem dX7_game_1 : decode cX7_game 1 = .ok (.invokestatic 196, 3) := by decide +kernel
theorem dX7_game_4 : decode cX7_game 4 = .ok (.ifCond .ne 5, 3) := by decide +kernel
theorem dX7_game_7 : decode cX7_game 7 = .ok (.iconst (-1), 1) := by decide +kernel
theorem dX7_game_8 : decode cX7_game 8 = .ok (.ireturn, 1) := by decide +kernel
theorem dX7_game_9 : decode cX7_game 9 = .ok (.aload_n 0, 1) := by decide +kernel
theorem dX7_game_10 : decode cX7_game 10 = .ok (.getfield 72, 3) := by decide +kernel
theorem dX7_game_13 : decode cX7_game 13 = .ok (.ifCond .ne 6, 3) := by decide +kernel
theorem dX7_game_16 : decode cX7_game 16 = .ok (.bipush (-2), 2) := by decide +kernel
theorem dX7_game_18 : decode cX7_game 18 = .ok (.ireturn, 1) := by decide +kernel
theorem dX7_game_19 : decode cX7_game 19 = .ok (.aload_n 0, 1) := by decide +kernel
theorem dX7_game_20 : decode cX7_game 20 = .ok (.invokevirtual 233, 3) := by decide +kernel
theorem dX7_game_23 : decode cX7_game 23 = .ok (.aload_n 0, 1) := by decide +kernel
theorem dX7_game_24 : decode cX7_game 24 = .ok (.getfield 7, 3) := by decide +kernel
theorem dX7_game_27 : decode cX7_game 27 = .ok (.bipush 26, 2) := by decide +kernel
theorem dX7_game_29 : decode cX7_game 29 = .ok (.iaload, 1) := by decide +kernel
theorem dX7_game_30 : decode cX7_game 30 = .ok (.istore_n 2, 1) := by decide +kernel
theorem dX7_game_31 : decode cX7_game 31 = .ok (.iload_n 2, 1) := by decide +kernel
theorem dX7_game_32 : decode cX7_game 32 = .ok (.iconst 2, 1) := by decide +kernel
theorem dX7_game_33 : decode cX7_game 33 = .ok (.irem, 1) := by decide +kernel
theorem dX7_game_34 : decode cX7_game 34 = .ok (.ifCond .ne 7, 3) := by decide +kernel
theorem dX7_game_37 : decode cX7_game 37 = .ok (.iconst 1, 1) := by decide +kernel
theorem dX7_game_38 : decode cX7_game 38 = .ok (.goto 4, 3) := by decide +kernel
theorem dX7_game_41 : decode cX7_game 41 = .ok (.iconst 0, 1) := by decide +kernel
theorem dX7_game_42 : decode cX7_game 42 = .ok (.istore_n 3, 1) := by decide +kernel
theorem dX7_game_43 : decode cX7_game 43 = .ok (.iload_n 1, 1) := by decide +kernel
theorem dX7_game_44 : decode cX7_game 44 = .ok (.ifCond .ne 25, 3) := by decide +kernel
theorem dX7_game_47 : decode cX7_game 47 = .ok (.aload_n 0, 1) := by decide +kernel
theorem dX7_game_48 : decode cX7_game 48 = .ok (.getfield 44, 3) := by decide +kernel
theorem dX7_game_51 : decode cX7_game 51 = .ok (.sipush 256, 3) := by decide +kernel
theorem dX7_game_54 : decode cX7_game 54 = .ok (.iload_n 2, 1) := by decide +kernel
theorem dX7_game_55 : decode cX7_game 55 = .ok (.imul, 1) := by decide +kernel
theorem dX7_game_56 : decode cX7_game 56 = .ok (.aload_n 0, 1) := by decide +kernel
theorem dX7_game_57 : decode cX7_game 57 = .ok (.getfield 7, 3) := by decide +kernel
theorem dX7_game_60 : decode cX7_game 60 = .ok (.bipush 24, 2) := by decide +kernel
theorem dX7_game_62 : decode cX7_game 62 = .ok (.iaload, 1) := by decide +kernel
theorem dX7_game_63 : decode cX7_game 63 = .ok (.iadd, 1) := by decide +kernel
theorem dX7_game_64 : decode cX7_game 64 = .ok (.baload, 1) := by decide +kernel
theorem dX7_game_65 : decode cX7_game 65 = .ok (.invokestatic 164, 3) := by decide +kernel
theorem dX7_game_68 : decode cX7_game 68 = .ok (.ireturn, 1) := by decide +kernel
theorem dX7_game_69 : decode cX7_game 69 = .ok (.aload_n 0, 1) := by decide +kernel
theorem dX7_game_70 : decode cX7_game 70 = .ok (.getfield 44, 3) := by decide +kernel
theorem dX7_game_73 : decode cX7_game 73 = .ok (.sipush 256, 3) := by decide +kernel
theorem dX7_game_76 : decode cX7_game 76 = .ok (.iload_n 2, 1) := by decide +kernel
theorem dX7_game_77 : decode cX7_game 77 = .ok (.iconst 1, 1) := by decide +kernel
theorem dX7_game_78 : decode cX7_game 78 = .ok (.iadd, 1) := by decide +kernel
theorem dX7_game_79 : decode cX7_game 79 = .ok (.imul, 1) := by decide +kernel
theorem dX7_game_80 : decode cX7_game 80 = .ok (.aload_n 0, 1) := by decide +kernel
theorem dX7_game_81 : decode cX7_game 81 = .ok (.getfield 7, 3) := by decide +kernel
theorem dX7_game_84 : decode cX7_game 84 = .ok (.bipush 24, 2) := by decide +kernel
theorem dX7_game_86 : decode cX7_game 86 = .ok (.iaload, 1) := by decide +kernel
theorem dX7_game_87 : decode cX7_game 87 = .ok (.iadd, 1) := by decide +kernel
theorem dX7_game_88 : decode cX7_game 88 = .ok (.baload, 1) := by decide +kernel
theorem dX7_game_89 : decode cX7_game 89 = .ok (.iload_n 3, 1) := by decide +kernel
theorem dX7_game_90 : decode cX7_game 90 = .ok (.if_icmp .ne 6, 3) := by decide +kernel
theorem dX7_game_93 : decode cX7_game 93 = .ok (.bipush (-4), 2) := by decide +kernel
theorem dX7_game_95 : decode cX7_game 95 = .ok (.ireturn, 1) := by decide +kernel
theorem dX7_game_96 : decode cX7_game 96 = .ok (.iconst 0, 1) := by decide +kernel
theorem dX7_game_97 : decode cX7_game 97 = .ok (.istore 4, 2) := by decide +kernel
theorem dX7_game_99 : decode cX7_game 99 = .ok (.iload 4, 2) := by decide +kernel
theorem dX7_game_101 : decode cX7_game 101 = .ok (.aload_n 0, 1) := by decide +kernel
theorem dX7_game_102 : decode cX7_game 102 = .ok (.getfield 72, 3) := by decide +kernel
theorem dX7_game_105 : decode cX7_game 105 = .ok (.if_icmp .ge 58, 3) := by decide +kernel
theorem dX7_game_108 : decode cX7_game 108 = .ok (.aload_n 0, 1) := by decide +kernel
theorem dX7_game_109 : decode cX7_game 109 = .ok (.iload 4, 2) := by decide +kernel
theorem dX7_game_111 : decode cX7_game 111 = .ok (.iload_n 2, 1) := by decide +kernel
theorem dX7_game_112 : decode cX7_game 112 = .ok (.aload_n 0, 1) := by decide +kernel
theorem dX7_game_113 : decode cX7_game 113 = .ok (.getfield 7, 3) := by decide +kernel
theorem dX7_game_116 : decode cX7_game 116 = .ok (.bipush 24, 2) := by decide +kernel
theorem dX7_game_118 : decode cX7_game 118 = .ok (.iaload, 1) := by decide +kernel
theorem dX7_game_119 : decode cX7_game 119 = .ok (.invokevirtual 230, 3) := by decide +kernel
theorem dX7_game_122 : decode cX7_game 122 = .ok (.ifCond .eq 35, 3) := by decide +kernel
theorem dX7_game_125 : decode cX7_game 125 = .ok (.aload_n 0, 1) := by decide +kernel
theorem dX7_game_126 : decode cX7_game 126 = .ok (.getfield 44, 3) := by decide +kernel
theorem dX7_game_129 : decode cX7_game 129 = .ok (.sipush 256, 3) := by decide +kernel
theorem dX7_game_132 : decode cX7_game 132 = .ok (.iload_n 2, 1) := by decide +kernel
theorem dX7_game_133 : decode cX7_game 133 = .ok (.iconst 1, 1) := by decide +kernel
theorem dX7_game_134 : decode cX7_game 134 = .ok (.iadd, 1) := by decide +kernel
theorem dX7_game_135 : decode cX7_game 135 = .ok (.imul, 1) := by decide +kernel
theorem dX7_game_136 : decode cX7_game 136 = .ok (.aload_n 0, 1) := by decide +kernel
theorem dX7_game_137 : decode cX7_game 137 = .ok (.getfield 7, 3) := by decide +kernel
theorem dX7_game_140 : decode cX7_game 140 = .ok (.bipush 24, 2) := by decide +kernel
theorem dX7_game_142 : decode cX7_game 142 = .ok (.iaload, 1) := by decide +kernel
theorem dX7_game_143 : decode cX7_game 143 = .ok (.iconst 1, 1) := by decide +kernel
theorem dX7_game_144 : decode cX7_game 144 = .ok (.iload 4, 2) := by decide +kernel
theorem dX7_game_146 : decode cX7_game 146 = .ok (.ishl, 1) := by decide +kernel
theorem dX7_game_147 : decode cX7_game 147 = .ok (.ior, 1) := by decide +kernel
theorem dX7_game_148 : decode cX7_game 148 = .ok (.iadd, 1) := by decide +kernel
theorem dX7_game_149 : decode cX7_game 149 = .ok (.baload, 1) := by decide +kernel
theorem dX7_game_150 : decode cX7_game 150 = .ok (.iload_n 3, 1) := by decide +kernel
theorem dX7_game_151 : decode cX7_game 151 = .ok (.if_icmp .ne 6, 3) := by decide +kernel
theorem dX7_game_154 : decode cX7_game 154 = .ok (.iload 4, 2) := by decide +kernel
theorem dX7_game_156 : decode cX7_game 156 = .ok (.ireturn, 1) := by decide +kernel
theorem dX7_game_157 : decode cX7_game 157 = .ok (.iinc 4 1, 3) := by decide +kernel
theorem dX7_game_160 : decode cX7_game 160 = .ok (.goto (-61), 3) := by decide +kernel
theorem dX7_game_163 : decode cX7_game 163 = .ok (.bipush (-4), 2) := by decide +kernel
theorem dX7_game_165 : decode cX7_game 165 = .ok (.ireturn, 1) := by decide +kernel
theorem dX7_days_0 : decode cX7_days 0 = .ok (.aload_n 0, 1) := by decide +kernel
theorem dX7_days_1 : decode cX7_days 1 = .ok (.getfield 72, 3) := by decide +kernel
theorem dX7_days_4 : decode cX7_days 4 = .ok (.ifCond .ne 6, 3) := by decide +kernel
theorem dX7_days_7 : decode cX7_days 7 = .ok (.bipush (-2), 2) := by decide +kernel
theorem dX7_days_9 : decode cX7_days 9 = .ok (.ireturn, 1) := by decide +kernel
theorem dX7_days_10 : decode cX7_days 10 = .ok (.aload_n 0, 1) := by decide +kernel
theorem dX7_days_11 : decode cX7_days 11 = .ok (.invokevirtual 233, 3) := by decide +kernel
theorem dX7_days_14 : decode cX7_days 14 = .ok (.iconst 0, 1) := by decide +kernel
theorem dX7_days_15 : decode cX7_days 15 = .ok (.istore_n 1, 1) := by decide +kernel
theorem dX7_days_16 : decode cX7_days 16 = .ok (.iconst 0, 1) := by decide +kernel
theorem dX7_days_17 : decode cX7_days 17 = .ok (.istore_n 2, 1) := by decide +kernel
theorem dX7_days_18 : decode cX7_days 18 = .ok (.iload_n 2, 1) := by decide +kernel
theorem dX7_days_19 : decode cX7_days 19 = .ok (.bipush 9, 2) := by decide +kernel
theorem dX7_days_21 : decode cX7_days 21 = .ok (.if_icmp .gt 35, 3) := by decide +kernel
theorem dX7_days_24 : decode cX7_days 24 = .ok (.iload_n 1, 1) := by decide +kernel
theorem dX7_days_25 : decode cX7_days 25 = .ok (.aload_n 0, 1) := by decide +kernel
theorem dX7_days_26 : decode cX7_days 26 = .ok (.getfield 44, 3) := by decide +kernel
theorem dX7_days_29 : decode cX7_days 29 = .ok (.sipush 256, 3) := by decide +kernel
theorem dX7_days_32 : decode cX7_days 32 = .ok (.iload_n 2, 1) := by decide +kernel
theorem dX7_days_33 : decode cX7_days 33 = .ok (.imul, 1) := by decide +kernel
theorem dX7_days_34 : decode cX7_days 34 = .ok (.aload_n 0, 1) := by decide +kernel
theorem dX7_days_35 : decode cX7_days 35 = .ok (.getfield 7, 3) := by decide +kernel
theorem dX7_days_38 : decode cX7_days 38 = .ok (.bipush 24, 2) := by decide +kernel
theorem dX7_days_40 : decode cX7_days 40 = .ok (.iaload, 1) := by decide +kernel
theorem dX7_days_41 : decode cX7_days 41 = .ok (.iadd, 1) := by decide +kernel
theorem dX7_days_42 : decode cX7_days 42 = .ok (.baload, 1) := by decide +kernel
theorem dX7_days_43 : decode cX7_days 43 = .ok (.invokestatic 164, 3) := by decide +kernel
theorem dX7_days_46 : decode cX7_days 46 = .ok (.iload_n 2, 1) := by decide +kernel
theorem dX7_days_47 : decode cX7_days 47 = .ok (.ishl, 1) := by decide +kernel
theorem dX7_days_48 : decode cX7_days 48 = .ok (.ior, 1) := by decide +kernel
theorem dX7_days_49 : decode cX7_days 49 = .ok (.istore_n 1, 1) := by decide +kernel
theorem dX7_days_50 : decode cX7_days 50 = .ok (.iinc 2 1, 3) := by decide +kernel
theorem dX7_days_53 : decode cX7_days 53 = .ok (.goto (-35), 3) := by decide +kernel
theorem dX7_days_56 : decode cX7_days 56 = .ok (.iload_n 1, 1) := by decide +kernel
theorem dX7_days_57 : decode cX7_days 57 = .ok (.ireturn, 1) := by decide +kernel
theorem dX7_orders_0 : decode cX7_orders 0 = .ok (.lconst 1, 1) := by decide +kernel
theorem dX7_orders_1 : decode cX7_orders 1 = .ok (.lstore_n 1, 1) := by decide +kernel
theorem dX7_orders_2 : decode cX7_orders 2 = .ok (.iconst 2, 1) := by decide +kernel
theorem dX7_orders_3 : decode cX7_orders 3 = .ok (.istore_n 3, 1) := by decide +kernel
theorem dX7_orders_4 : decode cX7_orders 4 = .ok (.iload_n 3, 1) := by decide +kernel
theorem dX7_orders_5 : decode cX7_orders 5 = .ok (.iload_n 0, 1) := by decide +kernel
theorem dX7_orders_6 : decode cX7_orders 6 = .ok (.if_icmp .gt 14, 3) := by decide +kernel
theorem dX7_orders_9 : decode cX7_orders 9 = .ok (.lload_n 1, 1) := by decide +kernel
theorem dX7_orders_10 : decode cX7_orders 10 = .ok (.iload_n 3, 1) := by decide +kernel
theorem dX7_orders_11 : decode cX7_orders 11 = .ok (.i2l, 1) := by decide +kernel
theorem dX7_orders_12 : decode cX7_orders 12 = .ok (.lmul, 1) := by decide +kernel
theorem dX7_orders_13 : decode cX7_orders 13 = .ok (.lstore_n 1, 1) := by decide +kernel
theorem dX7_orders_14 : decode cX7_orders 14 = .ok (.iinc 3 1, 3) := by decide +kernel
theorem dX7_orders_17 : decode cX7_orders 17 = .ok (.goto (-13), 3) := by decide +kernel
theorem dX7_orders_20 : decode cX7_orders 20 = .ok (.lload_n 1, 1) := by decide +kernel
theorem dX7_orders_21 : decode cX7_orders 21 = .ok (.lreturn, 1) := by decide +kernel
theorem dX7_share_0 : decode cX7_share 0 = .ok (.aload_n 0, 1) := by decide +kernel
theorem dX7_share_1 : decode cX7_share 1 = .ok (.iload_n 1, 1) := by decide +kernel
theorem dX7_share_2 : decode cX7_share 2 = .ok (.invokevirtual 171, 3) := by decide +kernel
theorem dX7_share_5 : decode cX7_share 5 = .ok (.ifCond .eq 10, 3) := by decide +kernel
theorem dX7_share_8 : decode cX7_share 8 = .ok (.iload_n 2, 1) := by decide +kernel
theorem dX7_share_9 : decode cX7_share 9 = .ok (.invokestatic 196, 3) := by decide +kernel
theorem dX7_share_12 : decode cX7_share 12 = .ok (.ifCond .ne 7, 3) := by decide +kernel
theorem dX7_share_15 : decode cX7_share 15 = .ok (.ldc2_w 222, 3) := by decide +kernel
theorem dX7_share_18 : decode cX7_share 18 = .ok (.lreturn, 1) := by decide +kernel
theorem dX7_share_19 : decode cX7_share 19 = .ok (.lconst 0, 1) := by decide +kernel
theorem dX7_share_20 : decode cX7_share 20 = .ok (.lstore_n 3, 1) := by decide +kernel
theorem dX7_share_21 : decode cX7_share 21 = .ok (.iconst 0, 1) := by decide +kernel
theorem dX7_share_22 : decode cX7_share 22 = .ok (.istore 5, 2) := by decide +kernel
theorem dX7_share_24 : decode cX7_share 24 = .ok (.iload 5, 2) := by decide +kernel
theorem dX7_share_26 : decode cX7_share 26 = .ok (.aload_n 0, 1) := by decide +kernel
theorem dX7_share_27 : decode cX7_share 27 = .ok (.invokevirtual 191, 3) := by decide +kernel
theorem dX7_share_30 : decode cX7_share 30 = .ok (.if_icmp .gt 74, 3) := by decide +kernel
theorem dX7_share_33 : decode cX7_share 33 = .ok (.iload 5, 2) := by decide +kernel
theorem dX7_share_35 : decode cX7_share 35 = .ok (.iload_n 1, 1) := by decide +kernel
theorem dX7_share_36 : decode cX7_share 36 = .ok (.ishr, 1) := by decide +kernel
theorem dX7_share_37 : decode cX7_share 37 = .ok (.iconst 1, 1) := by decide +kernel
theorem dX7_share_38 : decode cX7_share 38 = .ok (.iand, 1) := by decide +kernel
theorem dX7_share_39 : decode cX7_share 39 = .ok (.ifCond .ne 59, 3) := by decide +kernel
theorem dX7_share_42 : decode cX7_share 42 = .ok (.aload_n 0, 1) := by decide +kernel
theorem dX7_share_43 : decode cX7_share 43 = .ok (.iload 5, 2) := by decide +kernel
theorem dX7_share_45 : decode cX7_share 45 = .ok (.iconst 1, 1) := by decide +kernel
theorem dX7_share_46 : decode cX7_share 46 = .ok (.iload_n 1, 1) := by decide +kernel
theorem dX7_share_47 : decode cX7_share 47 = .ok (.ishl, 1) := by decide +kernel
theorem dX7_share_48 : decode cX7_share 48 = .ok (.ior, 1) := by decide +kernel
theorem dX7_share_49 : decode cX7_share 49 = .ok (.invokevirtual 200, 3) := by decide +kernel
theorem dX7_share_52 : decode cX7_share 52 = .ok (.invokestatic 164, 3) := by decide +kernel
theorem dX7_share_55 : decode cX7_share 55 = .ok (.aload_n 0, 1) := by decide +kernel
theorem dX7_share_56 : decode cX7_share 56 = .ok (.iload 5, 2) := by decide +kernel
theorem dX7_share_58 : decode cX7_share 58 = .ok (.invokevirtual 200, 3) := by decide +kernel
theorem dX7_share_61 : decode cX7_share 61 = .ok (.invokestatic 164, 3) := by decide +kernel
theorem dX7_share_64 : decode cX7_share 64 = .ok (.isub, 1) := by decide +kernel
theorem dX7_share_65 : decode cX7_share 65 = .ok (.istore 6, 2) := by decide +kernel
theorem dX7_share_67 : decode cX7_share 67 = .ok (.lload_n 3, 1) := by decide +kernel
theorem dX7_share_68 : decode cX7_share 68 = .ok (.iload 6, 2) := by decide +kernel
theorem dX7_share_70 : decode cX7_share 70 = .ok (.i2l, 1) := by decide +kernel
theorem dX7_share_71 : decode cX7_share 71 = .ok (.iload 5, 2) := by decide +kernel
theorem dX7_share_73 : decode cX7_share 73 = .ok (.invokestatic 179, 3) := by decide +kernel
theorem dX7_share_76 : decode cX7_share 76 = .ok (.invokestatic 236, 3) := by decide +kernel
theorem dX7_share_79 : decode cX7_share 79 = .ok (.lmul, 1) := by decide +kernel
theorem dX7_share_80 : decode cX7_share 80 = .ok (.aload_n 0, 1) := by decide +kernel
theorem dX7_share_81 : decode cX7_share 81 = .ok (.getfield 72, 3) := by decide +kernel
theorem dX7_share_84 : decode cX7_share 84 = .ok (.iconst 1, 1) := by decide +kernel
theorem dX7_share_85 : decode cX7_share 85 = .ok (.isub, 1) := by decide +kernel
theorem dX7_share_86 : decode cX7_share 86 = .ok (.iload 5, 2) := by decide +kernel
theorem dX7_share_88 : decode cX7_share 88 = .ok (.invokestatic 179, 3) := by decide +kernel
theorem dX7_share_91 : decode cX7_share 91 = .ok (.isub, 1) := by decide +kernel
theorem dX7_share_92 : decode cX7_share 92 = .ok (.invokestatic 236, 3) := by decide +kernel
theorem dX7_share_95 : decode cX7_share 95 = .ok (.lmul, 1) := by decide +kernel
theorem dX7_share_96 : decode cX7_share 96 = .ok (.ladd, 1) := by decide +kernel
theorem dX7_share_97 : decode cX7_share 97 = .ok (.lstore_n 3, 1) := by decide +kernel
theorem dX7_share_98 : decode cX7_share 98 = .ok (.iinc 5 1, 3) := by decide +kernel
theorem dX7_share_101 : decode cX7_share 101 = .ok (.goto (-77), 3) := by decide +kernel
theorem dX7_share_104 : decode cX7_share 104 = .ok (.lload_n 3, 1) := by decide +kernel
theorem dX7_share_105 : decode cX7_share 105 = .ok (.aload_n 0, 1) := by decide +kernel
theorem dX7_share_106 : decode cX7_share 106 = .ok (.getfield 72, 3) := by decide +kernel
theorem dX7_share_109 : decode cX7_share 109 = .ok (.invokestatic 236, 3) := by decide +kernel
theorem dX7_share_112 : decode cX7_share 112 = .ok (.iload_n 2, 1) := by decide +kernel
theorem dX7_share_113 : decode cX7_share 113 = .ok (.invokestatic 226, 3) := by decide +kernel
theorem dX7_share_116 : decode cX7_share 116 = .ok (.lreturn, 1) := by decide +kernel
theorem dX7_see_0 : decode cX7_see 0 = .ok (.iload_n 1, 1) := by decide +kernel
theorem dX7_see_1 : decode cX7_see 1 = .ok (.i2l, 1) := by decide +kernel
theorem dX7_see_2 : decode cX7_see 2 = .ok (.lconst 0, 1) := by decide +kernel
theorem dX7_see_3 : decode cX7_see 3 = .ok (.aload_n 0, 1) := by decide +kernel
theorem dX7_see_4 : decode cX7_see 4 = .ok (.invokevirtual 191, 3) := by decide +kernel
theorem dX7_see_7 : decode cX7_see 7 = .ok (.i2l, 1) := by decide +kernel
theorem dX7_see_8 : decode cX7_see 8 = .ok (.invokestatic 77, 3) := by decide +kernel
theorem dX7_see_11 : decode cX7_see 11 = .ok (.ifCond .ne 5, 3) := by decide +kernel
theorem dX7_see_14 : decode cX7_see 14 = .ok (.iconst (-1), 1) := by decide +kernel
theorem dX7_see_15 : decode cX7_see 15 = .ok (.ireturn, 1) := by decide +kernel
theorem dX7_see_16 : decode cX7_see 16 = .ok (.aload_n 0, 1) := by decide +kernel
theorem dX7_see_17 : decode cX7_see 17 = .ok (.getfield 7, 3) := by decide +kernel
theorem dX7_see_20 : decode cX7_see 20 = .ok (.bipush 34, 2) := by decide +kernel
theorem dX7_see_22 : decode cX7_see 22 = .ok (.iaload, 1) := by decide +kernel
theorem dX7_see_23 : decode cX7_see 23 = .ok (.bipush 6, 2) := by decide +kernel
theorem dX7_see_25 : decode cX7_see 25 = .ok (.if_icmp .ne 6, 3) := by decide +kernel
theorem dX7_see_28 : decode cX7_see 28 = .ok (.bipush (-3), 2) := by decide +kernel
theorem dX7_see_30 : decode cX7_see 30 = .ok (.ireturn, 1) := by decide +kernel
theorem dX7_see_31 : decode cX7_see 31 = .ok (.aload_n 0, 1) := by decide +kernel
theorem dX7_see_32 : decode cX7_see 32 = .ok (.getfield 7, 3) := by decide +kernel
theorem dX7_see_35 : decode cX7_see 35 = .ok (.bipush 35, 2) := by decide +kernel
theorem dX7_see_37 : decode cX7_see 37 = .ok (.iconst 2, 1) := by decide +kernel
theorem dX7_see_38 : decode cX7_see 38 = .ok (.aload_n 0, 1) := by decide +kernel
theorem dX7_see_39 : decode cX7_see 39 = .ok (.getfield 7, 3) := by decide +kernel
theorem dX7_see_42 : decode cX7_see 42 = .ok (.bipush 34, 2) := by decide +kernel
theorem dX7_see_44 : decode cX7_see 44 = .ok (.iaload, 1) := by decide +kernel
theorem dX7_see_45 : decode cX7_see 45 = .ok (.imul, 1) := by decide +kernel
theorem dX7_see_46 : decode cX7_see 46 = .ok (.iadd, 1) := by decide +kernel
theorem dX7_see_47 : decode cX7_see 47 = .ok (.iload_n 1, 1) := by decide +kernel
theorem dX7_see_48 : decode cX7_see 48 = .ok (.iastore, 1) := by decide +kernel
theorem dX7_see_49 : decode cX7_see 49 = .ok (.aload_n 0, 1) := by decide +kernel
theorem dX7_see_50 : decode cX7_see 50 = .ok (.getfield 7, 3) := by decide +kernel
theorem dX7_see_53 : decode cX7_see 53 = .ok (.bipush 35, 2) := by decide +kernel
theorem dX7_see_55 : decode cX7_see 55 = .ok (.iconst 2, 1) := by decide +kernel
theorem dX7_see_56 : decode cX7_see 56 = .ok (.aload_n 0, 1) := by decide +kernel
theorem dX7_see_57 : decode cX7_see 57 = .ok (.getfield 7, 3) := by decide +kernel
theorem dX7_see_60 : decode cX7_see 60 = .ok (.bipush 34, 2) := by decide +kernel
theorem dX7_see_62 : decode cX7_see 62 = .ok (.iaload, 1) := by decide +kernel
theorem dX7_see_63 : decode cX7_see 63 = .ok (.imul, 1) := by decide +kernel
theorem dX7_see_64 : decode cX7_see 64 = .ok (.iadd, 1) := by decide +kernel
theorem dX7_see_65 : decode cX7_see 65 = .ok (.iconst 1, 1) := by decide +kernel
theorem dX7_see_66 : decode cX7_see 66 = .ok (.iadd, 1) := by decide +kernel
theorem dX7_see_67 : decode cX7_see 67 = .ok (.iload_n 2, 1) := by decide +kernel
theorem dX7_see_68 : decode cX7_see 68 = .ok (.invokestatic 164, 3) := by decide +kernel
theorem dX7_see_71 : decode cX7_see 71 = .ok (.iastore, 1) := by decide +kernel
theorem dX7_see_72 : decode cX7_see 72 = .ok (.aload_n 0, 1) := by decide +kernel
theorem dX7_see_73 : decode cX7_see 73 = .ok (.getfield 7, 3) := by decide +kernel
theorem dX7_see_76 : decode cX7_see 76 = .ok (.bipush 34, 2) := by decide +kernel
theorem dX7_see_78 : decode cX7_see 78 = .ok (.dup2, 1) := by decide +kernel
theorem dX7_see_79 : decode cX7_see 79 = .ok (.iaload, 1) := by decide +kernel
theorem dX7_see_80 : decode cX7_see 80 = .ok (.iconst 1, 1) := by decide +kernel
theorem dX7_see_81 : decode cX7_see 81 = .ok (.iadd, 1) := by decide +kernel
theorem dX7_see_82 : decode cX7_see 82 = .ok (.iastore, 1) := by decide +kernel
theorem dX7_see_83 : decode cX7_see 83 = .ok (.aload_n 0, 1) := by decide +kernel
theorem dX7_see_84 : decode cX7_see 84 = .ok (.getfield 7, 3) := by decide +kernel
theorem dX7_see_87 : decode cX7_see 87 = .ok (.bipush 34, 2) := by decide +kernel
theorem dX7_see_89 : decode cX7_see 89 = .ok (.iaload, 1) := by decide +kernel
theorem dX7_see_90 : decode cX7_see 90 = .ok (.ireturn, 1) := by decide +kernel
theorem dX7_forget_0 : decode cX7_forget 0 = .ok (.iload_n 1, 1) := by decide +kernel
theorem dX7_forget_1 : decode cX7_forget 1 = .ok (.i2l, 1) := by decide +kernel
theorem dX7_forget_2 : decode cX7_forget 2 = .ok (.lconst 0, 1) := by decide +kernel
theorem dX7_forget_3 : decode cX7_forget 3 = .ok (.aload_n 0, 1) := by decide +kernel
theorem dX7_forget_4 : decode cX7_forget 4 = .ok (.getfield 7, 3) := by decide +kernel
theorem dX7_forget_7 : decode cX7_forget 7 = .ok (.bipush 34, 2) := by decide +kernel
theorem dX7_forget_9 : decode cX7_forget 9 = .ok (.iaload, 1) := by decide +kernel
theorem dX7_forget_10 : decode cX7_forget 10 = .ok (.i2l, 1) := by decide +kernel
theorem dX7_forget_11 : decode cX7_forget 11 = .ok (.invokestatic 77, 3) := by decide +kernel
theorem dX7_forget_14 : decode cX7_forget 14 = .ok (.ifCond .eq 13, 3) := by decide +kernel
theorem dX7_forget_17 : decode cX7_forget 17 = .ok (.aload_n 0, 1) := by decide +kernel
theorem dX7_forget_18 : decode cX7_forget 18 = .ok (.bipush 34, 2) := by decide +kernel
theorem dX7_forget_20 : decode cX7_forget 20 = .ok (.iload_n 1, 1) := by decide +kernel
theorem dX7_forget_21 : decode cX7_forget 21 = .ok (.invokevirtual 184, 3) := by decide +kernel
theorem dX7_forget_24 : decode cX7_forget 24 = .ok (.goto 4, 3) := by decide +kernel
theorem dX7_forget_27 : decode cX7_forget 27 = .ok (.iconst (-1), 1) := by decide +kernel
theorem dX7_forget_28 : decode cX7_forget 28 = .ok (.ireturn, 1) := by decide +kernel
theorem dX7_isSo_0 : decode cX7_isSo 0 = .ok (.aload_n 0, 1) := by decide +kernel
theorem dX7_isSo_1 : decode cX7_isSo 1 = .ok (.getfield 7, 3) := by decide +kernel
theorem dX7_isSo_4 : decode cX7_isSo 4 = .ok (.bipush 8, 2) := by decide +kernel
theorem dX7_isSo_6 : decode cX7_isSo 6 = .ok (.aload_n 0, 1) := by decide +kernel
theorem dX7_isSo_7 : decode cX7_isSo 7 = .ok (.getfield 7, 3) := by decide +kernel
theorem dX7_isSo_10 : decode cX7_isSo 10 = .ok (.bipush 25, 2) := by decide +kernel
theorem dX7_isSo_12 : decode cX7_isSo 12 = .ok (.iaload, 1) := by decide +kernel
theorem dX7_isSo_13 : decode cX7_isSo 13 = .ok (.iadd, 1) := by decide +kernel
theorem dX7_isSo_14 : decode cX7_isSo 14 = .ok (.iaload, 1) := by decide +kernel
theorem dX7_isSo_15 : decode cX7_isSo 15 = .ok (.istore_n 2, 1) := by decide +kernel
theorem dX7_isSo_16 : decode cX7_isSo 16 = .ok (.iconst 1, 1) := by decide +kernel
theorem dX7_isSo_17 : decode cX7_isSo 17 = .ok (.istore_n 3, 1) := by decide +kernel
theorem dX7_isSo_18 : decode cX7_isSo 18 = .ok (.aload_n 0, 1) := by decide +kernel
theorem dX7_isSo_19 : decode cX7_isSo 19 = .ok (.getfield 7, 3) := by decide +kernel
theorem dX7_isSo_22 : decode cX7_isSo 22 = .ok (.bipush 8, 2) := by decide +kernel
theorem dX7_isSo_24 : decode cX7_isSo 24 = .ok (.aload_n 0, 1) := by decide +kernel
theorem dX7_isSo_25 : decode cX7_isSo 25 = .ok (.getfield 7, 3) := by decide +kernel
theorem dX7_isSo_28 : decode cX7_isSo 28 = .ok (.bipush 25, 2) := by decide +kernel
theorem dX7_isSo_30 : decode cX7_isSo 30 = .ok (.iaload, 1) := by decide +kernel
theorem dX7_isSo_31 : decode cX7_isSo 31 = .ok (.iadd, 1) := by decide +kernel
theorem dX7_isSo_32 : decode cX7_isSo 32 = .ok (.iload_n 1, 1) := by decide +kernel
theorem dX7_isSo_33 : decode cX7_isSo 33 = .ok (.iastore, 1) := by decide +kernel
theorem dX7_isSo_34 : decode cX7_isSo 34 = .ok (.iconst 0, 1) := by decide +kernel
theorem dX7_isSo_35 : decode cX7_isSo 35 = .ok (.istore 4, 2) := by decide +kernel
theorem dX7_isSo_37 : decode cX7_isSo 37 = .ok (.iload 4, 2) := by decide +kernel
theorem dX7_isSo_39 : decode cX7_isSo 39 = .ok (.aload_n 0, 1) := by decide +kernel
theorem dX7_isSo_40 : decode cX7_isSo 40 = .ok (.getfield 7, 3) := by decide +kernel
theorem dX7_isSo_43 : decode cX7_isSo 43 = .ok (.bipush 34, 2) := by decide +kernel
theorem dX7_isSo_45 : decode cX7_isSo 45 = .ok (.iaload, 1) := by decide +kernel
theorem dX7_isSo_46 : decode cX7_isSo 46 = .ok (.if_icmp .ge 55, 3) := by decide +kernel
theorem dX7_isSo_49 : decode cX7_isSo 49 = .ok (.iload_n 3, 1) := by decide +kernel
theorem dX7_isSo_50 : decode cX7_isSo 50 = .ok (.ifCond .eq 43, 3) := by decide +kernel
theorem dX7_isSo_53 : decode cX7_isSo 53 = .ok (.aload_n 0, 1) := by decide +kernel
theorem dX7_isSo_54 : decode cX7_isSo 54 = .ok (.aload_n 0, 1) := by decide +kernel
theorem dX7_isSo_55 : decode cX7_isSo 55 = .ok (.getfield 7, 3) := by decide +kernel
theorem dX7_isSo_58 : decode cX7_isSo 58 = .ok (.bipush 35, 2) := by decide +kernel
theorem dX7_isSo_60 : decode cX7_isSo 60 = .ok (.iconst 2, 1) := by decide +kernel
theorem dX7_isSo_61 : decode cX7_isSo 61 = .ok (.iload 4, 2) := by decide +kernel
theorem dX7_isSo_63 : decode cX7_isSo 63 = .ok (.imul, 1) := by decide +kernel
theorem dX7_isSo_64 : decode cX7_isSo 64 = .ok (.iadd, 1) := by decide +kernel
theorem dX7_isSo_65 : decode cX7_isSo 65 = .ok (.iaload, 1) := by decide +kernel
theorem dX7_isSo_66 : decode cX7_isSo 66 = .ok (.invokevirtual 200, 3) := by decide +kernel
theorem dX7_isSo_69 : decode cX7_isSo 69 = .ok (.invokestatic 164, 3) := by decide +kernel
theorem dX7_isSo_72 : decode cX7_isSo 72 = .ok (.aload_n 0, 1) := by decide +kernel
theorem dX7_isSo_73 : decode cX7_isSo 73 = .ok (.getfield 7, 3) := by decide +kernel
theorem dX7_isSo_76 : decode cX7_isSo 76 = .ok (.bipush 35, 2) := by decide +kernel
theorem dX7_isSo_78 : decode cX7_isSo 78 = .ok (.iconst 2, 1) := by decide +kernel
theorem dX7_isSo_79 : decode cX7_isSo 79 = .ok (.iload 4, 2) := by decide +kernel
theorem dX7_isSo_81 : decode cX7_isSo 81 = .ok (.imul, 1) := by decide +kernel
theorem dX7_isSo_82 : decode cX7_isSo 82 = .ok (.iadd, 1) := by decide +kernel
theorem dX7_isSo_83 : decode cX7_isSo 83 = .ok (.iconst 1, 1) := by decide +kernel
theorem dX7_isSo_84 : decode cX7_isSo 84 = .ok (.iadd, 1) := by decide +kernel
theorem dX7_isSo_85 : decode cX7_isSo 85 = .ok (.iaload, 1) := by decide +kernel
theorem dX7_isSo_86 : decode cX7_isSo 86 = .ok (.if_icmp .ne 7, 3) := by decide +kernel
theorem dX7_isSo_89 : decode cX7_isSo 89 = .ok (.iconst 1, 1) := by decide +kernel
theorem dX7_isSo_90 : decode cX7_isSo 90 = .ok (.goto 4, 3) := by decide +kernel
theorem dX7_isSo_93 : decode cX7_isSo 93 = .ok (.iconst 0, 1) := by decide +kernel
theorem dX7_isSo_94 : decode cX7_isSo 94 = .ok (.istore_n 3, 1) := by decide +kernel
theorem dX7_isSo_95 : decode cX7_isSo 95 = .ok (.iinc 4 1, 3) := by decide +kernel
theorem dX7_isSo_98 : decode cX7_isSo 98 = .ok (.goto (-61), 3) := by decide +kernel
theorem dX7_isSo_101 : decode cX7_isSo 101 = .ok (.aload_n 0, 1) := by decide +kernel
theorem dX7_isSo_102 : decode cX7_isSo 102 = .ok (.getfield 7, 3) := by decide +kernel
theorem dX7_isSo_105 : decode cX7_isSo 105 = .ok (.bipush 8, 2) := by decide +kernel
theorem dX7_isSo_107 : decode cX7_isSo 107 = .ok (.aload_n 0, 1) := by decide +kernel
theorem dX7_isSo_108 : decode cX7_isSo 108 = .ok (.getfield 7, 3) := by decide +kernel
theorem dX7_isSo_111 : decode cX7_isSo 111 = .ok (.bipush 25, 2) := by decide +kernel
theorem dX7_isSo_113 : decode cX7_isSo 113 = .ok (.iaload, 1) := by decide +kernel
theorem dX7_isSo_114 : decode cX7_isSo 114 = .ok (.iadd, 1) := by decide +kernel
theorem dX7_isSo_115 : decode cX7_isSo 115 = .ok (.iload_n 2, 1) := by decide +kernel
theorem dX7_isSo_116 : decode cX7_isSo 116 = .ok (.iastore, 1) := by decide +kernel
theorem dX7_isSo_117 : decode cX7_isSo 117 = .ok (.iload_n 3, 1) := by decide +kernel
theorem dX7_isSo_118 : decode cX7_isSo 118 = .ok (.ireturn, 1) := by decide +kernel
theorem dX7_fits_0 : decode cX7_fits 0 = .ok (.iload_n 1, 1) := by decide +kernel
theorem dX7_fits_1 : decode cX7_fits 1 = .ok (.i2l, 1) := by decide +kernel
theorem dX7_fits_2 : decode cX7_fits 2 = .ok (.lconst 0, 1) := by decide +kernel
theorem dX7_fits_3 : decode cX7_fits 3 = .ok (.ldc2_w 154, 3) := by decide +kernel
theorem dX7_fits_6 : decode cX7_fits 6 = .ok (.invokestatic 77, 3) := by decide +kernel
theorem dX7_fits_9 : decode cX7_fits 9 = .ok (.ifCond .ne 5, 3) := by decide +kernel
theorem dX7_fits_12 : decode cX7_fits 12 = .ok (.iconst (-1), 1) := by decide +kernel
theorem dX7_fits_13 : decode cX7_fits 13 = .ok (.ireturn, 1) := by decide +kernel
theorem dX7_fits_14 : decode cX7_fits 14 = .ok (.aload_n 0, 1) := by decide +kernel
theorem dX7_fits_15 : decode cX7_fits 15 = .ok (.getfield 72, 3) := by decide +kernel
theorem dX7_fits_18 : decode cX7_fits 18 = .ok (.ifCond .ne 6, 3) := by decide +kernel
theorem dX7_fits_21 : decode cX7_fits 21 = .ok (.bipush (-2), 2) := by decide +kernel
theorem dX7_fits_23 : decode cX7_fits 23 = .ok (.ireturn, 1) := by decide +kernel
theorem dX7_fits_24 : decode cX7_fits 24 = .ok (.iconst 1, 1) := by decide +kernel
theorem dX7_fits_25 : decode cX7_fits 25 = .ok (.aload_n 0, 1) := by decide +kernel
theorem dX7_fits_26 : decode cX7_fits 26 = .ok (.getfield 7, 3) := by decide +kernel
theorem dX7_fits_29 : decode cX7_fits 29 = .ok (.bipush 25, 2) := by decide +kernel
theorem dX7_fits_31 : decode cX7_fits 31 = .ok (.iaload, 1) := by decide +kernel
theorem dX7_fits_32 : decode cX7_fits 32 = .ok (.ishl, 1) := by decide +kernel
theorem dX7_fits_33 : decode cX7_fits 33 = .ok (.iconst 1, 1) := by decide +kernel
theorem dX7_fits_34 : decode cX7_fits 34 = .ok (.isub, 1) := by decide +kernel
theorem dX7_fits_35 : decode cX7_fits 35 = .ok (.aload_n 0, 1) := by decide +kernel
theorem dX7_fits_36 : decode cX7_fits 36 = .ok (.getfield 7, 3) := by decide +kernel
theorem dX7_fits_39 : decode cX7_fits 39 = .ok (.iconst 0, 1) := by decide +kernel
theorem dX7_fits_40 : decode cX7_fits 40 = .ok (.aload_n 0, 1) := by decide +kernel
theorem dX7_fits_41 : decode cX7_fits 41 = .ok (.getfield 7, 3) := by decide +kernel
theorem dX7_fits_44 : decode cX7_fits 44 = .ok (.bipush 25, 2) := by decide +kernel
theorem dX7_fits_46 : decode cX7_fits 46 = .ok (.iaload, 1) := by decide +kernel
theorem dX7_fits_47 : decode cX7_fits 47 = .ok (.iadd, 1) := by decide +kernel
theorem dX7_fits_48 : decode cX7_fits 48 = .ok (.iaload, 1) := by decide +kernel
theorem dX7_fits_49 : decode cX7_fits 49 = .ok (.iconst (-1), 1) := by decide +kernel
theorem dX7_fits_50 : decode cX7_fits 50 = .ok (.ixor, 1) := by decide +kernel
theorem dX7_fits_51 : decode cX7_fits 51 = .ok (.iand, 1) := by decide +kernel
theorem dX7_fits_52 : decode cX7_fits 52 = .ok (.istore_n 2, 1) := by decide +kernel
theorem dX7_fits_53 : decode cX7_fits 53 = .ok (.iconst 0, 1) := by decide +kernel
theorem dX7_fits_54 : decode cX7_fits 54 = .ok (.istore_n 3, 1) := by decide +kernel
theorem dX7_fits_55 : decode cX7_fits 55 = .ok (.bipush (-4), 2) := by decide +kernel
theorem dX7_fits_57 : decode cX7_fits 57 = .ok (.istore 4, 2) := by decide +kernel
theorem dX7_fits_59 : decode cX7_fits 59 = .ok (.iload_n 2, 1) := by decide +kernel
theorem dX7_fits_60 : decode cX7_fits 60 = .ok (.istore 5, 2) := by decide +kernel
theorem dX7_fits_62 : decode cX7_fits 62 = .ok (.iconst 0, 1) := by decide +kernel
theorem dX7_fits_63 : decode cX7_fits 63 = .ok (.istore 6, 2) := by decide +kernel
theorem dX7_fits_65 : decode cX7_fits 65 = .ok (.iconst 0, 1) := by decide +kernel
theorem dX7_fits_66 : decode cX7_fits 66 = .ok (.istore 7, 2) := by decide +kernel
theorem dX7_fits_68 : decode cX7_fits 68 = .ok (.iload 7, 2) := by decide +kernel
theorem dX7_fits_70 : decode cX7_fits 70 = .ok (.iload_n 2, 1) := by decide +kernel
theorem dX7_fits_71 : decode cX7_fits 71 = .ok (.if_icmp .gt 57, 3) := by decide +kernel
theorem dX7_fits_74 : decode cX7_fits 74 = .ok (.iload 7, 2) := by decide +kernel
theorem dX7_fits_76 : decode cX7_fits 76 = .ok (.iload_n 2, 1) := by decide +kernel
theorem dX7_fits_77 : decode cX7_fits 77 = .ok (.iconst (-1), 1) := by decide +kernel
theorem dX7_fits_78 : decode cX7_fits 78 = .ok (.ixor, 1) := by decide +kernel
theorem dX7_fits_79 : decode cX7_fits 79 = .ok (.iand, 1) := by decide +kernel
theorem dX7_fits_80 : decode cX7_fits 80 = .ok (.ifCond .ne 42, 3) := by decide +kernel
theorem dX7_fits_83 : decode cX7_fits 83 = .ok (.aload_n 0, 1) := by decide +kernel
theorem dX7_fits_84 : decode cX7_fits 84 = .ok (.iload 7, 2) := by decide +kernel
theorem dX7_fits_86 : decode cX7_fits 86 = .ok (.invokevirtual 240, 3) := by decide +kernel
theorem dX7_fits_89 : decode cX7_fits 89 = .ok (.ifCond .eq 33, 3) := by decide +kernel
theorem dX7_fits_92 : decode cX7_fits 92 = .ok (.iload_n 3, 1) := by decide +kernel
theorem dX7_fits_93 : decode cX7_fits 93 = .ok (.ifCond .ne 8, 3) := by decide +kernel
theorem dX7_fits_96 : decode cX7_fits 96 = .ok (.iload 7, 2) := by decide +kernel
theorem dX7_fits_98 : decode cX7_fits 98 = .ok (.goto 5, 3) := by decide +kernel
theorem dX7_fits_101 : decode cX7_fits 101 = .ok (.iload 4, 2) := by decide +kernel
theorem dX7_fits_103 : decode cX7_fits 103 = .ok (.istore 4, 2) := by decide +kernel
theorem dX7_fits_105 : decode cX7_fits 105 = .ok (.iload 5, 2) := by decide +kernel
theorem dX7_fits_107 : decode cX7_fits 107 = .ok (.iload 7, 2) := by decide +kernel
theorem dX7_fits_109 : decode cX7_fits 109 = .ok (.iand, 1) := by decide +kernel
theorem dX7_fits_110 : decode cX7_fits 110 = .ok (.istore 5, 2) := by decide +kernel
theorem dX7_fits_112 : decode cX7_fits 112 = .ok (.iload 6, 2) := by decide +kernel
theorem dX7_fits_114 : decode cX7_fits 114 = .ok (.iload 7, 2) := by decide +kernel
theorem dX7_fits_116 : decode cX7_fits 116 = .ok (.ior, 1) := by decide +kernel
theorem dX7_fits_117 : decode cX7_fits 117 = .ok (.istore 6, 2) := by decide +kernel
theorem dX7_fits_119 : decode cX7_fits 119 = .ok (.iinc 3 1, 3) := by decide +kernel
theorem dX7_fits_122 : decode cX7_fits 122 = .ok (.iinc 7 1, 3) := by decide +kernel
theorem dX7_fits_125 : decode cX7_fits 125 = .ok (.goto (-57), 3) := by decide +kernel
theorem dX7_fits_128 : decode cX7_fits 128 = .ok (.iload_n 1, 1) := by decide +kernel
theorem dX7_fits_129 : decode cX7_fits 129 = .ok (.ifCond .eq 7, 3) := by decide +kernel
theorem dX7_fits_132 : decode cX7_fits 132 = .ok (.iload_n 3, 1) := by decide +kernel
theorem dX7_fits_133 : decode cX7_fits 133 = .ok (.ifCond .ne 14, 3) := by decide +kernel
theorem dX7_fits_136 : decode cX7_fits 136 = .ok (.iload_n 1, 1) := by decide +kernel
theorem dX7_fits_137 : decode cX7_fits 137 = .ok (.ifCond .ne 7, 3) := by decide +kernel
theorem dX7_fits_140 : decode cX7_fits 140 = .ok (.iload_n 3, 1) := by decide +kernel
theorem dX7_fits_141 : decode cX7_fits 141 = .ok (.goto 5, 3) := by decide +kernel
theorem dX7_fits_144 : decode cX7_fits 144 = .ok (.bipush (-4), 2) := by decide +kernel
theorem dX7_fits_146 : decode cX7_fits 146 = .ok (.ireturn, 1) := by decide +kernel
theorem dX7_fits_147 : decode cX7_fits 147 = .ok (.iload_n 1, 1) := by decide +kernel
theorem dX7_fits_148 : decode cX7_fits 148 = .ok (.iconst 1, 1) := by decide +kernel
theorem dX7_fits_149 : decode cX7_fits 149 = .ok (.if_icmp .ne 8, 3) := by decide +kernel
theorem dX7_fits_152 : decode cX7_fits 152 = .ok (.iload 4, 2) := by decide +kernel
theorem dX7_fits_154 : decode cX7_fits 154 = .ok (.goto 19, 3) := by decide +kernel
theorem dX7_fits_157 : decode cX7_fits 157 = .ok (.iload_n 1, 1) := by decide +kernel
theorem dX7_fits_158 : decode cX7_fits 158 = .ok (.iconst 2, 1) := by decide +kernel
theorem dX7_fits_159 : decode cX7_fits 159 = .ok (.if_icmp .ne 8, 3) := by decide +kernel
theorem dX7_fits_162 : decode cX7_fits 162 = .ok (.iload 5, 2) := by decide +kernel
theorem dX7_fits_164 : decode cX7_fits 164 = .ok (.goto 9, 3) := by decide +kernel
theorem dX7_fits_167 : decode cX7_fits 167 = .ok (.iload_n 2, 1) := by decide +kernel
theorem dX7_fits_168 : decode cX7_fits 168 = .ok (.iload 6, 2) := by decide +kernel
theorem dX7_fits_170 : decode cX7_fits 170 = .ok (.iconst (-1), 1) := by decide +kernel
theorem dX7_fits_171 : decode cX7_fits 171 = .ok (.ixor, 1) := by decide +kernel
theorem dX7_fits_172 : decode cX7_fits 172 = .ok (.iand, 1) := by decide +kernel
theorem dX7_fits_173 : decode cX7_fits 173 = .ok (.ireturn, 1) := by decide +kernel
theorem dX7_drift_0 : decode cX7_drift 0 = .ok (.iload_n 2, 1) := by decide +kernel
theorem dX7_drift_1 : decode cX7_drift 1 = .ok (.i2l, 1) := by decide +kernel
theorem dX7_drift_2 : decode cX7_drift 2 = .ok (.lconst 1, 1) := by decide +kernel
theorem dX7_drift_3 : decode cX7_drift 3 = .ok (.ldc2_w 243, 3) := by decide +kernel
theorem dX7_drift_6 : decode cX7_drift 6 = .ok (.invokestatic 77, 3) := by decide +kernel
theorem dX7_drift_9 : decode cX7_drift 9 = .ok (.ifCond .eq 10, 3) := by decide +kernel
theorem dX7_drift_12 : decode cX7_drift 12 = .ok (.iload_n 3, 1) := by decide +kernel
theorem dX7_drift_13 : decode cX7_drift 13 = .ok (.invokestatic 196, 3) := by decide +kernel
theorem dX7_drift_16 : decode cX7_drift 16 = .ok (.ifCond .ne 5, 3) := by decide +kernel
theorem dX7_drift_19 : decode cX7_drift 19 = .ok (.iconst (-1), 1) := by decide +kernel
theorem dX7_drift_20 : decode cX7_drift 20 = .ok (.ireturn, 1) := by decide +kernel
theorem dX7_drift_21 : decode cX7_drift 21 = .ok (.aload_n 0, 1) := by decide +kernel
theorem dX7_drift_22 : decode cX7_drift 22 = .ok (.getfield 72, 3) := by decide +kernel
theorem dX7_drift_25 : decode cX7_drift 25 = .ok (.ifCond .ne 6, 3) := by decide +kernel
theorem dX7_drift_28 : decode cX7_drift 28 = .ok (.bipush (-2), 2) := by decide +kernel
theorem dX7_drift_30 : decode cX7_drift 30 = .ok (.ireturn, 1) := by decide +kernel
theorem dX7_drift_31 : decode cX7_drift 31 = .ok (.aload_n 0, 1) := by decide +kernel
theorem dX7_drift_32 : decode cX7_drift 32 = .ok (.getfield 7, 3) := by decide +kernel
theorem dX7_drift_35 : decode cX7_drift 35 = .ok (.bipush 24, 2) := by decide +kernel
theorem dX7_drift_37 : decode cX7_drift 37 = .ok (.iaload, 1) := by decide +kernel
theorem dX7_drift_38 : decode cX7_drift 38 = .ok (.istore 4, 2) := by decide +kernel
theorem dX7_drift_40 : decode cX7_drift 40 = .ok (.iconst 0, 1) := by decide +kernel
theorem dX7_drift_41 : decode cX7_drift 41 = .ok (.istore 5, 2) := by decide +kernel
theorem dX7_drift_43 : decode cX7_drift 43 = .ok (.iload_n 1, 1) := by decide +kernel
theorem dX7_drift_44 : decode cX7_drift 44 = .ok (.istore 6, 2) := by decide +kernel
theorem dX7_drift_46 : decode cX7_drift 46 = .ok (.iconst 0, 1) := by decide +kernel
theorem dX7_drift_47 : decode cX7_drift 47 = .ok (.istore 7, 2) := by decide +kernel
theorem dX7_drift_49 : decode cX7_drift 49 = .ok (.iload 7, 2) := by decide +kernel
theorem dX7_drift_51 : decode cX7_drift 51 = .ok (.iload_n 2, 1) := by decide +kernel
theorem dX7_drift_52 : decode cX7_drift 52 = .ok (.if_icmp .ge 55, 3) := by decide +kernel
theorem dX7_drift_55 : decode cX7_drift 55 = .ok (.iload 6, 2) := by decide +kernel
theorem dX7_drift_57 : decode cX7_drift 57 = .ok (.ldc 245, 2) := by decide +kernel
theorem dX7_drift_59 : decode cX7_drift 59 = .ok (.imul, 1) := by decide +kernel
theorem dX7_drift_60 : decode cX7_drift 60 = .ok (.sipush 12345, 3) := by decide +kernel
theorem dX7_drift_63 : decode cX7_drift 63 = .ok (.iadd, 1) := by decide +kernel
theorem dX7_drift_64 : decode cX7_drift 64 = .ok (.istore 6, 2) := by decide +kernel
theorem dX7_drift_66 : decode cX7_drift 66 = .ok (.iload 4, 2) := by decide +kernel
theorem dX7_drift_68 : decode cX7_drift 68 = .ok (.iconst 1, 1) := by decide +kernel
theorem dX7_drift_69 : decode cX7_drift 69 = .ok (.iload 6, 2) := by decide +kernel
theorem dX7_drift_71 : decode cX7_drift 71 = .ok (.bipush 16, 2) := by decide +kernel
theorem dX7_drift_73 : decode cX7_drift 73 = .ok (.ishr, 1) := by decide +kernel
theorem dX7_drift_74 : decode cX7_drift 74 = .ok (.sipush 32767, 3) := by decide +kernel
theorem dX7_drift_77 : decode cX7_drift 77 = .ok (.iand, 1) := by decide +kernel
theorem dX7_drift_78 : decode cX7_drift 78 = .ok (.aload_n 0, 1) := by decide +kernel
theorem dX7_drift_79 : decode cX7_drift 79 = .ok (.getfield 72, 3) := by decide +kernel
theorem dX7_drift_82 : decode cX7_drift 82 = .ok (.irem, 1) := by decide +kernel
theorem dX7_drift_83 : decode cX7_drift 83 = .ok (.ishl, 1) := by decide +kernel
theorem dX7_drift_84 : decode cX7_drift 84 = .ok (.ixor, 1) := by decide +kernel
theorem dX7_drift_85 : decode cX7_drift 85 = .ok (.istore 4, 2) := by decide +kernel
theorem dX7_drift_87 : decode cX7_drift 87 = .ok (.iload 5, 2) := by decide +kernel
theorem dX7_drift_89 : decode cX7_drift 89 = .ok (.aload_n 0, 1) := by decide +kernel
theorem dX7_drift_90 : decode cX7_drift 90 = .ok (.iload 4, 2) := by decide +kernel
theorem dX7_drift_92 : decode cX7_drift 92 = .ok (.invokevirtual 200, 3) := by decide +kernel
theorem dX7_drift_95 : decode cX7_drift 95 = .ok (.invokestatic 164, 3) := by decide +kernel
theorem dX7_drift_98 : decode cX7_drift 98 = .ok (.iadd, 1) := by decide +kernel
theorem dX7_drift_99 : decode cX7_drift 99 = .ok (.istore 5, 2) := by decide +kernel
theorem dX7_drift_101 : decode cX7_drift 101 = .ok (.iinc 7 1, 3) := by decide +kernel
theorem dX7_drift_104 : decode cX7_drift 104 = .ok (.goto (-55), 3) := by decide +kernel
theorem dX7_drift_107 : decode cX7_drift 107 = .ok (.iload_n 3, 1) := by decide +kernel
theorem dX7_drift_108 : decode cX7_drift 108 = .ok (.ifCond .ne 8, 3) := by decide +kernel
theorem dX7_drift_111 : decode cX7_drift 111 = .ok (.iload 5, 2) := by decide +kernel
theorem dX7_drift_113 : decode cX7_drift 113 = .ok (.goto 9, 3) := by decide +kernel
theorem dX7_drift_116 : decode cX7_drift 116 = .ok (.aload_n 0, 1) := by decide +kernel
theorem dX7_drift_117 : decode cX7_drift 117 = .ok (.iload 4, 2) := by decide +kernel
theorem dX7_drift_119 : decode cX7_drift 119 = .ok (.invokevirtual 168, 3) := by decide +kernel
theorem dX7_drift_122 : decode cX7_drift 122 = .ok (.ireturn, 1) := by decide +kernel
theorem dX7_copies_0 : decode cX7_copies 0 = .ok (.iconst 0, 1) := by decide +kernel
theorem dX7_copies_1 : decode cX7_copies 1 = .ok (.istore_n 3, 1) := by decide +kernel
theorem dX7_copies_2 : decode cX7_copies 2 = .ok (.iload_n 3, 1) := by decide +kernel
theorem dX7_copies_3 : decode cX7_copies 3 = .ok (.bipush 47, 2) := by decide +kernel
theorem dX7_copies_5 : decode cX7_copies 5 = .ok (.if_icmp .ge 25, 3) := by decide +kernel
theorem dX7_copies_8 : decode cX7_copies 8 = .ok (.aload_n 0, 1) := by decide +kernel
theorem dX7_copies_9 : decode cX7_copies 9 = .ok (.getfield 7, 3) := by decide +kernel
theorem dX7_copies_12 : decode cX7_copies 12 = .ok (.iload_n 1, 1) := by decide +kernel
theorem dX7_copies_13 : decode cX7_copies 13 = .ok (.iload_n 3, 1) := by decide +kernel
theorem dX7_copies_14 : decode cX7_copies 14 = .ok (.iadd, 1) := by decide +kernel
theorem dX7_copies_15 : decode cX7_copies 15 = .ok (.aload_n 0, 1) := by decide +kernel
theorem dX7_copies_16 : decode cX7_copies 16 = .ok (.getfield 7, 3) := by decide +kernel
theorem dX7_copies_19 : decode cX7_copies 19 = .ok (.iload_n 2, 1) := by decide +kernel
theorem dX7_copies_20 : decode cX7_copies 20 = .ok (.iload_n 3, 1) := by decide +kernel
theorem dX7_copies_21 : decode cX7_copies 21 = .ok (.iadd, 1) := by decide +kernel
theorem dX7_copies_22 : decode cX7_copies 22 = .ok (.iaload, 1) := by decide +kernel
theorem dX7_copies_23 : decode cX7_copies 23 = .ok (.iastore, 1) := by decide +kernel
theorem dX7_copies_24 : decode cX7_copies 24 = .ok (.iinc 3 1, 3) := by decide +kernel
theorem dX7_copies_27 : decode cX7_copies 27 = .ok (.goto (-25), 3) := by decide +kernel
theorem dX7_copies_30 : decode cX7_copies 30 = .ok (.return_, 1) := by decide +kernel
theorem dX7_keep_0 : decode cX7_keep 0 = .ok (.iload_n 1, 1) := by decide +kernel
theorem dX7_keep_1 : decode cX7_keep 1 = .ok (.i2l, 1) := by decide +kernel
theorem dX7_keep_2 : decode cX7_keep 2 = .ok (.lconst 0, 1) := by decide +kernel
theorem dX7_keep_3 : decode cX7_keep 3 = .ok (.lconst 1, 1) := by decide +kernel
theorem dX7_keep_4 : decode cX7_keep 4 = .ok (.invokestatic 77, 3) := by decide +kernel
theorem dX7_keep_7 : decode cX7_keep 7 = .ok (.ifCond .ne 5, 3) := by decide +kernel
theorem dX7_keep_10 : decode cX7_keep 10 = .ok (.iconst (-1), 1) := by decide +kernel
theorem dX7_keep_11 : decode cX7_keep 11 = .ok (.ireturn, 1) := by decide +kernel
theorem dX7_keep_12 : decode cX7_keep 12 = .ok (.aload_n 0, 1) := by decide +kernel
theorem dX7_keep_13 : decode cX7_keep 13 = .ok (.getfield 13, 3) := by decide +kernel
theorem dX7_keep_16 : decode cX7_keep 16 = .ok (.iload_n 1, 1) := by decide +kernel
theorem dX7_keep_17 : decode cX7_keep 17 = .ok (.baload, 1) := by decide +kernel
theorem dX7_keep_18 : decode cX7_keep 18 = .ok (.invokestatic 164, 3) := by decide +kernel
theorem dX7_keep_21 : decode cX7_keep 21 = .ok (.istore_n 2, 1) := by decide +kernel
theorem dX7_keep_22 : decode cX7_keep 22 = .ok (.aload_n 0, 1) := by decide +kernel
theorem dX7_keep_23 : decode cX7_keep 23 = .ok (.getfield 13, 3) := by decide +kernel
theorem dX7_keep_26 : decode cX7_keep 26 = .ok (.iload_n 1, 1) := by decide +kernel
theorem dX7_keep_27 : decode cX7_keep 27 = .ok (.iconst 1, 1) := by decide +kernel
theorem dX7_keep_28 : decode cX7_keep 28 = .ok (.bastore, 1) := by decide +kernel
theorem dX7_keep_29 : decode cX7_keep 29 = .ok (.aload_n 0, 1) := by decide +kernel
theorem dX7_keep_30 : decode cX7_keep 30 = .ok (.bipush 47, 2) := by decide +kernel
theorem dX7_keep_32 : decode cX7_keep 32 = .ok (.iload_n 1, 1) := by decide +kernel
theorem dX7_keep_33 : decode cX7_keep 33 = .ok (.iconst 1, 1) := by decide +kernel
theorem dX7_keep_34 : decode cX7_keep 34 = .ok (.iadd, 1) := by decide +kernel
theorem dX7_keep_35 : decode cX7_keep 35 = .ok (.imul, 1) := by decide +kernel
theorem dX7_keep_36 : decode cX7_keep 36 = .ok (.iconst 0, 1) := by decide +kernel
theorem dX7_keep_37 : decode cX7_keep 37 = .ok (.invokevirtual 246, 3) := by decide +kernel
theorem dX7_keep_40 : decode cX7_keep 40 = .ok (.iload_n 2, 1) := by decide +kernel
theorem dX7_keep_41 : decode cX7_keep 41 = .ok (.ireturn, 1) := by decide +kernel
theorem dX7_back_0 : decode cX7_back 0 = .ok (.iload_n 1, 1) := by decide +kernel
theorem dX7_back_1 : decode cX7_back 1 = .ok (.i2l, 1) := by decide +kernel
theorem dX7_back_2 : decode cX7_back 2 = .ok (.lconst 0, 1) := by decide +kernel
theorem dX7_back_3 : decode cX7_back 3 = .ok (.lconst 1, 1) := by decide +kernel
theorem dX7_back_4 : decode cX7_back 4 = .ok (.invokestatic 77, 3) := by decide +kernel
theorem dX7_back_7 : decode cX7_back 7 = .ok (.ifCond .ne 5, 3) := by decide +kernel
theorem dX7_back_10 : decode cX7_back 10 = .ok (.iconst (-1), 1) := by decide +kernel
theorem dX7_back_11 : decode cX7_back 11 = .ok (.ireturn, 1) := by decide +kernel
theorem dX7_back_12 : decode cX7_back 12 = .ok (.aload_n 0, 1) := by decide +kernel
theorem dX7_back_13 : decode cX7_back 13 = .ok (.getfield 13, 3) := by decide +kernel
theorem dX7_back_16 : decode cX7_back 16 = .ok (.iload_n 1, 1) := by decide +kernel
theorem dX7_back_17 : decode cX7_back 17 = .ok (.baload, 1) := by decide +kernel
theorem dX7_back_18 : decode cX7_back 18 = .ok (.ifCond .ne 6, 3) := by decide +kernel
theorem dX7_back_21 : decode cX7_back 21 = .ok (.bipush (-2), 2) := by decide +kernel
theorem dX7_back_23 : decode cX7_back 23 = .ok (.ireturn, 1) := by decide +kernel
theorem dX7_back_24 : decode cX7_back 24 = .ok (.aload_n 0, 1) := by decide +kernel
theorem dX7_back_25 : decode cX7_back 25 = .ok (.iconst 0, 1) := by decide +kernel
theorem dX7_back_26 : decode cX7_back 26 = .ok (.bipush 47, 2) := by decide +kernel
theorem dX7_back_28 : decode cX7_back 28 = .ok (.iload_n 1, 1) := by decide +kernel
theorem dX7_back_29 : decode cX7_back 29 = .ok (.iconst 1, 1) := by decide +kernel
theorem dX7_back_30 : decode cX7_back 30 = .ok (.iadd, 1) := by decide +kernel
theorem dX7_back_31 : decode cX7_back 31 = .ok (.imul, 1) := by decide +kernel
theorem dX7_back_32 : decode cX7_back 32 = .ok (.invokevirtual 246, 3) := by decide +kernel
theorem dX7_back_35 : decode cX7_back 35 = .ok (.aload_n 0, 1) := by decide +kernel
theorem dX7_back_36 : decode cX7_back 36 = .ok (.getfield 7, 3) := by decide +kernel
theorem dX7_back_39 : decode cX7_back 39 = .ok (.bipush 26, 2) := by decide +kernel
theorem dX7_back_41 : decode cX7_back 41 = .ok (.iaload, 1) := by decide +kernel
theorem dX7_back_42 : decode cX7_back 42 = .ok (.ireturn, 1) := by decide +kernel
theorem dX7_isSheet_0 : decode cX7_isSheet 0 = .ok (.iload_n 0, 1) := by decide +kernel
theorem dX7_isSheet_1 : decode cX7_isSheet 1 = .ok (.i2l, 1) := by decide +kernel
theorem dX7_isSheet_2 : decode cX7_isSheet 2 = .ok (.lconst 0, 1) := by decide +kernel
theorem dX7_isSheet_3 : decode cX7_isSheet 3 = .ok (.ldc2_w 154, 3) := by decide +kernel
theorem dX7_isSheet_6 : decode cX7_isSheet 6 = .ok (.invokestatic 77, 3) := by decide +kernel
theorem dX7_isSheet_9 : decode cX7_isSheet 9 = .ok (.ifCond .eq 19, 3) := by decide +kernel
theorem dX7_isSheet_12 : decode cX7_isSheet 12 = .ok (.iload_n 1, 1) := by decide +kernel
theorem dX7_isSheet_13 : decode cX7_isSheet 13 = .ok (.i2l, 1) := by decide +kernel
theorem dX7_isSheet_14 : decode cX7_isSheet 14 = .ok (.lconst 0, 1) := by decide +kernel
theorem dX7_isSheet_15 : decode cX7_isSheet 15 = .ok (.ldc2_w 194, 3) := by decide +kernel
theorem dX7_isSheet_18 : decode cX7_isSheet 18 = .ok (.invokestatic 77, 3) := by decide +kernel
theorem dX7_isSheet_21 : decode cX7_isSheet 21 = .ok (.ifCond .eq 7, 3) := by decide +kernel
theorem dX7_isSheet_24 : decode cX7_isSheet 24 = .ok (.iconst 1, 1) := by decide +kernel
theorem dX7_isSheet_25 : decode cX7_isSheet 25 = .ok (.goto 4, 3) := by decide +kernel
theorem dX7_isSheet_28 : decode cX7_isSheet 28 = .ok (.iconst 0, 1) := by decide +kernel
theorem dX7_isSheet_29 : decode cX7_isSheet 29 = .ok (.ireturn, 1) := by decide +kernel
theorem dX7_sheet_0 : decode cX7_sheet 0 = .ok (.iload_n 1, 1) := by decide +kernel
theorem dX7_sheet_1 : decode cX7_sheet 1 = .ok (.iload_n 2, 1) := by decide +kernel
theorem dX7_sheet_2 : decode cX7_sheet 2 = .ok (.invokestatic 250, 3) := by decide +kernel
theorem dX7_sheet_5 : decode cX7_sheet 5 = .ok (.ifCond .eq 9, 3) := by decide +kernel
theorem dX7_sheet_8 : decode cX7_sheet 8 = .ok (.iload_n 3, 1) := by decide +kernel
theorem dX7_sheet_9 : decode cX7_sheet 9 = .ok (.bipush 40, 2) := by decide +kernel
theorem dX7_sheet_11 : decode cX7_sheet 11 = .ok (.if_icmp .le 5, 3) := by decide +kernel
theorem dX7_sheet_14 : decode cX7_sheet 14 = .ok (.iconst (-1), 1) := by decide +kernel
theorem dX7_sheet_15 : decode cX7_sheet 15 = .ok (.ireturn, 1) := by decide +kernel
theorem dX7_sheet_16 : decode cX7_sheet 16 = .ok (.iload_n 3, 1) := by decide +kernel
theorem dX7_sheet_17 : decode cX7_sheet 17 = .ok (.ifCond .ge 6, 3) := by decide +kernel
theorem dX7_sheet_20 : decode cX7_sheet 20 = .ok (.bipush (-14), 2) := by decide +kernel
theorem dX7_sheet_22 : decode cX7_sheet 22 = .ok (.ireturn, 1) := by decide +kernel
theorem dX7_sheet_23 : decode cX7_sheet 23 = .ok (.aload_n 0, 1) := by decide +kernel
theorem dX7_sheet_24 : decode cX7_sheet 24 = .ok (.getfield 47, 3) := by decide +kernel
theorem dX7_sheet_27 : decode cX7_sheet 27 = .ok (.iload_n 1, 1) := by decide +kernel
theorem dX7_sheet_28 : decode cX7_sheet 28 = .ok (.iload_n 2, 1) := by decide +kernel
theorem dX7_sheet_29 : decode cX7_sheet 29 = .ok (.iastore, 1) := by decide +kernel
theorem dX7_sheet_30 : decode cX7_sheet 30 = .ok (.aload_n 0, 1) := by decide +kernel
theorem dX7_sheet_31 : decode cX7_sheet 31 = .ok (.getfield 50, 3) := by decide +kernel
theorem dX7_sheet_34 : decode cX7_sheet 34 = .ok (.iload_n 1, 1) := by decide +kernel
theorem dX7_sheet_35 : decode cX7_sheet 35 = .ok (.iload_n 3, 1) := by decide +kernel
theorem dX7_sheet_36 : decode cX7_sheet 36 = .ok (.iastore, 1) := by decide +kernel
theorem dX7_sheet_37 : decode cX7_sheet 37 = .ok (.iconst 0, 1) := by decide +kernel
theorem dX7_sheet_38 : decode cX7_sheet 38 = .ok (.istore 4, 2) := by decide +kernel
theorem dX7_sheet_40 : decode cX7_sheet 40 = .ok (.iload 4, 2) := by decide +kernel
theorem dX7_sheet_42 : decode cX7_sheet 42 = .ok (.bipush 40, 2) := by decide +kernel
theorem dX7_sheet_44 : decode cX7_sheet 44 = .ok (.if_icmp .ge 22, 3) := by decide +kernel
theorem dX7_sheet_47 : decode cX7_sheet 47 = .ok (.aload_n 0, 1) := by decide +kernel
theorem dX7_sheet_48 : decode cX7_sheet 48 = .ok (.getfield 53, 3) := by decide +kernel
theorem dX7_sheet_51 : decode cX7_sheet 51 = .ok (.bipush 40, 2) := by decide +kernel
theorem dX7_sheet_53 : decode cX7_sheet 53 = .ok (.iload_n 1, 1) := by decide +kernel
theorem dX7_sheet_54 : decode cX7_sheet 54 = .ok (.imul, 1) := by decide +kernel
theorem dX7_sheet_55 : decode cX7_sheet 55 = .ok (.iload 4, 2) := by decide +kernel
theorem dX7_sheet_57 : decode cX7_sheet 57 = .ok (.iadd, 1) := by decide +kernel
theorem dX7_sheet_58 : decode cX7_sheet 58 = .ok (.iconst 0, 1) := by decide +kernel
theorem dX7_sheet_59 : decode cX7_sheet 59 = .ok (.iastore, 1) := by decide +kernel
theorem dX7_sheet_60 : decode cX7_sheet 60 = .ok (.iinc 4 1, 3) := by decide +kernel
theorem dX7_sheet_63 : decode cX7_sheet 63 = .ok (.goto (-23), 3) := by decide +kernel
theorem dX7_sheet_66 : decode cX7_sheet 66 = .ok (.iconst 1, 1) := by decide +kernel
theorem dX7_sheet_67 : decode cX7_sheet 67 = .ok (.ireturn, 1) := by decide +kernel
theorem dX7_lay_0 : decode cX7_lay 0 = .ok (.iload_n 1, 1) := by decide +kernel
theorem dX7_lay_1 : decode cX7_lay 1 = .ok (.iconst 0, 1) := by decide +kernel
theorem dX7_lay_2 : decode cX7_lay 2 = .ok (.invokestatic 250, 3) := by decide +kernel
theorem dX7_lay_5 : decode cX7_lay 5 = .ok (.ifCond .ne 5, 3) := by decide +kernel
theorem dX7_lay_8 : decode cX7_lay 8 = .ok (.iconst (-1), 1) := by decide +kernel
theorem dX7_lay_9 : decode cX7_lay 9 = .ok (.ireturn, 1) := by decide +kernel
theorem dX7_lay_10 : decode cX7_lay 10 = .ok (.aload_n 0, 1) := by decide +kernel
theorem dX7_lay_11 : decode cX7_lay 11 = .ok (.getfield 47, 3) := by decide +kernel
theorem dX7_lay_14 : decode cX7_lay 14 = .ok (.iload_n 1, 1) := by decide +kernel
theorem dX7_lay_15 : decode cX7_lay 15 = .ok (.iaload, 1) := by decide +kernel
theorem dX7_lay_16 : decode cX7_lay 16 = .ok (.bipush (-4), 2) := by decide +kernel
theorem dX7_lay_18 : decode cX7_lay 18 = .ok (.if_icmp .ne 6, 3) := by decide +kernel
theorem dX7_lay_21 : decode cX7_lay 21 = .ok (.bipush (-11), 2) := by decide +kernel
theorem dX7_lay_23 : decode cX7_lay 23 = .ok (.ireturn, 1) := by decide +kernel
theorem dX7_lay_24 : decode cX7_lay 24 = .ok (.iload_n 2, 1) := by decide +kernel
theorem dX7_lay_25 : decode cX7_lay 25 = .ok (.i2l, 1) := by decide +kernel
theorem dX7_lay_26 : decode cX7_lay 26 = .ok (.lconst 0, 1) := by decide +kernel
theorem dX7_lay_27 : decode cX7_lay 27 = .ok (.aload_n 0, 1) := by decide +kernel
theorem dX7_lay_28 : decode cX7_lay 28 = .ok (.getfield 50, 3) := by decide +kernel
theorem dX7_lay_31 : decode cX7_lay 31 = .ok (.iload_n 1, 1) := by decide +kernel
theorem dX7_lay_32 : decode cX7_lay 32 = .ok (.iaload, 1) := by decide +kernel
theorem dX7_lay_33 : decode cX7_lay 33 = .ok (.iconst 1, 1) := by decide +kernel
theorem dX7_lay_34 : decode cX7_lay 34 = .ok (.isub, 1) := by decide +kernel
theorem dX7_lay_35 : decode cX7_lay 35 = .ok (.i2l, 1) := by decide +kernel
theorem dX7_lay_36 : decode cX7_lay 36 = .ok (.invokestatic 77, 3) := by decide +kernel
theorem dX7_lay_39 : decode cX7_lay 39 = .ok (.ifCond .ne 6, 3) := by decide +kernel
theorem dX7_lay_42 : decode cX7_lay 42 = .ok (.bipush (-12), 2) := by decide +kernel
theorem dX7_lay_44 : decode cX7_lay 44 = .ok (.ireturn, 1) := by decide +kernel
theorem dX7_lay_45 : decode cX7_lay 45 = .ok (.aload_n 0, 1) := by decide +kernel
theorem dX7_lay_46 : decode cX7_lay 46 = .ok (.getfield 53, 3) := by decide +kernel
theorem dX7_lay_49 : decode cX7_lay 49 = .ok (.bipush 40, 2) := by decide +kernel
theorem dX7_lay_51 : decode cX7_lay 51 = .ok (.iload_n 1, 1) := by decide +kernel
theorem dX7_lay_52 : decode cX7_lay 52 = .ok (.imul, 1) := by decide +kernel
theorem dX7_lay_53 : decode cX7_lay 53 = .ok (.iload_n 2, 1) := by decide +kernel
theorem dX7_lay_54 : decode cX7_lay 54 = .ok (.iadd, 1) := by decide +kernel
theorem dX7_lay_55 : decode cX7_lay 55 = .ok (.aload_n 0, 1) := by decide +kernel
theorem dX7_lay_56 : decode cX7_lay 56 = .ok (.getfield 47, 3) := by decide +kernel
theorem dX7_lay_59 : decode cX7_lay 59 = .ok (.iload_n 1, 1) := by decide +kernel
theorem dX7_lay_60 : decode cX7_lay 60 = .ok (.iaload, 1) := by decide +kernel
theorem dX7_lay_61 : decode cX7_lay 61 = .ok (.ifCond .ne 8, 3) := by decide +kernel
theorem dX7_lay_64 : decode cX7_lay 64 = .ok (.iload_n 3, 1) := by decide +kernel
theorem dX7_lay_65 : decode cX7_lay 65 = .ok (.i2b, 1) := by decide +kernel
theorem dX7_lay_66 : decode cX7_lay 66 = .ok (.goto 19, 3) := by decide +kernel
theorem dX7_lay_69 : decode cX7_lay 69 = .ok (.aload_n 0, 1) := by decide +kernel
theorem dX7_lay_70 : decode cX7_lay 70 = .ok (.getfield 47, 3) := by decide +kernel
theorem dX7_lay_73 : decode cX7_lay 73 = .ok (.iload_n 1, 1) := by decide +kernel
theorem dX7_lay_74 : decode cX7_lay 74 = .ok (.iaload, 1) := by decide +kernel
theorem dX7_lay_75 : decode cX7_lay 75 = .ok (.iconst 1, 1) := by decide +kernel
theorem dX7_lay_76 : decode cX7_lay 76 = .ok (.if_icmp .ne 8, 3) := by decide +kernel
theorem dX7_lay_79 : decode cX7_lay 79 = .ok (.iload_n 3, 1) := by decide +kernel
theorem dX7_lay_80 : decode cX7_lay 80 = .ok (.i2s, 1) := by decide +kernel
theorem dX7_lay_81 : decode cX7_lay 81 = .ok (.goto 4, 3) := by decide +kernel
theorem dX7_lay_84 : decode cX7_lay 84 = .ok (.iload_n 3, 1) := by decide +kernel
theorem dX7_lay_85 : decode cX7_lay 85 = .ok (.iastore, 1) := by decide +kernel
theorem dX7_lay_86 : decode cX7_lay 86 = .ok (.iconst 1, 1) := by decide +kernel
theorem dX7_lay_87 : decode cX7_lay 87 = .ok (.ireturn, 1) := by decide +kernel
theorem dX7_read_0 : decode cX7_read 0 = .ok (.iload_n 1, 1) := by decide +kernel
theorem dX7_read_1 : decode cX7_read 1 = .ok (.iload_n 2, 1) := by decide +kernel
theorem dX7_read_2 : decode cX7_read 2 = .ok (.invokestatic 250, 3) := by decide +kernel
theorem dX7_read_5 : decode cX7_read 5 = .ok (.ifCond .eq 16, 3) := by decide +kernel
theorem dX7_read_8 : decode cX7_read 8 = .ok (.iload 4, 2) := by decide +kernel
theorem dX7_read_10 : decode cX7_read 10 = .ok (.i2l, 1) := by decide +kernel
theorem dX7_read_11 : decode cX7_read 11 = .ok (.lconst 0, 1) := by decide +kernel
theorem dX7_read_12 : decode cX7_read 12 = .ok (.ldc2_w 253, 3) := by decide +kernel
theorem dX7_read_15 : decode cX7_read 15 = .ok (.invokestatic 77, 3) := by decide +kernel
theorem dX7_read_18 : decode cX7_read 18 = .ok (.ifCond .ne 5, 3) := by decide +kernel
theorem dX7_read_21 : decode cX7_read 21 = .ok (.iconst (-1), 1) := by decide +kernel
theorem dX7_read_22 : decode cX7_read 22 = .ok (.ireturn, 1) := by decide +kernel
theorem dX7_read_23 : decode cX7_read 23 = .ok (.aload_n 0, 1) := by decide +kernel
theorem dX7_read_24 : decode cX7_read 24 = .ok (.getfield 7, 3) := by decide +kernel
theorem dX7_read_27 : decode cX7_read 27 = .ok (.bipush 24, 2) := by decide +kernel
theorem dX7_read_29 : decode cX7_read 29 = .ok (.iaload, 1) := by decide +kernel
theorem dX7_read_30 : decode cX7_read 30 = .ok (.istore 5, 2) := by decide +kernel
theorem dX7_read_32 : decode cX7_read 32 = .ok (.iconst 0, 1) := by decide +kernel
theorem dX7_read_33 : decode cX7_read 33 = .ok (.istore 6, 2) := by decide +kernel
theorem dX7_read_35 : decode cX7_read 35 = .ok (.iconst 0, 1) := by decide +kernel
theorem dX7_read_36 : decode cX7_read 36 = .ok (.istore 7, 2) := by decide +kernel
theorem dX7_read_38 : decode cX7_read 38 = .ok (.iconst 0, 1) := by decide +kernel
theorem dX7_read_39 : decode cX7_read 39 = .ok (.istore 8, 2) := by decide +kernel
theorem dX7_read_41 : decode cX7_read 41 = .ok (.iload 8, 2) := by decide +kernel
theorem dX7_read_43 : decode cX7_read 43 = .ok (.iload 4, 2) := by decide +kernel
theorem dX7_read_45 : decode cX7_read 45 = .ok (.if_icmp .ge 122, 3) := by decide +kernel
theorem dX7_read_48 : decode cX7_read 48 = .ok (.iload 6, 2) := by decide +kernel
theorem dX7_read_50 : decode cX7_read 50 = .ok (.ifCond .ne 117, 3) := by decide +kernel
theorem dX7_read_53 : decode cX7_read 53 = .ok (.iload_n 3, 1) := by decide +kernel
theorem dX7_read_54 : decode cX7_read 54 = .ok (.i2l, 1) := by decide +kernel
theorem dX7_read_55 : decode cX7_read 55 = .ok (.iload 8, 2) := by decide +kernel
theorem dX7_read_57 : decode cX7_read 57 = .ok (.i2l, 1) := by decide +kernel
theorem dX7_read_58 : decode cX7_read 58 = .ok (.ladd, 1) := by decide +kernel
theorem dX7_read_59 : decode cX7_read 59 = .ok (.lstore 9, 2) := by decide +kernel
theorem dX7_read_61 : decode cX7_read 61 = .ok (.aload_n 0, 1) := by decide +kernel
theorem dX7_read_62 : decode cX7_read 62 = .ok (.getfield 47, 3) := by decide +kernel
theorem dX7_read_65 : decode cX7_read 65 = .ok (.iload_n 1, 1) := by decide +kernel
theorem dX7_read_66 : decode cX7_read 66 = .ok (.iaload, 1) := by decide +kernel
theorem dX7_read_67 : decode cX7_read 67 = .ok (.bipush (-4), 2) := by decide +kernel
theorem dX7_read_69 : decode cX7_read 69 = .ok (.if_icmp .ne 7, 3) := by decide +kernel
theorem dX7_read_72 : decode cX7_read 72 = .ok (.iconst 1, 1) := by decide +kernel
theorem dX7_read_73 : decode cX7_read 73 = .ok (.goto 42, 3) := by decide +kernel
theorem dX7_read_76 : decode cX7_read 76 = .ok (.aload_n 0, 1) := by decide +kernel
theorem dX7_read_77 : decode cX7_read 77 = .ok (.getfield 47, 3) := by decide +kernel
theorem dX7_read_80 : decode cX7_read 80 = .ok (.iload_n 1, 1) := by decide +kernel
theorem dX7_read_81 : decode cX7_read 81 = .ok (.iaload, 1) := by decide +kernel
theorem dX7_read_82 : decode cX7_read 82 = .ok (.iload_n 2, 1) := by decide +kernel
theorem dX7_read_83 : decode cX7_read 83 = .ok (.if_icmp .eq 7, 3) := by decide +kernel
theorem dX7_read_86 : decode cX7_read 86 = .ok (.iconst 3, 1) := by decide +kernel
theorem dX7_read_87 : decode cX7_read 87 = .ok (.goto 28, 3) := by decide +kernel
theorem dX7_read_90 : decode cX7_read 90 = .ok (.lload 9, 2) := by decide +kernel
theorem dX7_read_92 : decode cX7_read 92 = .ok (.lconst 0, 1) := by decide +kernel
theorem dX7_read_93 : decode cX7_read 93 = .ok (.lcmp, 1) := by decide +kernel
theorem dX7_read_94 : decode cX7_read 94 = .ok (.ifCond .lt 16, 3) := by decide +kernel
theorem dX7_read_97 : decode cX7_read 97 = .ok (.lload 9, 2) := by decide +kernel
theorem dX7_read_99 : decode cX7_read 99 = .ok (.aload_n 0, 1) := by decide +kernel
theorem dX7_read_100 : decode cX7_read 100 = .ok (.getfield 50, 3) := by decide +kernel
theorem dX7_read_103 : decode cX7_read 103 = .ok (.iload_n 1, 1) := by decide +kernel
theorem dX7_read_104 : decode cX7_read 104 = .ok (.iaload, 1) := by decide +kernel
theorem dX7_read_105 : decode cX7_read 105 = .ok (.i2l, 1) := by decide +kernel
theorem dX7_read_106 : decode cX7_read 106 = .ok (.lcmp, 1) := by decide +kernel
theorem dX7_read_107 : decode cX7_read 107 = .ok (.ifCond .lt 7, 3) := by decide +kernel
theorem dX7_read_110 : decode cX7_read 110 = .ok (.iconst 2, 1) := by decide +kernel
theorem dX7_read_111 : decode cX7_read 111 = .ok (.goto 4, 3) := by decide +kernel
theorem dX7_read_114 : decode cX7_read 114 = .ok (.iconst 0, 1) := by decide +kernel
theorem dX7_read_115 : decode cX7_read 115 = .ok (.istore 6, 2) := by decide +kernel
theorem dX7_read_117 : decode cX7_read 117 = .ok (.iload 6, 2) := by decide +kernel
theorem dX7_read_119 : decode cX7_read 119 = .ok (.ifCond .ne 42, 3) := by decide +kernel
theorem dX7_read_122 : decode cX7_read 122 = .ok (.aload_n 0, 1) := by decide +kernel
theorem dX7_read_123 : decode cX7_read 123 = .ok (.aload_n 0, 1) := by decide +kernel
theorem dX7_read_124 : decode cX7_read 124 = .ok (.getfield 53, 3) := by decide +kernel
theorem dX7_read_127 : decode cX7_read 127 = .ok (.bipush 40, 2) := by decide +kernel
theorem dX7_read_129 : decode cX7_read 129 = .ok (.iload_n 1, 1) := by decide +kernel
theorem dX7_read_130 : decode cX7_read 130 = .ok (.imul, 1) := by decide +kernel
theorem dX7_read_131 : decode cX7_read 131 = .ok (.iload_n 3, 1) := by decide +kernel
theorem dX7_read_132 : decode cX7_read 132 = .ok (.iadd, 1) := by decide +kernel
theorem dX7_read_133 : decode cX7_read 133 = .ok (.iload 8, 2) := by decide +kernel
theorem dX7_read_135 : decode cX7_read 135 = .ok (.iadd, 1) := by decide +kernel
theorem dX7_read_136 : decode cX7_read 136 = .ok (.iaload, 1) := by decide +kernel
theorem dX7_read_137 : decode cX7_read 137 = .ok (.invokevirtual 255, 3) := by decide +kernel
theorem dX7_read_140 : decode cX7_read 140 = .ok (.ifCond .ge 18, 3) := by decide +kernel
theorem dX7_read_143 : decode cX7_read 143 = .ok (.aload_n 0, 1) := by decide +kernel
theorem dX7_read_144 : decode cX7_read 144 = .ok (.getfield 7, 3) := by decide +kernel
theorem dX7_read_147 : decode cX7_read 147 = .ok (.bipush 24, 2) := by decide +kernel
theorem dX7_read_149 : decode cX7_read 149 = .ok (.iload 5, 2) := by decide +kernel
theorem dX7_read_151 : decode cX7_read 151 = .ok (.iastore, 1) := by decide +kernel
theorem dX7_read_152 : decode cX7_read 152 = .ok (.bipush (-20), 2) := by decide +kernel
theorem dX7_read_154 : decode cX7_read 154 = .ok (.iload 8, 2) := by decide +kernel
theorem dX7_read_156 : decode cX7_read 156 = .ok (.isub, 1) := by decide +kernel
theorem dX7_read_157 : decode cX7_read 157 = .ok (.ireturn, 1) := by decide +kernel
theorem dX7_read_158 : decode cX7_read 158 = .ok (.iinc 7 1, 3) := by decide +kernel
theorem dX7_read_161 : decode cX7_read 161 = .ok (.iinc 8 1, 3) := by decide +kernel
theorem dX7_read_164 : decode cX7_read 164 = .ok (.goto (-123), 3) := by decide +kernel
theorem dX7_read_167 : decode cX7_read 167 = .ok (.aload_n 0, 1) := by decide +kernel
theorem dX7_read_168 : decode cX7_read 168 = .ok (.iload 6, 2) := by decide +kernel
theorem dX7_read_170 : decode cX7_read 170 = .ok (.putfield 258, 3) := by decide +kernel
theorem dX7_read_173 : decode cX7_read 173 = .ok (.iload 7, 2) := by decide +kernel
theorem dX7_read_175 : decode cX7_read 175 = .ok (.ireturn, 1) := by decide +kernel
theorem dX7_torn_0 : decode cX7_torn 0 = .ok (.aload_n 0, 1) := by decide +kernel
theorem dX7_torn_1 : decode cX7_torn 1 = .ok (.getfield 258, 3) := by decide +kernel
theorem dX7_torn_4 : decode cX7_torn 4 = .ok (.ireturn, 1) := by decide +kernel
theorem dX7_count_0 : decode cX7_count 0 = .ok (.iload_n 1, 1) := by decide +kernel
theorem dX7_count_1 : decode cX7_count 1 = .ok (.tableswitch 121 0 5 #[39, 50, 65, 73, 93, 98], 39) := by decide +kernel
theorem dX7_count_40 : decode cX7_count 40 = .ok (.aload_n 0, 1) := by decide +kernel
theorem dX7_count_41 : decode cX7_count 41 = .ok (.getfield 7, 3) := by decide +kernel
theorem dX7_count_44 : decode cX7_count 44 = .ok (.bipush 24, 2) := by decide +kernel
theorem dX7_count_46 : decode cX7_count 46 = .ok (.iaload, 1) := by decide +kernel
theorem dX7_count_47 : decode cX7_count 47 = .ok (.invokestatic 179, 3) := by decide +kernel
theorem dX7_count_50 : decode cX7_count 50 = .ok (.ireturn, 1) := by decide +kernel
theorem dX7_count_51 : decode cX7_count 51 = .ok (.aload_n 0, 1) := by decide +kernel
theorem dX7_count_52 : decode cX7_count 52 = .ok (.aload_n 0, 1) := by decide +kernel
theorem dX7_count_53 : decode cX7_count 53 = .ok (.getfield 7, 3) := by decide +kernel
theorem dX7_count_56 : decode cX7_count 56 = .ok (.bipush 24, 2) := by decide +kernel
theorem dX7_count_58 : decode cX7_count 58 = .ok (.iaload, 1) := by decide +kernel
theorem dX7_count_59 : decode cX7_count 59 = .ok (.invokevirtual 168, 3) := by decide +kernel
theorem dX7_count_62 : decode cX7_count 62 = .ok (.invokestatic 179, 3) := by decide +kernel
theorem dX7_count_65 : decode cX7_count 65 = .ok (.ireturn, 1) := by decide +kernel
theorem dX7_count_66 : decode cX7_count 66 = .ok (.aload_n 0, 1) := by decide +kernel
theorem dX7_count_67 : decode cX7_count 67 = .ok (.getfield 7, 3) := by decide +kernel
theorem dX7_count_70 : decode cX7_count 70 = .ok (.bipush 34, 2) := by decide +kernel
theorem dX7_count_72 : decode cX7_count 72 = .ok (.iaload, 1) := by decide +kernel
theorem dX7_count_73 : decode cX7_count 73 = .ok (.ireturn, 1) := by decide +kernel
theorem dX7_count_74 : decode cX7_count 74 = .ok (.aload_n 0, 1) := by decide +kernel
theorem dX7_count_75 : decode cX7_count 75 = .ok (.getfield 13, 3) := by decide +kernel
theorem dX7_count_78 : decode cX7_count 78 = .ok (.iconst 0, 1) := by decide +kernel
theorem dX7_count_79 : decode cX7_count 79 = .ok (.baload, 1) := by decide +kernel
theorem dX7_count_80 : decode cX7_count 80 = .ok (.invokestatic 164, 3) := by decide +kernel
theorem dX7_count_83 : decode cX7_count 83 = .ok (.aload_n 0, 1) := by decide +kernel
theorem dX7_count_84 : decode cX7_count 84 = .ok (.getfield 13, 3) := by decide +kernel
theorem dX7_count_87 : decode cX7_count 87 = .ok (.iconst 1, 1) := by decide +kernel
theorem dX7_count_88 : decode cX7_count 88 = .ok (.baload, 1) := by decide +kernel
theorem dX7_count_89 : decode cX7_count 89 = .ok (.invokestatic 164, 3) := by decide +kernel
theorem dX7_count_92 : decode cX7_count 92 = .ok (.iadd, 1) := by decide +kernel
theorem dX7_count_93 : decode cX7_count 93 = .ok (.ireturn, 1) := by decide +kernel
theorem dX7_count_94 : decode cX7_count 94 = .ok (.aload_n 0, 1) := by decide +kernel
theorem dX7_count_95 : decode cX7_count 95 = .ok (.getfield 81, 3) := by decide +kernel
theorem dX7_count_98 : decode cX7_count 98 = .ok (.ireturn, 1) := by decide +kernel
theorem dX7_count_99 : decode cX7_count 99 = .ok (.aload_n 0, 1) := by decide +kernel
theorem dX7_count_100 : decode cX7_count 100 = .ok (.getfield 47, 3) := by decide +kernel
theorem dX7_count_103 : decode cX7_count 103 = .ok (.iconst 0, 1) := by decide +kernel
theorem dX7_count_104 : decode cX7_count 104 = .ok (.iaload, 1) := by decide +kernel
theorem dX7_count_105 : decode cX7_count 105 = .ok (.bipush (-4), 2) := by decide +kernel
theorem dX7_count_107 : decode cX7_count 107 = .ok (.if_icmp .ne 8, 3) := by decide +kernel
theorem dX7_count_110 : decode cX7_count 110 = .ok (.bipush (-4), 2) := by decide +kernel
theorem dX7_count_112 : decode cX7_count 112 = .ok (.goto 9, 3) := by decide +kernel
theorem dX7_count_115 : decode cX7_count 115 = .ok (.aload_n 0, 1) := by decide +kernel
theorem dX7_count_116 : decode cX7_count 116 = .ok (.getfield 50, 3) := by decide +kernel
theorem dX7_count_119 : decode cX7_count 119 = .ok (.iconst 0, 1) := by decide +kernel
theorem dX7_count_120 : decode cX7_count 120 = .ok (.iaload, 1) := by decide +kernel
theorem dX7_count_121 : decode cX7_count 121 = .ok (.ireturn, 1) := by decide +kernel
theorem dX7_count_122 : decode cX7_count 122 = .ok (.iconst (-1), 1) := by decide +kernel
theorem dX7_count_123 : decode cX7_count 123 = .ok (.ireturn, 1) := by decide +kernel
theorem dJ6_bitCount_0f7a4_0 : decode cJ6_bitCount_0f7a4 0 = .ok (.iload_n 0, 1) := by decide +kernel
theorem dJ6_bitCount_0f7a4_1 : decode cJ6_bitCount_0f7a4 1 = .ok (.iload_n 0, 1) := by decide +kernel
theorem dJ6_bitCount_0f7a4_2 : decode cJ6_bitCount_0f7a4 2 = .ok (.iconst 1, 1) := by decide +kernel
theorem dJ6_bitCount_0f7a4_3 : decode cJ6_bitCount_0f7a4 3 = .ok (.iushr, 1) := by decide +kernel
theorem dJ6_bitCount_0f7a4_4 : decode cJ6_bitCount_0f7a4 4 = .ok (.ldc_w 265, 3) := by decide +kernel
theorem dJ6_bitCount_0f7a4_7 : decode cJ6_bitCount_0f7a4 7 = .ok (.iand, 1) := by decide +kernel
theorem dJ6_bitCount_0f7a4_8 : decode cJ6_bitCount_0f7a4 8 = .ok (.isub, 1) := by decide +kernel
theorem dJ6_bitCount_0f7a4_9 : decode cJ6_bitCount_0f7a4 9 = .ok (.istore_n 0, 1) := by decide +kernel
theorem dJ6_bitCount_0f7a4_10 : decode cJ6_bitCount_0f7a4 10 = .ok (.iload_n 0, 1) := by decide +kernel
theorem dJ6_bitCount_0f7a4_11 : decode cJ6_bitCount_0f7a4 11 = .ok (.ldc_w 266, 3) := by decide +kernel
theorem dJ6_bitCount_0f7a4_14 : decode cJ6_bitCount_0f7a4 14 = .ok (.iand, 1) := by decide +kernel
theorem dJ6_bitCount_0f7a4_15 : decode cJ6_bitCount_0f7a4 15 = .ok (.iload_n 0, 1) := by decide +kernel
theorem dJ6_bitCount_0f7a4_16 : decode cJ6_bitCount_0f7a4 16 = .ok (.iconst 2, 1) := by decide +kernel
theorem dJ6_bitCount_0f7a4_17 : decode cJ6_bitCount_0f7a4 17 = .ok (.iushr, 1) := by decide +kernel
theorem dJ6_bitCount_0f7a4_18 : decode cJ6_bitCount_0f7a4 18 = .ok (.ldc_w 266, 3) := by decide +kernel
theorem dJ6_bitCount_0f7a4_21 : decode cJ6_bitCount_0f7a4 21 = .ok (.iand, 1) := by decide +kernel
theorem dJ6_bitCount_0f7a4_22 : decode cJ6_bitCount_0f7a4 22 = .ok (.iadd, 1) := by decide +kernel
theorem dJ6_bitCount_0f7a4_23 : decode cJ6_bitCount_0f7a4 23 = .ok (.istore_n 0, 1) := by decide +kernel
theorem dJ6_bitCount_0f7a4_24 : decode cJ6_bitCount_0f7a4 24 = .ok (.iload_n 0, 1) := by decide +kernel
theorem dJ6_bitCount_0f7a4_25 : decode cJ6_bitCount_0f7a4 25 = .ok (.iload_n 0, 1) := by decide +kernel
theorem dJ6_bitCount_0f7a4_26 : decode cJ6_bitCount_0f7a4 26 = .ok (.iconst 4, 1) := by decide +kernel
theorem dJ6_bitCount_0f7a4_27 : decode cJ6_bitCount_0f7a4 27 = .ok (.iushr, 1) := by decide +kernel
theorem dJ6_bitCount_0f7a4_28 : decode cJ6_bitCount_0f7a4 28 = .ok (.iadd, 1) := by decide +kernel
theorem dJ6_bitCount_0f7a4_29 : decode cJ6_bitCount_0f7a4 29 = .ok (.ldc_w 267, 3) := by decide +kernel
theorem dJ6_bitCount_0f7a4_32 : decode cJ6_bitCount_0f7a4 32 = .ok (.iand, 1) := by decide +kernel
theorem dJ6_bitCount_0f7a4_33 : decode cJ6_bitCount_0f7a4 33 = .ok (.istore_n 0, 1) := by decide +kernel
theorem dJ6_bitCount_0f7a4_34 : decode cJ6_bitCount_0f7a4 34 = .ok (.iload_n 0, 1) := by decide +kernel
theorem dJ6_bitCount_0f7a4_35 : decode cJ6_bitCount_0f7a4 35 = .ok (.iload_n 0, 1) := by decide +kernel
theorem dJ6_bitCount_0f7a4_36 : decode cJ6_bitCount_0f7a4 36 = .ok (.bipush 8, 2) := by decide +kernel
theorem dJ6_bitCount_0f7a4_38 : decode cJ6_bitCount_0f7a4 38 = .ok (.iushr, 1) := by decide +kernel
theorem dJ6_bitCount_0f7a4_39 : decode cJ6_bitCount_0f7a4 39 = .ok (.iadd, 1) := by decide +kernel
theorem dJ6_bitCount_0f7a4_40 : decode cJ6_bitCount_0f7a4 40 = .ok (.istore_n 0, 1) := by decide +kernel
theorem dJ6_bitCount_0f7a4_41 : decode cJ6_bitCount_0f7a4 41 = .ok (.iload_n 0, 1) := by decide +kernel
theorem dJ6_bitCount_0f7a4_42 : decode cJ6_bitCount_0f7a4 42 = .ok (.iload_n 0, 1) := by decide +kernel
theorem dJ6_bitCount_0f7a4_43 : decode cJ6_bitCount_0f7a4 43 = .ok (.bipush 16, 2) := by decide +kernel
theorem dJ6_bitCount_0f7a4_45 : decode cJ6_bitCount_0f7a4 45 = .ok (.iushr, 1) := by decide +kernel
theorem dJ6_bitCount_0f7a4_46 : decode cJ6_bitCount_0f7a4 46 = .ok (.iadd, 1) := by decide +kernel
theorem dJ6_bitCount_0f7a4_47 : decode cJ6_bitCount_0f7a4 47 = .ok (.istore_n 0, 1) := by decide +kernel
theorem dJ6_bitCount_0f7a4_48 : decode cJ6_bitCount_0f7a4 48 = .ok (.iload_n 0, 1) := by decide +kernel
theorem dJ6_bitCount_0f7a4_49 : decode cJ6_bitCount_0f7a4 49 = .ok (.bipush 63, 2) := by decide +kernel
theorem dJ6_bitCount_0f7a4_51 : decode cJ6_bitCount_0f7a4 51 = .ok (.iand, 1) := by decide +kernel
theorem dJ6_bitCount_0f7a4_52 : decode cJ6_bitCount_0f7a4 52 = .ok (.ireturn, 1) := by decide +kernel
theorem dJ9_abs_067f4_0 : decode cJ9_abs_067f4 0 = .ok (.lload_n 0, 1) := by decide +kernel
theorem dJ9_abs_067f4_1 : decode cJ9_abs_067f4 1 = .ok (.lconst 0, 1) := by decide +kernel
theorem dJ9_abs_067f4_2 : decode cJ9_abs_067f4 2 = .ok (.lcmp, 1) := by decide +kernel
theorem dJ9_abs_067f4_3 : decode cJ9_abs_067f4 3 = .ok (.ifCond .ge 8, 3) := by decide +kernel
theorem dJ9_abs_067f4_6 : decode cJ9_abs_067f4 6 = .ok (.lload_n 0, 1) := by decide +kernel
theorem dJ9_abs_067f4_7 : decode cJ9_abs_067f4 7 = .ok (.lneg, 1) := by decide +kernel
theorem dJ9_abs_067f4_8 : decode cJ9_abs_067f4 8 = .ok (.goto 4, 3) := by decide +kernel
theorem dJ9_abs_067f4_11 : decode cJ9_abs_067f4 11 = .ok (.lload_n 0, 1) := by decide +kernel
theorem dJ9_abs_067f4_12 : decode cJ9_abs_067f4 12 = .ok (.lreturn, 1) := by decide +kernel
theorem dJ9_max_7cf53_0 : decode cJ9_max_7cf53 0 = .ok (.iload_n 0, 1) := by decide +kernel
theorem dJ9_max_7cf53_1 : decode cJ9_max_7cf53 1 = .ok (.iload_n 1, 1) := by decide +kernel
theorem dJ9_max_7cf53_2 : decode cJ9_max_7cf53 2 = .ok (.if_icmp .lt 7, 3) := by decide +kernel
theorem dJ9_max_7cf53_5 : decode cJ9_max_7cf53 5 = .ok (.iload_n 0, 1) := by decide +kernel
theorem dJ9_max_7cf53_6 : decode cJ9_max_7cf53 6 = .ok (.goto 4, 3) := by decide +kernel
theorem dJ9_max_7cf53_9 : decode cJ9_max_7cf53 9 = .ok (.iload_n 1, 1) := by decide +kernel
theorem dJ9_max_7cf53_10 : decode cJ9_max_7cf53 10 = .ok (.ireturn, 1) := by decide +kernel
theorem dJ0_length_8abf5_0 : decode cJ0_length_8abf5 0 = .ok (.aload_n 0, 1) := by decide +kernel
theorem dJ0_length_8abf5_1 : decode cJ0_length_8abf5 1 = .ok (.getfield 9, 3) := by decide +kernel
theorem dJ0_length_8abf5_4 : decode cJ0_length_8abf5 4 = .ok (.arraylength, 1) := by decide +kernel
theorem dJ0_length_8abf5_5 : decode cJ0_length_8abf5 5 = .ok (.aload_n 0, 1) := by decide +kernel
theorem dJ0_length_8abf5_6 : decode cJ0_length_8abf5 6 = .ok (.invokevirtual 335, 3) := by decide +kernel
theorem dJ0_length_8abf5_9 : decode cJ0_length_8abf5 9 = .ok (.ishr, 1) := by decide +kernel
theorem dJ0_length_8abf5_10 : decode cJ0_length_8abf5 10 = .ok (.ireturn, 1) := by decide +kernel
theorem dJ0_charAt_5068e_0 : decode cJ0_charAt_5068e 0 = .ok (.aload_n 0, 1) := by decide +kernel
theorem dJ0_charAt_5068e_1 : decode cJ0_charAt_5068e 1 = .ok (.invokevirtual 492, 3) := by decide +kernel
theorem dJ0_charAt_5068e_4 : decode cJ0_charAt_5068e 4 = .ok (.ifCond .eq 12, 3) := by decide +kernel
theorem dJ0_charAt_5068e_7 : decode cJ0_charAt_5068e 7 = .ok (.aload_n 0, 1) := by decide +kernel
theorem dJ0_charAt_5068e_8 : decode cJ0_charAt_5068e 8 = .ok (.getfield 9, 3) := by decide +kernel
end
section
theorem dJ0_charAt_5068e_11 : decode cJ0_charAt_5068e 11 = .ok (.iload_n 1, 1) := by decide +kernel
theorem dJ0_charAt_5068e_12 : decode cJ0_charAt_5068e 12 = .ok (.invokestatic 495, 3) := by decide +kernel
theorem dJ0_charAt_5068e_15 : decode cJ0_charAt_5068e 15 = .ok (.ireturn, 1) := by decide +kernel
theorem dJ0_charAt_5068e_16 : decode cJ0_charAt_5068e 16 = .ok (.aload_n 0, 1) := by decide +kernel
theorem dJ0_charAt_5068e_17 : decode cJ0_charAt_5068e 17 = .ok (.getfield 9, 3) := by decide +kernel
theorem dJ0_charAt_5068e_20 : decode cJ0_charAt_5068e 20 = .ok (.iload_n 1, 1) := by decide +kernel
theorem dJ0_charAt_5068e_21 : decode cJ0_charAt_5068e 21 = .ok (.invokestatic 498, 3) := by decide +kernel
theorem dJ0_charAt_5068e_24 : decode cJ0_charAt_5068e 24 = .ok (.ireturn, 1) := by decide +kernel
theorem dJ0_coder_7d493_0 : decode cJ0_coder_7d493 0 = .ok (.getstatic 38, 3) := by decide +kernel
theorem dJ0_coder_7d493_3 : decode cJ0_coder_7d493 3 = .ok (.ifCond .eq 10, 3) := by decide +kernel
theorem dJ0_coder_7d493_6 : decode cJ0_coder_7d493 6 = .ok (.aload_n 0, 1) := by decide +kernel
theorem dJ0_coder_7d493_7 : decode cJ0_coder_7d493 7 = .ok (.getfield 15, 3) := by decide +kernel
theorem dJ0_coder_7d493_10 : decode cJ0_coder_7d493 10 = .ok (.goto 4, 3) := by decide +kernel
theorem dJ0_coder_7d493_13 : decode cJ0_coder_7d493 13 = .ok (.iconst 1, 1) := by decide +kernel
theorem dJ0_coder_7d493_14 : decode cJ0_coder_7d493 14 = .ok (.ireturn, 1) := by decide +kernel
theorem dJ0_isLatin1_aae02_0 : decode cJ0_isLatin1_aae02 0 = .ok (.getstatic 38, 3) := by decide +kernel
theorem dJ0_isLatin1_aae02_3 : decode cJ0_isLatin1_aae02 3 = .ok (.ifCond .eq 14, 3) := by decide +kernel
theorem dJ0_isLatin1_aae02_6 : decode cJ0_isLatin1_aae02 6 = .ok (.aload_n 0, 1) := by decide +kernel
theorem dJ0_isLatin1_aae02_7 : decode cJ0_isLatin1_aae02 7 = .ok (.getfield 15, 3) := by decide +kernel
theorem dJ0_isLatin1_aae02_10 : decode cJ0_isLatin1_aae02 10 = .ok (.ifCond .ne 7, 3) := by decide +kernel
theorem dJ0_isLatin1_aae02_13 : decode cJ0_isLatin1_aae02 13 = .ok (.iconst 1, 1) := by decide +kernel
theorem dJ0_isLatin1_aae02_14 : decode cJ0_isLatin1_aae02 14 = .ok (.goto 4, 3) := by decide +kernel
theorem dJ0_isLatin1_aae02_17 : decode cJ0_isLatin1_aae02 17 = .ok (.iconst 0, 1) := by decide +kernel
theorem dJ0_isLatin1_aae02_18 : decode cJ0_isLatin1_aae02 18 = .ok (.ireturn, 1) := by decide +kernel
theorem dJ0_checkIndex_df160_0 : decode cJ0_checkIndex_df160 0 = .ok (.iload_n 0, 1) := by decide +kernel
theorem dJ0_checkIndex_df160_1 : decode cJ0_checkIndex_df160 1 = .ok (.iload_n 1, 1) := by decide +kernel
theorem dJ0_checkIndex_df160_2 : decode cJ0_checkIndex_df160 2 = .ok (.getstatic 1053, 3) := by decide +kernel
theorem dJ0_checkIndex_df160_5 : decode cJ0_checkIndex_df160 5 = .ok (.invokestatic 1059, 3) := by decide +kernel
theorem dJ0_checkIndex_df160_8 : decode cJ0_checkIndex_df160 8 = .ok (.pop, 1) := by decide +kernel
theorem dJ0_checkIndex_df160_9 : decode cJ0_checkIndex_df160 9 = .ok (.return_, 1) := by decide +kernel
theorem dJ1_charAt_3b067_0 : decode cJ1_charAt_3b067 0 = .ok (.iload_n 1, 1) := by decide +kernel
theorem dJ1_charAt_3b067_1 : decode cJ1_charAt_3b067 1 = .ok (.aload_n 0, 1) := by decide +kernel
theorem dJ1_charAt_3b067_2 : decode cJ1_charAt_3b067 2 = .ok (.arraylength, 1) := by decide +kernel
theorem dJ1_charAt_3b067_3 : decode cJ1_charAt_3b067 3 = .ok (.invokestatic 9, 3) := by decide +kernel
theorem dJ1_charAt_3b067_6 : decode cJ1_charAt_3b067 6 = .ok (.aload_n 0, 1) := by decide +kernel
theorem dJ1_charAt_3b067_7 : decode cJ1_charAt_3b067 7 = .ok (.iload_n 1, 1) := by decide +kernel
theorem dJ1_charAt_3b067_8 : decode cJ1_charAt_3b067 8 = .ok (.baload, 1) := by decide +kernel
theorem dJ1_charAt_3b067_9 : decode cJ1_charAt_3b067 9 = .ok (.sipush 255, 3) := by decide +kernel
theorem dJ1_charAt_3b067_12 : decode cJ1_charAt_3b067 12 = .ok (.iand, 1) := by decide +kernel
theorem dJ1_charAt_3b067_13 : decode cJ1_charAt_3b067 13 = .ok (.i2c, 1) := by decide +kernel
theorem dJ1_charAt_3b067_14 : decode cJ1_charAt_3b067 14 = .ok (.ireturn, 1) := by decide +kernel
theorem dJ2_getChar_3b067_0 : decode cJ2_getChar_3b067 0 = .ok (.getstatic 44, 3) := by decide +kernel
theorem dJ2_getChar_3b067_3 : decode cJ2_getChar_3b067 3 = .ok (.ifCond .ne 25, 3) := by decide +kernel
theorem dJ2_getChar_3b067_6 : decode cJ2_getChar_3b067 6 = .ok (.iload_n 1, 1) := by decide +kernel
theorem dJ2_getChar_3b067_7 : decode cJ2_getChar_3b067 7 = .ok (.ifCond .lt 11, 3) := by decide +kernel
theorem dJ2_getChar_3b067_10 : decode cJ2_getChar_3b067 10 = .ok (.iload_n 1, 1) := by decide +kernel
theorem dJ2_getChar_3b067_11 : decode cJ2_getChar_3b067 11 = .ok (.aload_n 0, 1) := by decide +kernel
theorem dJ2_getChar_3b067_12 : decode cJ2_getChar_3b067 12 = .ok (.invokestatic 48, 3) := by decide +kernel
theorem dJ2_getChar_3b067_15 : decode cJ2_getChar_3b067 15 = .ok (.if_icmp .lt 13, 3) := by decide +kernel
theorem dJ2_getChar_3b067_18 : decode cJ2_getChar_3b067 18 = .ok (.new 52, 3) := by decide +kernel
theorem dJ2_getChar_3b067_21 : decode cJ2_getChar_3b067 21 = .ok (.dup, 1) := by decide +kernel
theorem dJ2_getChar_3b067_22 : decode cJ2_getChar_3b067 22 = .ok (.ldc 54, 2) := by decide +kernel
theorem dJ2_getChar_3b067_24 : decode cJ2_getChar_3b067 24 = .ok (.invokespecial 56, 3) := by decide +kernel
theorem dJ2_getChar_3b067_27 : decode cJ2_getChar_3b067 27 = .ok (.athrow, 1) := by decide +kernel
theorem dJ2_getChar_3b067_28 : decode cJ2_getChar_3b067 28 = .ok (.iload_n 1, 1) := by decide +kernel
theorem dJ2_getChar_3b067_29 : decode cJ2_getChar_3b067 29 = .ok (.iconst 1, 1) := by decide +kernel
theorem dJ2_getChar_3b067_30 : decode cJ2_getChar_3b067 30 = .ok (.ishl, 1) := by decide +kernel
theorem dJ2_getChar_3b067_31 : decode cJ2_getChar_3b067 31 = .ok (.istore_n 1, 1) := by decide +kernel
theorem dJ2_getChar_3b067_32 : decode cJ2_getChar_3b067 32 = .ok (.aload_n 0, 1) := by decide +kernel
theorem dJ2_getChar_3b067_33 : decode cJ2_getChar_3b067 33 = .ok (.iload_n 1, 1) := by decide +kernel
theorem dJ2_getChar_3b067_34 : decode cJ2_getChar_3b067 34 = .ok (.iinc 1 1, 3) := by decide +kernel
theorem dJ2_getChar_3b067_37 : decode cJ2_getChar_3b067 37 = .ok (.baload, 1) := by decide +kernel
theorem dJ2_getChar_3b067_38 : decode cJ2_getChar_3b067 38 = .ok (.sipush 255, 3) := by decide +kernel
theorem dJ2_getChar_3b067_41 : decode cJ2_getChar_3b067 41 = .ok (.iand, 1) := by decide +kernel
theorem dJ2_getChar_3b067_42 : decode cJ2_getChar_3b067 42 = .ok (.getstatic 59, 3) := by decide +kernel
theorem dJ2_getChar_3b067_45 : decode cJ2_getChar_3b067 45 = .ok (.ishl, 1) := by decide +kernel
theorem dJ2_getChar_3b067_46 : decode cJ2_getChar_3b067 46 = .ok (.aload_n 0, 1) := by decide +kernel
theorem dJ2_getChar_3b067_47 : decode cJ2_getChar_3b067 47 = .ok (.iload_n 1, 1) := by decide +kernel
theorem dJ2_getChar_3b067_48 : decode cJ2_getChar_3b067 48 = .ok (.baload, 1) := by decide +kernel
theorem dJ2_getChar_3b067_49 : decode cJ2_getChar_3b067 49 = .ok (.sipush 255, 3) := by decide +kernel
theorem dJ2_getChar_3b067_52 : decode cJ2_getChar_3b067 52 = .ok (.iand, 1) := by decide +kernel
theorem dJ2_getChar_3b067_53 : decode cJ2_getChar_3b067 53 = .ok (.getstatic 63, 3) := by decide +kernel
theorem dJ2_getChar_3b067_56 : decode cJ2_getChar_3b067 56 = .ok (.ishl, 1) := by decide +kernel
theorem dJ2_getChar_3b067_57 : decode cJ2_getChar_3b067 57 = .ok (.ior, 1) := by decide +kernel
theorem dJ2_getChar_3b067_58 : decode cJ2_getChar_3b067 58 = .ok (.i2c, 1) := by decide +kernel
theorem dJ2_getChar_3b067_59 : decode cJ2_getChar_3b067 59 = .ok (.ireturn, 1) := by decide +kernel
theorem dJ2_length_9d52b_0 : decode cJ2_length_9d52b 0 = .ok (.aload_n 0, 1) := by decide +kernel
theorem dJ2_length_9d52b_1 : decode cJ2_length_9d52b 1 = .ok (.arraylength, 1) := by decide +kernel
theorem dJ2_length_9d52b_2 : decode cJ2_length_9d52b 2 = .ok (.iconst 1, 1) := by decide +kernel
theorem dJ2_length_9d52b_3 : decode cJ2_length_9d52b 3 = .ok (.ishr, 1) := by decide +kernel
theorem dJ2_length_9d52b_4 : decode cJ2_length_9d52b 4 = .ok (.ireturn, 1) := by decide +kernel
theorem dJ2_charAt_3b067_0 : decode cJ2_charAt_3b067 0 = .ok (.iload_n 1, 1) := by decide +kernel
theorem dJ2_charAt_3b067_1 : decode cJ2_charAt_3b067 1 = .ok (.aload_n 0, 1) := by decide +kernel
theorem dJ2_charAt_3b067_2 : decode cJ2_charAt_3b067 2 = .ok (.invokestatic 67, 3) := by decide +kernel
theorem dJ2_charAt_3b067_5 : decode cJ2_charAt_3b067 5 = .ok (.aload_n 0, 1) := by decide +kernel
theorem dJ2_charAt_3b067_6 : decode cJ2_charAt_3b067 6 = .ok (.iload_n 1, 1) := by decide +kernel
theorem dJ2_charAt_3b067_7 : decode cJ2_charAt_3b067 7 = .ok (.invokestatic 71, 3) := by decide +kernel
theorem dJ2_charAt_3b067_10 : decode cJ2_charAt_3b067 10 = .ok (.ireturn, 1) := by decide +kernel
theorem dJ2_checkIndex_2214a_0 : decode cJ2_checkIndex_2214a 0 = .ok (.iload_n 0, 1) := by decide +kernel
theorem dJ2_checkIndex_2214a_1 : decode cJ2_checkIndex_2214a 1 = .ok (.aload_n 1, 1) := by decide +kernel
theorem dJ2_checkIndex_2214a_2 : decode cJ2_checkIndex_2214a 2 = .ok (.invokestatic 48, 3) := by decide +kernel
theorem dJ2_checkIndex_2214a_5 : decode cJ2_checkIndex_2214a 5 = .ok (.invokestatic 414, 3) := by decide +kernel
theorem dJ2_checkIndex_2214a_8 : decode cJ2_checkIndex_2214a 8 = .ok (.return_, 1) := by decide +kernel
theorem dJ3_checkIndex_8e157_0 : decode cJ3_checkIndex_8e157 0 = .ok (.iload_n 0, 1) := by decide +kernel
theorem dJ3_checkIndex_8e157_1 : decode cJ3_checkIndex_8e157 1 = .ok (.ifCond .lt 8, 3) := by decide +kernel
theorem dJ3_checkIndex_8e157_4 : decode cJ3_checkIndex_8e157 4 = .ok (.iload_n 0, 1) := by decide +kernel
theorem dJ3_checkIndex_8e157_5 : decode cJ3_checkIndex_8e157 5 = .ok (.iload_n 1, 1) := by decide +kernel
theorem dJ3_checkIndex_8e157_6 : decode cJ3_checkIndex_8e157 6 = .ok (.if_icmp .lt 10, 3) := by decide +kernel
theorem dJ3_checkIndex_8e157_9 : decode cJ3_checkIndex_8e157 9 = .ok (.aload_n 2, 1) := by decide +kernel
theorem dJ3_checkIndex_8e157_10 : decode cJ3_checkIndex_8e157 10 = .ok (.iload_n 0, 1) := by decide +kernel
theorem dJ3_checkIndex_8e157_11 : decode cJ3_checkIndex_8e157 11 = .ok (.iload_n 1, 1) := by decide +kernel
theorem dJ3_checkIndex_8e157_12 : decode cJ3_checkIndex_8e157 12 = .ok (.invokestatic 95, 3) := by decide +kernel
theorem dJ3_checkIndex_8e157_15 : decode cJ3_checkIndex_8e157 15 = .ok (.athrow, 1) := by decide +kernel
theorem dJ3_checkIndex_8e157_16 : decode cJ3_checkIndex_8e157 16 = .ok (.iload_n 0, 1) := by decide +kernel
theorem dJ3_checkIndex_8e157_17 : decode cJ3_checkIndex_8e157 17 = .ok (.ireturn, 1) := by decide +kernel
theorem dL_law_0 : decode cL_law 0 = .ok (.new 7, 3) := by decide +kernel
theorem dL_law_3 : decode cL_law 3 = .ok (.dup, 1) := by decide +kernel
theorem dL_law_4 : decode cL_law 4 = .ok (.invokespecial 9, 3) := by decide +kernel
theorem dL_law_7 : decode cL_law 7 = .ok (.astore_n 1, 1) := by decide +kernel
theorem dL_law_8 : decode cL_law 8 = .ok (.new 10, 3) := by decide +kernel
theorem dL_law_11 : decode cL_law 11 = .ok (.dup, 1) := by decide +kernel
theorem dL_law_12 : decode cL_law 12 = .ok (.invokespecial 12, 3) := by decide +kernel
theorem dL_law_15 : decode cL_law 15 = .ok (.astore_n 2, 1) := by decide +kernel
theorem dL_law_16 : decode cL_law 16 = .ok (.iconst 0, 1) := by decide +kernel
theorem dL_law_17 : decode cL_law 17 = .ok (.istore_n 3, 1) := by decide +kernel
theorem dL_law_18 : decode cL_law 18 = .ok (.iload_n 3, 1) := by decide +kernel
theorem dL_law_19 : decode cL_law 19 = .ok (.aload_n 0, 1) := by decide +kernel
theorem dL_law_20 : decode cL_law 20 = .ok (.arraylength, 1) := by decide +kernel
theorem dL_law_21 : decode cL_law 21 = .ok (.iconst 5, 1) := by decide +kernel
theorem dL_law_22 : decode cL_law 22 = .ok (.isub, 1) := by decide +kernel
theorem dL_law_23 : decode cL_law 23 = .ok (.if_icmp .gt 1328, 3) := by decide +kernel
theorem dL_law_26 : decode cL_law 26 = .ok (.aload_n 0, 1) := by decide +kernel
theorem dL_law_27 : decode cL_law 27 = .ok (.iload_n 3, 1) := by decide +kernel
theorem dL_law_28 : decode cL_law 28 = .ok (.iaload, 1) := by decide +kernel
theorem dL_law_29 : decode cL_law 29 = .ok (.bipush 63, 2) := by decide +kernel
theorem dL_law_31 : decode cL_law 31 = .ok (.iand, 1) := by decide +kernel
theorem dL_law_32 : decode cL_law 32 = .ok (.tableswitch 1313 0 40 #[180, 203, 226, 239, 252, 275, 308, 331, 354, 377, 400, 423, 482, 541, 574, 597, 620, 643, 666, 689, 722, 745, 768, 781, 804, 827, 850, 884, 907, 920, 954, 1003, 1026, 1049, 1092, 1115, 1138, 1181, 1224, 1277, 1290], 180) := by decide +kernel
theorem dL_law_212 : decode cL_law 212 = .ok (.aload_n 1, 1) := by decide +kernel
theorem dL_law_213 : decode cL_law 213 = .ok (.aload_n 0, 1) := by decide +kernel
theorem dL_law_214 : decode cL_law 214 = .ok (.iload_n 3, 1) := by decide +kernel
theorem dL_law_215 : decode cL_law 215 = .ok (.iconst 1, 1) := by decide +kernel
theorem dL_law_216 : decode cL_law 216 = .ok (.iadd, 1) := by decide +kernel
theorem dL_law_217 : decode cL_law 217 = .ok (.iaload, 1) := by decide +kernel
theorem dL_law_218 : decode cL_law 218 = .ok (.invokevirtual 13, 3) := by decide +kernel
theorem dL_law_221 : decode cL_law 221 = .ok (.aload_n 2, 1) := by decide +kernel
theorem dL_law_222 : decode cL_law 222 = .ok (.aload_n 0, 1) := by decide +kernel
theorem dL_law_223 : decode cL_law 223 = .ok (.iload_n 3, 1) := by decide +kernel
theorem dL_law_224 : decode cL_law 224 = .ok (.iconst 1, 1) := by decide +kernel
theorem dL_law_225 : decode cL_law 225 = .ok (.iadd, 1) := by decide +kernel
theorem dL_law_226 : decode cL_law 226 = .ok (.iaload, 1) := by decide +kernel
theorem dL_law_227 : decode cL_law 227 = .ok (.invokevirtual 17, 3) := by decide +kernel
theorem dL_law_230 : decode cL_law 230 = .ok (.if_icmp .eq 1115, 3) := by decide +kernel
theorem dL_law_233 : decode cL_law 233 = .ok (.iconst 0, 1) := by decide +kernel
theorem dL_law_234 : decode cL_law 234 = .ok (.ireturn, 1) := by decide +kernel
theorem dL_law_235 : decode cL_law 235 = .ok (.aload_n 1, 1) := by decide +kernel
theorem dL_law_236 : decode cL_law 236 = .ok (.aload_n 0, 1) := by decide +kernel
theorem dL_law_237 : decode cL_law 237 = .ok (.iload_n 3, 1) := by decide +kernel
theorem dL_law_238 : decode cL_law 238 = .ok (.iconst 1, 1) := by decide +kernel
theorem dL_law_239 : decode cL_law 239 = .ok (.iadd, 1) := by decide +kernel
theorem dL_law_240 : decode cL_law 240 = .ok (.iaload, 1) := by decide +kernel
theorem dL_law_241 : decode cL_law 241 = .ok (.invokevirtual 18, 3) := by decide +kernel
theorem dL_law_244 : decode cL_law 244 = .ok (.aload_n 2, 1) := by decide +kernel
theorem dL_law_245 : decode cL_law 245 = .ok (.aload_n 0, 1) := by decide +kernel
theorem dL_law_246 : decode cL_law 246 = .ok (.iload_n 3, 1) := by decide +kernel
theorem dL_law_247 : decode cL_law 247 = .ok (.iconst 1, 1) := by decide +kernel
theorem dL_law_248 : decode cL_law 248 = .ok (.iadd, 1) := by decide +kernel
theorem dL_law_249 : decode cL_law 249 = .ok (.iaload, 1) := by decide +kernel
theorem dL_law_250 : decode cL_law 250 = .ok (.invokevirtual 21, 3) := by decide +kernel
theorem dL_law_253 : decode cL_law 253 = .ok (.if_icmp .eq 1092, 3) := by decide +kernel
theorem dL_law_256 : decode cL_law 256 = .ok (.iconst 0, 1) := by decide +kernel
theorem dL_law_257 : decode cL_law 257 = .ok (.ireturn, 1) := by decide +kernel
theorem dL_law_258 : decode cL_law 258 = .ok (.aload_n 1, 1) := by decide +kernel
theorem dL_law_259 : decode cL_law 259 = .ok (.invokevirtual 22, 3) := by decide +kernel
theorem dL_law_262 : decode cL_law 262 = .ok (.aload_n 2, 1) := by decide +kernel
theorem dL_law_263 : decode cL_law 263 = .ok (.invokevirtual 26, 3) := by decide +kernel
theorem dL_law_266 : decode cL_law 266 = .ok (.if_icmp .eq 1079, 3) := by decide +kernel
theorem dL_law_269 : decode cL_law 269 = .ok (.iconst 0, 1) := by decide +kernel
theorem dL_law_270 : decode cL_law 270 = .ok (.ireturn, 1) := by decide +kernel
theorem dL_law_271 : decode cL_law 271 = .ok (.aload_n 1, 1) := by decide +kernel
theorem dL_law_272 : decode cL_law 272 = .ok (.invokevirtual 27, 3) := by decide +kernel
theorem dL_law_275 : decode cL_law 275 = .ok (.aload_n 2, 1) := by decide +kernel
theorem dL_law_276 : decode cL_law 276 = .ok (.invokevirtual 30, 3) := by decide +kernel
theorem dL_law_279 : decode cL_law 279 = .ok (.if_icmp .eq 1066, 3) := by decide +kernel
theorem dL_law_282 : decode cL_law 282 = .ok (.iconst 0, 1) := by decide +kernel
theorem dL_law_283 : decode cL_law 283 = .ok (.ireturn, 1) := by decide +kernel
theorem dL_law_284 : decode cL_law 284 = .ok (.aload_n 1, 1) := by decide +kernel
theorem dL_law_285 : decode cL_law 285 = .ok (.aload_n 0, 1) := by decide +kernel
theorem dL_law_286 : decode cL_law 286 = .ok (.iload_n 3, 1) := by decide +kernel
theorem dL_law_287 : decode cL_law 287 = .ok (.iconst 1, 1) := by decide +kernel
theorem dL_law_288 : decode cL_law 288 = .ok (.iadd, 1) := by decide +kernel
theorem dL_law_289 : decode cL_law 289 = .ok (.iaload, 1) := by decide +kernel
theorem dL_law_290 : decode cL_law 290 = .ok (.invokevirtual 31, 3) := by decide +kernel
theorem dL_law_293 : decode cL_law 293 = .ok (.aload_n 2, 1) := by decide +kernel
theorem dL_law_294 : decode cL_law 294 = .ok (.aload_n 0, 1) := by decide +kernel
theorem dL_law_295 : decode cL_law 295 = .ok (.iload_n 3, 1) := by decide +kernel
theorem dL_law_296 : decode cL_law 296 = .ok (.iconst 1, 1) := by decide +kernel
theorem dL_law_297 : decode cL_law 297 = .ok (.iadd, 1) := by decide +kernel
theorem dL_law_298 : decode cL_law 298 = .ok (.iaload, 1) := by decide +kernel
theorem dL_law_299 : decode cL_law 299 = .ok (.invokevirtual 34, 3) := by decide +kernel
theorem dL_law_302 : decode cL_law 302 = .ok (.if_icmp .eq 1043, 3) := by decide +kernel
theorem dL_law_305 : decode cL_law 305 = .ok (.iconst 0, 1) := by decide +kernel
theorem dL_law_306 : decode cL_law 306 = .ok (.ireturn, 1) := by decide +kernel
theorem dL_law_307 : decode cL_law 307 = .ok (.aload_n 1, 1) := by decide +kernel
theorem dL_law_308 : decode cL_law 308 = .ok (.aload_n 0, 1) := by decide +kernel
theorem dL_law_309 : decode cL_law 309 = .ok (.iload_n 3, 1) := by decide +kernel
theorem dL_law_310 : decode cL_law 310 = .ok (.iconst 1, 1) := by decide +kernel
theorem dL_law_311 : decode cL_law 311 = .ok (.iadd, 1) := by decide +kernel
theorem dL_law_312 : decode cL_law 312 = .ok (.iaload, 1) := by decide +kernel
theorem dL_law_313 : decode cL_law 313 = .ok (.aload_n 0, 1) := by decide +kernel
theorem dL_law_314 : decode cL_law 314 = .ok (.iload_n 3, 1) := by decide +kernel
theorem dL_law_315 : decode cL_law 315 = .ok (.iconst 2, 1) := by decide +kernel
theorem dL_law_316 : decode cL_law 316 = .ok (.iadd, 1) := by decide +kernel
theorem dL_law_317 : decode cL_law 317 = .ok (.iaload, 1) := by decide +kernel
theorem dL_law_318 : decode cL_law 318 = .ok (.invokevirtual 35, 3) := by decide +kernel
theorem dL_law_321 : decode cL_law 321 = .ok (.aload_n 2, 1) := by decide +kernel
theorem dL_law_322 : decode cL_law 322 = .ok (.aload_n 0, 1) := by decide +kernel
theorem dL_law_323 : decode cL_law 323 = .ok (.iload_n 3, 1) := by decide +kernel
theorem dL_law_324 : decode cL_law 324 = .ok (.iconst 1, 1) := by decide +kernel
theorem dL_law_325 : decode cL_law 325 = .ok (.iadd, 1) := by decide +kernel
theorem dL_law_326 : decode cL_law 326 = .ok (.iaload, 1) := by decide +kernel
theorem dL_law_327 : decode cL_law 327 = .ok (.aload_n 0, 1) := by decide +kernel
theorem dL_law_328 : decode cL_law 328 = .ok (.iload_n 3, 1) := by decide +kernel
theorem dL_law_329 : decode cL_law 329 = .ok (.iconst 2, 1) := by decide +kernel
theorem dL_law_330 : decode cL_law 330 = .ok (.iadd, 1) := by decide +kernel
theorem dL_law_331 : decode cL_law 331 = .ok (.iaload, 1) := by decide +kernel
theorem dL_law_332 : decode cL_law 332 = .ok (.invokevirtual 39, 3) := by decide +kernel
theorem dL_law_335 : decode cL_law 335 = .ok (.if_icmp .eq 1010, 3) := by decide +kernel
theorem dL_law_338 : decode cL_law 338 = .ok (.iconst 0, 1) := by decide +kernel
theorem dL_law_339 : decode cL_law 339 = .ok (.ireturn, 1) := by decide +kernel
theorem dL_law_340 : decode cL_law 340 = .ok (.aload_n 1, 1) := by decide +kernel
theorem dL_law_341 : decode cL_law 341 = .ok (.aload_n 0, 1) := by decide +kernel
theorem dL_law_342 : decode cL_law 342 = .ok (.iload_n 3, 1) := by decide +kernel
theorem dL_law_343 : decode cL_law 343 = .ok (.iconst 1, 1) := by decide +kernel
theorem dL_law_344 : decode cL_law 344 = .ok (.iadd, 1) := by decide +kernel
theorem dL_law_345 : decode cL_law 345 = .ok (.iaload, 1) := by decide +kernel
theorem dL_law_346 : decode cL_law 346 = .ok (.invokevirtual 40, 3) := by decide +kernel
theorem dL_law_349 : decode cL_law 349 = .ok (.aload_n 2, 1) := by decide +kernel
theorem dL_law_350 : decode cL_law 350 = .ok (.aload_n 0, 1) := by decide +kernel
theorem dL_law_351 : decode cL_law 351 = .ok (.iload_n 3, 1) := by decide +kernel
theorem dL_law_352 : decode cL_law 352 = .ok (.iconst 1, 1) := by decide +kernel
theorem dL_law_353 : decode cL_law 353 = .ok (.iadd, 1) := by decide +kernel
theorem dL_law_354 : decode cL_law 354 = .ok (.iaload, 1) := by decide +kernel
theorem dL_law_355 : decode cL_law 355 = .ok (.invokevirtual 43, 3) := by decide +kernel
theorem dL_law_358 : decode cL_law 358 = .ok (.if_icmp .eq 987, 3) := by decide +kernel
theorem dL_law_361 : decode cL_law 361 = .ok (.iconst 0, 1) := by decide +kernel
theorem dL_law_362 : decode cL_law 362 = .ok (.ireturn, 1) := by decide +kernel
theorem dL_law_363 : decode cL_law 363 = .ok (.aload_n 1, 1) := by decide +kernel
theorem dL_law_364 : decode cL_law 364 = .ok (.aload_n 0, 1) := by decide +kernel
theorem dL_law_365 : decode cL_law 365 = .ok (.iload_n 3, 1) := by decide +kernel
theorem dL_law_366 : decode cL_law 366 = .ok (.iconst 1, 1) := by decide +kernel
theorem dL_law_367 : decode cL_law 367 = .ok (.iadd, 1) := by decide +kernel
theorem dL_law_368 : decode cL_law 368 = .ok (.iaload, 1) := by decide +kernel
theorem dL_law_369 : decode cL_law 369 = .ok (.invokevirtual 44, 3) := by decide +kernel
theorem dL_law_372 : decode cL_law 372 = .ok (.aload_n 2, 1) := by decide +kernel
theorem dL_law_373 : decode cL_law 373 = .ok (.aload_n 0, 1) := by decide +kernel
theorem dL_law_374 : decode cL_law 374 = .ok (.iload_n 3, 1) := by decide +kernel
theorem dL_law_375 : decode cL_law 375 = .ok (.iconst 1, 1) := by decide +kernel
theorem dL_law_376 : decode cL_law 376 = .ok (.iadd, 1) := by decide +kernel
theorem dL_law_377 : decode cL_law 377 = .ok (.iaload, 1) := by decide +kernel
theorem dL_law_378 : decode cL_law 378 = .ok (.invokevirtual 47, 3) := by decide +kernel
theorem dL_law_381 : decode cL_law 381 = .ok (.if_icmp .eq 964, 3) := by decide +kernel
theorem dL_law_384 : decode cL_law 384 = .ok (.iconst 0, 1) := by decide +kernel
theorem dL_law_385 : decode cL_law 385 = .ok (.ireturn, 1) := by decide +kernel
theorem dL_law_386 : decode cL_law 386 = .ok (.aload_n 1, 1) := by decide +kernel
theorem dL_law_387 : decode cL_law 387 = .ok (.aload_n 0, 1) := by decide +kernel
theorem dL_law_388 : decode cL_law 388 = .ok (.iload_n 3, 1) := by decide +kernel
theorem dL_law_389 : decode cL_law 389 = .ok (.iconst 1, 1) := by decide +kernel
theorem dL_law_390 : decode cL_law 390 = .ok (.iadd, 1) := by decide +kernel
theorem dL_law_391 : decode cL_law 391 = .ok (.iaload, 1) := by decide +kernel
theorem dL_law_392 : decode cL_law 392 = .ok (.invokevirtual 48, 3) := by decide +kernel
theorem dL_law_395 : decode cL_law 395 = .ok (.aload_n 2, 1) := by decide +kernel
theorem dL_law_396 : decode cL_law 396 = .ok (.aload_n 0, 1) := by decide +kernel
theorem dL_law_397 : decode cL_law 397 = .ok (.iload_n 3, 1) := by decide +kernel
theorem dL_law_398 : decode cL_law 398 = .ok (.iconst 1, 1) := by decide +kernel
theorem dL_law_399 : decode cL_law 399 = .ok (.iadd, 1) := by decide +kernel
theorem dL_law_400 : decode cL_law 400 = .ok (.iaload, 1) := by decide +kernel
theorem dL_law_401 : decode cL_law 401 = .ok (.invokevirtual 51, 3) := by decide +kernel
theorem dL_law_404 : decode cL_law 404 = .ok (.if_icmp .eq 941, 3) := by decide +kernel
theorem dL_law_407 : decode cL_law 407 = .ok (.iconst 0, 1) := by decide +kernel
theorem dL_law_408 : decode cL_law 408 = .ok (.ireturn, 1) := by decide +kernel
theorem dL_law_409 : decode cL_law 409 = .ok (.aload_n 1, 1) := by decide +kernel
theorem dL_law_410 : decode cL_law 410 = .ok (.aload_n 0, 1) := by decide +kernel
theorem dL_law_411 : decode cL_law 411 = .ok (.iload_n 3, 1) := by decide +kernel
theorem dL_law_412 : decode cL_law 412 = .ok (.iconst 1, 1) := by decide +kernel
theorem dL_law_413 : decode cL_law 413 = .ok (.iadd, 1) := by decide +kernel
theorem dL_law_414 : decode cL_law 414 = .ok (.iaload, 1) := by decide +kernel
theorem dL_law_415 : decode cL_law 415 = .ok (.invokevirtual 52, 3) := by decide +kernel
theorem dL_law_418 : decode cL_law 418 = .ok (.aload_n 2, 1) := by decide +kernel
theorem dL_law_419 : decode cL_law 419 = .ok (.aload_n 0, 1) := by decide +kernel
theorem dL_law_420 : decode cL_law 420 = .ok (.iload_n 3, 1) := by decide +kernel
theorem dL_law_421 : decode cL_law 421 = .ok (.iconst 1, 1) := by decide +kernel
theorem dL_law_422 : decode cL_law 422 = .ok (.iadd, 1) := by decide +kernel
theorem dL_law_423 : decode cL_law 423 = .ok (.iaload, 1) := by decide +kernel
theorem dL_law_424 : decode cL_law 424 = .ok (.invokevirtual 55, 3) := by decide +kernel
theorem dL_law_427 : decode cL_law 427 = .ok (.if_icmp .eq 918, 3) := by decide +kernel
theorem dL_law_430 : decode cL_law 430 = .ok (.iconst 0, 1) := by decide +kernel
theorem dL_law_431 : decode cL_law 431 = .ok (.ireturn, 1) := by decide +kernel
theorem dL_law_432 : decode cL_law 432 = .ok (.aload_n 1, 1) := by decide +kernel
theorem dL_law_433 : decode cL_law 433 = .ok (.aload_n 0, 1) := by decide +kernel
theorem dL_law_434 : decode cL_law 434 = .ok (.iload_n 3, 1) := by decide +kernel
theorem dL_law_435 : decode cL_law 435 = .ok (.iconst 1, 1) := by decide +kernel
theorem dL_law_436 : decode cL_law 436 = .ok (.iadd, 1) := by decide +kernel
theorem dL_law_437 : decode cL_law 437 = .ok (.iaload, 1) := by decide +kernel
theorem dL_law_438 : decode cL_law 438 = .ok (.invokevirtual 56, 3) := by decide +kernel
theorem dL_law_441 : decode cL_law 441 = .ok (.aload_n 2, 1) := by decide +kernel
theorem dL_law_442 : decode cL_law 442 = .ok (.aload_n 0, 1) := by decide +kernel
theorem dL_law_443 : decode cL_law 443 = .ok (.iload_n 3, 1) := by decide +kernel
theorem dL_law_444 : decode cL_law 444 = .ok (.iconst 1, 1) := by decide +kernel
theorem dL_law_445 : decode cL_law 445 = .ok (.iadd, 1) := by decide +kernel
theorem dL_law_446 : decode cL_law 446 = .ok (.iaload, 1) := by decide +kernel
theorem dL_law_447 : decode cL_law 447 = .ok (.invokevirtual 59, 3) := by decide +kernel
theorem dL_law_450 : decode cL_law 450 = .ok (.if_icmp .eq 895, 3) := by decide +kernel
theorem dL_law_453 : decode cL_law 453 = .ok (.iconst 0, 1) := by decide +kernel
theorem dL_law_454 : decode cL_law 454 = .ok (.ireturn, 1) := by decide +kernel
theorem dL_law_455 : decode cL_law 455 = .ok (.aload_n 1, 1) := by decide +kernel
theorem dL_law_456 : decode cL_law 456 = .ok (.aload_n 0, 1) := by decide +kernel
theorem dL_law_457 : decode cL_law 457 = .ok (.iload_n 3, 1) := by decide +kernel
theorem dL_law_458 : decode cL_law 458 = .ok (.iconst 1, 1) := by decide +kernel
theorem dL_law_459 : decode cL_law 459 = .ok (.iadd, 1) := by decide +kernel
theorem dL_law_460 : decode cL_law 460 = .ok (.iaload, 1) := by decide +kernel
theorem dL_law_461 : decode cL_law 461 = .ok (.aload_n 0, 1) := by decide +kernel
theorem dL_law_462 : decode cL_law 462 = .ok (.iload_n 3, 1) := by decide +kernel
theorem dL_law_463 : decode cL_law 463 = .ok (.iconst 2, 1) := by decide +kernel
theorem dL_law_464 : decode cL_law 464 = .ok (.iadd, 1) := by decide +kernel
theorem dL_law_465 : decode cL_law 465 = .ok (.iaload, 1) := by decide +kernel
theorem dL_law_466 : decode cL_law 466 = .ok (.aload_n 0, 1) := by decide +kernel
theorem dL_law_467 : decode cL_law 467 = .ok (.iload_n 3, 1) := by decide +kernel
theorem dL_law_468 : decode cL_law 468 = .ok (.iconst 3, 1) := by decide +kernel
theorem dL_law_469 : decode cL_law 469 = .ok (.iadd, 1) := by decide +kernel
theorem dL_law_470 : decode cL_law 470 = .ok (.iaload, 1) := by decide +kernel
theorem dL_law_471 : decode cL_law 471 = .ok (.ifCond .eq 7, 3) := by decide +kernel
theorem dL_law_474 : decode cL_law 474 = .ok (.iconst 1, 1) := by decide +kernel
theorem dL_law_475 : decode cL_law 475 = .ok (.goto 4, 3) := by decide +kernel
theorem dL_law_478 : decode cL_law 478 = .ok (.iconst 0, 1) := by decide +kernel
theorem dL_law_479 : decode cL_law 479 = .ok (.invokevirtual 60, 3) := by decide +kernel
theorem dL_law_482 : decode cL_law 482 = .ok (.aload_n 2, 1) := by decide +kernel
theorem dL_law_483 : decode cL_law 483 = .ok (.aload_n 0, 1) := by decide +kernel
theorem dL_law_484 : decode cL_law 484 = .ok (.iload_n 3, 1) := by decide +kernel
theorem dL_law_485 : decode cL_law 485 = .ok (.iconst 1, 1) := by decide +kernel
theorem dL_law_486 : decode cL_law 486 = .ok (.iadd, 1) := by decide +kernel
theorem dL_law_487 : decode cL_law 487 = .ok (.iaload, 1) := by decide +kernel
theorem dL_law_488 : decode cL_law 488 = .ok (.aload_n 0, 1) := by decide +kernel
theorem dL_law_489 : decode cL_law 489 = .ok (.iload_n 3, 1) := by decide +kernel
theorem dL_law_490 : decode cL_law 490 = .ok (.iconst 2, 1) := by decide +kernel
theorem dL_law_491 : decode cL_law 491 = .ok (.iadd, 1) := by decide +kernel
theorem dL_law_492 : decode cL_law 492 = .ok (.iaload, 1) := by decide +kernel
theorem dL_law_493 : decode cL_law 493 = .ok (.aload_n 0, 1) := by decide +kernel
theorem dL_law_494 : decode cL_law 494 = .ok (.iload_n 3, 1) := by decide +kernel
theorem dL_law_495 : decode cL_law 495 = .ok (.iconst 3, 1) := by decide +kernel
theorem dL_law_496 : decode cL_law 496 = .ok (.iadd, 1) := by decide +kernel
theorem dL_law_497 : decode cL_law 497 = .ok (.iaload, 1) := by decide +kernel
theorem dL_law_498 : decode cL_law 498 = .ok (.ifCond .eq 7, 3) := by decide +kernel
theorem dL_law_501 : decode cL_law 501 = .ok (.iconst 1, 1) := by decide +kernel
theorem dL_law_502 : decode cL_law 502 = .ok (.goto 4, 3) := by decide +kernel
theorem dL_law_505 : decode cL_law 505 = .ok (.iconst 0, 1) := by decide +kernel
theorem dL_law_506 : decode cL_law 506 = .ok (.invokevirtual 64, 3) := by decide +kernel
theorem dL_law_509 : decode cL_law 509 = .ok (.if_icmp .eq 836, 3) := by decide +kernel
theorem dL_law_512 : decode cL_law 512 = .ok (.iconst 0, 1) := by decide +kernel
theorem dL_law_513 : decode cL_law 513 = .ok (.ireturn, 1) := by decide +kernel
theorem dL_law_514 : decode cL_law 514 = .ok (.aload_n 1, 1) := by decide +kernel
theorem dL_law_515 : decode cL_law 515 = .ok (.aload_n 0, 1) := by decide +kernel
theorem dL_law_516 : decode cL_law 516 = .ok (.iload_n 3, 1) := by decide +kernel
theorem dL_law_517 : decode cL_law 517 = .ok (.iconst 1, 1) := by decide +kernel
theorem dL_law_518 : decode cL_law 518 = .ok (.iadd, 1) := by decide +kernel
theorem dL_law_519 : decode cL_law 519 = .ok (.iaload, 1) := by decide +kernel
theorem dL_law_520 : decode cL_law 520 = .ok (.aload_n 0, 1) := by decide +kernel
theorem dL_law_521 : decode cL_law 521 = .ok (.iload_n 3, 1) := by decide +kernel
theorem dL_law_522 : decode cL_law 522 = .ok (.iconst 2, 1) := by decide +kernel
theorem dL_law_523 : decode cL_law 523 = .ok (.iadd, 1) := by decide +kernel
theorem dL_law_524 : decode cL_law 524 = .ok (.iaload, 1) := by decide +kernel
theorem dL_law_525 : decode cL_law 525 = .ok (.aload_n 0, 1) := by decide +kernel
theorem dL_law_526 : decode cL_law 526 = .ok (.iload_n 3, 1) := by decide +kernel
theorem dL_law_527 : decode cL_law 527 = .ok (.iconst 3, 1) := by decide +kernel
theorem dL_law_528 : decode cL_law 528 = .ok (.iadd, 1) := by decide +kernel
theorem dL_law_529 : decode cL_law 529 = .ok (.iaload, 1) := by decide +kernel
theorem dL_law_530 : decode cL_law 530 = .ok (.ifCond .eq 7, 3) := by decide +kernel
theorem dL_law_533 : decode cL_law 533 = .ok (.iconst 1, 1) := by decide +kernel
theorem dL_law_534 : decode cL_law 534 = .ok (.goto 4, 3) := by decide +kernel
theorem dL_law_537 : decode cL_law 537 = .ok (.iconst 0, 1) := by decide +kernel
theorem dL_law_538 : decode cL_law 538 = .ok (.invokevirtual 65, 3) := by decide +kernel
theorem dL_law_541 : decode cL_law 541 = .ok (.aload_n 2, 1) := by decide +kernel
theorem dL_law_542 : decode cL_law 542 = .ok (.aload_n 0, 1) := by decide +kernel
theorem dL_law_543 : decode cL_law 543 = .ok (.iload_n 3, 1) := by decide +kernel
theorem dL_law_544 : decode cL_law 544 = .ok (.iconst 1, 1) := by decide +kernel
theorem dL_law_545 : decode cL_law 545 = .ok (.iadd, 1) := by decide +kernel
theorem dL_law_546 : decode cL_law 546 = .ok (.iaload, 1) := by decide +kernel
theorem dL_law_547 : decode cL_law 547 = .ok (.aload_n 0, 1) := by decide +kernel
theorem dL_law_548 : decode cL_law 548 = .ok (.iload_n 3, 1) := by decide +kernel
theorem dL_law_549 : decode cL_law 549 = .ok (.iconst 2, 1) := by decide +kernel
theorem dL_law_550 : decode cL_law 550 = .ok (.iadd, 1) := by decide +kernel
theorem dL_law_551 : decode cL_law 551 = .ok (.iaload, 1) := by decide +kernel
theorem dL_law_552 : decode cL_law 552 = .ok (.aload_n 0, 1) := by decide +kernel
theorem dL_law_553 : decode cL_law 553 = .ok (.iload_n 3, 1) := by decide +kernel
theorem dL_law_554 : decode cL_law 554 = .ok (.iconst 3, 1) := by decide +kernel
theorem dL_law_555 : decode cL_law 555 = .ok (.iadd, 1) := by decide +kernel
theorem dL_law_556 : decode cL_law 556 = .ok (.iaload, 1) := by decide +kernel
theorem dL_law_557 : decode cL_law 557 = .ok (.ifCond .eq 7, 3) := by decide +kernel
theorem dL_law_560 : decode cL_law 560 = .ok (.iconst 1, 1) := by decide +kernel
theorem dL_law_561 : decode cL_law 561 = .ok (.goto 4, 3) := by decide +kernel
theorem dL_law_564 : decode cL_law 564 = .ok (.iconst 0, 1) := by decide +kernel
theorem dL_law_565 : decode cL_law 565 = .ok (.invokevirtual 68, 3) := by decide +kernel
theorem dL_law_568 : decode cL_law 568 = .ok (.if_icmp .eq 777, 3) := by decide +kernel
theorem dL_law_571 : decode cL_law 571 = .ok (.iconst 0, 1) := by decide +kernel
theorem dL_law_572 : decode cL_law 572 = .ok (.ireturn, 1) := by decide +kernel
theorem dL_law_573 : decode cL_law 573 = .ok (.aload_n 1, 1) := by decide +kernel
theorem dL_law_574 : decode cL_law 574 = .ok (.aload_n 0, 1) := by decide +kernel
theorem dL_law_575 : decode cL_law 575 = .ok (.iload_n 3, 1) := by decide +kernel
theorem dL_law_576 : decode cL_law 576 = .ok (.iconst 1, 1) := by decide +kernel
theorem dL_law_577 : decode cL_law 577 = .ok (.iadd, 1) := by decide +kernel
theorem dL_law_578 : decode cL_law 578 = .ok (.iaload, 1) := by decide +kernel
theorem dL_law_579 : decode cL_law 579 = .ok (.aload_n 0, 1) := by decide +kernel
theorem dL_law_580 : decode cL_law 580 = .ok (.iload_n 3, 1) := by decide +kernel
theorem dL_law_581 : decode cL_law 581 = .ok (.iconst 2, 1) := by decide +kernel
theorem dL_law_582 : decode cL_law 582 = .ok (.iadd, 1) := by decide +kernel
theorem dL_law_583 : decode cL_law 583 = .ok (.iaload, 1) := by decide +kernel
theorem dL_law_584 : decode cL_law 584 = .ok (.invokevirtual 69, 3) := by decide +kernel
theorem dL_law_587 : decode cL_law 587 = .ok (.aload_n 2, 1) := by decide +kernel
theorem dL_law_588 : decode cL_law 588 = .ok (.aload_n 0, 1) := by decide +kernel
theorem dL_law_589 : decode cL_law 589 = .ok (.iload_n 3, 1) := by decide +kernel
theorem dL_law_590 : decode cL_law 590 = .ok (.iconst 1, 1) := by decide +kernel
theorem dL_law_591 : decode cL_law 591 = .ok (.iadd, 1) := by decide +kernel
theorem dL_law_592 : decode cL_law 592 = .ok (.iaload, 1) := by decide +kernel
theorem dL_law_593 : decode cL_law 593 = .ok (.aload_n 0, 1) := by decide +kernel
theorem dL_law_594 : decode cL_law 594 = .ok (.iload_n 3, 1) := by decide +kernel
theorem dL_law_595 : decode cL_law 595 = .ok (.iconst 2, 1) := by decide +kernel
theorem dL_law_596 : decode cL_law 596 = .ok (.iadd, 1) := by decide +kernel
theorem dL_law_597 : decode cL_law 597 = .ok (.iaload, 1) := by decide +kernel
theorem dL_law_598 : decode cL_law 598 = .ok (.invokevirtual 72, 3) := by decide +kernel
theorem dL_law_601 : decode cL_law 601 = .ok (.if_icmp .eq 744, 3) := by decide +kernel
theorem dL_law_604 : decode cL_law 604 = .ok (.iconst 0, 1) := by decide +kernel
theorem dL_law_605 : decode cL_law 605 = .ok (.ireturn, 1) := by decide +kernel
theorem dL_law_606 : decode cL_law 606 = .ok (.aload_n 1, 1) := by decide +kernel
theorem dL_law_607 : decode cL_law 607 = .ok (.aload_n 0, 1) := by decide +kernel
theorem dL_law_608 : decode cL_law 608 = .ok (.iload_n 3, 1) := by decide +kernel
theorem dL_law_609 : decode cL_law 609 = .ok (.iconst 1, 1) := by decide +kernel
theorem dL_law_610 : decode cL_law 610 = .ok (.iadd, 1) := by decide +kernel
theorem dL_law_611 : decode cL_law 611 = .ok (.iaload, 1) := by decide +kernel
theorem dL_law_612 : decode cL_law 612 = .ok (.invokevirtual 73, 3) := by decide +kernel
theorem dL_law_615 : decode cL_law 615 = .ok (.aload_n 2, 1) := by decide +kernel
theorem dL_law_616 : decode cL_law 616 = .ok (.aload_n 0, 1) := by decide +kernel
theorem dL_law_617 : decode cL_law 617 = .ok (.iload_n 3, 1) := by decide +kernel
theorem dL_law_618 : decode cL_law 618 = .ok (.iconst 1, 1) := by decide +kernel
theorem dL_law_619 : decode cL_law 619 = .ok (.iadd, 1) := by decide +kernel
theorem dL_law_620 : decode cL_law 620 = .ok (.iaload, 1) := by decide +kernel
theorem dL_law_621 : decode cL_law 621 = .ok (.invokevirtual 76, 3) := by decide +kernel
theorem dL_law_624 : decode cL_law 624 = .ok (.if_icmp .eq 721, 3) := by decide +kernel
theorem dL_law_627 : decode cL_law 627 = .ok (.iconst 0, 1) := by decide +kernel
theorem dL_law_628 : decode cL_law 628 = .ok (.ireturn, 1) := by decide +kernel
theorem dL_law_629 : decode cL_law 629 = .ok (.aload_n 1, 1) := by decide +kernel
theorem dL_law_630 : decode cL_law 630 = .ok (.aload_n 0, 1) := by decide +kernel
theorem dL_law_631 : decode cL_law 631 = .ok (.iload_n 3, 1) := by decide +kernel
theorem dL_law_632 : decode cL_law 632 = .ok (.iconst 1, 1) := by decide +kernel
theorem dL_law_633 : decode cL_law 633 = .ok (.iadd, 1) := by decide +kernel
theorem dL_law_634 : decode cL_law 634 = .ok (.iaload, 1) := by decide +kernel
theorem dL_law_635 : decode cL_law 635 = .ok (.invokevirtual 77, 3) := by decide +kernel
theorem dL_law_638 : decode cL_law 638 = .ok (.aload_n 2, 1) := by decide +kernel
theorem dL_law_639 : decode cL_law 639 = .ok (.aload_n 0, 1) := by decide +kernel
theorem dL_law_640 : decode cL_law 640 = .ok (.iload_n 3, 1) := by decide +kernel
theorem dL_law_641 : decode cL_law 641 = .ok (.iconst 1, 1) := by decide +kernel
theorem dL_law_642 : decode cL_law 642 = .ok (.iadd, 1) := by decide +kernel
theorem dL_law_643 : decode cL_law 643 = .ok (.iaload, 1) := by decide +kernel
theorem dL_law_644 : decode cL_law 644 = .ok (.invokevirtual 80, 3) := by decide +kernel
theorem dL_law_647 : decode cL_law 647 = .ok (.if_icmp .eq 698, 3) := by decide +kernel
theorem dL_law_650 : decode cL_law 650 = .ok (.iconst 0, 1) := by decide +kernel
theorem dL_law_651 : decode cL_law 651 = .ok (.ireturn, 1) := by decide +kernel
theorem dL_law_652 : decode cL_law 652 = .ok (.aload_n 1, 1) := by decide +kernel
theorem dL_law_653 : decode cL_law 653 = .ok (.aload_n 0, 1) := by decide +kernel
theorem dL_law_654 : decode cL_law 654 = .ok (.iload_n 3, 1) := by decide +kernel
theorem dL_law_655 : decode cL_law 655 = .ok (.iconst 1, 1) := by decide +kernel
theorem dL_law_656 : decode cL_law 656 = .ok (.iadd, 1) := by decide +kernel
theorem dL_law_657 : decode cL_law 657 = .ok (.iaload, 1) := by decide +kernel
theorem dL_law_658 : decode cL_law 658 = .ok (.invokevirtual 81, 3) := by decide +kernel
theorem dL_law_661 : decode cL_law 661 = .ok (.aload_n 2, 1) := by decide +kernel
theorem dL_law_662 : decode cL_law 662 = .ok (.aload_n 0, 1) := by decide +kernel
theorem dL_law_663 : decode cL_law 663 = .ok (.iload_n 3, 1) := by decide +kernel
theorem dL_law_664 : decode cL_law 664 = .ok (.iconst 1, 1) := by decide +kernel
theorem dL_law_665 : decode cL_law 665 = .ok (.iadd, 1) := by decide +kernel
theorem dL_law_666 : decode cL_law 666 = .ok (.iaload, 1) := by decide +kernel
theorem dL_law_667 : decode cL_law 667 = .ok (.invokevirtual 84, 3) := by decide +kernel
theorem dL_law_670 : decode cL_law 670 = .ok (.if_icmp .eq 675, 3) := by decide +kernel
theorem dL_law_673 : decode cL_law 673 = .ok (.iconst 0, 1) := by decide +kernel
theorem dL_law_674 : decode cL_law 674 = .ok (.ireturn, 1) := by decide +kernel
theorem dL_law_675 : decode cL_law 675 = .ok (.aload_n 1, 1) := by decide +kernel
theorem dL_law_676 : decode cL_law 676 = .ok (.aload_n 0, 1) := by decide +kernel
theorem dL_law_677 : decode cL_law 677 = .ok (.iload_n 3, 1) := by decide +kernel
theorem dL_law_678 : decode cL_law 678 = .ok (.iconst 1, 1) := by decide +kernel
theorem dL_law_679 : decode cL_law 679 = .ok (.iadd, 1) := by decide +kernel
theorem dL_law_680 : decode cL_law 680 = .ok (.iaload, 1) := by decide +kernel
theorem dL_law_681 : decode cL_law 681 = .ok (.invokevirtual 85, 3) := by decide +kernel
theorem dL_law_684 : decode cL_law 684 = .ok (.aload_n 2, 1) := by decide +kernel
theorem dL_law_685 : decode cL_law 685 = .ok (.aload_n 0, 1) := by decide +kernel
theorem dL_law_686 : decode cL_law 686 = .ok (.iload_n 3, 1) := by decide +kernel
theorem dL_law_687 : decode cL_law 687 = .ok (.iconst 1, 1) := by decide +kernel
theorem dL_law_688 : decode cL_law 688 = .ok (.iadd, 1) := by decide +kernel
theorem dL_law_689 : decode cL_law 689 = .ok (.iaload, 1) := by decide +kernel
theorem dL_law_690 : decode cL_law 690 = .ok (.invokevirtual 88, 3) := by decide +kernel
theorem dL_law_693 : decode cL_law 693 = .ok (.if_icmp .eq 652, 3) := by decide +kernel
theorem dL_law_696 : decode cL_law 696 = .ok (.iconst 0, 1) := by decide +kernel
theorem dL_law_697 : decode cL_law 697 = .ok (.ireturn, 1) := by decide +kernel
theorem dL_law_698 : decode cL_law 698 = .ok (.aload_n 1, 1) := by decide +kernel
theorem dL_law_699 : decode cL_law 699 = .ok (.aload_n 0, 1) := by decide +kernel
theorem dL_law_700 : decode cL_law 700 = .ok (.iload_n 3, 1) := by decide +kernel
theorem dL_law_701 : decode cL_law 701 = .ok (.iconst 1, 1) := by decide +kernel
theorem dL_law_702 : decode cL_law 702 = .ok (.iadd, 1) := by decide +kernel
theorem dL_law_703 : decode cL_law 703 = .ok (.iaload, 1) := by decide +kernel
theorem dL_law_704 : decode cL_law 704 = .ok (.invokevirtual 89, 3) := by decide +kernel
theorem dL_law_707 : decode cL_law 707 = .ok (.aload_n 2, 1) := by decide +kernel
theorem dL_law_708 : decode cL_law 708 = .ok (.aload_n 0, 1) := by decide +kernel
theorem dL_law_709 : decode cL_law 709 = .ok (.iload_n 3, 1) := by decide +kernel
theorem dL_law_710 : decode cL_law 710 = .ok (.iconst 1, 1) := by decide +kernel
theorem dL_law_711 : decode cL_law 711 = .ok (.iadd, 1) := by decide +kernel
theorem dL_law_712 : decode cL_law 712 = .ok (.iaload, 1) := by decide +kernel
theorem dL_law_713 : decode cL_law 713 = .ok (.invokevirtual 92, 3) := by decide +kernel
theorem dL_law_716 : decode cL_law 716 = .ok (.if_icmp .eq 629, 3) := by decide +kernel
theorem dL_law_719 : decode cL_law 719 = .ok (.iconst 0, 1) := by decide +kernel
theorem dL_law_720 : decode cL_law 720 = .ok (.ireturn, 1) := by decide +kernel
theorem dL_law_721 : decode cL_law 721 = .ok (.aload_n 1, 1) := by decide +kernel
theorem dL_law_722 : decode cL_law 722 = .ok (.aload_n 0, 1) := by decide +kernel
theorem dL_law_723 : decode cL_law 723 = .ok (.iload_n 3, 1) := by decide +kernel
theorem dL_law_724 : decode cL_law 724 = .ok (.iconst 1, 1) := by decide +kernel
theorem dL_law_725 : decode cL_law 725 = .ok (.iadd, 1) := by decide +kernel
theorem dL_law_726 : decode cL_law 726 = .ok (.iaload, 1) := by decide +kernel
theorem dL_law_727 : decode cL_law 727 = .ok (.aload_n 0, 1) := by decide +kernel
theorem dL_law_728 : decode cL_law 728 = .ok (.iload_n 3, 1) := by decide +kernel
theorem dL_law_729 : decode cL_law 729 = .ok (.iconst 2, 1) := by decide +kernel
theorem dL_law_730 : decode cL_law 730 = .ok (.iadd, 1) := by decide +kernel
theorem dL_law_731 : decode cL_law 731 = .ok (.iaload, 1) := by decide +kernel
theorem dL_law_732 : decode cL_law 732 = .ok (.invokevirtual 93, 3) := by decide +kernel
theorem dL_law_735 : decode cL_law 735 = .ok (.aload_n 2, 1) := by decide +kernel
theorem dL_law_736 : decode cL_law 736 = .ok (.aload_n 0, 1) := by decide +kernel
theorem dL_law_737 : decode cL_law 737 = .ok (.iload_n 3, 1) := by decide +kernel
theorem dL_law_738 : decode cL_law 738 = .ok (.iconst 1, 1) := by decide +kernel
theorem dL_law_739 : decode cL_law 739 = .ok (.iadd, 1) := by decide +kernel
theorem dL_law_740 : decode cL_law 740 = .ok (.iaload, 1) := by decide +kernel
theorem dL_law_741 : decode cL_law 741 = .ok (.aload_n 0, 1) := by decide +kernel
theorem dL_law_742 : decode cL_law 742 = .ok (.iload_n 3, 1) := by decide +kernel
theorem dL_law_743 : decode cL_law 743 = .ok (.iconst 2, 1) := by decide +kernel
theorem dL_law_744 : decode cL_law 744 = .ok (.iadd, 1) := by decide +kernel
theorem dL_law_745 : decode cL_law 745 = .ok (.iaload, 1) := by decide +kernel
theorem dL_law_746 : decode cL_law 746 = .ok (.invokevirtual 96, 3) := by decide +kernel
theorem dL_law_749 : decode cL_law 749 = .ok (.if_icmp .eq 596, 3) := by decide +kernel
theorem dL_law_752 : decode cL_law 752 = .ok (.iconst 0, 1) := by decide +kernel
theorem dL_law_753 : decode cL_law 753 = .ok (.ireturn, 1) := by decide +kernel
theorem dL_law_754 : decode cL_law 754 = .ok (.aload_n 1, 1) := by decide +kernel
theorem dL_law_755 : decode cL_law 755 = .ok (.aload_n 0, 1) := by decide +kernel
theorem dL_law_756 : decode cL_law 756 = .ok (.iload_n 3, 1) := by decide +kernel
theorem dL_law_757 : decode cL_law 757 = .ok (.iconst 1, 1) := by decide +kernel
theorem dL_law_758 : decode cL_law 758 = .ok (.iadd, 1) := by decide +kernel
theorem dL_law_759 : decode cL_law 759 = .ok (.iaload, 1) := by decide +kernel
theorem dL_law_760 : decode cL_law 760 = .ok (.invokevirtual 97, 3) := by decide +kernel
theorem dL_law_763 : decode cL_law 763 = .ok (.aload_n 2, 1) := by decide +kernel
theorem dL_law_764 : decode cL_law 764 = .ok (.aload_n 0, 1) := by decide +kernel
theorem dL_law_765 : decode cL_law 765 = .ok (.iload_n 3, 1) := by decide +kernel
theorem dL_law_766 : decode cL_law 766 = .ok (.iconst 1, 1) := by decide +kernel
theorem dL_law_767 : decode cL_law 767 = .ok (.iadd, 1) := by decide +kernel
theorem dL_law_768 : decode cL_law 768 = .ok (.iaload, 1) := by decide +kernel
theorem dL_law_769 : decode cL_law 769 = .ok (.invokevirtual 100, 3) := by decide +kernel
theorem dL_law_772 : decode cL_law 772 = .ok (.if_icmp .eq 573, 3) := by decide +kernel
theorem dL_law_775 : decode cL_law 775 = .ok (.iconst 0, 1) := by decide +kernel
theorem dL_law_776 : decode cL_law 776 = .ok (.ireturn, 1) := by decide +kernel
theorem dL_law_777 : decode cL_law 777 = .ok (.aload_n 1, 1) := by decide +kernel
theorem dL_law_778 : decode cL_law 778 = .ok (.aload_n 0, 1) := by decide +kernel
theorem dL_law_779 : decode cL_law 779 = .ok (.iload_n 3, 1) := by decide +kernel
theorem dL_law_780 : decode cL_law 780 = .ok (.iconst 1, 1) := by decide +kernel
theorem dL_law_781 : decode cL_law 781 = .ok (.iadd, 1) := by decide +kernel
theorem dL_law_782 : decode cL_law 782 = .ok (.iaload, 1) := by decide +kernel
theorem dL_law_783 : decode cL_law 783 = .ok (.invokevirtual 101, 3) := by decide +kernel
theorem dL_law_786 : decode cL_law 786 = .ok (.aload_n 2, 1) := by decide +kernel
theorem dL_law_787 : decode cL_law 787 = .ok (.aload_n 0, 1) := by decide +kernel
theorem dL_law_788 : decode cL_law 788 = .ok (.iload_n 3, 1) := by decide +kernel
theorem dL_law_789 : decode cL_law 789 = .ok (.iconst 1, 1) := by decide +kernel
theorem dL_law_790 : decode cL_law 790 = .ok (.iadd, 1) := by decide +kernel
theorem dL_law_791 : decode cL_law 791 = .ok (.iaload, 1) := by decide +kernel
theorem dL_law_792 : decode cL_law 792 = .ok (.invokevirtual 104, 3) := by decide +kernel
theorem dL_law_795 : decode cL_law 795 = .ok (.if_icmp .eq 550, 3) := by decide +kernel
theorem dL_law_798 : decode cL_law 798 = .ok (.iconst 0, 1) := by decide +kernel
theorem dL_law_799 : decode cL_law 799 = .ok (.ireturn, 1) := by decide +kernel
theorem dL_law_800 : decode cL_law 800 = .ok (.aload_n 1, 1) := by decide +kernel
theorem dL_law_801 : decode cL_law 801 = .ok (.invokevirtual 105, 3) := by decide +kernel
theorem dL_law_804 : decode cL_law 804 = .ok (.aload_n 2, 1) := by decide +kernel
theorem dL_law_805 : decode cL_law 805 = .ok (.invokevirtual 108, 3) := by decide +kernel
theorem dL_law_808 : decode cL_law 808 = .ok (.if_icmp .eq 537, 3) := by decide +kernel
theorem dL_law_811 : decode cL_law 811 = .ok (.iconst 0, 1) := by decide +kernel
theorem dL_law_812 : decode cL_law 812 = .ok (.ireturn, 1) := by decide +kernel
theorem dL_law_813 : decode cL_law 813 = .ok (.aload_n 1, 1) := by decide +kernel
theorem dL_law_814 : decode cL_law 814 = .ok (.aload_n 0, 1) := by decide +kernel
theorem dL_law_815 : decode cL_law 815 = .ok (.iload_n 3, 1) := by decide +kernel
theorem dL_law_816 : decode cL_law 816 = .ok (.iconst 1, 1) := by decide +kernel
theorem dL_law_817 : decode cL_law 817 = .ok (.iadd, 1) := by decide +kernel
theorem dL_law_818 : decode cL_law 818 = .ok (.iaload, 1) := by decide +kernel
theorem dL_law_819 : decode cL_law 819 = .ok (.invokevirtual 109, 3) := by decide +kernel
theorem dL_law_822 : decode cL_law 822 = .ok (.aload_n 2, 1) := by decide +kernel
theorem dL_law_823 : decode cL_law 823 = .ok (.aload_n 0, 1) := by decide +kernel
theorem dL_law_824 : decode cL_law 824 = .ok (.iload_n 3, 1) := by decide +kernel
theorem dL_law_825 : decode cL_law 825 = .ok (.iconst 1, 1) := by decide +kernel
theorem dL_law_826 : decode cL_law 826 = .ok (.iadd, 1) := by decide +kernel
theorem dL_law_827 : decode cL_law 827 = .ok (.iaload, 1) := by decide +kernel
theorem dL_law_828 : decode cL_law 828 = .ok (.invokevirtual 112, 3) := by decide +kernel
theorem dL_law_831 : decode cL_law 831 = .ok (.if_icmp .eq 514, 3) := by decide +kernel
theorem dL_law_834 : decode cL_law 834 = .ok (.iconst 0, 1) := by decide +kernel
theorem dL_law_835 : decode cL_law 835 = .ok (.ireturn, 1) := by decide +kernel
theorem dL_law_836 : decode cL_law 836 = .ok (.aload_n 1, 1) := by decide +kernel
theorem dL_law_837 : decode cL_law 837 = .ok (.aload_n 0, 1) := by decide +kernel
theorem dL_law_838 : decode cL_law 838 = .ok (.iload_n 3, 1) := by decide +kernel
theorem dL_law_839 : decode cL_law 839 = .ok (.iconst 1, 1) := by decide +kernel
theorem dL_law_840 : decode cL_law 840 = .ok (.iadd, 1) := by decide +kernel
theorem dL_law_841 : decode cL_law 841 = .ok (.iaload, 1) := by decide +kernel
theorem dL_law_842 : decode cL_law 842 = .ok (.invokevirtual 113, 3) := by decide +kernel
theorem dL_law_845 : decode cL_law 845 = .ok (.aload_n 2, 1) := by decide +kernel
theorem dL_law_846 : decode cL_law 846 = .ok (.aload_n 0, 1) := by decide +kernel
theorem dL_law_847 : decode cL_law 847 = .ok (.iload_n 3, 1) := by decide +kernel
theorem dL_law_848 : decode cL_law 848 = .ok (.iconst 1, 1) := by decide +kernel
theorem dL_law_849 : decode cL_law 849 = .ok (.iadd, 1) := by decide +kernel
theorem dL_law_850 : decode cL_law 850 = .ok (.iaload, 1) := by decide +kernel
theorem dL_law_851 : decode cL_law 851 = .ok (.invokevirtual 116, 3) := by decide +kernel
theorem dL_law_854 : decode cL_law 854 = .ok (.if_icmp .eq 491, 3) := by decide +kernel
theorem dL_law_857 : decode cL_law 857 = .ok (.iconst 0, 1) := by decide +kernel
theorem dL_law_858 : decode cL_law 858 = .ok (.ireturn, 1) := by decide +kernel
theorem dL_law_859 : decode cL_law 859 = .ok (.aload_n 1, 1) := by decide +kernel
theorem dL_law_860 : decode cL_law 860 = .ok (.aload_n 0, 1) := by decide +kernel
theorem dL_law_861 : decode cL_law 861 = .ok (.iload_n 3, 1) := by decide +kernel
theorem dL_law_862 : decode cL_law 862 = .ok (.iconst 1, 1) := by decide +kernel
theorem dL_law_863 : decode cL_law 863 = .ok (.iadd, 1) := by decide +kernel
theorem dL_law_864 : decode cL_law 864 = .ok (.iaload, 1) := by decide +kernel
theorem dL_law_865 : decode cL_law 865 = .ok (.invokevirtual 117, 3) := by decide +kernel
theorem dL_law_868 : decode cL_law 868 = .ok (.aload_n 2, 1) := by decide +kernel
theorem dL_law_869 : decode cL_law 869 = .ok (.aload_n 0, 1) := by decide +kernel
theorem dL_law_870 : decode cL_law 870 = .ok (.iload_n 3, 1) := by decide +kernel
theorem dL_law_871 : decode cL_law 871 = .ok (.iconst 1, 1) := by decide +kernel
theorem dL_law_872 : decode cL_law 872 = .ok (.iadd, 1) := by decide +kernel
theorem dL_law_873 : decode cL_law 873 = .ok (.iaload, 1) := by decide +kernel
theorem dL_law_874 : decode cL_law 874 = .ok (.invokevirtual 120, 3) := by decide +kernel
theorem dL_law_877 : decode cL_law 877 = .ok (.if_icmp .eq 468, 3) := by decide +kernel
theorem dL_law_880 : decode cL_law 880 = .ok (.iconst 0, 1) := by decide +kernel
theorem dL_law_881 : decode cL_law 881 = .ok (.ireturn, 1) := by decide +kernel
theorem dL_law_882 : decode cL_law 882 = .ok (.aload_n 1, 1) := by decide +kernel
theorem dL_law_883 : decode cL_law 883 = .ok (.aload_n 0, 1) := by decide +kernel
theorem dL_law_884 : decode cL_law 884 = .ok (.iload_n 3, 1) := by decide +kernel
theorem dL_law_885 : decode cL_law 885 = .ok (.iconst 1, 1) := by decide +kernel
theorem dL_law_886 : decode cL_law 886 = .ok (.iadd, 1) := by decide +kernel
theorem dL_law_887 : decode cL_law 887 = .ok (.iaload, 1) := by decide +kernel
theorem dL_law_888 : decode cL_law 888 = .ok (.aload_n 0, 1) := by decide +kernel
theorem dL_law_889 : decode cL_law 889 = .ok (.iload_n 3, 1) := by decide +kernel
theorem dL_law_890 : decode cL_law 890 = .ok (.iconst 2, 1) := by decide +kernel
theorem dL_law_891 : decode cL_law 891 = .ok (.iadd, 1) := by decide +kernel
theorem dL_law_892 : decode cL_law 892 = .ok (.iaload, 1) := by decide +kernel
theorem dL_law_893 : decode cL_law 893 = .ok (.invokevirtual 121, 3) := by decide +kernel
theorem dL_law_896 : decode cL_law 896 = .ok (.aload_n 2, 1) := by decide +kernel
theorem dL_law_897 : decode cL_law 897 = .ok (.aload_n 0, 1) := by decide +kernel
theorem dL_law_898 : decode cL_law 898 = .ok (.iload_n 3, 1) := by decide +kernel
theorem dL_law_899 : decode cL_law 899 = .ok (.iconst 1, 1) := by decide +kernel
theorem dL_law_900 : decode cL_law 900 = .ok (.iadd, 1) := by decide +kernel
theorem dL_law_901 : decode cL_law 901 = .ok (.iaload, 1) := by decide +kernel
theorem dL_law_902 : decode cL_law 902 = .ok (.aload_n 0, 1) := by decide +kernel
theorem dL_law_903 : decode cL_law 903 = .ok (.iload_n 3, 1) := by decide +kernel
theorem dL_law_904 : decode cL_law 904 = .ok (.iconst 2, 1) := by decide +kernel
theorem dL_law_905 : decode cL_law 905 = .ok (.iadd, 1) := by decide +kernel
theorem dL_law_906 : decode cL_law 906 = .ok (.iaload, 1) := by decide +kernel
theorem dL_law_907 : decode cL_law 907 = .ok (.invokevirtual 125, 3) := by decide +kernel
theorem dL_law_910 : decode cL_law 910 = .ok (.lcmp, 1) := by decide +kernel
theorem dL_law_911 : decode cL_law 911 = .ok (.ifCond .eq 434, 3) := by decide +kernel
theorem dL_law_914 : decode cL_law 914 = .ok (.iconst 0, 1) := by decide +kernel
theorem dL_law_915 : decode cL_law 915 = .ok (.ireturn, 1) := by decide +kernel
theorem dL_law_916 : decode cL_law 916 = .ok (.aload_n 1, 1) := by decide +kernel
theorem dL_law_917 : decode cL_law 917 = .ok (.aload_n 0, 1) := by decide +kernel
theorem dL_law_918 : decode cL_law 918 = .ok (.iload_n 3, 1) := by decide +kernel
theorem dL_law_919 : decode cL_law 919 = .ok (.iconst 1, 1) := by decide +kernel
theorem dL_law_920 : decode cL_law 920 = .ok (.iadd, 1) := by decide +kernel
theorem dL_law_921 : decode cL_law 921 = .ok (.iaload, 1) := by decide +kernel
theorem dL_law_922 : decode cL_law 922 = .ok (.invokevirtual 126, 3) := by decide +kernel
theorem dL_law_925 : decode cL_law 925 = .ok (.aload_n 2, 1) := by decide +kernel
theorem dL_law_926 : decode cL_law 926 = .ok (.aload_n 0, 1) := by decide +kernel
theorem dL_law_927 : decode cL_law 927 = .ok (.iload_n 3, 1) := by decide +kernel
theorem dL_law_928 : decode cL_law 928 = .ok (.iconst 1, 1) := by decide +kernel
theorem dL_law_929 : decode cL_law 929 = .ok (.iadd, 1) := by decide +kernel
theorem dL_law_930 : decode cL_law 930 = .ok (.iaload, 1) := by decide +kernel
theorem dL_law_931 : decode cL_law 931 = .ok (.invokevirtual 129, 3) := by decide +kernel
theorem dL_law_934 : decode cL_law 934 = .ok (.if_icmp .eq 411, 3) := by decide +kernel
theorem dL_law_937 : decode cL_law 937 = .ok (.iconst 0, 1) := by decide +kernel
theorem dL_law_938 : decode cL_law 938 = .ok (.ireturn, 1) := by decide +kernel
theorem dL_law_939 : decode cL_law 939 = .ok (.aload_n 1, 1) := by decide +kernel
theorem dL_law_940 : decode cL_law 940 = .ok (.invokevirtual 130, 3) := by decide +kernel
theorem dL_law_943 : decode cL_law 943 = .ok (.aload_n 2, 1) := by decide +kernel
theorem dL_law_944 : decode cL_law 944 = .ok (.invokevirtual 133, 3) := by decide +kernel
theorem dL_law_947 : decode cL_law 947 = .ok (.if_icmp .eq 398, 3) := by decide +kernel
theorem dL_law_950 : decode cL_law 950 = .ok (.iconst 0, 1) := by decide +kernel
theorem dL_law_951 : decode cL_law 951 = .ok (.ireturn, 1) := by decide +kernel
theorem dL_law_952 : decode cL_law 952 = .ok (.aload_n 1, 1) := by decide +kernel
theorem dL_law_953 : decode cL_law 953 = .ok (.aload_n 0, 1) := by decide +kernel
theorem dL_law_954 : decode cL_law 954 = .ok (.iload_n 3, 1) := by decide +kernel
theorem dL_law_955 : decode cL_law 955 = .ok (.iconst 1, 1) := by decide +kernel
theorem dL_law_956 : decode cL_law 956 = .ok (.iadd, 1) := by decide +kernel
theorem dL_law_957 : decode cL_law 957 = .ok (.iaload, 1) := by decide +kernel
theorem dL_law_958 : decode cL_law 958 = .ok (.aload_n 0, 1) := by decide +kernel
theorem dL_law_959 : decode cL_law 959 = .ok (.iload_n 3, 1) := by decide +kernel
theorem dL_law_960 : decode cL_law 960 = .ok (.iconst 2, 1) := by decide +kernel
theorem dL_law_961 : decode cL_law 961 = .ok (.iadd, 1) := by decide +kernel
theorem dL_law_962 : decode cL_law 962 = .ok (.iaload, 1) := by decide +kernel
theorem dL_law_963 : decode cL_law 963 = .ok (.invokevirtual 134, 3) := by decide +kernel
theorem dL_law_966 : decode cL_law 966 = .ok (.aload_n 2, 1) := by decide +kernel
theorem dL_law_967 : decode cL_law 967 = .ok (.aload_n 0, 1) := by decide +kernel
theorem dL_law_968 : decode cL_law 968 = .ok (.iload_n 3, 1) := by decide +kernel
theorem dL_law_969 : decode cL_law 969 = .ok (.iconst 1, 1) := by decide +kernel
theorem dL_law_970 : decode cL_law 970 = .ok (.iadd, 1) := by decide +kernel
theorem dL_law_971 : decode cL_law 971 = .ok (.iaload, 1) := by decide +kernel
theorem dL_law_972 : decode cL_law 972 = .ok (.aload_n 0, 1) := by decide +kernel
theorem dL_law_973 : decode cL_law 973 = .ok (.iload_n 3, 1) := by decide +kernel
theorem dL_law_974 : decode cL_law 974 = .ok (.iconst 2, 1) := by decide +kernel
theorem dL_law_975 : decode cL_law 975 = .ok (.iadd, 1) := by decide +kernel
theorem dL_law_976 : decode cL_law 976 = .ok (.iaload, 1) := by decide +kernel
theorem dL_law_977 : decode cL_law 977 = .ok (.invokevirtual 137, 3) := by decide +kernel
theorem dL_law_980 : decode cL_law 980 = .ok (.lcmp, 1) := by decide +kernel
theorem dL_law_981 : decode cL_law 981 = .ok (.ifCond .eq 364, 3) := by decide +kernel
theorem dL_law_984 : decode cL_law 984 = .ok (.iconst 0, 1) := by decide +kernel
theorem dL_law_985 : decode cL_law 985 = .ok (.ireturn, 1) := by decide +kernel
theorem dL_law_986 : decode cL_law 986 = .ok (.aload_n 1, 1) := by decide +kernel
theorem dL_law_987 : decode cL_law 987 = .ok (.aload_n 0, 1) := by decide +kernel
theorem dL_law_988 : decode cL_law 988 = .ok (.iload_n 3, 1) := by decide +kernel
theorem dL_law_989 : decode cL_law 989 = .ok (.iconst 1, 1) := by decide +kernel
theorem dL_law_990 : decode cL_law 990 = .ok (.iadd, 1) := by decide +kernel
theorem dL_law_991 : decode cL_law 991 = .ok (.iaload, 1) := by decide +kernel
theorem dL_law_992 : decode cL_law 992 = .ok (.aload_n 0, 1) := by decide +kernel
theorem dL_law_993 : decode cL_law 993 = .ok (.iload_n 3, 1) := by decide +kernel
theorem dL_law_994 : decode cL_law 994 = .ok (.iconst 2, 1) := by decide +kernel
theorem dL_law_995 : decode cL_law 995 = .ok (.iadd, 1) := by decide +kernel
theorem dL_law_996 : decode cL_law 996 = .ok (.iaload, 1) := by decide +kernel
theorem dL_law_997 : decode cL_law 997 = .ok (.ifCond .eq 7, 3) := by decide +kernel
theorem dL_law_1000 : decode cL_law 1000 = .ok (.iconst 1, 1) := by decide +kernel
theorem dL_law_1001 : decode cL_law 1001 = .ok (.goto 4, 3) := by decide +kernel
theorem dL_law_1004 : decode cL_law 1004 = .ok (.iconst 0, 1) := by decide +kernel
theorem dL_law_1005 : decode cL_law 1005 = .ok (.invokevirtual 138, 3) := by decide +kernel
theorem dL_law_1008 : decode cL_law 1008 = .ok (.aload_n 2, 1) := by decide +kernel
theorem dL_law_1009 : decode cL_law 1009 = .ok (.aload_n 0, 1) := by decide +kernel
theorem dL_law_1010 : decode cL_law 1010 = .ok (.iload_n 3, 1) := by decide +kernel
theorem dL_law_1011 : decode cL_law 1011 = .ok (.iconst 1, 1) := by decide +kernel
theorem dL_law_1012 : decode cL_law 1012 = .ok (.iadd, 1) := by decide +kernel
theorem dL_law_1013 : decode cL_law 1013 = .ok (.iaload, 1) := by decide +kernel
theorem dL_law_1014 : decode cL_law 1014 = .ok (.aload_n 0, 1) := by decide +kernel
theorem dL_law_1015 : decode cL_law 1015 = .ok (.iload_n 3, 1) := by decide +kernel
theorem dL_law_1016 : decode cL_law 1016 = .ok (.iconst 2, 1) := by decide +kernel
theorem dL_law_1017 : decode cL_law 1017 = .ok (.iadd, 1) := by decide +kernel
theorem dL_law_1018 : decode cL_law 1018 = .ok (.iaload, 1) := by decide +kernel
theorem dL_law_1019 : decode cL_law 1019 = .ok (.ifCond .eq 7, 3) := by decide +kernel
theorem dL_law_1022 : decode cL_law 1022 = .ok (.iconst 1, 1) := by decide +kernel
theorem dL_law_1023 : decode cL_law 1023 = .ok (.goto 4, 3) := by decide +kernel
theorem dL_law_1026 : decode cL_law 1026 = .ok (.iconst 0, 1) := by decide +kernel
theorem dL_law_1027 : decode cL_law 1027 = .ok (.invokevirtual 142, 3) := by decide +kernel
theorem dL_law_1030 : decode cL_law 1030 = .ok (.if_icmp .eq 315, 3) := by decide +kernel
theorem dL_law_1033 : decode cL_law 1033 = .ok (.iconst 0, 1) := by decide +kernel
theorem dL_law_1034 : decode cL_law 1034 = .ok (.ireturn, 1) := by decide +kernel
theorem dL_law_1035 : decode cL_law 1035 = .ok (.aload_n 1, 1) := by decide +kernel
theorem dL_law_1036 : decode cL_law 1036 = .ok (.aload_n 0, 1) := by decide +kernel
theorem dL_law_1037 : decode cL_law 1037 = .ok (.iload_n 3, 1) := by decide +kernel
theorem dL_law_1038 : decode cL_law 1038 = .ok (.iconst 1, 1) := by decide +kernel
theorem dL_law_1039 : decode cL_law 1039 = .ok (.iadd, 1) := by decide +kernel
theorem dL_law_1040 : decode cL_law 1040 = .ok (.iaload, 1) := by decide +kernel
theorem dL_law_1041 : decode cL_law 1041 = .ok (.invokevirtual 143, 3) := by decide +kernel
theorem dL_law_1044 : decode cL_law 1044 = .ok (.aload_n 2, 1) := by decide +kernel
theorem dL_law_1045 : decode cL_law 1045 = .ok (.aload_n 0, 1) := by decide +kernel
theorem dL_law_1046 : decode cL_law 1046 = .ok (.iload_n 3, 1) := by decide +kernel
theorem dL_law_1047 : decode cL_law 1047 = .ok (.iconst 1, 1) := by decide +kernel
theorem dL_law_1048 : decode cL_law 1048 = .ok (.iadd, 1) := by decide +kernel
theorem dL_law_1049 : decode cL_law 1049 = .ok (.iaload, 1) := by decide +kernel
theorem dL_law_1050 : decode cL_law 1050 = .ok (.invokevirtual 146, 3) := by decide +kernel
theorem dL_law_1053 : decode cL_law 1053 = .ok (.if_icmp .eq 292, 3) := by decide +kernel
theorem dL_law_1056 : decode cL_law 1056 = .ok (.iconst 0, 1) := by decide +kernel
theorem dL_law_1057 : decode cL_law 1057 = .ok (.ireturn, 1) := by decide +kernel
theorem dL_law_1058 : decode cL_law 1058 = .ok (.aload_n 1, 1) := by decide +kernel
theorem dL_law_1059 : decode cL_law 1059 = .ok (.aload_n 0, 1) := by decide +kernel
theorem dL_law_1060 : decode cL_law 1060 = .ok (.iload_n 3, 1) := by decide +kernel
theorem dL_law_1061 : decode cL_law 1061 = .ok (.iconst 1, 1) := by decide +kernel
theorem dL_law_1062 : decode cL_law 1062 = .ok (.iadd, 1) := by decide +kernel
theorem dL_law_1063 : decode cL_law 1063 = .ok (.iaload, 1) := by decide +kernel
theorem dL_law_1064 : decode cL_law 1064 = .ok (.invokevirtual 147, 3) := by decide +kernel
theorem dL_law_1067 : decode cL_law 1067 = .ok (.aload_n 2, 1) := by decide +kernel
theorem dL_law_1068 : decode cL_law 1068 = .ok (.aload_n 0, 1) := by decide +kernel
theorem dL_law_1069 : decode cL_law 1069 = .ok (.iload_n 3, 1) := by decide +kernel
theorem dL_law_1070 : decode cL_law 1070 = .ok (.iconst 1, 1) := by decide +kernel
theorem dL_law_1071 : decode cL_law 1071 = .ok (.iadd, 1) := by decide +kernel
theorem dL_law_1072 : decode cL_law 1072 = .ok (.iaload, 1) := by decide +kernel
theorem dL_law_1073 : decode cL_law 1073 = .ok (.invokevirtual 150, 3) := by decide +kernel
theorem dL_law_1076 : decode cL_law 1076 = .ok (.if_icmp .eq 269, 3) := by decide +kernel
theorem dL_law_1079 : decode cL_law 1079 = .ok (.iconst 0, 1) := by decide +kernel
theorem dL_law_1080 : decode cL_law 1080 = .ok (.ireturn, 1) := by decide +kernel
theorem dL_law_1081 : decode cL_law 1081 = .ok (.aload_n 1, 1) := by decide +kernel
theorem dL_law_1082 : decode cL_law 1082 = .ok (.aload_n 0, 1) := by decide +kernel
theorem dL_law_1083 : decode cL_law 1083 = .ok (.iload_n 3, 1) := by decide +kernel
theorem dL_law_1084 : decode cL_law 1084 = .ok (.iconst 1, 1) := by decide +kernel
theorem dL_law_1085 : decode cL_law 1085 = .ok (.iadd, 1) := by decide +kernel
theorem dL_law_1086 : decode cL_law 1086 = .ok (.iaload, 1) := by decide +kernel
theorem dL_law_1087 : decode cL_law 1087 = .ok (.aload_n 0, 1) := by decide +kernel
theorem dL_law_1088 : decode cL_law 1088 = .ok (.iload_n 3, 1) := by decide +kernel
theorem dL_law_1089 : decode cL_law 1089 = .ok (.iconst 2, 1) := by decide +kernel
theorem dL_law_1090 : decode cL_law 1090 = .ok (.iadd, 1) := by decide +kernel
theorem dL_law_1091 : decode cL_law 1091 = .ok (.iaload, 1) := by decide +kernel
theorem dL_law_1092 : decode cL_law 1092 = .ok (.aload_n 0, 1) := by decide +kernel
theorem dL_law_1093 : decode cL_law 1093 = .ok (.iload_n 3, 1) := by decide +kernel
theorem dL_law_1094 : decode cL_law 1094 = .ok (.iconst 3, 1) := by decide +kernel
theorem dL_law_1095 : decode cL_law 1095 = .ok (.iadd, 1) := by decide +kernel
theorem dL_law_1096 : decode cL_law 1096 = .ok (.iaload, 1) := by decide +kernel
theorem dL_law_1097 : decode cL_law 1097 = .ok (.invokevirtual 151, 3) := by decide +kernel
theorem dL_law_1100 : decode cL_law 1100 = .ok (.aload_n 2, 1) := by decide +kernel
theorem dL_law_1101 : decode cL_law 1101 = .ok (.aload_n 0, 1) := by decide +kernel
theorem dL_law_1102 : decode cL_law 1102 = .ok (.iload_n 3, 1) := by decide +kernel
theorem dL_law_1103 : decode cL_law 1103 = .ok (.iconst 1, 1) := by decide +kernel
theorem dL_law_1104 : decode cL_law 1104 = .ok (.iadd, 1) := by decide +kernel
theorem dL_law_1105 : decode cL_law 1105 = .ok (.iaload, 1) := by decide +kernel
theorem dL_law_1106 : decode cL_law 1106 = .ok (.aload_n 0, 1) := by decide +kernel
theorem dL_law_1107 : decode cL_law 1107 = .ok (.iload_n 3, 1) := by decide +kernel
theorem dL_law_1108 : decode cL_law 1108 = .ok (.iconst 2, 1) := by decide +kernel
theorem dL_law_1109 : decode cL_law 1109 = .ok (.iadd, 1) := by decide +kernel
theorem dL_law_1110 : decode cL_law 1110 = .ok (.iaload, 1) := by decide +kernel
theorem dL_law_1111 : decode cL_law 1111 = .ok (.aload_n 0, 1) := by decide +kernel
theorem dL_law_1112 : decode cL_law 1112 = .ok (.iload_n 3, 1) := by decide +kernel
theorem dL_law_1113 : decode cL_law 1113 = .ok (.iconst 3, 1) := by decide +kernel
theorem dL_law_1114 : decode cL_law 1114 = .ok (.iadd, 1) := by decide +kernel
theorem dL_law_1115 : decode cL_law 1115 = .ok (.iaload, 1) := by decide +kernel
theorem dL_law_1116 : decode cL_law 1116 = .ok (.invokevirtual 155, 3) := by decide +kernel
theorem dL_law_1119 : decode cL_law 1119 = .ok (.if_icmp .eq 226, 3) := by decide +kernel
theorem dL_law_1122 : decode cL_law 1122 = .ok (.iconst 0, 1) := by decide +kernel
theorem dL_law_1123 : decode cL_law 1123 = .ok (.ireturn, 1) := by decide +kernel
theorem dL_law_1124 : decode cL_law 1124 = .ok (.aload_n 1, 1) := by decide +kernel
theorem dL_law_1125 : decode cL_law 1125 = .ok (.aload_n 0, 1) := by decide +kernel
theorem dL_law_1126 : decode cL_law 1126 = .ok (.iload_n 3, 1) := by decide +kernel
theorem dL_law_1127 : decode cL_law 1127 = .ok (.iconst 1, 1) := by decide +kernel
theorem dL_law_1128 : decode cL_law 1128 = .ok (.iadd, 1) := by decide +kernel
theorem dL_law_1129 : decode cL_law 1129 = .ok (.iaload, 1) := by decide +kernel
theorem dL_law_1130 : decode cL_law 1130 = .ok (.invokevirtual 156, 3) := by decide +kernel
theorem dL_law_1133 : decode cL_law 1133 = .ok (.aload_n 2, 1) := by decide +kernel
theorem dL_law_1134 : decode cL_law 1134 = .ok (.aload_n 0, 1) := by decide +kernel
theorem dL_law_1135 : decode cL_law 1135 = .ok (.iload_n 3, 1) := by decide +kernel
theorem dL_law_1136 : decode cL_law 1136 = .ok (.iconst 1, 1) := by decide +kernel
theorem dL_law_1137 : decode cL_law 1137 = .ok (.iadd, 1) := by decide +kernel
theorem dL_law_1138 : decode cL_law 1138 = .ok (.iaload, 1) := by decide +kernel
theorem dL_law_1139 : decode cL_law 1139 = .ok (.invokevirtual 159, 3) := by decide +kernel
theorem dL_law_1142 : decode cL_law 1142 = .ok (.if_icmp .eq 203, 3) := by decide +kernel
theorem dL_law_1145 : decode cL_law 1145 = .ok (.iconst 0, 1) := by decide +kernel
theorem dL_law_1146 : decode cL_law 1146 = .ok (.ireturn, 1) := by decide +kernel
theorem dL_law_1147 : decode cL_law 1147 = .ok (.aload_n 1, 1) := by decide +kernel
theorem dL_law_1148 : decode cL_law 1148 = .ok (.aload_n 0, 1) := by decide +kernel
theorem dL_law_1149 : decode cL_law 1149 = .ok (.iload_n 3, 1) := by decide +kernel
theorem dL_law_1150 : decode cL_law 1150 = .ok (.iconst 1, 1) := by decide +kernel
theorem dL_law_1151 : decode cL_law 1151 = .ok (.iadd, 1) := by decide +kernel
theorem dL_law_1152 : decode cL_law 1152 = .ok (.iaload, 1) := by decide +kernel
theorem dL_law_1153 : decode cL_law 1153 = .ok (.invokevirtual 160, 3) := by decide +kernel
theorem dL_law_1156 : decode cL_law 1156 = .ok (.aload_n 2, 1) := by decide +kernel
theorem dL_law_1157 : decode cL_law 1157 = .ok (.aload_n 0, 1) := by decide +kernel
theorem dL_law_1158 : decode cL_law 1158 = .ok (.iload_n 3, 1) := by decide +kernel
theorem dL_law_1159 : decode cL_law 1159 = .ok (.iconst 1, 1) := by decide +kernel
theorem dL_law_1160 : decode cL_law 1160 = .ok (.iadd, 1) := by decide +kernel
theorem dL_law_1161 : decode cL_law 1161 = .ok (.iaload, 1) := by decide +kernel
theorem dL_law_1162 : decode cL_law 1162 = .ok (.invokevirtual 163, 3) := by decide +kernel
theorem dL_law_1165 : decode cL_law 1165 = .ok (.if_icmp .eq 180, 3) := by decide +kernel
theorem dL_law_1168 : decode cL_law 1168 = .ok (.iconst 0, 1) := by decide +kernel
theorem dL_law_1169 : decode cL_law 1169 = .ok (.ireturn, 1) := by decide +kernel
theorem dL_law_1170 : decode cL_law 1170 = .ok (.aload_n 1, 1) := by decide +kernel
theorem dL_law_1171 : decode cL_law 1171 = .ok (.aload_n 0, 1) := by decide +kernel
theorem dL_law_1172 : decode cL_law 1172 = .ok (.iload_n 3, 1) := by decide +kernel
theorem dL_law_1173 : decode cL_law 1173 = .ok (.iconst 1, 1) := by decide +kernel
theorem dL_law_1174 : decode cL_law 1174 = .ok (.iadd, 1) := by decide +kernel
theorem dL_law_1175 : decode cL_law 1175 = .ok (.iaload, 1) := by decide +kernel
theorem dL_law_1176 : decode cL_law 1176 = .ok (.aload_n 0, 1) := by decide +kernel
theorem dL_law_1177 : decode cL_law 1177 = .ok (.iload_n 3, 1) := by decide +kernel
theorem dL_law_1178 : decode cL_law 1178 = .ok (.iconst 2, 1) := by decide +kernel
theorem dL_law_1179 : decode cL_law 1179 = .ok (.iadd, 1) := by decide +kernel
theorem dL_law_1180 : decode cL_law 1180 = .ok (.iaload, 1) := by decide +kernel
theorem dL_law_1181 : decode cL_law 1181 = .ok (.aload_n 0, 1) := by decide +kernel
theorem dL_law_1182 : decode cL_law 1182 = .ok (.iload_n 3, 1) := by decide +kernel
theorem dL_law_1183 : decode cL_law 1183 = .ok (.iconst 3, 1) := by decide +kernel
theorem dL_law_1184 : decode cL_law 1184 = .ok (.iadd, 1) := by decide +kernel
theorem dL_law_1185 : decode cL_law 1185 = .ok (.iaload, 1) := by decide +kernel
theorem dL_law_1186 : decode cL_law 1186 = .ok (.invokevirtual 164, 3) := by decide +kernel
theorem dL_law_1189 : decode cL_law 1189 = .ok (.aload_n 2, 1) := by decide +kernel
theorem dL_law_1190 : decode cL_law 1190 = .ok (.aload_n 0, 1) := by decide +kernel
theorem dL_law_1191 : decode cL_law 1191 = .ok (.iload_n 3, 1) := by decide +kernel
theorem dL_law_1192 : decode cL_law 1192 = .ok (.iconst 1, 1) := by decide +kernel
theorem dL_law_1193 : decode cL_law 1193 = .ok (.iadd, 1) := by decide +kernel
theorem dL_law_1194 : decode cL_law 1194 = .ok (.iaload, 1) := by decide +kernel
theorem dL_law_1195 : decode cL_law 1195 = .ok (.aload_n 0, 1) := by decide +kernel
theorem dL_law_1196 : decode cL_law 1196 = .ok (.iload_n 3, 1) := by decide +kernel
theorem dL_law_1197 : decode cL_law 1197 = .ok (.iconst 2, 1) := by decide +kernel
theorem dL_law_1198 : decode cL_law 1198 = .ok (.iadd, 1) := by decide +kernel
theorem dL_law_1199 : decode cL_law 1199 = .ok (.iaload, 1) := by decide +kernel
theorem dL_law_1200 : decode cL_law 1200 = .ok (.aload_n 0, 1) := by decide +kernel
theorem dL_law_1201 : decode cL_law 1201 = .ok (.iload_n 3, 1) := by decide +kernel
theorem dL_law_1202 : decode cL_law 1202 = .ok (.iconst 3, 1) := by decide +kernel
theorem dL_law_1203 : decode cL_law 1203 = .ok (.iadd, 1) := by decide +kernel
theorem dL_law_1204 : decode cL_law 1204 = .ok (.iaload, 1) := by decide +kernel
theorem dL_law_1205 : decode cL_law 1205 = .ok (.invokevirtual 167, 3) := by decide +kernel
theorem dL_law_1208 : decode cL_law 1208 = .ok (.if_icmp .eq 137, 3) := by decide +kernel
theorem dL_law_1211 : decode cL_law 1211 = .ok (.iconst 0, 1) := by decide +kernel
theorem dL_law_1212 : decode cL_law 1212 = .ok (.ireturn, 1) := by decide +kernel
theorem dL_law_1213 : decode cL_law 1213 = .ok (.aload_n 1, 1) := by decide +kernel
theorem dL_law_1214 : decode cL_law 1214 = .ok (.aload_n 0, 1) := by decide +kernel
theorem dL_law_1215 : decode cL_law 1215 = .ok (.iload_n 3, 1) := by decide +kernel
theorem dL_law_1216 : decode cL_law 1216 = .ok (.iconst 1, 1) := by decide +kernel
theorem dL_law_1217 : decode cL_law 1217 = .ok (.iadd, 1) := by decide +kernel
theorem dL_law_1218 : decode cL_law 1218 = .ok (.iaload, 1) := by decide +kernel
theorem dL_law_1219 : decode cL_law 1219 = .ok (.aload_n 0, 1) := by decide +kernel
theorem dL_law_1220 : decode cL_law 1220 = .ok (.iload_n 3, 1) := by decide +kernel
theorem dL_law_1221 : decode cL_law 1221 = .ok (.iconst 2, 1) := by decide +kernel
theorem dL_law_1222 : decode cL_law 1222 = .ok (.iadd, 1) := by decide +kernel
theorem dL_law_1223 : decode cL_law 1223 = .ok (.iaload, 1) := by decide +kernel
theorem dL_law_1224 : decode cL_law 1224 = .ok (.aload_n 0, 1) := by decide +kernel
theorem dL_law_1225 : decode cL_law 1225 = .ok (.iload_n 3, 1) := by decide +kernel
theorem dL_law_1226 : decode cL_law 1226 = .ok (.iconst 3, 1) := by decide +kernel
theorem dL_law_1227 : decode cL_law 1227 = .ok (.iadd, 1) := by decide +kernel
theorem dL_law_1228 : decode cL_law 1228 = .ok (.iaload, 1) := by decide +kernel
theorem dL_law_1229 : decode cL_law 1229 = .ok (.invokevirtual 168, 3) := by decide +kernel
theorem dL_law_1232 : decode cL_law 1232 = .ok (.aload_n 2, 1) := by decide +kernel
theorem dL_law_1233 : decode cL_law 1233 = .ok (.aload_n 0, 1) := by decide +kernel
theorem dL_law_1234 : decode cL_law 1234 = .ok (.iload_n 3, 1) := by decide +kernel
theorem dL_law_1235 : decode cL_law 1235 = .ok (.iconst 1, 1) := by decide +kernel
theorem dL_law_1236 : decode cL_law 1236 = .ok (.iadd, 1) := by decide +kernel
theorem dL_law_1237 : decode cL_law 1237 = .ok (.iaload, 1) := by decide +kernel
theorem dL_law_1238 : decode cL_law 1238 = .ok (.aload_n 0, 1) := by decide +kernel
theorem dL_law_1239 : decode cL_law 1239 = .ok (.iload_n 3, 1) := by decide +kernel
theorem dL_law_1240 : decode cL_law 1240 = .ok (.iconst 2, 1) := by decide +kernel
theorem dL_law_1241 : decode cL_law 1241 = .ok (.iadd, 1) := by decide +kernel
theorem dL_law_1242 : decode cL_law 1242 = .ok (.iaload, 1) := by decide +kernel
theorem dL_law_1243 : decode cL_law 1243 = .ok (.aload_n 0, 1) := by decide +kernel
theorem dL_law_1244 : decode cL_law 1244 = .ok (.iload_n 3, 1) := by decide +kernel
theorem dL_law_1245 : decode cL_law 1245 = .ok (.iconst 3, 1) := by decide +kernel
theorem dL_law_1246 : decode cL_law 1246 = .ok (.iadd, 1) := by decide +kernel
theorem dL_law_1247 : decode cL_law 1247 = .ok (.iaload, 1) := by decide +kernel
theorem dL_law_1248 : decode cL_law 1248 = .ok (.invokevirtual 171, 3) := by decide +kernel
theorem dL_law_1251 : decode cL_law 1251 = .ok (.if_icmp .eq 94, 3) := by decide +kernel
theorem dL_law_1254 : decode cL_law 1254 = .ok (.iconst 0, 1) := by decide +kernel
theorem dL_law_1255 : decode cL_law 1255 = .ok (.ireturn, 1) := by decide +kernel
theorem dL_law_1256 : decode cL_law 1256 = .ok (.aload_n 1, 1) := by decide +kernel
theorem dL_law_1257 : decode cL_law 1257 = .ok (.aload_n 0, 1) := by decide +kernel
theorem dL_law_1258 : decode cL_law 1258 = .ok (.iload_n 3, 1) := by decide +kernel
theorem dL_law_1259 : decode cL_law 1259 = .ok (.iconst 1, 1) := by decide +kernel
theorem dL_law_1260 : decode cL_law 1260 = .ok (.iadd, 1) := by decide +kernel
theorem dL_law_1261 : decode cL_law 1261 = .ok (.iaload, 1) := by decide +kernel
theorem dL_law_1262 : decode cL_law 1262 = .ok (.aload_n 0, 1) := by decide +kernel
theorem dL_law_1263 : decode cL_law 1263 = .ok (.iload_n 3, 1) := by decide +kernel
theorem dL_law_1264 : decode cL_law 1264 = .ok (.iconst 2, 1) := by decide +kernel
theorem dL_law_1265 : decode cL_law 1265 = .ok (.iadd, 1) := by decide +kernel
theorem dL_law_1266 : decode cL_law 1266 = .ok (.iaload, 1) := by decide +kernel
theorem dL_law_1267 : decode cL_law 1267 = .ok (.aload_n 0, 1) := by decide +kernel
theorem dL_law_1268 : decode cL_law 1268 = .ok (.iload_n 3, 1) := by decide +kernel
theorem dL_law_1269 : decode cL_law 1269 = .ok (.iconst 3, 1) := by decide +kernel
theorem dL_law_1270 : decode cL_law 1270 = .ok (.iadd, 1) := by decide +kernel
theorem dL_law_1271 : decode cL_law 1271 = .ok (.iaload, 1) := by decide +kernel
theorem dL_law_1272 : decode cL_law 1272 = .ok (.aload_n 0, 1) := by decide +kernel
theorem dL_law_1273 : decode cL_law 1273 = .ok (.iload_n 3, 1) := by decide +kernel
theorem dL_law_1274 : decode cL_law 1274 = .ok (.iconst 4, 1) := by decide +kernel
theorem dL_law_1275 : decode cL_law 1275 = .ok (.iadd, 1) := by decide +kernel
theorem dL_law_1276 : decode cL_law 1276 = .ok (.iaload, 1) := by decide +kernel
theorem dL_law_1277 : decode cL_law 1277 = .ok (.invokevirtual 172, 3) := by decide +kernel
theorem dL_law_1280 : decode cL_law 1280 = .ok (.aload_n 2, 1) := by decide +kernel
theorem dL_law_1281 : decode cL_law 1281 = .ok (.aload_n 0, 1) := by decide +kernel
theorem dL_law_1282 : decode cL_law 1282 = .ok (.iload_n 3, 1) := by decide +kernel
theorem dL_law_1283 : decode cL_law 1283 = .ok (.iconst 1, 1) := by decide +kernel
theorem dL_law_1284 : decode cL_law 1284 = .ok (.iadd, 1) := by decide +kernel
theorem dL_law_1285 : decode cL_law 1285 = .ok (.iaload, 1) := by decide +kernel
theorem dL_law_1286 : decode cL_law 1286 = .ok (.aload_n 0, 1) := by decide +kernel
theorem dL_law_1287 : decode cL_law 1287 = .ok (.iload_n 3, 1) := by decide +kernel
theorem dL_law_1288 : decode cL_law 1288 = .ok (.iconst 2, 1) := by decide +kernel
theorem dL_law_1289 : decode cL_law 1289 = .ok (.iadd, 1) := by decide +kernel
theorem dL_law_1290 : decode cL_law 1290 = .ok (.iaload, 1) := by decide +kernel
theorem dL_law_1291 : decode cL_law 1291 = .ok (.aload_n 0, 1) := by decide +kernel
theorem dL_law_1292 : decode cL_law 1292 = .ok (.iload_n 3, 1) := by decide +kernel
theorem dL_law_1293 : decode cL_law 1293 = .ok (.iconst 3, 1) := by decide +kernel
theorem dL_law_1294 : decode cL_law 1294 = .ok (.iadd, 1) := by decide +kernel
theorem dL_law_1295 : decode cL_law 1295 = .ok (.iaload, 1) := by decide +kernel
theorem dL_law_1296 : decode cL_law 1296 = .ok (.aload_n 0, 1) := by decide +kernel
theorem dL_law_1297 : decode cL_law 1297 = .ok (.iload_n 3, 1) := by decide +kernel
theorem dL_law_1298 : decode cL_law 1298 = .ok (.iconst 4, 1) := by decide +kernel
theorem dL_law_1299 : decode cL_law 1299 = .ok (.iadd, 1) := by decide +kernel
theorem dL_law_1300 : decode cL_law 1300 = .ok (.iaload, 1) := by decide +kernel
theorem dL_law_1301 : decode cL_law 1301 = .ok (.invokevirtual 176, 3) := by decide +kernel
theorem dL_law_1304 : decode cL_law 1304 = .ok (.if_icmp .eq 41, 3) := by decide +kernel
theorem dL_law_1307 : decode cL_law 1307 = .ok (.iconst 0, 1) := by decide +kernel
theorem dL_law_1308 : decode cL_law 1308 = .ok (.ireturn, 1) := by decide +kernel
theorem dL_law_1309 : decode cL_law 1309 = .ok (.aload_n 1, 1) := by decide +kernel
theorem dL_law_1310 : decode cL_law 1310 = .ok (.invokevirtual 177, 3) := by decide +kernel
theorem dL_law_1313 : decode cL_law 1313 = .ok (.aload_n 2, 1) := by decide +kernel
theorem dL_law_1314 : decode cL_law 1314 = .ok (.invokevirtual 180, 3) := by decide +kernel
theorem dL_law_1317 : decode cL_law 1317 = .ok (.if_icmp .eq 28, 3) := by decide +kernel
theorem dL_law_1320 : decode cL_law 1320 = .ok (.iconst 0, 1) := by decide +kernel
theorem dL_law_1321 : decode cL_law 1321 = .ok (.ireturn, 1) := by decide +kernel
theorem dL_law_1322 : decode cL_law 1322 = .ok (.aload_n 1, 1) := by decide +kernel
theorem dL_law_1323 : decode cL_law 1323 = .ok (.aload_n 0, 1) := by decide +kernel
theorem dL_law_1324 : decode cL_law 1324 = .ok (.iload_n 3, 1) := by decide +kernel
theorem dL_law_1325 : decode cL_law 1325 = .ok (.iconst 1, 1) := by decide +kernel
theorem dL_law_1326 : decode cL_law 1326 = .ok (.iadd, 1) := by decide +kernel
theorem dL_law_1327 : decode cL_law 1327 = .ok (.iaload, 1) := by decide +kernel
theorem dL_law_1328 : decode cL_law 1328 = .ok (.invokevirtual 181, 3) := by decide +kernel
theorem dL_law_1331 : decode cL_law 1331 = .ok (.aload_n 2, 1) := by decide +kernel
theorem dL_law_1332 : decode cL_law 1332 = .ok (.aload_n 0, 1) := by decide +kernel
theorem dL_law_1333 : decode cL_law 1333 = .ok (.iload_n 3, 1) := by decide +kernel
theorem dL_law_1334 : decode cL_law 1334 = .ok (.iconst 1, 1) := by decide +kernel
theorem dL_law_1335 : decode cL_law 1335 = .ok (.iadd, 1) := by decide +kernel
theorem dL_law_1336 : decode cL_law 1336 = .ok (.iaload, 1) := by decide +kernel
theorem dL_law_1337 : decode cL_law 1337 = .ok (.invokevirtual 184, 3) := by decide +kernel
theorem dL_law_1340 : decode cL_law 1340 = .ok (.if_icmp .eq 5, 3) := by decide +kernel
theorem dL_law_1343 : decode cL_law 1343 = .ok (.iconst 0, 1) := by decide +kernel
theorem dL_law_1344 : decode cL_law 1344 = .ok (.ireturn, 1) := by decide +kernel
theorem dL_law_1345 : decode cL_law 1345 = .ok (.iinc 3 5, 3) := by decide +kernel
theorem dL_law_1348 : decode cL_law 1348 = .ok (.goto (-1330), 3) := by decide +kernel
theorem dL_law_1351 : decode cL_law 1351 = .ok (.iconst 1, 1) := by decide +kernel
theorem dL_law_1352 : decode cL_law 1352 = .ok (.ireturn, 1) := by decide +kernel
end
section
/-! THE LAYER: one world for the class and the reference, its cells by number; refs in locals and stack are numbers of cells, 'ad' gives their addresses; the world's numbers are one function I : cell → slot → Int32 -/
abbrev Wo : Type := Nat → Nat → Int32
def cv (ad : Nat → Nat) (v : Value) : Value := match v with
  | .ref k => .ref (ad k)
  | v => v
theorem cv_cat (ad : Nat → Nat) (v : Value) : (cv ad v).category = v.category := by cases v <;> rfl
theorem cv_cats (ad : Nat → Nat) (st : List Value) : ((st.map (cv ad)).map fun v => v.category) = st.map fun v => v.category := by
  rw [List.map_map]; exact List.map_congr_left fun v _ => cv_cat ad v
abbrev Sh : Type := (Nat × List (Option Nat)) ⊕ ((Nat × Nat) ⊕ (Nat × List Nat))
def fieldsOf (ad : Nat → Nat) (f : Nat → Int32) (fs : List (Option Nat)) : List Value := fs.zipIdx.map (fun q => match q.1 with
  | none => Value.int (f q.2)
  | some r => Value.ref (ad r))
def cellOf (ad : Nat → Nat) (cy : Nat → ClassId) (f : Nat → Int32) (sh : Sh) : va_E := match sh with
  | .inl o => .inr (o.1, fieldsOf ad f o.2)
  | .inr (.inl a) => .inl (cy a.1, a.2, .inl f)
  | .inr (.inr a) => .inl (cy a.1, a.2.length, .inr (.inr (.inr (.inr (fun j => some (ad (a.2.getD j 0)))))))
def shL : List Sh := [.inl (6, [some 1, some 10, some 19, some 38, some 39, some 41, some 50, some 51, some 53, some 56, none, none]),
  .inl (3, [some 2, some 3, some 4, some 5, some 6, some 7, some 8, some 9, none, none, none, none, none, none, none]),
  .inr (.inl (0, 8)),
  .inr (.inl (0, 8)),
  .inr (.inl (0, 8)),
  .inr (.inl (0, 8)),
  .inr (.inl (0, 8)),
  .inr (.inl (0, 8)),
  .inr (.inl (0, 6)),
  .inr (.inl (0, 6)),
  .inl (3, [some 11, some 12, some 13, some 14, some 15, some 16, some 17, some 18, none, none, none, none, none, none, none]),
  .inr (.inl (0, 8)),
  .inr (.inl (0, 8)),
  .inr (.inl (0, 8)),
  .inr (.inl (0, 8)),
  .inr (.inl (0, 8)),
  .inr (.inl (0, 8)),
  .inr (.inl (0, 6)),
  .inr (.inl (0, 6)),
  .inr (.inr (3, [20, 29])),
  .inl (3, [some 21, some 22, some 23, some 24, some 25, some 26, some 27, some 28, none, none, none, none, none, none, none]),
  .inr (.inl (0, 8)),
  .inr (.inl (0, 8)),
  .inr (.inl (0, 8)),
  .inr (.inl (0, 8)),
  .inr (.inl (0, 8)),
  .inr (.inl (0, 8)),
  .inr (.inl (0, 6)),
  .inr (.inl (0, 6)),
  .inl (3, [some 30, some 31, some 32, some 33, some 34, some 35, some 36, some 37, none, none, none, none, none, none, none]),
  .inr (.inl (0, 8)),
  .inr (.inl (0, 8)),
  .inr (.inl (0, 8)),
  .inr (.inl (0, 8)),
  .inr (.inl (0, 8)),
  .inr (.inl (0, 8)),
  .inr (.inl (0, 6)),
  .inr (.inl (0, 6)),
  .inr (.inl (1, 2)),
  .inl (4, [some 40, none, none, none, none, none, none, none, none, none]),
  .inr (.inl (2, 160)),
  .inr (.inr (4, [42, 44, 46, 48])),
  .inl (2, [some 43, none, none]),
  .inr (.inl (0, 40)),
  .inl (2, [some 45, none, none]),
  .inr (.inl (0, 40)),
  .inl (2, [some 47, none, none]),
  .inr (.inl (0, 40)),
  .inl (2, [some 49, none, none]),
  .inr (.inl (0, 40)),
  .inl (5, [none, none, none]),
  .inl (0, [some 52]),
  .inr (.inl (1, 256)),
  .inl (1, [none, none, none, none, none, some 54, some 55]),
  .inr (.inl (0, 6)),
  .inr (.inl (1, 6)),
  .inr (.inl (0, 8)),
  .inl (7, [some 58, some 59, none, some 60, some 61, some 62, some 63, none, some 64, some 65, some 66, none, none, some 67, none, none, none, none, none, none, none, some 68, none, none, some 69, some 70, some 71, some 72, none]),
  .inr (.inl (0, 141)),
  .inr (.inl (1, 2)),
  .inr (.inl (0, 8)),
  .inr (.inl (0, 8)),
  .inr (.inl (0, 8)),
  .inr (.inl (0, 47)),
  .inr (.inl (0, 8)),
  .inr (.inl (0, 8)),
  .inr (.inl (0, 8)),
  .inr (.inl (0, 160)),
  .inr (.inl (0, 8)),
  .inr (.inl (1, 2816)),
  .inr (.inl (0, 4)),
  .inr (.inl (0, 4)),
  .inr (.inl (0, 160))]
theorem shL_len : shL.length = 73 := rfl
def Wd (ad : Nat → Nat) (cy : Nat → ClassId) (I : Wo) : va_W := shL.zipIdx.map (fun q => (ad q.2, cellOf ad cy (I q.2) q.1))
theorem Wd_get {ad : Nat → Nat} {cy : Nat → ClassId} {I : Wo} {k : Nat} {sh : Sh} (h : shL[k]? = some sh) : (Wd ad cy I)[k]? = some (ad k, cellOf ad cy (I k) sh) := by
  simp [Wd, List.getElem?_map, List.getElem?_zipIdx, h]
theorem Wd_addr {ad : Nat → Nat} {cy : Nat → ClassId} {I : Wo} {k : Nat} {q : Nat × va_E} (h : (Wd ad cy I)[k]? = some q) : k < 73 ∧ q.1 = ad k := by
  cases hs : shL[k]? with
  | none => simp [Wd, List.getElem?_map, List.getElem?_zipIdx, hs] at h
  | some sh =>
    rw [Wd_get hs] at h
    cases h
    exact ⟨shL_len ▸ (List.getElem?_eq_some_iff.mp hs).1, rfl⟩
theorem Wd_set {ad : Nat → Nat} {cy : Nat → ClassId} {I : Wo} {k : Nat} {sh : Sh} (h : shL[k]? = some sh) (f : Nat → Int32) : (Wd ad cy I).set k (ad k, cellOf ad cy f sh) = Wd ad cy (va_up I k f) := by
  apply List.ext_getElem?
  intro i
  by_cases hi : i = k
  · subst hi
    rw [List.getElem?_set_self (List.getElem?_eq_some_iff.mp (Wd_get h)).1, Wd_get h]
    simp [va_up]
  · rw [List.getElem?_set_ne (Ne.symm hi)]
    cases hs : shL[i]? with
    | none => simp [Wd, List.getElem?_map, List.getElem?_zipIdx, hs]
    | some sh' => rw [Wd_get hs, Wd_get hs]; simp [va_up, hi]
/-- one slot of one cell anew -/
def w2 (I : Wo) (k j : Nat) (v : Int32) : Wo := fun a b => if a = k ∧ b = j then v else I a b
theorem w2_up (I : Wo) (k j : Nat) (v : Int32) : va_up I k (upd (I k) j v) = w2 I k j v := by
  funext a b
  by_cases h : a = k
  · subst h; by_cases h2 : b = j <;> simp [va_up, upd, w2, h2]
  · simp [va_up, w2, h]
theorem fieldsOf_get {ad : Nat → Nat} {f : Nat → Int32} {fs : List (Option Nat)} {j : Nat} : (fieldsOf ad f fs)[j]? = (fs[j]?).map (fun q => match q with
  | none => Value.int (f j)
  | some r => Value.ref (ad r)) := by
  cases h : fs[j]? <;> simp [fieldsOf, List.getElem?_map, List.getElem?_zipIdx, h]
theorem fieldsOf_len {ad : Nat → Nat} {f : Nat → Int32} {fs : List (Option Nat)} : (fieldsOf ad f fs).length = fs.length := by simp [fieldsOf]
theorem fieldsOf_set {ad : Nat → Nat} {f : Nat → Int32} {fs : List (Option Nat)} {j : Nat} (h : fs[j]? = some none) (v : Int32) : (fieldsOf ad f fs).set j (.int v) = fieldsOf ad (upd f j v) fs := by
  apply List.ext_getElem?
  intro i
  by_cases hi : i = j
  · subst hi
    have hl := (List.getElem?_eq_some_iff.mp h).1
    rw [List.getElem?_set_self (by rw [fieldsOf_len]; exact hl), fieldsOf_get, h]
    simp [upd]
  · rw [List.getElem?_set_ne (Ne.symm hi), fieldsOf_get, fieldsOf_get]
    simp [upd, hi]
def Aw (ad : Nat → Nat) (q : Nat) : Prop := ∃ k : Nat, k < 73 ∧ q = ad k
def Dj (ad : Nat → Nat) : Prop := ∀ i j : Nat, i < 73 → j < 73 → ad i = ad j → i = j
theorem Wd_D {ad : Nat → Nat} {cy : Nat → ClassId} {I : Wo} {A : Nat → Prop} (hj : Dj ad) (hA : ∀ k : Nat, k < 73 → A (ad k)) : va_D A (Wd ad cy I) := by
  refine ⟨fun i j p q hp hq e => ?_, fun k q hq => ?_⟩
  · obtain ⟨h1, h2⟩ := Wd_addr hp
    obtain ⟨h3, h4⟩ := Wd_addr hq
    exact hj i j h1 h3 (by rw [← h2, ← h4, e])
  · obtain ⟨h1, h2⟩ := Wd_addr hq
    rw [h2]; exact hA k h1
/-- what stands beside the world: statics, String constants -/
def factL : List Int32 := [1, 1, 2, 6, 24, 120, 720, 5040, 40320]
def strI : List Nat := [82, 92, 94, 96, 100, 104, 108, 147]
def strT : List String := ["river", "bridge", "ferry", "end", "plan", "said", "day", "unless"]
def strN : List Nat := [5, 6, 5, 3, 4, 4, 3, 6]
def strB : List (List Int32) := [[114, 105, 118, 101, 114], [98, 114, 105, 100, 103, 101], [102, 101, 114, 114, 121], [101, 110, 100], [112, 108, 97, 110], [115, 97, 105, 100], [100, 97, 121], [117, 110, 108, 101, 115, 115]]
def Zs (ad : Nat → Nat) (A : Nat → Prop) (U : State) (H : Heap) : Prop :=
  va_Z "RiverSuit" "FACTORIALS" "[I" (.ref (ad 80)) A U H ∧ va_T .int (ad 80) 9 (fun j => .int (factL.getD j 0)) A U H ∧ va_Z "java/lang/String" "COMPACT_STRINGS" "Z" (.int 1) A U H ∧
  va_Zq "jdk/internal/util/Preconditions" "SIOOBE_FORMATTER" "Ljava/util/function/BiFunction;" A U H ∧ vk_S 8 strN strB (fun i => ad (81 + i)) (fun i => ad (90 + i)) A U H
theorem Zs.moved {ad : Nat → Nat} {A : Nat → Prop} {u U : State} {H : Heap} (hvm : u.vm.Alike U.vm) (h : Zs ad A u H) : Zs ad A U H := ⟨h.1.moved hvm, h.2.1.moved hvm, h.2.2.1.moved hvm, h.2.2.2.1.moved hvm, h.2.2.2.2.moved hvm⟩
theorem Zs.kept {ad : Nat → Nat} {A : Nat → Prop} {U : State} {H H1 : Heap} (h : Zs ad A U H) (hq : ∀ a : Nat, a < H.size → ¬ A a → H1[a]? = H[a]?) : Zs ad A U H1 := ⟨h.1.kept hq, h.2.1.kept hq, h.2.2.1.kept hq, h.2.2.2.1.kept hq, h.2.2.2.2.kept hq⟩
theorem Zs.narrow {ad : Nat → Nat} {A B : Nat → Prop} {U : State} {H : Heap} (h : Zs ad A U H) (hAB : ∀ q, B q → A q) : Zs ad B U H := ⟨h.1.narrow hAB, h.2.1.narrow hAB, h.2.2.1.narrow hAB, h.2.2.2.1.narrow hAB, h.2.2.2.2.narrow hAB⟩
def Ns (ad : Nat → Nat) (U : State) : Prop :=
  va_Nw (.methodLinkNest "RiverSuit$Sheet" 26 yX6_within "RiverSuit") U ∧ va_Nw (.methodLinkNest "RiverSuit$Tape" 160 yX6_within "RiverSuit") U ∧ ∀ i : Nat, i < 8 → vk_R "RiverSuit$Tape" (strI.getD i 0) (strT.getD i "") (ad (81 + i)) U
theorem Ns.warm {ad : Nat → Nat} {s U : State} (hW : s.WarmedH U.vm) (h : Ns ad s) : Ns ad U := ⟨h.1.warmM hW, h.2.1.warmM hW, fun i hi => (h.2.2 i hi).warm hW⟩
theorem Ns.same {ad : Nat → Nat} {u U : State} (hv : U.vm = u.vm) (h : Ns ad u) : Ns ad U := ⟨h.1.same rfl hv.symm, h.2.1.same rfl hv.symm, fun i hi => (h.2.2 i hi).same hv⟩
abbrev tysW (cy : Nat → ClassId) : List (ClassId × FieldType) := [(cy 0, .int), (cy 1, .boolean), (cy 2, .byte), (cy 3, .object "RiverSuit$Suit"), (cy 4, .object "RiverSuit$Sheet")]
/-- the world holds I, in state U -/
def WF (D : va_G) (ad : Nat → Nat) (cy : Nat → ClassId) (I : Wo) (U : State) : Prop :=
  Dj ad ∧ va_P D vwCl (Wd ad cy I) U.heap ∧ va_K D vwCl (tysW cy) U ∧ Zs ad (Aw ad) U U.heap ∧ Ns ad U
def Qg (post : Option Value → Wo → Prop) (D : va_G) (ad : Nat → Nat) (cy : Nat → ClassId) : Array Value → State → Outcome → State → Prop := fun _ st oc t =>
  (∃ (v : Option Value) (u : Wo), oc = .returned v ∧ post v u ∧ va_P D vwCl (Wd ad cy u) t.heap) ∧ va_F (Aw ad) st t
/-- a method's contract: from the world I with these arguments it returns, 'post' of its answer and the new world -/
def Ct (y : MethodName) (b : ByteArray) (nL : Nat) (ret : Option FieldType) (fr lo : Nat) (As : List Value) (I : Wo) (post : Option Value → Wo → Prop) : Prop :=
  ∀ (l : Launch) (D : va_G) (ad : Nat → Nat) (cy : Nat → ClassId), Met l y (.code y b nL ret :: lw_g) { frames := fr, cells := 0, slots := 0, locals := lo } (va_Pc (As.map (cv ad)) (WF D ad cy I)) (Qg post D ad cy) 0 0 (Aw ad)
theorem WF.blind {av : List Value} {D : va_G} {ad : Nat → Nat} {cy : Nat → ClassId} {I : Wo} : FrameBlind (va_Pc av (WF D ad cy I)) := by
  intro a U g mk q
  obtain ⟨h1, h2, h3, h4, h5, h6⟩ := q
  exact ⟨h1, h2, h3, va_K.moved (u := U) (U := U.calling g mk a) (Vm.Alike.refl U.vm) h4, Zs.moved (u := U) (U := U.calling g mk a) (Vm.Alike.refl U.vm) h5, Ns.same (u := U) (U := U.calling g mk a) rfl h6⟩
abbrev Cx := Program × Launch × Env × Room × State × MethodId × Array Value × List Frame × Method × Code × va_G × (Nat → Nat) × (Nat → ClassId) × (Nat → Prop) × (State → Prop) × Nat × Nat
/-- the locals that are known -/
def lo_has (ad : Nat → Nat) (la : Array Slot) (nL : Nat) (l : List (Option Value)) : Prop := la.size = nL ∧ lv_wf la ∧ ∀ (i : Nat) (v : Value), l[i]? = some (some v) → la[i]? = some (.val (cv ad v))
/-- the machine, at pc with these locals and this stack over the world I, comes to its end -/
def GW (X : Cx) (nL pc : Nat) (ls : List (Option Value)) (st : List Value) (I : Wo) : Prop := match X with
  | (p, l, e, R, s, m, args, below, meth, c, D, ad, cy, A, Q, kc, ks) => ∀ (la : Array Slot) (H : Heap) (locs : List Loc), lo_has ad la nL ls → va_P D vwCl (Wd ad cy I) H → va_S A s.heap H locs → W p l e R s m args below meth c H locs kc ks Q (F0 m pc la (st.map (cv ad)))
def Fx (X : Cx) (cc : ByteArray) (nL : Nat) (own : String) (fr lo : Nat) : Prop := match X with
  | (p, l, e, R, s, m, args, below, meth, c, D, ad, cy, A, Q, kc, ks) => CallFix p m c cc nL s args lw_g own ∧ Dj ad ∧ (∀ k : Nat, k < 73 → A (ad k)) ∧ va_K D vwCl (tysW cy) s ∧ Zs ad A s s.heap ∧ Ns ad s ∧ fr ≤ R.frames ∧ lo ≤ R.locals ∧ kc ≤ R.cells ∧ ks ≤ R.slots
def Rx (X : Cx) (ret : Option FieldType) (post : Option Value → Wo → Prop) : Prop := match X with
  | (p, l, e, R, s, m, args, below, meth, c, D, ad, cy, A, Q, kc, ks) => meth.sig.returnType = ret ∧ meth.locks = false ∧ A = Aw ad ∧ Q = MQ below (Qg post D ad cy) args s kc ks (Aw ad)
/-! the locals -/
def lpairs (ad : Nat → Nat) (l : List (Option Value)) : List (Nat × Value) := (List.range l.length).filterMap (fun j => (l[j]?).bind (fun o => o.map (fun w => (j, cv ad w))))
theorem lpairs_mem {ad : Nat → Nat} {l : List (Option Value)} {q : Nat × Value} : q ∈ lpairs ad l ↔ ∃ w, l[q.1]? = some (some w) ∧ q.2 = cv ad w := by
  simp only [lpairs, List.mem_filterMap, List.mem_range]
  constructor
  · rintro ⟨j, hj, h⟩
    cases ho : l[j]? with
    | none => simp [ho] at h
    | some o => cases o with
      | none => simp [ho] at h
      | some w => simp [ho] at h; subst h; exact ⟨w, ho, rfl⟩
  · rintro ⟨w, h1, h2⟩
    refine ⟨q.1, (List.getElem?_eq_some_iff.mp h1).1, ?_⟩
    obtain ⟨a, b⟩ := q
    simp only at h1 h2
    simp [h1, h2]
theorem lo_lv {ad : Nat → Nat} {la : Array Slot} {nL : Nat} {l : List (Option Value)} (h : lo_has ad la nL l) : lv_has la nL (lpairs ad l) := by
  refine ⟨h.1, h.2.1, fun q hq => ?_⟩
  obtain ⟨w, h1, h2⟩ := lpairs_mem.mp hq
  rw [h.2.2 _ _ h1, h2]
/-- no long stands just below place i -/
def lfree (l : List (Option Value)) (i : Nat) : Bool := match i with
  | 0 => true
  | j + 1 => match l[j]? with
    | some (some v) => v.category == 1
    | _ => true
theorem lfree_not {l : List (Option Value)} {i j : Nat} {w : Value} (h : lfree l i = true) (hj : j + 1 = i) (hw : l[j]? = some (some w)) : ¬ w.category = 2 := by
  subst hj
  simp [lfree, hw] at h
  omega
theorem lo_store1 {ad : Nat → Nat} {la : Array Slot} {nL i : Nat} {l : List (Option Value)} {v : Value} (h : lo_has ad la nL l) (hn : i < nL) (hf : lfree l i = true) {la' : Array Slot}
    (h' : lv_has la' nL ((i, cv ad v) :: (lpairs ad l).filter (fun q => !(q.1 == i) && !(q.1 + 1 == i && q.2.category == 2)))) : lo_has ad la' nL (l.set i (some v)) := by
  refine ⟨h'.1, h'.2.1, fun j w hj => ?_⟩
  by_cases e : i = j
  · subst e
    have hl := (List.getElem?_eq_some_iff.mp hj).1
    rw [List.getElem?_set_self (by simpa using hl)] at hj
    cases hj
    exact h'.2.2 (i, cv ad v) List.mem_cons_self
  · rw [List.getElem?_set_ne e] at hj
    refine h'.2.2 (j, cv ad w) (List.mem_cons_of_mem _ (List.mem_filter.mpr ⟨lpairs_mem.mpr ⟨w, hj, rfl⟩, ?_⟩))
    simp only [Bool.and_eq_true, Bool.not_eq_true', beq_eq_false_iff_ne, ne_eq, Bool.and_eq_false_iff]
    refine ⟨fun z => e z.symm, ?_⟩
    by_cases e2 : j + 1 = i
    · right; rw [cv_cat]; exact lfree_not hf e2 hj
    · left; exact e2
theorem lo_store2 {ad : Nat → Nat} {la : Array Slot} {nL i : Nat} {l : List (Option Value)} {v : Value} (h : lo_has ad la nL l) (hn : i + 1 < nL) (hf : lfree l i = true) {la' : Array Slot}
    (h' : lv_has la' nL ((i, cv ad v) :: (lpairs ad l).filter (fun q => !(q.1 == i) && (!(q.1 == i + 1) && !(q.1 + 1 == i && q.2.category == 2))))) : lo_has ad la' nL ((l.set i (some v)).set (i + 1) none) := by
  refine ⟨h'.1, h'.2.1, fun j w hj => ?_⟩
  by_cases e1 : i + 1 = j
  · subst e1
    have hl := (List.getElem?_eq_some_iff.mp hj).1
    rw [List.getElem?_set_self (by simpa using hl)] at hj
    cases hj
  · rw [List.getElem?_set_ne e1] at hj
    by_cases e : i = j
    · subst e
      have hl := (List.getElem?_eq_some_iff.mp hj).1
      rw [List.getElem?_set_self (by simpa using hl)] at hj
      cases hj
      exact h'.2.2 (i, cv ad v) List.mem_cons_self
    · rw [List.getElem?_set_ne e] at hj
      refine h'.2.2 (j, cv ad w) (List.mem_cons_of_mem _ (List.mem_filter.mpr ⟨lpairs_mem.mpr ⟨w, hj, rfl⟩, ?_⟩))
      simp only [Bool.and_eq_true, Bool.not_eq_true', beq_eq_false_iff_ne, ne_eq, Bool.and_eq_false_iff]
      refine ⟨fun z => e z.symm, fun z => e1 z.symm, ?_⟩
      by_cases e2 : j + 1 = i
      · right; rw [cv_cat]; exact lfree_not hf e2 hj
      · left; exact e2
def lsl : List Value → List (Option Value)
  | [] => []
  | v :: vs => if v.category = 2 then some v :: none :: lsl vs else some v :: lsl vs
theorem lsl_len (ad : Nat → Nat) (vs : List Value) : (lg_sl (vs.map (cv ad))).length = (lsl vs).length := by
  induction vs with
  | nil => rfl
  | cons v vs ih =>
    have e : lg_sl ((v :: vs).map (cv ad)) = (if v.category = 2 then [Slot.val (cv ad v), .second] else [.val (cv ad v)]) ++ lg_sl (vs.map (cv ad)) := by simp [lg_sl, cv_cat]
    rw [e]
    by_cases h : v.category = 2 <;> simp [lsl, h, ih] <;> omega
theorem lsl_args (ad : Nat → Nat) (vs : List Value) : ∀ (k i : Nat) (w : Value), (lsl vs)[i]? = some (some w) → (k + i, cv ad w) ∈ lv_args k (vs.map (cv ad)) := by
  induction vs with
  | nil => intro k i w h; simp [lsl] at h
  | cons v vs ih =>
    intro k i w h
    simp only [List.map_cons, lv_args, cv_cat]
    by_cases hc : v.category = 2
    · simp only [lsl, hc, if_true] at h ⊢
      match i, h with
      | 0, h => simp at h; subst h; exact List.mem_cons_self
      | 1, h => simp at h
      | i + 2, h =>
        have := ih (k + 2) i w (by simpa using h)
        rw [show k + (i + 2) = k + 2 + i by omega]
        exact List.mem_cons_of_mem _ this
    · simp only [lsl, hc, if_false] at h ⊢
      match i, h with
      | 0, h => simp at h; subst h; exact List.mem_cons_self
      | i + 1, h =>
        have := ih (k + 1) i w (by simpa using h)
        rw [show k + (i + 1) = k + 1 + i by omega]
        exact List.mem_cons_of_mem _ this
def lini (As : List Value) (nL : Nat) : List (Option Value) := lsl As ++ List.replicate (nL - (lsl As).length) none
theorem lini_has (ad : Nat → Nat) {As : List Value} {nL : Nat} (h : (lsl As).length ≤ nL) : lo_has ad ((lg_sl (As.map (cv ad)) ++ List.replicate (nL - (lg_sl (As.map (cv ad))).length) Slot.unset).toArray) nL (lini As nL) := by
  have hl := lv_entry (As.map (cv ad)) (n := nL) (by rw [lsl_len]; exact h)
  refine ⟨hl.1, hl.2.1, fun i v hi => ?_⟩
  rcases Nat.lt_or_ge i (lsl As).length with q | q
  · rw [lini, List.getElem?_append_left q] at hi
    have := hl.2.2 _ (lsl_args ad As 0 i v hi)
    simpa using this
  · rw [lini, List.getElem?_append_right q] at hi
    have := List.mem_of_getElem? hi
    simp at this
/-- a method out of its walk -/
theorem ct_of {y : MethodName} {b : ByteArray} {nL : Nat} {ret : Option FieldType} {fr lo : Nat} {As : List Value} {I : Wo} {post : Option Value → Wo → Prop} (own : String) (hown : y.cls = own) (hy : plainName y.cls = true) (hlen : (lsl As).length ≤ nL)
    (h : ∀ X : Cx, Fx X b nL own fr lo → Rx X ret post → GW X nL 0 (lini As nL) [] I) : Ct y b nL ret fr lo As I post := by
  intro l D ad cy
  refine Met.ofW (cc := b) (maxL := nL) (ret := ret) hy rfl ?_
  intro p e s m args below meth c s₁ B hml hv
  obtain ⟨rfl, hj, hP, hK, hZ, hN⟩ := hv
  have hts := atoms_spec (ws := .code y b nL ret :: lw_g) B.pre
  have hown' : s.vm.findClass own = some m.cls := hown ▸ findClass_of_methodNamed B.named
  rw [lg_entry_eq]
  exact h (p, l, e, _, s, m, _, below, meth, c, D, ad, cy, Aw ad, _, 0, 0)
    ⟨⟨B.exec, B.bytes, hml, hown', fun w hw => hts w (List.mem_cons_of_mem _ hw)⟩, hj, fun k hk => ⟨k, hk, rfl⟩, hK, hZ, hN, Nat.le_refl _, Nat.le_refl _, Nat.zero_le _, Nat.zero_le _⟩
    ⟨B.returns, B.notSynchronized, rfl, rfl⟩ _ _ _ (lini_has ad hlen) hP va_S.rf
end
section
section RULES
variable {X : Cx} {cc : ByteArray} {nL fr lo pc : Nat} {own : String} {ls : List (Option Value)} {st : List Value} {I : Wo}
theorem g_iconst (B : Fx X cc nL own fr lo) {n : Int} {v : Int32} (d : decode cc pc = .ok (.iconst n, 1)) (hv : Int32.ofInt n = v) (k : GW X nL (pc + 1) ls (.int v :: st) I) : GW X nL pc ls (st) I := by
  obtain ⟨p, l, e, R, s, m, args, below, meth, c, D, ad, cy, A, Q, kc, ks⟩ := X
  obtain ⟨⟨hx, hb, hml, hown, hts⟩, hj, hA, hK, hZ, hN, hfr, hlo, hkc, hks⟩ := B
  intro la H locs hl hP hS
  exact lv_iconst hx hb d hv (k la H locs hl hP hS)
theorem g_bipush (B : Fx X cc nL own fr lo) {n : Int} {v : Int32} (d : decode cc pc = .ok (.bipush n, 2)) (hv : (Int8.ofInt n).toInt32 = v) (k : GW X nL (pc + 2) ls (.int v :: st) I) : GW X nL pc ls (st) I := by
  obtain ⟨p, l, e, R, s, m, args, below, meth, c, D, ad, cy, A, Q, kc, ks⟩ := X
  obtain ⟨⟨hx, hb, hml, hown, hts⟩, hj, hA, hK, hZ, hN, hfr, hlo, hkc, hks⟩ := B
  intro la H locs hl hP hS
  exact lv_bipush hx hb d hv (k la H locs hl hP hS)
theorem g_sipush (B : Fx X cc nL own fr lo) {n : Int} {v : Int32} (d : decode cc pc = .ok (.sipush n, 3)) (hv : (Int16.ofInt n).toInt32 = v) (k : GW X nL (pc + 3) ls (.int v :: st) I) : GW X nL pc ls (st) I := by
  obtain ⟨p, l, e, R, s, m, args, below, meth, c, D, ad, cy, A, Q, kc, ks⟩ := X
  obtain ⟨⟨hx, hb, hml, hown, hts⟩, hj, hA, hK, hZ, hN, hfr, hlo, hkc, hks⟩ := B
  intro la H locs hl hP hS
  exact lv_sipush hx hb d hv (k la H locs hl hP hS)
theorem g_lconst (B : Fx X cc nL own fr lo) {n : Fin 2} {v : Int64} (d : decode cc pc = .ok (.lconst n, 1)) (hv : Int64.ofNat (n : Nat) = v) (k : GW X nL (pc + 1) ls (.long v :: st) I) : GW X nL pc ls (st) I := by
  obtain ⟨p, l, e, R, s, m, args, below, meth, c, D, ad, cy, A, Q, kc, ks⟩ := X
  obtain ⟨⟨hx, hb, hml, hown, hts⟩, hj, hA, hK, hZ, hN, hfr, hlo, hkc, hks⟩ := B
  intro la H locs hl hP hS
  exact lv_lconst hx hb d hv (k la H locs hl hP hS)
theorem g_ldc (B : Fx X cc nL own fr lo) {ix : Nat} {v : Int32} (d : decode cc pc = .ok (.ldc ix, 2)) (hc : Cond.constant own ix v ∈ lw_g) (k : GW X nL (pc + 2) ls (.int v :: st) I) : GW X nL pc ls (st) I := by
  obtain ⟨p, l, e, R, s, m, args, below, meth, c, D, ad, cy, A, Q, kc, ks⟩ := X
  obtain ⟨⟨hx, hb, hml, hown, hts⟩, hj, hA, hK, hZ, hN, hfr, hlo, hkc, hks⟩ := B
  intro la H locs hl hP hS
  exact lv_ldc hx hb hown (hts _ hc) d (k la H locs hl hP hS)
theorem g_ldcw (B : Fx X cc nL own fr lo) {ix : Nat} {v : Int32} (d : decode cc pc = .ok (.ldc_w ix, 3)) (hc : Cond.constant own ix v ∈ lw_g) (k : GW X nL (pc + 3) ls (.int v :: st) I) : GW X nL pc ls (st) I := by
  obtain ⟨p, l, e, R, s, m, args, below, meth, c, D, ad, cy, A, Q, kc, ks⟩ := X
  obtain ⟨⟨hx, hb, hml, hown, hts⟩, hj, hA, hK, hZ, hN, hfr, hlo, hkc, hks⟩ := B
  intro la H locs hl hP hS
  exact lv_ldcw hx hb hown (hts _ hc) d (k la H locs hl hP hS)
theorem g_ldc2 (B : Fx X cc nL own fr lo) {ix : Nat} {v : Int64} (d : decode cc pc = .ok (.ldc2_w ix, 3)) (hc : Cond.constantLong own ix v ∈ lw_g) (k : GW X nL (pc + 3) ls (.long v :: st) I) : GW X nL pc ls (st) I := by
  obtain ⟨p, l, e, R, s, m, args, below, meth, c, D, ad, cy, A, Q, kc, ks⟩ := X
  obtain ⟨⟨hx, hb, hml, hown, hts⟩, hj, hA, hK, hZ, hN, hfr, hlo, hkc, hks⟩ := B
  intro la H locs hl hP hS
  exact lv_ldc2 hx hb hown (hts _ hc) d (k la H locs hl hP hS)
theorem g_iload_n (B : Fx X cc nL own fr lo) {i : Fin 4} {x : Int32} (d : decode cc pc = .ok (.iload_n i, 1)) (h : ls[(i : Nat)]? = some (some (.int x))) (k : GW X nL (pc + 1) ls (.int x :: st) I) : GW X nL pc ls (st) I := by
  obtain ⟨p, l, e, R, s, m, args, below, meth, c, D, ad, cy, A, Q, kc, ks⟩ := X
  obtain ⟨⟨hx, hb, hml, hown, hts⟩, hj, hA, hK, hZ, hN, hfr, hlo, hkc, hks⟩ := B
  intro la H locs hl hP hS
  exact lv_iload_n hx hb d rfl (hl.2.2 _ _ h) (k la H locs hl hP hS)
theorem g_iload (B : Fx X cc nL own fr lo) {i : Nat} {x : Int32} (d : decode cc pc = .ok (.iload i, 2)) (h : ls[i]? = some (some (.int x))) (k : GW X nL (pc + 2) ls (.int x :: st) I) : GW X nL pc ls (st) I := by
  obtain ⟨p, l, e, R, s, m, args, below, meth, c, D, ad, cy, A, Q, kc, ks⟩ := X
  obtain ⟨⟨hx, hb, hml, hown, hts⟩, hj, hA, hK, hZ, hN, hfr, hlo, hkc, hks⟩ := B
  intro la H locs hl hP hS
  exact lv_iload hx hb d (hl.2.2 _ _ h) (k la H locs hl hP hS)
theorem g_lload_n (B : Fx X cc nL own fr lo) {i : Fin 4} {x : Int64} (d : decode cc pc = .ok (.lload_n i, 1)) (h : ls[(i : Nat)]? = some (some (.long x))) (k : GW X nL (pc + 1) ls (.long x :: st) I) : GW X nL pc ls (st) I := by
  obtain ⟨p, l, e, R, s, m, args, below, meth, c, D, ad, cy, A, Q, kc, ks⟩ := X
  obtain ⟨⟨hx, hb, hml, hown, hts⟩, hj, hA, hK, hZ, hN, hfr, hlo, hkc, hks⟩ := B
  intro la H locs hl hP hS
  exact lv_lload_n hx hb d rfl (hl.2.2 _ _ h) (k la H locs hl hP hS)
theorem g_lload (B : Fx X cc nL own fr lo) {i : Nat} {x : Int64} (d : decode cc pc = .ok (.lload i, 2)) (h : ls[i]? = some (some (.long x))) (k : GW X nL (pc + 2) ls (.long x :: st) I) : GW X nL pc ls (st) I := by
  obtain ⟨p, l, e, R, s, m, args, below, meth, c, D, ad, cy, A, Q, kc, ks⟩ := X
  obtain ⟨⟨hx, hb, hml, hown, hts⟩, hj, hA, hK, hZ, hN, hfr, hlo, hkc, hks⟩ := B
  intro la H locs hl hP hS
  exact lv_lload hx hb d (hl.2.2 _ _ h) (k la H locs hl hP hS)
theorem g_aload_n (B : Fx X cc nL own fr lo) {i : Fin 4} {x : Nat} (d : decode cc pc = .ok (.aload_n i, 1)) (h : ls[(i : Nat)]? = some (some (.ref x))) (k : GW X nL (pc + 1) ls (.ref x :: st) I) : GW X nL pc ls (st) I := by
  obtain ⟨p, l, e, R, s, m, args, below, meth, c, D, ad, cy, A, Q, kc, ks⟩ := X
  obtain ⟨⟨hx, hb, hml, hown, hts⟩, hj, hA, hK, hZ, hN, hfr, hlo, hkc, hks⟩ := B
  intro la H locs hl hP hS
  exact lv_aload_n hx hb d rfl (hl.2.2 _ _ h) (k la H locs hl hP hS)
theorem g_aload (B : Fx X cc nL own fr lo) {i : Nat} {x : Nat} (d : decode cc pc = .ok (.aload i, 2)) (h : ls[i]? = some (some (.ref x))) (k : GW X nL (pc + 2) ls (.ref x :: st) I) : GW X nL pc ls (st) I := by
  obtain ⟨p, l, e, R, s, m, args, below, meth, c, D, ad, cy, A, Q, kc, ks⟩ := X
  obtain ⟨⟨hx, hb, hml, hown, hts⟩, hj, hA, hK, hZ, hN, hfr, hlo, hkc, hks⟩ := B
  intro la H locs hl hP hS
  exact lv_aload hx hb d (hl.2.2 _ _ h) (k la H locs hl hP hS)
theorem g_aload_nN (B : Fx X cc nL own fr lo) {i : Fin 4} (d : decode cc pc = .ok (.aload_n i, 1)) (h : ls[(i : Nat)]? = some (some .null)) (k : GW X nL (pc + 1) ls (.null :: st) I) : GW X nL pc ls (st) I := by
  obtain ⟨p, l, e, R, s, m, args, below, meth, c, D, ad, cy, A, Q, kc, ks⟩ := X
  obtain ⟨⟨hx, hb, hml, hown, hts⟩, hj, hA, hK, hZ, hN, hfr, hlo, hkc, hks⟩ := B
  intro la H locs hl hP hS
  exact lv_aload_nN hx hb d rfl (hl.2.2 _ _ h) (k la H locs hl hP hS)
theorem g_iadd (B : Fx X cc nL own fr lo) {x y : Int32} (d : decode cc pc = .ok (.iadd, 1))  (k : GW X nL (pc + 1) ls (.int (x + y) :: st) I) : GW X nL pc ls (.int y :: .int x :: st) I := by
  obtain ⟨p, l, e, R, s, m, args, below, meth, c, D, ad, cy, A, Q, kc, ks⟩ := X
  obtain ⟨⟨hx, hb, hml, hown, hts⟩, hj, hA, hK, hZ, hN, hfr, hlo, hkc, hks⟩ := B
  intro la H locs hl hP hS
  exact lv_iadd hx hb d (k la H locs hl hP hS)
theorem g_isub (B : Fx X cc nL own fr lo) {x y : Int32} (d : decode cc pc = .ok (.isub, 1))  (k : GW X nL (pc + 1) ls (.int (x - y) :: st) I) : GW X nL pc ls (.int y :: .int x :: st) I := by
  obtain ⟨p, l, e, R, s, m, args, below, meth, c, D, ad, cy, A, Q, kc, ks⟩ := X
  obtain ⟨⟨hx, hb, hml, hown, hts⟩, hj, hA, hK, hZ, hN, hfr, hlo, hkc, hks⟩ := B
  intro la H locs hl hP hS
  exact lv_isub hx hb d (k la H locs hl hP hS)
theorem g_imul (B : Fx X cc nL own fr lo) {x y : Int32} (d : decode cc pc = .ok (.imul, 1))  (k : GW X nL (pc + 1) ls (.int (x * y) :: st) I) : GW X nL pc ls (.int y :: .int x :: st) I := by
  obtain ⟨p, l, e, R, s, m, args, below, meth, c, D, ad, cy, A, Q, kc, ks⟩ := X
  obtain ⟨⟨hx, hb, hml, hown, hts⟩, hj, hA, hK, hZ, hN, hfr, hlo, hkc, hks⟩ := B
  intro la H locs hl hP hS
  exact lv_imul hx hb d (k la H locs hl hP hS)
theorem g_iand (B : Fx X cc nL own fr lo) {x y : Int32} (d : decode cc pc = .ok (.iand, 1))  (k : GW X nL (pc + 1) ls (.int (x &&& y) :: st) I) : GW X nL pc ls (.int y :: .int x :: st) I := by
  obtain ⟨p, l, e, R, s, m, args, below, meth, c, D, ad, cy, A, Q, kc, ks⟩ := X
  obtain ⟨⟨hx, hb, hml, hown, hts⟩, hj, hA, hK, hZ, hN, hfr, hlo, hkc, hks⟩ := B
  intro la H locs hl hP hS
  exact lv_iand hx hb d (k la H locs hl hP hS)
theorem g_ior (B : Fx X cc nL own fr lo) {x y : Int32} (d : decode cc pc = .ok (.ior, 1))  (k : GW X nL (pc + 1) ls (.int (x ||| y) :: st) I) : GW X nL pc ls (.int y :: .int x :: st) I := by
  obtain ⟨p, l, e, R, s, m, args, below, meth, c, D, ad, cy, A, Q, kc, ks⟩ := X
  obtain ⟨⟨hx, hb, hml, hown, hts⟩, hj, hA, hK, hZ, hN, hfr, hlo, hkc, hks⟩ := B
  intro la H locs hl hP hS
  exact lv_ior hx hb d (k la H locs hl hP hS)
theorem g_ixor (B : Fx X cc nL own fr lo) {x y : Int32} (d : decode cc pc = .ok (.ixor, 1))  (k : GW X nL (pc + 1) ls (.int (x ^^^ y) :: st) I) : GW X nL pc ls (.int y :: .int x :: st) I := by
  obtain ⟨p, l, e, R, s, m, args, below, meth, c, D, ad, cy, A, Q, kc, ks⟩ := X
  obtain ⟨⟨hx, hb, hml, hown, hts⟩, hj, hA, hK, hZ, hN, hfr, hlo, hkc, hks⟩ := B
  intro la H locs hl hP hS
  exact lv_ixor hx hb d (k la H locs hl hP hS)
theorem g_ishl (B : Fx X cc nL own fr lo) {x y : Int32} (d : decode cc pc = .ok (.ishl, 1))  (k : GW X nL (pc + 1) ls (.int (x <<< (y &&& 31)) :: st) I) : GW X nL pc ls (.int y :: .int x :: st) I := by
  obtain ⟨p, l, e, R, s, m, args, below, meth, c, D, ad, cy, A, Q, kc, ks⟩ := X
  obtain ⟨⟨hx, hb, hml, hown, hts⟩, hj, hA, hK, hZ, hN, hfr, hlo, hkc, hks⟩ := B
  intro la H locs hl hP hS
  exact lv_ishl hx hb d (k la H locs hl hP hS)
theorem g_ishr (B : Fx X cc nL own fr lo) {x y : Int32} (d : decode cc pc = .ok (.ishr, 1))  (k : GW X nL (pc + 1) ls (.int (x >>> (y &&& 31)) :: st) I) : GW X nL pc ls (.int y :: .int x :: st) I := by
  obtain ⟨p, l, e, R, s, m, args, below, meth, c, D, ad, cy, A, Q, kc, ks⟩ := X
  obtain ⟨⟨hx, hb, hml, hown, hts⟩, hj, hA, hK, hZ, hN, hfr, hlo, hkc, hks⟩ := B
  intro la H locs hl hP hS
  exact lv_ishr hx hb d (k la H locs hl hP hS)
theorem g_iushr (B : Fx X cc nL own fr lo) {x y : Int32} (d : decode cc pc = .ok (.iushr, 1))  (k : GW X nL (pc + 1) ls (.int ((x.toUInt32 >>> (y.toUInt32 &&& Int32.toUInt32 31)).toInt32) :: st) I) : GW X nL pc ls (.int y :: .int x :: st) I := by
  obtain ⟨p, l, e, R, s, m, args, below, meth, c, D, ad, cy, A, Q, kc, ks⟩ := X
  obtain ⟨⟨hx, hb, hml, hown, hts⟩, hj, hA, hK, hZ, hN, hfr, hlo, hkc, hks⟩ := B
  intro la H locs hl hP hS
  exact lv_iushr hx hb d rfl (k la H locs hl hP hS)
theorem g_irem (B : Fx X cc nL own fr lo) {x y : Int32} (d : decode cc pc = .ok (.irem, 1)) (hne : ¬ y = 0) (k : GW X nL (pc + 1) ls (.int (x - x / y * y) :: st) I) : GW X nL pc ls (.int y :: .int x :: st) I := by
  obtain ⟨p, l, e, R, s, m, args, below, meth, c, D, ad, cy, A, Q, kc, ks⟩ := X
  obtain ⟨⟨hx, hb, hml, hown, hts⟩, hj, hA, hK, hZ, hN, hfr, hlo, hkc, hks⟩ := B
  intro la H locs hl hP hS
  exact lv_irem hx hb d hne (k la H locs hl hP hS)
theorem g_ladd (B : Fx X cc nL own fr lo) {x y : Int64} (d : decode cc pc = .ok (.ladd, 1))  (k : GW X nL (pc + 1) ls (.long (x + y) :: st) I) : GW X nL pc ls (.long y :: .long x :: st) I := by
  obtain ⟨p, l, e, R, s, m, args, below, meth, c, D, ad, cy, A, Q, kc, ks⟩ := X
  obtain ⟨⟨hx, hb, hml, hown, hts⟩, hj, hA, hK, hZ, hN, hfr, hlo, hkc, hks⟩ := B
  intro la H locs hl hP hS
  exact lv_ladd hx hb d (k la H locs hl hP hS)
theorem g_lsub (B : Fx X cc nL own fr lo) {x y : Int64} (d : decode cc pc = .ok (.lsub, 1))  (k : GW X nL (pc + 1) ls (.long (x - y) :: st) I) : GW X nL pc ls (.long y :: .long x :: st) I := by
  obtain ⟨p, l, e, R, s, m, args, below, meth, c, D, ad, cy, A, Q, kc, ks⟩ := X
  obtain ⟨⟨hx, hb, hml, hown, hts⟩, hj, hA, hK, hZ, hN, hfr, hlo, hkc, hks⟩ := B
  intro la H locs hl hP hS
  exact lv_lsub hx hb d (k la H locs hl hP hS)
theorem g_lmul (B : Fx X cc nL own fr lo) {x y : Int64} (d : decode cc pc = .ok (.lmul, 1))  (k : GW X nL (pc + 1) ls (.long (x * y) :: st) I) : GW X nL pc ls (.long y :: .long x :: st) I := by
  obtain ⟨p, l, e, R, s, m, args, below, meth, c, D, ad, cy, A, Q, kc, ks⟩ := X
  obtain ⟨⟨hx, hb, hml, hown, hts⟩, hj, hA, hK, hZ, hN, hfr, hlo, hkc, hks⟩ := B
  intro la H locs hl hP hS
  exact lv_lmul hx hb d (k la H locs hl hP hS)
theorem g_ldiv (B : Fx X cc nL own fr lo) {x y : Int64} (d : decode cc pc = .ok (.ldiv, 1)) (hne : ¬ y = 0) (k : GW X nL (pc + 1) ls (.long (x / y) :: st) I) : GW X nL pc ls (.long y :: .long x :: st) I := by
  obtain ⟨p, l, e, R, s, m, args, below, meth, c, D, ad, cy, A, Q, kc, ks⟩ := X
  obtain ⟨⟨hx, hb, hml, hown, hts⟩, hj, hA, hK, hZ, hN, hfr, hlo, hkc, hks⟩ := B
  intro la H locs hl hP hS
  exact lv_ldiv hx hb d hne (k la H locs hl hP hS)
theorem g_lrem (B : Fx X cc nL own fr lo) {x y : Int64} (d : decode cc pc = .ok (.lrem, 1)) (hne : ¬ y = 0) (k : GW X nL (pc + 1) ls (.long (x - x / y * y) :: st) I) : GW X nL pc ls (.long y :: .long x :: st) I := by
  obtain ⟨p, l, e, R, s, m, args, below, meth, c, D, ad, cy, A, Q, kc, ks⟩ := X
  obtain ⟨⟨hx, hb, hml, hown, hts⟩, hj, hA, hK, hZ, hN, hfr, hlo, hkc, hks⟩ := B
  intro la H locs hl hP hS
  exact lv_lrem hx hb d hne (k la H locs hl hP hS)
theorem g_lneg (B : Fx X cc nL own fr lo) {x : Int64} (d : decode cc pc = .ok (.lneg, 1))  (k : GW X nL (pc + 1) ls (.long (-x) :: st) I) : GW X nL pc ls (.long x :: st) I := by
  obtain ⟨p, l, e, R, s, m, args, below, meth, c, D, ad, cy, A, Q, kc, ks⟩ := X
  obtain ⟨⟨hx, hb, hml, hown, hts⟩, hj, hA, hK, hZ, hN, hfr, hlo, hkc, hks⟩ := B
  intro la H locs hl hP hS
  exact lv_lneg hx hb d (k la H locs hl hP hS)
theorem g_i2l (B : Fx X cc nL own fr lo) {x : Int32} (d : decode cc pc = .ok (.i2l, 1))  (k : GW X nL (pc + 1) ls (.long x.toInt64 :: st) I) : GW X nL pc ls (.int x :: st) I := by
  obtain ⟨p, l, e, R, s, m, args, below, meth, c, D, ad, cy, A, Q, kc, ks⟩ := X
  obtain ⟨⟨hx, hb, hml, hown, hts⟩, hj, hA, hK, hZ, hN, hfr, hlo, hkc, hks⟩ := B
  intro la H locs hl hP hS
  exact lv_i2l hx hb d rfl (k la H locs hl hP hS)
theorem g_i2b (B : Fx X cc nL own fr lo) {x : Int32} (d : decode cc pc = .ok (.i2b, 1))  (k : GW X nL (pc + 1) ls (.int x.toInt8.toInt32 :: st) I) : GW X nL pc ls (.int x :: st) I := by
  obtain ⟨p, l, e, R, s, m, args, below, meth, c, D, ad, cy, A, Q, kc, ks⟩ := X
  obtain ⟨⟨hx, hb, hml, hown, hts⟩, hj, hA, hK, hZ, hN, hfr, hlo, hkc, hks⟩ := B
  intro la H locs hl hP hS
  exact lv_i2b hx hb d rfl (k la H locs hl hP hS)
theorem g_i2s (B : Fx X cc nL own fr lo) {x : Int32} (d : decode cc pc = .ok (.i2s, 1))  (k : GW X nL (pc + 1) ls (.int x.toInt16.toInt32 :: st) I) : GW X nL pc ls (.int x :: st) I := by
  obtain ⟨p, l, e, R, s, m, args, below, meth, c, D, ad, cy, A, Q, kc, ks⟩ := X
  obtain ⟨⟨hx, hb, hml, hown, hts⟩, hj, hA, hK, hZ, hN, hfr, hlo, hkc, hks⟩ := B
  intro la H locs hl hP hS
  exact lv_i2s hx hb d rfl (k la H locs hl hP hS)
theorem g_i2c (B : Fx X cc nL own fr lo) {x : Int32} (d : decode cc pc = .ok (.i2c, 1))  (k : GW X nL (pc + 1) ls (.int (x.toUInt32 % 65536).toInt32 :: st) I) : GW X nL pc ls (.int x :: st) I := by
  obtain ⟨p, l, e, R, s, m, args, below, meth, c, D, ad, cy, A, Q, kc, ks⟩ := X
  obtain ⟨⟨hx, hb, hml, hown, hts⟩, hj, hA, hK, hZ, hN, hfr, hlo, hkc, hks⟩ := B
  intro la H locs hl hP hS
  exact lv_i2c hx hb d rfl (k la H locs hl hP hS)
theorem g_lcmp (B : Fx X cc nL own fr lo) {x y : Int64} (d : decode cc pc = .ok (.lcmp, 1))  (k : GW X nL (pc + 1) ls (.int (lg_cmp x y) :: st) I) : GW X nL pc ls (.long y :: .long x :: st) I := by
  obtain ⟨p, l, e, R, s, m, args, below, meth, c, D, ad, cy, A, Q, kc, ks⟩ := X
  obtain ⟨⟨hx, hb, hml, hown, hts⟩, hj, hA, hK, hZ, hN, hfr, hlo, hkc, hks⟩ := B
  intro la H locs hl hP hS
  exact W.lcmp hx hb d (k la H locs hl hP hS)
theorem g_dup (B : Fx X cc nL own fr lo) {v : Value} (d : decode cc pc = .ok (.dup, 1)) (hv : v.category = 1) (k : GW X nL (pc + 1) ls (v :: v :: st) I) : GW X nL pc ls (v :: st) I := by
  obtain ⟨p, l, e, R, s, m, args, below, meth, c, D, ad, cy, A, Q, kc, ks⟩ := X
  obtain ⟨⟨hx, hb, hml, hown, hts⟩, hj, hA, hK, hZ, hN, hfr, hlo, hkc, hks⟩ := B
  intro la H locs hl hP hS
  exact lv_dup hx hb d (by rw [cv_cat]; exact hv) (k la H locs hl hP hS)
theorem g_pop (B : Fx X cc nL own fr lo) {v : Value} (d : decode cc pc = .ok (.pop, 1)) (hv : v.category = 1) (k : GW X nL (pc + 1) ls (st) I) : GW X nL pc ls (v :: st) I := by
  obtain ⟨p, l, e, R, s, m, args, below, meth, c, D, ad, cy, A, Q, kc, ks⟩ := X
  obtain ⟨⟨hx, hb, hml, hown, hts⟩, hj, hA, hK, hZ, hN, hfr, hlo, hkc, hks⟩ := B
  intro la H locs hl hP hS
  exact lv_pop hx hb d (by rw [cv_cat]; exact hv) (k la H locs hl hP hS)
theorem g_dup2 (B : Fx X cc nL own fr lo) {v w : Value} (d : decode cc pc = .ok (.dup2, 1)) (hv : v.category = 1) (hw : w.category = 1) (k : GW X nL (pc + 1) ls (v :: w :: v :: w :: st) I) : GW X nL pc ls (v :: w :: st) I := by
  obtain ⟨p, l, e, R, s, m, args, below, meth, c, D, ad, cy, A, Q, kc, ks⟩ := X
  obtain ⟨⟨hx, hb, hml, hown, hts⟩, hj, hA, hK, hZ, hN, hfr, hlo, hkc, hks⟩ := B
  intro la H locs hl hP hS
  exact lv_dup2_11 hx hb d (by rw [cv_cat]; exact hv) (by rw [cv_cat]; exact hw) (k la H locs hl hP hS)
theorem g_istore_n (B : Fx X cc nL own fr lo) {i : Fin 4} {x : Int32} (d : decode cc pc = .ok (.istore_n i, 1)) (hn : (i : Nat) < nL) (hf : lfree ls (i : Nat) = true) (k : GW X nL (pc + 1) (ls.set (i : Nat) (some (.int x))) st I) : GW X nL pc ls (.int x :: st) I := by
  obtain ⟨p, l, e, R, s, m, args, below, meth, c, D, ad, cy, A, Q, kc, ks⟩ := X
  obtain ⟨⟨hx, hb, hml, hown, hts⟩, hj, hA, hK, hZ, hN, hfr, hlo, hkc, hks⟩ := B
  intro la H locs hl hP hS
  exact lv_istore_n hx hb d rfl (lo_lv hl) hn rfl (fun la' h' => k la' H locs (lo_store1 (v := .int x) hl hn hf h') hP hS)
theorem g_istore (B : Fx X cc nL own fr lo) {i : Nat} {x : Int32} (d : decode cc pc = .ok (.istore i, 2)) (hn : i < nL) (hf : lfree ls i = true) (k : GW X nL (pc + 2) (ls.set i (some (.int x))) st I) : GW X nL pc ls (.int x :: st) I := by
  obtain ⟨p, l, e, R, s, m, args, below, meth, c, D, ad, cy, A, Q, kc, ks⟩ := X
  obtain ⟨⟨hx, hb, hml, hown, hts⟩, hj, hA, hK, hZ, hN, hfr, hlo, hkc, hks⟩ := B
  intro la H locs hl hP hS
  exact lv_istore hx hb d (lo_lv hl) hn rfl (fun la' h' => k la' H locs (lo_store1 (v := .int x) hl hn hf h') hP hS)
theorem g_astore_n (B : Fx X cc nL own fr lo) {i : Fin 4} {x : Nat} (d : decode cc pc = .ok (.astore_n i, 1)) (hn : (i : Nat) < nL) (hf : lfree ls (i : Nat) = true) (k : GW X nL (pc + 1) (ls.set (i : Nat) (some (.ref x))) st I) : GW X nL pc ls (.ref x :: st) I := by
  obtain ⟨p, l, e, R, s, m, args, below, meth, c, D, ad, cy, A, Q, kc, ks⟩ := X
  obtain ⟨⟨hx, hb, hml, hown, hts⟩, hj, hA, hK, hZ, hN, hfr, hlo, hkc, hks⟩ := B
  intro la H locs hl hP hS
  exact lv_astore_n hx hb d rfl (lo_lv hl) hn rfl (fun la' h' => k la' H locs (lo_store1 (v := .ref x) hl hn hf h') hP hS)
theorem g_astore (B : Fx X cc nL own fr lo) {i : Nat} {x : Nat} (d : decode cc pc = .ok (.astore i, 2)) (hn : i < nL) (hf : lfree ls i = true) (k : GW X nL (pc + 2) (ls.set i (some (.ref x))) st I) : GW X nL pc ls (.ref x :: st) I := by
  obtain ⟨p, l, e, R, s, m, args, below, meth, c, D, ad, cy, A, Q, kc, ks⟩ := X
  obtain ⟨⟨hx, hb, hml, hown, hts⟩, hj, hA, hK, hZ, hN, hfr, hlo, hkc, hks⟩ := B
  intro la H locs hl hP hS
  exact lv_astore hx hb d (lo_lv hl) hn rfl (fun la' h' => k la' H locs (lo_store1 (v := .ref x) hl hn hf h') hP hS)
theorem g_lstore_n (B : Fx X cc nL own fr lo) {i : Fin 4} {x : Int64} (d : decode cc pc = .ok (.lstore_n i, 1)) (hn : (i : Nat) + 1 < nL) (hf : lfree ls (i : Nat) = true) (k : GW X nL (pc + 1) ((ls.set (i : Nat) (some (.long x))).set ((i : Nat) + 1) none) st I) : GW X nL pc ls (.long x :: st) I := by
  obtain ⟨p, l, e, R, s, m, args, below, meth, c, D, ad, cy, A, Q, kc, ks⟩ := X
  obtain ⟨⟨hx, hb, hml, hown, hts⟩, hj, hA, hK, hZ, hN, hfr, hlo, hkc, hks⟩ := B
  intro la H locs hl hP hS
  exact lv_lstore_n hx hb d rfl (lo_lv hl) hn rfl (fun la' h' => k la' H locs (lo_store2 (v := .long x) hl hn hf h') hP hS)
theorem g_lstore (B : Fx X cc nL own fr lo) {i : Nat} {x : Int64} (d : decode cc pc = .ok (.lstore i, 2)) (hn : i + 1 < nL) (hf : lfree ls i = true) (k : GW X nL (pc + 2) ((ls.set i (some (.long x))).set (i + 1) none) st I) : GW X nL pc ls (.long x :: st) I := by
  obtain ⟨p, l, e, R, s, m, args, below, meth, c, D, ad, cy, A, Q, kc, ks⟩ := X
  obtain ⟨⟨hx, hb, hml, hown, hts⟩, hj, hA, hK, hZ, hN, hfr, hlo, hkc, hks⟩ := B
  intro la H locs hl hP hS
  exact lv_lstore hx hb d (lo_lv hl) hn rfl (fun la' h' => k la' H locs (lo_store2 (v := .long x) hl hn hf h') hP hS)
theorem g_iinc (B : Fx X cc nL own fr lo) {i : Nat} {n : Int} {x v : Int32} (d : decode cc pc = .ok (.iinc i n, 3)) (h : ls[i]? = some (some (.int x))) (hv : x + Int32.ofInt n = v) (hn : i < nL) (hf : lfree ls i = true) (k : GW X nL (pc + 3) (ls.set i (some (.int v))) st I) : GW X nL pc ls st I := by
  obtain ⟨p, l, e, R, s, m, args, below, meth, c, D, ad, cy, A, Q, kc, ks⟩ := X
  obtain ⟨⟨hx, hb, hml, hown, hts⟩, hj, hA, hK, hZ, hN, hfr, hlo, hkc, hks⟩ := B
  intro la H locs hl hP hS
  obtain ⟨kk, hk⟩ := List.getElem?_of_mem (lpairs_mem.mpr ⟨_, h, rfl⟩ : (i, cv ad (.int x)) ∈ lpairs ad ls)
  exact lv_iinc hx hb d (lo_lv hl) hk hv hn rfl (fun la' h' => k la' H locs (lo_store1 (v := .int v) hl hn hf h') hP hS)
theorem g_if_eq (B : Fx X cc nL own fr lo) {x : Int32} {off : Int} (tgt : Nat) (d : decode cc pc = .ok (.ifCond .eq off, 3)) (ht : (pc : Int) + off = (tgt : Int)) (kt : x = 0 → GW X nL tgt ls st I) (kf : ¬ x = 0 → GW X nL (pc + 3) ls st I) : GW X nL pc ls (.int x :: st) I := by
  obtain ⟨p, l, e, R, s, m, args, below, meth, c, D, ad, cy, A, Q, kc, ks⟩ := X
  obtain ⟨⟨hx, hb, hml, hown, hts⟩, hj, hA, hK, hZ, hN, hfr, hlo, hkc, hks⟩ := B
  intro la H locs hl hP hS
  exact lv_if_eq hx hb d ht (fun h => kt h la H locs hl hP hS) (fun h => kf h la H locs hl hP hS)
theorem g_if_ne (B : Fx X cc nL own fr lo) {x : Int32} {off : Int} (tgt : Nat) (d : decode cc pc = .ok (.ifCond .ne off, 3)) (ht : (pc : Int) + off = (tgt : Int)) (kt : ¬ x = 0 → GW X nL tgt ls st I) (kf : x = 0 → GW X nL (pc + 3) ls st I) : GW X nL pc ls (.int x :: st) I := by
  obtain ⟨p, l, e, R, s, m, args, below, meth, c, D, ad, cy, A, Q, kc, ks⟩ := X
  obtain ⟨⟨hx, hb, hml, hown, hts⟩, hj, hA, hK, hZ, hN, hfr, hlo, hkc, hks⟩ := B
  intro la H locs hl hP hS
  exact lv_if_ne hx hb d ht (fun h => kt h la H locs hl hP hS) (fun h => kf h la H locs hl hP hS)
theorem g_if_lt (B : Fx X cc nL own fr lo) {x : Int32} {off : Int} (tgt : Nat) (d : decode cc pc = .ok (.ifCond .lt off, 3)) (ht : (pc : Int) + off = (tgt : Int)) (kt : x < 0 → GW X nL tgt ls st I) (kf : ¬ x < 0 → GW X nL (pc + 3) ls st I) : GW X nL pc ls (.int x :: st) I := by
  obtain ⟨p, l, e, R, s, m, args, below, meth, c, D, ad, cy, A, Q, kc, ks⟩ := X
  obtain ⟨⟨hx, hb, hml, hown, hts⟩, hj, hA, hK, hZ, hN, hfr, hlo, hkc, hks⟩ := B
  intro la H locs hl hP hS
  exact lv_if_lt hx hb d ht (fun h => kt h la H locs hl hP hS) (fun h => kf h la H locs hl hP hS)
theorem g_if_ge (B : Fx X cc nL own fr lo) {x : Int32} {off : Int} (tgt : Nat) (d : decode cc pc = .ok (.ifCond .ge off, 3)) (ht : (pc : Int) + off = (tgt : Int)) (kt : 0 ≤ x → GW X nL tgt ls st I) (kf : ¬ 0 ≤ x → GW X nL (pc + 3) ls st I) : GW X nL pc ls (.int x :: st) I := by
  obtain ⟨p, l, e, R, s, m, args, below, meth, c, D, ad, cy, A, Q, kc, ks⟩ := X
  obtain ⟨⟨hx, hb, hml, hown, hts⟩, hj, hA, hK, hZ, hN, hfr, hlo, hkc, hks⟩ := B
  intro la H locs hl hP hS
  exact lv_if_ge hx hb d ht (fun h => kt h la H locs hl hP hS) (fun h => kf h la H locs hl hP hS)
theorem g_if_gt (B : Fx X cc nL own fr lo) {x : Int32} {off : Int} (tgt : Nat) (d : decode cc pc = .ok (.ifCond .gt off, 3)) (ht : (pc : Int) + off = (tgt : Int)) (kt : 0 < x → GW X nL tgt ls st I) (kf : ¬ 0 < x → GW X nL (pc + 3) ls st I) : GW X nL pc ls (.int x :: st) I := by
  obtain ⟨p, l, e, R, s, m, args, below, meth, c, D, ad, cy, A, Q, kc, ks⟩ := X
  obtain ⟨⟨hx, hb, hml, hown, hts⟩, hj, hA, hK, hZ, hN, hfr, hlo, hkc, hks⟩ := B
  intro la H locs hl hP hS
  exact lv_if_gt hx hb d ht (fun h => kt h la H locs hl hP hS) (fun h => kf h la H locs hl hP hS)
theorem g_if_le (B : Fx X cc nL own fr lo) {x : Int32} {off : Int} (tgt : Nat) (d : decode cc pc = .ok (.ifCond .le off, 3)) (ht : (pc : Int) + off = (tgt : Int)) (kt : x ≤ 0 → GW X nL tgt ls st I) (kf : ¬ x ≤ 0 → GW X nL (pc + 3) ls st I) : GW X nL pc ls (.int x :: st) I := by
  obtain ⟨p, l, e, R, s, m, args, below, meth, c, D, ad, cy, A, Q, kc, ks⟩ := X
  obtain ⟨⟨hx, hb, hml, hown, hts⟩, hj, hA, hK, hZ, hN, hfr, hlo, hkc, hks⟩ := B
  intro la H locs hl hP hS
  exact lv_if_le hx hb d ht (fun h => kt h la H locs hl hP hS) (fun h => kf h la H locs hl hP hS)
theorem g_icmp_eq (B : Fx X cc nL own fr lo) {x y : Int32} {off : Int} (tgt : Nat) (d : decode cc pc = .ok (.if_icmp .eq off, 3)) (ht : (pc : Int) + off = (tgt : Int)) (kt : x = y → GW X nL tgt ls st I) (kf : ¬ x = y → GW X nL (pc + 3) ls st I) : GW X nL pc ls (.int y :: .int x :: st) I := by
  obtain ⟨p, l, e, R, s, m, args, below, meth, c, D, ad, cy, A, Q, kc, ks⟩ := X
  obtain ⟨⟨hx, hb, hml, hown, hts⟩, hj, hA, hK, hZ, hN, hfr, hlo, hkc, hks⟩ := B
  intro la H locs hl hP hS
  exact lv_icmp_eq hx hb d ht (fun h => kt h la H locs hl hP hS) (fun h => kf h la H locs hl hP hS)
theorem g_icmp_ne (B : Fx X cc nL own fr lo) {x y : Int32} {off : Int} (tgt : Nat) (d : decode cc pc = .ok (.if_icmp .ne off, 3)) (ht : (pc : Int) + off = (tgt : Int)) (kt : ¬ x = y → GW X nL tgt ls st I) (kf : x = y → GW X nL (pc + 3) ls st I) : GW X nL pc ls (.int y :: .int x :: st) I := by
  obtain ⟨p, l, e, R, s, m, args, below, meth, c, D, ad, cy, A, Q, kc, ks⟩ := X
  obtain ⟨⟨hx, hb, hml, hown, hts⟩, hj, hA, hK, hZ, hN, hfr, hlo, hkc, hks⟩ := B
  intro la H locs hl hP hS
  exact lv_icmp_ne hx hb d ht (fun h => kt h la H locs hl hP hS) (fun h => kf h la H locs hl hP hS)
theorem g_icmp_lt (B : Fx X cc nL own fr lo) {x y : Int32} {off : Int} (tgt : Nat) (d : decode cc pc = .ok (.if_icmp .lt off, 3)) (ht : (pc : Int) + off = (tgt : Int)) (kt : x < y → GW X nL tgt ls st I) (kf : ¬ x < y → GW X nL (pc + 3) ls st I) : GW X nL pc ls (.int y :: .int x :: st) I := by
  obtain ⟨p, l, e, R, s, m, args, below, meth, c, D, ad, cy, A, Q, kc, ks⟩ := X
  obtain ⟨⟨hx, hb, hml, hown, hts⟩, hj, hA, hK, hZ, hN, hfr, hlo, hkc, hks⟩ := B
  intro la H locs hl hP hS
  exact lv_icmp_lt hx hb d ht (fun h => kt h la H locs hl hP hS) (fun h => kf h la H locs hl hP hS)
theorem g_icmp_ge (B : Fx X cc nL own fr lo) {x y : Int32} {off : Int} (tgt : Nat) (d : decode cc pc = .ok (.if_icmp .ge off, 3)) (ht : (pc : Int) + off = (tgt : Int)) (kt : y ≤ x → GW X nL tgt ls st I) (kf : ¬ y ≤ x → GW X nL (pc + 3) ls st I) : GW X nL pc ls (.int y :: .int x :: st) I := by
  obtain ⟨p, l, e, R, s, m, args, below, meth, c, D, ad, cy, A, Q, kc, ks⟩ := X
  obtain ⟨⟨hx, hb, hml, hown, hts⟩, hj, hA, hK, hZ, hN, hfr, hlo, hkc, hks⟩ := B
  intro la H locs hl hP hS
  exact lv_icmp_ge hx hb d ht (fun h => kt h la H locs hl hP hS) (fun h => kf h la H locs hl hP hS)
theorem g_icmp_gt (B : Fx X cc nL own fr lo) {x y : Int32} {off : Int} (tgt : Nat) (d : decode cc pc = .ok (.if_icmp .gt off, 3)) (ht : (pc : Int) + off = (tgt : Int)) (kt : y < x → GW X nL tgt ls st I) (kf : ¬ y < x → GW X nL (pc + 3) ls st I) : GW X nL pc ls (.int y :: .int x :: st) I := by
  obtain ⟨p, l, e, R, s, m, args, below, meth, c, D, ad, cy, A, Q, kc, ks⟩ := X
  obtain ⟨⟨hx, hb, hml, hown, hts⟩, hj, hA, hK, hZ, hN, hfr, hlo, hkc, hks⟩ := B
  intro la H locs hl hP hS
  exact lv_icmp_gt hx hb d ht (fun h => kt h la H locs hl hP hS) (fun h => kf h la H locs hl hP hS)
theorem g_icmp_le (B : Fx X cc nL own fr lo) {x y : Int32} {off : Int} (tgt : Nat) (d : decode cc pc = .ok (.if_icmp .le off, 3)) (ht : (pc : Int) + off = (tgt : Int)) (kt : x ≤ y → GW X nL tgt ls st I) (kf : ¬ x ≤ y → GW X nL (pc + 3) ls st I) : GW X nL pc ls (.int y :: .int x :: st) I := by
  obtain ⟨p, l, e, R, s, m, args, below, meth, c, D, ad, cy, A, Q, kc, ks⟩ := X
  obtain ⟨⟨hx, hb, hml, hown, hts⟩, hj, hA, hK, hZ, hN, hfr, hlo, hkc, hks⟩ := B
  intro la H locs hl hP hS
  exact lv_icmp_le hx hb d ht (fun h => kt h la H locs hl hP hS) (fun h => kf h la H locs hl hP hS)
theorem g_goto (B : Fx X cc nL own fr lo) {off : Int} (tgt : Nat) (d : decode cc pc = .ok (.goto off, 3)) (ht : (pc : Int) + off = (tgt : Int)) (k : GW X nL tgt ls st I) : GW X nL pc ls st I := by
  obtain ⟨p, l, e, R, s, m, args, below, meth, c, D, ad, cy, A, Q, kc, ks⟩ := X
  obtain ⟨⟨hx, hb, hml, hown, hts⟩, hj, hA, hK, hZ, hN, hfr, hlo, hkc, hks⟩ := B
  intro la H locs hl hP hS
  exact lv_goto hx hb d ht (k la H locs hl hP hS)
theorem g_tableOut (B : Fx X cc nL own fr lo) {dflt lw hg : Int} {offs : Array Int} {len : Nat} {x : Int32} (tgt : Nat) (d : decode cc pc = .ok (.tableswitch dflt lw hg offs, len)) (h : x.toInt < lw ∨ hg < x.toInt) (ht : (pc : Int) + dflt = (tgt : Int)) (k : GW X nL tgt ls st I) : GW X nL pc ls (.int x :: st) I := by
  obtain ⟨p, l, e, R, s, m, args, below, meth, c, D, ad, cy, A, Q, kc, ks⟩ := X
  obtain ⟨⟨hx, hb, hml, hown, hts⟩, hj, hA, hK, hZ, hN, hfr, hlo, hkc, hks⟩ := B
  intro la H locs hl hP hS
  exact lv_tableOut hx hb d h ht (k la H locs hl hP hS)
theorem g_tableIn (B : Fx X cc nL own fr lo) {dflt lw hg : Int} {offs : Array Int} {len : Nat} {x : Int32} {off : Int} (tgt : Nat) (d : decode cc pc = .ok (.tableswitch dflt lw hg offs, len)) (h1 : ¬ x.toInt < lw) (h2 : ¬ hg < x.toInt) (ho : offs[(x.toInt - lw).toNat]? = some off) (ht : (pc : Int) + off = (tgt : Int)) (k : GW X nL tgt ls st I) : GW X nL pc ls (.int x :: st) I := by
  obtain ⟨p, l, e, R, s, m, args, below, meth, c, D, ad, cy, A, Q, kc, ks⟩ := X
  obtain ⟨⟨hx, hb, hml, hown, hts⟩, hj, hA, hK, hZ, hN, hfr, hlo, hkc, hks⟩ := B
  intro la H locs hl hP hS
  exact lv_tableIn hx hb d h1 h2 ho ht (k la H locs hl hP hS)
theorem g_lookup (B : Fx X cc nL own fr lo) {dflt : Int} {ps : Array (Int × Int)} {len : Nat} {x : Int32} {off : Int} (tgt : Nat) (d : decode cc pc = .ok (.lookupswitch dflt ps, len)) (hp : (ps.toList.zip (ps.toList.drop 1)).all (fun (a, next) => a.1 < next.1) = true) (ho : Op.lookupswitch.offset ps.toList dflt x.toInt = off) (ht : (pc : Int) + off = (tgt : Int)) (k : GW X nL tgt ls st I) : GW X nL pc ls (.int x :: st) I := by
  obtain ⟨p, l, e, R, s, m, args, below, meth, c, D, ad, cy, A, Q, kc, ks⟩ := X
  obtain ⟨⟨hx, hb, hml, hown, hts⟩, hj, hA, hK, hZ, hN, hfr, hlo, hkc, hks⟩ := B
  intro la H locs hl hP hS
  exact lv_lookup hx hb d hp ho ht (k la H locs hl hP hS)
/-- fewer locals are known -/
theorem g_drop {i : Nat} (k : GW X nL pc (ls.set i none) st I) : GW X nL pc ls st I := by
  obtain ⟨p, l, e, R, s, m, args, below, meth, c, D, ad, cy, A, Q, kc, ks⟩ := X
  intro la H locs hl hP hS
  refine k la H locs ⟨hl.1, hl.2.1, fun j v hj => ?_⟩ hP hS
  by_cases e : i = j
  · subst e
    have hl := (List.getElem?_eq_some_iff.mp hj).1
    rw [List.getElem?_set_self (by simpa using hl)] at hj
    cases hj
  · rw [List.getElem?_set_ne e] at hj
    exact hl.2.2 j v hj
theorem g_topi {x : Int32} (k : ∀ y : Int32, y = x → GW X nL pc ls (.int y :: st) I) : GW X nL pc ls (.int x :: st) I := k x rfl
theorem g_eqi {x : Int32} (y : Int32) (h : x = y) (k : GW X nL pc ls (.int y :: st) I) : GW X nL pc ls (.int x :: st) I := h ▸ k
theorem g_eql {x : Int64} (y : Int64) (h : x = y) (k : GW X nL pc ls (.long y :: st) I) : GW X nL pc ls (.long x :: st) I := h ▸ k
theorem g_eqI {J : Wo} (h : I = J) (k : GW X nL pc ls st J) : GW X nL pc ls st I := h ▸ k
end RULES
/-- a class of the world: its place among vwCl, its fields -/
def CI (ci : Nat) (C : String) (T : u_T) (N : Nat) (ty : Nat → FieldType) : Prop := vwCl[ci]? = some (C, T, N) ∧ (∀ w ∈ u_ws C T N, w ∈ lw_g) ∧ (∀ k, k < N → parseFieldDescriptor (T k).2.2.1 = some (ty k)) ∧ (∀ a, a < N → ∀ b, b < N → a ≠ b → (T a).2.1 ≠ (T b).2.1)
theorem ci_mem {C : String} {T : u_T} {N : Nat} (ix : List Nat) (h : (List.range N).all (fun k => decide (lw_tbl[ix.getD k 0]? = some (u_lay C T k)) && goodWord (u_lay C T k)) = true) : ∀ w ∈ u_ws C T N, w ∈ lw_g := by
  intro w hw
  obtain ⟨k, hk, rfl⟩ := List.mem_map.mp hw
  have h1 := List.all_eq_true.mp h k hk
  simp only [Bool.and_eq_true, decide_eq_true_eq] at h1
  exact lw_g_of _ _ h1.1 h1.2
section FIELDS
variable {X : Cx} {cc : ByteArray} {nL fr lo pc : Nat} {own : String} {ls : List (Option Value)} {st : List Value} {I : Wo}
variable {ci k j N ix : Nat} {C : String} {T : u_T} {ty : Nat → FieldType} {fs : List (Option Nat)}
theorem g_geti (B : Fx X cc nL own fr lo) (hc : CI ci C T N ty) (hs : shL[k]? = some (.inl (ci, fs))) (hf : fs[j]? = some none) (hj9 : j < N) (hl9 : Cond.fieldLink own ix (T j).1 (T j).2.1 (T j).2.2.1 ∈ lw_g) (d : decode cc pc = .ok (.getfield ix, 3)) (kk : GW X nL (pc + 3) ls (.int (I k j) :: st) I) : GW X nL pc ls (.ref k :: st) I := by
  obtain ⟨p, l, e, R, s, m, args, below, meth, c, D, ad, cy, A, Q, kc, ks⟩ := X
  obtain ⟨⟨hx, hb, hml, hown, hts⟩, hj, hA, hK, hZ, hN, hfr, hlo, hkc, hks⟩ := B
  intro la H locs hl hP hS
  exact va_get (D := D) (cl := vwCl) (ws := Wd ad cy I) hx hb hts hc.2.1 hown hK hP k (fs := fieldsOf ad (I k) fs) (Wd_get hs) hc.1 j hj9 (hts _ hl9) (fun _ h => h) (v := .int (I k j)) (by rw [fieldsOf_get, hf]; rfl) d (kk la H locs hl hP hS)
theorem g_getr (B : Fx X cc nL own fr lo) {r : Nat} (hc : CI ci C T N ty) (hs : shL[k]? = some (.inl (ci, fs))) (hf : fs[j]? = some (some r)) (hj9 : j < N) (hl9 : Cond.fieldLink own ix (T j).1 (T j).2.1 (T j).2.2.1 ∈ lw_g) (d : decode cc pc = .ok (.getfield ix, 3)) (kk : GW X nL (pc + 3) ls (.ref r :: st) I) : GW X nL pc ls (.ref k :: st) I := by
  obtain ⟨p, l, e, R, s, m, args, below, meth, c, D, ad, cy, A, Q, kc, ks⟩ := X
  obtain ⟨⟨hx, hb, hml, hown, hts⟩, hj, hA, hK, hZ, hN, hfr, hlo, hkc, hks⟩ := B
  intro la H locs hl hP hS
  exact va_get (D := D) (cl := vwCl) (ws := Wd ad cy I) hx hb hts hc.2.1 hown hK hP k (fs := fieldsOf ad (I k) fs) (Wd_get hs) hc.1 j hj9 (hts _ hl9) (fun _ h => h) (v := .ref (ad r)) (by rw [fieldsOf_get, hf]; rfl) d (kk la H locs hl hP hS)
theorem g_put (B : Fx X cc nL own fr lo) {v : Int32} (hc : CI ci C T N ty) (hs : shL[k]? = some (.inl (ci, fs))) (hf : fs[j]? = some none) (hj9 : j < N) (hl9 : Cond.fieldLink own ix (T j).1 (T j).2.1 (T j).2.2.1 ∈ lw_g) (hfin : (T j).2.2.2 = false) (hn : narrow (ty j) (.int v) = .int v) (hfit : fits (ty j) (.int v) = true) (d : decode cc pc = .ok (.putfield ix, 3)) (kk : GW X nL (pc + 3) ls st (w2 I k j v)) : GW X nL pc ls (.int v :: .ref k :: st) I := by
  obtain ⟨p, l, e, R, s, m, args, below, meth, c, D, ad, cy, A, Q, kc, ks⟩ := X
  obtain ⟨⟨hx, hb, hml, hown, hts⟩, hj, hA, hK, hZ, hN, hfr, hlo, hkc, hks⟩ := B
  intro la H locs hl hP hS
  refine va_put (D := D) (cl := vwCl) (ws := Wd ad cy I) hx hb hts hc.2.1 ty hc.2.2.1 hc.2.2.2 hown hK hP (Wd_D hj hA) hS k (fs := fieldsOf ad (I k) fs) (Wd_get hs) hc.1 j hj9 (hts _ hl9) (fun _ h => h) hfin (hc.2.2.1 j hj9) hn hfit (by rw [fieldsOf_len]; exact (List.getElem?_eq_some_iff.mp hf).1) d (fun H1 locs1 hP1 _ hS1 => kk la H1 locs1 hl ?_ hS1)
  have e := Wd_set (ad := ad) (cy := cy) (I := I) hs (upd (I k) j v)
  rw [w2_up] at e
  rw [← e]
  have hP2 : va_P D vwCl ((Wd ad cy I).set k (ad k, .inr (ci, (fieldsOf ad (I k) fs).set j (.int v)))) H1 := hP1
  rw [fieldsOf_set hf] at hP2
  exact hP2
end FIELDS
section ARRAYS
variable {X : Cx} {cc : ByteArray} {nL fr lo pc : Nat} {own : String} {ls : List (Option Value)} {st : List Value} {I : Wo}
variable {k n : Nat} {i : Int32}
theorem g_iald (B : Fx X cc nL own fr lo) (hs : shL[k]? = some (.inr (.inl (0, n)))) (j : Nat) (he : i = nI j) (hj9 : j < n) (hn9 : n < 2 ^ 31) (d : decode cc pc = .ok (.iaload, 1)) (kk : GW X nL (pc + 1) ls (.int (I k j) :: st) I) : GW X nL pc ls (.int i :: .ref k :: st) I := by
  obtain ⟨p, l, e, R, s, m, args, below, meth, c, D, ad, cy, A, Q, kc, ks⟩ := X
  obtain ⟨⟨hx, hb, hml, hown, hts⟩, hj, hA, hK, hZ, hN, hfr, hlo, hkc, hks⟩ := B
  intro la H locs hl hP hS
  subst he
  refine va_iald (D := D) (cl := vwCl) (ws := Wd ad cy I) hx hb hK hP k 0 (f := I k) (n := n) (cA := cy 0) (Wd_get hs) rfl (vp_in_nI hj9 hn9) d ?_
  rw [nI_clamp (Nat.lt_trans hj9 hn9)]
  exact kk la H locs hl hP hS
theorem g_zald (B : Fx X cc nL own fr lo) (hs : shL[k]? = some (.inr (.inl (1, n)))) (j : Nat) (he : i = nI j) (hj9 : j < n) (hn9 : n < 2 ^ 31) (d : decode cc pc = .ok (.baload, 1)) (kk : GW X nL (pc + 1) ls (.int (I k j) :: st) I) : GW X nL pc ls (.int i :: .ref k :: st) I := by
  obtain ⟨p, l, e, R, s, m, args, below, meth, c, D, ad, cy, A, Q, kc, ks⟩ := X
  obtain ⟨⟨hx, hb, hml, hown, hts⟩, hj, hA, hK, hZ, hN, hfr, hlo, hkc, hks⟩ := B
  intro la H locs hl hP hS
  subst he
  refine va_zald (D := D) (cl := vwCl) (ws := Wd ad cy I) hx hb hK hP k 1 (f := I k) (n := n) (cA := cy 1) (Wd_get hs) rfl (vp_in_nI hj9 hn9) d ?_
  rw [nI_clamp (Nat.lt_trans hj9 hn9)]
  exact kk la H locs hl hP hS
theorem g_bald (B : Fx X cc nL own fr lo) (hs : shL[k]? = some (.inr (.inl (2, n)))) (j : Nat) (he : i = nI j) (hj9 : j < n) (hn9 : n < 2 ^ 31) (d : decode cc pc = .ok (.baload, 1)) (kk : GW X nL (pc + 1) ls (.int (I k j) :: st) I) : GW X nL pc ls (.int i :: .ref k :: st) I := by
  obtain ⟨p, l, e, R, s, m, args, below, meth, c, D, ad, cy, A, Q, kc, ks⟩ := X
  obtain ⟨⟨hx, hb, hml, hown, hts⟩, hj, hA, hK, hZ, hN, hfr, hlo, hkc, hks⟩ := B
  intro la H locs hl hP hS
  subst he
  refine va_bald (D := D) (cl := vwCl) (ws := Wd ad cy I) hx hb hK hP k 2 (f := I k) (n := n) (cA := cy 2) (Wd_get hs) rfl (vp_in_nI hj9 hn9) d ?_
  rw [nI_clamp (Nat.lt_trans hj9 hn9)]
  exact kk la H locs hl hP hS
theorem g_iast (B : Fx X cc nL own fr lo) {v : Int32} (hs : shL[k]? = some (.inr (.inl (0, n)))) (j : Nat) (he : i = nI j) (hj9 : j < n) (hn9 : n < 2 ^ 31) (d : decode cc pc = .ok (.iastore, 1)) (kk : GW X nL (pc + 1) ls st (w2 I k j (v))) : GW X nL pc ls (.int v :: .int i :: .ref k :: st) I := by
  obtain ⟨p, l, e, R, s, m, args, below, meth, c, D, ad, cy, A, Q, kc, ks⟩ := X
  obtain ⟨⟨hx, hb, hml, hown, hts⟩, hj, hA, hK, hZ, hN, hfr, hlo, hkc, hks⟩ := B
  intro la H locs hl hP hS
  subst he
  refine va_iast (D := D) (cl := vwCl) (ws := Wd ad cy I) hx hb hK hP (Wd_D hj hA) hS k 0 (f := I k) (n := n) (cA := cy 0) (Wd_get hs) rfl (vp_in_nI hj9 hn9) d (fun H1 locs1 hP1 _ hS1 => kk la H1 locs1 hl ?_ hS1)
  have e := Wd_set (ad := ad) (cy := cy) (I := I) hs (upd (I k) j (v))
  rw [w2_up] at e
  rw [← e]
  rw [nI_clamp (Nat.lt_trans hj9 hn9)] at hP1
  exact hP1
theorem g_zast (B : Fx X cc nL own fr lo) {v : Int32} (hs : shL[k]? = some (.inr (.inl (1, n)))) (j : Nat) (he : i = nI j) (hj9 : j < n) (hn9 : n < 2 ^ 31) (d : decode cc pc = .ok (.bastore, 1)) (kk : GW X nL (pc + 1) ls st (w2 I k j (vp_nar .boolean v))) : GW X nL pc ls (.int v :: .int i :: .ref k :: st) I := by
  obtain ⟨p, l, e, R, s, m, args, below, meth, c, D, ad, cy, A, Q, kc, ks⟩ := X
  obtain ⟨⟨hx, hb, hml, hown, hts⟩, hj, hA, hK, hZ, hN, hfr, hlo, hkc, hks⟩ := B
  intro la H locs hl hP hS
  subst he
  refine va_zast (D := D) (cl := vwCl) (ws := Wd ad cy I) hx hb hK hP (Wd_D hj hA) hS k 1 (f := I k) (n := n) (cA := cy 1) (Wd_get hs) rfl (vp_in_nI hj9 hn9) d (fun H1 locs1 hP1 _ hS1 => kk la H1 locs1 hl ?_ hS1)
  have e := Wd_set (ad := ad) (cy := cy) (I := I) hs (upd (I k) j (vp_nar .boolean v))
  rw [w2_up] at e
  rw [← e]
  rw [nI_clamp (Nat.lt_trans hj9 hn9)] at hP1
  exact hP1
theorem g_bast (B : Fx X cc nL own fr lo) {v : Int32} (hs : shL[k]? = some (.inr (.inl (2, n)))) (j : Nat) (he : i = nI j) (hj9 : j < n) (hn9 : n < 2 ^ 31) (d : decode cc pc = .ok (.bastore, 1)) (kk : GW X nL (pc + 1) ls st (w2 I k j (vp_nar .byte v))) : GW X nL pc ls (.int v :: .int i :: .ref k :: st) I := by
  obtain ⟨p, l, e, R, s, m, args, below, meth, c, D, ad, cy, A, Q, kc, ks⟩ := X
  obtain ⟨⟨hx, hb, hml, hown, hts⟩, hj, hA, hK, hZ, hN, hfr, hlo, hkc, hks⟩ := B
  intro la H locs hl hP hS
  subst he
  refine va_bast (D := D) (cl := vwCl) (ws := Wd ad cy I) hx hb hK hP (Wd_D hj hA) hS k 2 (f := I k) (n := n) (cA := cy 2) (Wd_get hs) rfl (vp_in_nI hj9 hn9) d (fun H1 locs1 hP1 _ hS1 => kk la H1 locs1 hl ?_ hS1)
  have e := Wd_set (ad := ad) (cy := cy) (I := I) hs (upd (I k) j (vp_nar .byte v))
  rw [w2_up] at e
  rw [← e]
  rw [nI_clamp (Nat.lt_trans hj9 hn9)] at hP1
  exact hP1
theorem g_aald (B : Fx X cc nL own fr lo) {t : Nat} {rs : List Nat} {Cn : String} (hs : shL[k]? = some (.inr (.inr (t, rs)))) (ht : ∀ cy : Nat → ClassId, (tysW cy)[t]? = some (cy t, .object Cn)) (j : Nat) (he : i = nI j) (hj9 : j < rs.length) (hn9 : rs.length < 2 ^ 31) (d : decode cc pc = .ok (.aaload, 1)) (kk : GW X nL (pc + 1) ls (.ref (rs.getD j 0) :: st) I) : GW X nL pc ls (.int i :: .ref k :: st) I := by
  obtain ⟨p, l, e, R, s, m, args, below, meth, c, D, ad, cy, A, Q, kc, ks⟩ := X
  obtain ⟨⟨hx, hb, hml, hown, hts⟩, hj, hA, hK, hZ, hN, hfr, hlo, hkc, hks⟩ := B
  intro la H locs hl hP hS
  subst he
  refine va_aldq (D := D) (cl := vwCl) (ws := Wd ad cy I) hx hb hK hP k t (C := Cn) (f := fun j => some (ad (rs.getD j 0))) (n := rs.length) (cA := cy t) (Wd_get hs) (ht cy) (vp_in_nI hj9 hn9) d ?_
  rw [nI_clamp (Nat.lt_trans hj9 hn9)]
  exact kk la H locs hl hP hS
theorem g_acopy (B : Fx X cc nL own fr lo) {ix k2 n2 : Nat} (hs : shL[k]? = some (.inr (.inl (0, n)))) (hs2 : shL[k2]? = some (.inr (.inl (0, n2)))) {q : Nat} (hq1 : q ≤ n) (hq2 : q ≤ n2) (hq3 : q < 2 ^ 31) {v : Int32} (hv : v = nI q) (hl9 : Cond.methodLink own ix arraycopyName ∈ lw_g) (hnat : Cond.native arraycopyName ∈ lw_g) (hst : Cond.static arraycopyName ∈ lw_g) (hini : Cond.initialized "java/lang/System" ∈ lw_g) (hfr9 : 1 ≤ fr) (hlo9 : (st.map fun v => v.category).sum + 18 ≤ lo) (d : decode cc pc = .ok (.invokestatic ix, 3)) (kk : GW X nL (pc + 3) ls st (va_up I k2 (va_cpy (I k) (I k2) 0 0 q))) : GW X nL pc ls (.int v :: .int 0 :: .ref k2 :: .int 0 :: .ref k :: st) I := by
  obtain ⟨p, l, e, R, s, m, args, below, meth, c, D, ad, cy, A, Q, kc, ks⟩ := X
  obtain ⟨⟨hx, hb, hml, hown, hts⟩, hj, hA, hK, hZ, hN, hfr, hlo, hkc, hks⟩ := B
  intro la H locs hl hP hS
  subst hv
  have e0 : (0 : Int32).toNatClampNeg = 0 := rfl
  refine va_copyi (D := D) (cl := vwCl) (ws := Wd ad cy I) hx hb (by rw [hml]; exact hl.1.symm) hown (hts _ hl9) (hts _ hnat) (hts _ hst) (hts _ hini) hK hP (Wd_D hj hA) hS k k2 0 0 (f := I k) (g := I k2) (ty := .int) (Wd_get hs) (Wd_get hs2) rfl rfl rfl (by decide) (by decide) (nI_pos hq3) (by rw [nI_clamp hq3, e0]; omega) (by rw [nI_clamp hq3, e0]; omega) (fun _ _ => rfl) (Nat.le_trans hfr9 hfr) (Nat.le_trans (by rw [cv_cats]; exact hlo9) hlo) d (fun H1 locs1 hP1 _ hS1 => kk la H1 locs1 hl ?_ hS1)
  rw [← Wd_set hs2]
  rw [nI_clamp hq3, e0] at hP1
  exact hP1
end ARRAYS
/-! the end of a method -/
def pI (post : Int32 → Wo → Prop) : Option Value → Wo → Prop := fun v u => ∃ r : Int32, v = some (.int r) ∧ post r u
def pL (post : Int64 → Wo → Prop) : Option Value → Wo → Prop := fun v u => ∃ r : Int64, v = some (.long r) ∧ post r u
def pV (post : Wo → Prop) : Option Value → Wo → Prop := fun v u => v = none ∧ post u
section ENDS
variable {X : Cx} {cc : ByteArray} {nL fr lo pc : Nat} {own : String} {ls : List (Option Value)} {st : List Value} {I : Wo}
theorem g_iret (B : Fx X cc nL own fr lo) {ty : FieldType} {post : Int32 → Wo → Prop} (E : Rx X (some ty) (pI post)) {v : Int32} (hn : narrow ty (.int v) = .int v) (d : decode cc pc = .ok (.ireturn, 1)) (h : post v I) : GW X nL pc ls [.int v] I := by
  obtain ⟨p, l, e, R, s, m, args, below, meth, c, D, ad, cy, A, Q, kc, ks⟩ := X
  obtain ⟨⟨hx, hb, hml, hown, hts⟩, hj, hA, hK, hZ, hN, hfr, hlo, hkc, hks⟩ := B
  intro la H locs hl hP hS
  obtain ⟨hr, hlk, rfl, rfl⟩ := E
  exact W.zret hx hb hr hn (fun t ht hW => ⟨⟨_, I, rfl, ⟨v, rfl, h⟩, by rw [ht]; exact hP⟩, hS.F ht⟩) hS.2.2 d hlk
theorem g_lret (B : Fx X cc nL own fr lo) {post : Int64 → Wo → Prop} (E : Rx X (some .long) (pL post)) {v : Int64} (d : decode cc pc = .ok (.lreturn, 1)) (h : post v I) : GW X nL pc ls [.long v] I := by
  obtain ⟨p, l, e, R, s, m, args, below, meth, c, D, ad, cy, A, Q, kc, ks⟩ := X
  obtain ⟨⟨hx, hb, hml, hown, hts⟩, hj, hA, hK, hZ, hN, hfr, hlo, hkc, hks⟩ := B
  intro la H locs hl hP hS
  obtain ⟨hr, hlk, rfl, rfl⟩ := E
  exact W.lret hx hb hr (fun t ht hW => ⟨⟨_, I, rfl, ⟨v, rfl, h⟩, by rw [ht]; exact hP⟩, hS.F ht⟩) hS.2.2 d hlk
theorem g_vret (B : Fx X cc nL own fr lo) {post : Wo → Prop} (E : Rx X none (pV post)) (d : decode cc pc = .ok (.return_, 1)) (h : post I) : GW X nL pc ls [] I := by
  obtain ⟨p, l, e, R, s, m, args, below, meth, c, D, ad, cy, A, Q, kc, ks⟩ := X
  obtain ⟨⟨hx, hb, hml, hown, hts⟩, hj, hA, hK, hZ, hN, hfr, hlo, hkc, hks⟩ := B
  intro la H locs hl hP hS
  obtain ⟨hr, hlk, rfl, rfl⟩ := E
  exact W.vret hx hb hr (fun t ht hW => ⟨⟨_, I, rfl, ⟨rfl, h⟩, by rw [ht]; exact hP⟩, hS.F ht⟩) hS.2.2 d hlk
end ENDS
/-! calls -/
def mD (y : MethodName) (n : Nat) : Prop := y.cls ≠ "java/lang/invoke/MethodHandle" ∧ y.cls ≠ "java/lang/invoke/VarHandle" ∧ (parseMethodDescriptor y.desc).map (fun d => d.parameters.length) = some n
def mV (y : MethodName) (b : ByteArray) (nL : Nat) (ret : Option FieldType) (n : Nat) : Prop := Cond.instanceMethod y ∈ lw_g ∧ Cond.selects y.cls y y ∈ lw_g ∧ Cond.initialized y.cls ∈ lw_g ∧ Cond.code y b nL ret ∈ lw_g ∧ mD y n
def mS (y : MethodName) (b : ByteArray) (nL : Nat) (ret : Option FieldType) (n : Nat) : Prop := Cond.static y ∈ lw_g ∧ Cond.initialized y.cls ∈ lw_g ∧ Cond.code y b nL ret ∈ lw_g ∧ mD y n
theorem good_g {ws : List Cond} (h : ∀ w ∈ ws, w ∈ lw_g) : GoodIn lw_g ws := fun w hw => ⟨h w hw, lw_g_good w (h w hw)⟩
theorem good_c {y : MethodName} {b : ByteArray} {nL : Nat} {ret : Option FieldType} (h : Cond.code y b nL ret ∈ lw_g) : GoodIn lw_g (.code y b nL ret :: lw_g) := good_g (fun w hw => by
  rcases List.mem_cons.mp hw with rfl | h2
  · exact h
  · exact h2)
theorem qg_run {p : Program} {l : Launch} {e : Env} {R : Room} {s : State} {m : MethodId} {args : Array Value} {below : List Frame} {meth : Method} {c : Code} {H : Heap} {locs : List Loc} {kc ks : Nat} {Q : State → Prop} {pc : Nat} {la : Array Slot} {rest st0 : List Value} {a : Array Value} {A : Nat → Prop} {D : va_G} {ad : Nat → Nat} {cy : Nat → ClassId} {post : Option Value → Wo → Prop}
    (hr : va_Run p l e R s m args below meth c H locs kc ks 0 0 (F0 m pc la st0) rest (Qg post D ad cy a) (Aw ad)) (hS : va_S A s.heap H locs) (hA : ∀ q, Aw ad q → A q)
    (kk : ∀ (v : Option Value) (u : Wo) (H1 : Heap) (locs1 : List Loc), post v u → va_P D vwCl (Wd ad cy u) H1 → va_S A s.heap H1 locs1 → W p l e R s m args below meth c H1 locs1 kc ks Q (F0 m (pc + 3) la (v.toList ++ rest))) : W p l e R s m args below meth c H locs kc ks Q (F0 m pc la st0) := by
  intro T hT X
  obtain ⟨v, st₀, t, T', L, h0, X', hL, e1, e2, ⟨⟨v2, u, hv, hp, hb⟩, hz, hk⟩, st⟩ := hr T hT X
  cases hv
  rw [h0] at hz hk
  obtain ⟨t2, a1, b1⟩ := kk v u T'.heap (locs ++ L) hp (by rw [e1]; exact hb)
    ⟨Nat.le_trans hS.1 (by rw [e1]; exact hz), fun q h1 h2 => by rw [e1, hk q (Nat.lt_of_lt_of_le h1 hS.1) (fun z => h2 (hA q z))]; exact hS.2.1 q h1 h2, fun q hq => by
      rcases List.mem_append.mp hq with h | h
      · exact hS.2.2 q h
      · exact hA _ (hL q h)⟩ T' rfl X'
  exact ⟨t2, st t2 a1, b1⟩
theorem wf_at {s U : State} {D : va_G} {ad : Nat → Nat} {cy : Nat → ClassId} {A : Nat → Prop} {I : Wo} {H : Heap} {locs : List Loc} (hj : Dj ad) (hA : ∀ k : Nat, k < 73 → A (ad k)) (hK : va_K D vwCl (tysW cy) s) (hZ : Zs ad A s s.heap) (hN : Ns ad s) (hP : va_P D vwCl (Wd ad cy I) H) (hS : va_S A s.heap H locs) (hU : U.heap = H) (hW : s.WarmedH U.vm) : WF D ad cy I U :=
  ⟨hj, by rw [hU]; exact hP, va_K.moved hW.alike hK, by rw [hU]; exact ((hZ.kept hS.2.1).moved hW.alike).narrow (fun q ⟨k, h1, h2⟩ => by rw [h2]; exact hA k h1), hN.warm hW⟩
section CALLS
variable {X : Cx} {cc : ByteArray} {nL fr lo pc : Nat} {own : String} {ls : List (Option Value)} {st stk : List Value} {I : Wo}
variable {y : MethodName} {b : ByteArray} {nL' fr' lo' n ix k : Nat} {ret : Option FieldType} {As : List Value} {post : Option Value → Wo → Prop}
theorem st_rev {ad : Nat → Nat} {As st : List Value} {v : Value} : (As.reverse ++ v :: st).map (cv ad) = (As.map (cv ad)).reverse ++ cv ad v :: st.map (cv ad) := by simp
/-- what a call of an instance method goes on with -/
theorem g_runV (B : Fx X cc nL own fr lo) (hrc : ∀ (s : State) (H : Heap) (D : va_G) (ad : Nat → Nat) (cy : Nat → ClassId) (A : Nat → Prop) (locs : List Loc), va_K D vwCl (tysW cy) s → Zs ad A s s.heap → va_P D vwCl (Wd ad cy I) H → va_S A s.heap H locs → ∃ cellB : Cell, H[ad k]? = some cellB ∧ cellB.vm.isStatics = false ∧ s.vm.findClass y.cls = some cellB.cls)
    (ct : Ct y b nL' ret fr' lo' (.ref k :: As) I post) (hl9 : Cond.methodLink own ix y ∈ lw_g) (hm : mV y b nL' ret n) (hn : As.length = n) (hst : stk = As.reverse ++ .ref k :: st) (hw : (st.map fun v => v.category).sum ≤ 8) (hv : ∀ (ad : Nat → Nat) v u, post v u → v.toList.map (cv ad) = v.toList) (d : decode cc pc = .ok (.invokevirtual ix, 3)) (hroom : fr' + 1 ≤ fr ∧ 8 + (nL' + 11) + lo' ≤ lo)
    (kk : ∀ v u, post v u → GW X nL (pc + 3) ls (v.toList ++ st) u) : GW X nL pc ls stk I := by
  obtain ⟨p, l, e, R, s, m, args, below, meth, c, D, ad, cy, A, Q, kc, ks⟩ := X
  obtain ⟨⟨hx, hb, hml, hown, hts⟩, hj, hA, hK, hZ, hN, hfr, hlo, hkc, hks⟩ := B
  intro la H locs hl hP hS
  subst hst
  rw [st_rev]
  obtain ⟨m1, m2, m3, m4, m5⟩ := hm
  have cw : CallW R s args own y.cls ix y b nL' ret (.code y b nL' ret :: lw_g) { frames := fr', cells := 0, slots := 0, locals := lo' } 0 0 n := cwV n hts (good_g (fun w hw => by
    rcases List.mem_append.mp hw with h | h
    · simp only [List.mem_cons, List.not_mem_nil, or_false] at h
      rcases h with rfl | rfl | rfl | rfl
      · exact hl9
      · exact m1
      · exact m2
      · exact m3
    · exact (good_c m4 w h).1)) rfl rfl rfl ⟨rfl, m5⟩ ⟨Nat.le_trans hroom.1 hfr, Nat.le_trans hroom.2 hlo⟩
  refine qg_run (va_runV (As := As.map (cv ad)) (rest := st.map (cv ad)) ⟨hx, hb, hml, hown, hts⟩ (ct l D ad cy) cw ⟨WF.blind, hrc s H D ad cy A locs hK hZ hP hS, fun U hU hW => ⟨rfl, wf_at hj hA hK hZ hN hP hS hU hW⟩⟩ rfl (by rw [List.length_map]; exact hn) hl.1 rfl (lv_room (by rw [cv_cats]; exact hw)) d ⟨hkc, hks⟩) hS (fun q ⟨k, h1, h2⟩ => by rw [h2]; exact hA k h1) (fun v u H1 locs1 hp hP1 hS1 => ?_)
  have h := kk v u hp la H1 locs1 hl hP1 hS1
  rw [List.map_append, hv ad v u hp] at h
  exact h
theorem g_callV (B : Fx X cc nL own fr lo) (ct : Ct y b nL' ret fr' lo' (.ref k :: As) I post) {ci N : Nat} {T : u_T} {fs : List (Option Nat)} (hs : shL[k]? = some (.inl (ci, fs))) (hci : vwCl[ci]? = some (y.cls, T, N)) (hl9 : Cond.methodLink own ix y ∈ lw_g) (hm : mV y b nL' ret n) (hn : As.length = n) (hst : stk = As.reverse ++ .ref k :: st) (hw : (st.map fun v => v.category).sum ≤ 8) (hv : ∀ (ad : Nat → Nat) v u, post v u → v.toList.map (cv ad) = v.toList) (d : decode cc pc = .ok (.invokevirtual ix, 3)) (hroom : fr' + 1 ≤ fr ∧ 8 + (nL' + 11) + lo' ≤ lo)
    (kk : ∀ v u, post v u → GW X nL (pc + 3) ls (v.toList ++ st) u) : GW X nL pc ls stk I :=
  g_runV B (fun s H D ad cy A locs hK hZ hP hS => va_recv hK hP (q := (y.cls, T, N)) hci (Wd_get hs)) ct hl9 hm hn hst hw hv d hroom kk
theorem g_callK (B : Fx X cc nL own fr lo) {i : Nat} (hi : i < 8) (hyc : y.cls = "java/lang/String") (ct : Ct y b nL' ret fr' lo' (.ref (81 + i) :: As) I post) (hl9 : Cond.methodLink own ix y ∈ lw_g) (hm : mV y b nL' ret n) (hn : As.length = n) (hst : stk = As.reverse ++ .ref (81 + i) :: st) (hw : (st.map fun v => v.category).sum ≤ 8) (hv : ∀ (ad : Nat → Nat) v u, post v u → v.toList.map (cv ad) = v.toList) (d : decode cc pc = .ok (.invokevirtual ix, 3)) (hroom : fr' + 1 ≤ fr ∧ 8 + (nL' + 11) + lo' ≤ lo)
    (kk : ∀ v u, post v u → GW X nL (pc + 3) ls (v.toList ++ st) u) : GW X nL pc ls stk I :=
  g_runV B (fun s H D ad cy A locs hK hZ hP hS => by rw [hyc]; exact vk_recv (adK := fun i => ad (81 + i)) (i := i) hZ.2.2.2.2 hi hS) ct hl9 hm hn hst hw hv d hroom kk
theorem g_callS (B : Fx X cc nL own fr lo) (ct : Ct y b nL' ret fr' lo' As I post) (hl9 : Cond.methodLink own ix y ∈ lw_g) (hm : mS y b nL' ret n) (hn : As.length = n) (hst : stk = As.reverse ++ st) (hw : (st.map fun v => v.category).sum ≤ 8) (hv : ∀ (ad : Nat → Nat) v u, post v u → v.toList.map (cv ad) = v.toList) (d : decode cc pc = .ok (.invokestatic ix, 3)) (hroom : fr' + 1 ≤ fr ∧ 8 + (nL' + 11) + lo' ≤ lo)
    (kk : ∀ v u, post v u → GW X nL (pc + 3) ls (v.toList ++ st) u) : GW X nL pc ls stk I := by
  obtain ⟨p, l, e, R, s, m, args, below, meth, c, D, ad, cy, A, Q, kc, ks⟩ := X
  obtain ⟨⟨hx, hb, hml, hown, hts⟩, hj, hA, hK, hZ, hN, hfr, hlo, hkc, hks⟩ := B
  intro la H locs hl hP hS
  subst hst
  rw [List.map_append, List.map_reverse]
  obtain ⟨m1, m3, m4, m5⟩ := hm
  have cw : CallB R s args own ix y b nL' ret (.code y b nL' ret :: lw_g) { frames := fr', cells := 0, slots := 0, locals := lo' } 0 0 n ∧ (Cond.static y).before args s = true := va_cwS n hts (good_g (fun w hw => by
    rcases List.mem_append.mp hw with h | h
    · simp only [List.mem_cons, List.not_mem_nil, or_false] at h
      rcases h with rfl | rfl | rfl
      · exact hl9
      · exact m1
      · exact m3
    · exact (good_c m4 w h).1)) rfl rfl rfl m5 ⟨Nat.le_trans hroom.1 hfr, Nat.le_trans hroom.2 hlo⟩
  refine qg_run (va_runS (As := As.map (cv ad)) (rest := st.map (cv ad)) ⟨hx, hb, hml, hown, hts⟩ (ct l D ad cy) cw ⟨WF.blind, fun U hU hW => ⟨rfl, wf_at hj hA hK hZ hN hP hS hU hW⟩⟩ rfl (by rw [List.length_map]; exact hn) hl.1 rfl (lv_room (by rw [cv_cats]; exact hw)) d ⟨hkc, hks⟩) hS (fun q ⟨k, h1, h2⟩ => by rw [h2]; exact hA k h1) (fun v u H1 locs1 hp hP1 hS1 => ?_)
  have h := kk v u hp la H1 locs1 hl hP1 hS1
  rw [List.map_append, hv ad v u hp] at h
  exact h
theorem g_callN (B : Fx X cc nL own fr lo) (ct : Ct y b nL' ret fr' lo' As I post) (hl9 : ∀ (ad : Nat → Nat) (U : State), Ns ad U → va_Nw (.methodLinkNest own ix y "RiverSuit") U) (hm : mS y b nL' ret n) (hn : As.length = n) (hst : stk = As.reverse ++ st) (hw : (st.map fun v => v.category).sum ≤ 8) (hv : ∀ (ad : Nat → Nat) v u, post v u → v.toList.map (cv ad) = v.toList) (d : decode cc pc = .ok (.invokestatic ix, 3)) (hroom : fr' + 1 ≤ fr ∧ 8 + (nL' + 11) + lo' ≤ lo)
    (kk : ∀ v u, post v u → GW X nL (pc + 3) ls (v.toList ++ st) u) : GW X nL pc ls stk I := by
  obtain ⟨p, l, e, R, s, m, args, below, meth, c, D, ad, cy, A, Q, kc, ks⟩ := X
  obtain ⟨⟨hx, hb, hml, hown, hts⟩, hj, hA, hK, hZ, hN, hfr, hlo, hkc, hks⟩ := B
  intro la H locs hl hP hS
  subst hst
  rw [List.map_append, List.map_reverse]
  obtain ⟨m1, m3, m4, m5⟩ := hm
  have cw := va_cnB (R := R) (own := own) (host := "RiverSuit") (index := ix) (rm := { frames := fr', cells := 0, slots := 0, locals := lo' }) (mc := 0) (ms := 0) n hts (good_c m4) rfl rfl rfl (hl9 ad s hN) (hts _ m3) m5 ⟨Nat.le_trans hroom.1 hfr, Nat.le_trans hroom.2 hlo⟩
  refine qg_run (va_runSN (As := As.map (cv ad)) (rest := st.map (cv ad)) ⟨hx, hb, hml, hown, hts⟩ (ct l D ad cy) ⟨cw, hts _ m1, trivial⟩ ⟨WF.blind, fun U hU hW => ⟨rfl, wf_at hj hA hK hZ hN hP hS hU hW⟩⟩ rfl (by rw [List.length_map]; exact hn) hl.1 rfl (lv_room (by rw [cv_cats]; exact hw)) d ⟨hkc, hks⟩) hS (fun q ⟨k, h1, h2⟩ => by rw [h2]; exact hA k h1) (fun v u H1 locs1 hp hP1 hS1 => ?_)
  have h := kk v u hp la H1 locs1 hl hP1 hS1
  rw [List.map_append, hv ad v u hp] at h
  exact h
theorem g_callVI {post : Int32 → Wo → Prop} (B : Fx X cc nL own fr lo) (ct : Ct y b nL' ret fr' lo' (.ref k :: As) I (pI post)) {ci N : Nat} {T : u_T} {fs : List (Option Nat)} (hs : shL[k]? = some (.inl (ci, fs))) (hci : vwCl[ci]? = some (y.cls, T, N)) (hl9 : Cond.methodLink own ix y ∈ lw_g) (hm : mV y b nL' ret n) (hn : As.length = n) (hst : stk = As.reverse ++ .ref k :: st) (hw : (st.map fun v => v.category).sum ≤ 8) (d : decode cc pc = .ok (.invokevirtual ix, 3)) (hroom : fr' + 1 ≤ fr ∧ 8 + (nL' + 11) + lo' ≤ lo) (kk : ∀ r u, post r u → GW X nL (pc + 3) ls (.int r :: st) u) : GW X nL pc ls stk I :=
  g_callV B ct hs hci hl9 hm hn hst hw (fun ad v u ⟨r, h, _⟩ => by subst h; rfl) d hroom (fun v u ⟨r, h, h2⟩ => by subst h; exact kk r u h2)
theorem g_callSI {post : Int32 → Wo → Prop} (B : Fx X cc nL own fr lo) (ct : Ct y b nL' ret fr' lo' As I (pI post)) (hl9 : Cond.methodLink own ix y ∈ lw_g) (hm : mS y b nL' ret n) (hn : As.length = n) (hst : stk = As.reverse ++ st) (hw : (st.map fun v => v.category).sum ≤ 8) (d : decode cc pc = .ok (.invokestatic ix, 3)) (hroom : fr' + 1 ≤ fr ∧ 8 + (nL' + 11) + lo' ≤ lo) (kk : ∀ r u, post r u → GW X nL (pc + 3) ls (.int r :: st) u) : GW X nL pc ls stk I :=
  g_callS B ct hl9 hm hn hst hw (fun ad v u ⟨r, h, _⟩ => by subst h; rfl) d hroom (fun v u ⟨r, h, h2⟩ => by subst h; exact kk r u h2)
theorem g_callNI {post : Int32 → Wo → Prop} (B : Fx X cc nL own fr lo) (ct : Ct y b nL' ret fr' lo' As I (pI post)) (hl9 : ∀ (ad : Nat → Nat) (U : State), Ns ad U → va_Nw (.methodLinkNest own ix y "RiverSuit") U) (hm : mS y b nL' ret n) (hn : As.length = n) (hst : stk = As.reverse ++ st) (hw : (st.map fun v => v.category).sum ≤ 8) (d : decode cc pc = .ok (.invokestatic ix, 3)) (hroom : fr' + 1 ≤ fr ∧ 8 + (nL' + 11) + lo' ≤ lo) (kk : ∀ r u, post r u → GW X nL (pc + 3) ls (.int r :: st) u) : GW X nL pc ls stk I :=
  g_callN B ct hl9 hm hn hst hw (fun ad v u ⟨r, h, _⟩ => by subst h; rfl) d hroom (fun v u ⟨r, h, h2⟩ => by subst h; exact kk r u h2)
theorem g_callVL {post : Int64 → Wo → Prop} (B : Fx X cc nL own fr lo) (ct : Ct y b nL' ret fr' lo' (.ref k :: As) I (pL post)) {ci N : Nat} {T : u_T} {fs : List (Option Nat)} (hs : shL[k]? = some (.inl (ci, fs))) (hci : vwCl[ci]? = some (y.cls, T, N)) (hl9 : Cond.methodLink own ix y ∈ lw_g) (hm : mV y b nL' ret n) (hn : As.length = n) (hst : stk = As.reverse ++ .ref k :: st) (hw : (st.map fun v => v.category).sum ≤ 8) (d : decode cc pc = .ok (.invokevirtual ix, 3)) (hroom : fr' + 1 ≤ fr ∧ 8 + (nL' + 11) + lo' ≤ lo) (kk : ∀ r u, post r u → GW X nL (pc + 3) ls (.long r :: st) u) : GW X nL pc ls stk I :=
  g_callV B ct hs hci hl9 hm hn hst hw (fun ad v u ⟨r, h, _⟩ => by subst h; rfl) d hroom (fun v u ⟨r, h, h2⟩ => by subst h; exact kk r u h2)
theorem g_callSL {post : Int64 → Wo → Prop} (B : Fx X cc nL own fr lo) (ct : Ct y b nL' ret fr' lo' As I (pL post)) (hl9 : Cond.methodLink own ix y ∈ lw_g) (hm : mS y b nL' ret n) (hn : As.length = n) (hst : stk = As.reverse ++ st) (hw : (st.map fun v => v.category).sum ≤ 8) (d : decode cc pc = .ok (.invokestatic ix, 3)) (hroom : fr' + 1 ≤ fr ∧ 8 + (nL' + 11) + lo' ≤ lo) (kk : ∀ r u, post r u → GW X nL (pc + 3) ls (.long r :: st) u) : GW X nL pc ls stk I :=
  g_callS B ct hl9 hm hn hst hw (fun ad v u ⟨r, h, _⟩ => by subst h; rfl) d hroom (fun v u ⟨r, h, h2⟩ => by subst h; exact kk r u h2)
theorem g_callNL {post : Int64 → Wo → Prop} (B : Fx X cc nL own fr lo) (ct : Ct y b nL' ret fr' lo' As I (pL post)) (hl9 : ∀ (ad : Nat → Nat) (U : State), Ns ad U → va_Nw (.methodLinkNest own ix y "RiverSuit") U) (hm : mS y b nL' ret n) (hn : As.length = n) (hst : stk = As.reverse ++ st) (hw : (st.map fun v => v.category).sum ≤ 8) (d : decode cc pc = .ok (.invokestatic ix, 3)) (hroom : fr' + 1 ≤ fr ∧ 8 + (nL' + 11) + lo' ≤ lo) (kk : ∀ r u, post r u → GW X nL (pc + 3) ls (.long r :: st) u) : GW X nL pc ls stk I :=
  g_callN B ct hl9 hm hn hst hw (fun ad v u ⟨r, h, _⟩ => by subst h; rfl) d hroom (fun v u ⟨r, h, h2⟩ => by subst h; exact kk r u h2)
theorem g_callVV {post : Wo → Prop} (B : Fx X cc nL own fr lo) (ct : Ct y b nL' ret fr' lo' (.ref k :: As) I (pV post)) {ci N : Nat} {T : u_T} {fs : List (Option Nat)} (hs : shL[k]? = some (.inl (ci, fs))) (hci : vwCl[ci]? = some (y.cls, T, N)) (hl9 : Cond.methodLink own ix y ∈ lw_g) (hm : mV y b nL' ret n) (hn : As.length = n) (hst : stk = As.reverse ++ .ref k :: st) (hw : (st.map fun v => v.category).sum ≤ 8) (d : decode cc pc = .ok (.invokevirtual ix, 3)) (hroom : fr' + 1 ≤ fr ∧ 8 + (nL' + 11) + lo' ≤ lo) (kk : ∀ u, post u → GW X nL (pc + 3) ls st u) : GW X nL pc ls stk I :=
  g_callV B ct hs hci hl9 hm hn hst hw (fun ad v u ⟨h, _⟩ => by subst h; rfl) d hroom (fun v u ⟨h, h2⟩ => by subst h; exact kk u h2)
theorem g_callSV {post : Wo → Prop} (B : Fx X cc nL own fr lo) (ct : Ct y b nL' ret fr' lo' As I (pV post)) (hl9 : Cond.methodLink own ix y ∈ lw_g) (hm : mS y b nL' ret n) (hn : As.length = n) (hst : stk = As.reverse ++ st) (hw : (st.map fun v => v.category).sum ≤ 8) (d : decode cc pc = .ok (.invokestatic ix, 3)) (hroom : fr' + 1 ≤ fr ∧ 8 + (nL' + 11) + lo' ≤ lo) (kk : ∀ u, post u → GW X nL (pc + 3) ls st u) : GW X nL pc ls stk I :=
  g_callS B ct hl9 hm hn hst hw (fun ad v u ⟨h, _⟩ => by subst h; rfl) d hroom (fun v u ⟨h, h2⟩ => by subst h; exact kk u h2)
end CALLS
end
section
theorem ci_X0 : CI 0 RX0 TX0 1 tyX0 := ⟨rfl, ci_mem [257] (by decide +kernel), tyX0_ok, nmX0⟩
theorem ci_X1 : CI 1 RX1 TX1 7 tyX1 := ⟨rfl, ci_mem [278, 280, 282, 284, 286, 288, 290] (by decide +kernel), tyX1_ok, nmX1⟩
theorem ci_X2 : CI 2 RX2 TX2 3 tyX2 := ⟨rfl, ci_mem [224, 226, 228] (by decide +kernel), tyX2_ok, nmX2⟩
theorem ci_X3 : CI 3 RX3 TX3 15 tyX3 := ⟨rfl, ci_mem [136, 138, 140, 142, 144, 146, 148, 150, 152, 154, 156, 158, 160, 162, 164] (by decide +kernel), tyX3_ok, nmX3⟩
theorem ci_X4 : CI 4 RX4 TX4 10 tyX4 := ⟨rfl, ci_mem [188, 190, 192, 194, 196, 198, 200, 202, 204, 206] (by decide +kernel), tyX4_ok, nmX4⟩
theorem ci_X5 : CI 5 RX5 TX5 3 tyX5 := ⟨rfl, ci_mem [243, 245, 247] (by decide +kernel), tyX5_ok, nmX5⟩
theorem ci_X6 : CI 6 RX6 TX6 12 tyX6 := ⟨rfl, ci_mem [305, 307, 309, 311, 313, 315, 317, 319, 321, 323, 325, 327] (by decide +kernel), tyX6_ok, nmX6⟩
theorem ci_X7 : CI 7 RX7 TX7 29 tyX7 := ⟨rfl, ci_mem [831, 833, 835, 837, 839, 841, 843, 845, 847, 849, 851, 853, 855, 857, 859, 861, 863, 865, 867, 869, 871, 873, 875, 877, 879, 881, 883, 885, 887] (by decide +kernel), tyX7_ok, nmX7⟩
theorem fl_X6_10 : Cond.fieldLink RX6 10 (TX6 0).1 (TX6 0).2.1 (TX6 0).2.2.1 ∈ lw_g := lw_g_of _ 293 (by decide +kernel) rfl
theorem fl_X6_16 : Cond.fieldLink RX6 16 (TX6 1).1 (TX6 1).2.1 (TX6 1).2.2.1 ∈ lw_g := lw_g_of _ 294 (by decide +kernel) rfl
theorem fl_X6_19 : Cond.fieldLink RX6 19 (TX6 2).1 (TX6 2).2.1 (TX6 2).2.2.1 ∈ lw_g := lw_g_of _ 295 (by decide +kernel) rfl
theorem fl_X6_23 : Cond.fieldLink RX6 23 (TX6 3).1 (TX6 3).2.1 (TX6 3).2.2.1 ∈ lw_g := lw_g_of _ 296 (by decide +kernel) rfl
theorem fl_X6_30 : Cond.fieldLink RX6 30 (TX6 4).1 (TX6 4).2.1 (TX6 4).2.2.1 ∈ lw_g := lw_g_of _ 297 (by decide +kernel) rfl
theorem fl_X6_36 : Cond.fieldLink RX6 36 (TX6 5).1 (TX6 5).2.1 (TX6 5).2.2.1 ∈ lw_g := lw_g_of _ 298 (by decide +kernel) rfl
theorem fl_X6_44 : Cond.fieldLink RX6 44 (TX6 6).1 (TX6 6).2.1 (TX6 6).2.2.1 ∈ lw_g := lw_g_of _ 299 (by decide +kernel) rfl
theorem fl_X6_51 : Cond.fieldLink RX6 51 (TX6 7).1 (TX6 7).2.1 (TX6 7).2.2.1 ∈ lw_g := lw_g_of _ 300 (by decide +kernel) rfl
theorem fl_X6_58 : Cond.fieldLink RX6 58 (TX6 8).1 (TX6 8).2.1 (TX6 8).2.2.1 ∈ lw_g := lw_g_of _ 301 (by decide +kernel) rfl
theorem fl_X6_62 : Cond.fieldLink RX6 62 (TX6 9).1 (TX6 9).2.1 (TX6 9).2.2.1 ∈ lw_g := lw_g_of _ 302 (by decide +kernel) rfl
theorem fl_X6_74 : Cond.fieldLink RX6 74 (TX4 1).1 (TX4 1).2.1 (TX4 1).2.2.1 ∈ lw_g := lw_g_of _ 177 (by decide +kernel) rfl
theorem fl_X6_82 : Cond.fieldLink RX6 82 (TX4 2).1 (TX4 2).2.1 (TX4 2).2.2.1 ∈ lw_g := lw_g_of _ 179 (by decide +kernel) rfl
theorem fl_X6_85 : Cond.fieldLink RX6 85 (TX6 10).1 (TX6 10).2.1 (TX6 10).2.2.1 ∈ lw_g := lw_g_of _ 303 (by decide +kernel) rfl
theorem fl_X6_88 : Cond.fieldLink RX6 88 (TX4 3).1 (TX4 3).2.1 (TX4 3).2.2.1 ∈ lw_g := lw_g_of _ 181 (by decide +kernel) rfl
theorem fl_X6_95 : Cond.fieldLink RX6 95 (TX3 9).1 (TX3 9).2.1 (TX3 9).2.2.1 ∈ lw_g := lw_g_of _ 114 (by decide +kernel) rfl
theorem fl_X6_98 : Cond.fieldLink RX6 98 (TX3 10).1 (TX3 10).2.1 (TX3 10).2.2.1 ∈ lw_g := lw_g_of _ 118 (by decide +kernel) rfl
theorem fl_X6_101 : Cond.fieldLink RX6 101 (TX3 11).1 (TX3 11).2.1 (TX3 11).2.2.1 ∈ lw_g := lw_g_of _ 121 (by decide +kernel) rfl
theorem fl_X6_104 : Cond.fieldLink RX6 104 (TX3 12).1 (TX3 12).2.1 (TX3 12).2.2.1 ∈ lw_g := lw_g_of _ 128 (by decide +kernel) rfl
theorem fl_X6_111 : Cond.fieldLink RX6 111 (TX3 13).1 (TX3 13).2.1 (TX3 13).2.2.1 ∈ lw_g := lw_g_of _ 132 (by decide +kernel) rfl
theorem fl_X6_117 : Cond.fieldLink RX6 117 (TX3 0).1 (TX3 0).2.1 (TX3 0).2.2.1 ∈ lw_g := lw_g_of _ 85 (by decide +kernel) rfl
theorem fl_X6_120 : Cond.fieldLink RX6 120 (TX3 1).1 (TX3 1).2.1 (TX3 1).2.2.1 ∈ lw_g := lw_g_of _ 89 (by decide +kernel) rfl
theorem fl_X6_123 : Cond.fieldLink RX6 123 (TX3 2).1 (TX3 2).2.1 (TX3 2).2.2.1 ∈ lw_g := lw_g_of _ 92 (by decide +kernel) rfl
theorem fl_X6_126 : Cond.fieldLink RX6 126 (TX3 3).1 (TX3 3).2.1 (TX3 3).2.2.1 ∈ lw_g := lw_g_of _ 95 (by decide +kernel) rfl
theorem fl_X6_129 : Cond.fieldLink RX6 129 (TX3 4).1 (TX3 4).2.1 (TX3 4).2.2.1 ∈ lw_g := lw_g_of _ 99 (by decide +kernel) rfl
theorem fl_X6_132 : Cond.fieldLink RX6 132 (TX3 5).1 (TX3 5).2.1 (TX3 5).2.2.1 ∈ lw_g := lw_g_of _ 102 (by decide +kernel) rfl
theorem fl_X6_135 : Cond.fieldLink RX6 135 (TX3 6).1 (TX3 6).2.1 (TX3 6).2.2.1 ∈ lw_g := lw_g_of _ 106 (by decide +kernel) rfl
theorem fl_X6_174 : Cond.fieldLink RX6 174 (TX5 0).1 (TX5 0).2.1 (TX5 0).2.2.1 ∈ lw_g := lw_g_of _ 238 (by decide +kernel) rfl
theorem fl_X6_182 : Cond.fieldLink RX6 182 (TX5 1).1 (TX5 1).2.1 (TX5 1).2.2.1 ∈ lw_g := lw_g_of _ 240 (by decide +kernel) rfl
theorem fl_X6_185 : Cond.fieldLink RX6 185 (TX5 2).1 (TX5 2).2.1 (TX5 2).2.2.1 ∈ lw_g := lw_g_of _ 242 (by decide +kernel) rfl
theorem fl_X6_223 : Cond.fieldLink RX6 223 (TX3 14).1 (TX3 14).2.1 (TX3 14).2.2.1 ∈ lw_g := lw_g_of _ 135 (by decide +kernel) rfl
theorem fl_X6_229 : Cond.fieldLink RX6 229 (TX1 1).1 (TX1 1).2.1 (TX1 1).2.2.1 ∈ lw_g := lw_g_of _ 269 (by decide +kernel) rfl
theorem fl_X6_232 : Cond.fieldLink RX6 232 (TX1 2).1 (TX1 2).2.1 (TX1 2).2.2.1 ∈ lw_g := lw_g_of _ 271 (by decide +kernel) rfl
theorem fl_X6_235 : Cond.fieldLink RX6 235 (TX1 3).1 (TX1 3).2.1 (TX1 3).2.2.1 ∈ lw_g := lw_g_of _ 273 (by decide +kernel) rfl
theorem fl_X6_238 : Cond.fieldLink RX6 238 (TX1 0).1 (TX1 0).2.1 (TX1 0).2.2.1 ∈ lw_g := lw_g_of _ 267 (by decide +kernel) rfl
theorem fl_X6_241 : Cond.fieldLink RX6 241 (TX1 4).1 (TX1 4).2.1 (TX1 4).2.2.1 ∈ lw_g := lw_g_of _ 275 (by decide +kernel) rfl
theorem fl_X6_249 : Cond.fieldLink RX6 249 (TX2 1).1 (TX2 1).2.1 (TX2 1).2.2.1 ∈ lw_g := lw_g_of _ 221 (by decide +kernel) rfl
theorem fl_X6_258 : Cond.fieldLink RX6 258 (TX2 0).1 (TX2 0).2.1 (TX2 0).2.2.1 ∈ lw_g := lw_g_of _ 219 (by decide +kernel) rfl
theorem fl_X6_264 : Cond.fieldLink RX6 264 (TX6 11).1 (TX6 11).2.1 (TX6 11).2.2.1 ∈ lw_g := lw_g_of _ 304 (by decide +kernel) rfl
theorem fl_X6_271 : Cond.fieldLink RX6 271 (TX2 2).1 (TX2 2).2.1 (TX2 2).2.2.1 ∈ lw_g := lw_g_of _ 223 (by decide +kernel) rfl
theorem fl_X6_274 : Cond.fieldLink RX6 274 "RiverSuit" "FACTORIALS" "[I" ∈ lw_g := lw_g_of _ 704 (by decide +kernel) rfl
theorem fl_X0_9 : Cond.fieldLink RX0 9 (TX0 0).1 (TX0 0).2.1 (TX0 0).2.2.1 ∈ lw_g := lw_g_of _ 256 (by decide +kernel) rfl
theorem fl_X0_15 : Cond.fieldLink RX0 15 (TX3 9).1 (TX3 9).2.1 (TX3 9).2.2.1 ∈ lw_g := lw_g_of _ 112 (by decide +kernel) rfl
theorem fl_X0_21 : Cond.fieldLink RX0 21 (TX3 12).1 (TX3 12).2.1 (TX3 12).2.2.1 ∈ lw_g := lw_g_of _ 126 (by decide +kernel) rfl
theorem fl_X0_47 : Cond.fieldLink RX0 47 (TX3 0).1 (TX3 0).2.1 (TX3 0).2.2.1 ∈ lw_g := lw_g_of _ 84 (by decide +kernel) rfl
theorem fl_X0_55 : Cond.fieldLink RX0 55 (TX3 11).1 (TX3 11).2.1 (TX3 11).2.2.1 ∈ lw_g := lw_g_of _ 122 (by decide +kernel) rfl
theorem fl_X1_9 : Cond.fieldLink RX1 9 (TX1 5).1 (TX1 5).2.1 (TX1 5).2.2.1 ∈ lw_g := lw_g_of _ 276 (by decide +kernel) rfl
theorem fl_X1_15 : Cond.fieldLink RX1 15 (TX1 6).1 (TX1 6).2.1 (TX1 6).2.2.1 ∈ lw_g := lw_g_of _ 277 (by decide +kernel) rfl
theorem fl_X1_19 : Cond.fieldLink RX1 19 (TX1 1).1 (TX1 1).2.1 (TX1 1).2.2.1 ∈ lw_g := lw_g_of _ 268 (by decide +kernel) rfl
theorem fl_X1_23 : Cond.fieldLink RX1 23 (TX1 2).1 (TX1 2).2.1 (TX1 2).2.2.1 ∈ lw_g := lw_g_of _ 270 (by decide +kernel) rfl
theorem fl_X1_26 : Cond.fieldLink RX1 26 (TX1 0).1 (TX1 0).2.1 (TX1 0).2.2.1 ∈ lw_g := lw_g_of _ 266 (by decide +kernel) rfl
theorem fl_X1_29 : Cond.fieldLink RX1 29 (TX1 4).1 (TX1 4).2.1 (TX1 4).2.2.1 ∈ lw_g := lw_g_of _ 274 (by decide +kernel) rfl
theorem fl_X1_32 : Cond.fieldLink RX1 32 (TX3 10).1 (TX3 10).2.1 (TX3 10).2.2.1 ∈ lw_g := lw_g_of _ 116 (by decide +kernel) rfl
theorem fl_X1_41 : Cond.fieldLink RX1 41 (TX3 4).1 (TX3 4).2.1 (TX3 4).2.2.1 ∈ lw_g := lw_g_of _ 97 (by decide +kernel) rfl
theorem fl_X1_48 : Cond.fieldLink RX1 48 (TX1 3).1 (TX1 3).2.1 (TX1 3).2.2.1 ∈ lw_g := lw_g_of _ 272 (by decide +kernel) rfl
theorem fl_X1_55 : Cond.fieldLink RX1 55 (TX3 14).1 (TX3 14).2.1 (TX3 14).2.2.1 ∈ lw_g := lw_g_of _ 134 (by decide +kernel) rfl
theorem fl_X1_58 : Cond.fieldLink RX1 58 (TX3 7).1 (TX3 7).2.1 (TX3 7).2.2.1 ∈ lw_g := lw_g_of _ 108 (by decide +kernel) rfl
theorem fl_X1_64 : Cond.fieldLink RX1 64 (TX3 8).1 (TX3 8).2.1 (TX3 8).2.2.1 ∈ lw_g := lw_g_of _ 110 (by decide +kernel) rfl
theorem fl_X2_9 : Cond.fieldLink RX2 9 (TX2 0).1 (TX2 0).2.1 (TX2 0).2.2.1 ∈ lw_g := lw_g_of _ 218 (by decide +kernel) rfl
theorem fl_X2_15 : Cond.fieldLink RX2 15 (TX2 2).1 (TX2 2).2.1 (TX2 2).2.2.1 ∈ lw_g := lw_g_of _ 222 (by decide +kernel) rfl
theorem fl_X2_19 : Cond.fieldLink RX2 19 (TX2 1).1 (TX2 1).2.1 (TX2 1).2.2.1 ∈ lw_g := lw_g_of _ 220 (by decide +kernel) rfl
theorem fl_X3_9 : Cond.fieldLink RX3 9 (TX3 0).1 (TX3 0).2.1 (TX3 0).2.2.1 ∈ lw_g := lw_g_of _ 83 (by decide +kernel) rfl
theorem fl_X3_15 : Cond.fieldLink RX3 15 (TX3 1).1 (TX3 1).2.1 (TX3 1).2.2.1 ∈ lw_g := lw_g_of _ 87 (by decide +kernel) rfl
theorem fl_X3_18 : Cond.fieldLink RX3 18 (TX3 2).1 (TX3 2).2.1 (TX3 2).2.2.1 ∈ lw_g := lw_g_of _ 90 (by decide +kernel) rfl
theorem fl_X3_21 : Cond.fieldLink RX3 21 (TX3 3).1 (TX3 3).2.1 (TX3 3).2.2.1 ∈ lw_g := lw_g_of _ 93 (by decide +kernel) rfl
theorem fl_X3_24 : Cond.fieldLink RX3 24 (TX3 4).1 (TX3 4).2.1 (TX3 4).2.2.1 ∈ lw_g := lw_g_of _ 96 (by decide +kernel) rfl
theorem fl_X3_27 : Cond.fieldLink RX3 27 (TX3 5).1 (TX3 5).2.1 (TX3 5).2.2.1 ∈ lw_g := lw_g_of _ 100 (by decide +kernel) rfl
theorem fl_X3_30 : Cond.fieldLink RX3 30 (TX3 6).1 (TX3 6).2.1 (TX3 6).2.2.1 ∈ lw_g := lw_g_of _ 103 (by decide +kernel) rfl
theorem fl_X3_33 : Cond.fieldLink RX3 33 (TX3 7).1 (TX3 7).2.1 (TX3 7).2.2.1 ∈ lw_g := lw_g_of _ 107 (by decide +kernel) rfl
theorem fl_X3_36 : Cond.fieldLink RX3 36 (TX3 10).1 (TX3 10).2.1 (TX3 10).2.2.1 ∈ lw_g := lw_g_of _ 115 (by decide +kernel) rfl
theorem fl_X3_40 : Cond.fieldLink RX3 40 (TX3 9).1 (TX3 9).2.1 (TX3 9).2.2.1 ∈ lw_g := lw_g_of _ 111 (by decide +kernel) rfl
theorem fl_X3_43 : Cond.fieldLink RX3 43 (TX3 11).1 (TX3 11).2.1 (TX3 11).2.2.1 ∈ lw_g := lw_g_of _ 119 (by decide +kernel) rfl
theorem fl_X3_46 : Cond.fieldLink RX3 46 (TX3 12).1 (TX3 12).2.1 (TX3 12).2.2.1 ∈ lw_g := lw_g_of _ 125 (by decide +kernel) rfl
theorem fl_X3_49 : Cond.fieldLink RX3 49 (TX3 13).1 (TX3 13).2.1 (TX3 13).2.2.1 ∈ lw_g := lw_g_of _ 129 (by decide +kernel) rfl
theorem fl_X3_52 : Cond.fieldLink RX3 52 (TX3 14).1 (TX3 14).2.1 (TX3 14).2.2.1 ∈ lw_g := lw_g_of _ 133 (by decide +kernel) rfl
theorem fl_X3_61 : Cond.fieldLink RX3 61 (TX3 8).1 (TX3 8).2.1 (TX3 8).2.2.1 ∈ lw_g := lw_g_of _ 109 (by decide +kernel) rfl
theorem fl_X4_9 : Cond.fieldLink RX4 9 (TX4 0).1 (TX4 0).2.1 (TX4 0).2.2.1 ∈ lw_g := lw_g_of _ 175 (by decide +kernel) rfl
theorem fl_X4_15 : Cond.fieldLink RX4 15 (TX4 1).1 (TX4 1).2.1 (TX4 1).2.2.1 ∈ lw_g := lw_g_of _ 176 (by decide +kernel) rfl
theorem fl_X4_24 : Cond.fieldLink RX4 24 (TX4 2).1 (TX4 2).2.1 (TX4 2).2.2.1 ∈ lw_g := lw_g_of _ 178 (by decide +kernel) rfl
theorem fl_X4_27 : Cond.fieldLink RX4 27 (TX4 3).1 (TX4 3).2.1 (TX4 3).2.2.1 ∈ lw_g := lw_g_of _ 180 (by decide +kernel) rfl
theorem fl_X4_30 : Cond.fieldLink RX4 30 (TX4 6).1 (TX4 6).2.1 (TX4 6).2.2.1 ∈ lw_g := lw_g_of _ 184 (by decide +kernel) rfl
theorem fl_X4_33 : Cond.fieldLink RX4 33 (TX4 8).1 (TX4 8).2.1 (TX4 8).2.2.1 ∈ lw_g := lw_g_of _ 186 (by decide +kernel) rfl
theorem fl_X4_37 : Cond.fieldLink RX4 37 (TX4 9).1 (TX4 9).2.1 (TX4 9).2.2.1 ∈ lw_g := lw_g_of _ 187 (by decide +kernel) rfl
theorem fl_X4_44 : Cond.fieldLink RX4 44 (TX4 4).1 (TX4 4).2.1 (TX4 4).2.2.1 ∈ lw_g := lw_g_of _ 182 (by decide +kernel) rfl
theorem fl_X4_55 : Cond.fieldLink RX4 55 (TX3 9).1 (TX3 9).2.1 (TX3 9).2.2.1 ∈ lw_g := lw_g_of _ 113 (by decide +kernel) rfl
theorem fl_X4_58 : Cond.fieldLink RX4 58 (TX3 10).1 (TX3 10).2.1 (TX3 10).2.2.1 ∈ lw_g := lw_g_of _ 117 (by decide +kernel) rfl
theorem fl_X4_61 : Cond.fieldLink RX4 61 (TX3 12).1 (TX3 12).2.1 (TX3 12).2.2.1 ∈ lw_g := lw_g_of _ 127 (by decide +kernel) rfl
theorem fl_X4_71 : Cond.fieldLink RX4 71 (TX3 13).1 (TX3 13).2.1 (TX3 13).2.2.1 ∈ lw_g := lw_g_of _ 131 (by decide +kernel) rfl
theorem fl_X4_74 : Cond.fieldLink RX4 74 (TX3 6).1 (TX3 6).2.1 (TX3 6).2.2.1 ∈ lw_g := lw_g_of _ 105 (by decide +kernel) rfl
theorem fl_X4_113 : Cond.fieldLink RX4 113 (TX4 5).1 (TX4 5).2.1 (TX4 5).2.2.1 ∈ lw_g := lw_g_of _ 183 (by decide +kernel) rfl
theorem fl_X4_119 : Cond.fieldLink RX4 119 (TX3 1).1 (TX3 1).2.1 (TX3 1).2.2.1 ∈ lw_g := lw_g_of _ 88 (by decide +kernel) rfl
theorem fl_X4_122 : Cond.fieldLink RX4 122 (TX4 7).1 (TX4 7).2.1 (TX4 7).2.2.1 ∈ lw_g := lw_g_of _ 185 (by decide +kernel) rfl
theorem fl_X4_125 : Cond.fieldLink RX4 125 (TX3 2).1 (TX3 2).2.1 (TX3 2).2.2.1 ∈ lw_g := lw_g_of _ 91 (by decide +kernel) rfl
theorem fl_X4_128 : Cond.fieldLink RX4 128 (TX3 3).1 (TX3 3).2.1 (TX3 3).2.2.1 ∈ lw_g := lw_g_of _ 94 (by decide +kernel) rfl
theorem fl_X4_131 : Cond.fieldLink RX4 131 (TX3 0).1 (TX3 0).2.1 (TX3 0).2.2.1 ∈ lw_g := lw_g_of _ 86 (by decide +kernel) rfl
theorem fl_X4_134 : Cond.fieldLink RX4 134 (TX3 4).1 (TX3 4).2.1 (TX3 4).2.2.1 ∈ lw_g := lw_g_of _ 98 (by decide +kernel) rfl
theorem fl_X4_137 : Cond.fieldLink RX4 137 (TX3 5).1 (TX3 5).2.1 (TX3 5).2.2.1 ∈ lw_g := lw_g_of _ 101 (by decide +kernel) rfl
theorem fl_X4_158 : Cond.fieldLink RX4 158 (TX3 11).1 (TX3 11).2.1 (TX3 11).2.2.1 ∈ lw_g := lw_g_of _ 123 (by decide +kernel) rfl
theorem fl_X5_9 : Cond.fieldLink RX5 9 (TX3 12).1 (TX3 12).2.1 (TX3 12).2.2.1 ∈ lw_g := lw_g_of _ 124 (by decide +kernel) rfl
theorem fl_X5_15 : Cond.fieldLink RX5 15 (TX5 0).1 (TX5 0).2.1 (TX5 0).2.2.1 ∈ lw_g := lw_g_of _ 237 (by decide +kernel) rfl
theorem fl_X5_18 : Cond.fieldLink RX5 18 (TX5 1).1 (TX5 1).2.1 (TX5 1).2.2.1 ∈ lw_g := lw_g_of _ 239 (by decide +kernel) rfl
theorem fl_X5_21 : Cond.fieldLink RX5 21 (TX5 2).1 (TX5 2).2.1 (TX5 2).2.2.1 ∈ lw_g := lw_g_of _ 241 (by decide +kernel) rfl
theorem fl_X5_24 : Cond.fieldLink RX5 24 (TX3 13).1 (TX3 13).2.1 (TX3 13).2.2.1 ∈ lw_g := lw_g_of _ 130 (by decide +kernel) rfl
theorem fl_X5_27 : Cond.fieldLink RX5 27 (TX3 6).1 (TX3 6).2.1 (TX3 6).2.2.1 ∈ lw_g := lw_g_of _ 104 (by decide +kernel) rfl
theorem fl_X5_31 : Cond.fieldLink RX5 31 (TX3 11).1 (TX3 11).2.1 (TX3 11).2.2.1 ∈ lw_g := lw_g_of _ 120 (by decide +kernel) rfl
theorem fl_X7_7 : Cond.fieldLink RX7 7 (TX7 0).1 (TX7 0).2.1 (TX7 0).2.2.1 ∈ lw_g := lw_g_of _ 802 (by decide +kernel) rfl
theorem fl_X7_13 : Cond.fieldLink RX7 13 (TX7 1).1 (TX7 1).2.1 (TX7 1).2.2.1 ∈ lw_g := lw_g_of _ 803 (by decide +kernel) rfl
theorem fl_X7_17 : Cond.fieldLink RX7 17 (TX7 3).1 (TX7 3).2.1 (TX7 3).2.2.1 ∈ lw_g := lw_g_of _ 805 (by decide +kernel) rfl
theorem fl_X7_20 : Cond.fieldLink RX7 20 (TX7 4).1 (TX7 4).2.1 (TX7 4).2.2.1 ∈ lw_g := lw_g_of _ 806 (by decide +kernel) rfl
theorem fl_X7_23 : Cond.fieldLink RX7 23 (TX7 5).1 (TX7 5).2.1 (TX7 5).2.2.1 ∈ lw_g := lw_g_of _ 807 (by decide +kernel) rfl
theorem fl_X7_26 : Cond.fieldLink RX7 26 (TX7 6).1 (TX7 6).2.1 (TX7 6).2.2.1 ∈ lw_g := lw_g_of _ 808 (by decide +kernel) rfl
theorem fl_X7_29 : Cond.fieldLink RX7 29 (TX7 8).1 (TX7 8).2.1 (TX7 8).2.2.1 ∈ lw_g := lw_g_of _ 810 (by decide +kernel) rfl
theorem fl_X7_32 : Cond.fieldLink RX7 32 (TX7 9).1 (TX7 9).2.1 (TX7 9).2.2.1 ∈ lw_g := lw_g_of _ 811 (by decide +kernel) rfl
theorem fl_X7_35 : Cond.fieldLink RX7 35 (TX7 10).1 (TX7 10).2.1 (TX7 10).2.2.1 ∈ lw_g := lw_g_of _ 812 (by decide +kernel) rfl
theorem fl_X7_38 : Cond.fieldLink RX7 38 (TX7 13).1 (TX7 13).2.1 (TX7 13).2.2.1 ∈ lw_g := lw_g_of _ 815 (by decide +kernel) rfl
theorem fl_X7_41 : Cond.fieldLink RX7 41 (TX7 21).1 (TX7 21).2.1 (TX7 21).2.2.1 ∈ lw_g := lw_g_of _ 823 (by decide +kernel) rfl
theorem fl_X7_44 : Cond.fieldLink RX7 44 (TX7 24).1 (TX7 24).2.1 (TX7 24).2.2.1 ∈ lw_g := lw_g_of _ 826 (by decide +kernel) rfl
theorem fl_X7_47 : Cond.fieldLink RX7 47 (TX7 25).1 (TX7 25).2.1 (TX7 25).2.2.1 ∈ lw_g := lw_g_of _ 827 (by decide +kernel) rfl
theorem fl_X7_50 : Cond.fieldLink RX7 50 (TX7 26).1 (TX7 26).2.1 (TX7 26).2.2.1 ∈ lw_g := lw_g_of _ 828 (by decide +kernel) rfl
theorem fl_X7_53 : Cond.fieldLink RX7 53 (TX7 27).1 (TX7 27).2.1 (TX7 27).2.2.1 ∈ lw_g := lw_g_of _ 829 (by decide +kernel) rfl
theorem fl_X7_62 : Cond.fieldLink RX7 62 (TX7 7).1 (TX7 7).2.1 (TX7 7).2.2.1 ∈ lw_g := lw_g_of _ 809 (by decide +kernel) rfl
theorem fl_X7_66 : Cond.fieldLink RX7 66 (TX7 11).1 (TX7 11).2.1 (TX7 11).2.2.1 ∈ lw_g := lw_g_of _ 813 (by decide +kernel) rfl
theorem fl_X7_69 : Cond.fieldLink RX7 69 (TX7 12).1 (TX7 12).2.1 (TX7 12).2.2.1 ∈ lw_g := lw_g_of _ 814 (by decide +kernel) rfl
theorem fl_X7_72 : Cond.fieldLink RX7 72 (TX7 2).1 (TX7 2).2.1 (TX7 2).2.2.1 ∈ lw_g := lw_g_of _ 804 (by decide +kernel) rfl
theorem fl_X7_81 : Cond.fieldLink RX7 81 (TX7 14).1 (TX7 14).2.1 (TX7 14).2.2.1 ∈ lw_g := lw_g_of _ 816 (by decide +kernel) rfl
theorem fl_X7_84 : Cond.fieldLink RX7 84 (TX7 19).1 (TX7 19).2.1 (TX7 19).2.2.1 ∈ lw_g := lw_g_of _ 821 (by decide +kernel) rfl
theorem fl_X7_87 : Cond.fieldLink RX7 87 (TX7 16).1 (TX7 16).2.1 (TX7 16).2.2.1 ∈ lw_g := lw_g_of _ 818 (by decide +kernel) rfl
theorem fl_X7_90 : Cond.fieldLink RX7 90 (TX7 20).1 (TX7 20).2.1 (TX7 20).2.2.1 ∈ lw_g := lw_g_of _ 822 (by decide +kernel) rfl
theorem fl_X7_93 : Cond.fieldLink RX7 93 (TX7 15).1 (TX7 15).2.1 (TX7 15).2.2.1 ∈ lw_g := lw_g_of _ 817 (by decide +kernel) rfl
theorem fl_X7_108 : Cond.fieldLink RX7 108 (TX7 17).1 (TX7 17).2.1 (TX7 17).2.2.1 ∈ lw_g := lw_g_of _ 819 (by decide +kernel) rfl
theorem fl_X7_119 : Cond.fieldLink RX7 119 (TX7 18).1 (TX7 18).2.1 (TX7 18).2.2.1 ∈ lw_g := lw_g_of _ 820 (by decide +kernel) rfl
theorem fl_X7_207 : Cond.fieldLink RX7 207 (TX7 22).1 (TX7 22).2.1 (TX7 22).2.2.1 ∈ lw_g := lw_g_of _ 824 (by decide +kernel) rfl
theorem fl_X7_210 : Cond.fieldLink RX7 210 (TX7 23).1 (TX7 23).2.1 (TX7 23).2.2.1 ∈ lw_g := lw_g_of _ 825 (by decide +kernel) rfl
theorem fl_X7_258 : Cond.fieldLink RX7 258 (TX7 28).1 (TX7 28).2.1 (TX7 28).2.2.1 ∈ lw_g := lw_g_of _ 830 (by decide +kernel) rfl
theorem fl_J0_9 : Cond.fieldLink RJ0 9 "java/lang/String" "value" "[B" ∈ lw_g := lw_g_of _ 1203 (by decide +kernel) rfl
theorem fl_J0_15 : Cond.fieldLink RJ0 15 "java/lang/String" "coder" "B" ∈ lw_g := lw_g_of _ 1204 (by decide +kernel) rfl
theorem fl_J0_38 : Cond.fieldLink RJ0 38 "java/lang/String" "COMPACT_STRINGS" "Z" ∈ lw_g := lw_g_of _ 394 (by decide +kernel) rfl
theorem fl_J0_1053 : Cond.fieldLink RJ0 1053 "jdk/internal/util/Preconditions" "SIOOBE_FORMATTER" "Ljava/util/function/BiFunction;" ∈ lw_g := lw_g_of _ 410 (by decide +kernel) rfl
theorem fl_J2_44 : Cond.fieldLink RJ2 44 "java/lang/StringUTF16" "$assertionsDisabled" "Z" ∈ lw_g := lw_g_of _ 428 (by decide +kernel) rfl
theorem fl_J2_59 : Cond.fieldLink RJ2 59 "java/lang/StringUTF16" "HI_BYTE_SHIFT" "I" ∈ lw_g := lw_g_of _ 430 (by decide +kernel) rfl
theorem fl_J2_63 : Cond.fieldLink RJ2 63 "java/lang/StringUTF16" "LO_BYTE_SHIFT" "I" ∈ lw_g := lw_g_of _ 432 (by decide +kernel) rfl
theorem cn_X6_188 : Cond.constantLong RX6 188 (-1) ∈ lw_g := lw_g_of _ 643 (by decide +kernel) rfl
theorem cn_X6_190 : Cond.constantLong RX6 190 (-2) ∈ lw_g := lw_g_of _ 644 (by decide +kernel) rfl
theorem cn_X6_192 : Cond.constantLong RX6 192 (10) ∈ lw_g := lw_g_of _ 645 (by decide +kernel) rfl
theorem cn_X6_244 : Cond.constant RX6 244 (1103515245) ∈ lw_g := lw_g_of _ 740 (by decide +kernel) rfl
theorem cn_X7_75 : Cond.constantLong RX7 75 (127) ∈ lw_g := lw_g_of _ 894 (by decide +kernel) rfl
theorem cn_X7_111 : Cond.constantLong RX7 111 (97) ∈ lw_g := lw_g_of _ 914 (by decide +kernel) rfl
theorem cn_X7_113 : Cond.constantLong RX7 113 (122) ∈ lw_g := lw_g_of _ 915 (by decide +kernel) rfl
theorem cn_X7_115 : Cond.constantLong RX7 115 (48) ∈ lw_g := lw_g_of _ 916 (by decide +kernel) rfl
theorem cn_X7_117 : Cond.constantLong RX7 117 (57) ∈ lw_g := lw_g_of _ 917 (by decide +kernel) rfl
theorem cn_X7_154 : Cond.constantLong RX7 154 (3) ∈ lw_g := lw_g_of _ 938 (by decide +kernel) rfl
theorem cn_X7_156 : Cond.constantLong RX7 156 (4) ∈ lw_g := lw_g_of _ 939 (by decide +kernel) rfl
theorem cn_X7_182 : Cond.constantLong RX7 182 (9) ∈ lw_g := lw_g_of _ 1014 (by decide +kernel) rfl
theorem cn_X7_194 : Cond.constantLong RX7 194 (2) ∈ lw_g := lw_g_of _ 1059 (by decide +kernel) rfl
theorem cn_X7_199 : Cond.constant RX7 199 (1000000) ∈ lw_g := lw_g_of _ 1091 (by decide +kernel) rfl
theorem cn_X7_220 : Cond.constantLong RX7 220 (10) ∈ lw_g := lw_g_of _ 1112 (by decide +kernel) rfl
theorem cn_X7_222 : Cond.constantLong RX7 222 (-1) ∈ lw_g := lw_g_of _ 1113 (by decide +kernel) rfl
theorem cn_X7_224 : Cond.constantLong RX7 224 (-2) ∈ lw_g := lw_g_of _ 1114 (by decide +kernel) rfl
theorem cn_X7_243 : Cond.constantLong RX7 243 (60) ∈ lw_g := lw_g_of _ 1164 (by decide +kernel) rfl
theorem cn_X7_245 : Cond.constant RX7 245 (1103515245) ∈ lw_g := lw_g_of _ 1165 (by decide +kernel) rfl
theorem cn_X7_253 : Cond.constantLong RX7 253 (20) ∈ lw_g := lw_g_of _ 1193 (by decide +kernel) rfl
theorem cn_J6_265 : Cond.constant RJ6 265 (1431655765) ∈ lw_g := lw_g_of _ 538 (by decide +kernel) rfl
theorem cn_J6_266 : Cond.constant RJ6 266 (858993459) ∈ lw_g := lw_g_of _ 539 (by decide +kernel) rfl
theorem cn_J6_267 : Cond.constant RJ6 267 (252645135) ∈ lw_g := lw_g_of _ 540 (by decide +kernel) rfl
theorem mm_X6_aim : mV yX6_aim cX6_aim 3 (some .int) 1 := ⟨lw_g_of _ 550 (by decide +kernel) rfl, lw_g_of _ 551 (by decide +kernel) rfl, lw_g_of _ 54 (by decide +kernel) rfl, lw_g_of _ 552 (by decide +kernel) rfl, by decide +kernel, by decide +kernel, by decide +kernel⟩
theorem mm_X6_back : mV yX6_back cX6_back 2 (some .int) 1 := ⟨lw_g_of _ 746 (by decide +kernel) rfl, lw_g_of _ 747 (by decide +kernel) rfl, lw_g_of _ 54 (by decide +kernel) rfl, lw_g_of _ 748 (by decide +kernel) rfl, by decide +kernel, by decide +kernel, by decide +kernel⟩
theorem mm_X6_bind : mS yX6_bind cX6_bind 7 (some .int) 5 := ⟨lw_g_of _ 558 (by decide +kernel) rfl, lw_g_of _ 54 (by decide +kernel) rfl, lw_g_of _ 559 (by decide +kernel) rfl, by decide +kernel, by decide +kernel, by decide +kernel⟩
theorem mm_X6_chain : mV yX6_chain cX6_chain 4 (some .int) 1 := ⟨lw_g_of _ 599 (by decide +kernel) rfl, lw_g_of _ 600 (by decide +kernel) rfl, lw_g_of _ 54 (by decide +kernel) rfl, lw_g_of _ 601 (by decide +kernel) rfl, by decide +kernel, by decide +kernel, by decide +kernel⟩
theorem mm_X6_claim : mV yX6_claim cX6_claim 3 (some .int) 2 := ⟨lw_g_of _ 518 (by decide +kernel) rfl, lw_g_of _ 519 (by decide +kernel) rfl, lw_g_of _ 54 (by decide +kernel) rfl, lw_g_of _ 520 (by decide +kernel) rfl, by decide +kernel, by decide +kernel, by decide +kernel⟩
theorem mm_X6_count : mV yX6_count cX6_count 2 (some .int) 1 := ⟨lw_g_of _ 784 (by decide +kernel) rfl, lw_g_of _ 785 (by decide +kernel) rfl, lw_g_of _ 54 (by decide +kernel) rfl, lw_g_of _ 786 (by decide +kernel) rfl, by decide +kernel, by decide +kernel, by decide +kernel⟩
theorem mm_X6_cut : mV yX6_cut cX6_cut 3 (some .int) 1 := ⟨lw_g_of _ 574 (by decide +kernel) rfl, lw_g_of _ 575 (by decide +kernel) rfl, lw_g_of _ 54 (by decide +kernel) rfl, lw_g_of _ 576 (by decide +kernel) rfl, by decide +kernel, by decide +kernel, by decide +kernel⟩
theorem mm_X6_day : mV yX6_day cX6_day 3 (some .int) 1 := ⟨lw_g_of _ 546 (by decide +kernel) rfl, lw_g_of _ 547 (by decide +kernel) rfl, lw_g_of _ 54 (by decide +kernel) rfl, lw_g_of _ 548 (by decide +kernel) rfl, by decide +kernel, by decide +kernel, by decide +kernel⟩
theorem mm_X6_days : mV yX6_days cX6_days 1 (some .int) 0 := ⟨lw_g_of _ 690 (by decide +kernel) rfl, lw_g_of _ 691 (by decide +kernel) rfl, lw_g_of _ 54 (by decide +kernel) rfl, lw_g_of _ 692 (by decide +kernel) rfl, by decide +kernel, by decide +kernel, by decide +kernel⟩
theorem mm_X6_drift : mV yX6_drift cX6_drift 8 (some .int) 3 := ⟨lw_g_of _ 737 (by decide +kernel) rfl, lw_g_of _ 738 (by decide +kernel) rfl, lw_g_of _ 54 (by decide +kernel) rfl, lw_g_of _ 739 (by decide +kernel) rfl, by decide +kernel, by decide +kernel, by decide +kernel⟩
theorem mm_X6_drop : mV yX6_drop cX6_drop 2 (some .int) 1 := ⟨lw_g_of _ 542 (by decide +kernel) rfl, lw_g_of _ 543 (by decide +kernel) rfl, lw_g_of _ 54 (by decide +kernel) rfl, lw_g_of _ 544 (by decide +kernel) rfl, by decide +kernel, by decide +kernel, by decide +kernel⟩
theorem mm_X6_end : mV yX6_end cX6_end 3 (some .int) 1 := ⟨lw_g_of _ 342 (by decide +kernel) rfl, lw_g_of _ 343 (by decide +kernel) rfl, lw_g_of _ 54 (by decide +kernel) rfl, lw_g_of _ 344 (by decide +kernel) rfl, by decide +kernel, by decide +kernel, by decide +kernel⟩
theorem mm_X6_ever : mV yX6_ever cX6_ever 7 (some .int) 1 := ⟨lw_g_of _ 595 (by decide +kernel) rfl, lw_g_of _ 596 (by decide +kernel) rfl, lw_g_of _ 54 (by decide +kernel) rfl, lw_g_of _ 597 (by decide +kernel) rfl, by decide +kernel, by decide +kernel, by decide +kernel⟩
theorem mm_X6_factorial : mS yX6_factorial cX6_factorial 1 (some .long) 1 := ⟨lw_g_of _ 702 (by decide +kernel) rfl, lw_g_of _ 54 (by decide +kernel) rfl, lw_g_of _ 703 (by decide +kernel) rfl, by decide +kernel, by decide +kernel, by decide +kernel⟩
theorem mm_X6_falls : mV yX6_falls cX6_falls 4 (some .int) 3 := ⟨lw_g_of _ 561 (by decide +kernel) rfl, lw_g_of _ 562 (by decide +kernel) rfl, lw_g_of _ 54 (by decide +kernel) rfl, lw_g_of _ 563 (by decide +kernel) rfl, by decide +kernel, by decide +kernel, by decide +kernel⟩
theorem mm_X6_fault : mV yX6_fault cX6_fault 1 (some .int) 0 := ⟨lw_g_of _ 506 (by decide +kernel) rfl, lw_g_of _ 507 (by decide +kernel) rfl, lw_g_of _ 54 (by decide +kernel) rfl, lw_g_of _ 508 (by decide +kernel) rfl, by decide +kernel, by decide +kernel, by decide +kernel⟩
theorem mm_X6_feed : mV yX6_feed cX6_feed 2 (some .int) 1 := ⟨lw_g_of _ 331 (by decide +kernel) rfl, lw_g_of _ 332 (by decide +kernel) rfl, lw_g_of _ 54 (by decide +kernel) rfl, lw_g_of _ 333 (by decide +kernel) rfl, by decide +kernel, by decide +kernel, by decide +kernel⟩
theorem mm_X6_few : mV yX6_few cX6_few 2 (some .int) 1 := ⟨lw_g_of _ 610 (by decide +kernel) rfl, lw_g_of _ 611 (by decide +kernel) rfl, lw_g_of _ 54 (by decide +kernel) rfl, lw_g_of _ 612 (by decide +kernel) rfl, by decide +kernel, by decide +kernel, by decide +kernel⟩
theorem mm_X6_fewestMore : mV yX6_fewestMore cX6_fewestMore 7 (some .int) 2 := ⟨lw_g_of _ 615 (by decide +kernel) rfl, lw_g_of _ 17 (by decide +kernel) rfl, lw_g_of _ 54 (by decide +kernel) rfl, lw_g_of _ 616 (by decide +kernel) rfl, by decide +kernel, by decide +kernel, by decide +kernel⟩
theorem mm_X6_fits : mV yX6_fits cX6_fits 2 (some .int) 1 := ⟨lw_g_of _ 719 (by decide +kernel) rfl, lw_g_of _ 720 (by decide +kernel) rfl, lw_g_of _ 54 (by decide +kernel) rfl, lw_g_of _ 721 (by decide +kernel) rfl, by decide +kernel, by decide +kernel, by decide +kernel⟩
theorem mm_X6_foil : mV yX6_foil cX6_foil 2 (some .int) 1 := ⟨lw_g_of _ 624 (by decide +kernel) rfl, lw_g_of _ 625 (by decide +kernel) rfl, lw_g_of _ 54 (by decide +kernel) rfl, lw_g_of _ 626 (by decide +kernel) rfl, by decide +kernel, by decide +kernel, by decide +kernel⟩
theorem mm_X6_forget : mV yX6_forget cX6_forget 3 (some .int) 1 := ⟨lw_g_of _ 715 (by decide +kernel) rfl, lw_g_of _ 716 (by decide +kernel) rfl, lw_g_of _ 54 (by decide +kernel) rfl, lw_g_of _ 717 (by decide +kernel) rfl, by decide +kernel, by decide +kernel, by decide +kernel⟩
theorem mm_X6_game : mV yX6_game cX6_game 2 (some .int) 1 := ⟨lw_g_of _ 657 (by decide +kernel) rfl, lw_g_of _ 658 (by decide +kernel) rfl, lw_g_of _ 54 (by decide +kernel) rfl, lw_g_of _ 659 (by decide +kernel) rfl, by decide +kernel, by decide +kernel, by decide +kernel⟩
theorem mm_X6_keep : mV yX6_keep cX6_keep 3 (some .int) 1 := ⟨lw_g_of _ 742 (by decide +kernel) rfl, lw_g_of _ 743 (by decide +kernel) rfl, lw_g_of _ 54 (by decide +kernel) rfl, lw_g_of _ 744 (by decide +kernel) rfl, by decide +kernel, by decide +kernel, by decide +kernel⟩
theorem mm_X6_late : mV yX6_late cX6_late 3 (some .int) 0 := ⟨lw_g_of _ 606 (by decide +kernel) rfl, lw_g_of _ 607 (by decide +kernel) rfl, lw_g_of _ 54 (by decide +kernel) rfl, lw_g_of _ 608 (by decide +kernel) rfl, by decide +kernel, by decide +kernel, by decide +kernel⟩
theorem mm_X6_lay : mV yX6_lay cX6_lay 6 (some .int) 3 := ⟨lw_g_of _ 758 (by decide +kernel) rfl, lw_g_of _ 759 (by decide +kernel) rfl, lw_g_of _ 54 (by decide +kernel) rfl, lw_g_of _ 760 (by decide +kernel) rfl, by decide +kernel, by decide +kernel, by decide +kernel⟩
theorem mm_X6_leans : mV yX6_leans cX6_leans 4 (some .int) 3 := ⟨lw_g_of _ 554 (by decide +kernel) rfl, lw_g_of _ 555 (by decide +kernel) rfl, lw_g_of _ 54 (by decide +kernel) rfl, lw_g_of _ 556 (by decide +kernel) rfl, by decide +kernel, by decide +kernel, by decide +kernel⟩
theorem mm_X6_lowest : mS yX6_lowest cX6_lowest 12 (some .long) 3 := ⟨lw_g_of _ 651 (by decide +kernel) rfl, lw_g_of _ 54 (by decide +kernel) rfl, lw_g_of _ 652 (by decide +kernel) rfl, by decide +kernel, by decide +kernel, by decide +kernel⟩
theorem mm_X6_luck : mV yX6_luck cX6_luck 8 (some .long) 2 := ⟨lw_g_of _ 640 (by decide +kernel) rfl, lw_g_of _ 641 (by decide +kernel) rfl, lw_g_of _ 54 (by decide +kernel) rfl, lw_g_of _ 642 (by decide +kernel) rfl, by decide +kernel, by decide +kernel, by decide +kernel⟩
theorem mm_X6_oneIf : mS yX6_oneIf cX6_oneIf 1 (some .int) 1 := ⟨lw_g_of _ 637 (by decide +kernel) rfl, lw_g_of _ 54 (by decide +kernel) rfl, lw_g_of _ 638 (by decide +kernel) rfl, by decide +kernel, by decide +kernel, by decide +kernel⟩
theorem mm_X6_orders : mV yX6_orders cX6_orders 2 (some .long) 1 := ⟨lw_g_of _ 699 (by decide +kernel) rfl, lw_g_of _ 21 (by decide +kernel) rfl, lw_g_of _ 54 (by decide +kernel) rfl, lw_g_of _ 700 (by decide +kernel) rfl, by decide +kernel, by decide +kernel, by decide +kernel⟩
theorem mm_X6_plan : mV yX6_plan cX6_plan 2 (some .int) 1 := ⟨lw_g_of _ 523 (by decide +kernel) rfl, lw_g_of _ 524 (by decide +kernel) rfl, lw_g_of _ 54 (by decide +kernel) rfl, lw_g_of _ 525 (by decide +kernel) rfl, by decide +kernel, by decide +kernel, by decide +kernel⟩
theorem mm_X6_plans : mV yX6_plans cX6_plans 2 (some .int) 1 := ⟨lw_g_of _ 569 (by decide +kernel) rfl, lw_g_of _ 570 (by decide +kernel) rfl, lw_g_of _ 54 (by decide +kernel) rfl, lw_g_of _ 571 (by decide +kernel) rfl, by decide +kernel, by decide +kernel, by decide +kernel⟩
theorem mm_X6_read : mV yX6_read cX6_read 10 (some .int) 4 := ⟨lw_g_of _ 775 (by decide +kernel) rfl, lw_g_of _ 776 (by decide +kernel) rfl, lw_g_of _ 54 (by decide +kernel) rfl, lw_g_of _ 777 (by decide +kernel) rfl, by decide +kernel, by decide +kernel, by decide +kernel⟩
theorem mm_X6_reply : mV yX6_reply cX6_reply 6 (some .int) 2 := ⟨lw_g_of _ 591 (by decide +kernel) rfl, lw_g_of _ 592 (by decide +kernel) rfl, lw_g_of _ 54 (by decide +kernel) rfl, lw_g_of _ 593 (by decide +kernel) rfl, by decide +kernel, by decide +kernel, by decide +kernel⟩
theorem mm_X6_rule : mV yX6_rule cX6_rule 2 (some .int) 1 := ⟨lw_g_of _ 510 (by decide +kernel) rfl, lw_g_of _ 511 (by decide +kernel) rfl, lw_g_of _ 54 (by decide +kernel) rfl, lw_g_of _ 512 (by decide +kernel) rfl, by decide +kernel, by decide +kernel, by decide +kernel⟩
theorem mm_X6_say : mV yX6_say cX6_say 2 (some .int) 1 := ⟨lw_g_of _ 527 (by decide +kernel) rfl, lw_g_of _ 528 (by decide +kernel) rfl, lw_g_of _ 54 (by decide +kernel) rfl, lw_g_of _ 529 (by decide +kernel) rfl, by decide +kernel, by decide +kernel, by decide +kernel⟩
theorem mm_X6_see : mV yX6_see cX6_see 3 (some .int) 2 := ⟨lw_g_of _ 707 (by decide +kernel) rfl, lw_g_of _ 708 (by decide +kernel) rfl, lw_g_of _ 54 (by decide +kernel) rfl, lw_g_of _ 709 (by decide +kernel) rfl, by decide +kernel, by decide +kernel, by decide +kernel⟩
theorem mm_X6_share : mV yX6_share cX6_share 7 (some .long) 2 := ⟨lw_g_of _ 694 (by decide +kernel) rfl, lw_g_of _ 695 (by decide +kernel) rfl, lw_g_of _ 54 (by decide +kernel) rfl, lw_g_of _ 696 (by decide +kernel) rfl, by decide +kernel, by decide +kernel, by decide +kernel⟩
theorem mm_X6_sheet : mV yX6_sheet cX6_sheet 4 (some .int) 3 := ⟨lw_g_of _ 750 (by decide +kernel) rfl, lw_g_of _ 751 (by decide +kernel) rfl, lw_g_of _ 54 (by decide +kernel) rfl, lw_g_of _ 752 (by decide +kernel) rfl, by decide +kernel, by decide +kernel, by decide +kernel⟩
theorem mm_X6_stands : mV yX6_stands cX6_stands 2 (some .int) 1 := ⟨lw_g_of _ 578 (by decide +kernel) rfl, lw_g_of _ 579 (by decide +kernel) rfl, lw_g_of _ 54 (by decide +kernel) rfl, lw_g_of _ 580 (by decide +kernel) rfl, by decide +kernel, by decide +kernel, by decide +kernel⟩
theorem mm_X6_sum : mV yX6_sum cX6_sum 5 (some .int) 1 := ⟨lw_g_of _ 583 (by decide +kernel) rfl, lw_g_of _ 584 (by decide +kernel) rfl, lw_g_of _ 54 (by decide +kernel) rfl, lw_g_of _ 585 (by decide +kernel) rfl, by decide +kernel, by decide +kernel, by decide +kernel⟩
theorem mm_X6_text : mV yX6_text cX6_text 3 (some .int) 0 := ⟨lw_g_of _ 346 (by decide +kernel) rfl, lw_g_of _ 347 (by decide +kernel) rfl, lw_g_of _ 54 (by decide +kernel) rfl, lw_g_of _ 348 (by decide +kernel) rfl, by decide +kernel, by decide +kernel, by decide +kernel⟩
theorem mm_X6_torn : mV yX6_torn cX6_torn 1 (some .int) 0 := ⟨lw_g_of _ 780 (by decide +kernel) rfl, lw_g_of _ 781 (by decide +kernel) rfl, lw_g_of _ 54 (by decide +kernel) rfl, lw_g_of _ 782 (by decide +kernel) rfl, by decide +kernel, by decide +kernel, by decide +kernel⟩
theorem mm_X6_trial : mV yX6_trial cX6_trial 2 (some .int) 1 := ⟨lw_g_of _ 628 (by decide +kernel) rfl, lw_g_of _ 629 (by decide +kernel) rfl, lw_g_of _ 54 (by decide +kernel) rfl, lw_g_of _ 630 (by decide +kernel) rfl, by decide +kernel, by decide +kernel, by decide +kernel⟩
theorem mm_X6_upon : mV yX6_upon cX6_upon 2 (some .int) 1 := ⟨lw_g_of _ 587 (by decide +kernel) rfl, lw_g_of _ 588 (by decide +kernel) rfl, lw_g_of _ 54 (by decide +kernel) rfl, lw_g_of _ 589 (by decide +kernel) rfl, by decide +kernel, by decide +kernel, by decide +kernel⟩
theorem mm_X6_weight : mV yX6_weight cX6_weight 6 (some .long) 2 := ⟨lw_g_of _ 648 (by decide +kernel) rfl, lw_g_of _ 18 (by decide +kernel) rfl, lw_g_of _ 54 (by decide +kernel) rfl, lw_g_of _ 649 (by decide +kernel) rfl, by decide +kernel, by decide +kernel, by decide +kernel⟩
theorem mm_X6_within : mS yX6_within cX6_within 3 (some .boolean) 3 := ⟨lw_g_of _ 335 (by decide +kernel) rfl, lw_g_of _ 54 (by decide +kernel) rfl, lw_g_of _ 336 (by decide +kernel) rfl, by decide +kernel, by decide +kernel, by decide +kernel⟩
theorem mm_X6_yards : mV yX6_yards cX6_yards 4 (some .int) 2 := ⟨lw_g_of _ 565 (by decide +kernel) rfl, lw_g_of _ 566 (by decide +kernel) rfl, lw_g_of _ 54 (by decide +kernel) rfl, lw_g_of _ 567 (by decide +kernel) rfl, by decide +kernel, by decide +kernel, by decide +kernel⟩
theorem mm_X0_bestSaying : mV yX0_bestSaying cX0_bestSaying 3 (some .int) 1 := ⟨lw_g_of _ 686 (by decide +kernel) rfl, lw_g_of _ 687 (by decide +kernel) rfl, lw_g_of _ 59 (by decide +kernel) rfl, lw_g_of _ 688 (by decide +kernel) rfl, by decide +kernel, by decide +kernel, by decide +kernel⟩
theorem mm_X0_leastWinning : mV yX0_leastWinning cX0_leastWinning 6 (some .int) 3 := ⟨lw_g_of _ 678 (by decide +kernel) rfl, lw_g_of _ 20 (by decide +kernel) rfl, lw_g_of _ 59 (by decide +kernel) rfl, lw_g_of _ 679 (by decide +kernel) rfl, by decide +kernel, by decide +kernel, by decide +kernel⟩
theorem mm_X0_mover : mS yX0_mover cX0_mover 1 (some .int) 1 := ⟨lw_g_of _ 670 (by decide +kernel) rfl, lw_g_of _ 59 (by decide +kernel) rfl, lw_g_of _ 671 (by decide +kernel) rfl, by decide +kernel, by decide +kernel, by decide +kernel⟩
theorem mm_X0_riverWins : mV yX0_riverWins cX0_riverWins 2 (some .boolean) 1 := ⟨lw_g_of _ 681 (by decide +kernel) rfl, lw_g_of _ 682 (by decide +kernel) rfl, lw_g_of _ 59 (by decide +kernel) rfl, lw_g_of _ 683 (by decide +kernel) rfl, by decide +kernel, by decide +kernel, by decide +kernel⟩
theorem mm_X0_sayableOn : mS yX0_sayableOn cX0_sayableOn 4 (some .int) 2 := ⟨lw_g_of _ 673 (by decide +kernel) rfl, lw_g_of _ 59 (by decide +kernel) rfl, lw_g_of _ 674 (by decide +kernel) rfl, by decide +kernel, by decide +kernel, by decide +kernel⟩
theorem mm_X0_solve : mV yX0_solve cX0_solve 5 (some .int) 2 := ⟨lw_g_of _ 661 (by decide +kernel) rfl, lw_g_of _ 662 (by decide +kernel) rfl, lw_g_of _ 59 (by decide +kernel) rfl, lw_g_of _ 663 (by decide +kernel) rfl, by decide +kernel, by decide +kernel, by decide +kernel⟩
theorem mm_X0_stepBack : mV yX0_stepBack cX0_stepBack 7 none 2 := ⟨lw_g_of _ 667 (by decide +kernel) rfl, lw_g_of _ 19 (by decide +kernel) rfl, lw_g_of _ 59 (by decide +kernel) rfl, lw_g_of _ 668 (by decide +kernel) rfl, by decide +kernel, by decide +kernel, by decide +kernel⟩
theorem mm_X1_agrees : mV yX1_agrees cX1_agrees 5 (some .boolean) 2 := ⟨lw_g_of _ 734 (by decide +kernel) rfl, lw_g_of _ 23 (by decide +kernel) rfl, lw_g_of _ 60 (by decide +kernel) rfl, lw_g_of _ 735 (by decide +kernel) rfl, by decide +kernel, by decide +kernel, by decide +kernel⟩
theorem mm_X1_prepare : mV yX1_prepare cX1_prepare 4 none 1 := ⟨lw_g_of _ 729 (by decide +kernel) rfl, lw_g_of _ 22 (by decide +kernel) rfl, lw_g_of _ 60 (by decide +kernel) rfl, lw_g_of _ 730 (by decide +kernel) rfl, by decide +kernel, by decide +kernel, by decide +kernel⟩
theorem mm_X1_search : mV yX1_search cX1_search 3 none 1 := ⟨lw_g_of _ 723 (by decide +kernel) rfl, lw_g_of _ 724 (by decide +kernel) rfl, lw_g_of _ 60 (by decide +kernel) rfl, lw_g_of _ 725 (by decide +kernel) rfl, by decide +kernel, by decide +kernel, by decide +kernel⟩
theorem mm_X2_blank : mV yX2_blank cX2_blank 1 (some .boolean) 0 := ⟨lw_g_of _ 766 (by decide +kernel) rfl, lw_g_of _ 767 (by decide +kernel) rfl, lw_g_of _ 57 (by decide +kernel) rfl, lw_g_of _ 768 (by decide +kernel) rfl, by decide +kernel, by decide +kernel, by decide +kernel⟩
theorem mm_X2_faultOf : mV yX2_faultOf cX2_faultOf 3 (some .int) 2 := ⟨lw_g_of _ 762 (by decide +kernel) rfl, lw_g_of _ 763 (by decide +kernel) rfl, lw_g_of _ 57 (by decide +kernel) rfl, lw_g_of _ 764 (by decide +kernel) rfl, by decide +kernel, by decide +kernel, by decide +kernel⟩
theorem mm_X2_put : mV yX2_put cX2_put 3 none 2 := ⟨lw_g_of _ 771 (by decide +kernel) rfl, lw_g_of _ 772 (by decide +kernel) rfl, lw_g_of _ 57 (by decide +kernel) rfl, lw_g_of _ 773 (by decide +kernel) rfl, by decide +kernel, by decide +kernel, by decide +kernel⟩
theorem mm_X2_renew : mV yX2_renew cX2_renew 4 none 2 := ⟨lw_g_of _ 754 (by decide +kernel) rfl, lw_g_of _ 755 (by decide +kernel) rfl, lw_g_of _ 57 (by decide +kernel) rfl, lw_g_of _ 756 (by decide +kernel) rfl, by decide +kernel, by decide +kernel, by decide +kernel⟩
theorem mm_X3_addSeen : mV yX3_addSeen cX3_addSeen 4 (some .boolean) 2 := ⟨lw_g_of _ 711 (by decide +kernel) rfl, lw_g_of _ 712 (by decide +kernel) rfl, lw_g_of _ 55 (by decide +kernel) rfl, lw_g_of _ 713 (by decide +kernel) rfl, by decide +kernel, by decide +kernel, by decide +kernel⟩
theorem mm_X3_addToPlan : mV yX3_addToPlan cX3_addToPlan 2 (some .boolean) 1 := ⟨lw_g_of _ 469 (by decide +kernel) rfl, lw_g_of _ 470 (by decide +kernel) rfl, lw_g_of _ 55 (by decide +kernel) rfl, lw_g_of _ 471 (by decide +kernel) rfl, by decide +kernel, by decide +kernel, by decide +kernel⟩
theorem mm_X3_become : mV yX3_become cX3_become 2 none 1 := ⟨lw_g_of _ 499 (by decide +kernel) rfl, lw_g_of _ 500 (by decide +kernel) rfl, lw_g_of _ 55 (by decide +kernel) rfl, lw_g_of _ 501 (by decide +kernel) rfl, by decide +kernel, by decide +kernel, by decide +kernel⟩
theorem mm_X3_empty : mV yX3_empty cX3_empty 1 none 0 := ⟨lw_g_of _ 354 (by decide +kernel) rfl, lw_g_of _ 355 (by decide +kernel) rfl, lw_g_of _ 55 (by decide +kernel) rfl, lw_g_of _ 356 (by decide +kernel) rfl, by decide +kernel, by decide +kernel, by decide +kernel⟩
theorem mm_X3_endStands : mV yX3_endStands cX3_endStands 2 (some .boolean) 1 := ⟨lw_g_of _ 618 (by decide +kernel) rfl, lw_g_of _ 619 (by decide +kernel) rfl, lw_g_of _ 55 (by decide +kernel) rfl, lw_g_of _ 620 (by decide +kernel) rfl, by decide +kernel, by decide +kernel, by decide +kernel⟩
theorem mm_X3_hasClaim : mV yX3_hasClaim cX3_hasClaim 2 (some .boolean) 1 := ⟨lw_g_of _ 495 (by decide +kernel) rfl, lw_g_of _ 496 (by decide +kernel) rfl, lw_g_of _ 55 (by decide +kernel) rfl, lw_g_of _ 497 (by decide +kernel) rfl, by decide +kernel, by decide +kernel, by decide +kernel⟩
theorem mm_X3_hasSet : mV yX3_hasSet cX3_hasSet 2 (some .boolean) 1 := ⟨lw_g_of _ 491 (by decide +kernel) rfl, lw_g_of _ 492 (by decide +kernel) rfl, lw_g_of _ 55 (by decide +kernel) rfl, lw_g_of _ 493 (by decide +kernel) rfl, by decide +kernel, by decide +kernel, by decide +kernel⟩
theorem mm_X3_inTime : mV yX3_inTime cX3_inTime 3 (some .boolean) 2 := ⟨lw_g_of _ 532 (by decide +kernel) rfl, lw_g_of _ 533 (by decide +kernel) rfl, lw_g_of _ 55 (by decide +kernel) rfl, lw_g_of _ 534 (by decide +kernel) rfl, by decide +kernel, by decide +kernel, by decide +kernel⟩
theorem mm_X3_isSaid : mV yX3_isSaid cX3_isSaid 2 (some .boolean) 1 := ⟨lw_g_of _ 478 (by decide +kernel) rfl, lw_g_of _ 479 (by decide +kernel) rfl, lw_g_of _ 55 (by decide +kernel) rfl, lw_g_of _ 480 (by decide +kernel) rfl, by decide +kernel, by decide +kernel, by decide +kernel⟩
theorem mm_X3_standing : mV yX3_standing cX3_standing 5 (some .int) 1 := ⟨lw_g_of _ 514 (by decide +kernel) rfl, lw_g_of _ 515 (by decide +kernel) rfl, lw_g_of _ 55 (by decide +kernel) rfl, lw_g_of _ 516 (by decide +kernel) rfl, by decide +kernel, by decide +kernel, by decide +kernel⟩
theorem mm_X4_append : mV yX4_append cX4_append 2 (some .boolean) 1 := ⟨lw_g_of _ 338 (by decide +kernel) rfl, lw_g_of _ 339 (by decide +kernel) rfl, lw_g_of _ 56 (by decide +kernel) rfl, lw_g_of _ 340 (by decide +kernel) rfl, by decide +kernel, by decide +kernel, by decide +kernel⟩
theorem mm_X4_close : mV yX4_close cX4_close 4 none 1 := ⟨lw_g_of _ 488 (by decide +kernel) rfl, lw_g_of _ 16 (by decide +kernel) rfl, lw_g_of _ 56 (by decide +kernel) rfl, lw_g_of _ 489 (by decide +kernel) rfl, by decide +kernel, by decide +kernel, by decide +kernel⟩
theorem mm_X4_figures : mV yX4_figures cX4_figures 3 (some .int) 0 := ⟨lw_g_of _ 375 (by decide +kernel) rfl, lw_g_of _ 4 (by decide +kernel) rfl, lw_g_of _ 56 (by decide +kernel) rfl, lw_g_of _ 376 (by decide +kernel) rfl, by decide +kernel, by decide +kernel, by decide +kernel⟩
theorem mm_X4_isWord : mV yX4_isWord cX4_isWord 3 (some .boolean) 1 := ⟨lw_g_of _ 384 (by decide +kernel) rfl, lw_g_of _ 6 (by decide +kernel) rfl, lw_g_of _ 56 (by decide +kernel) rfl, lw_g_of _ 385 (by decide +kernel) rfl, by decide +kernel, by decide +kernel, by decide +kernel⟩
theorem mm_X4_kindAt : mV yX4_kindAt cX4_kindAt 3 (some .int) 1 := ⟨lw_g_of _ 367 (by decide +kernel) rfl, lw_g_of _ 2 (by decide +kernel) rfl, lw_g_of _ 56 (by decide +kernel) rfl, lw_g_of _ 368 (by decide +kernel) rfl, by decide +kernel, by decide +kernel, by decide +kernel⟩
theorem mm_X4_readClaim : mV yX4_readClaim cX4_readClaim 4 (some .boolean) 2 := ⟨lw_g_of _ 436 (by decide +kernel) rfl, lw_g_of _ 7 (by decide +kernel) rfl, lw_g_of _ 56 (by decide +kernel) rfl, lw_g_of _ 437 (by decide +kernel) rfl, by decide +kernel, by decide +kernel, by decide +kernel⟩
theorem mm_X4_readDay : mV yX4_readDay cX4_readDay 2 (some .boolean) 1 := ⟨lw_g_of _ 484 (by decide +kernel) rfl, lw_g_of _ 15 (by decide +kernel) rfl, lw_g_of _ 56 (by decide +kernel) rfl, lw_g_of _ 485 (by decide +kernel) rfl, by decide +kernel, by decide +kernel, by decide +kernel⟩
theorem mm_X4_readEnd : mV yX4_readEnd cX4_readEnd 2 (some .boolean) 1 := ⟨lw_g_of _ 457 (by decide +kernel) rfl, lw_g_of _ 11 (by decide +kernel) rfl, lw_g_of _ 56 (by decide +kernel) rfl, lw_g_of _ 458 (by decide +kernel) rfl, by decide +kernel, by decide +kernel, by decide +kernel⟩
theorem mm_X4_readGrounds : mV yX4_readGrounds cX4_readGrounds 5 (some .boolean) 2 := ⟨lw_g_of _ 445 (by decide +kernel) rfl, lw_g_of _ 9 (by decide +kernel) rfl, lw_g_of _ 56 (by decide +kernel) rfl, lw_g_of _ 446 (by decide +kernel) rfl, by decide +kernel, by decide +kernel, by decide +kernel⟩
theorem mm_X4_readLine : mV yX4_readLine cX4_readLine 2 (some .boolean) 1 := ⟨lw_g_of _ 379 (by decide +kernel) rfl, lw_g_of _ 5 (by decide +kernel) rfl, lw_g_of _ 56 (by decide +kernel) rfl, lw_g_of _ 380 (by decide +kernel) rfl, by decide +kernel, by decide +kernel, by decide +kernel⟩
theorem mm_X4_readNumber : mV yX4_readNumber cX4_readNumber 3 (some .boolean) 2 := ⟨lw_g_of _ 440 (by decide +kernel) rfl, lw_g_of _ 8 (by decide +kernel) rfl, lw_g_of _ 56 (by decide +kernel) rfl, lw_g_of _ 441 (by decide +kernel) rfl, by decide +kernel, by decide +kernel, by decide +kernel⟩
theorem mm_X4_readPlan : mV yX4_readPlan cX4_readPlan 2 (some .boolean) 1 := ⟨lw_g_of _ 466 (by decide +kernel) rfl, lw_g_of _ 13 (by decide +kernel) rfl, lw_g_of _ 56 (by decide +kernel) rfl, lw_g_of _ 467 (by decide +kernel) rfl, by decide +kernel, by decide +kernel, by decide +kernel⟩
theorem mm_X4_readSaid : mV yX4_readSaid cX4_readSaid 2 (some .boolean) 1 := ⟨lw_g_of _ 475 (by decide +kernel) rfl, lw_g_of _ 14 (by decide +kernel) rfl, lw_g_of _ 56 (by decide +kernel) rfl, lw_g_of _ 476 (by decide +kernel) rfl, by decide +kernel, by decide +kernel, by decide +kernel⟩
theorem mm_X4_readStop : mV yX4_readStop cX4_readStop 1 (some .boolean) 0 := ⟨lw_g_of _ 461 (by decide +kernel) rfl, lw_g_of _ 12 (by decide +kernel) rfl, lw_g_of _ 56 (by decide +kernel) rfl, lw_g_of _ 462 (by decide +kernel) rfl, by decide +kernel, by decide +kernel, by decide +kernel⟩
theorem mm_X4_readToken : mV yX4_readToken cX4_readToken 2 (some .boolean) 0 := ⟨lw_g_of _ 359 (by decide +kernel) rfl, lw_g_of _ 0 (by decide +kernel) rfl, lw_g_of _ 56 (by decide +kernel) rfl, lw_g_of _ 360 (by decide +kernel) rfl, by decide +kernel, by decide +kernel, by decide +kernel⟩
theorem mm_X4_refuse : mV yX4_refuse cX4_refuse 3 (some .boolean) 2 := ⟨lw_g_of _ 371 (by decide +kernel) rfl, lw_g_of _ 3 (by decide +kernel) rfl, lw_g_of _ 56 (by decide +kernel) rfl, lw_g_of _ 372 (by decide +kernel) rfl, by decide +kernel, by decide +kernel, by decide +kernel⟩
theorem mm_X4_skipBlanks : mV yX4_skipBlanks cX4_skipBlanks 2 none 0 := ⟨lw_g_of _ 363 (by decide +kernel) rfl, lw_g_of _ 1 (by decide +kernel) rfl, lw_g_of _ 56 (by decide +kernel) rfl, lw_g_of _ 364 (by decide +kernel) rfl, by decide +kernel, by decide +kernel, by decide +kernel⟩
theorem mm_X4_takeGround : mV yX4_takeGround cX4_takeGround 5 (some .boolean) 3 := ⟨lw_g_of _ 449 (by decide +kernel) rfl, lw_g_of _ 10 (by decide +kernel) rfl, lw_g_of _ 56 (by decide +kernel) rfl, lw_g_of _ 450 (by decide +kernel) rfl, by decide +kernel, by decide +kernel, by decide +kernel⟩
theorem mm_X4_tell : mV yX4_tell cX4_tell 4 (some .int) 1 := ⟨lw_g_of _ 350 (by decide +kernel) rfl, lw_g_of _ 351 (by decide +kernel) rfl, lw_g_of _ 56 (by decide +kernel) rfl, lw_g_of _ 352 (by decide +kernel) rfl, by decide +kernel, by decide +kernel, by decide +kernel⟩
theorem mm_X5_hold : mV yX5_hold cX5_hold 6 none 2 := ⟨lw_g_of _ 632 (by decide +kernel) rfl, lw_g_of _ 633 (by decide +kernel) rfl, lw_g_of _ 58 (by decide +kernel) rfl, lw_g_of _ 634 (by decide +kernel) rfl, by decide +kernel, by decide +kernel, by decide +kernel⟩
theorem mm_X7_aim : mV yX7_aim cX7_aim 2 (some .int) 1 := ⟨lw_g_of _ 1020 (by decide +kernel) rfl, lw_g_of _ 1021 (by decide +kernel) rfl, lw_g_of _ 61 (by decide +kernel) rfl, lw_g_of _ 1022 (by decide +kernel) rfl, by decide +kernel, by decide +kernel, by decide +kernel⟩
theorem mm_X7_back : mV yX7_back cX7_back 2 (some .int) 1 := ⟨lw_g_of _ 1175 (by decide +kernel) rfl, lw_g_of _ 1176 (by decide +kernel) rfl, lw_g_of _ 61 (by decide +kernel) rfl, lw_g_of _ 1177 (by decide +kernel) rfl, by decide +kernel, by decide +kernel, by decide +kernel⟩
theorem mm_X7_becomes : mV yX7_becomes cX7_becomes 4 (some .int) 2 := ⟨lw_g_of _ 1017 (by decide +kernel) rfl, lw_g_of _ 43 (by decide +kernel) rfl, lw_g_of _ 61 (by decide +kernel) rfl, lw_g_of _ 1018 (by decide +kernel) rfl, by decide +kernel, by decide +kernel, by decide +kernel⟩
theorem mm_X7_becomesBit : mV yX7_becomesBit cX7_becomesBit 7 (some .int) 5 := ⟨lw_g_of _ 1029 (by decide +kernel) rfl, lw_g_of _ 44 (by decide +kernel) rfl, lw_g_of _ 61 (by decide +kernel) rfl, lw_g_of _ 1030 (by decide +kernel) rfl, by decide +kernel, by decide +kernel, by decide +kernel⟩
theorem mm_X7_bitsOf : mS yX7_bitsOf cX7_bitsOf 3 (some .int) 1 := ⟨lw_g_of _ 1004 (by decide +kernel) rfl, lw_g_of _ 61 (by decide +kernel) rfl, lw_g_of _ 1005 (by decide +kernel) rfl, by decide +kernel, by decide +kernel, by decide +kernel⟩
theorem mm_X7_byteAt : mV yX7_byteAt cX7_byteAt 2 (some .int) 1 := ⟨lw_g_of _ 912 (by decide +kernel) rfl, lw_g_of _ 27 (by decide +kernel) rfl, lw_g_of _ 61 (by decide +kernel) rfl, lw_g_of _ 913 (by decide +kernel) rfl, by decide +kernel, by decide +kernel, by decide +kernel⟩
theorem mm_X7_canSay : mV yX7_canSay cX7_canSay 4 (some .boolean) 3 := ⟨lw_g_of _ 1131 (by decide +kernel) rfl, lw_g_of _ 50 (by decide +kernel) rfl, lw_g_of _ 61 (by decide +kernel) rfl, lw_g_of _ 1132 (by decide +kernel) rfl, by decide +kernel, by decide +kernel, by decide +kernel⟩
theorem mm_X7_chain : mV yX7_chain cX7_chain 5 (some .int) 1 := ⟨lw_g_of _ 1076 (by decide +kernel) rfl, lw_g_of _ 1077 (by decide +kernel) rfl, lw_g_of _ 61 (by decide +kernel) rfl, lw_g_of _ 1078 (by decide +kernel) rfl, by decide +kernel, by decide +kernel, by decide +kernel⟩
theorem mm_X7_claim : mV yX7_claim cX7_claim 3 (some .int) 2 := ⟨lw_g_of _ 984 (by decide +kernel) rfl, lw_g_of _ 985 (by decide +kernel) rfl, lw_g_of _ 61 (by decide +kernel) rfl, lw_g_of _ 986 (by decide +kernel) rfl, by decide +kernel, by decide +kernel, by decide +kernel⟩
theorem mm_X7_common : mS yX7_common cX7_common 10 (some .long) 2 := ⟨lw_g_of _ 1119 (by decide +kernel) rfl, lw_g_of _ 61 (by decide +kernel) rfl, lw_g_of _ 1120 (by decide +kernel) rfl, by decide +kernel, by decide +kernel, by decide +kernel⟩
theorem mm_X7_copies : mV yX7_copies cX7_copies 4 none 2 := ⟨lw_g_of _ 1172 (by decide +kernel) rfl, lw_g_of _ 52 (by decide +kernel) rfl, lw_g_of _ 61 (by decide +kernel) rfl, lw_g_of _ 1173 (by decide +kernel) rfl, by decide +kernel, by decide +kernel, by decide +kernel⟩
theorem mm_X7_count : mV yX7_count cX7_count 2 (some .int) 1 := ⟨lw_g_of _ 1200 (by decide +kernel) rfl, lw_g_of _ 1201 (by decide +kernel) rfl, lw_g_of _ 61 (by decide +kernel) rfl, lw_g_of _ 1202 (by decide +kernel) rfl, by decide +kernel, by decide +kernel, by decide +kernel⟩
theorem mm_X7_cut : mV yX7_cut cX7_cut 2 (some .int) 1 := ⟨lw_g_of _ 1044 (by decide +kernel) rfl, lw_g_of _ 1045 (by decide +kernel) rfl, lw_g_of _ 61 (by decide +kernel) rfl, lw_g_of _ 1046 (by decide +kernel) rfl, by decide +kernel, by decide +kernel, by decide +kernel⟩
theorem mm_X7_day : mV yX7_day cX7_day 2 (some .int) 1 := ⟨lw_g_of _ 1011 (by decide +kernel) rfl, lw_g_of _ 1012 (by decide +kernel) rfl, lw_g_of _ 61 (by decide +kernel) rfl, lw_g_of _ 1013 (by decide +kernel) rfl, by decide +kernel, by decide +kernel, by decide +kernel⟩
theorem mm_X7_days : mV yX7_days cX7_days 3 (some .int) 0 := ⟨lw_g_of _ 1134 (by decide +kernel) rfl, lw_g_of _ 1135 (by decide +kernel) rfl, lw_g_of _ 61 (by decide +kernel) rfl, lw_g_of _ 1136 (by decide +kernel) rfl, by decide +kernel, by decide +kernel, by decide +kernel⟩
theorem mm_X7_drift : mV yX7_drift cX7_drift 8 (some .int) 3 := ⟨lw_g_of _ 1161 (by decide +kernel) rfl, lw_g_of _ 1162 (by decide +kernel) rfl, lw_g_of _ 61 (by decide +kernel) rfl, lw_g_of _ 1163 (by decide +kernel) rfl, by decide +kernel, by decide +kernel, by decide +kernel⟩
theorem mm_X7_drop : mV yX7_drop cX7_drop 2 (some .int) 1 := ⟨lw_g_of _ 1007 (by decide +kernel) rfl, lw_g_of _ 1008 (by decide +kernel) rfl, lw_g_of _ 61 (by decide +kernel) rfl, lw_g_of _ 1009 (by decide +kernel) rfl, by decide +kernel, by decide +kernel, by decide +kernel⟩
theorem mm_X7_end : mV yX7_end cX7_end 3 (some .int) 1 := ⟨lw_g_of _ 899 (by decide +kernel) rfl, lw_g_of _ 900 (by decide +kernel) rfl, lw_g_of _ 61 (by decide +kernel) rfl, lw_g_of _ 901 (by decide +kernel) rfl, by decide +kernel, by decide +kernel, by decide +kernel⟩
theorem mm_X7_endStands : mV yX7_endStands cX7_endStands 2 (some .boolean) 1 := ⟨lw_g_of _ 1094 (by decide +kernel) rfl, lw_g_of _ 47 (by decide +kernel) rfl, lw_g_of _ 61 (by decide +kernel) rfl, lw_g_of _ 1095 (by decide +kernel) rfl, by decide +kernel, by decide +kernel, by decide +kernel⟩
theorem mm_X7_ends : mV yX7_ends cX7_ends 4 (some .boolean) 3 := ⟨lw_g_of _ 936 (by decide +kernel) rfl, lw_g_of _ 32 (by decide +kernel) rfl, lw_g_of _ 61 (by decide +kernel) rfl, lw_g_of _ 937 (by decide +kernel) rfl, by decide +kernel, by decide +kernel, by decide +kernel⟩
theorem mm_X7_ever : mV yX7_ever cX7_ever 5 (some .int) 1 := ⟨lw_g_of _ 1072 (by decide +kernel) rfl, lw_g_of _ 1073 (by decide +kernel) rfl, lw_g_of _ 61 (by decide +kernel) rfl, lw_g_of _ 1074 (by decide +kernel) rfl, by decide +kernel, by decide +kernel, by decide +kernel⟩
theorem mm_X7_every : mV yX7_every cX7_every 1 (some .int) 0 := ⟨lw_g_of _ 1053 (by decide +kernel) rfl, lw_g_of _ 45 (by decide +kernel) rfl, lw_g_of _ 61 (by decide +kernel) rfl, lw_g_of _ 1054 (by decide +kernel) rfl, by decide +kernel, by decide +kernel, by decide +kernel⟩
theorem mm_X7_falls : mV yX7_falls cX7_falls 4 (some .int) 3 := ⟨lw_g_of _ 1032 (by decide +kernel) rfl, lw_g_of _ 1033 (by decide +kernel) rfl, lw_g_of _ 61 (by decide +kernel) rfl, lw_g_of _ 1034 (by decide +kernel) rfl, by decide +kernel, by decide +kernel, by decide +kernel⟩
theorem mm_X7_fault : mV yX7_fault cX7_fault 1 (some .int) 0 := ⟨lw_g_of _ 969 (by decide +kernel) rfl, lw_g_of _ 970 (by decide +kernel) rfl, lw_g_of _ 61 (by decide +kernel) rfl, lw_g_of _ 971 (by decide +kernel) rfl, by decide +kernel, by decide +kernel, by decide +kernel⟩
theorem mm_X7_feed : mV yX7_feed cX7_feed 2 (some .int) 1 := ⟨lw_g_of _ 891 (by decide +kernel) rfl, lw_g_of _ 892 (by decide +kernel) rfl, lw_g_of _ 61 (by decide +kernel) rfl, lw_g_of _ 893 (by decide +kernel) rfl, by decide +kernel, by decide +kernel, by decide +kernel⟩
theorem mm_X7_few : mV yX7_few cX7_few 2 (some .int) 1 := ⟨lw_g_of _ 1084 (by decide +kernel) rfl, lw_g_of _ 1085 (by decide +kernel) rfl, lw_g_of _ 61 (by decide +kernel) rfl, lw_g_of _ 1086 (by decide +kernel) rfl, by decide +kernel, by decide +kernel, by decide +kernel⟩
theorem mm_X7_fewest : mV yX7_fewest cX7_fewest 7 (some .int) 2 := ⟨lw_g_of _ 1089 (by decide +kernel) rfl, lw_g_of _ 46 (by decide +kernel) rfl, lw_g_of _ 61 (by decide +kernel) rfl, lw_g_of _ 1090 (by decide +kernel) rfl, by decide +kernel, by decide +kernel, by decide +kernel⟩
theorem mm_X7_firstDraft : mV yX7_firstDraft cX7_firstDraft 2 none 0 := ⟨lw_g_of _ 796 (by decide +kernel) rfl, lw_g_of _ 24 (by decide +kernel) rfl, lw_g_of _ 61 (by decide +kernel) rfl, lw_g_of _ 797 (by decide +kernel) rfl, by decide +kernel, by decide +kernel, by decide +kernel⟩
theorem mm_X7_fits : mV yX7_fits cX7_fits 8 (some .int) 1 := ⟨lw_g_of _ 1153 (by decide +kernel) rfl, lw_g_of _ 1154 (by decide +kernel) rfl, lw_g_of _ 61 (by decide +kernel) rfl, lw_g_of _ 1155 (by decide +kernel) rfl, by decide +kernel, by decide +kernel, by decide +kernel⟩
theorem mm_X7_flag : mS yX7_flag cX7_flag 1 (some .int) 1 := ⟨lw_g_of _ 981 (by decide +kernel) rfl, lw_g_of _ 61 (by decide +kernel) rfl, lw_g_of _ 982 (by decide +kernel) rfl, by decide +kernel, by decide +kernel, by decide +kernel⟩
theorem mm_X7_foil : mV yX7_foil cX7_foil 2 (some .int) 1 := ⟨lw_g_of _ 1097 (by decide +kernel) rfl, lw_g_of _ 1098 (by decide +kernel) rfl, lw_g_of _ 61 (by decide +kernel) rfl, lw_g_of _ 1099 (by decide +kernel) rfl, by decide +kernel, by decide +kernel, by decide +kernel⟩
theorem mm_X7_forget : mV yX7_forget cX7_forget 2 (some .int) 1 := ⟨lw_g_of _ 1149 (by decide +kernel) rfl, lw_g_of _ 1150 (by decide +kernel) rfl, lw_g_of _ 61 (by decide +kernel) rfl, lw_g_of _ 1151 (by decide +kernel) rfl, by decide +kernel, by decide +kernel, by decide +kernel⟩
theorem mm_X7_game : mV yX7_game cX7_game 5 (some .int) 1 := ⟨lw_g_of _ 1122 (by decide +kernel) rfl, lw_g_of _ 1123 (by decide +kernel) rfl, lw_g_of _ 61 (by decide +kernel) rfl, lw_g_of _ 1124 (by decide +kernel) rfl, by decide +kernel, by decide +kernel, by decide +kernel⟩
theorem mm_X7_in : mS yX7_in cX7_in 6 (some .boolean) 3 := ⟨lw_g_of _ 896 (by decide +kernel) rfl, lw_g_of _ 61 (by decide +kernel) rfl, lw_g_of _ 897 (by decide +kernel) rfl, by decide +kernel, by decide +kernel, by decide +kernel⟩
theorem mm_X7_inTime : mV yX7_inTime cX7_inTime 3 (some .boolean) 2 := ⟨lw_g_of _ 1001 (by decide +kernel) rfl, lw_g_of _ 42 (by decide +kernel) rfl, lw_g_of _ 61 (by decide +kernel) rfl, lw_g_of _ 1002 (by decide +kernel) rfl, by decide +kernel, by decide +kernel, by decide +kernel⟩
theorem mm_X7_is : mV yX7_is cX7_is 5 (some .boolean) 4 := ⟨lw_g_of _ 932 (by decide +kernel) rfl, lw_g_of _ 31 (by decide +kernel) rfl, lw_g_of _ 61 (by decide +kernel) rfl, lw_g_of _ 933 (by decide +kernel) rfl, by decide +kernel, by decide +kernel, by decide +kernel⟩
theorem mm_X7_isClaim : mV yX7_isClaim cX7_isClaim 2 (some .boolean) 1 := ⟨lw_g_of _ 989 (by decide +kernel) rfl, lw_g_of _ 41 (by decide +kernel) rfl, lw_g_of _ 61 (by decide +kernel) rfl, lw_g_of _ 990 (by decide +kernel) rfl, by decide +kernel, by decide +kernel, by decide +kernel⟩
theorem mm_X7_isPart : mS yX7_isPart cX7_isPart 1 (some .boolean) 1 := ⟨lw_g_of _ 1069 (by decide +kernel) rfl, lw_g_of _ 61 (by decide +kernel) rfl, lw_g_of _ 1070 (by decide +kernel) rfl, by decide +kernel, by decide +kernel, by decide +kernel⟩
theorem mm_X7_isSheet : mS yX7_isSheet cX7_isSheet 2 (some .boolean) 2 := ⟨lw_g_of _ 1183 (by decide +kernel) rfl, lw_g_of _ 61 (by decide +kernel) rfl, lw_g_of _ 1184 (by decide +kernel) rfl, by decide +kernel, by decide +kernel, by decide +kernel⟩
theorem mm_X7_isSo : mV yX7_isSo cX7_isSo 5 (some .boolean) 1 := ⟨lw_g_of _ 1158 (by decide +kernel) rfl, lw_g_of _ 51 (by decide +kernel) rfl, lw_g_of _ 61 (by decide +kernel) rfl, lw_g_of _ 1159 (by decide +kernel) rfl, by decide +kernel, by decide +kernel, by decide +kernel⟩
theorem mm_X7_isUnless : mV yX7_isUnless cX7_isUnless 1 (some .boolean) 0 := ⟨lw_g_of _ 966 (by decide +kernel) rfl, lw_g_of _ 39 (by decide +kernel) rfl, lw_g_of _ 61 (by decide +kernel) rfl, lw_g_of _ 967 (by decide +kernel) rfl, by decide +kernel, by decide +kernel, by decide +kernel⟩
theorem mm_X7_keep : mV yX7_keep cX7_keep 3 (some .int) 1 := ⟨lw_g_of _ 1167 (by decide +kernel) rfl, lw_g_of _ 1168 (by decide +kernel) rfl, lw_g_of _ 61 (by decide +kernel) rfl, lw_g_of _ 1169 (by decide +kernel) rfl, by decide +kernel, by decide +kernel, by decide +kernel⟩
theorem mm_X7_keepDraft : mV yX7_keepDraft cX7_keepDraft 2 none 0 := ⟨lw_g_of _ 800 (by decide +kernel) rfl, lw_g_of _ 25 (by decide +kernel) rfl, lw_g_of _ 61 (by decide +kernel) rfl, lw_g_of _ 801 (by decide +kernel) rfl, by decide +kernel, by decide +kernel, by decide +kernel⟩
theorem mm_X7_late : mV yX7_late cX7_late 3 (some .int) 0 := ⟨lw_g_of _ 1080 (by decide +kernel) rfl, lw_g_of _ 1081 (by decide +kernel) rfl, lw_g_of _ 61 (by decide +kernel) rfl, lw_g_of _ 1082 (by decide +kernel) rfl, by decide +kernel, by decide +kernel, by decide +kernel⟩
theorem mm_X7_lay : mV yX7_lay cX7_lay 4 (some .int) 3 := ⟨lw_g_of _ 1186 (by decide +kernel) rfl, lw_g_of _ 1187 (by decide +kernel) rfl, lw_g_of _ 61 (by decide +kernel) rfl, lw_g_of _ 1188 (by decide +kernel) rfl, by decide +kernel, by decide +kernel, by decide +kernel⟩
theorem mm_X7_leans : mV yX7_leans cX7_leans 4 (some .int) 3 := ⟨lw_g_of _ 1024 (by decide +kernel) rfl, lw_g_of _ 1025 (by decide +kernel) rfl, lw_g_of _ 61 (by decide +kernel) rfl, lw_g_of _ 1026 (by decide +kernel) rfl, by decide +kernel, by decide +kernel, by decide +kernel⟩
theorem mm_X7_lineNow : mV yX7_lineNow cX7_lineNow 1 (some .int) 0 := ⟨lw_g_of _ 928 (by decide +kernel) rfl, lw_g_of _ 30 (by decide +kernel) rfl, lw_g_of _ 61 (by decide +kernel) rfl, lw_g_of _ 929 (by decide +kernel) rfl, by decide +kernel, by decide +kernel, by decide +kernel⟩
theorem mm_X7_looked : mV yX7_looked cX7_looked 3 (some .int) 2 := ⟨lw_g_of _ 954 (by decide +kernel) rfl, lw_g_of _ 36 (by decide +kernel) rfl, lw_g_of _ 61 (by decide +kernel) rfl, lw_g_of _ 955 (by decide +kernel) rfl, by decide +kernel, by decide +kernel, by decide +kernel⟩
theorem mm_X7_luck : mV yX7_luck cX7_luck 13 (some .long) 2 := ⟨lw_g_of _ 1109 (by decide +kernel) rfl, lw_g_of _ 1110 (by decide +kernel) rfl, lw_g_of _ 61 (by decide +kernel) rfl, lw_g_of _ 1111 (by decide +kernel) rfl, by decide +kernel, by decide +kernel, by decide +kernel⟩
theorem mm_X7_needs : mV yX7_needs cX7_needs 3 none 2 := ⟨lw_g_of _ 920 (by decide +kernel) rfl, lw_g_of _ 28 (by decide +kernel) rfl, lw_g_of _ 61 (by decide +kernel) rfl, lw_g_of _ 921 (by decide +kernel) rfl, by decide +kernel, by decide +kernel, by decide +kernel⟩
theorem mm_X7_next : mV yX7_next cX7_next 2 none 0 := ⟨lw_g_of _ 908 (by decide +kernel) rfl, lw_g_of _ 26 (by decide +kernel) rfl, lw_g_of _ 61 (by decide +kernel) rfl, lw_g_of _ 909 (by decide +kernel) rfl, by decide +kernel, by decide +kernel, by decide +kernel⟩
theorem mm_X7_orders : mS yX7_orders cX7_orders 4 (some .long) 1 := ⟨lw_g_of _ 1142 (by decide +kernel) rfl, lw_g_of _ 61 (by decide +kernel) rfl, lw_g_of _ 1143 (by decide +kernel) rfl, by decide +kernel, by decide +kernel, by decide +kernel⟩
theorem mm_X7_plan : mV yX7_plan cX7_plan 2 (some .int) 1 := ⟨lw_g_of _ 992 (by decide +kernel) rfl, lw_g_of _ 993 (by decide +kernel) rfl, lw_g_of _ 61 (by decide +kernel) rfl, lw_g_of _ 994 (by decide +kernel) rfl, by decide +kernel, by decide +kernel, by decide +kernel⟩
theorem mm_X7_plans : mV yX7_plans cX7_plans 2 (some .int) 1 := ⟨lw_g_of _ 1040 (by decide +kernel) rfl, lw_g_of _ 1041 (by decide +kernel) rfl, lw_g_of _ 61 (by decide +kernel) rfl, lw_g_of _ 1042 (by decide +kernel) rfl, by decide +kernel, by decide +kernel, by decide +kernel⟩
theorem mm_X7_play : mV yX7_play cX7_play 6 none 0 := ⟨lw_g_of _ 1127 (by decide +kernel) rfl, lw_g_of _ 49 (by decide +kernel) rfl, lw_g_of _ 61 (by decide +kernel) rfl, lw_g_of _ 1128 (by decide +kernel) rfl, by decide +kernel, by decide +kernel, by decide +kernel⟩
theorem mm_X7_read : mV yX7_read cX7_read 11 (some .int) 4 := ⟨lw_g_of _ 1190 (by decide +kernel) rfl, lw_g_of _ 1191 (by decide +kernel) rfl, lw_g_of _ 61 (by decide +kernel) rfl, lw_g_of _ 1192 (by decide +kernel) rfl, by decide +kernel, by decide +kernel, by decide +kernel⟩
theorem mm_X7_readClaim : mV yX7_readClaim cX7_readClaim 2 (some .int) 0 := ⟨lw_g_of _ 946 (by decide +kernel) rfl, lw_g_of _ 34 (by decide +kernel) rfl, lw_g_of _ 61 (by decide +kernel) rfl, lw_g_of _ 947 (by decide +kernel) rfl, by decide +kernel, by decide +kernel, by decide +kernel⟩
theorem mm_X7_readLine : mV yX7_readLine cX7_readLine 2 none 0 := ⟨lw_g_of _ 924 (by decide +kernel) rfl, lw_g_of _ 29 (by decide +kernel) rfl, lw_g_of _ 61 (by decide +kernel) rfl, lw_g_of _ 925 (by decide +kernel) rfl, by decide +kernel, by decide +kernel, by decide +kernel⟩
theorem mm_X7_readLineOf : mV yX7_readLineOf cX7_readLineOf 3 none 1 := ⟨lw_g_of _ 942 (by decide +kernel) rfl, lw_g_of _ 33 (by decide +kernel) rfl, lw_g_of _ 61 (by decide +kernel) rfl, lw_g_of _ 943 (by decide +kernel) rfl, by decide +kernel, by decide +kernel, by decide +kernel⟩
theorem mm_X7_readMore : mV yX7_readMore cX7_readMore 4 (some .int) 2 := ⟨lw_g_of _ 958 (by decide +kernel) rfl, lw_g_of _ 37 (by decide +kernel) rfl, lw_g_of _ 61 (by decide +kernel) rfl, lw_g_of _ 959 (by decide +kernel) rfl, by decide +kernel, by decide +kernel, by decide +kernel⟩
theorem mm_X7_readNumber : mV yX7_readNumber cX7_readNumber 4 (some .int) 2 := ⟨lw_g_of _ 950 (by decide +kernel) rfl, lw_g_of _ 35 (by decide +kernel) rfl, lw_g_of _ 61 (by decide +kernel) rfl, lw_g_of _ 951 (by decide +kernel) rfl, by decide +kernel, by decide +kernel, by decide +kernel⟩
theorem mm_X7_readWhole : mV yX7_readWhole cX7_readWhole 4 none 1 := ⟨lw_g_of _ 962 (by decide +kernel) rfl, lw_g_of _ 38 (by decide +kernel) rfl, lw_g_of _ 61 (by decide +kernel) rfl, lw_g_of _ 963 (by decide +kernel) rfl, by decide +kernel, by decide +kernel, by decide +kernel⟩
theorem mm_X7_reply : mV yX7_reply cX7_reply 8 (some .int) 2 := ⟨lw_g_of _ 1065 (by decide +kernel) rfl, lw_g_of _ 1066 (by decide +kernel) rfl, lw_g_of _ 61 (by decide +kernel) rfl, lw_g_of _ 1067 (by decide +kernel) rfl, by decide +kernel, by decide +kernel, by decide +kernel⟩
theorem mm_X7_rule : mV yX7_rule cX7_rule 2 (some .int) 1 := ⟨lw_g_of _ 973 (by decide +kernel) rfl, lw_g_of _ 974 (by decide +kernel) rfl, lw_g_of _ 61 (by decide +kernel) rfl, lw_g_of _ 975 (by decide +kernel) rfl, by decide +kernel, by decide +kernel, by decide +kernel⟩
theorem mm_X7_say : mV yX7_say cX7_say 2 (some .int) 1 := ⟨lw_g_of _ 996 (by decide +kernel) rfl, lw_g_of _ 997 (by decide +kernel) rfl, lw_g_of _ 61 (by decide +kernel) rfl, lw_g_of _ 998 (by decide +kernel) rfl, by decide +kernel, by decide +kernel, by decide +kernel⟩
theorem mm_X7_see : mV yX7_see cX7_see 3 (some .int) 2 := ⟨lw_g_of _ 1145 (by decide +kernel) rfl, lw_g_of _ 1146 (by decide +kernel) rfl, lw_g_of _ 61 (by decide +kernel) rfl, lw_g_of _ 1147 (by decide +kernel) rfl, by decide +kernel, by decide +kernel, by decide +kernel⟩
theorem mm_X7_share : mV yX7_share cX7_share 7 (some .long) 2 := ⟨lw_g_of _ 1138 (by decide +kernel) rfl, lw_g_of _ 1139 (by decide +kernel) rfl, lw_g_of _ 61 (by decide +kernel) rfl, lw_g_of _ 1140 (by decide +kernel) rfl, by decide +kernel, by decide +kernel, by decide +kernel⟩
theorem mm_X7_sheet : mV yX7_sheet cX7_sheet 5 (some .int) 3 := ⟨lw_g_of _ 1179 (by decide +kernel) rfl, lw_g_of _ 1180 (by decide +kernel) rfl, lw_g_of _ 61 (by decide +kernel) rfl, lw_g_of _ 1181 (by decide +kernel) rfl, by decide +kernel, by decide +kernel, by decide +kernel⟩
theorem mm_X7_standing : mV yX7_standing cX7_standing 5 (some .int) 1 := ⟨lw_g_of _ 978 (by decide +kernel) rfl, lw_g_of _ 40 (by decide +kernel) rfl, lw_g_of _ 61 (by decide +kernel) rfl, lw_g_of _ 979 (by decide +kernel) rfl, by decide +kernel, by decide +kernel, by decide +kernel⟩
theorem mm_X7_stands : mV yX7_stands cX7_stands 2 (some .int) 1 := ⟨lw_g_of _ 1048 (by decide +kernel) rfl, lw_g_of _ 1049 (by decide +kernel) rfl, lw_g_of _ 61 (by decide +kernel) rfl, lw_g_of _ 1050 (by decide +kernel) rfl, by decide +kernel, by decide +kernel, by decide +kernel⟩
theorem mm_X7_sum : mV yX7_sum cX7_sum 5 (some .int) 1 := ⟨lw_g_of _ 1056 (by decide +kernel) rfl, lw_g_of _ 1057 (by decide +kernel) rfl, lw_g_of _ 61 (by decide +kernel) rfl, lw_g_of _ 1058 (by decide +kernel) rfl, by decide +kernel, by decide +kernel, by decide +kernel⟩
theorem mm_X7_text : mV yX7_text cX7_text 2 (some .int) 0 := ⟨lw_g_of _ 903 (by decide +kernel) rfl, lw_g_of _ 904 (by decide +kernel) rfl, lw_g_of _ 61 (by decide +kernel) rfl, lw_g_of _ 905 (by decide +kernel) rfl, by decide +kernel, by decide +kernel, by decide +kernel⟩
theorem mm_X7_told : mS yX7_told cX7_told 7 (some .long) 3 := ⟨lw_g_of _ 1116 (by decide +kernel) rfl, lw_g_of _ 61 (by decide +kernel) rfl, lw_g_of _ 1117 (by decide +kernel) rfl, by decide +kernel, by decide +kernel, by decide +kernel⟩
theorem mm_X7_torn : mV yX7_torn cX7_torn 1 (some .int) 0 := ⟨lw_g_of _ 1196 (by decide +kernel) rfl, lw_g_of _ 1197 (by decide +kernel) rfl, lw_g_of _ 61 (by decide +kernel) rfl, lw_g_of _ 1198 (by decide +kernel) rfl, by decide +kernel, by decide +kernel, by decide +kernel⟩
theorem mm_X7_trial : mV yX7_trial cX7_trial 3 (some .int) 1 := ⟨lw_g_of _ 1101 (by decide +kernel) rfl, lw_g_of _ 1102 (by decide +kernel) rfl, lw_g_of _ 61 (by decide +kernel) rfl, lw_g_of _ 1103 (by decide +kernel) rfl, by decide +kernel, by decide +kernel, by decide +kernel⟩
theorem mm_X7_tries : mV yX7_tries cX7_tries 7 (some .int) 1 := ⟨lw_g_of _ 1106 (by decide +kernel) rfl, lw_g_of _ 48 (by decide +kernel) rfl, lw_g_of _ 61 (by decide +kernel) rfl, lw_g_of _ 1107 (by decide +kernel) rfl, by decide +kernel, by decide +kernel, by decide +kernel⟩
theorem mm_X7_upon : mV yX7_upon cX7_upon 2 (some .int) 1 := ⟨lw_g_of _ 1061 (by decide +kernel) rfl, lw_g_of _ 1062 (by decide +kernel) rfl, lw_g_of _ 61 (by decide +kernel) rfl, lw_g_of _ 1063 (by decide +kernel) rfl, by decide +kernel, by decide +kernel, by decide +kernel⟩
theorem mm_X7_yards : mV yX7_yards cX7_yards 3 (some .int) 2 := ⟨lw_g_of _ 1036 (by decide +kernel) rfl, lw_g_of _ 1037 (by decide +kernel) rfl, lw_g_of _ 61 (by decide +kernel) rfl, lw_g_of _ 1038 (by decide +kernel) rfl, by decide +kernel, by decide +kernel, by decide +kernel⟩
theorem mm_J6_bitCount_0f7a4 : mS yJ6_bitCount_0f7a4 cJ6_bitCount_0f7a4 1 (some .int) 1 := ⟨lw_g_of _ 536 (by decide +kernel) rfl, lw_g_of _ 67 (by decide +kernel) rfl, lw_g_of _ 537 (by decide +kernel) rfl, by decide +kernel, by decide +kernel, by decide +kernel⟩
theorem mm_J9_abs_067f4 : mS yJ9_abs_067f4 cJ9_abs_067f4 2 (some .long) 1 := ⟨lw_g_of _ 654 (by decide +kernel) rfl, lw_g_of _ 68 (by decide +kernel) rfl, lw_g_of _ 655 (by decide +kernel) rfl, by decide +kernel, by decide +kernel, by decide +kernel⟩
theorem mm_J9_max_7cf53 : mS yJ9_max_7cf53 cJ9_max_7cf53 2 (some .int) 2 := ⟨lw_g_of _ 603 (by decide +kernel) rfl, lw_g_of _ 68 (by decide +kernel) rfl, lw_g_of _ 604 (by decide +kernel) rfl, by decide +kernel, by decide +kernel, by decide +kernel⟩
theorem mm_J0_charAt_5068e : mV yJ0_charAt_5068e cJ0_charAt_5068e 2 (some .char) 1 := ⟨lw_g_of _ 397 (by decide +kernel) rfl, lw_g_of _ 398 (by decide +kernel) rfl, lw_g_of _ 62 (by decide +kernel) rfl, lw_g_of _ 399 (by decide +kernel) rfl, by decide +kernel, by decide +kernel, by decide +kernel⟩
theorem mm_J0_checkIndex_df160 : mS yJ0_checkIndex_df160 cJ0_checkIndex_df160 2 none 2 := ⟨lw_g_of _ 408 (by decide +kernel) rfl, lw_g_of _ 62 (by decide +kernel) rfl, lw_g_of _ 409 (by decide +kernel) rfl, by decide +kernel, by decide +kernel, by decide +kernel⟩
theorem mm_J0_coder_7d493 : mV yJ0_coder_7d493 cJ0_coder_7d493 1 (some .byte) 0 := ⟨lw_g_of _ 391 (by decide +kernel) rfl, lw_g_of _ 392 (by decide +kernel) rfl, lw_g_of _ 62 (by decide +kernel) rfl, lw_g_of _ 393 (by decide +kernel) rfl, by decide +kernel, by decide +kernel, by decide +kernel⟩
theorem mm_J0_isLatin1_aae02 : mV yJ0_isLatin1_aae02 cJ0_isLatin1_aae02 1 (some .boolean) 0 := ⟨lw_g_of _ 401 (by decide +kernel) rfl, lw_g_of _ 402 (by decide +kernel) rfl, lw_g_of _ 62 (by decide +kernel) rfl, lw_g_of _ 403 (by decide +kernel) rfl, by decide +kernel, by decide +kernel, by decide +kernel⟩
theorem mm_J0_length_8abf5 : mV yJ0_length_8abf5 cJ0_length_8abf5 1 (some .int) 0 := ⟨lw_g_of _ 387 (by decide +kernel) rfl, lw_g_of _ 388 (by decide +kernel) rfl, lw_g_of _ 62 (by decide +kernel) rfl, lw_g_of _ 389 (by decide +kernel) rfl, by decide +kernel, by decide +kernel, by decide +kernel⟩
theorem mm_J1_charAt_3b067 : mS yJ1_charAt_3b067 cJ1_charAt_3b067 2 (some .char) 2 := ⟨lw_g_of _ 405 (by decide +kernel) rfl, lw_g_of _ 63 (by decide +kernel) rfl, lw_g_of _ 406 (by decide +kernel) rfl, by decide +kernel, by decide +kernel, by decide +kernel⟩
theorem mm_J2_charAt_3b067 : mS yJ2_charAt_3b067 cJ2_charAt_3b067 2 (some .char) 2 := ⟨lw_g_of _ 416 (by decide +kernel) rfl, lw_g_of _ 65 (by decide +kernel) rfl, lw_g_of _ 417 (by decide +kernel) rfl, by decide +kernel, by decide +kernel, by decide +kernel⟩
theorem mm_J2_checkIndex_2214a : mS yJ2_checkIndex_2214a cJ2_checkIndex_2214a 2 none 2 := ⟨lw_g_of _ 419 (by decide +kernel) rfl, lw_g_of _ 65 (by decide +kernel) rfl, lw_g_of _ 420 (by decide +kernel) rfl, by decide +kernel, by decide +kernel, by decide +kernel⟩
theorem mm_J2_getChar_3b067 : mS yJ2_getChar_3b067 cJ2_getChar_3b067 2 (some .char) 2 := ⟨lw_g_of _ 426 (by decide +kernel) rfl, lw_g_of _ 65 (by decide +kernel) rfl, lw_g_of _ 427 (by decide +kernel) rfl, by decide +kernel, by decide +kernel, by decide +kernel⟩
theorem mm_J2_length_9d52b : mS yJ2_length_9d52b cJ2_length_9d52b 1 (some .int) 1 := ⟨lw_g_of _ 422 (by decide +kernel) rfl, lw_g_of _ 65 (by decide +kernel) rfl, lw_g_of _ 423 (by decide +kernel) rfl, by decide +kernel, by decide +kernel, by decide +kernel⟩
theorem mm_J3_checkIndex_8e157 : mS yJ3_checkIndex_8e157 cJ3_checkIndex_8e157 3 (some .int) 3 := ⟨lw_g_of _ 413 (by decide +kernel) rfl, lw_g_of _ 64 (by decide +kernel) rfl, lw_g_of _ 414 (by decide +kernel) rfl, by decide +kernel, by decide +kernel, by decide +kernel⟩
theorem ml_X6_66 : Cond.methodLink RX6 66 yX6_within ∈ lw_g := lw_g_of _ 334 (by decide +kernel) rfl
theorem ml_X6_70 : Cond.methodLink RX6 70 yX4_append ∈ lw_g := lw_g_of _ 337 (by decide +kernel) rfl
theorem ml_X6_78 : Cond.methodLink RX6 78 yX4_tell ∈ lw_g := lw_g_of _ 349 (by decide +kernel) rfl
theorem ml_X6_91 : Cond.methodLink RX6 91 yX3_become ∈ lw_g := lw_g_of _ 498 (by decide +kernel) rfl
theorem ml_X6_107 : Cond.methodLink RX6 107 yX3_standing ∈ lw_g := lw_g_of _ 513 (by decide +kernel) rfl
theorem ml_X6_114 : Cond.methodLink RX6 114 yX3_hasClaim ∈ lw_g := lw_g_of _ 521 (by decide +kernel) rfl
theorem ml_X6_138 : Cond.methodLink RX6 138 yX3_isSaid ∈ lw_g := lw_g_of _ 530 (by decide +kernel) rfl
theorem ml_X6_141 : Cond.methodLink RX6 141 yX3_inTime ∈ lw_g := lw_g_of _ 531 (by decide +kernel) rfl
theorem ml_X6_145 : Cond.methodLink RX6 145 yJ6_bitCount_0f7a4 ∈ lw_g := lw_g_of _ 535 (by decide +kernel) rfl
theorem ml_X6_150 : Cond.methodLink RX6 150 yX6_bind ∈ lw_g := lw_g_of _ 557 (by decide +kernel) rfl
theorem ml_X6_154 : Cond.methodLink RX6 154 yX3_addToPlan ∈ lw_g := lw_g_of _ 572 (by decide +kernel) rfl
theorem ml_X6_157 : Cond.methodLink RX6 157 yX3_hasSet ∈ lw_g := lw_g_of _ 581 (by decide +kernel) rfl
theorem ml_X6_160 : Cond.methodLink RX6 160 yJ9_max_7cf53 ∈ lw_g := lw_g_of _ 602 (by decide +kernel) rfl
theorem ml_X6_166 : Cond.methodLink RX6 166 yX6_fewestMore ∈ lw_g := lw_g_of _ 613 (by decide +kernel) rfl
theorem ml_X6_170 : Cond.methodLink RX6 170 yX5_hold ∈ lw_g := lw_g_of _ 631 (by decide +kernel) rfl
theorem ml_X6_175 : Cond.methodLink RX6 175 yX3_endStands ∈ lw_g := lw_g_of _ 617 (by decide +kernel) rfl
theorem ml_X6_178 : Cond.methodLink RX6 178 yX6_oneIf ∈ lw_g := lw_g_of _ 636 (by decide +kernel) rfl
theorem ml_X6_194 : Cond.methodLink RX6 194 yX6_weight ∈ lw_g := lw_g_of _ 646 (by decide +kernel) rfl
theorem ml_X6_198 : Cond.methodLink RX6 198 yX6_lowest ∈ lw_g := lw_g_of _ 650 (by decide +kernel) rfl
theorem ml_X6_202 : Cond.methodLink RX6 202 yX0_solve ∈ lw_g := lw_g_of _ 660 (by decide +kernel) rfl
theorem ml_X6_206 : Cond.methodLink RX6 206 yX0_riverWins ∈ lw_g := lw_g_of _ 684 (by decide +kernel) rfl
theorem ml_X6_209 : Cond.methodLink RX6 209 yX0_bestSaying ∈ lw_g := lw_g_of _ 685 (by decide +kernel) rfl
theorem ml_X6_212 : Cond.methodLink RX6 212 yX6_orders ∈ lw_g := lw_g_of _ 697 (by decide +kernel) rfl
theorem ml_X6_216 : Cond.methodLink RX6 216 yX6_factorial ∈ lw_g := lw_g_of _ 701 (by decide +kernel) rfl
theorem ml_X6_219 : Cond.methodLink RX6 219 yX3_addSeen ∈ lw_g := lw_g_of _ 710 (by decide +kernel) rfl
theorem ml_X6_226 : Cond.methodLink RX6 226 yX1_search ∈ lw_g := lw_g_of _ 722 (by decide +kernel) rfl
theorem ml_X6_245 : Cond.methodLink RX6 245 yX2_renew ∈ lw_g := lw_g_of _ 753 (by decide +kernel) rfl
theorem ml_X6_252 : Cond.methodLink RX6 252 yX2_faultOf ∈ lw_g := lw_g_of _ 761 (by decide +kernel) rfl
theorem ml_X6_255 : Cond.methodLink RX6 255 yX2_put ∈ lw_g := lw_g_of _ 770 (by decide +kernel) rfl
theorem ml_X6_261 : Cond.methodLink RX6 261 yX6_say ∈ lw_g := lw_g_of _ 778 (by decide +kernel) rfl
theorem ml_X6_267 : Cond.methodLink RX6 267 yX2_blank ∈ lw_g := lw_g_of _ 787 (by decide +kernel) rfl
theorem ml_X6_277 : Cond.methodLink RX6 277 yJ9_abs_067f4 ∈ lw_g := lw_g_of _ 653 (by decide +kernel) rfl
theorem ml_X0_24 : Cond.methodLink RX0 24 yX3_endStands ∈ lw_g := lw_g_of _ 664 (by decide +kernel) rfl
theorem ml_X0_28 : Cond.methodLink RX0 28 yX0_stepBack ∈ lw_g := lw_g_of _ 665 (by decide +kernel) rfl
theorem ml_X0_32 : Cond.methodLink RX0 32 yX0_riverWins ∈ lw_g := lw_g_of _ 680 (by decide +kernel) rfl
theorem ml_X0_35 : Cond.methodLink RX0 35 yX0_mover ∈ lw_g := lw_g_of _ 669 (by decide +kernel) rfl
theorem ml_X0_39 : Cond.methodLink RX0 39 yX0_sayableOn ∈ lw_g := lw_g_of _ 672 (by decide +kernel) rfl
theorem ml_X0_43 : Cond.methodLink RX0 43 yX0_leastWinning ∈ lw_g := lw_g_of _ 676 (by decide +kernel) rfl
theorem ml_X0_51 : Cond.methodLink RX0 51 yX3_inTime ∈ lw_g := lw_g_of _ 675 (by decide +kernel) rfl
theorem ml_X1_37 : Cond.methodLink RX1 37 yX3_hasClaim ∈ lw_g := lw_g_of _ 726 (by decide +kernel) rfl
theorem ml_X1_44 : Cond.methodLink RX1 44 yX1_prepare ∈ lw_g := lw_g_of _ 727 (by decide +kernel) rfl
theorem ml_X1_51 : Cond.methodLink RX1 51 yX1_agrees ∈ lw_g := lw_g_of _ 732 (by decide +kernel) rfl
theorem ml_X1_61 : Cond.methodLink RX1 61 yX3_standing ∈ lw_g := lw_g_of _ 731 (by decide +kernel) rfl
theorem ml_X2_22 : Cond.methodLink RX2 22 yX2_blank ∈ lw_g := lw_g_of _ 765 (by decide +kernel) rfl
theorem ml_X3_55 : Cond.methodLink RX3 55 arraycopyName ∈ lw_g := lw_g_of _ 502 (by decide +kernel) rfl
theorem ml_X3_64 : Cond.methodLink RX3 64 yX3_hasClaim ∈ lw_g := lw_g_of _ 621 (by decide +kernel) rfl
theorem ml_X3_68 : Cond.methodLink RX3 68 yX3_standing ∈ lw_g := lw_g_of _ 622 (by decide +kernel) rfl
theorem ml_X4_19 : Cond.methodLink RX4 19 yX3_empty ∈ lw_g := lw_g_of _ 353 (by decide +kernel) rfl
theorem ml_X4_40 : Cond.methodLink RX4 40 yX4_readToken ∈ lw_g := lw_g_of _ 357 (by decide +kernel) rfl
theorem ml_X4_47 : Cond.methodLink RX4 47 yX4_readLine ∈ lw_g := lw_g_of _ 377 (by decide +kernel) rfl
theorem ml_X4_51 : Cond.methodLink RX4 51 yX4_close ∈ lw_g := lw_g_of _ 486 (by decide +kernel) rfl
theorem ml_X4_64 : Cond.methodLink RX4 64 yX3_hasSet ∈ lw_g := lw_g_of _ 490 (by decide +kernel) rfl
theorem ml_X4_68 : Cond.methodLink RX4 68 yX3_hasClaim ∈ lw_g := lw_g_of _ 494 (by decide +kernel) rfl
theorem ml_X4_78 : Cond.methodLink RX4 78 yX4_refuse ∈ lw_g := lw_g_of _ 369 (by decide +kernel) rfl
theorem ml_X4_84 : Cond.methodLink RX4 84 yX4_isWord ∈ lw_g := lw_g_of _ 382 (by decide +kernel) rfl
theorem ml_X4_88 : Cond.methodLink RX4 88 yX4_readClaim ∈ lw_g := lw_g_of _ 434 (by decide +kernel) rfl
theorem ml_X4_97 : Cond.methodLink RX4 97 yX4_readEnd ∈ lw_g := lw_g_of _ 455 (by decide +kernel) rfl
theorem ml_X4_101 : Cond.methodLink RX4 101 yX4_readPlan ∈ lw_g := lw_g_of _ 464 (by decide +kernel) rfl
theorem ml_X4_105 : Cond.methodLink RX4 105 yX4_readSaid ∈ lw_g := lw_g_of _ 473 (by decide +kernel) rfl
theorem ml_X4_110 : Cond.methodLink RX4 110 yX4_readDay ∈ lw_g := lw_g_of _ 482 (by decide +kernel) rfl
theorem ml_X4_116 : Cond.methodLink RX4 116 yX4_readNumber ∈ lw_g := lw_g_of _ 438 (by decide +kernel) rfl
theorem ml_X4_140 : Cond.methodLink RX4 140 yX4_readGrounds ∈ lw_g := lw_g_of _ 443 (by decide +kernel) rfl
theorem ml_X4_143 : Cond.methodLink RX4 143 yX4_takeGround ∈ lw_g := lw_g_of _ 447 (by decide +kernel) rfl
theorem ml_X4_149 : Cond.methodLink RX4 149 yX4_readStop ∈ lw_g := lw_g_of _ 459 (by decide +kernel) rfl
theorem ml_X4_152 : Cond.methodLink RX4 152 yX3_addToPlan ∈ lw_g := lw_g_of _ 468 (by decide +kernel) rfl
theorem ml_X4_155 : Cond.methodLink RX4 155 yX3_isSaid ∈ lw_g := lw_g_of _ 477 (by decide +kernel) rfl
theorem ml_X4_164 : Cond.methodLink RX4 164 yX4_skipBlanks ∈ lw_g := lw_g_of _ 361 (by decide +kernel) rfl
theorem ml_X4_167 : Cond.methodLink RX4 167 yX4_kindAt ∈ lw_g := lw_g_of _ 365 (by decide +kernel) rfl
theorem ml_X4_171 : Cond.methodLink RX4 171 yX4_figures ∈ lw_g := lw_g_of _ 373 (by decide +kernel) rfl
theorem ml_X4_175 : Cond.methodLink RX4 175 yJ0_length_8abf5 ∈ lw_g := lw_g_of _ 386 (by decide +kernel) rfl
theorem ml_X4_179 : Cond.methodLink RX4 179 yJ0_charAt_5068e ∈ lw_g := lw_g_of _ 396 (by decide +kernel) rfl
theorem ml_X5_34 : Cond.methodLink RX5 34 yX3_inTime ∈ lw_g := lw_g_of _ 635 (by decide +kernel) rfl
theorem ml_L_9 : Cond.methodLink RL 9 yX6_init ∈ lw_g := lw_g_of _ 71 (by decide +kernel) rfl
theorem ml_L_12 : Cond.methodLink RL 12 yX7_init ∈ lw_g := lw_g_of _ 790 (by decide +kernel) rfl
theorem ml_L_13 : Cond.methodLink RL 13 yX6_feed ∈ lw_g := lw_g_of _ 330 (by decide +kernel) rfl
theorem ml_L_17 : Cond.methodLink RL 17 yX7_feed ∈ lw_g := lw_g_of _ 890 (by decide +kernel) rfl
theorem ml_L_18 : Cond.methodLink RL 18 yX6_end ∈ lw_g := lw_g_of _ 341 (by decide +kernel) rfl
theorem ml_L_21 : Cond.methodLink RL 21 yX7_end ∈ lw_g := lw_g_of _ 898 (by decide +kernel) rfl
theorem ml_L_22 : Cond.methodLink RL 22 yX6_text ∈ lw_g := lw_g_of _ 345 (by decide +kernel) rfl
theorem ml_L_26 : Cond.methodLink RL 26 yX7_text ∈ lw_g := lw_g_of _ 902 (by decide +kernel) rfl
theorem ml_L_27 : Cond.methodLink RL 27 yX6_fault ∈ lw_g := lw_g_of _ 505 (by decide +kernel) rfl
theorem ml_L_30 : Cond.methodLink RL 30 yX7_fault ∈ lw_g := lw_g_of _ 968 (by decide +kernel) rfl
theorem ml_L_31 : Cond.methodLink RL 31 yX6_rule ∈ lw_g := lw_g_of _ 509 (by decide +kernel) rfl
theorem ml_L_34 : Cond.methodLink RL 34 yX7_rule ∈ lw_g := lw_g_of _ 972 (by decide +kernel) rfl
theorem ml_L_35 : Cond.methodLink RL 35 yX6_claim ∈ lw_g := lw_g_of _ 517 (by decide +kernel) rfl
theorem ml_L_39 : Cond.methodLink RL 39 yX7_claim ∈ lw_g := lw_g_of _ 983 (by decide +kernel) rfl
theorem ml_L_40 : Cond.methodLink RL 40 yX6_plan ∈ lw_g := lw_g_of _ 522 (by decide +kernel) rfl
theorem ml_L_43 : Cond.methodLink RL 43 yX7_plan ∈ lw_g := lw_g_of _ 991 (by decide +kernel) rfl
theorem ml_L_44 : Cond.methodLink RL 44 yX6_say ∈ lw_g := lw_g_of _ 526 (by decide +kernel) rfl
theorem ml_L_47 : Cond.methodLink RL 47 yX7_say ∈ lw_g := lw_g_of _ 995 (by decide +kernel) rfl
theorem ml_L_48 : Cond.methodLink RL 48 yX6_drop ∈ lw_g := lw_g_of _ 541 (by decide +kernel) rfl
theorem ml_L_51 : Cond.methodLink RL 51 yX7_drop ∈ lw_g := lw_g_of _ 1006 (by decide +kernel) rfl
theorem ml_L_52 : Cond.methodLink RL 52 yX6_day ∈ lw_g := lw_g_of _ 545 (by decide +kernel) rfl
theorem ml_L_55 : Cond.methodLink RL 55 yX7_day ∈ lw_g := lw_g_of _ 1010 (by decide +kernel) rfl
theorem ml_L_56 : Cond.methodLink RL 56 yX6_aim ∈ lw_g := lw_g_of _ 549 (by decide +kernel) rfl
theorem ml_L_59 : Cond.methodLink RL 59 yX7_aim ∈ lw_g := lw_g_of _ 1019 (by decide +kernel) rfl
theorem ml_L_60 : Cond.methodLink RL 60 yX6_leans ∈ lw_g := lw_g_of _ 553 (by decide +kernel) rfl
theorem ml_L_64 : Cond.methodLink RL 64 yX7_leans ∈ lw_g := lw_g_of _ 1023 (by decide +kernel) rfl
theorem ml_L_65 : Cond.methodLink RL 65 yX6_falls ∈ lw_g := lw_g_of _ 560 (by decide +kernel) rfl
theorem ml_L_68 : Cond.methodLink RL 68 yX7_falls ∈ lw_g := lw_g_of _ 1031 (by decide +kernel) rfl
theorem ml_L_69 : Cond.methodLink RL 69 yX6_yards ∈ lw_g := lw_g_of _ 564 (by decide +kernel) rfl
theorem ml_L_72 : Cond.methodLink RL 72 yX7_yards ∈ lw_g := lw_g_of _ 1035 (by decide +kernel) rfl
theorem ml_L_73 : Cond.methodLink RL 73 yX6_plans ∈ lw_g := lw_g_of _ 568 (by decide +kernel) rfl
theorem ml_L_76 : Cond.methodLink RL 76 yX7_plans ∈ lw_g := lw_g_of _ 1039 (by decide +kernel) rfl
theorem ml_L_77 : Cond.methodLink RL 77 yX6_cut ∈ lw_g := lw_g_of _ 573 (by decide +kernel) rfl
theorem ml_L_80 : Cond.methodLink RL 80 yX7_cut ∈ lw_g := lw_g_of _ 1043 (by decide +kernel) rfl
theorem ml_L_81 : Cond.methodLink RL 81 yX6_stands ∈ lw_g := lw_g_of _ 577 (by decide +kernel) rfl
theorem ml_L_84 : Cond.methodLink RL 84 yX7_stands ∈ lw_g := lw_g_of _ 1047 (by decide +kernel) rfl
theorem ml_L_85 : Cond.methodLink RL 85 yX6_sum ∈ lw_g := lw_g_of _ 582 (by decide +kernel) rfl
theorem ml_L_88 : Cond.methodLink RL 88 yX7_sum ∈ lw_g := lw_g_of _ 1055 (by decide +kernel) rfl
theorem ml_L_89 : Cond.methodLink RL 89 yX6_upon ∈ lw_g := lw_g_of _ 586 (by decide +kernel) rfl
theorem ml_L_92 : Cond.methodLink RL 92 yX7_upon ∈ lw_g := lw_g_of _ 1060 (by decide +kernel) rfl
theorem ml_L_93 : Cond.methodLink RL 93 yX6_reply ∈ lw_g := lw_g_of _ 590 (by decide +kernel) rfl
theorem ml_L_96 : Cond.methodLink RL 96 yX7_reply ∈ lw_g := lw_g_of _ 1064 (by decide +kernel) rfl
theorem ml_L_97 : Cond.methodLink RL 97 yX6_ever ∈ lw_g := lw_g_of _ 594 (by decide +kernel) rfl
theorem ml_L_100 : Cond.methodLink RL 100 yX7_ever ∈ lw_g := lw_g_of _ 1071 (by decide +kernel) rfl
theorem ml_L_101 : Cond.methodLink RL 101 yX6_chain ∈ lw_g := lw_g_of _ 598 (by decide +kernel) rfl
theorem ml_L_104 : Cond.methodLink RL 104 yX7_chain ∈ lw_g := lw_g_of _ 1075 (by decide +kernel) rfl
theorem ml_L_105 : Cond.methodLink RL 105 yX6_late ∈ lw_g := lw_g_of _ 605 (by decide +kernel) rfl
theorem ml_L_108 : Cond.methodLink RL 108 yX7_late ∈ lw_g := lw_g_of _ 1079 (by decide +kernel) rfl
theorem ml_L_109 : Cond.methodLink RL 109 yX6_few ∈ lw_g := lw_g_of _ 609 (by decide +kernel) rfl
theorem ml_L_112 : Cond.methodLink RL 112 yX7_few ∈ lw_g := lw_g_of _ 1083 (by decide +kernel) rfl
theorem ml_L_113 : Cond.methodLink RL 113 yX6_foil ∈ lw_g := lw_g_of _ 623 (by decide +kernel) rfl
theorem ml_L_116 : Cond.methodLink RL 116 yX7_foil ∈ lw_g := lw_g_of _ 1096 (by decide +kernel) rfl
theorem ml_L_117 : Cond.methodLink RL 117 yX6_trial ∈ lw_g := lw_g_of _ 627 (by decide +kernel) rfl
theorem ml_L_120 : Cond.methodLink RL 120 yX7_trial ∈ lw_g := lw_g_of _ 1100 (by decide +kernel) rfl
theorem ml_L_121 : Cond.methodLink RL 121 yX6_luck ∈ lw_g := lw_g_of _ 639 (by decide +kernel) rfl
theorem ml_L_125 : Cond.methodLink RL 125 yX7_luck ∈ lw_g := lw_g_of _ 1108 (by decide +kernel) rfl
theorem ml_L_126 : Cond.methodLink RL 126 yX6_game ∈ lw_g := lw_g_of _ 656 (by decide +kernel) rfl
theorem ml_L_129 : Cond.methodLink RL 129 yX7_game ∈ lw_g := lw_g_of _ 1121 (by decide +kernel) rfl
theorem ml_L_130 : Cond.methodLink RL 130 yX6_days ∈ lw_g := lw_g_of _ 689 (by decide +kernel) rfl
theorem ml_L_133 : Cond.methodLink RL 133 yX7_days ∈ lw_g := lw_g_of _ 1133 (by decide +kernel) rfl
theorem ml_L_134 : Cond.methodLink RL 134 yX6_share ∈ lw_g := lw_g_of _ 693 (by decide +kernel) rfl
theorem ml_L_137 : Cond.methodLink RL 137 yX7_share ∈ lw_g := lw_g_of _ 1137 (by decide +kernel) rfl
theorem ml_L_138 : Cond.methodLink RL 138 yX6_see ∈ lw_g := lw_g_of _ 706 (by decide +kernel) rfl
theorem ml_L_142 : Cond.methodLink RL 142 yX7_see ∈ lw_g := lw_g_of _ 1144 (by decide +kernel) rfl
theorem ml_L_143 : Cond.methodLink RL 143 yX6_forget ∈ lw_g := lw_g_of _ 714 (by decide +kernel) rfl
theorem ml_L_146 : Cond.methodLink RL 146 yX7_forget ∈ lw_g := lw_g_of _ 1148 (by decide +kernel) rfl
theorem ml_L_147 : Cond.methodLink RL 147 yX6_fits ∈ lw_g := lw_g_of _ 718 (by decide +kernel) rfl
theorem ml_L_150 : Cond.methodLink RL 150 yX7_fits ∈ lw_g := lw_g_of _ 1152 (by decide +kernel) rfl
theorem ml_L_151 : Cond.methodLink RL 151 yX6_drift ∈ lw_g := lw_g_of _ 736 (by decide +kernel) rfl
theorem ml_L_155 : Cond.methodLink RL 155 yX7_drift ∈ lw_g := lw_g_of _ 1160 (by decide +kernel) rfl
theorem ml_L_156 : Cond.methodLink RL 156 yX6_keep ∈ lw_g := lw_g_of _ 741 (by decide +kernel) rfl
theorem ml_L_159 : Cond.methodLink RL 159 yX7_keep ∈ lw_g := lw_g_of _ 1166 (by decide +kernel) rfl
theorem ml_L_160 : Cond.methodLink RL 160 yX6_back ∈ lw_g := lw_g_of _ 745 (by decide +kernel) rfl
theorem ml_L_163 : Cond.methodLink RL 163 yX7_back ∈ lw_g := lw_g_of _ 1174 (by decide +kernel) rfl
theorem ml_L_164 : Cond.methodLink RL 164 yX6_sheet ∈ lw_g := lw_g_of _ 749 (by decide +kernel) rfl
theorem ml_L_167 : Cond.methodLink RL 167 yX7_sheet ∈ lw_g := lw_g_of _ 1178 (by decide +kernel) rfl
theorem ml_L_168 : Cond.methodLink RL 168 yX6_lay ∈ lw_g := lw_g_of _ 757 (by decide +kernel) rfl
theorem ml_L_171 : Cond.methodLink RL 171 yX7_lay ∈ lw_g := lw_g_of _ 1185 (by decide +kernel) rfl
theorem ml_L_172 : Cond.methodLink RL 172 yX6_read ∈ lw_g := lw_g_of _ 774 (by decide +kernel) rfl
theorem ml_L_176 : Cond.methodLink RL 176 yX7_read ∈ lw_g := lw_g_of _ 1189 (by decide +kernel) rfl
theorem ml_L_177 : Cond.methodLink RL 177 yX6_torn ∈ lw_g := lw_g_of _ 779 (by decide +kernel) rfl
theorem ml_L_180 : Cond.methodLink RL 180 yX7_torn ∈ lw_g := lw_g_of _ 1195 (by decide +kernel) rfl
theorem ml_L_181 : Cond.methodLink RL 181 yX6_count ∈ lw_g := lw_g_of _ 783 (by decide +kernel) rfl
theorem ml_L_184 : Cond.methodLink RL 184 yX7_count ∈ lw_g := lw_g_of _ 1199 (by decide +kernel) rfl
theorem ml_X7_56 : Cond.methodLink RX7 56 yX7_firstDraft ∈ lw_g := lw_g_of _ 794 (by decide +kernel) rfl
theorem ml_X7_59 : Cond.methodLink RX7 59 yX7_keepDraft ∈ lw_g := lw_g_of _ 798 (by decide +kernel) rfl
theorem ml_X7_77 : Cond.methodLink RX7 77 yX7_in ∈ lw_g := lw_g_of _ 895 (by decide +kernel) rfl
theorem ml_X7_96 : Cond.methodLink RX7 96 yX7_byteAt ∈ lw_g := lw_g_of _ 910 (by decide +kernel) rfl
theorem ml_X7_100 : Cond.methodLink RX7 100 yX7_is ∈ lw_g := lw_g_of _ 930 (by decide +kernel) rfl
theorem ml_X7_104 : Cond.methodLink RX7 104 yX7_ends ∈ lw_g := lw_g_of _ 934 (by decide +kernel) rfl
theorem ml_X7_122 : Cond.methodLink RX7 122 yX7_needs ∈ lw_g := lw_g_of _ 918 (by decide +kernel) rfl
theorem ml_X7_126 : Cond.methodLink RX7 126 yX7_looked ∈ lw_g := lw_g_of _ 952 (by decide +kernel) rfl
theorem ml_X7_130 : Cond.methodLink RX7 130 yX7_next ∈ lw_g := lw_g_of _ 906 (by decide +kernel) rfl
theorem ml_X7_133 : Cond.methodLink RX7 133 yX7_readNumber ∈ lw_g := lw_g_of _ 948 (by decide +kernel) rfl
theorem ml_X7_136 : Cond.methodLink RX7 136 yX7_readMore ∈ lw_g := lw_g_of _ 956 (by decide +kernel) rfl
theorem ml_X7_139 : Cond.methodLink RX7 139 yX7_isUnless ∈ lw_g := lw_g_of _ 964 (by decide +kernel) rfl
theorem ml_X7_143 : Cond.methodLink RX7 143 yX7_readClaim ∈ lw_g := lw_g_of _ 944 (by decide +kernel) rfl
theorem ml_X7_147 : Cond.methodLink RX7 147 yX7_readWhole ∈ lw_g := lw_g_of _ 960 (by decide +kernel) rfl
theorem ml_X7_151 : Cond.methodLink RX7 151 yX7_lineNow ∈ lw_g := lw_g_of _ 926 (by decide +kernel) rfl
theorem ml_X7_158 : Cond.methodLink RX7 158 yX7_readLineOf ∈ lw_g := lw_g_of _ 940 (by decide +kernel) rfl
theorem ml_X7_161 : Cond.methodLink RX7 161 yX7_readLine ∈ lw_g := lw_g_of _ 922 (by decide +kernel) rfl
theorem ml_X7_164 : Cond.methodLink RX7 164 yX7_flag ∈ lw_g := lw_g_of _ 980 (by decide +kernel) rfl
theorem ml_X7_168 : Cond.methodLink RX7 168 yX7_standing ∈ lw_g := lw_g_of _ 976 (by decide +kernel) rfl
theorem ml_X7_171 : Cond.methodLink RX7 171 yX7_isClaim ∈ lw_g := lw_g_of _ 987 (by decide +kernel) rfl
theorem ml_X7_175 : Cond.methodLink RX7 175 yX7_inTime ∈ lw_g := lw_g_of _ 999 (by decide +kernel) rfl
theorem ml_X7_179 : Cond.methodLink RX7 179 yX7_bitsOf ∈ lw_g := lw_g_of _ 1003 (by decide +kernel) rfl
theorem ml_X7_184 : Cond.methodLink RX7 184 yX7_becomes ∈ lw_g := lw_g_of _ 1015 (by decide +kernel) rfl
theorem ml_X7_187 : Cond.methodLink RX7 187 yX7_becomesBit ∈ lw_g := lw_g_of _ 1027 (by decide +kernel) rfl
theorem ml_X7_191 : Cond.methodLink RX7 191 yX7_every ∈ lw_g := lw_g_of _ 1051 (by decide +kernel) rfl
theorem ml_X7_196 : Cond.methodLink RX7 196 yX7_isPart ∈ lw_g := lw_g_of _ 1068 (by decide +kernel) rfl
theorem ml_X7_200 : Cond.methodLink RX7 200 yX7_endStands ∈ lw_g := lw_g_of _ 1092 (by decide +kernel) rfl
theorem ml_X7_203 : Cond.methodLink RX7 203 yX7_fewest ∈ lw_g := lw_g_of _ 1087 (by decide +kernel) rfl
theorem ml_X7_213 : Cond.methodLink RX7 213 yX7_tries ∈ lw_g := lw_g_of _ 1104 (by decide +kernel) rfl
theorem ml_X7_216 : Cond.methodLink RX7 216 yX7_common ∈ lw_g := lw_g_of _ 1118 (by decide +kernel) rfl
theorem ml_X7_226 : Cond.methodLink RX7 226 yX7_told ∈ lw_g := lw_g_of _ 1115 (by decide +kernel) rfl
theorem ml_X7_230 : Cond.methodLink RX7 230 yX7_canSay ∈ lw_g := lw_g_of _ 1129 (by decide +kernel) rfl
theorem ml_X7_233 : Cond.methodLink RX7 233 yX7_play ∈ lw_g := lw_g_of _ 1125 (by decide +kernel) rfl
theorem ml_X7_236 : Cond.methodLink RX7 236 yX7_orders ∈ lw_g := lw_g_of _ 1141 (by decide +kernel) rfl
theorem ml_X7_240 : Cond.methodLink RX7 240 yX7_isSo ∈ lw_g := lw_g_of _ 1156 (by decide +kernel) rfl
theorem ml_X7_246 : Cond.methodLink RX7 246 yX7_copies ∈ lw_g := lw_g_of _ 1170 (by decide +kernel) rfl
theorem ml_X7_250 : Cond.methodLink RX7 250 yX7_isSheet ∈ lw_g := lw_g_of _ 1182 (by decide +kernel) rfl
theorem ml_X7_255 : Cond.methodLink RX7 255 yX7_say ∈ lw_g := lw_g_of _ 1194 (by decide +kernel) rfl
theorem ml_J0_335 : Cond.methodLink RJ0 335 yJ0_coder_7d493 ∈ lw_g := lw_g_of _ 390 (by decide +kernel) rfl
theorem ml_J0_492 : Cond.methodLink RJ0 492 yJ0_isLatin1_aae02 ∈ lw_g := lw_g_of _ 400 (by decide +kernel) rfl
theorem ml_J0_495 : Cond.methodLink RJ0 495 yJ1_charAt_3b067 ∈ lw_g := lw_g_of _ 404 (by decide +kernel) rfl
theorem ml_J0_498 : Cond.methodLink RJ0 498 yJ2_charAt_3b067 ∈ lw_g := lw_g_of _ 415 (by decide +kernel) rfl
theorem ml_J0_1059 : Cond.methodLink RJ0 1059 yJ3_checkIndex_8e157 ∈ lw_g := lw_g_of _ 412 (by decide +kernel) rfl
theorem ml_J1_9 : Cond.methodLink RJ1 9 yJ0_checkIndex_df160 ∈ lw_g := lw_g_of _ 407 (by decide +kernel) rfl
theorem ml_J2_48 : Cond.methodLink RJ2 48 yJ2_length_9d52b ∈ lw_g := lw_g_of _ 421 (by decide +kernel) rfl
theorem ml_J2_67 : Cond.methodLink RJ2 67 yJ2_checkIndex_2214a ∈ lw_g := lw_g_of _ 418 (by decide +kernel) rfl
theorem ml_J2_71 : Cond.methodLink RJ2 71 yJ2_getChar_3b067 ∈ lw_g := lw_g_of _ 425 (by decide +kernel) rfl
theorem ml_J2_414 : Cond.methodLink RJ2 414 yJ0_checkIndex_df160 ∈ lw_g := lw_g_of _ 424 (by decide +kernel) rfl
theorem ac_nat : Cond.native arraycopyName ∈ lw_g := lw_g_of _ 504 (by decide +kernel) rfl
theorem ac_st : Cond.static arraycopyName ∈ lw_g := lw_g_of _ 503 (by decide +kernel) rfl
theorem ac_ini : Cond.initialized "java/lang/System" ∈ lw_g := lw_g_of _ 66 (by decide +kernel) rfl
end
section
section STORES
variable {X : Cx} {cc : ByteArray} {nL fr lo pc : Nat} {own : String} {st : List Value} {I : Wo} {r : List (Option Value)}
theorem g_istn0 (B : Fx X cc nL own fr lo) {a0 : Option Value} {x : Int32} (d : decode cc pc = .ok (.istore_n 0, 1)) (hn : 0 < nL) (hf : lfree (a0 :: r) 0 = true) (k : GW X nL (pc + 1) (some (.int x) :: r) st I) : GW X nL pc (a0 :: r) (.int x :: st) I := g_istore_n B d hn hf k
theorem g_astn0 (B : Fx X cc nL own fr lo) {a0 : Option Value} {x : Nat} (d : decode cc pc = .ok (.astore_n 0, 1)) (hn : 0 < nL) (hf : lfree (a0 :: r) 0 = true) (k : GW X nL (pc + 1) (some (.ref x) :: r) st I) : GW X nL pc (a0 :: r) (.ref x :: st) I := g_astore_n B d hn hf k
theorem g_lstn0 (B : Fx X cc nL own fr lo) {a0 a1 : Option Value} {x : Int64} (d : decode cc pc = .ok (.lstore_n 0, 1)) (hn : 0 + 1 < nL) (hf : lfree (a0 :: a1 :: r) 0 = true) (k : GW X nL (pc + 1) (some (.long x) :: none :: r) st I) : GW X nL pc (a0 :: a1 :: r) (.long x :: st) I := g_lstore_n B d hn hf k
theorem g_inc0 (B : Fx X cc nL own fr lo) {a0 : Option Value} {n : Int} {x v : Int32} (d : decode cc pc = .ok (.iinc 0 n, 3)) (h : a0 = some (.int x)) (hv : x + Int32.ofInt n = v) (hn : 0 < nL) (hf : lfree (a0 :: r) 0 = true) (k : GW X nL (pc + 3) (some (.int v) :: r) st I) : GW X nL pc (a0 :: r) st I := g_iinc B d (by subst h; rfl) hv hn hf k
theorem g_drop0 {a0 : Option Value} (k : GW X nL pc (none :: r) st I) : GW X nL pc (a0 :: r) st I := g_drop (i := 0) k
theorem g_istn1 (B : Fx X cc nL own fr lo) {a0 a1 : Option Value} {x : Int32} (d : decode cc pc = .ok (.istore_n 1, 1)) (hn : 1 < nL) (hf : lfree (a0 :: a1 :: r) 1 = true) (k : GW X nL (pc + 1) (a0 :: some (.int x) :: r) st I) : GW X nL pc (a0 :: a1 :: r) (.int x :: st) I := g_istore_n B d hn hf k
theorem g_astn1 (B : Fx X cc nL own fr lo) {a0 a1 : Option Value} {x : Nat} (d : decode cc pc = .ok (.astore_n 1, 1)) (hn : 1 < nL) (hf : lfree (a0 :: a1 :: r) 1 = true) (k : GW X nL (pc + 1) (a0 :: some (.ref x) :: r) st I) : GW X nL pc (a0 :: a1 :: r) (.ref x :: st) I := g_astore_n B d hn hf k
theorem g_lstn1 (B : Fx X cc nL own fr lo) {a0 a1 a2 : Option Value} {x : Int64} (d : decode cc pc = .ok (.lstore_n 1, 1)) (hn : 1 + 1 < nL) (hf : lfree (a0 :: a1 :: a2 :: r) 1 = true) (k : GW X nL (pc + 1) (a0 :: some (.long x) :: none :: r) st I) : GW X nL pc (a0 :: a1 :: a2 :: r) (.long x :: st) I := g_lstore_n B d hn hf k
theorem g_inc1 (B : Fx X cc nL own fr lo) {a0 a1 : Option Value} {n : Int} {x v : Int32} (d : decode cc pc = .ok (.iinc 1 n, 3)) (h : a1 = some (.int x)) (hv : x + Int32.ofInt n = v) (hn : 1 < nL) (hf : lfree (a0 :: a1 :: r) 1 = true) (k : GW X nL (pc + 3) (a0 :: some (.int v) :: r) st I) : GW X nL pc (a0 :: a1 :: r) st I := g_iinc B d (by subst h; rfl) hv hn hf k
theorem g_drop1 {a0 a1 : Option Value} (k : GW X nL pc (a0 :: none :: r) st I) : GW X nL pc (a0 :: a1 :: r) st I := g_drop (i := 1) k
theorem g_istn2 (B : Fx X cc nL own fr lo) {a0 a1 a2 : Option Value} {x : Int32} (d : decode cc pc = .ok (.istore_n 2, 1)) (hn : 2 < nL) (hf : lfree (a0 :: a1 :: a2 :: r) 2 = true) (k : GW X nL (pc + 1) (a0 :: a1 :: some (.int x) :: r) st I) : GW X nL pc (a0 :: a1 :: a2 :: r) (.int x :: st) I := g_istore_n B d hn hf k
theorem g_astn2 (B : Fx X cc nL own fr lo) {a0 a1 a2 : Option Value} {x : Nat} (d : decode cc pc = .ok (.astore_n 2, 1)) (hn : 2 < nL) (hf : lfree (a0 :: a1 :: a2 :: r) 2 = true) (k : GW X nL (pc + 1) (a0 :: a1 :: some (.ref x) :: r) st I) : GW X nL pc (a0 :: a1 :: a2 :: r) (.ref x :: st) I := g_astore_n B d hn hf k
theorem g_lstn2 (B : Fx X cc nL own fr lo) {a0 a1 a2 a3 : Option Value} {x : Int64} (d : decode cc pc = .ok (.lstore_n 2, 1)) (hn : 2 + 1 < nL) (hf : lfree (a0 :: a1 :: a2 :: a3 :: r) 2 = true) (k : GW X nL (pc + 1) (a0 :: a1 :: some (.long x) :: none :: r) st I) : GW X nL pc (a0 :: a1 :: a2 :: a3 :: r) (.long x :: st) I := g_lstore_n B d hn hf k
theorem g_inc2 (B : Fx X cc nL own fr lo) {a0 a1 a2 : Option Value} {n : Int} {x v : Int32} (d : decode cc pc = .ok (.iinc 2 n, 3)) (h : a2 = some (.int x)) (hv : x + Int32.ofInt n = v) (hn : 2 < nL) (hf : lfree (a0 :: a1 :: a2 :: r) 2 = true) (k : GW X nL (pc + 3) (a0 :: a1 :: some (.int v) :: r) st I) : GW X nL pc (a0 :: a1 :: a2 :: r) st I := g_iinc B d (by subst h; rfl) hv hn hf k
theorem g_drop2 {a0 a1 a2 : Option Value} (k : GW X nL pc (a0 :: a1 :: none :: r) st I) : GW X nL pc (a0 :: a1 :: a2 :: r) st I := g_drop (i := 2) k
theorem g_istn3 (B : Fx X cc nL own fr lo) {a0 a1 a2 a3 : Option Value} {x : Int32} (d : decode cc pc = .ok (.istore_n 3, 1)) (hn : 3 < nL) (hf : lfree (a0 :: a1 :: a2 :: a3 :: r) 3 = true) (k : GW X nL (pc + 1) (a0 :: a1 :: a2 :: some (.int x) :: r) st I) : GW X nL pc (a0 :: a1 :: a2 :: a3 :: r) (.int x :: st) I := g_istore_n B d hn hf k
theorem g_astn3 (B : Fx X cc nL own fr lo) {a0 a1 a2 a3 : Option Value} {x : Nat} (d : decode cc pc = .ok (.astore_n 3, 1)) (hn : 3 < nL) (hf : lfree (a0 :: a1 :: a2 :: a3 :: r) 3 = true) (k : GW X nL (pc + 1) (a0 :: a1 :: a2 :: some (.ref x) :: r) st I) : GW X nL pc (a0 :: a1 :: a2 :: a3 :: r) (.ref x :: st) I := g_astore_n B d hn hf k
theorem g_lstn3 (B : Fx X cc nL own fr lo) {a0 a1 a2 a3 a4 : Option Value} {x : Int64} (d : decode cc pc = .ok (.lstore_n 3, 1)) (hn : 3 + 1 < nL) (hf : lfree (a0 :: a1 :: a2 :: a3 :: a4 :: r) 3 = true) (k : GW X nL (pc + 1) (a0 :: a1 :: a2 :: some (.long x) :: none :: r) st I) : GW X nL pc (a0 :: a1 :: a2 :: a3 :: a4 :: r) (.long x :: st) I := g_lstore_n B d hn hf k
theorem g_inc3 (B : Fx X cc nL own fr lo) {a0 a1 a2 a3 : Option Value} {n : Int} {x v : Int32} (d : decode cc pc = .ok (.iinc 3 n, 3)) (h : a3 = some (.int x)) (hv : x + Int32.ofInt n = v) (hn : 3 < nL) (hf : lfree (a0 :: a1 :: a2 :: a3 :: r) 3 = true) (k : GW X nL (pc + 3) (a0 :: a1 :: a2 :: some (.int v) :: r) st I) : GW X nL pc (a0 :: a1 :: a2 :: a3 :: r) st I := g_iinc B d (by subst h; rfl) hv hn hf k
theorem g_drop3 {a0 a1 a2 a3 : Option Value} (k : GW X nL pc (a0 :: a1 :: a2 :: none :: r) st I) : GW X nL pc (a0 :: a1 :: a2 :: a3 :: r) st I := g_drop (i := 3) k
theorem g_ist4 (B : Fx X cc nL own fr lo) {a0 a1 a2 a3 a4 : Option Value} {x : Int32} (d : decode cc pc = .ok (.istore 4, 2)) (hn : 4 < nL) (hf : lfree (a0 :: a1 :: a2 :: a3 :: a4 :: r) 4 = true) (k : GW X nL (pc + 2) (a0 :: a1 :: a2 :: a3 :: some (.int x) :: r) st I) : GW X nL pc (a0 :: a1 :: a2 :: a3 :: a4 :: r) (.int x :: st) I := g_istore B d hn hf k
theorem g_ast4 (B : Fx X cc nL own fr lo) {a0 a1 a2 a3 a4 : Option Value} {x : Nat} (d : decode cc pc = .ok (.astore 4, 2)) (hn : 4 < nL) (hf : lfree (a0 :: a1 :: a2 :: a3 :: a4 :: r) 4 = true) (k : GW X nL (pc + 2) (a0 :: a1 :: a2 :: a3 :: some (.ref x) :: r) st I) : GW X nL pc (a0 :: a1 :: a2 :: a3 :: a4 :: r) (.ref x :: st) I := g_astore B d hn hf k
theorem g_lst4 (B : Fx X cc nL own fr lo) {a0 a1 a2 a3 a4 a5 : Option Value} {x : Int64} (d : decode cc pc = .ok (.lstore 4, 2)) (hn : 4 + 1 < nL) (hf : lfree (a0 :: a1 :: a2 :: a3 :: a4 :: a5 :: r) 4 = true) (k : GW X nL (pc + 2) (a0 :: a1 :: a2 :: a3 :: some (.long x) :: none :: r) st I) : GW X nL pc (a0 :: a1 :: a2 :: a3 :: a4 :: a5 :: r) (.long x :: st) I := g_lstore B d hn hf k
theorem g_inc4 (B : Fx X cc nL own fr lo) {a0 a1 a2 a3 a4 : Option Value} {n : Int} {x v : Int32} (d : decode cc pc = .ok (.iinc 4 n, 3)) (h : a4 = some (.int x)) (hv : x + Int32.ofInt n = v) (hn : 4 < nL) (hf : lfree (a0 :: a1 :: a2 :: a3 :: a4 :: r) 4 = true) (k : GW X nL (pc + 3) (a0 :: a1 :: a2 :: a3 :: some (.int v) :: r) st I) : GW X nL pc (a0 :: a1 :: a2 :: a3 :: a4 :: r) st I := g_iinc B d (by subst h; rfl) hv hn hf k
theorem g_drop4 {a0 a1 a2 a3 a4 : Option Value} (k : GW X nL pc (a0 :: a1 :: a2 :: a3 :: none :: r) st I) : GW X nL pc (a0 :: a1 :: a2 :: a3 :: a4 :: r) st I := g_drop (i := 4) k
theorem g_ist5 (B : Fx X cc nL own fr lo) {a0 a1 a2 a3 a4 a5 : Option Value} {x : Int32} (d : decode cc pc = .ok (.istore 5, 2)) (hn : 5 < nL) (hf : lfree (a0 :: a1 :: a2 :: a3 :: a4 :: a5 :: r) 5 = true) (k : GW X nL (pc + 2) (a0 :: a1 :: a2 :: a3 :: a4 :: some (.int x) :: r) st I) : GW X nL pc (a0 :: a1 :: a2 :: a3 :: a4 :: a5 :: r) (.int x :: st) I := g_istore B d hn hf k
theorem g_ast5 (B : Fx X cc nL own fr lo) {a0 a1 a2 a3 a4 a5 : Option Value} {x : Nat} (d : decode cc pc = .ok (.astore 5, 2)) (hn : 5 < nL) (hf : lfree (a0 :: a1 :: a2 :: a3 :: a4 :: a5 :: r) 5 = true) (k : GW X nL (pc + 2) (a0 :: a1 :: a2 :: a3 :: a4 :: some (.ref x) :: r) st I) : GW X nL pc (a0 :: a1 :: a2 :: a3 :: a4 :: a5 :: r) (.ref x :: st) I := g_astore B d hn hf k
theorem g_lst5 (B : Fx X cc nL own fr lo) {a0 a1 a2 a3 a4 a5 a6 : Option Value} {x : Int64} (d : decode cc pc = .ok (.lstore 5, 2)) (hn : 5 + 1 < nL) (hf : lfree (a0 :: a1 :: a2 :: a3 :: a4 :: a5 :: a6 :: r) 5 = true) (k : GW X nL (pc + 2) (a0 :: a1 :: a2 :: a3 :: a4 :: some (.long x) :: none :: r) st I) : GW X nL pc (a0 :: a1 :: a2 :: a3 :: a4 :: a5 :: a6 :: r) (.long x :: st) I := g_lstore B d hn hf k
theorem g_inc5 (B : Fx X cc nL own fr lo) {a0 a1 a2 a3 a4 a5 : Option Value} {n : Int} {x v : Int32} (d : decode cc pc = .ok (.iinc 5 n, 3)) (h : a5 = some (.int x)) (hv : x + Int32.ofInt n = v) (hn : 5 < nL) (hf : lfree (a0 :: a1 :: a2 :: a3 :: a4 :: a5 :: r) 5 = true) (k : GW X nL (pc + 3) (a0 :: a1 :: a2 :: a3 :: a4 :: some (.int v) :: r) st I) : GW X nL pc (a0 :: a1 :: a2 :: a3 :: a4 :: a5 :: r) st I := g_iinc B d (by subst h; rfl) hv hn hf k
theorem g_drop5 {a0 a1 a2 a3 a4 a5 : Option Value} (k : GW X nL pc (a0 :: a1 :: a2 :: a3 :: a4 :: none :: r) st I) : GW X nL pc (a0 :: a1 :: a2 :: a3 :: a4 :: a5 :: r) st I := g_drop (i := 5) k
theorem g_ist6 (B : Fx X cc nL own fr lo) {a0 a1 a2 a3 a4 a5 a6 : Option Value} {x : Int32} (d : decode cc pc = .ok (.istore 6, 2)) (hn : 6 < nL) (hf : lfree (a0 :: a1 :: a2 :: a3 :: a4 :: a5 :: a6 :: r) 6 = true) (k : GW X nL (pc + 2) (a0 :: a1 :: a2 :: a3 :: a4 :: a5 :: some (.int x) :: r) st I) : GW X nL pc (a0 :: a1 :: a2 :: a3 :: a4 :: a5 :: a6 :: r) (.int x :: st) I := g_istore B d hn hf k
theorem g_ast6 (B : Fx X cc nL own fr lo) {a0 a1 a2 a3 a4 a5 a6 : Option Value} {x : Nat} (d : decode cc pc = .ok (.astore 6, 2)) (hn : 6 < nL) (hf : lfree (a0 :: a1 :: a2 :: a3 :: a4 :: a5 :: a6 :: r) 6 = true) (k : GW X nL (pc + 2) (a0 :: a1 :: a2 :: a3 :: a4 :: a5 :: some (.ref x) :: r) st I) : GW X nL pc (a0 :: a1 :: a2 :: a3 :: a4 :: a5 :: a6 :: r) (.ref x :: st) I := g_astore B d hn hf k
theorem g_lst6 (B : Fx X cc nL own fr lo) {a0 a1 a2 a3 a4 a5 a6 a7 : Option Value} {x : Int64} (d : decode cc pc = .ok (.lstore 6, 2)) (hn : 6 + 1 < nL) (hf : lfree (a0 :: a1 :: a2 :: a3 :: a4 :: a5 :: a6 :: a7 :: r) 6 = true) (k : GW X nL (pc + 2) (a0 :: a1 :: a2 :: a3 :: a4 :: a5 :: some (.long x) :: none :: r) st I) : GW X nL pc (a0 :: a1 :: a2 :: a3 :: a4 :: a5 :: a6 :: a7 :: r) (.long x :: st) I := g_lstore B d hn hf k
theorem g_inc6 (B : Fx X cc nL own fr lo) {a0 a1 a2 a3 a4 a5 a6 : Option Value} {n : Int} {x v : Int32} (d : decode cc pc = .ok (.iinc 6 n, 3)) (h : a6 = some (.int x)) (hv : x + Int32.ofInt n = v) (hn : 6 < nL) (hf : lfree (a0 :: a1 :: a2 :: a3 :: a4 :: a5 :: a6 :: r) 6 = true) (k : GW X nL (pc + 3) (a0 :: a1 :: a2 :: a3 :: a4 :: a5 :: some (.int v) :: r) st I) : GW X nL pc (a0 :: a1 :: a2 :: a3 :: a4 :: a5 :: a6 :: r) st I := g_iinc B d (by subst h; rfl) hv hn hf k
theorem g_drop6 {a0 a1 a2 a3 a4 a5 a6 : Option Value} (k : GW X nL pc (a0 :: a1 :: a2 :: a3 :: a4 :: a5 :: none :: r) st I) : GW X nL pc (a0 :: a1 :: a2 :: a3 :: a4 :: a5 :: a6 :: r) st I := g_drop (i := 6) k
theorem g_ist7 (B : Fx X cc nL own fr lo) {a0 a1 a2 a3 a4 a5 a6 a7 : Option Value} {x : Int32} (d : decode cc pc = .ok (.istore 7, 2)) (hn : 7 < nL) (hf : lfree (a0 :: a1 :: a2 :: a3 :: a4 :: a5 :: a6 :: a7 :: r) 7 = true) (k : GW X nL (pc + 2) (a0 :: a1 :: a2 :: a3 :: a4 :: a5 :: a6 :: some (.int x) :: r) st I) : GW X nL pc (a0 :: a1 :: a2 :: a3 :: a4 :: a5 :: a6 :: a7 :: r) (.int x :: st) I := g_istore B d hn hf k
theorem g_ast7 (B : Fx X cc nL own fr lo) {a0 a1 a2 a3 a4 a5 a6 a7 : Option Value} {x : Nat} (d : decode cc pc = .ok (.astore 7, 2)) (hn : 7 < nL) (hf : lfree (a0 :: a1 :: a2 :: a3 :: a4 :: a5 :: a6 :: a7 :: r) 7 = true) (k : GW X nL (pc + 2) (a0 :: a1 :: a2 :: a3 :: a4 :: a5 :: a6 :: some (.ref x) :: r) st I) : GW X nL pc (a0 :: a1 :: a2 :: a3 :: a4 :: a5 :: a6 :: a7 :: r) (.ref x :: st) I := g_astore B d hn hf k
theorem g_lst7 (B : Fx X cc nL own fr lo) {a0 a1 a2 a3 a4 a5 a6 a7 a8 : Option Value} {x : Int64} (d : decode cc pc = .ok (.lstore 7, 2)) (hn : 7 + 1 < nL) (hf : lfree (a0 :: a1 :: a2 :: a3 :: a4 :: a5 :: a6 :: a7 :: a8 :: r) 7 = true) (k : GW X nL (pc + 2) (a0 :: a1 :: a2 :: a3 :: a4 :: a5 :: a6 :: some (.long x) :: none :: r) st I) : GW X nL pc (a0 :: a1 :: a2 :: a3 :: a4 :: a5 :: a6 :: a7 :: a8 :: r) (.long x :: st) I := g_lstore B d hn hf k
theorem g_inc7 (B : Fx X cc nL own fr lo) {a0 a1 a2 a3 a4 a5 a6 a7 : Option Value} {n : Int} {x v : Int32} (d : decode cc pc = .ok (.iinc 7 n, 3)) (h : a7 = some (.int x)) (hv : x + Int32.ofInt n = v) (hn : 7 < nL) (hf : lfree (a0 :: a1 :: a2 :: a3 :: a4 :: a5 :: a6 :: a7 :: r) 7 = true) (k : GW X nL (pc + 3) (a0 :: a1 :: a2 :: a3 :: a4 :: a5 :: a6 :: some (.int v) :: r) st I) : GW X nL pc (a0 :: a1 :: a2 :: a3 :: a4 :: a5 :: a6 :: a7 :: r) st I := g_iinc B d (by subst h; rfl) hv hn hf k
theorem g_drop7 {a0 a1 a2 a3 a4 a5 a6 a7 : Option Value} (k : GW X nL pc (a0 :: a1 :: a2 :: a3 :: a4 :: a5 :: a6 :: none :: r) st I) : GW X nL pc (a0 :: a1 :: a2 :: a3 :: a4 :: a5 :: a6 :: a7 :: r) st I := g_drop (i := 7) k
theorem g_ist8 (B : Fx X cc nL own fr lo) {a0 a1 a2 a3 a4 a5 a6 a7 a8 : Option Value} {x : Int32} (d : decode cc pc = .ok (.istore 8, 2)) (hn : 8 < nL) (hf : lfree (a0 :: a1 :: a2 :: a3 :: a4 :: a5 :: a6 :: a7 :: a8 :: r) 8 = true) (k : GW X nL (pc + 2) (a0 :: a1 :: a2 :: a3 :: a4 :: a5 :: a6 :: a7 :: some (.int x) :: r) st I) : GW X nL pc (a0 :: a1 :: a2 :: a3 :: a4 :: a5 :: a6 :: a7 :: a8 :: r) (.int x :: st) I := g_istore B d hn hf k
theorem g_ast8 (B : Fx X cc nL own fr lo) {a0 a1 a2 a3 a4 a5 a6 a7 a8 : Option Value} {x : Nat} (d : decode cc pc = .ok (.astore 8, 2)) (hn : 8 < nL) (hf : lfree (a0 :: a1 :: a2 :: a3 :: a4 :: a5 :: a6 :: a7 :: a8 :: r) 8 = true) (k : GW X nL (pc + 2) (a0 :: a1 :: a2 :: a3 :: a4 :: a5 :: a6 :: a7 :: some (.ref x) :: r) st I) : GW X nL pc (a0 :: a1 :: a2 :: a3 :: a4 :: a5 :: a6 :: a7 :: a8 :: r) (.ref x :: st) I := g_astore B d hn hf k
theorem g_lst8 (B : Fx X cc nL own fr lo) {a0 a1 a2 a3 a4 a5 a6 a7 a8 a9 : Option Value} {x : Int64} (d : decode cc pc = .ok (.lstore 8, 2)) (hn : 8 + 1 < nL) (hf : lfree (a0 :: a1 :: a2 :: a3 :: a4 :: a5 :: a6 :: a7 :: a8 :: a9 :: r) 8 = true) (k : GW X nL (pc + 2) (a0 :: a1 :: a2 :: a3 :: a4 :: a5 :: a6 :: a7 :: some (.long x) :: none :: r) st I) : GW X nL pc (a0 :: a1 :: a2 :: a3 :: a4 :: a5 :: a6 :: a7 :: a8 :: a9 :: r) (.long x :: st) I := g_lstore B d hn hf k
theorem g_inc8 (B : Fx X cc nL own fr lo) {a0 a1 a2 a3 a4 a5 a6 a7 a8 : Option Value} {n : Int} {x v : Int32} (d : decode cc pc = .ok (.iinc 8 n, 3)) (h : a8 = some (.int x)) (hv : x + Int32.ofInt n = v) (hn : 8 < nL) (hf : lfree (a0 :: a1 :: a2 :: a3 :: a4 :: a5 :: a6 :: a7 :: a8 :: r) 8 = true) (k : GW X nL (pc + 3) (a0 :: a1 :: a2 :: a3 :: a4 :: a5 :: a6 :: a7 :: some (.int v) :: r) st I) : GW X nL pc (a0 :: a1 :: a2 :: a3 :: a4 :: a5 :: a6 :: a7 :: a8 :: r) st I := g_iinc B d (by subst h; rfl) hv hn hf k
theorem g_drop8 {a0 a1 a2 a3 a4 a5 a6 a7 a8 : Option Value} (k : GW X nL pc (a0 :: a1 :: a2 :: a3 :: a4 :: a5 :: a6 :: a7 :: none :: r) st I) : GW X nL pc (a0 :: a1 :: a2 :: a3 :: a4 :: a5 :: a6 :: a7 :: a8 :: r) st I := g_drop (i := 8) k
theorem g_ist9 (B : Fx X cc nL own fr lo) {a0 a1 a2 a3 a4 a5 a6 a7 a8 a9 : Option Value} {x : Int32} (d : decode cc pc = .ok (.istore 9, 2)) (hn : 9 < nL) (hf : lfree (a0 :: a1 :: a2 :: a3 :: a4 :: a5 :: a6 :: a7 :: a8 :: a9 :: r) 9 = true) (k : GW X nL (pc + 2) (a0 :: a1 :: a2 :: a3 :: a4 :: a5 :: a6 :: a7 :: a8 :: some (.int x) :: r) st I) : GW X nL pc (a0 :: a1 :: a2 :: a3 :: a4 :: a5 :: a6 :: a7 :: a8 :: a9 :: r) (.int x :: st) I := g_istore B d hn hf k
theorem g_ast9 (B : Fx X cc nL own fr lo) {a0 a1 a2 a3 a4 a5 a6 a7 a8 a9 : Option Value} {x : Nat} (d : decode cc pc = .ok (.astore 9, 2)) (hn : 9 < nL) (hf : lfree (a0 :: a1 :: a2 :: a3 :: a4 :: a5 :: a6 :: a7 :: a8 :: a9 :: r) 9 = true) (k : GW X nL (pc + 2) (a0 :: a1 :: a2 :: a3 :: a4 :: a5 :: a6 :: a7 :: a8 :: some (.ref x) :: r) st I) : GW X nL pc (a0 :: a1 :: a2 :: a3 :: a4 :: a5 :: a6 :: a7 :: a8 :: a9 :: r) (.ref x :: st) I := g_astore B d hn hf k
theorem g_lst9 (B : Fx X cc nL own fr lo) {a0 a1 a2 a3 a4 a5 a6 a7 a8 a9 a10 : Option Value} {x : Int64} (d : decode cc pc = .ok (.lstore 9, 2)) (hn : 9 + 1 < nL) (hf : lfree (a0 :: a1 :: a2 :: a3 :: a4 :: a5 :: a6 :: a7 :: a8 :: a9 :: a10 :: r) 9 = true) (k : GW X nL (pc + 2) (a0 :: a1 :: a2 :: a3 :: a4 :: a5 :: a6 :: a7 :: a8 :: some (.long x) :: none :: r) st I) : GW X nL pc (a0 :: a1 :: a2 :: a3 :: a4 :: a5 :: a6 :: a7 :: a8 :: a9 :: a10 :: r) (.long x :: st) I := g_lstore B d hn hf k
theorem g_inc9 (B : Fx X cc nL own fr lo) {a0 a1 a2 a3 a4 a5 a6 a7 a8 a9 : Option Value} {n : Int} {x v : Int32} (d : decode cc pc = .ok (.iinc 9 n, 3)) (h : a9 = some (.int x)) (hv : x + Int32.ofInt n = v) (hn : 9 < nL) (hf : lfree (a0 :: a1 :: a2 :: a3 :: a4 :: a5 :: a6 :: a7 :: a8 :: a9 :: r) 9 = true) (k : GW X nL (pc + 3) (a0 :: a1 :: a2 :: a3 :: a4 :: a5 :: a6 :: a7 :: a8 :: some (.int v) :: r) st I) : GW X nL pc (a0 :: a1 :: a2 :: a3 :: a4 :: a5 :: a6 :: a7 :: a8 :: a9 :: r) st I := g_iinc B d (by subst h; rfl) hv hn hf k
theorem g_drop9 {a0 a1 a2 a3 a4 a5 a6 a7 a8 a9 : Option Value} (k : GW X nL pc (a0 :: a1 :: a2 :: a3 :: a4 :: a5 :: a6 :: a7 :: a8 :: none :: r) st I) : GW X nL pc (a0 :: a1 :: a2 :: a3 :: a4 :: a5 :: a6 :: a7 :: a8 :: a9 :: r) st I := g_drop (i := 9) k
theorem g_ist10 (B : Fx X cc nL own fr lo) {a0 a1 a2 a3 a4 a5 a6 a7 a8 a9 a10 : Option Value} {x : Int32} (d : decode cc pc = .ok (.istore 10, 2)) (hn : 10 < nL) (hf : lfree (a0 :: a1 :: a2 :: a3 :: a4 :: a5 :: a6 :: a7 :: a8 :: a9 :: a10 :: r) 10 = true) (k : GW X nL (pc + 2) (a0 :: a1 :: a2 :: a3 :: a4 :: a5 :: a6 :: a7 :: a8 :: a9 :: some (.int x) :: r) st I) : GW X nL pc (a0 :: a1 :: a2 :: a3 :: a4 :: a5 :: a6 :: a7 :: a8 :: a9 :: a10 :: r) (.int x :: st) I := g_istore B d hn hf k
theorem g_ast10 (B : Fx X cc nL own fr lo) {a0 a1 a2 a3 a4 a5 a6 a7 a8 a9 a10 : Option Value} {x : Nat} (d : decode cc pc = .ok (.astore 10, 2)) (hn : 10 < nL) (hf : lfree (a0 :: a1 :: a2 :: a3 :: a4 :: a5 :: a6 :: a7 :: a8 :: a9 :: a10 :: r) 10 = true) (k : GW X nL (pc + 2) (a0 :: a1 :: a2 :: a3 :: a4 :: a5 :: a6 :: a7 :: a8 :: a9 :: some (.ref x) :: r) st I) : GW X nL pc (a0 :: a1 :: a2 :: a3 :: a4 :: a5 :: a6 :: a7 :: a8 :: a9 :: a10 :: r) (.ref x :: st) I := g_astore B d hn hf k
theorem g_lst10 (B : Fx X cc nL own fr lo) {a0 a1 a2 a3 a4 a5 a6 a7 a8 a9 a10 a11 : Option Value} {x : Int64} (d : decode cc pc = .ok (.lstore 10, 2)) (hn : 10 + 1 < nL) (hf : lfree (a0 :: a1 :: a2 :: a3 :: a4 :: a5 :: a6 :: a7 :: a8 :: a9 :: a10 :: a11 :: r) 10 = true) (k : GW X nL (pc + 2) (a0 :: a1 :: a2 :: a3 :: a4 :: a5 :: a6 :: a7 :: a8 :: a9 :: some (.long x) :: none :: r) st I) : GW X nL pc (a0 :: a1 :: a2 :: a3 :: a4 :: a5 :: a6 :: a7 :: a8 :: a9 :: a10 :: a11 :: r) (.long x :: st) I := g_lstore B d hn hf k
theorem g_inc10 (B : Fx X cc nL own fr lo) {a0 a1 a2 a3 a4 a5 a6 a7 a8 a9 a10 : Option Value} {n : Int} {x v : Int32} (d : decode cc pc = .ok (.iinc 10 n, 3)) (h : a10 = some (.int x)) (hv : x + Int32.ofInt n = v) (hn : 10 < nL) (hf : lfree (a0 :: a1 :: a2 :: a3 :: a4 :: a5 :: a6 :: a7 :: a8 :: a9 :: a10 :: r) 10 = true) (k : GW X nL (pc + 3) (a0 :: a1 :: a2 :: a3 :: a4 :: a5 :: a6 :: a7 :: a8 :: a9 :: some (.int v) :: r) st I) : GW X nL pc (a0 :: a1 :: a2 :: a3 :: a4 :: a5 :: a6 :: a7 :: a8 :: a9 :: a10 :: r) st I := g_iinc B d (by subst h; rfl) hv hn hf k
theorem g_drop10 {a0 a1 a2 a3 a4 a5 a6 a7 a8 a9 a10 : Option Value} (k : GW X nL pc (a0 :: a1 :: a2 :: a3 :: a4 :: a5 :: a6 :: a7 :: a8 :: a9 :: none :: r) st I) : GW X nL pc (a0 :: a1 :: a2 :: a3 :: a4 :: a5 :: a6 :: a7 :: a8 :: a9 :: a10 :: r) st I := g_drop (i := 10) k
theorem g_ist11 (B : Fx X cc nL own fr lo) {a0 a1 a2 a3 a4 a5 a6 a7 a8 a9 a10 a11 : Option Value} {x : Int32} (d : decode cc pc = .ok (.istore 11, 2)) (hn : 11 < nL) (hf : lfree (a0 :: a1 :: a2 :: a3 :: a4 :: a5 :: a6 :: a7 :: a8 :: a9 :: a10 :: a11 :: r) 11 = true) (k : GW X nL (pc + 2) (a0 :: a1 :: a2 :: a3 :: a4 :: a5 :: a6 :: a7 :: a8 :: a9 :: a10 :: some (.int x) :: r) st I) : GW X nL pc (a0 :: a1 :: a2 :: a3 :: a4 :: a5 :: a6 :: a7 :: a8 :: a9 :: a10 :: a11 :: r) (.int x :: st) I := g_istore B d hn hf k
theorem g_ast11 (B : Fx X cc nL own fr lo) {a0 a1 a2 a3 a4 a5 a6 a7 a8 a9 a10 a11 : Option Value} {x : Nat} (d : decode cc pc = .ok (.astore 11, 2)) (hn : 11 < nL) (hf : lfree (a0 :: a1 :: a2 :: a3 :: a4 :: a5 :: a6 :: a7 :: a8 :: a9 :: a10 :: a11 :: r) 11 = true) (k : GW X nL (pc + 2) (a0 :: a1 :: a2 :: a3 :: a4 :: a5 :: a6 :: a7 :: a8 :: a9 :: a10 :: some (.ref x) :: r) st I) : GW X nL pc (a0 :: a1 :: a2 :: a3 :: a4 :: a5 :: a6 :: a7 :: a8 :: a9 :: a10 :: a11 :: r) (.ref x :: st) I := g_astore B d hn hf k
theorem g_lst11 (B : Fx X cc nL own fr lo) {a0 a1 a2 a3 a4 a5 a6 a7 a8 a9 a10 a11 a12 : Option Value} {x : Int64} (d : decode cc pc = .ok (.lstore 11, 2)) (hn : 11 + 1 < nL) (hf : lfree (a0 :: a1 :: a2 :: a3 :: a4 :: a5 :: a6 :: a7 :: a8 :: a9 :: a10 :: a11 :: a12 :: r) 11 = true) (k : GW X nL (pc + 2) (a0 :: a1 :: a2 :: a3 :: a4 :: a5 :: a6 :: a7 :: a8 :: a9 :: a10 :: some (.long x) :: none :: r) st I) : GW X nL pc (a0 :: a1 :: a2 :: a3 :: a4 :: a5 :: a6 :: a7 :: a8 :: a9 :: a10 :: a11 :: a12 :: r) (.long x :: st) I := g_lstore B d hn hf k
theorem g_inc11 (B : Fx X cc nL own fr lo) {a0 a1 a2 a3 a4 a5 a6 a7 a8 a9 a10 a11 : Option Value} {n : Int} {x v : Int32} (d : decode cc pc = .ok (.iinc 11 n, 3)) (h : a11 = some (.int x)) (hv : x + Int32.ofInt n = v) (hn : 11 < nL) (hf : lfree (a0 :: a1 :: a2 :: a3 :: a4 :: a5 :: a6 :: a7 :: a8 :: a9 :: a10 :: a11 :: r) 11 = true) (k : GW X nL (pc + 3) (a0 :: a1 :: a2 :: a3 :: a4 :: a5 :: a6 :: a7 :: a8 :: a9 :: a10 :: some (.int v) :: r) st I) : GW X nL pc (a0 :: a1 :: a2 :: a3 :: a4 :: a5 :: a6 :: a7 :: a8 :: a9 :: a10 :: a11 :: r) st I := g_iinc B d (by subst h; rfl) hv hn hf k
theorem g_drop11 {a0 a1 a2 a3 a4 a5 a6 a7 a8 a9 a10 a11 : Option Value} (k : GW X nL pc (a0 :: a1 :: a2 :: a3 :: a4 :: a5 :: a6 :: a7 :: a8 :: a9 :: a10 :: none :: r) st I) : GW X nL pc (a0 :: a1 :: a2 :: a3 :: a4 :: a5 :: a6 :: a7 :: a8 :: a9 :: a10 :: a11 :: r) st I := g_drop (i := 11) k
theorem g_ist12 (B : Fx X cc nL own fr lo) {a0 a1 a2 a3 a4 a5 a6 a7 a8 a9 a10 a11 a12 : Option Value} {x : Int32} (d : decode cc pc = .ok (.istore 12, 2)) (hn : 12 < nL) (hf : lfree (a0 :: a1 :: a2 :: a3 :: a4 :: a5 :: a6 :: a7 :: a8 :: a9 :: a10 :: a11 :: a12 :: r) 12 = true) (k : GW X nL (pc + 2) (a0 :: a1 :: a2 :: a3 :: a4 :: a5 :: a6 :: a7 :: a8 :: a9 :: a10 :: a11 :: some (.int x) :: r) st I) : GW X nL pc (a0 :: a1 :: a2 :: a3 :: a4 :: a5 :: a6 :: a7 :: a8 :: a9 :: a10 :: a11 :: a12 :: r) (.int x :: st) I := g_istore B d hn hf k
theorem g_ast12 (B : Fx X cc nL own fr lo) {a0 a1 a2 a3 a4 a5 a6 a7 a8 a9 a10 a11 a12 : Option Value} {x : Nat} (d : decode cc pc = .ok (.astore 12, 2)) (hn : 12 < nL) (hf : lfree (a0 :: a1 :: a2 :: a3 :: a4 :: a5 :: a6 :: a7 :: a8 :: a9 :: a10 :: a11 :: a12 :: r) 12 = true) (k : GW X nL (pc + 2) (a0 :: a1 :: a2 :: a3 :: a4 :: a5 :: a6 :: a7 :: a8 :: a9 :: a10 :: a11 :: some (.ref x) :: r) st I) : GW X nL pc (a0 :: a1 :: a2 :: a3 :: a4 :: a5 :: a6 :: a7 :: a8 :: a9 :: a10 :: a11 :: a12 :: r) (.ref x :: st) I := g_astore B d hn hf k
theorem g_lst12 (B : Fx X cc nL own fr lo) {a0 a1 a2 a3 a4 a5 a6 a7 a8 a9 a10 a11 a12 a13 : Option Value} {x : Int64} (d : decode cc pc = .ok (.lstore 12, 2)) (hn : 12 + 1 < nL) (hf : lfree (a0 :: a1 :: a2 :: a3 :: a4 :: a5 :: a6 :: a7 :: a8 :: a9 :: a10 :: a11 :: a12 :: a13 :: r) 12 = true) (k : GW X nL (pc + 2) (a0 :: a1 :: a2 :: a3 :: a4 :: a5 :: a6 :: a7 :: a8 :: a9 :: a10 :: a11 :: some (.long x) :: none :: r) st I) : GW X nL pc (a0 :: a1 :: a2 :: a3 :: a4 :: a5 :: a6 :: a7 :: a8 :: a9 :: a10 :: a11 :: a12 :: a13 :: r) (.long x :: st) I := g_lstore B d hn hf k
theorem g_inc12 (B : Fx X cc nL own fr lo) {a0 a1 a2 a3 a4 a5 a6 a7 a8 a9 a10 a11 a12 : Option Value} {n : Int} {x v : Int32} (d : decode cc pc = .ok (.iinc 12 n, 3)) (h : a12 = some (.int x)) (hv : x + Int32.ofInt n = v) (hn : 12 < nL) (hf : lfree (a0 :: a1 :: a2 :: a3 :: a4 :: a5 :: a6 :: a7 :: a8 :: a9 :: a10 :: a11 :: a12 :: r) 12 = true) (k : GW X nL (pc + 3) (a0 :: a1 :: a2 :: a3 :: a4 :: a5 :: a6 :: a7 :: a8 :: a9 :: a10 :: a11 :: some (.int v) :: r) st I) : GW X nL pc (a0 :: a1 :: a2 :: a3 :: a4 :: a5 :: a6 :: a7 :: a8 :: a9 :: a10 :: a11 :: a12 :: r) st I := g_iinc B d (by subst h; rfl) hv hn hf k
theorem g_drop12 {a0 a1 a2 a3 a4 a5 a6 a7 a8 a9 a10 a11 a12 : Option Value} (k : GW X nL pc (a0 :: a1 :: a2 :: a3 :: a4 :: a5 :: a6 :: a7 :: a8 :: a9 :: a10 :: a11 :: none :: r) st I) : GW X nL pc (a0 :: a1 :: a2 :: a3 :: a4 :: a5 :: a6 :: a7 :: a8 :: a9 :: a10 :: a11 :: a12 :: r) st I := g_drop (i := 12) k
theorem g_ist13 (B : Fx X cc nL own fr lo) {a0 a1 a2 a3 a4 a5 a6 a7 a8 a9 a10 a11 a12 a13 : Option Value} {x : Int32} (d : decode cc pc = .ok (.istore 13, 2)) (hn : 13 < nL) (hf : lfree (a0 :: a1 :: a2 :: a3 :: a4 :: a5 :: a6 :: a7 :: a8 :: a9 :: a10 :: a11 :: a12 :: a13 :: r) 13 = true) (k : GW X nL (pc + 2) (a0 :: a1 :: a2 :: a3 :: a4 :: a5 :: a6 :: a7 :: a8 :: a9 :: a10 :: a11 :: a12 :: some (.int x) :: r) st I) : GW X nL pc (a0 :: a1 :: a2 :: a3 :: a4 :: a5 :: a6 :: a7 :: a8 :: a9 :: a10 :: a11 :: a12 :: a13 :: r) (.int x :: st) I := g_istore B d hn hf k
theorem g_ast13 (B : Fx X cc nL own fr lo) {a0 a1 a2 a3 a4 a5 a6 a7 a8 a9 a10 a11 a12 a13 : Option Value} {x : Nat} (d : decode cc pc = .ok (.astore 13, 2)) (hn : 13 < nL) (hf : lfree (a0 :: a1 :: a2 :: a3 :: a4 :: a5 :: a6 :: a7 :: a8 :: a9 :: a10 :: a11 :: a12 :: a13 :: r) 13 = true) (k : GW X nL (pc + 2) (a0 :: a1 :: a2 :: a3 :: a4 :: a5 :: a6 :: a7 :: a8 :: a9 :: a10 :: a11 :: a12 :: some (.ref x) :: r) st I) : GW X nL pc (a0 :: a1 :: a2 :: a3 :: a4 :: a5 :: a6 :: a7 :: a8 :: a9 :: a10 :: a11 :: a12 :: a13 :: r) (.ref x :: st) I := g_astore B d hn hf k
theorem g_lst13 (B : Fx X cc nL own fr lo) {a0 a1 a2 a3 a4 a5 a6 a7 a8 a9 a10 a11 a12 a13 a14 : Option Value} {x : Int64} (d : decode cc pc = .ok (.lstore 13, 2)) (hn : 13 + 1 < nL) (hf : lfree (a0 :: a1 :: a2 :: a3 :: a4 :: a5 :: a6 :: a7 :: a8 :: a9 :: a10 :: a11 :: a12 :: a13 :: a14 :: r) 13 = true) (k : GW X nL (pc + 2) (a0 :: a1 :: a2 :: a3 :: a4 :: a5 :: a6 :: a7 :: a8 :: a9 :: a10 :: a11 :: a12 :: some (.long x) :: none :: r) st I) : GW X nL pc (a0 :: a1 :: a2 :: a3 :: a4 :: a5 :: a6 :: a7 :: a8 :: a9 :: a10 :: a11 :: a12 :: a13 :: a14 :: r) (.long x :: st) I := g_lstore B d hn hf k
theorem g_inc13 (B : Fx X cc nL own fr lo) {a0 a1 a2 a3 a4 a5 a6 a7 a8 a9 a10 a11 a12 a13 : Option Value} {n : Int} {x v : Int32} (d : decode cc pc = .ok (.iinc 13 n, 3)) (h : a13 = some (.int x)) (hv : x + Int32.ofInt n = v) (hn : 13 < nL) (hf : lfree (a0 :: a1 :: a2 :: a3 :: a4 :: a5 :: a6 :: a7 :: a8 :: a9 :: a10 :: a11 :: a12 :: a13 :: r) 13 = true) (k : GW X nL (pc + 3) (a0 :: a1 :: a2 :: a3 :: a4 :: a5 :: a6 :: a7 :: a8 :: a9 :: a10 :: a11 :: a12 :: some (.int v) :: r) st I) : GW X nL pc (a0 :: a1 :: a2 :: a3 :: a4 :: a5 :: a6 :: a7 :: a8 :: a9 :: a10 :: a11 :: a12 :: a13 :: r) st I := g_iinc B d (by subst h; rfl) hv hn hf k
theorem g_drop13 {a0 a1 a2 a3 a4 a5 a6 a7 a8 a9 a10 a11 a12 a13 : Option Value} (k : GW X nL pc (a0 :: a1 :: a2 :: a3 :: a4 :: a5 :: a6 :: a7 :: a8 :: a9 :: a10 :: a11 :: a12 :: none :: r) st I) : GW X nL pc (a0 :: a1 :: a2 :: a3 :: a4 :: a5 :: a6 :: a7 :: a8 :: a9 :: a10 :: a11 :: a12 :: a13 :: r) st I := g_drop (i := 13) k
end STORES
/-! numbers -/
def bI (b : Bool) : Int32 := if b then 1 else 0
theorem bI_t : bI true = 1 := rfl
theorem bI_f : bI false = 0 := rfl
theorem bI_nar (b : Bool) : narrow .boolean (.int (bI b)) = .int (bI b) := by cases b <;> rfl
theorem bI_narv {r : Int32} {b : Bool} (h : r = bI b) : narrow .boolean (.int r) = .int r := by subst h; exact bI_nar b
theorem bI_eq0 (b : Bool) : bI b = 0 ↔ b = false := by cases b <;> simp [bI]
theorem bI_eq1 (b : Bool) : bI b = 1 ↔ b = true := by cases b <;> simp [bI]
theorem bI_ne0 (b : Bool) : (¬ bI b = 0) ↔ b = true := by cases b <;> simp [bI]
theorem bI_vnar (b : Bool) : vp_nar .boolean (bI b) = bI b := by cases b <;> rfl
theorem lit_nI (n : Nat) : (OfNat.ofNat n : Int32) = nI n := rfl
theorem lit_add (n c : Nat) : (OfNat.ofNat n : Int32) + nI c = nI (n + c) := nI_add n c
theorem add_lit (n c : Nat) : nI c + (OfNat.ofNat n : Int32) = nI (c + n) := nI_add c n
theorem la_0 (c : Nat) : (0 : Int32) + nI c = nI c := by rw [show (0 : Int32) = nI 0 from rfl, nI_add, Nat.zero_add]
theorem la_3 (c : Nat) : (3 : Int32) + nI c = nI (3 + c) := nI_add 3 c
theorem la_4 (c : Nat) : (4 : Int32) + nI c = nI (4 + c) := nI_add 4 c
theorem la_5 (c : Nat) : (5 : Int32) + nI c = nI (5 + c) := nI_add 5 c
theorem la_8 (c : Nat) : (8 : Int32) + nI c = nI (8 + c) := nI_add 8 c
theorem la_16 (c : Nat) : (16 : Int32) + nI c = nI (16 + c) := nI_add 16 c
theorem la_24 (c : Nat) : (24 : Int32) + nI c = nI (24 + c) := nI_add 24 c
theorem la_28 (c : Nat) : (28 : Int32) + nI c = nI (28 + c) := nI_add 28 c
theorem la_35 (c : Nat) : (35 : Int32) + nI c = nI (35 + c) := nI_add 35 c
theorem la_36 (c : Nat) : (36 : Int32) + nI c = nI (36 + c) := nI_add 36 c
/-- a loop that counts up to n -/
theorem loopN {P : Nat → Prop} (n : Nat) (step : ∀ i, i ≤ n → (i < n → P (i + 1)) → P i) : ∀ i, i ≤ n → P i := by
  have h : ∀ k i, i + k = n → P i := by
    intro k
    induction k with
    | zero => intro i hi; exact step i (by omega) (fun h => absurd h (by omega))
    | succ k ih => intro i hi; exact step i (by omega) (fun _ => ih (i + 1) (by omega))
  intro i hi
  exact h (n - i) i (by omega)
theorem inc1 (i : Nat) : nI i + Int32.ofInt 1 = nI (i + 1) := nI_1 i
theorem w2_get (I : Wo) (k j a b : Nat) (v : Int32) : w2 I k j v a b = if a = k ∧ b = j then v else I a b := rfl
theorem w2_same (I : Wo) (k j : Nat) (v : Int32) : w2 I k j v k j = v := by simp [w2]
theorem w2_cell (I : Wo) {k j a b : Nat} (v : Int32) (h : a ≠ k) : w2 I k j v a b = I a b := by simp [w2, h]
theorem w2_slot (I : Wo) {k j a b : Nat} (v : Int32) (h : b ≠ j) : w2 I k j v a b = I a b := by simp [w2, h]
theorem nle_lt {a b : Nat} (ha : a < 2 ^ 31) (hb : b < 2 ^ 31) (h : ¬ nI a ≤ nI b) : b < a := by
  rw [nI_leI ha hb] at h; omega
theorem le_le {a b : Nat} (ha : a < 2 ^ 31) (hb : b < 2 ^ 31) (h : nI a ≤ nI b) : a ≤ b := (nI_leI ha hb).mp h
theorem lt_lt {a b : Nat} (ha : a < 2 ^ 31) (hb : b < 2 ^ 31) (h : nI a < nI b) : a < b := (nI_ltI ha hb).mp h
theorem nlt_le {a b : Nat} (ha : a < 2 ^ 31) (hb : b < 2 ^ 31) (h : ¬ nI a < nI b) : b ≤ a := by
  rw [nI_ltI ha hb] at h; omega
/-! the suits -/
def Su (b : Nat) : Prop := shL[b]? = some (.inl (3, [some (b + 1), some (b + 2), some (b + 3), some (b + 4), some (b + 5), some (b + 6), some (b + 7), some (b + 8), none, none, none, none, none, none, none])) ∧
  shL[b + 1]? = some (.inr (.inl (0, 8))) ∧ shL[b + 2]? = some (.inr (.inl (0, 8))) ∧ shL[b + 3]? = some (.inr (.inl (0, 8))) ∧ shL[b + 4]? = some (.inr (.inl (0, 8))) ∧ shL[b + 5]? = some (.inr (.inl (0, 8))) ∧ shL[b + 6]? = some (.inr (.inl (0, 8))) ∧ shL[b + 7]? = some (.inr (.inl (0, 6))) ∧ shL[b + 8]? = some (.inr (.inl (0, 6)))
theorem su_1 : Su 1 := ⟨rfl, rfl, rfl, rfl, rfl, rfl, rfl, rfl, rfl⟩
theorem su_10 : Su 10 := ⟨rfl, rfl, rfl, rfl, rfl, rfl, rfl, rfl, rfl⟩
theorem su_20 : Su 20 := ⟨rfl, rfl, rfl, rfl, rfl, rfl, rfl, rfl, rfl⟩
theorem su_29 : Su 29 := ⟨rfl, rfl, rfl, rfl, rfl, rfl, rfl, rfl, rfl⟩
def Ss (b : Nat) : Prop := shL[b]? = some (.inl (2, [some (b + 1), none, none])) ∧ shL[b + 1]? = some (.inr (.inl (0, 40)))
theorem ss_42 : Ss 42 := ⟨rfl, rfl⟩
theorem ss_44 : Ss 44 := ⟨rfl, rfl⟩
theorem ss_46 : Ss 46 := ⟨rfl, rfl⟩
theorem ss_48 : Ss 48 := ⟨rfl, rfl⟩
/-- what stands of a set: n claims, L what each leans on, F what each falls by -/
def stF (L F : Nat → Int32) (set : Int32) : Nat → Int32
  | 0 => 0
  | c + 1 => if (L c &&& (stF L F set c ^^^ (-1)) = 0 ∧ F c &&& stF L F set c = 0) ∧ (set >>> (nI c &&& 31)) &&& 1 = 1 then stF L F set c ||| ((1 : Int32) <<< (nI c &&& 31)) else stF L F set c
end
section
set_option maxHeartbeats 4000000 in
set_option maxRecDepth 100000 in
theorem ct_X3_standing {I : Wo} {b n : Nat} (hS : Su b) (hn : I b 9 = nI n) (hn8 : n ≤ 8) (set : Int32) : Ct yX3_standing cX3_standing 5 (some .int) 0 0 [.ref b, .int set] I (pI (fun r u => r = stF (I (b + 5)) (I (b + 6)) set n ∧ I = u)) := by
  obtain ⟨s0, s1, s2, s3, s4, s5, s6, s7, s8⟩ := id hS
  refine ct_of RX3 rfl (by decide) (Nat.le_of_ble_eq_true rfl) (fun X B E => ?_)
  show GW X 5 0 [some (.ref b), some (.int set), none, none, none] [] _
  refine g_iconst B (v := 0) dX3_standing_0 (by decide) ?_
  refine g_istn2 B dX3_standing_1 (by decide) rfl ?_
  refine g_iconst B (v := 0) dX3_standing_2 (by decide) ?_
  refine g_istn3 B dX3_standing_3 (by decide) rfl ?_
  have L : ∀ i, i ≤ n → ∀ x q, x = stF (I (b + 5)) (I (b + 6)) set i → GW X 5 4 [some (.ref b), some (.int set), some (.int x), some (.int (nI i)), q] [] I := by
    refine loopN n (fun i hi ih x q hx => ?_)
    refine g_iload_n B dX3_standing_4 rfl ?_
    refine g_aload_n B dX3_standing_5 rfl ?_
    refine g_geti B ci_X3 (by first | rfl | assumption) rfl (by decide) fl_X3_40 dX3_standing_6 ?_
    refine g_icmp_ge B 69 dX3_standing_9 (by decide) (fun h9 => ?_) (fun h9 => ?_)
    · have hi2 : i = n := by have := le_le (a := n) (b := i) (by omega) (by omega) (by rw [← hn]; exact h9); omega
      refine g_iload_n B dX3_standing_69 rfl ?_
      exact g_iret B E rfl dX3_standing_70 ⟨by rw [hx, hi2], rfl⟩
    · have hlt : i < n := nle_lt (by omega) (by omega) (by rw [← hn]; exact h9)
      refine g_aload_n B dX3_standing_12 rfl ?_
      refine g_getr B ci_X3 (by first | rfl | assumption) rfl (by decide) fl_X3_24 dX3_standing_13 ?_
      refine g_iload_n B dX3_standing_16 rfl ?_
      refine g_iald B (by first | rfl | assumption) _ (by first | with_reducible rfl | exact lit_add _ _ | exact add_lit _ _ | exact nI_add _ _ | exact lit_nI _ | assumption | rfl) (by first | decide | omega | assumption) (by decide) dX3_standing_17 ?_
      refine g_iload_n B dX3_standing_18 rfl ?_
      refine g_iconst B (v := (-1)) dX3_standing_19 (by decide) ?_
      refine g_ixor B dX3_standing_20 ?_
      refine g_iand B dX3_standing_21 ?_
      refine g_if_ne B 40 dX3_standing_22 (by decide) (fun h22 => ?_) (fun h22 => ?_)
      · refine g_iconst B (v := 0) dX3_standing_40 (by decide) ?_
        refine g_ist4 B dX3_standing_41 (by decide) rfl ?_
        refine g_iload B dX3_standing_43 rfl ?_
        refine g_if_eq B 63 dX3_standing_45 (by decide) (fun h45 => ?_) (fun h45 => ?_)
        · refine g_inc3 B dX3_standing_63 rfl (inc1 _) (by decide) rfl ?_
          refine g_goto B 4 dX3_standing_66 (by decide) ?_
          first | exact absurd h45 (by decide) | exact ih hlt _ _ (by subst hx; simp only [stF, *, and_true, true_and, and_false, false_and, and_self, ↓reduceIte])
        · refine g_iload_n B dX3_standing_48 rfl ?_
          refine g_iload_n B dX3_standing_49 rfl ?_
          refine g_ishr B dX3_standing_50 ?_
          refine g_iconst B (v := 1) dX3_standing_51 (by decide) ?_
          refine g_iand B dX3_standing_52 ?_
          refine g_iconst B (v := 1) dX3_standing_53 (by decide) ?_
          refine g_icmp_ne B 63 dX3_standing_54 (by decide) (fun h54 => ?_) (fun h54 => ?_)
          · refine g_inc3 B dX3_standing_63 rfl (inc1 _) (by decide) rfl ?_
            refine g_goto B 4 dX3_standing_66 (by decide) ?_
            first | exact absurd h45 (by decide) | exact ih hlt _ _ (by subst hx; simp only [stF, *, and_true, true_and, and_false, false_and, and_self, ↓reduceIte])
          · refine g_iload_n B dX3_standing_57 rfl ?_
            refine g_iconst B (v := 1) dX3_standing_58 (by decide) ?_
            refine g_iload_n B dX3_standing_59 rfl ?_
            refine g_ishl B dX3_standing_60 ?_
            refine g_ior B dX3_standing_61 ?_
            refine g_istn2 B dX3_standing_62 (by decide) rfl ?_
            refine g_inc3 B dX3_standing_63 rfl (inc1 _) (by decide) rfl ?_
            refine g_goto B 4 dX3_standing_66 (by decide) ?_
            first | exact absurd h45 (by decide) | exact ih hlt _ _ (by subst hx; simp only [stF, *, and_true, true_and, and_false, false_and, and_self, ↓reduceIte])
      · refine g_aload_n B dX3_standing_25 rfl ?_
        refine g_getr B ci_X3 (by first | rfl | assumption) rfl (by decide) fl_X3_27 dX3_standing_26 ?_
        refine g_iload_n B dX3_standing_29 rfl ?_
        refine g_iald B (by first | rfl | assumption) _ (by first | with_reducible rfl | exact lit_add _ _ | exact add_lit _ _ | exact nI_add _ _ | exact lit_nI _ | assumption | rfl) (by first | decide | omega | assumption) (by decide) dX3_standing_30 ?_
        refine g_iload_n B dX3_standing_31 rfl ?_
        refine g_iand B dX3_standing_32 ?_
        refine g_if_ne B 40 dX3_standing_33 (by decide) (fun h33 => ?_) (fun h33 => ?_)
        · refine g_iconst B (v := 0) dX3_standing_40 (by decide) ?_
          refine g_ist4 B dX3_standing_41 (by decide) rfl ?_
          refine g_iload B dX3_standing_43 rfl ?_
          refine g_if_eq B 63 dX3_standing_45 (by decide) (fun h45 => ?_) (fun h45 => ?_)
          · refine g_inc3 B dX3_standing_63 rfl (inc1 _) (by decide) rfl ?_
            refine g_goto B 4 dX3_standing_66 (by decide) ?_
            first | exact absurd h45 (by decide) | exact ih hlt _ _ (by subst hx; simp only [stF, *, and_true, true_and, and_false, false_and, and_self, ↓reduceIte])
          · refine g_iload_n B dX3_standing_48 rfl ?_
            refine g_iload_n B dX3_standing_49 rfl ?_
            refine g_ishr B dX3_standing_50 ?_
            refine g_iconst B (v := 1) dX3_standing_51 (by decide) ?_
            refine g_iand B dX3_standing_52 ?_
            refine g_iconst B (v := 1) dX3_standing_53 (by decide) ?_
            refine g_icmp_ne B 63 dX3_standing_54 (by decide) (fun h54 => ?_) (fun h54 => ?_)
            · refine g_inc3 B dX3_standing_63 rfl (inc1 _) (by decide) rfl ?_
              refine g_goto B 4 dX3_standing_66 (by decide) ?_
              first | exact absurd h45 (by decide) | exact ih hlt _ _ (by subst hx; simp only [stF, *, and_true, true_and, and_false, false_and, and_self, ↓reduceIte])
            · refine g_iload_n B dX3_standing_57 rfl ?_
              refine g_iconst B (v := 1) dX3_standing_58 (by decide) ?_
              refine g_iload_n B dX3_standing_59 rfl ?_
              refine g_ishl B dX3_standing_60 ?_
              refine g_ior B dX3_standing_61 ?_
              refine g_istn2 B dX3_standing_62 (by decide) rfl ?_
              refine g_inc3 B dX3_standing_63 rfl (inc1 _) (by decide) rfl ?_
              refine g_goto B 4 dX3_standing_66 (by decide) ?_
              first | exact absurd h45 (by decide) | exact ih hlt _ _ (by subst hx; simp only [stF, *, and_true, true_and, and_false, false_and, and_self, ↓reduceIte])
        · refine g_iconst B (v := 1) dX3_standing_36 (by decide) ?_
          refine g_goto B 41 dX3_standing_37 (by decide) ?_
          refine g_ist4 B dX3_standing_41 (by decide) rfl ?_
          refine g_iload B dX3_standing_43 rfl ?_
          refine g_if_eq B 63 dX3_standing_45 (by decide) (fun h45 => ?_) (fun h45 => ?_)
          · refine g_inc3 B dX3_standing_63 rfl (inc1 _) (by decide) rfl ?_
            refine g_goto B 4 dX3_standing_66 (by decide) ?_
            first | exact absurd h45 (by decide) | exact ih hlt _ _ (by subst hx; simp only [stF, *, and_true, true_and, and_false, false_and, and_self, ↓reduceIte])
          · refine g_iload_n B dX3_standing_48 rfl ?_
            refine g_iload_n B dX3_standing_49 rfl ?_
            refine g_ishr B dX3_standing_50 ?_
            refine g_iconst B (v := 1) dX3_standing_51 (by decide) ?_
            refine g_iand B dX3_standing_52 ?_
            refine g_iconst B (v := 1) dX3_standing_53 (by decide) ?_
            refine g_icmp_ne B 63 dX3_standing_54 (by decide) (fun h54 => ?_) (fun h54 => ?_)
            · refine g_inc3 B dX3_standing_63 rfl (inc1 _) (by decide) rfl ?_
              refine g_goto B 4 dX3_standing_66 (by decide) ?_
              first | exact absurd h45 (by decide) | exact ih hlt _ _ (by subst hx; simp only [stF, *, and_true, true_and, and_false, false_and, and_self, ↓reduceIte])
            · refine g_iload_n B dX3_standing_57 rfl ?_
              refine g_iconst B (v := 1) dX3_standing_58 (by decide) ?_
              refine g_iload_n B dX3_standing_59 rfl ?_
              refine g_ishl B dX3_standing_60 ?_
              refine g_ior B dX3_standing_61 ?_
              refine g_istn2 B dX3_standing_62 (by decide) rfl ?_
              refine g_inc3 B dX3_standing_63 rfl (inc1 _) (by decide) rfl ?_
              refine g_goto B 4 dX3_standing_66 (by decide) ?_
              first | exact absurd h45 (by decide) | exact ih hlt _ _ (by subst hx; simp only [stF, *, and_true, true_and, and_false, false_and, and_self, ↓reduceIte])
  exact L 0 (Nat.zero_le n) _ _ rfl
set_option maxHeartbeats 4000000 in
set_option maxRecDepth 100000 in
theorem ct_X7_flag {I : Wo} (b : Bool) : Ct yX7_flag cX7_flag 1 (some .int) 0 0 [.int (bI b)] I (pI (fun r u => r = bI b ∧ I = u)) := by
  refine ct_of RX7 rfl (by decide) (Nat.le_of_ble_eq_true rfl) (fun X B E => ?_)
  show GW X 1 0 [some (.int (bI b))] [] _
  refine g_iload_n B dX7_flag_0 rfl ?_
  refine g_if_eq B 8 dX7_flag_1 (by decide) (fun h1 => ?_) (fun h1 => ?_)
  · refine g_iconst B (v := 0) dX7_flag_8 (by decide) ?_
    exact g_iret B E rfl dX7_flag_9 ⟨by simp_all [bI], rfl⟩
  · refine g_iconst B (v := 1) dX7_flag_4 (by decide) ?_
    refine g_goto B 9 dX7_flag_5 (by decide) ?_
    exact g_iret B E rfl dX7_flag_9 ⟨by simp_all [bI], rfl⟩
end
section
/-! what the methods' contracts speak of -/
def wi (v lo hi : Int32) : Bool := !decide (v < lo) && !decide (hi < v)
def wiL (v lo hi : Int64) : Bool := !decide (v < lo) && !decide (hi < v)
def cOK (n : Nat) (c : Int32) : Bool := !decide (c < 0) && !decide (nI n ≤ c)
def inT (f t d : Int32) : Bool := !decide (d < f) && !decide (t < d)
def esF (n : Nat) (L F : Nat → Int32) (e set : Int32) : Bool := cOK n e && decide ((stF L F set n >>> (e &&& 31)) &&& 1 = 1)
theorem fa_lt9 (a b : Int32) : a < b ↔ a.toInt < b.toInt := Int32.lt_iff_toInt_lt
theorem fa_le9 (a b : Int32) : a ≤ b ↔ a.toInt ≤ b.toInt := Int32.le_iff_toInt_le
theorem wide_lt (a b : Int32) : a.toInt64 < b.toInt64 ↔ a < b := by
  rw [Int64.lt_iff_toInt_lt, Int32.toInt_toInt64, Int32.toInt_toInt64, Int32.lt_iff_toInt_lt]
theorem wiL_wide (a b c : Int32) : wiL a.toInt64 b.toInt64 c.toInt64 = wi a b c := by
  simp only [wiL, wi, wide_lt]
theorem cmp_lt (x y : Int64) : lg_cmp x y < 0 ↔ x < y := by
  unfold lg_cmp
  by_cases h1 : x > y
  · rw [if_pos h1]
    have h2 : ¬ x < y := fun q => Int64.lt_irrefl (Int64.lt_trans h1 q)
    exact ⟨fun q => absurd q (by decide), fun q => absurd q h2⟩
  · rw [if_neg h1]
    by_cases h2 : x = y
    · rw [if_pos h2]; subst h2
      exact ⟨fun q => absurd q (by decide), fun q => absurd q Int64.lt_irrefl⟩
    · rw [if_neg h2]
      exact ⟨fun _ => by
        rw [gt_iff_lt, Int64.lt_iff_toInt_lt] at h1
        rw [Int64.lt_iff_toInt_lt]
        have : x.toInt ≠ y.toInt := fun q => h2 (Int64.toInt_inj.mp q)
        omega, fun _ => by decide⟩
theorem cmp_gt (x y : Int64) : 0 < lg_cmp x y ↔ y < x := by
  unfold lg_cmp
  by_cases h1 : x > y
  · rw [if_pos h1]; exact ⟨fun _ => h1, fun _ => by decide⟩
  · rw [if_neg h1]
    by_cases h2 : x = y
    · rw [if_pos h2]; exact ⟨fun q => absurd q (by decide), fun q => absurd q h1⟩
    · rw [if_neg h2]; exact ⟨fun q => absurd q (by decide), fun q => absurd q h1⟩
theorem n8 {n : Nat} (h : n ≤ 8) : n = 0 ∨ n = 1 ∨ n = 2 ∨ n = 3 ∨ n = 4 ∨ n = 5 ∨ n = 6 ∨ n = 7 ∨ n = 8 := by omega
theorem shl1 {n : Nat} (h : n ≤ 8) : (1 : Int32) <<< (nI n &&& 31) = nI (2 ^ n) := by
  rcases n8 h with rfl | rfl | rfl | rfl | rfl | rfl | rfl | rfl | rfl <;> decide
theorem cOK_iff {n : Nat} (hn : n < 2 ^ 31) {c : Int32} : cOK n c = true ↔ ∃ j, j < n ∧ c = nI j := by
  simp only [cOK, Bool.and_eq_true, Bool.not_eq_true', decide_eq_false_iff_not]
  constructor
  · rintro ⟨h1, h2⟩
    obtain ⟨j, hj, rfl⟩ := nI_of h1
    exact ⟨j, nle_lt hn hj h2, rfl⟩
  · rintro ⟨j, hj, rfl⟩
    exact ⟨nI_pos (by omega), nI_ge hj hn⟩
theorem cOK_pred {n : Nat} (hn : n ≤ 8) (c : Int32) : wi c 0 (nI n - 1) = cOK n c := by
  have e : (nI n - 1 < c) ↔ nI n ≤ c := by
    rw [fa_lt9, fa_le9]
    rcases n8 hn with rfl | rfl | rfl | rfl | rfl | rfl | rfl | rfl | rfl
    · rw [show (nI 0 - 1).toInt = -1 by decide, show (nI 0).toInt = 0 by decide]; omega
    · rw [show (nI 1 - 1).toInt = 0 by decide, show (nI 1).toInt = 1 by decide]; omega
    · rw [show (nI 2 - 1).toInt = 1 by decide, show (nI 2).toInt = 2 by decide]; omega
    · rw [show (nI 3 - 1).toInt = 2 by decide, show (nI 3).toInt = 3 by decide]; omega
    · rw [show (nI 4 - 1).toInt = 3 by decide, show (nI 4).toInt = 4 by decide]; omega
    · rw [show (nI 5 - 1).toInt = 4 by decide, show (nI 5).toInt = 5 by decide]; omega
    · rw [show (nI 6 - 1).toInt = 5 by decide, show (nI 6).toInt = 6 by decide]; omega
    · rw [show (nI 7 - 1).toInt = 6 by decide, show (nI 7).toInt = 7 by decide]; omega
    · rw [show (nI 8 - 1).toInt = 7 by decide, show (nI 8).toInt = 8 by decide]; omega
  simp only [wi, cOK, e]
theorem sOK_pred {n : Nat} (hn : n ≤ 8) (c : Int32) : wi c 0 (nI (2 ^ n) - 1) = cOK (2 ^ n) c := by
  have e : (nI (2 ^ n) - 1 < c) ↔ nI (2 ^ n) ≤ c := by
    rw [fa_lt9, fa_le9]
    rcases n8 hn with rfl | rfl | rfl | rfl | rfl | rfl | rfl | rfl | rfl
    · rw [show (nI (2 ^ 0) - 1).toInt = 0 by decide, show (nI (2 ^ 0)).toInt = 1 by decide]; omega
    · rw [show (nI (2 ^ 1) - 1).toInt = 1 by decide, show (nI (2 ^ 1)).toInt = 2 by decide]; omega
    · rw [show (nI (2 ^ 2) - 1).toInt = 3 by decide, show (nI (2 ^ 2)).toInt = 4 by decide]; omega
    · rw [show (nI (2 ^ 3) - 1).toInt = 7 by decide, show (nI (2 ^ 3)).toInt = 8 by decide]; omega
    · rw [show (nI (2 ^ 4) - 1).toInt = 15 by decide, show (nI (2 ^ 4)).toInt = 16 by decide]; omega
    · rw [show (nI (2 ^ 5) - 1).toInt = 31 by decide, show (nI (2 ^ 5)).toInt = 32 by decide]; omega
    · rw [show (nI (2 ^ 6) - 1).toInt = 63 by decide, show (nI (2 ^ 6)).toInt = 64 by decide]; omega
    · rw [show (nI (2 ^ 7) - 1).toInt = 127 by decide, show (nI (2 ^ 7)).toInt = 128 by decide]; omega
    · rw [show (nI (2 ^ 8) - 1).toInt = 255 by decide, show (nI (2 ^ 8)).toInt = 256 by decide]; omega
  simp only [wi, cOK, e]
theorem bI_fit (b : Bool) : fits .boolean (.int (bI b)) = true := by cases b <;> rfl
/-- how many of the lowest k bits are set -/
def bcF (x : Int32) : Nat → Int32
  | 0 => 0
  | k + 1 => bcF x k + ((x >>> (nI k &&& 31)) &&& 1)
def bc8 (x : Int32) : Int32 := bcF x 8
end
section
set_option maxHeartbeats 4000000 in
set_option maxRecDepth 100000 in
theorem ct_X6_within {I : Wo} (v low high : Int32) : Ct yX6_within cX6_within 3 (some .boolean) 0 0 [.int v, .int low, .int high] I (pI (fun r u => r = bI (wi v low high) ∧ I = u)) := by
  refine ct_of RX6 rfl (by decide) (Nat.le_of_ble_eq_true rfl) (fun X B E => ?_)
  show GW X 3 0 [some (.int v), some (.int low), some (.int high)] [] _
  refine g_iload_n B dX6_within_0 rfl ?_
  refine g_iload_n B dX6_within_1 rfl ?_
  refine g_icmp_lt B 14 dX6_within_2 (by decide) (fun h2 => ?_) (fun h2 => ?_)
  · refine g_iconst B (v := 0) dX6_within_14 (by decide) ?_
    exact g_iret B E (by first | exact bI_nar _ | decide | exact bI_narv (by assumption)) dX6_within_15 ⟨by simp [bI, wi, *], rfl⟩
  · refine g_iload_n B dX6_within_5 rfl ?_
    refine g_iload_n B dX6_within_6 rfl ?_
    refine g_icmp_gt B 14 dX6_within_7 (by decide) (fun h7 => ?_) (fun h7 => ?_)
    · refine g_iconst B (v := 0) dX6_within_14 (by decide) ?_
      exact g_iret B E (by first | exact bI_nar _ | decide | exact bI_narv (by assumption)) dX6_within_15 ⟨by simp [bI, wi, *], rfl⟩
    · refine g_iconst B (v := 1) dX6_within_10 (by decide) ?_
      refine g_goto B 15 dX6_within_11 (by decide) ?_
      exact g_iret B E (by first | exact bI_nar _ | decide | exact bI_narv (by assumption)) dX6_within_15 ⟨by simp [bI, wi, *], rfl⟩
set_option maxHeartbeats 4000000 in
set_option maxRecDepth 100000 in
theorem ct_X6_oneIf {I : Wo} (b : Bool) : Ct yX6_oneIf cX6_oneIf 1 (some .int) 0 0 [.int (bI b)] I (pI (fun r u => r = bI b ∧ I = u)) := by
  refine ct_of RX6 rfl (by decide) (Nat.le_of_ble_eq_true rfl) (fun X B E => ?_)
  show GW X 1 0 [some (.int (bI b))] [] _
  refine g_iload_n B dX6_oneIf_0 rfl ?_
  refine g_if_eq B 8 dX6_oneIf_1 (by decide) (fun h1 => ?_) (fun h1 => ?_)
  · refine g_iconst B (v := 0) dX6_oneIf_8 (by decide) ?_
    exact g_iret B E rfl dX6_oneIf_9 ⟨by simp_all [bI], rfl⟩
  · refine g_iconst B (v := 1) dX6_oneIf_4 (by decide) ?_
    refine g_goto B 9 dX6_oneIf_5 (by decide) ?_
    exact g_iret B E rfl dX6_oneIf_9 ⟨by simp_all [bI], rfl⟩
set_option maxHeartbeats 4000000 in
set_option maxRecDepth 100000 in
theorem ct_X3_hasClaim {I : Wo} {b n : Nat} (hS : Su b) (hn : I b 9 = nI n) (c : Int32) : Ct yX3_hasClaim cX3_hasClaim 2 (some .boolean) 0 0 [.ref b, .int c] I (pI (fun r u => r = bI (cOK n c) ∧ I = u)) := by
  obtain ⟨s0, -⟩ := id hS
  refine ct_of RX3 rfl (by decide) (Nat.le_of_ble_eq_true rfl) (fun X B E => ?_)
  show GW X 2 0 [some (.ref b), some (.int c)] [] _
  refine g_iload_n B dX3_hasClaim_0 rfl ?_
  refine g_if_lt B 16 dX3_hasClaim_1 (by decide) (fun h1 => ?_) (fun h1 => ?_)
  · refine g_iconst B (v := 0) dX3_hasClaim_16 (by decide) ?_
    exact g_iret B E (by first | exact bI_nar _ | decide | exact bI_narv (by assumption)) dX3_hasClaim_17 ⟨by simp [bI, cOK, *], rfl⟩
  · refine g_iload_n B dX3_hasClaim_4 rfl ?_
    refine g_aload_n B dX3_hasClaim_5 rfl ?_
    refine g_geti B ci_X3 (by first | rfl | assumption) rfl (by decide) fl_X3_40 dX3_hasClaim_6 ?_
    refine g_icmp_ge B 16 dX3_hasClaim_9 (by decide) (fun h9 => ?_) (fun h9 => ?_)
    · rw [hn] at h9
      refine g_iconst B (v := 0) dX3_hasClaim_16 (by decide) ?_
      exact g_iret B E (by first | exact bI_nar _ | decide | exact bI_narv (by assumption)) dX3_hasClaim_17 ⟨by simp [bI, cOK, *], rfl⟩
    · rw [hn] at h9
      refine g_iconst B (v := 1) dX3_hasClaim_12 (by decide) ?_
      refine g_goto B 17 dX3_hasClaim_13 (by decide) ?_
      exact g_iret B E (by first | exact bI_nar _ | decide | exact bI_narv (by assumption)) dX3_hasClaim_17 ⟨by simp [bI, cOK, *], rfl⟩
set_option maxHeartbeats 4000000 in
set_option maxRecDepth 100000 in
theorem ct_X3_hasSet {I : Wo} {b n : Nat} (hS : Su b) (hn : I b 9 = nI n) (hn8 : n ≤ 8) (c : Int32) : Ct yX3_hasSet cX3_hasSet 2 (some .boolean) 0 0 [.ref b, .int c] I (pI (fun r u => r = bI (cOK (2 ^ n) c) ∧ I = u)) := by
  obtain ⟨s0, -⟩ := id hS
  refine ct_of RX3 rfl (by decide) (Nat.le_of_ble_eq_true rfl) (fun X B E => ?_)
  show GW X 2 0 [some (.ref b), some (.int c)] [] _
  refine g_iload_n B dX3_hasSet_0 rfl ?_
  refine g_if_lt B 18 dX3_hasSet_1 (by decide) (fun h1 => ?_) (fun h1 => ?_)
  · refine g_iconst B (v := 0) dX3_hasSet_18 (by decide) ?_
    exact g_iret B E (by first | exact bI_nar _ | decide | exact bI_narv (by assumption)) dX3_hasSet_19 ⟨by simp [bI, cOK, *], rfl⟩
  · refine g_iload_n B dX3_hasSet_4 rfl ?_
    refine g_iconst B (v := 1) dX3_hasSet_5 (by decide) ?_
    refine g_aload_n B dX3_hasSet_6 rfl ?_
    refine g_geti B ci_X3 (by first | rfl | assumption) rfl (by decide) fl_X3_40 dX3_hasSet_7 ?_
    refine g_ishl B dX3_hasSet_10 ?_
    refine g_icmp_ge B 18 dX3_hasSet_11 (by decide) (fun h11 => ?_) (fun h11 => ?_)
    · rw [hn, shl1 hn8] at h11
      refine g_iconst B (v := 0) dX3_hasSet_18 (by decide) ?_
      exact g_iret B E (by first | exact bI_nar _ | decide | exact bI_narv (by assumption)) dX3_hasSet_19 ⟨by simp [bI, cOK, *], rfl⟩
    · rw [hn, shl1 hn8] at h11
      refine g_iconst B (v := 1) dX3_hasSet_14 (by decide) ?_
      refine g_goto B 19 dX3_hasSet_15 (by decide) ?_
      exact g_iret B E (by first | exact bI_nar _ | decide | exact bI_narv (by assumption)) dX3_hasSet_19 ⟨by simp [bI, cOK, *], rfl⟩
set_option maxHeartbeats 4000000 in
set_option maxRecDepth 100000 in
theorem ct_X3_isSaid {I : Wo} {b : Nat} (hS : Su b) (c : Int32) : Ct yX3_isSaid cX3_isSaid 2 (some .boolean) 0 0 [.ref b, .int c] I (pI (fun r u => r = bI (decide ((I b 12 >>> (c &&& 31)) &&& 1 = 1)) ∧ I = u)) := by
  obtain ⟨s0, -⟩ := id hS
  refine ct_of RX3 rfl (by decide) (Nat.le_of_ble_eq_true rfl) (fun X B E => ?_)
  show GW X 2 0 [some (.ref b), some (.int c)] [] _
  refine g_aload_n B dX3_isSaid_0 rfl ?_
  refine g_geti B ci_X3 (by first | rfl | assumption) rfl (by decide) fl_X3_46 dX3_isSaid_1 ?_
  refine g_iload_n B dX3_isSaid_4 rfl ?_
  refine g_ishr B dX3_isSaid_5 ?_
  refine g_iconst B (v := 1) dX3_isSaid_6 (by decide) ?_
  refine g_iand B dX3_isSaid_7 ?_
  refine g_iconst B (v := 1) dX3_isSaid_8 (by decide) ?_
  refine g_icmp_ne B 16 dX3_isSaid_9 (by decide) (fun h9 => ?_) (fun h9 => ?_)
  · refine g_iconst B (v := 0) dX3_isSaid_16 (by decide) ?_
    exact g_iret B E (by first | exact bI_nar _ | decide | exact bI_narv (by assumption)) dX3_isSaid_17 ⟨by simp [bI, *], rfl⟩
  · refine g_iconst B (v := 1) dX3_isSaid_12 (by decide) ?_
    refine g_goto B 17 dX3_isSaid_13 (by decide) ?_
    exact g_iret B E (by first | exact bI_nar _ | decide | exact bI_narv (by assumption)) dX3_isSaid_17 ⟨by simp [bI, *], rfl⟩
set_option maxHeartbeats 4000000 in
set_option maxRecDepth 100000 in
theorem ct_X3_inTime {I : Wo} {b : Nat} (hS : Su b) {c : Nat} (hc : c < 8) (d : Int32) : Ct yX3_inTime cX3_inTime 3 (some .boolean) 0 0 [.ref b, .int (nI c), .int d] I (pI (fun r u => r = bI (inT (I (b + 2) c) (I (b + 3) c) d) ∧ I = u)) := by
  obtain ⟨s0, s1, s2, s3, -⟩ := id hS
  refine ct_of RX3 rfl (by decide) (Nat.le_of_ble_eq_true rfl) (fun X B E => ?_)
  show GW X 3 0 [some (.ref b), some (.int (nI c)), some (.int d)] [] _
  refine g_iload_n B dX3_inTime_0 rfl ?_
  refine g_aload_n B dX3_inTime_1 rfl ?_
  refine g_getr B ci_X3 (by first | rfl | assumption) rfl (by decide) fl_X3_15 dX3_inTime_2 ?_
  refine g_iload_n B dX3_inTime_5 rfl ?_
  refine g_iald B (by first | rfl | assumption) _ (by first | with_reducible rfl | exact lit_add _ _ | exact add_lit _ _ | exact nI_add _ _ | exact lit_nI _ | assumption | rfl) (by first | decide | omega | assumption) (by decide) dX3_inTime_6 ?_
  refine g_icmp_lt B 24 dX3_inTime_7 (by decide) (fun h7 => ?_) (fun h7 => ?_)
  · refine g_iconst B (v := 0) dX3_inTime_24 (by decide) ?_
    exact g_iret B E (by first | exact bI_nar _ | decide | exact bI_narv (by assumption)) dX3_inTime_25 ⟨by simp [bI, inT, *], rfl⟩
  · refine g_iload_n B dX3_inTime_10 rfl ?_
    refine g_aload_n B dX3_inTime_11 rfl ?_
    refine g_getr B ci_X3 (by first | rfl | assumption) rfl (by decide) fl_X3_18 dX3_inTime_12 ?_
    refine g_iload_n B dX3_inTime_15 rfl ?_
    refine g_iald B (by first | rfl | assumption) _ (by first | with_reducible rfl | exact lit_add _ _ | exact add_lit _ _ | exact nI_add _ _ | exact lit_nI _ | assumption | rfl) (by first | decide | omega | assumption) (by decide) dX3_inTime_16 ?_
    refine g_icmp_gt B 24 dX3_inTime_17 (by decide) (fun h17 => ?_) (fun h17 => ?_)
    · refine g_iconst B (v := 0) dX3_inTime_24 (by decide) ?_
      exact g_iret B E (by first | exact bI_nar _ | decide | exact bI_narv (by assumption)) dX3_inTime_25 ⟨by simp [bI, inT, *], rfl⟩
    · refine g_iconst B (v := 1) dX3_inTime_20 (by decide) ?_
      refine g_goto B 25 dX3_inTime_21 (by decide) ?_
      exact g_iret B E (by first | exact bI_nar _ | decide | exact bI_narv (by assumption)) dX3_inTime_25 ⟨by simp [bI, inT, *], rfl⟩
set_option maxHeartbeats 4000000 in
set_option maxRecDepth 100000 in
theorem ct_X3_endStands {I : Wo} {b n : Nat} (hS : Su b) (hn : I b 9 = nI n) (hn8 : n ≤ 8) (set : Int32) : Ct yX3_endStands cX3_endStands 2 (some .boolean) 1 24 [.ref b, .int set] I (pI (fun r u => r = bI (esF n (I (b + 5)) (I (b + 6)) (I b 10) set) ∧ I = u)) := by
  obtain ⟨s0, -⟩ := id hS
  refine ct_of RX3 rfl (by decide) (Nat.le_of_ble_eq_true rfl) (fun X B E => ?_)
  show GW X 2 0 [some (.ref b), some (.int set)] [] _
  refine g_aload_n B dX3_endStands_0 rfl ?_
  refine g_aload_n B dX3_endStands_1 rfl ?_
  refine g_geti B ci_X3 (by first | rfl | assumption) rfl (by decide) fl_X3_36 dX3_endStands_2 ?_
  refine g_callVI B (ct_X3_hasClaim hS hn _) (by first | rfl | assumption) rfl ml_X3_64 mm_X3_hasClaim rfl rfl (Nat.le_of_ble_eq_true rfl) dX3_endStands_5 (by decide) ?_
  rintro _ _ ⟨rfl, rfl⟩
  refine g_if_eq B 31 dX3_endStands_8 (by decide) (fun h8 => ?_) (fun h8 => ?_)
  · rw [bI_eq0] at h8
    refine g_iconst B (v := 0) dX3_endStands_31 (by decide) ?_
    exact g_iret B E (by first | exact bI_nar _ | decide | exact bI_narv (by assumption)) dX3_endStands_32 ⟨by simp [bI, esF, *], rfl⟩
  · rw [bI_ne0] at h8
    refine g_aload_n B dX3_endStands_11 rfl ?_
    refine g_iload_n B dX3_endStands_12 rfl ?_
    refine g_callVI B (ct_X3_standing hS hn hn8 _) (by first | rfl | assumption) rfl ml_X3_68 mm_X3_standing rfl rfl (Nat.le_of_ble_eq_true rfl) dX3_endStands_13 (by decide) ?_
    rintro _ _ ⟨rfl, rfl⟩
    refine g_aload_n B dX3_endStands_16 rfl ?_
    refine g_geti B ci_X3 (by first | rfl | assumption) rfl (by decide) fl_X3_36 dX3_endStands_17 ?_
    refine g_ishr B dX3_endStands_20 ?_
    refine g_iconst B (v := 1) dX3_endStands_21 (by decide) ?_
    refine g_iand B dX3_endStands_22 ?_
    refine g_iconst B (v := 1) dX3_endStands_23 (by decide) ?_
    refine g_icmp_ne B 31 dX3_endStands_24 (by decide) (fun h24 => ?_) (fun h24 => ?_)
    · refine g_iconst B (v := 0) dX3_endStands_31 (by decide) ?_
      exact g_iret B E (by first | exact bI_nar _ | decide | exact bI_narv (by assumption)) dX3_endStands_32 ⟨by simp [bI, esF, *], rfl⟩
    · refine g_iconst B (v := 1) dX3_endStands_27 (by decide) ?_
      refine g_goto B 32 dX3_endStands_28 (by decide) ?_
      exact g_iret B E (by first | exact bI_nar _ | decide | exact bI_narv (by assumption)) dX3_endStands_32 ⟨by simp [bI, esF, *], rfl⟩
set_option maxHeartbeats 4000000 in
set_option maxRecDepth 100000 in
theorem ct_X3_addToPlan {I : Wo} {b q : Nat} (hS : Su b) (hq : I b 13 = nI q) (hq6 : q ≤ 6) (c : Int32) : Ct yX3_addToPlan cX3_addToPlan 2 (some .boolean) 0 0 [.ref b, .int c] I (pI (fun r u => (q < 6 ∧ r = 1 ∧ u = w2 (w2 I (b + 7) q c) b 13 (nI (q + 1))) ∨ (q = 6 ∧ r = 0 ∧ I = u))) := by
  obtain ⟨s0, s1, s2, s3, s4, s5, s6, s7, s8⟩ := id hS
  refine ct_of RX3 rfl (by decide) (Nat.le_of_ble_eq_true rfl) (fun X B E => ?_)
  show GW X 2 0 [some (.ref b), some (.int c)] [] _
  refine g_aload_n B dX3_addToPlan_0 rfl ?_
  refine g_geti B ci_X3 (by first | rfl | assumption) rfl (by decide) fl_X3_49 dX3_addToPlan_1 ?_
  refine g_bipush B (v := 6) dX3_addToPlan_4 (by decide) ?_
  refine g_icmp_lt B 11 dX3_addToPlan_6 (by decide) (fun h6 => ?_) (fun h6 => ?_)
  · have hlt : q < 6 := lt_lt (a := q) (b := 6) (by omega) (by decide) (by rw [← hq]; exact h6)
    refine g_aload_n B dX3_addToPlan_11 rfl ?_
    refine g_getr B ci_X3 (by first | rfl | assumption) rfl (by decide) fl_X3_30 dX3_addToPlan_12 ?_
    refine g_aload_n B dX3_addToPlan_15 rfl ?_
    refine g_geti B ci_X3 (by first | rfl | assumption) rfl (by decide) fl_X3_49 dX3_addToPlan_16 ?_
    refine g_iload_n B dX3_addToPlan_19 rfl ?_
    refine g_iast B (by first | rfl | assumption) q hq (by first | decide | omega | assumption) (by decide) dX3_addToPlan_20 ?_
    refine g_aload_n B dX3_addToPlan_21 rfl ?_
    refine g_dup B dX3_addToPlan_22 rfl ?_
    refine g_geti B ci_X3 (by first | rfl | assumption) rfl (by decide) fl_X3_49 dX3_addToPlan_23 ?_
    refine g_iconst B (v := 1) dX3_addToPlan_26 (by decide) ?_
    refine g_iadd B dX3_addToPlan_27 ?_
    refine g_eqi (nI (q + 1)) (by rw [w2_cell _ _ (by omega), hq]; exact nI_1 q) ?_
    refine g_put B ci_X3 (by first | rfl | assumption) rfl (by decide) fl_X3_49 rfl rfl rfl dX3_addToPlan_28 ?_
    refine g_iconst B (v := 1) dX3_addToPlan_31 (by decide) ?_
    exact g_iret B E (by first | exact bI_nar _ | decide | exact bI_narv (by assumption)) dX3_addToPlan_32 (Or.inl ⟨hlt, rfl, rfl⟩)
  · have hge : q = 6 := by have := nlt_le (a := q) (b := 6) (by omega) (by decide) (by rw [← hq]; exact h6); omega
    refine g_iconst B (v := 0) dX3_addToPlan_9 (by decide) ?_
    exact g_iret B E (by first | exact bI_nar _ | decide | exact bI_narv (by assumption)) dX3_addToPlan_10 (Or.inr ⟨hge, rfl, rfl⟩)
set_option maxHeartbeats 4000000 in
set_option maxRecDepth 100000 in
theorem ct_X7_in {I : Wo} (v low high : Int64) : Ct yX7_in cX7_in 6 (some .boolean) 0 0 [.long v, .long low, .long high] I (pI (fun r u => r = bI (wiL v low high) ∧ I = u)) := by
  refine ct_of RX7 rfl (by decide) (Nat.le_of_ble_eq_true rfl) (fun X B E => ?_)
  show GW X 6 0 [some (.long v), none, some (.long low), none, some (.long high), none] [] _
  refine g_lload_n B dX7_in_0 rfl ?_
  refine g_lload_n B dX7_in_1 rfl ?_
  refine g_lcmp B dX7_in_2 ?_
  refine g_if_lt B 17 dX7_in_3 (by decide) (fun h3 => ?_) (fun h3 => ?_)
  · rw [cmp_lt] at h3
    refine g_iconst B (v := 0) dX7_in_17 (by decide) ?_
    exact g_iret B E (by first | exact bI_nar _ | decide | exact bI_narv (by assumption)) dX7_in_18 ⟨by simp [bI, wiL, *], rfl⟩
  · rw [cmp_lt] at h3
    refine g_lload_n B dX7_in_6 rfl ?_
    refine g_lload B dX7_in_7 rfl ?_
    refine g_lcmp B dX7_in_9 ?_
    refine g_if_gt B 17 dX7_in_10 (by decide) (fun h10 => ?_) (fun h10 => ?_)
    · rw [cmp_gt] at h10
      refine g_iconst B (v := 0) dX7_in_17 (by decide) ?_
      exact g_iret B E (by first | exact bI_nar _ | decide | exact bI_narv (by assumption)) dX7_in_18 ⟨by simp [bI, wiL, *], rfl⟩
    · rw [cmp_gt] at h10
      refine g_iconst B (v := 1) dX7_in_13 (by decide) ?_
      refine g_goto B 18 dX7_in_14 (by decide) ?_
      exact g_iret B E (by first | exact bI_nar _ | decide | exact bI_narv (by assumption)) dX7_in_18 ⟨by simp [bI, wiL, *], rfl⟩
theorem ct_in {I : Wo} {a b c : Int64} (v lo hi : Int32) (ha : a = v.toInt64) (hb : b = lo.toInt64) (hc : c = hi.toInt64) : Ct yX7_in cX7_in 6 (some .boolean) 0 0 [.long a, .long b, .long c] I (pI (fun r u => r = bI (wi v lo hi) ∧ I = u)) := by
  subst ha; subst hb; subst hc
  rw [← wiL_wide]
  exact ct_X7_in _ _ _
theorem zero_shl (x : Int32) : (0 : Int32) <<< x = 0 := by
  apply Int32.toBitVec_inj.mp
  simp
set_option maxHeartbeats 4000000 in
set_option maxRecDepth 100000 in
theorem ct_X7_isPart {I : Wo} (v : Int32) : Ct yX7_isPart cX7_isPart 1 (some .boolean) 1 25 [.int v] I (pI (fun r u => r = bI (wi v 0 1) ∧ I = u)) := by
  refine ct_of RX7 rfl (by decide) (Nat.le_of_ble_eq_true rfl) (fun X B E => ?_)
  show GW X 1 0 [some (.int v)] [] _
  refine g_iload_n B dX7_isPart_0 rfl ?_
  refine g_i2l B dX7_isPart_1 ?_
  refine g_lconst B (v := 0) dX7_isPart_2 (by decide) ?_
  refine g_lconst B (v := 1) dX7_isPart_3 (by decide) ?_
  refine g_callSI B (ct_in _ 0 1 rfl (by decide) (by decide)) ml_X7_77 mm_X7_in rfl rfl (Nat.le_of_ble_eq_true rfl) dX7_isPart_4 (by decide) ?_
  rintro _ _ ⟨rfl, rfl⟩
  exact g_iret B E (by first | exact bI_nar _ | decide | exact bI_narv (by assumption)) dX7_isPart_7 ⟨rfl, rfl⟩
set_option maxHeartbeats 4000000 in
set_option maxRecDepth 100000 in
theorem ct_X7_every {I : Wo} {n : Nat} (hn : I 57 2 = nI n) (hn8 : n ≤ 8) : Ct yX7_every cX7_every 1 (some .int) 0 0 [.ref 57] I (pI (fun r u => r = nI (2 ^ n) - 1 ∧ I = u)) := by
  refine ct_of RX7 rfl (by decide) (Nat.le_of_ble_eq_true rfl) (fun X B E => ?_)
  show GW X 1 0 [some (.ref 57)] [] _
  refine g_iconst B (v := 1) dX7_every_0 (by decide) ?_
  refine g_aload_n B dX7_every_1 rfl ?_
  refine g_geti B ci_X7 (by first | rfl | assumption) rfl (by decide) fl_X7_72 dX7_every_2 ?_
  refine g_ishl B dX7_every_5 ?_
  refine g_iconst B (v := 1) dX7_every_6 (by decide) ?_
  refine g_isub B dX7_every_7 ?_
  exact g_iret B E rfl dX7_every_8 ⟨by rw [hn, shl1 hn8], rfl⟩
set_option maxHeartbeats 4000000 in
set_option maxRecDepth 100000 in
theorem ct_X7_isClaim {I : Wo} {n : Nat} (hn : I 57 2 = nI n) (hn8 : n ≤ 8) (c : Int32) : Ct yX7_isClaim cX7_isClaim 2 (some .boolean) 1 25 [.ref 57, .int c] I (pI (fun r u => r = bI (cOK n c) ∧ I = u)) := by
  refine ct_of RX7 rfl (by decide) (Nat.le_of_ble_eq_true rfl) (fun X B E => ?_)
  show GW X 2 0 [some (.ref 57), some (.int c)] [] _
  refine g_iload_n B dX7_isClaim_0 rfl ?_
  refine g_i2l B dX7_isClaim_1 ?_
  refine g_lconst B (v := 0) dX7_isClaim_2 (by decide) ?_
  refine g_aload_n B dX7_isClaim_3 rfl ?_
  refine g_geti B ci_X7 (by first | rfl | assumption) rfl (by decide) fl_X7_72 dX7_isClaim_4 ?_
  refine g_iconst B (v := 1) dX7_isClaim_7 (by decide) ?_
  refine g_isub B dX7_isClaim_8 ?_
  refine g_i2l B dX7_isClaim_9 ?_
  refine g_callSI B (ct_in _ 0 (I 57 2 - 1) rfl (by decide) rfl) ml_X7_77 mm_X7_in rfl rfl (Nat.le_of_ble_eq_true rfl) dX7_isClaim_10 (by decide) ?_
  rintro _ _ ⟨rfl, rfl⟩
  exact g_iret B E (by first | exact bI_nar _ | decide | exact bI_narv (by assumption)) dX7_isClaim_13 ⟨by rw [hn, cOK_pred hn8], rfl⟩
set_option maxHeartbeats 4000000 in
set_option maxRecDepth 100000 in
theorem ct_X7_inTime {I : Wo} {c : Nat} (hc : c < 8) (d : Int32) : Ct yX7_inTime cX7_inTime 3 (some .boolean) 1 25 [.ref 57, .int (nI c), .int d] I (pI (fun r u => r = bI (inT (I 61 c) (I 62 c) d) ∧ I = u)) := by
  refine ct_of RX7 rfl (by decide) (Nat.le_of_ble_eq_true rfl) (fun X B E => ?_)
  show GW X 3 0 [some (.ref 57), some (.int (nI c)), some (.int d)] [] _
  refine g_iload_n B dX7_inTime_0 rfl ?_
  refine g_i2l B dX7_inTime_1 ?_
  refine g_aload_n B dX7_inTime_2 rfl ?_
  refine g_getr B ci_X7 (by first | rfl | assumption) rfl (by decide) fl_X7_20 dX7_inTime_3 ?_
  refine g_iload_n B dX7_inTime_6 rfl ?_
  refine g_iald B (by first | rfl | assumption) _ (by first | with_reducible rfl | exact lit_add _ _ | exact add_lit _ _ | exact nI_add _ _ | exact lit_nI _ | assumption | rfl) (by first | decide | omega | assumption) (by decide) dX7_inTime_7 ?_
  refine g_i2l B dX7_inTime_8 ?_
  refine g_aload_n B dX7_inTime_9 rfl ?_
  refine g_getr B ci_X7 (by first | rfl | assumption) rfl (by decide) fl_X7_23 dX7_inTime_10 ?_
  refine g_iload_n B dX7_inTime_13 rfl ?_
  refine g_iald B (by first | rfl | assumption) _ (by first | with_reducible rfl | exact lit_add _ _ | exact add_lit _ _ | exact nI_add _ _ | exact lit_nI _ | assumption | rfl) (by first | decide | omega | assumption) (by decide) dX7_inTime_14 ?_
  refine g_i2l B dX7_inTime_15 ?_
  refine g_callSI B (ct_in d (I 61 c) (I 62 c) rfl rfl rfl) ml_X7_77 mm_X7_in rfl rfl (Nat.le_of_ble_eq_true rfl) dX7_inTime_16 (by decide) ?_
  rintro _ _ ⟨rfl, rfl⟩
  exact g_iret B E (by first | exact bI_nar _ | decide | exact bI_narv (by assumption)) dX7_inTime_19 ⟨rfl, rfl⟩
set_option maxHeartbeats 4000000 in
set_option maxRecDepth 100000 in
theorem ct_X7_standing {I : Wo} {n : Nat} (hn : I 57 2 = nI n) (hn8 : n ≤ 8) (set : Int32) : Ct yX7_standing cX7_standing 5 (some .int) 1 20 [.ref 57, .int set] I (pI (fun r u => r = stF (I 58) (fun c => I 58 (8 + c)) set n ∧ I = u)) := by
  refine ct_of RX7 rfl (by decide) (Nat.le_of_ble_eq_true rfl) (fun X B E => ?_)
  show GW X 5 0 [some (.ref 57), some (.int set), none, none, none] [] _
  refine g_iconst B (v := 0) dX7_standing_0 (by decide) ?_
  refine g_istn2 B dX7_standing_1 (by decide) rfl ?_
  refine g_iconst B (v := 0) dX7_standing_2 (by decide) ?_
  refine g_istn3 B dX7_standing_3 (by decide) rfl ?_
  have L : ∀ i, i ≤ n → ∀ x q, x = stF (I 58) (fun c => I 58 (8 + c)) set i → GW X 5 4 [some (.ref 57), some (.int set), some (.int x), some (.int (nI i)), q] [] I := by
    refine loopN n (fun i hi ih x q hx => ?_)
    refine g_iload_n B dX7_standing_4 rfl ?_
    refine g_aload_n B dX7_standing_5 rfl ?_
    refine g_geti B ci_X7 (by first | rfl | assumption) rfl (by decide) fl_X7_72 dX7_standing_6 ?_
    refine g_icmp_ge B 73 dX7_standing_9 (by decide) (fun h9 => ?_) (fun h9 => ?_)
    · have hi2 : i = n := by have := le_le (a := n) (b := i) (by omega) (by omega) (by rw [← hn]; exact h9); omega
      refine g_iload_n B dX7_standing_73 rfl ?_
      exact g_iret B E rfl dX7_standing_74 ⟨by rw [hx, hi2], rfl⟩
    · have hlt : i < n := nle_lt (by omega) (by omega) (by rw [← hn]; exact h9)
      refine g_iload_n B dX7_standing_12 rfl ?_
      refine g_iload_n B dX7_standing_13 rfl ?_
      refine g_ishr B dX7_standing_14 ?_
      refine g_iconst B (v := 1) dX7_standing_15 (by decide) ?_
      refine g_iand B dX7_standing_16 ?_
      refine g_iconst B (v := 1) dX7_standing_17 (by decide) ?_
      refine g_icmp_ne B 54 dX7_standing_18 (by decide) (fun h18 => ?_) (fun h18 => ?_)
      · refine g_iconst B (v := 0) dX7_standing_54 (by decide) ?_
        refine g_eqi (bI false) rfl ?_
        refine g_ist4 B dX7_standing_55 (by decide) rfl ?_
        refine g_iload_n B dX7_standing_57 rfl ?_
        refine g_iload B dX7_standing_58 rfl ?_
        refine g_callSI B (ct_X7_flag _) ml_X7_164 mm_X7_flag rfl rfl (Nat.le_of_ble_eq_true rfl) dX7_standing_60 (by decide) ?_
        rintro _ _ ⟨rfl, rfl⟩
        refine g_iload_n B dX7_standing_63 rfl ?_
        refine g_ishl B dX7_standing_64 ?_
        refine g_ior B dX7_standing_65 ?_
        refine g_istn2 B dX7_standing_66 (by decide) rfl ?_
        refine g_inc3 B dX7_standing_67 rfl (inc1 _) (by decide) rfl ?_
        refine g_goto B 4 dX7_standing_70 (by decide) ?_
        exact ih hlt _ _ (by subst hx; simp only [stF, *, and_true, true_and, and_false, false_and, and_self, ↓reduceIte, zero_shl, Int32.or_zero, bI_t, bI_f])
      · refine g_aload_n B dX7_standing_21 rfl ?_
        refine g_getr B ci_X7 (by first | rfl | assumption) rfl (by decide) fl_X7_7 dX7_standing_22 ?_
        refine g_iconst B (v := 0) dX7_standing_25 (by decide) ?_
        refine g_iload_n B dX7_standing_26 rfl ?_
        refine g_iadd B dX7_standing_27 ?_
        refine g_iald B (by first | rfl | assumption) _ (la_0 _) (by first | decide | omega | assumption) (by decide) dX7_standing_28 ?_
        refine g_iload_n B dX7_standing_29 rfl ?_
        refine g_iconst B (v := (-1)) dX7_standing_30 (by decide) ?_
        refine g_ixor B dX7_standing_31 ?_
        refine g_iand B dX7_standing_32 ?_
        refine g_if_ne B 54 dX7_standing_33 (by decide) (fun h33 => ?_) (fun h33 => ?_)
        · refine g_iconst B (v := 0) dX7_standing_54 (by decide) ?_
          refine g_eqi (bI false) rfl ?_
          refine g_ist4 B dX7_standing_55 (by decide) rfl ?_
          refine g_iload_n B dX7_standing_57 rfl ?_
          refine g_iload B dX7_standing_58 rfl ?_
          refine g_callSI B (ct_X7_flag _) ml_X7_164 mm_X7_flag rfl rfl (Nat.le_of_ble_eq_true rfl) dX7_standing_60 (by decide) ?_
          rintro _ _ ⟨rfl, rfl⟩
          refine g_iload_n B dX7_standing_63 rfl ?_
          refine g_ishl B dX7_standing_64 ?_
          refine g_ior B dX7_standing_65 ?_
          refine g_istn2 B dX7_standing_66 (by decide) rfl ?_
          refine g_inc3 B dX7_standing_67 rfl (inc1 _) (by decide) rfl ?_
          refine g_goto B 4 dX7_standing_70 (by decide) ?_
          exact ih hlt _ _ (by subst hx; simp only [stF, *, and_true, true_and, and_false, false_and, and_self, ↓reduceIte, zero_shl, Int32.or_zero, bI_t, bI_f])
        · refine g_aload_n B dX7_standing_36 rfl ?_
          refine g_getr B ci_X7 (by first | rfl | assumption) rfl (by decide) fl_X7_7 dX7_standing_37 ?_
          refine g_bipush B (v := 8) dX7_standing_40 (by decide) ?_
          refine g_iload_n B dX7_standing_42 rfl ?_
          refine g_iadd B dX7_standing_43 ?_
          refine g_iald B (by first | rfl | assumption) _ (la_8 _) (by first | decide | omega | assumption) (by decide) dX7_standing_44 ?_
          refine g_iload_n B dX7_standing_45 rfl ?_
          refine g_iand B dX7_standing_46 ?_
          refine g_if_ne B 54 dX7_standing_47 (by decide) (fun h47 => ?_) (fun h47 => ?_)
          · refine g_iconst B (v := 0) dX7_standing_54 (by decide) ?_
            refine g_eqi (bI false) rfl ?_
            refine g_ist4 B dX7_standing_55 (by decide) rfl ?_
            refine g_iload_n B dX7_standing_57 rfl ?_
            refine g_iload B dX7_standing_58 rfl ?_
            refine g_callSI B (ct_X7_flag _) ml_X7_164 mm_X7_flag rfl rfl (Nat.le_of_ble_eq_true rfl) dX7_standing_60 (by decide) ?_
            rintro _ _ ⟨rfl, rfl⟩
            refine g_iload_n B dX7_standing_63 rfl ?_
            refine g_ishl B dX7_standing_64 ?_
            refine g_ior B dX7_standing_65 ?_
            refine g_istn2 B dX7_standing_66 (by decide) rfl ?_
            refine g_inc3 B dX7_standing_67 rfl (inc1 _) (by decide) rfl ?_
            refine g_goto B 4 dX7_standing_70 (by decide) ?_
            exact ih hlt _ _ (by subst hx; simp only [stF, *, and_true, true_and, and_false, false_and, and_self, ↓reduceIte, zero_shl, Int32.or_zero, bI_t, bI_f])
          · refine g_iconst B (v := 1) dX7_standing_50 (by decide) ?_
            refine g_goto B 55 dX7_standing_51 (by decide) ?_
            refine g_eqi (bI true) rfl ?_
            refine g_ist4 B dX7_standing_55 (by decide) rfl ?_
            refine g_iload_n B dX7_standing_57 rfl ?_
            refine g_iload B dX7_standing_58 rfl ?_
            refine g_callSI B (ct_X7_flag _) ml_X7_164 mm_X7_flag rfl rfl (Nat.le_of_ble_eq_true rfl) dX7_standing_60 (by decide) ?_
            rintro _ _ ⟨rfl, rfl⟩
            refine g_iload_n B dX7_standing_63 rfl ?_
            refine g_ishl B dX7_standing_64 ?_
            refine g_ior B dX7_standing_65 ?_
            refine g_istn2 B dX7_standing_66 (by decide) rfl ?_
            refine g_inc3 B dX7_standing_67 rfl (inc1 _) (by decide) rfl ?_
            refine g_goto B 4 dX7_standing_70 (by decide) ?_
            exact ih hlt _ _ (by subst hx; simp only [stF, *, and_true, true_and, and_false, false_and, and_self, ↓reduceIte, zero_shl, Int32.or_zero, bI_t, bI_f])
  exact L 0 (Nat.zero_le n) _ _ rfl
set_option maxHeartbeats 4000000 in
set_option maxRecDepth 100000 in
theorem ct_X7_endStands {I : Wo} {n : Nat} (hn : I 57 2 = nI n) (hn8 : n ≤ 8) (he : cOK n (I 58 25) = decide (0 < n)) (set : Int32) : Ct yX7_endStands cX7_endStands 2 (some .boolean) 2 44 [.ref 57, .int set] I (pI (fun r u => r = bI (esF n (I 58) (fun c => I 58 (8 + c)) (I 58 25) set) ∧ I = u)) := by
  refine ct_of RX7 rfl (by decide) (Nat.le_of_ble_eq_true rfl) (fun X B E => ?_)
  show GW X 2 0 [some (.ref 57), some (.int set)] [] _
  refine g_aload_n B dX7_endStands_0 rfl ?_
  refine g_geti B ci_X7 (by first | rfl | assumption) rfl (by decide) fl_X7_72 dX7_endStands_1 ?_
  refine g_if_le B 30 dX7_endStands_4 (by decide) (fun h4 => ?_) (fun h4 => ?_)
  · have hz : n = 0 := by have := le_le (a := n) (b := 0) (by omega) (by decide) (by rw [← hn]; exact h4); omega
    refine g_iconst B (v := 0) dX7_endStands_30 (by decide) ?_
    exact g_iret B E (by first | exact bI_nar _ | decide | exact bI_narv (by assumption)) dX7_endStands_31 ⟨by simp_all [bI, esF], rfl⟩
  · have hz : 0 < n := nle_lt (a := n) (b := 0) (by omega) (by decide) (by rw [← hn]; exact h4)
    refine g_aload_n B dX7_endStands_7 rfl ?_
    refine g_iload_n B dX7_endStands_8 rfl ?_
    refine g_callVI B (ct_X7_standing hn hn8 _) (by first | rfl | assumption) rfl ml_X7_168 mm_X7_standing rfl rfl (Nat.le_of_ble_eq_true rfl) dX7_endStands_9 (by decide) ?_
    rintro _ _ ⟨rfl, rfl⟩
    refine g_aload_n B dX7_endStands_12 rfl ?_
    refine g_getr B ci_X7 (by first | rfl | assumption) rfl (by decide) fl_X7_7 dX7_endStands_13 ?_
    refine g_bipush B (v := 25) dX7_endStands_16 (by decide) ?_
    refine g_iald B (by first | rfl | assumption) 25 (lit_nI 25) (by first | decide | omega | assumption) (by decide) dX7_endStands_18 ?_
    refine g_ishr B dX7_endStands_19 ?_
    refine g_iconst B (v := 1) dX7_endStands_20 (by decide) ?_
    refine g_iand B dX7_endStands_21 ?_
    refine g_iconst B (v := 1) dX7_endStands_22 (by decide) ?_
    refine g_icmp_ne B 30 dX7_endStands_23 (by decide) (fun h23 => ?_) (fun h23 => ?_)
    · refine g_iconst B (v := 0) dX7_endStands_30 (by decide) ?_
      exact g_iret B E (by first | exact bI_nar _ | decide | exact bI_narv (by assumption)) dX7_endStands_31 ⟨by simp_all [bI, esF], rfl⟩
    · refine g_iconst B (v := 1) dX7_endStands_26 (by decide) ?_
      refine g_goto B 31 dX7_endStands_27 (by decide) ?_
      exact g_iret B E (by first | exact bI_nar _ | decide | exact bI_narv (by assumption)) dX7_endStands_31 ⟨by simp_all [bI, esF], rfl⟩
set_option maxHeartbeats 4000000 in
set_option maxRecDepth 100000 in
theorem ct_X7_bitsOf {I : Wo} (x : Int32) : Ct yX7_bitsOf cX7_bitsOf 3 (some .int) 0 0 [.int x] I (pI (fun r u => r = bc8 x ∧ I = u)) := by
  refine ct_of RX7 rfl (by decide) (Nat.le_of_ble_eq_true rfl) (fun X B E => ?_)
  show GW X 3 0 [some (.int x), none, none] [] _
  refine g_iconst B (v := 0) dX7_bitsOf_0 (by decide) ?_
  refine g_istn1 B dX7_bitsOf_1 (by decide) rfl ?_
  refine g_iconst B (v := 0) dX7_bitsOf_2 (by decide) ?_
  refine g_istn2 B dX7_bitsOf_3 (by decide) rfl ?_
  have L : ∀ i, i ≤ 8 → ∀ z, z = bcF x i → GW X 3 4 [some (.int x), some (.int z), some (.int (nI i))] [] I := by
    refine loopN 8 (fun i hi ih z hx => ?_)
    refine g_iload_n B dX7_bitsOf_4 rfl ?_
    refine g_bipush B (v := 8) dX7_bitsOf_5 (by decide) ?_
    refine g_icmp_ge B 24 dX7_bitsOf_7 (by decide) (fun h7 => ?_) (fun h7 => ?_)
    · have hi2 : i = 8 := by have := le_le (a := 8) (b := i) (by decide) (by omega) h7; omega
      refine g_iload_n B dX7_bitsOf_24 rfl ?_
      exact g_iret B E rfl dX7_bitsOf_25 ⟨by rw [hx, hi2]; rfl, rfl⟩
    · have hlt : i < 8 := nle_lt (a := 8) (by decide) (by omega) h7
      refine g_iload_n B dX7_bitsOf_10 rfl ?_
      refine g_iload_n B dX7_bitsOf_11 rfl ?_
      refine g_iload_n B dX7_bitsOf_12 rfl ?_
      refine g_ishr B dX7_bitsOf_13 ?_
      refine g_iconst B (v := 1) dX7_bitsOf_14 (by decide) ?_
      refine g_iand B dX7_bitsOf_15 ?_
      refine g_iadd B dX7_bitsOf_16 ?_
      refine g_istn1 B dX7_bitsOf_17 (by decide) rfl ?_
      refine g_inc2 B dX7_bitsOf_18 rfl (inc1 _) (by decide) rfl ?_
      refine g_goto B 4 dX7_bitsOf_21 (by decide) ?_
      exact ih hlt _ (by rw [hx]; rfl)
  exact L 0 (Nat.zero_le 8) _ rfl
set_option maxHeartbeats 4000000 in
set_option maxRecDepth 100000 in
theorem ct_X7_becomes {I : Wo} {k : Nat} (hk : k < 141) (v : Int32) : Ct yX7_becomes cX7_becomes 4 (some .int) 0 0 [.ref 57, .int (nI k), .int v] I (pI (fun r u => r = I 58 k ∧ u = w2 I 58 k v)) := by
  refine ct_of RX7 rfl (by decide) (Nat.le_of_ble_eq_true rfl) (fun X B E => ?_)
  show GW X 4 0 [some (.ref 57), some (.int (nI k)), some (.int v), none] [] _
  refine g_aload_n B dX7_becomes_0 rfl ?_
  refine g_getr B ci_X7 (by first | rfl | assumption) rfl (by decide) fl_X7_7 dX7_becomes_1 ?_
  refine g_iload_n B dX7_becomes_4 rfl ?_
  refine g_iald B (by first | rfl | assumption) _ (by first | with_reducible rfl | exact lit_add _ _ | exact add_lit _ _ | exact nI_add _ _ | exact lit_nI _ | assumption | rfl) (by first | decide | omega | assumption) (by decide) dX7_becomes_5 ?_
  refine g_istn3 B dX7_becomes_6 (by decide) rfl ?_
  refine g_aload_n B dX7_becomes_7 rfl ?_
  refine g_getr B ci_X7 (by first | rfl | assumption) rfl (by decide) fl_X7_7 dX7_becomes_8 ?_
  refine g_iload_n B dX7_becomes_11 rfl ?_
  refine g_iload_n B dX7_becomes_12 rfl ?_
  refine g_iast B (by first | rfl | assumption) _ (by first | with_reducible rfl | exact lit_add _ _ | exact add_lit _ _ | exact nI_add _ _ | exact lit_nI _ | assumption | rfl) (by first | decide | omega | assumption) (by decide) dX7_becomes_13 ?_
  refine g_iload_n B dX7_becomes_14 rfl ?_
  exact g_iret B E rfl dX7_becomes_15 ⟨rfl, rfl⟩
end
section
def bcJ1 (x : Int32) : Int32 := x - ((x.toUInt32 >>> ((1 : Int32).toUInt32 &&& Int32.toUInt32 31)).toInt32 &&& 1431655765)
def bcJ2 (x : Int32) : Int32 := (x &&& 858993459) + ((x.toUInt32 >>> ((2 : Int32).toUInt32 &&& Int32.toUInt32 31)).toInt32 &&& 858993459)
def bcJ3 (x : Int32) : Int32 := (x + (x.toUInt32 >>> ((4 : Int32).toUInt32 &&& Int32.toUInt32 31)).toInt32) &&& 252645135
def bcJ4 (x : Int32) : Int32 := x + (x.toUInt32 >>> ((8 : Int32).toUInt32 &&& Int32.toUInt32 31)).toInt32
def bcJ5 (x : Int32) : Int32 := x + (x.toUInt32 >>> ((16 : Int32).toUInt32 &&& Int32.toUInt32 31)).toInt32
def bcJ (x : Int32) : Int32 := bcJ5 (bcJ4 (bcJ3 (bcJ2 (bcJ1 x)))) &&& 63
theorem bcJ_tab : (List.range 256).all (fun s => decide (bcJ (nI s) = bc8 (nI s))) = true := by decide +kernel
theorem bcJ_8 {s : Nat} (h : s < 256) : bcJ (nI s) = bc8 (nI s) := by
  have := List.all_eq_true.mp bcJ_tab s (List.mem_range.mpr h)
  simpa using this
/-- suit b is as suit o was -/
def BecR (I u : Wo) (b o : Nat) : Prop := (∀ i, 1 ≤ i → i ≤ 6 → ∀ k, k < 8 → u (b + i) k = I (o + i) k) ∧ (∀ i, 7 ≤ i → i ≤ 8 → ∀ k, k < 6 → u (b + i) k = I (o + i) k) ∧ (∀ k, 8 ≤ k → k ≤ 14 → u b k = I o k) ∧ (∀ a k, (a < b ∨ b + 8 < a) → u a k = I a k)
def cp (I : Wo) (k2 k q : Nat) : Wo := va_up I k2 (va_cpy (I k) (I k2) 0 0 q)
theorem cp_hit (I : Wo) {k2 k q c : Nat} (h : c < q) : cp I k2 k q k2 c = I k c := by simp [cp, va_up, va_cpy, h]
theorem cp_ne (I : Wo) {k2 k q a c : Nat} (h : a ≠ k2) : cp I k2 k q a c = I a c := by simp [cp, va_up, h]
theorem g_acp {X : Cx} {cc : ByteArray} {nL fr lo pc : Nat} {own : String} {ls : List (Option Value)} {st : List Value} {I : Wo} {k n : Nat} (B : Fx X cc nL own fr lo) {ix k2 n2 : Nat} (hs : shL[k]? = some (.inr (.inl (0, n)))) (hs2 : shL[k2]? = some (.inr (.inl (0, n2)))) {q : Nat} (hq1 : q ≤ n) (hq2 : q ≤ n2) (hq3 : q < 2 ^ 31) {v : Int32} (hv : v = nI q) (hl9 : Cond.methodLink own ix arraycopyName ∈ lw_g) (hnat : Cond.native arraycopyName ∈ lw_g) (hst : Cond.static arraycopyName ∈ lw_g) (hini : Cond.initialized "java/lang/System" ∈ lw_g) (hfr9 : 1 ≤ fr) (hlo9 : (st.map fun v => v.category).sum + 18 ≤ lo) (d : decode cc pc = .ok (.invokestatic ix, 3)) (kk : GW X nL (pc + 3) ls st (cp I k2 k q)) : GW X nL pc ls (.int v :: .int 0 :: .ref k2 :: .int 0 :: .ref k :: st) I :=
  g_acopy B hs hs2 hq1 hq2 hq3 hv hl9 hnat hst hini hfr9 hlo9 d kk
section MATH
variable {X : Cx} {cc : ByteArray} {nL fr lo pc : Nat} {ls : List (Option Value)} {st : List Value} {I : Wo}
theorem g_mmax (B : Fx X cc nL RX6 fr lo) {x y : Int32} (hfr9 : 1 ≤ fr) (hlo9 : (st.map fun v => v.category).sum + 13 ≤ lo) (d : decode cc pc = .ok (.invokestatic 160, 3)) (k : GW X nL (pc + 3) ls (.int (if x < y then y else x) :: st) I) : GW X nL pc ls (.int y :: .int x :: st) I := by
  obtain ⟨p, l, e, R, s, m, args, below, meth, c, D, ad, cy, A, Q, kc, ks⟩ := X
  obtain ⟨⟨hx, hb, hml, hown, hts⟩, hj, hA, hK, hZ, hN, hfr, hlo, hkc, hks⟩ := B
  intro la H locs hl hP hS
  exact va_mmax hx hb (by rw [hml]; exact hl.1.symm) hown (hts _ (lw_g_of _ 602 (by decide +kernel) rfl)) (hts _ (lw_g_of _ 603 (by decide +kernel) rfl)) (hts _ (lw_g_of _ 68 (by decide +kernel) rfl)) (hts _ (lw_g_of _ 604 (by decide +kernel) rfl)) (Nat.le_trans hfr9 hfr) (Nat.le_trans (by rw [cv_cats]; exact hlo9) hlo) hkc hks d (k la H locs hl hP hS)
theorem g_mabs (B : Fx X cc nL RX6 fr lo) {x : Int64} (hfr9 : 1 ≤ fr) (hlo9 : (st.map fun v => v.category).sum + 13 ≤ lo) (d : decode cc pc = .ok (.invokestatic 277, 3)) (k : GW X nL (pc + 3) ls (.long (if 0 < x then x else -x) :: st) I) : GW X nL pc ls (.long x :: st) I := by
  obtain ⟨p, l, e, R, s, m, args, below, meth, c, D, ad, cy, A, Q, kc, ks⟩ := X
  obtain ⟨⟨hx, hb, hml, hown, hts⟩, hj, hA, hK, hZ, hN, hfr, hlo, hkc, hks⟩ := B
  intro la H locs hl hP hS
  exact va_mabs_long hx hb (by rw [hml]; exact hl.1.symm) hown (hts _ (lw_g_of _ 653 (by decide +kernel) rfl)) (hts _ (lw_g_of _ 654 (by decide +kernel) rfl)) (hts _ (lw_g_of _ 68 (by decide +kernel) rfl)) (hts _ (lw_g_of _ 655 (by decide +kernel) rfl)) (Nat.le_trans hfr9 hfr) (Nat.le_trans (by rw [cv_cats]; exact hlo9) hlo) hkc hks d (k la H locs hl hP hS)
end MATH
set_option maxHeartbeats 4000000 in
set_option maxRecDepth 100000 in
theorem ct_X3_addSeen {I : Wo} {b q : Nat} (hS : Su b) (hq : I b 14 = nI q) (hq6 : q ≤ 6) (set : Int32) (z : Bool) : Ct yX3_addSeen cX3_addSeen 4 (some .boolean) 0 0 [.ref b, .int set, .int (bI z)] I (pI (fun r u => (q < 6 ∧ r = 1 ∧ u = w2 (w2 (w2 I (b + 8) q set) b 8 (if z then I b 8 ||| ((1 : Int32) <<< (nI q &&& 31)) else I b 8 &&& (((1 : Int32) <<< (nI q &&& 31)) ^^^ (-1)))) b 14 (nI (q + 1))) ∨ (q = 6 ∧ r = 0 ∧ I = u))) := by
  obtain ⟨s0, s1, s2, s3, s4, s5, s6, s7, s8⟩ := id hS
  refine ct_of RX3 rfl (by decide) (Nat.le_of_ble_eq_true rfl) (fun X B E => ?_)
  show GW X 4 0 [some (.ref b), some (.int set), some (.int (bI z)), none] [] _
  refine g_aload_n B dX3_addSeen_0 rfl ?_
  refine g_geti B ci_X3 (by first | rfl | assumption) rfl (by decide) fl_X3_52 dX3_addSeen_1 ?_
  refine g_bipush B (v := 6) dX3_addSeen_4 (by decide) ?_
  refine g_icmp_lt B 11 dX3_addSeen_6 (by decide) (fun h6 => ?_) (fun h6 => ?_)
  · have hlt : q < 6 := lt_lt (a := q) (b := 6) (by omega) (by decide) (by rw [← hq]; exact h6)
    refine g_aload_n B dX3_addSeen_11 rfl ?_
    refine g_getr B ci_X3 (by first | rfl | assumption) rfl (by decide) fl_X3_33 dX3_addSeen_12 ?_
    refine g_aload_n B dX3_addSeen_15 rfl ?_
    refine g_geti B ci_X3 (by first | rfl | assumption) rfl (by decide) fl_X3_52 dX3_addSeen_16 ?_
    refine g_iload_n B dX3_addSeen_19 rfl ?_
    refine g_iast B (by first | rfl | assumption) q hq (by first | decide | omega | assumption) (by decide) dX3_addSeen_20 ?_
    refine g_iconst B (v := 1) dX3_addSeen_21 (by decide) ?_
    refine g_aload_n B dX3_addSeen_22 rfl ?_
    refine g_geti B ci_X3 (by first | rfl | assumption) rfl (by decide) fl_X3_52 dX3_addSeen_23 ?_
    refine g_ishl B dX3_addSeen_26 ?_
    refine g_istn3 B dX3_addSeen_27 (by decide) rfl ?_
    refine g_aload_n B dX3_addSeen_28 rfl ?_
    refine g_iload_n B dX3_addSeen_29 rfl ?_
    refine g_if_eq B 42 dX3_addSeen_30 (by decide) (fun h30 => ?_) (fun h30 => ?_)
    · rw [bI_eq0] at h30
      subst h30
      refine g_aload_n B dX3_addSeen_42 rfl ?_
      refine g_geti B ci_X3 (by first | rfl | assumption) rfl (by decide) fl_X3_61 dX3_addSeen_43 ?_
      refine g_iload_n B dX3_addSeen_46 rfl ?_
      refine g_iconst B (v := (-1)) dX3_addSeen_47 (by decide) ?_
      refine g_ixor B dX3_addSeen_48 ?_
      refine g_iand B dX3_addSeen_49 ?_
      refine g_put B ci_X3 (by first | rfl | assumption) rfl (by decide) fl_X3_61 rfl rfl rfl dX3_addSeen_50 ?_
      refine g_aload_n B dX3_addSeen_53 rfl ?_
      refine g_dup B dX3_addSeen_54 rfl ?_
      refine g_geti B ci_X3 (by first | rfl | assumption) rfl (by decide) fl_X3_52 dX3_addSeen_55 ?_
      refine g_iconst B (v := 1) dX3_addSeen_58 (by decide) ?_
      refine g_iadd B dX3_addSeen_59 ?_
      refine g_eqi (nI (q + 1)) (by simp only [w2, if_neg (show ¬ (b = b ∧ (14 : Nat) = 8) by omega), if_neg (show ¬ (b = b + 8 ∧ (14 : Nat) = q) by omega), hq]; exact nI_1 q) ?_
      refine g_put B ci_X3 (by first | rfl | assumption) rfl (by decide) fl_X3_52 rfl rfl rfl dX3_addSeen_60 ?_
      refine g_iconst B (v := 1) dX3_addSeen_63 (by decide) ?_
      exact g_iret B E (by first | exact bI_nar _ | decide | exact bI_narv (by assumption)) dX3_addSeen_64 (Or.inl ⟨hlt, rfl, by simp only [w2_cell I _ (show b ≠ b + 8 by omega), ↓reduceIte, Bool.false_eq_true, hq]⟩)
    · rw [bI_ne0] at h30
      subst h30
      refine g_aload_n B dX3_addSeen_33 rfl ?_
      refine g_geti B ci_X3 (by first | rfl | assumption) rfl (by decide) fl_X3_61 dX3_addSeen_34 ?_
      refine g_iload_n B dX3_addSeen_37 rfl ?_
      refine g_ior B dX3_addSeen_38 ?_
      refine g_goto B 50 dX3_addSeen_39 (by decide) ?_
      refine g_put B ci_X3 (by first | rfl | assumption) rfl (by decide) fl_X3_61 rfl rfl rfl dX3_addSeen_50 ?_
      refine g_aload_n B dX3_addSeen_53 rfl ?_
      refine g_dup B dX3_addSeen_54 rfl ?_
      refine g_geti B ci_X3 (by first | rfl | assumption) rfl (by decide) fl_X3_52 dX3_addSeen_55 ?_
      refine g_iconst B (v := 1) dX3_addSeen_58 (by decide) ?_
      refine g_iadd B dX3_addSeen_59 ?_
      refine g_eqi (nI (q + 1)) (by simp only [w2, if_neg (show ¬ (b = b ∧ (14 : Nat) = 8) by omega), if_neg (show ¬ (b = b + 8 ∧ (14 : Nat) = q) by omega), hq]; exact nI_1 q) ?_
      refine g_put B ci_X3 (by first | rfl | assumption) rfl (by decide) fl_X3_52 rfl rfl rfl dX3_addSeen_60 ?_
      refine g_iconst B (v := 1) dX3_addSeen_63 (by decide) ?_
      exact g_iret B E (by first | exact bI_nar _ | decide | exact bI_narv (by assumption)) dX3_addSeen_64 (Or.inl ⟨hlt, rfl, by simp only [w2_cell I _ (show b ≠ b + 8 by omega), ↓reduceIte, Bool.false_eq_true, hq]⟩)
  · have hge : q = 6 := by have := nlt_le (a := q) (b := 6) (by omega) (by decide) (by rw [← hq]; exact h6); omega
    refine g_iconst B (v := 0) dX3_addSeen_9 (by decide) ?_
    exact g_iret B E (by first | exact bI_nar _ | decide | exact bI_narv (by assumption)) dX3_addSeen_10 (Or.inr ⟨hge, rfl, rfl⟩)
set_option maxHeartbeats 4000000 in
set_option maxRecDepth 100000 in
theorem ct_X3_empty {I : Wo} {b : Nat} (hS : Su b) : Ct yX3_empty cX3_empty 1 none 0 0 [.ref b] I (pV (fun u => u = w2 (w2 (w2 (w2 (w2 (w2 I b 9 0) b 10 (-4)) b 11 0) b 12 0) b 13 0) b 14 0)) := by
  obtain ⟨s0, s1, s2, s3, s4, s5, s6, s7, s8⟩ := id hS
  refine ct_of RX3 rfl (by decide) (Nat.le_of_ble_eq_true rfl) (fun X B E => ?_)
  show GW X 1 0 [some (.ref b)] [] _
  refine g_aload_n B dX3_empty_0 rfl ?_
  refine g_iconst B (v := 0) dX3_empty_1 (by decide) ?_
  refine g_put B ci_X3 (by first | rfl | assumption) rfl (by decide) fl_X3_40 rfl rfl rfl dX3_empty_2 ?_
  refine g_aload_n B dX3_empty_5 rfl ?_
  refine g_bipush B (v := (-4)) dX3_empty_6 (by decide) ?_
  refine g_put B ci_X3 (by first | rfl | assumption) rfl (by decide) fl_X3_36 rfl rfl rfl dX3_empty_8 ?_
  refine g_aload_n B dX3_empty_11 rfl ?_
  refine g_iconst B (v := 0) dX3_empty_12 (by decide) ?_
  refine g_put B ci_X3 (by first | rfl | assumption) rfl (by decide) fl_X3_43 rfl rfl rfl dX3_empty_13 ?_
  refine g_aload_n B dX3_empty_16 rfl ?_
  refine g_iconst B (v := 0) dX3_empty_17 (by decide) ?_
  refine g_put B ci_X3 (by first | rfl | assumption) rfl (by decide) fl_X3_46 rfl rfl rfl dX3_empty_18 ?_
  refine g_aload_n B dX3_empty_21 rfl ?_
  refine g_iconst B (v := 0) dX3_empty_22 (by decide) ?_
  refine g_put B ci_X3 (by first | rfl | assumption) rfl (by decide) fl_X3_49 rfl rfl rfl dX3_empty_23 ?_
  refine g_aload_n B dX3_empty_26 rfl ?_
  refine g_iconst B (v := 0) dX3_empty_27 (by decide) ?_
  refine g_put B ci_X3 (by first | rfl | assumption) rfl (by decide) fl_X3_52 rfl rfl rfl dX3_empty_28 ?_
  exact g_vret B E dX3_empty_31 rfl
set_option maxHeartbeats 4000000 in
set_option maxRecDepth 100000 in
theorem ct_X3_become {I : Wo} {b o : Nat} (hS : Su b) (hO : Su o) (hd : o + 8 < b ∨ b + 8 < o) : Ct yX3_become cX3_become 2 none 1 40 [.ref b, .ref o] I (pV (fun u => BecR I u b o)) := by
  obtain ⟨s0, s1, s2, s3, s4, s5, s6, s7, s8⟩ := id hS
  obtain ⟨t0, t1, t2, t3, t4, t5, t6, t7, t8⟩ := id hO
  refine ct_of RX3 rfl (by decide) (Nat.le_of_ble_eq_true rfl) (fun X B E => ?_)
  show GW X 2 0 [some (.ref b), some (.ref o)] [] _
  refine g_aload_n B dX3_become_0 rfl ?_
  refine g_getr B ci_X3 (by first | rfl | assumption) rfl (by decide) fl_X3_9 dX3_become_1 ?_
  refine g_iconst B (v := 0) dX3_become_4 (by decide) ?_
  refine g_aload_n B dX3_become_5 rfl ?_
  refine g_getr B ci_X3 (by first | rfl | assumption) rfl (by decide) fl_X3_9 dX3_become_6 ?_
  refine g_iconst B (v := 0) dX3_become_9 (by decide) ?_
  refine g_bipush B (v := 8) dX3_become_10 (by decide) ?_
  refine g_acp B (by first | rfl | assumption) (by first | rfl | assumption) (by decide) (by decide) (by decide) rfl ml_X3_55 ac_nat ac_st ac_ini (by decide) (Nat.le_of_ble_eq_true rfl) dX3_become_12 ?_
  refine g_aload_n B dX3_become_15 rfl ?_
  refine g_getr B ci_X3 (by first | rfl | assumption) rfl (by decide) fl_X3_15 dX3_become_16 ?_
  refine g_iconst B (v := 0) dX3_become_19 (by decide) ?_
  refine g_aload_n B dX3_become_20 rfl ?_
  refine g_getr B ci_X3 (by first | rfl | assumption) rfl (by decide) fl_X3_15 dX3_become_21 ?_
  refine g_iconst B (v := 0) dX3_become_24 (by decide) ?_
  refine g_bipush B (v := 8) dX3_become_25 (by decide) ?_
  refine g_acp B (by first | rfl | assumption) (by first | rfl | assumption) (by decide) (by decide) (by decide) rfl ml_X3_55 ac_nat ac_st ac_ini (by decide) (Nat.le_of_ble_eq_true rfl) dX3_become_27 ?_
  refine g_aload_n B dX3_become_30 rfl ?_
  refine g_getr B ci_X3 (by first | rfl | assumption) rfl (by decide) fl_X3_18 dX3_become_31 ?_
  refine g_iconst B (v := 0) dX3_become_34 (by decide) ?_
  refine g_aload_n B dX3_become_35 rfl ?_
  refine g_getr B ci_X3 (by first | rfl | assumption) rfl (by decide) fl_X3_18 dX3_become_36 ?_
  refine g_iconst B (v := 0) dX3_become_39 (by decide) ?_
  refine g_bipush B (v := 8) dX3_become_40 (by decide) ?_
  refine g_acp B (by first | rfl | assumption) (by first | rfl | assumption) (by decide) (by decide) (by decide) rfl ml_X3_55 ac_nat ac_st ac_ini (by decide) (Nat.le_of_ble_eq_true rfl) dX3_become_42 ?_
  refine g_aload_n B dX3_become_45 rfl ?_
  refine g_getr B ci_X3 (by first | rfl | assumption) rfl (by decide) fl_X3_21 dX3_become_46 ?_
  refine g_iconst B (v := 0) dX3_become_49 (by decide) ?_
  refine g_aload_n B dX3_become_50 rfl ?_
  refine g_getr B ci_X3 (by first | rfl | assumption) rfl (by decide) fl_X3_21 dX3_become_51 ?_
  refine g_iconst B (v := 0) dX3_become_54 (by decide) ?_
  refine g_bipush B (v := 8) dX3_become_55 (by decide) ?_
  refine g_acp B (by first | rfl | assumption) (by first | rfl | assumption) (by decide) (by decide) (by decide) rfl ml_X3_55 ac_nat ac_st ac_ini (by decide) (Nat.le_of_ble_eq_true rfl) dX3_become_57 ?_
  refine g_aload_n B dX3_become_60 rfl ?_
  refine g_getr B ci_X3 (by first | rfl | assumption) rfl (by decide) fl_X3_24 dX3_become_61 ?_
  refine g_iconst B (v := 0) dX3_become_64 (by decide) ?_
  refine g_aload_n B dX3_become_65 rfl ?_
  refine g_getr B ci_X3 (by first | rfl | assumption) rfl (by decide) fl_X3_24 dX3_become_66 ?_
  refine g_iconst B (v := 0) dX3_become_69 (by decide) ?_
  refine g_bipush B (v := 8) dX3_become_70 (by decide) ?_
  refine g_acp B (by first | rfl | assumption) (by first | rfl | assumption) (by decide) (by decide) (by decide) rfl ml_X3_55 ac_nat ac_st ac_ini (by decide) (Nat.le_of_ble_eq_true rfl) dX3_become_72 ?_
  refine g_aload_n B dX3_become_75 rfl ?_
  refine g_getr B ci_X3 (by first | rfl | assumption) rfl (by decide) fl_X3_27 dX3_become_76 ?_
  refine g_iconst B (v := 0) dX3_become_79 (by decide) ?_
  refine g_aload_n B dX3_become_80 rfl ?_
  refine g_getr B ci_X3 (by first | rfl | assumption) rfl (by decide) fl_X3_27 dX3_become_81 ?_
  refine g_iconst B (v := 0) dX3_become_84 (by decide) ?_
  refine g_bipush B (v := 8) dX3_become_85 (by decide) ?_
  refine g_acp B (by first | rfl | assumption) (by first | rfl | assumption) (by decide) (by decide) (by decide) rfl ml_X3_55 ac_nat ac_st ac_ini (by decide) (Nat.le_of_ble_eq_true rfl) dX3_become_87 ?_
  refine g_aload_n B dX3_become_90 rfl ?_
  refine g_getr B ci_X3 (by first | rfl | assumption) rfl (by decide) fl_X3_30 dX3_become_91 ?_
  refine g_iconst B (v := 0) dX3_become_94 (by decide) ?_
  refine g_aload_n B dX3_become_95 rfl ?_
  refine g_getr B ci_X3 (by first | rfl | assumption) rfl (by decide) fl_X3_30 dX3_become_96 ?_
  refine g_iconst B (v := 0) dX3_become_99 (by decide) ?_
  refine g_bipush B (v := 6) dX3_become_100 (by decide) ?_
  refine g_acp B (by first | rfl | assumption) (by first | rfl | assumption) (by decide) (by decide) (by decide) rfl ml_X3_55 ac_nat ac_st ac_ini (by decide) (Nat.le_of_ble_eq_true rfl) dX3_become_102 ?_
  refine g_aload_n B dX3_become_105 rfl ?_
  refine g_getr B ci_X3 (by first | rfl | assumption) rfl (by decide) fl_X3_33 dX3_become_106 ?_
  refine g_iconst B (v := 0) dX3_become_109 (by decide) ?_
  refine g_aload_n B dX3_become_110 rfl ?_
  refine g_getr B ci_X3 (by first | rfl | assumption) rfl (by decide) fl_X3_33 dX3_become_111 ?_
  refine g_iconst B (v := 0) dX3_become_114 (by decide) ?_
  refine g_bipush B (v := 6) dX3_become_115 (by decide) ?_
  refine g_acp B (by first | rfl | assumption) (by first | rfl | assumption) (by decide) (by decide) (by decide) rfl ml_X3_55 ac_nat ac_st ac_ini (by decide) (Nat.le_of_ble_eq_true rfl) dX3_become_117 ?_
  refine g_aload_n B dX3_become_120 rfl ?_
  refine g_aload_n B dX3_become_121 rfl ?_
  refine g_geti B ci_X3 (by first | rfl | assumption) rfl (by decide) fl_X3_61 dX3_become_122 ?_
  refine g_eqi (I o 8) (by simp (disch := omega) only [w2_cell, cp_ne]) ?_
  refine g_put B ci_X3 (by first | rfl | assumption) rfl (by decide) fl_X3_61 rfl rfl rfl dX3_become_125 ?_
  refine g_aload_n B dX3_become_128 rfl ?_
  refine g_aload_n B dX3_become_129 rfl ?_
  refine g_geti B ci_X3 (by first | rfl | assumption) rfl (by decide) fl_X3_40 dX3_become_130 ?_
  refine g_eqi (I o 9) (by simp (disch := omega) only [w2_cell, cp_ne]) ?_
  refine g_put B ci_X3 (by first | rfl | assumption) rfl (by decide) fl_X3_40 rfl rfl rfl dX3_become_133 ?_
  refine g_aload_n B dX3_become_136 rfl ?_
  refine g_aload_n B dX3_become_137 rfl ?_
  refine g_geti B ci_X3 (by first | rfl | assumption) rfl (by decide) fl_X3_36 dX3_become_138 ?_
  refine g_eqi (I o 10) (by simp (disch := omega) only [w2_cell, cp_ne]) ?_
  refine g_put B ci_X3 (by first | rfl | assumption) rfl (by decide) fl_X3_36 rfl rfl rfl dX3_become_141 ?_
  refine g_aload_n B dX3_become_144 rfl ?_
  refine g_aload_n B dX3_become_145 rfl ?_
  refine g_geti B ci_X3 (by first | rfl | assumption) rfl (by decide) fl_X3_43 dX3_become_146 ?_
  refine g_eqi (I o 11) (by simp (disch := omega) only [w2_cell, cp_ne]) ?_
  refine g_put B ci_X3 (by first | rfl | assumption) rfl (by decide) fl_X3_43 rfl rfl rfl dX3_become_149 ?_
  refine g_aload_n B dX3_become_152 rfl ?_
  refine g_aload_n B dX3_become_153 rfl ?_
  refine g_geti B ci_X3 (by first | rfl | assumption) rfl (by decide) fl_X3_46 dX3_become_154 ?_
  refine g_eqi (I o 12) (by simp (disch := omega) only [w2_cell, cp_ne]) ?_
  refine g_put B ci_X3 (by first | rfl | assumption) rfl (by decide) fl_X3_46 rfl rfl rfl dX3_become_157 ?_
  refine g_aload_n B dX3_become_160 rfl ?_
  refine g_aload_n B dX3_become_161 rfl ?_
  refine g_geti B ci_X3 (by first | rfl | assumption) rfl (by decide) fl_X3_49 dX3_become_162 ?_
  refine g_eqi (I o 13) (by simp (disch := omega) only [w2_cell, cp_ne]) ?_
  refine g_put B ci_X3 (by first | rfl | assumption) rfl (by decide) fl_X3_49 rfl rfl rfl dX3_become_165 ?_
  refine g_aload_n B dX3_become_168 rfl ?_
  refine g_aload_n B dX3_become_169 rfl ?_
  refine g_geti B ci_X3 (by first | rfl | assumption) rfl (by decide) fl_X3_52 dX3_become_170 ?_
  refine g_eqi (I o 14) (by simp (disch := omega) only [w2_cell, cp_ne]) ?_
  refine g_put B ci_X3 (by first | rfl | assumption) rfl (by decide) fl_X3_52 rfl rfl rfl dX3_become_173 ?_
  refine g_vret B E dX3_become_176 ?_
  refine ⟨fun i h1 h2 k hk => ?_, fun i h1 h2 k hk => ?_, fun k h1 h2 => ?_, fun a k ha => ?_⟩
  · rcases (show i = 1 ∨ i = 2 ∨ i = 3 ∨ i = 4 ∨ i = 5 ∨ i = 6 by omega) with rfl | rfl | rfl | rfl | rfl | rfl <;> simp (disch := omega) only [w2_cell, cp_hit, cp_ne]
  · rcases (show i = 7 ∨ i = 8 by omega) with rfl | rfl <;> simp (disch := omega) only [w2_cell, cp_hit, cp_ne]
  · rcases (show k = 8 ∨ k = 9 ∨ k = 10 ∨ k = 11 ∨ k = 12 ∨ k = 13 ∨ k = 14 by omega) with rfl | rfl | rfl | rfl | rfl | rfl | rfl <;> simp (disch := omega) only [w2_same, w2_slot, w2_cell, cp_ne]
  · simp (disch := omega) only [w2_cell, cp_ne]
set_option maxHeartbeats 4000000 in
set_option maxRecDepth 100000 in
theorem ct_X7_isSheet {I : Wo} (k lane : Int32) : Ct yX7_isSheet cX7_isSheet 2 (some .boolean) 1 25 [.int k, .int lane] I (pI (fun r u => r = bI (wi k 0 3 && wi lane 0 2) ∧ I = u)) := by
  refine ct_of RX7 rfl (by decide) (Nat.le_of_ble_eq_true rfl) (fun X B E => ?_)
  show GW X 2 0 [some (.int k), some (.int lane)] [] _
  refine g_iload_n B dX7_isSheet_0 rfl ?_
  refine g_i2l B dX7_isSheet_1 ?_
  refine g_lconst B (v := 0) dX7_isSheet_2 (by decide) ?_
  refine g_ldc2 B dX7_isSheet_3 cn_X7_154 ?_
  refine g_callSI B (ct_in _ 0 3 rfl (by decide) (by decide)) ml_X7_77 mm_X7_in rfl rfl (Nat.le_of_ble_eq_true rfl) dX7_isSheet_6 (by decide) ?_
  rintro _ _ ⟨rfl, rfl⟩
  refine g_if_eq B 28 dX7_isSheet_9 (by decide) (fun h9 => ?_) (fun h9 => ?_)
  · rw [bI_eq0] at h9
    refine g_iconst B (v := 0) dX7_isSheet_28 (by decide) ?_
    exact g_iret B E (by first | exact bI_nar _ | decide | exact bI_narv (by assumption)) dX7_isSheet_29 ⟨by simp_all [bI], rfl⟩
  · rw [bI_ne0] at h9
    refine g_iload_n B dX7_isSheet_12 rfl ?_
    refine g_i2l B dX7_isSheet_13 ?_
    refine g_lconst B (v := 0) dX7_isSheet_14 (by decide) ?_
    refine g_ldc2 B dX7_isSheet_15 cn_X7_194 ?_
    refine g_callSI B (ct_in _ 0 2 rfl (by decide) (by decide)) ml_X7_77 mm_X7_in rfl rfl (Nat.le_of_ble_eq_true rfl) dX7_isSheet_18 (by decide) ?_
    rintro _ _ ⟨rfl, rfl⟩
    refine g_if_eq B 28 dX7_isSheet_21 (by decide) (fun h21 => ?_) (fun h21 => ?_)
    · rw [bI_eq0] at h21
      refine g_iconst B (v := 0) dX7_isSheet_28 (by decide) ?_
      exact g_iret B E (by first | exact bI_nar _ | decide | exact bI_narv (by assumption)) dX7_isSheet_29 ⟨by simp_all [bI], rfl⟩
    · rw [bI_ne0] at h21
      refine g_iconst B (v := 1) dX7_isSheet_24 (by decide) ?_
      refine g_goto B 29 dX7_isSheet_25 (by decide) ?_
      exact g_iret B E (by first | exact bI_nar _ | decide | exact bI_narv (by assumption)) dX7_isSheet_29 ⟨by simp_all [bI], rfl⟩
set_option maxHeartbeats 4000000 in
set_option maxRecDepth 100000 in
theorem ct_X7_byteAt {I : Wo} {q p : Nat} (hq : I 57 14 = nI q) (hq6 : q ≤ 160) (hp : p < 2 ^ 31) : Ct yX7_byteAt cX7_byteAt 2 (some .int) 0 0 [.ref 57, .int (nI p)] I (pI (fun r u => r = (if p < q then I 67 p else -1) ∧ I = u)) := by
  refine ct_of RX7 rfl (by decide) (Nat.le_of_ble_eq_true rfl) (fun X B E => ?_)
  show GW X 2 0 [some (.ref 57), some (.int (nI p))] [] _
  refine g_iload_n B dX7_byteAt_0 rfl ?_
  refine g_aload_n B dX7_byteAt_1 rfl ?_
  refine g_geti B ci_X7 (by first | rfl | assumption) rfl (by decide) fl_X7_81 dX7_byteAt_2 ?_
  refine g_icmp_ge B 17 dX7_byteAt_5 (by decide) (fun h5 => ?_) (fun h5 => ?_)
  · have hge : q ≤ p := le_le (by omega) hp (by rw [← hq]; exact h5)
    refine g_iconst B (v := (-1)) dX7_byteAt_17 (by decide) ?_
    exact g_iret B E rfl dX7_byteAt_18 ⟨by first | rw [if_pos hlt] | rw [if_neg (by omega)], rfl⟩
  · have hlt : p < q := nle_lt (by omega) hp (by rw [← hq]; exact h5)
    refine g_aload_n B dX7_byteAt_8 rfl ?_
    refine g_getr B ci_X7 (by first | rfl | assumption) rfl (by decide) fl_X7_38 dX7_byteAt_9 ?_
    refine g_iload_n B dX7_byteAt_12 rfl ?_
    refine g_iald B (by first | rfl | assumption) _ (by first | with_reducible rfl | exact lit_add _ _ | exact add_lit _ _ | exact nI_add _ _ | exact lit_nI _ | assumption | rfl) (by first | decide | omega | assumption) (by decide) dX7_byteAt_13 ?_
    refine g_goto B 18 dX7_byteAt_14 (by decide) ?_
    exact g_iret B E rfl dX7_byteAt_18 ⟨by first | rw [if_pos hlt] | rw [if_neg (by omega)], rfl⟩
set_option maxHeartbeats 4000000 in
set_option maxRecDepth 100000 in
theorem ct_J6_bitCount_0f7a4 {I : Wo} (x : Int32) : Ct yJ6_bitCount_0f7a4 cJ6_bitCount_0f7a4 1 (some .int) 0 0 [.int x] I (pI (fun r u => r = bcJ x ∧ I = u)) := by
  refine ct_of RJ6 rfl (by decide) (Nat.le_of_ble_eq_true rfl) (fun X B E => ?_)
  show GW X 1 0 [some (.int x)] [] _
  refine g_iload_n B dJ6_bitCount_0f7a4_0 rfl ?_
  refine g_iload_n B dJ6_bitCount_0f7a4_1 rfl ?_
  refine g_iconst B (v := 1) dJ6_bitCount_0f7a4_2 (by decide) ?_
  refine g_iushr B dJ6_bitCount_0f7a4_3 ?_
  refine g_ldcw B dJ6_bitCount_0f7a4_4 cn_J6_265 ?_
  refine g_iand B dJ6_bitCount_0f7a4_7 ?_
  refine g_isub B dJ6_bitCount_0f7a4_8 ?_
  refine g_istn0 B dJ6_bitCount_0f7a4_9 (by decide) rfl ?_
  refine g_iload_n B dJ6_bitCount_0f7a4_10 rfl ?_
  refine g_ldcw B dJ6_bitCount_0f7a4_11 cn_J6_266 ?_
  refine g_iand B dJ6_bitCount_0f7a4_14 ?_
  refine g_iload_n B dJ6_bitCount_0f7a4_15 rfl ?_
  refine g_iconst B (v := 2) dJ6_bitCount_0f7a4_16 (by decide) ?_
  refine g_iushr B dJ6_bitCount_0f7a4_17 ?_
  refine g_ldcw B dJ6_bitCount_0f7a4_18 cn_J6_266 ?_
  refine g_iand B dJ6_bitCount_0f7a4_21 ?_
  refine g_iadd B dJ6_bitCount_0f7a4_22 ?_
  refine g_istn0 B dJ6_bitCount_0f7a4_23 (by decide) rfl ?_
  refine g_iload_n B dJ6_bitCount_0f7a4_24 rfl ?_
  refine g_iload_n B dJ6_bitCount_0f7a4_25 rfl ?_
  refine g_iconst B (v := 4) dJ6_bitCount_0f7a4_26 (by decide) ?_
  refine g_iushr B dJ6_bitCount_0f7a4_27 ?_
  refine g_iadd B dJ6_bitCount_0f7a4_28 ?_
  refine g_ldcw B dJ6_bitCount_0f7a4_29 cn_J6_267 ?_
  refine g_iand B dJ6_bitCount_0f7a4_32 ?_
  refine g_istn0 B dJ6_bitCount_0f7a4_33 (by decide) rfl ?_
  refine g_iload_n B dJ6_bitCount_0f7a4_34 rfl ?_
  refine g_iload_n B dJ6_bitCount_0f7a4_35 rfl ?_
  refine g_bipush B (v := 8) dJ6_bitCount_0f7a4_36 (by decide) ?_
  refine g_iushr B dJ6_bitCount_0f7a4_38 ?_
  refine g_iadd B dJ6_bitCount_0f7a4_39 ?_
  refine g_istn0 B dJ6_bitCount_0f7a4_40 (by decide) rfl ?_
  refine g_iload_n B dJ6_bitCount_0f7a4_41 rfl ?_
  refine g_iload_n B dJ6_bitCount_0f7a4_42 rfl ?_
  refine g_bipush B (v := 16) dJ6_bitCount_0f7a4_43 (by decide) ?_
  refine g_iushr B dJ6_bitCount_0f7a4_45 ?_
  refine g_iadd B dJ6_bitCount_0f7a4_46 ?_
  refine g_istn0 B dJ6_bitCount_0f7a4_47 (by decide) rfl ?_
  refine g_iload_n B dJ6_bitCount_0f7a4_48 rfl ?_
  refine g_bipush B (v := 63) dJ6_bitCount_0f7a4_49 (by decide) ?_
  refine g_iand B dJ6_bitCount_0f7a4_51 ?_
  exact g_iret B E rfl dJ6_bitCount_0f7a4_52 ⟨rfl, rfl⟩
end
