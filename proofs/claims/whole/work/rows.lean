section
-- ===== PART A: goes FIRST, ahead of the names: the tables' words, and 'selects' of the private methods out of them =====
/-- a private method of a class that the tables say can be made, by its rows of tables_1 -/
def lw_okq (q : MethodName × Nat) : Prop := (q.1.cls ≠ "java/lang/invoke/MethodHandle" ∧ q.1.cls ≠ "java/lang/invoke/VarHandle") ∧ Cond.instantiable q.1.cls q.2 ∈ tables_1 ∧ Cond.privateMethod q.1 ∈ tables_1 ∧ Cond.instanceMethod q.1 ∈ tables_1
theorem lw_p0 : lw_okq (⟨"HorsesOwnWays", "setWalk", "(III)V"⟩, 13) := ⟨⟨by decide +kernel, by decide +kernel⟩, List.mem_of_getElem? (i := 18) (by decide +kernel), List.mem_of_getElem? (i := 278) (by decide +kernel), List.mem_of_getElem? (i := 279) (by decide +kernel)⟩
theorem lw_p1 : lw_okq (⟨"HorsesOwnWays", "hearLawAll", "()V"⟩, 13) := ⟨⟨by decide +kernel, by decide +kernel⟩, List.mem_of_getElem? (i := 18) (by decide +kernel), List.mem_of_getElem? (i := 282) (by decide +kernel), List.mem_of_getElem? (i := 283) (by decide +kernel)⟩
theorem lw_p2 : lw_okq (⟨"HorsesOwnWays", "hearLaw", "(LHorsesOwnWays$Horse;)V"⟩, 13) := ⟨⟨by decide +kernel, by decide +kernel⟩, List.mem_of_getElem? (i := 18) (by decide +kernel), List.mem_of_getElem? (i := 286) (by decide +kernel), List.mem_of_getElem? (i := 287) (by decide +kernel)⟩
theorem lw_p3 : lw_okq (⟨"HorsesOwnWays$Text", "take", "(IILHorsesOwnWays$Horse;I)I"⟩, 4) := ⟨⟨by decide +kernel, by decide +kernel⟩, List.mem_of_getElem? (i := 188) (by decide +kernel), List.mem_of_getElem? (i := 294) (by decide +kernel), List.mem_of_getElem? (i := 295) (by decide +kernel)⟩
theorem lw_p4 : lw_okq (⟨"HorsesOwnWays$Text", "push", "(II)I"⟩, 4) := ⟨⟨by decide +kernel, by decide +kernel⟩, List.mem_of_getElem? (i := 188) (by decide +kernel), List.mem_of_getElem? (i := 298) (by decide +kernel), List.mem_of_getElem? (i := 299) (by decide +kernel)⟩
theorem lw_p5 : lw_okq (⟨"HorsesOwnWays", "isRide", "(I)Z"⟩, 13) := ⟨⟨by decide +kernel, by decide +kernel⟩, List.mem_of_getElem? (i := 18) (by decide +kernel), List.mem_of_getElem? (i := 331) (by decide +kernel), List.mem_of_getElem? (i := 332) (by decide +kernel)⟩
theorem lw_p6 : lw_okq (⟨"HorsesOwnWays$Tape", "isLetter", "()Z"⟩, 5) := ⟨⟨by decide +kernel, by decide +kernel⟩, List.mem_of_getElem? (i := 38) (by decide +kernel), List.mem_of_getElem? (i := 373) (by decide +kernel), List.mem_of_getElem? (i := 374) (by decide +kernel)⟩
theorem lw_p7 : lw_okq (⟨"HorsesOwnWays$Tape", "nextWord", "()I"⟩, 5) := ⟨⟨by decide +kernel, by decide +kernel⟩, List.mem_of_getElem? (i := 38) (by decide +kernel), List.mem_of_getElem? (i := 377) (by decide +kernel), List.mem_of_getElem? (i := 378) (by decide +kernel)⟩
theorem lw_p8 : lw_okq (⟨"HorsesOwnWays$Tape", "isWord", "(I)Z"⟩, 5) := ⟨⟨by decide +kernel, by decide +kernel⟩, List.mem_of_getElem? (i := 38) (by decide +kernel), List.mem_of_getElem? (i := 381) (by decide +kernel), List.mem_of_getElem? (i := 382) (by decide +kernel)⟩
theorem lw_p9 : lw_okq (⟨"HorsesOwnWays$Tape", "isDigit", "()Z"⟩, 5) := ⟨⟨by decide +kernel, by decide +kernel⟩, List.mem_of_getElem? (i := 38) (by decide +kernel), List.mem_of_getElem? (i := 426) (by decide +kernel), List.mem_of_getElem? (i := 427) (by decide +kernel)⟩
theorem lw_p10 : lw_okq (⟨"HorsesOwnWays$Tape", "nextNumber", "()I"⟩, 5) := ⟨⟨by decide +kernel, by decide +kernel⟩, List.mem_of_getElem? (i := 38) (by decide +kernel), List.mem_of_getElem? (i := 430) (by decide +kernel), List.mem_of_getElem? (i := 431) (by decide +kernel)⟩
theorem lw_p11 : lw_okq (⟨"HorsesOwnWays$Reader", "expect", "(I)V"⟩, 3) := ⟨⟨by decide +kernel, by decide +kernel⟩, List.mem_of_getElem? (i := 32) (by decide +kernel), List.mem_of_getElem? (i := 497) (by decide +kernel), List.mem_of_getElem? (i := 498) (by decide +kernel)⟩
theorem lw_p12 : lw_okq (⟨"HorsesOwnWays$Reader", "fail", "()V"⟩, 3) := ⟨⟨by decide +kernel, by decide +kernel⟩, List.mem_of_getElem? (i := 32) (by decide +kernel), List.mem_of_getElem? (i := 501) (by decide +kernel), List.mem_of_getElem? (i := 502) (by decide +kernel)⟩
theorem lw_p13 : lw_okq (⟨"HorsesOwnWays$Reader", "readOr", "(LHorsesOwnWays$Text;I)V"⟩, 3) := ⟨⟨by decide +kernel, by decide +kernel⟩, List.mem_of_getElem? (i := 32) (by decide +kernel), List.mem_of_getElem? (i := 505) (by decide +kernel), List.mem_of_getElem? (i := 506) (by decide +kernel)⟩
theorem lw_p14 : lw_okq (⟨"HorsesOwnWays$Reader", "readAnd", "(LHorsesOwnWays$Text;I)V"⟩, 3) := ⟨⟨by decide +kernel, by decide +kernel⟩, List.mem_of_getElem? (i := 32) (by decide +kernel), List.mem_of_getElem? (i := 509) (by decide +kernel), List.mem_of_getElem? (i := 510) (by decide +kernel)⟩
theorem lw_p15 : lw_okq (⟨"HorsesOwnWays$Reader", "readNot", "(LHorsesOwnWays$Text;I)V"⟩, 3) := ⟨⟨by decide +kernel, by decide +kernel⟩, List.mem_of_getElem? (i := 32) (by decide +kernel), List.mem_of_getElem? (i := 513) (by decide +kernel), List.mem_of_getElem? (i := 514) (by decide +kernel)⟩
def lw_privs_1 : List (MethodName × Nat) := [(⟨"HorsesOwnWays", "setWalk", "(III)V"⟩, 13), (⟨"HorsesOwnWays", "hearLawAll", "()V"⟩, 13), (⟨"HorsesOwnWays", "hearLaw", "(LHorsesOwnWays$Horse;)V"⟩, 13), (⟨"HorsesOwnWays$Text", "take", "(IILHorsesOwnWays$Horse;I)I"⟩, 4), (⟨"HorsesOwnWays$Text", "push", "(II)I"⟩, 4), (⟨"HorsesOwnWays", "isRide", "(I)Z"⟩, 13), (⟨"HorsesOwnWays$Tape", "isLetter", "()Z"⟩, 5), (⟨"HorsesOwnWays$Tape", "nextWord", "()I"⟩, 5), (⟨"HorsesOwnWays$Tape", "isWord", "(I)Z"⟩, 5), (⟨"HorsesOwnWays$Tape", "isDigit", "()Z"⟩, 5), (⟨"HorsesOwnWays$Tape", "nextNumber", "()I"⟩, 5), (⟨"HorsesOwnWays$Reader", "expect", "(I)V"⟩, 3), (⟨"HorsesOwnWays$Reader", "fail", "()V"⟩, 3), (⟨"HorsesOwnWays$Reader", "readOr", "(LHorsesOwnWays$Text;I)V"⟩, 3), (⟨"HorsesOwnWays$Reader", "readAnd", "(LHorsesOwnWays$Text;I)V"⟩, 3), (⟨"HorsesOwnWays$Reader", "readNot", "(LHorsesOwnWays$Text;I)V"⟩, 3)]
theorem lw_r1 : ∀ q ∈ lw_privs_1, lw_okq q := List.forall_mem_cons.mpr ⟨lw_p0, List.forall_mem_cons.mpr ⟨lw_p1, List.forall_mem_cons.mpr ⟨lw_p2, List.forall_mem_cons.mpr ⟨lw_p3, List.forall_mem_cons.mpr ⟨lw_p4, List.forall_mem_cons.mpr ⟨lw_p5, List.forall_mem_cons.mpr ⟨lw_p6, List.forall_mem_cons.mpr ⟨lw_p7, List.forall_mem_cons.mpr ⟨lw_p8, List.forall_mem_cons.mpr ⟨lw_p9, List.forall_mem_cons.mpr ⟨lw_p10, List.forall_mem_cons.mpr ⟨lw_p11, List.forall_mem_cons.mpr ⟨lw_p12, List.forall_mem_cons.mpr ⟨lw_p13, List.forall_mem_cons.mpr ⟨lw_p14, List.forall_mem_cons.mpr ⟨lw_p15, fun _ h => absurd h List.not_mem_nil⟩⟩⟩⟩⟩⟩⟩⟩⟩⟩⟩⟩⟩⟩⟩⟩
theorem lw_p16 : lw_okq (⟨"HorsesOwnWays$Reader", "readComparison", "(LHorsesOwnWays$Text;I)V"⟩, 3) := ⟨⟨by decide +kernel, by decide +kernel⟩, List.mem_of_getElem? (i := 32) (by decide +kernel), List.mem_of_getElem? (i := 517) (by decide +kernel), List.mem_of_getElem? (i := 518) (by decide +kernel)⟩
theorem lw_p17 : lw_okq (⟨"HorsesOwnWays$Reader", "readSum", "(LHorsesOwnWays$Text;I)V"⟩, 3) := ⟨⟨by decide +kernel, by decide +kernel⟩, List.mem_of_getElem? (i := 32) (by decide +kernel), List.mem_of_getElem? (i := 521) (by decide +kernel), List.mem_of_getElem? (i := 522) (by decide +kernel)⟩
theorem lw_p18 : lw_okq (⟨"HorsesOwnWays$Reader", "readTerm", "(LHorsesOwnWays$Text;I)V"⟩, 3) := ⟨⟨by decide +kernel, by decide +kernel⟩, List.mem_of_getElem? (i := 32) (by decide +kernel), List.mem_of_getElem? (i := 525) (by decide +kernel), List.mem_of_getElem? (i := 526) (by decide +kernel)⟩
theorem lw_p19 : lw_okq (⟨"HorsesOwnWays$Reader", "readOne", "(LHorsesOwnWays$Text;I)V"⟩, 3) := ⟨⟨by decide +kernel, by decide +kernel⟩, List.mem_of_getElem? (i := 32) (by decide +kernel), List.mem_of_getElem? (i := 529) (by decide +kernel), List.mem_of_getElem? (i := 530) (by decide +kernel)⟩
theorem lw_p20 : lw_okq (⟨"HorsesOwnWays", "setLaw", "(I)V"⟩, 13) := ⟨⟨by decide +kernel, by decide +kernel⟩, List.mem_of_getElem? (i := 18) (by decide +kernel), List.mem_of_getElem? (i := 551) (by decide +kernel), List.mem_of_getElem? (i := 552) (by decide +kernel)⟩
theorem lw_p21 : lw_okq (⟨"HorsesOwnWays", "isHorse", "(I)Z"⟩, 13) := ⟨⟨by decide +kernel, by decide +kernel⟩, List.mem_of_getElem? (i := 18) (by decide +kernel), List.mem_of_getElem? (i := 559) (by decide +kernel), List.mem_of_getElem? (i := 560) (by decide +kernel)⟩
theorem lw_p22 : lw_okq (⟨"HorsesOwnWays$Horse", "goesToAndFro", "(I)I"⟩, 9) := ⟨⟨by decide +kernel, by decide +kernel⟩, List.mem_of_getElem? (i := 146) (by decide +kernel), List.mem_of_getElem? (i := 596) (by decide +kernel), List.mem_of_getElem? (i := 597) (by decide +kernel)⟩
theorem lw_p23 : lw_okq (⟨"HorsesOwnWays", "allHorses", "()I"⟩, 13) := ⟨⟨by decide +kernel, by decide +kernel⟩, List.mem_of_getElem? (i := 18) (by decide +kernel), List.mem_of_getElem? (i := 608) (by decide +kernel), List.mem_of_getElem? (i := 609) (by decide +kernel)⟩
theorem lw_p24 : lw_okq (⟨"HorsesOwnWays", "soonWith", "(III)I"⟩, 13) := ⟨⟨by decide +kernel, by decide +kernel⟩, List.mem_of_getElem? (i := 18) (by decide +kernel), List.mem_of_getElem? (i := 612) (by decide +kernel), List.mem_of_getElem? (i := 613) (by decide +kernel)⟩
theorem lw_p25 : lw_okq (⟨"HorsesOwnWays$Search", "soonestNotLeft", "()I"⟩, 8) := ⟨⟨by decide +kernel, by decide +kernel⟩, List.mem_of_getElem? (i := 75) (by decide +kernel), List.mem_of_getElem? (i := 621) (by decide +kernel), List.mem_of_getElem? (i := 622) (by decide +kernel)⟩
theorem lw_p26 : lw_okq (⟨"HorsesOwnWays$Search", "leaveByHorse", "([LHorsesOwnWays$Horse;II)V"⟩, 8) := ⟨⟨by decide +kernel, by decide +kernel⟩, List.mem_of_getElem? (i := 75) (by decide +kernel), List.mem_of_getElem? (i := 625) (by decide +kernel), List.mem_of_getElem? (i := 626) (by decide +kernel)⟩
theorem lw_p27 : lw_okq (⟨"HorsesOwnWays$Search", "arrive", "(IIII)V"⟩, 8) := ⟨⟨by decide +kernel, by decide +kernel⟩, List.mem_of_getElem? (i := 75) (by decide +kernel), List.mem_of_getElem? (i := 638) (by decide +kernel), List.mem_of_getElem? (i := 639) (by decide +kernel)⟩
theorem lw_p28 : lw_okq (⟨"HorsesOwnWays$Search", "leaveOnFoot", "([II)V"⟩, 8) := ⟨⟨by decide +kernel, by decide +kernel⟩, List.mem_of_getElem? (i := 75) (by decide +kernel), List.mem_of_getElem? (i := 642) (by decide +kernel), List.mem_of_getElem? (i := 643) (by decide +kernel)⟩
theorem lw_p29 : lw_okq (⟨"HorsesOwnWays", "ridden", "(I)I"⟩, 13) := ⟨⟨by decide +kernel, by decide +kernel⟩, List.mem_of_getElem? (i := 18) (by decide +kernel), List.mem_of_getElem? (i := 676) (by decide +kernel), List.mem_of_getElem? (i := 677) (by decide +kernel)⟩
theorem lw_p30 : lw_okq (⟨"HorsesOwnWays", "setFrom", "(LHorsesOwnWays$Horse;I)V"⟩, 13) := ⟨⟨by decide +kernel, by decide +kernel⟩, List.mem_of_getElem? (i := 18) (by decide +kernel), List.mem_of_getElem? (i := 692) (by decide +kernel), List.mem_of_getElem? (i := 693) (by decide +kernel)⟩
theorem lw_p31 : lw_okq (⟨"HorsesOwnWays", "lives", "(I)J"⟩, 13) := ⟨⟨by decide +kernel, by decide +kernel⟩, List.mem_of_getElem? (i := 18) (by decide +kernel), List.mem_of_getElem? (i := 706) (by decide +kernel), List.mem_of_getElem? (i := 707) (by decide +kernel)⟩
def lw_privs_2 : List (MethodName × Nat) := [(⟨"HorsesOwnWays$Reader", "readComparison", "(LHorsesOwnWays$Text;I)V"⟩, 3), (⟨"HorsesOwnWays$Reader", "readSum", "(LHorsesOwnWays$Text;I)V"⟩, 3), (⟨"HorsesOwnWays$Reader", "readTerm", "(LHorsesOwnWays$Text;I)V"⟩, 3), (⟨"HorsesOwnWays$Reader", "readOne", "(LHorsesOwnWays$Text;I)V"⟩, 3), (⟨"HorsesOwnWays", "setLaw", "(I)V"⟩, 13), (⟨"HorsesOwnWays", "isHorse", "(I)Z"⟩, 13), (⟨"HorsesOwnWays$Horse", "goesToAndFro", "(I)I"⟩, 9), (⟨"HorsesOwnWays", "allHorses", "()I"⟩, 13), (⟨"HorsesOwnWays", "soonWith", "(III)I"⟩, 13), (⟨"HorsesOwnWays$Search", "soonestNotLeft", "()I"⟩, 8), (⟨"HorsesOwnWays$Search", "leaveByHorse", "([LHorsesOwnWays$Horse;II)V"⟩, 8), (⟨"HorsesOwnWays$Search", "arrive", "(IIII)V"⟩, 8), (⟨"HorsesOwnWays$Search", "leaveOnFoot", "([II)V"⟩, 8), (⟨"HorsesOwnWays", "ridden", "(I)I"⟩, 13), (⟨"HorsesOwnWays", "setFrom", "(LHorsesOwnWays$Horse;I)V"⟩, 13), (⟨"HorsesOwnWays", "lives", "(I)J"⟩, 13)]
theorem lw_r2 : ∀ q ∈ lw_privs_2, lw_okq q := List.forall_mem_cons.mpr ⟨lw_p16, List.forall_mem_cons.mpr ⟨lw_p17, List.forall_mem_cons.mpr ⟨lw_p18, List.forall_mem_cons.mpr ⟨lw_p19, List.forall_mem_cons.mpr ⟨lw_p20, List.forall_mem_cons.mpr ⟨lw_p21, List.forall_mem_cons.mpr ⟨lw_p22, List.forall_mem_cons.mpr ⟨lw_p23, List.forall_mem_cons.mpr ⟨lw_p24, List.forall_mem_cons.mpr ⟨lw_p25, List.forall_mem_cons.mpr ⟨lw_p26, List.forall_mem_cons.mpr ⟨lw_p27, List.forall_mem_cons.mpr ⟨lw_p28, List.forall_mem_cons.mpr ⟨lw_p29, List.forall_mem_cons.mpr ⟨lw_p30, List.forall_mem_cons.mpr ⟨lw_p31, fun _ h => absurd h List.not_mem_nil⟩⟩⟩⟩⟩⟩⟩⟩⟩⟩⟩⟩⟩⟩⟩⟩
theorem lw_p32 : lw_okq (⟨"HorsesOwnWays", "searchAll", "(I)V"⟩, 13) := ⟨⟨by decide +kernel, by decide +kernel⟩, List.mem_of_getElem? (i := 18) (by decide +kernel), List.mem_of_getElem? (i := 725) (by decide +kernel), List.mem_of_getElem? (i := 726) (by decide +kernel)⟩
theorem lw_p33 : lw_okq (⟨"HorsesOwnWays", "canBe", "(III)Z"⟩, 13) := ⟨⟨by decide +kernel, by decide +kernel⟩, List.mem_of_getElem? (i := 18) (by decide +kernel), List.mem_of_getElem? (i := 753) (by decide +kernel), List.mem_of_getElem? (i := 754) (by decide +kernel)⟩
theorem lw_p34 : lw_okq (⟨"HorsesOwnWays", "refusalOfSoons", "(I)I"⟩, 13) := ⟨⟨by decide +kernel, by decide +kernel⟩, List.mem_of_getElem? (i := 18) (by decide +kernel), List.mem_of_getElem? (i := 766) (by decide +kernel), List.mem_of_getElem? (i := 767) (by decide +kernel)⟩
theorem lw_p35 : lw_okq (⟨"HorsesOwnWays", "isSoFrom", "(ILHorsesOwnWays$Sheet;)Z"⟩, 13) := ⟨⟨by decide +kernel, by decide +kernel⟩, List.mem_of_getElem? (i := 18) (by decide +kernel), List.mem_of_getElem? (i := 770) (by decide +kernel), List.mem_of_getElem? (i := 771) (by decide +kernel)⟩
theorem lw_p36 : lw_okq (⟨"HorsesOwnWays", "livingBy", "(I)I"⟩, 13) := ⟨⟨by decide +kernel, by decide +kernel⟩, List.mem_of_getElem? (i := 18) (by decide +kernel), List.mem_of_getElem? (i := 797) (by decide +kernel), List.mem_of_getElem? (i := 798) (by decide +kernel)⟩
theorem lw_p37 : lw_okq (⟨"HorsesOwnWaysModel", "walkIs", "(III)V"⟩, 49) := ⟨⟨by decide +kernel, by decide +kernel⟩, List.mem_of_getElem? (i := 864) (by decide +kernel), List.mem_of_getElem? (i := 862) (by decide +kernel), List.mem_of_getElem? (i := 863) (by decide +kernel)⟩
theorem lw_p38 : lw_okq (⟨"HorsesOwnWaysModel", "isRide", "(I)Z"⟩, 49) := ⟨⟨by decide +kernel, by decide +kernel⟩, List.mem_of_getElem? (i := 864) (by decide +kernel), List.mem_of_getElem? (i := 879) (by decide +kernel), List.mem_of_getElem? (i := 880) (by decide +kernel)⟩
theorem lw_p39 : lw_okq (⟨"HorsesOwnWaysModel", "horseIs", "(IIIIII)V"⟩, 49) := ⟨⟨by decide +kernel, by decide +kernel⟩, List.mem_of_getElem? (i := 864) (by decide +kernel), List.mem_of_getElem? (i := 887) (by decide +kernel), List.mem_of_getElem? (i := 888) (by decide +kernel)⟩
theorem lw_p40 : lw_okq (⟨"HorsesOwnWaysModel", "isHorse", "(I)Z"⟩, 49) := ⟨⟨by decide +kernel, by decide +kernel⟩, List.mem_of_getElem? (i := 864) (by decide +kernel), List.mem_of_getElem? (i := 895) (by decide +kernel), List.mem_of_getElem? (i := 896) (by decide +kernel)⟩
theorem lw_p41 : lw_okq (⟨"HorsesOwnWaysModel", "outOf", "(I)I"⟩, 49) := ⟨⟨by decide +kernel, by decide +kernel⟩, List.mem_of_getElem? (i := 864) (by decide +kernel), List.mem_of_getElem? (i := 903) (by decide +kernel), List.mem_of_getElem? (i := 904) (by decide +kernel)⟩
theorem lw_p42 : lw_okq (⟨"HorsesOwnWaysModel", "worthOf", "(II)I"⟩, 49) := ⟨⟨by decide +kernel, by decide +kernel⟩, List.mem_of_getElem? (i := 864) (by decide +kernel), List.mem_of_getElem? (i := 907) (by decide +kernel), List.mem_of_getElem? (i := 908) (by decide +kernel)⟩
theorem lw_p43 : lw_okq (⟨"HorsesOwnWaysModel", "homeOf", "(I)I"⟩, 49) := ⟨⟨by decide +kernel, by decide +kernel⟩, List.mem_of_getElem? (i := 864) (by decide +kernel), List.mem_of_getElem? (i := 916) (by decide +kernel), List.mem_of_getElem? (i := 917) (by decide +kernel)⟩
theorem lw_p44 : lw_okq (⟨"HorsesOwnWaysModel", "whither", "(II)I"⟩, 49) := ⟨⟨by decide +kernel, by decide +kernel⟩, List.mem_of_getElem? (i := 864) (by decide +kernel), List.mem_of_getElem? (i := 924) (by decide +kernel), List.mem_of_getElem? (i := 925) (by decide +kernel)⟩
theorem lw_p45 : lw_okq (⟨"HorsesOwnWaysModel", "readAll", "(I)I"⟩, 49) := ⟨⟨by decide +kernel, by decide +kernel⟩, List.mem_of_getElem? (i := 864) (by decide +kernel), List.mem_of_getElem? (i := 940) (by decide +kernel), List.mem_of_getElem? (i := 941) (by decide +kernel)⟩
theorem lw_p46 : lw_okq (⟨"HorsesOwnWaysModel", "next", "()V"⟩, 49) := ⟨⟨by decide +kernel, by decide +kernel⟩, List.mem_of_getElem? (i := 864) (by decide +kernel), List.mem_of_getElem? (i := 944) (by decide +kernel), List.mem_of_getElem? (i := 945) (by decide +kernel)⟩
theorem lw_p47 : lw_okq (⟨"HorsesOwnWaysModel", "isLetter", "(I)Z"⟩, 49) := ⟨⟨by decide +kernel, by decide +kernel⟩, List.mem_of_getElem? (i := 864) (by decide +kernel), List.mem_of_getElem? (i := 948) (by decide +kernel), List.mem_of_getElem? (i := 949) (by decide +kernel)⟩
def lw_privs_3 : List (MethodName × Nat) := [(⟨"HorsesOwnWays", "searchAll", "(I)V"⟩, 13), (⟨"HorsesOwnWays", "canBe", "(III)Z"⟩, 13), (⟨"HorsesOwnWays", "refusalOfSoons", "(I)I"⟩, 13), (⟨"HorsesOwnWays", "isSoFrom", "(ILHorsesOwnWays$Sheet;)Z"⟩, 13), (⟨"HorsesOwnWays", "livingBy", "(I)I"⟩, 13), (⟨"HorsesOwnWaysModel", "walkIs", "(III)V"⟩, 49), (⟨"HorsesOwnWaysModel", "isRide", "(I)Z"⟩, 49), (⟨"HorsesOwnWaysModel", "horseIs", "(IIIIII)V"⟩, 49), (⟨"HorsesOwnWaysModel", "isHorse", "(I)Z"⟩, 49), (⟨"HorsesOwnWaysModel", "outOf", "(I)I"⟩, 49), (⟨"HorsesOwnWaysModel", "worthOf", "(II)I"⟩, 49), (⟨"HorsesOwnWaysModel", "homeOf", "(I)I"⟩, 49), (⟨"HorsesOwnWaysModel", "whither", "(II)I"⟩, 49), (⟨"HorsesOwnWaysModel", "readAll", "(I)I"⟩, 49), (⟨"HorsesOwnWaysModel", "next", "()V"⟩, 49), (⟨"HorsesOwnWaysModel", "isLetter", "(I)Z"⟩, 49)]
theorem lw_r3 : ∀ q ∈ lw_privs_3, lw_okq q := List.forall_mem_cons.mpr ⟨lw_p32, List.forall_mem_cons.mpr ⟨lw_p33, List.forall_mem_cons.mpr ⟨lw_p34, List.forall_mem_cons.mpr ⟨lw_p35, List.forall_mem_cons.mpr ⟨lw_p36, List.forall_mem_cons.mpr ⟨lw_p37, List.forall_mem_cons.mpr ⟨lw_p38, List.forall_mem_cons.mpr ⟨lw_p39, List.forall_mem_cons.mpr ⟨lw_p40, List.forall_mem_cons.mpr ⟨lw_p41, List.forall_mem_cons.mpr ⟨lw_p42, List.forall_mem_cons.mpr ⟨lw_p43, List.forall_mem_cons.mpr ⟨lw_p44, List.forall_mem_cons.mpr ⟨lw_p45, List.forall_mem_cons.mpr ⟨lw_p46, List.forall_mem_cons.mpr ⟨lw_p47, fun _ h => absurd h List.not_mem_nil⟩⟩⟩⟩⟩⟩⟩⟩⟩⟩⟩⟩⟩⟩⟩⟩
theorem lw_p48 : lw_okq (⟨"HorsesOwnWaysModel", "readWord", "()V"⟩, 49) := ⟨⟨by decide +kernel, by decide +kernel⟩, List.mem_of_getElem? (i := 864) (by decide +kernel), List.mem_of_getElem? (i := 952) (by decide +kernel), List.mem_of_getElem? (i := 953) (by decide +kernel)⟩
theorem lw_p49 : lw_okq (⟨"HorsesOwnWaysModel", "isDigit", "(I)Z"⟩, 49) := ⟨⟨by decide +kernel, by decide +kernel⟩, List.mem_of_getElem? (i := 864) (by decide +kernel), List.mem_of_getElem? (i := 956) (by decide +kernel), List.mem_of_getElem? (i := 957) (by decide +kernel)⟩
theorem lw_p50 : lw_okq (⟨"HorsesOwnWaysModel", "readNumber", "()V"⟩, 49) := ⟨⟨by decide +kernel, by decide +kernel⟩, List.mem_of_getElem? (i := 864) (by decide +kernel), List.mem_of_getElem? (i := 960) (by decide +kernel), List.mem_of_getElem? (i := 961) (by decide +kernel)⟩
theorem lw_p51 : lw_okq (⟨"HorsesOwnWaysModel", "isKey", "(I)Z"⟩, 49) := ⟨⟨by decide +kernel, by decide +kernel⟩, List.mem_of_getElem? (i := 864) (by decide +kernel), List.mem_of_getElem? (i := 964) (by decide +kernel), List.mem_of_getElem? (i := 965) (by decide +kernel)⟩
theorem lw_p52 : lw_okq (⟨"HorsesOwnWaysModel", "readE", "(I)Z"⟩, 49) := ⟨⟨by decide +kernel, by decide +kernel⟩, List.mem_of_getElem? (i := 864) (by decide +kernel), List.mem_of_getElem? (i := 968) (by decide +kernel), List.mem_of_getElem? (i := 969) (by decide +kernel)⟩
theorem lw_p53 : lw_okq (⟨"HorsesOwnWaysModel", "emit", "(I)V"⟩, 49) := ⟨⟨by decide +kernel, by decide +kernel⟩, List.mem_of_getElem? (i := 864) (by decide +kernel), List.mem_of_getElem? (i := 972) (by decide +kernel), List.mem_of_getElem? (i := 973) (by decide +kernel)⟩
theorem lw_p54 : lw_okq (⟨"HorsesOwnWaysModel", "doAll", "(I)V"⟩, 49) := ⟨⟨by decide +kernel, by decide +kernel⟩, List.mem_of_getElem? (i := 864) (by decide +kernel), List.mem_of_getElem? (i := 976) (by decide +kernel), List.mem_of_getElem? (i := 977) (by decide +kernel)⟩
theorem lw_p55 : lw_okq (⟨"HorsesOwnWaysModel", "isSign", "(I)Z"⟩, 49) := ⟨⟨by decide +kernel, by decide +kernel⟩, List.mem_of_getElem? (i := 864) (by decide +kernel), List.mem_of_getElem? (i := 983) (by decide +kernel), List.mem_of_getElem? (i := 984) (by decide +kernel)⟩
theorem lw_p56 : lw_okq (⟨"HorsesOwnWaysModel", "ahead", "(Z)Z"⟩, 49) := ⟨⟨by decide +kernel, by decide +kernel⟩, List.mem_of_getElem? (i := 864) (by decide +kernel), List.mem_of_getElem? (i := 987) (by decide +kernel), List.mem_of_getElem? (i := 988) (by decide +kernel)⟩
theorem lw_p57 : lw_okq (⟨"HorsesOwnWaysModel", "await", "(I)V"⟩, 49) := ⟨⟨by decide +kernel, by decide +kernel⟩, List.mem_of_getElem? (i := 864) (by decide +kernel), List.mem_of_getElem? (i := 991) (by decide +kernel), List.mem_of_getElem? (i := 992) (by decide +kernel)⟩
theorem lw_p58 : lw_okq (⟨"HorsesOwnWaysModel", "between", "()Z"⟩, 49) := ⟨⟨by decide +kernel, by decide +kernel⟩, List.mem_of_getElem? (i := 864) (by decide +kernel), List.mem_of_getElem? (i := 995) (by decide +kernel), List.mem_of_getElem? (i := 996) (by decide +kernel)⟩
theorem lw_p59 : lw_okq (⟨"HorsesOwnWaysModel", "closes", "()Z"⟩, 49) := ⟨⟨by decide +kernel, by decide +kernel⟩, List.mem_of_getElem? (i := 864) (by decide +kernel), List.mem_of_getElem? (i := 999) (by decide +kernel), List.mem_of_getElem? (i := 1000) (by decide +kernel)⟩
theorem lw_p60 : lw_okq (⟨"HorsesOwnWaysModel", "everyOne", "()I"⟩, 49) := ⟨⟨by decide +kernel, by decide +kernel⟩, List.mem_of_getElem? (i := 864) (by decide +kernel), List.mem_of_getElem? (i := 1174) (by decide +kernel), List.mem_of_getElem? (i := 1175) (by decide +kernel)⟩
theorem lw_p61 : lw_okq (⟨"HorsesOwnWaysModel", "goFrom", "(II)V"⟩, 49) := ⟨⟨by decide +kernel, by decide +kernel⟩, List.mem_of_getElem? (i := 864) (by decide +kernel), List.mem_of_getElem? (i := 1178) (by decide +kernel), List.mem_of_getElem? (i := 1179) (by decide +kernel)⟩
theorem lw_p62 : lw_okq (⟨"HorsesOwnWaysModel", "leave", "(II)V"⟩, 49) := ⟨⟨by decide +kernel, by decide +kernel⟩, List.mem_of_getElem? (i := 864) (by decide +kernel), List.mem_of_getElem? (i := 1183) (by decide +kernel), List.mem_of_getElem? (i := 1184) (by decide +kernel)⟩
theorem lw_p63 : lw_okq (⟨"HorsesOwnWaysModel", "come", "(IIII)V"⟩, 49) := ⟨⟨by decide +kernel, by decide +kernel⟩, List.mem_of_getElem? (i := 864) (by decide +kernel), List.mem_of_getElem? (i := 1187) (by decide +kernel), List.mem_of_getElem? (i := 1188) (by decide +kernel)⟩
def lw_privs_4 : List (MethodName × Nat) := [(⟨"HorsesOwnWaysModel", "readWord", "()V"⟩, 49), (⟨"HorsesOwnWaysModel", "isDigit", "(I)Z"⟩, 49), (⟨"HorsesOwnWaysModel", "readNumber", "()V"⟩, 49), (⟨"HorsesOwnWaysModel", "isKey", "(I)Z"⟩, 49), (⟨"HorsesOwnWaysModel", "readE", "(I)Z"⟩, 49), (⟨"HorsesOwnWaysModel", "emit", "(I)V"⟩, 49), (⟨"HorsesOwnWaysModel", "doAll", "(I)V"⟩, 49), (⟨"HorsesOwnWaysModel", "isSign", "(I)Z"⟩, 49), (⟨"HorsesOwnWaysModel", "ahead", "(Z)Z"⟩, 49), (⟨"HorsesOwnWaysModel", "await", "(I)V"⟩, 49), (⟨"HorsesOwnWaysModel", "between", "()Z"⟩, 49), (⟨"HorsesOwnWaysModel", "closes", "()Z"⟩, 49), (⟨"HorsesOwnWaysModel", "everyOne", "()I"⟩, 49), (⟨"HorsesOwnWaysModel", "goFrom", "(II)V"⟩, 49), (⟨"HorsesOwnWaysModel", "leave", "(II)V"⟩, 49), (⟨"HorsesOwnWaysModel", "come", "(IIII)V"⟩, 49)]
theorem lw_r4 : ∀ q ∈ lw_privs_4, lw_okq q := List.forall_mem_cons.mpr ⟨lw_p48, List.forall_mem_cons.mpr ⟨lw_p49, List.forall_mem_cons.mpr ⟨lw_p50, List.forall_mem_cons.mpr ⟨lw_p51, List.forall_mem_cons.mpr ⟨lw_p52, List.forall_mem_cons.mpr ⟨lw_p53, List.forall_mem_cons.mpr ⟨lw_p54, List.forall_mem_cons.mpr ⟨lw_p55, List.forall_mem_cons.mpr ⟨lw_p56, List.forall_mem_cons.mpr ⟨lw_p57, List.forall_mem_cons.mpr ⟨lw_p58, List.forall_mem_cons.mpr ⟨lw_p59, List.forall_mem_cons.mpr ⟨lw_p60, List.forall_mem_cons.mpr ⟨lw_p61, List.forall_mem_cons.mpr ⟨lw_p62, List.forall_mem_cons.mpr ⟨lw_p63, fun _ h => absurd h List.not_mem_nil⟩⟩⟩⟩⟩⟩⟩⟩⟩⟩⟩⟩⟩⟩⟩⟩
theorem lw_p64 : lw_okq (⟨"HorsesOwnWaysModel", "wayTo", "(I)V"⟩, 49) := ⟨⟨by decide +kernel, by decide +kernel⟩, List.mem_of_getElem? (i := 864) (by decide +kernel), List.mem_of_getElem? (i := 1191) (by decide +kernel), List.mem_of_getElem? (i := 1192) (by decide +kernel)⟩
theorem lw_p65 : lw_okq (⟨"HorsesOwnWaysModel", "waySet", "()I"⟩, 49) := ⟨⟨by decide +kernel, by decide +kernel⟩, List.mem_of_getElem? (i := 864) (by decide +kernel), List.mem_of_getElem? (i := 1195) (by decide +kernel), List.mem_of_getElem? (i := 1196) (by decide +kernel)⟩
theorem lw_p66 : lw_okq (⟨"HorsesOwnWaysModel", "soonTo", "(III)I"⟩, 49) := ⟨⟨by decide +kernel, by decide +kernel⟩, List.mem_of_getElem? (i := 864) (by decide +kernel), List.mem_of_getElem? (i := 1207) (by decide +kernel), List.mem_of_getElem? (i := 1208) (by decide +kernel)⟩
theorem lw_p67 : lw_okq (⟨"HorsesOwnWaysModel", "ridden", "(I)I"⟩, 49) := ⟨⟨by decide +kernel, by decide +kernel⟩, List.mem_of_getElem? (i := 864) (by decide +kernel), List.mem_of_getElem? (i := 1215) (by decide +kernel), List.mem_of_getElem? (i := 1216) (by decide +kernel)⟩
theorem lw_p68 : lw_okq (⟨"HorsesOwnWaysModel", "isTold", "(II)Z"⟩, 49) := ⟨⟨by decide +kernel, by decide +kernel⟩, List.mem_of_getElem? (i := 864) (by decide +kernel), List.mem_of_getElem? (i := 1271) (by decide +kernel), List.mem_of_getElem? (i := 1272) (by decide +kernel)⟩
theorem lw_p69 : lw_okq (⟨"HorsesOwnWaysModel", "drawnBy", "(I)I"⟩, 49) := ⟨⟨by decide +kernel, by decide +kernel⟩, List.mem_of_getElem? (i := 864) (by decide +kernel), List.mem_of_getElem? (i := 1292) (by decide +kernel), List.mem_of_getElem? (i := 1293) (by decide +kernel)⟩
def lw_privs_5 : List (MethodName × Nat) := [(⟨"HorsesOwnWaysModel", "wayTo", "(I)V"⟩, 49), (⟨"HorsesOwnWaysModel", "waySet", "()I"⟩, 49), (⟨"HorsesOwnWaysModel", "soonTo", "(III)I"⟩, 49), (⟨"HorsesOwnWaysModel", "ridden", "(I)I"⟩, 49), (⟨"HorsesOwnWaysModel", "isTold", "(II)Z"⟩, 49), (⟨"HorsesOwnWaysModel", "drawnBy", "(I)I"⟩, 49)]
theorem lw_r5 : ∀ q ∈ lw_privs_5, lw_okq q := List.forall_mem_cons.mpr ⟨lw_p64, List.forall_mem_cons.mpr ⟨lw_p65, List.forall_mem_cons.mpr ⟨lw_p66, List.forall_mem_cons.mpr ⟨lw_p67, List.forall_mem_cons.mpr ⟨lw_p68, List.forall_mem_cons.mpr ⟨lw_p69, fun _ h => absurd h List.not_mem_nil⟩⟩⟩⟩⟩⟩
def lw_privs : List (MethodName × Nat) := lw_privs_1 ++ (lw_privs_2 ++ (lw_privs_3 ++ (lw_privs_4 ++ (lw_privs_5))))
def lw_tbl : List Cond := k2_sels lw_privs ++ tables_1
theorem lw_privs_ok : ∀ q ∈ lw_privs, lw_okq q := by
  show ∀ q ∈ lw_privs_1 ++ (lw_privs_2 ++ (lw_privs_3 ++ (lw_privs_4 ++ (lw_privs_5)))), lw_okq q
  exact List.forall_mem_append.mpr ⟨lw_r1, List.forall_mem_append.mpr ⟨lw_r2, List.forall_mem_append.mpr ⟨lw_r3, List.forall_mem_append.mpr ⟨lw_r4, lw_r5⟩⟩⟩⟩
end
section
def RX0 : String := "HorsesOwnWays$Horse"
def TX0 : u_T := fun k => match k with
  | 0 => ("HorsesOwnWays$Horse", "kind", "I", false)
  | 1 => ("HorsesOwnWays$Horse", "from", "I", false)
  | 2 => ("HorsesOwnWays$Horse", "to", "I", false)
  | 3 => ("HorsesOwnWays$Horse", "told", "I", false)
  | 4 => ("HorsesOwnWays$Horse", "more", "I", false)
  | 5 => ("HorsesOwnWays$Horse", "ready", "I", false)
  | 6 => ("HorsesOwnWays$Horse", "saidOut", "I", false)
  | 7 => ("HorsesOwnWays$Horse", "saidHome", "I", false)
  | _ => ("HorsesOwnWays$Horse", "dies", "I", false)
def tyX0 : Nat → FieldType := fun k => match k with
  | 0 => .int
  | 1 => .int
  | 2 => .int
  | 3 => .int
  | 4 => .int
  | 5 => .int
  | 6 => .int
  | 7 => .int
  | _ => .int
abbrev wsX00 : List Cond := u_ws RX0 TX0 9
theorem nmX0 : ∀ a, a < 9 → ∀ b, b < 9 → a ≠ b → (TX0 a).2.1 ≠ (TX0 b).2.1 := by decide +kernel
theorem tyX0_ok : ∀ k, k < 9 → parseFieldDescriptor (TX0 k).2.2.1 = some (tyX0 k) := by decide +kernel
abbrev cX0_init : ByteArray := prog_2_method_1_code
def yX0_init : MethodName := ⟨RX0, "<init>", "()V"⟩
abbrev cX0_become : ByteArray := prog_2_method_2_code
def yX0_become : MethodName := ⟨RX0, "become", "(IIIII)V"⟩
abbrev cX0_named : ByteArray := prog_2_method_3_code
def yX0_named : MethodName := ⟨RX0, "named", "(II)I"⟩
abbrev cX0_isOne : ByteArray := prog_2_method_4_code
def yX0_isOne : MethodName := ⟨RX0, "isOne", "(I)Z"⟩
abbrev cX0_goesFrom : ByteArray := prog_2_method_5_code
def yX0_goesFrom : MethodName := ⟨RX0, "goesFrom", "(I)I"⟩
abbrev cX0_goesToAndFro : ByteArray := prog_2_method_6_code
def yX0_goesToAndFro : MethodName := ⟨RX0, "goesToAndFro", "(I)I"⟩
abbrev cX0_out : ByteArray := prog_2_method_7_code
def yX0_out : MethodName := ⟨RX0, "out", "()I"⟩
abbrev cX0_home : ByteArray := prog_2_method_8_code
def yX0_home : MethodName := ⟨RX0, "home", "()I"⟩
abbrev cX0_arrives : ByteArray := prog_2_method_9_code
def yX0_arrives : MethodName := ⟨RX0, "arrives", "(I)I"⟩
def RX1 : String := "HorsesOwnWays$Image"
def TX1 : u_T := fun k => match k with
  | 0 => ("HorsesOwnWays$Image", "walks", "[[I", true)
  | 1 => ("HorsesOwnWays$Image", "ready", "[I", true)
  | 2 => ("HorsesOwnWays$Image", "there", "Z", false)
  | 3 => ("HorsesOwnWays$Image", "horseCount", "I", false)
  | 4 => ("HorsesOwnWays$Image", "rideCount", "I", false)
  | _ => ("HorsesOwnWays$Image", "law", "I", false)
def tyX1 : Nat → FieldType := fun k => match k with
  | 0 => .array (.array .int)
  | 1 => .array .int
  | 2 => .boolean
  | 3 => .int
  | 4 => .int
  | _ => .int
abbrev wsX10 : List Cond := u_ws RX1 TX1 6
theorem nmX1 : ∀ a, a < 6 → ∀ b, b < 6 → a ≠ b → (TX1 a).2.1 ≠ (TX1 b).2.1 := by decide +kernel
theorem tyX1_ok : ∀ k, k < 6 → parseFieldDescriptor (TX1 k).2.2.1 = some (tyX1 k) := by decide +kernel
abbrev cX1_init : ByteArray := prog_3_method_1_code
def yX1_init : MethodName := ⟨RX1, "<init>", "()V"⟩
def RX2 : String := "HorsesOwnWays$Reader"
def TX2 : u_T := fun k => match k with
  | 0 => ("HorsesOwnWays$Reader", "tape", "LHorsesOwnWays$Tape;", true)
  | 1 => ("HorsesOwnWays$Reader", "token", "I", false)
  | _ => ("HorsesOwnWays$Reader", "fault", "I", false)
def tyX2 : Nat → FieldType := fun k => match k with
  | 0 => .object "HorsesOwnWays$Tape"
  | 1 => .int
  | _ => .int
abbrev wsX20 : List Cond := u_ws RX2 TX2 3
theorem nmX2 : ∀ a, a < 3 → ∀ b, b < 3 → a ≠ b → (TX2 a).2.1 ≠ (TX2 b).2.1 := by decide +kernel
theorem tyX2_ok : ∀ k, k < 3 → parseFieldDescriptor (TX2 k).2.2.1 = some (tyX2 k) := by decide +kernel
abbrev cX2_init : ByteArray := prog_4_method_1_code
def yX2_init : MethodName := ⟨RX2, "<init>", "()V"⟩
abbrev cX2_read : ByteArray := prog_4_method_2_code
def yX2_read : MethodName := ⟨RX2, "read", "(LHorsesOwnWays$Text;)I"⟩
abbrev cX2_expect : ByteArray := prog_4_method_3_code
def yX2_expect : MethodName := ⟨RX2, "expect", "(I)V"⟩
abbrev cX2_fail : ByteArray := prog_4_method_4_code
def yX2_fail : MethodName := ⟨RX2, "fail", "()V"⟩
abbrev cX2_readOr : ByteArray := prog_4_method_5_code
def yX2_readOr : MethodName := ⟨RX2, "readOr", "(LHorsesOwnWays$Text;I)V"⟩
abbrev cX2_readAnd : ByteArray := prog_4_method_6_code
def yX2_readAnd : MethodName := ⟨RX2, "readAnd", "(LHorsesOwnWays$Text;I)V"⟩
abbrev cX2_readNot : ByteArray := prog_4_method_7_code
def yX2_readNot : MethodName := ⟨RX2, "readNot", "(LHorsesOwnWays$Text;I)V"⟩
abbrev cX2_readComparison : ByteArray := prog_4_method_8_code
def yX2_readComparison : MethodName := ⟨RX2, "readComparison", "(LHorsesOwnWays$Text;I)V"⟩
abbrev cX2_readSum : ByteArray := prog_4_method_9_code
def yX2_readSum : MethodName := ⟨RX2, "readSum", "(LHorsesOwnWays$Text;I)V"⟩
abbrev cX2_readTerm : ByteArray := prog_4_method_10_code
def yX2_readTerm : MethodName := ⟨RX2, "readTerm", "(LHorsesOwnWays$Text;I)V"⟩
abbrev cX2_readOne : ByteArray := prog_4_method_11_code
def yX2_readOne : MethodName := ⟨RX2, "readOne", "(LHorsesOwnWays$Text;I)V"⟩
def RX3 : String := "HorsesOwnWays$Search"
def TX3 : u_T := fun k => match k with
  | 0 => ("HorsesOwnWays$Search", "soon", "[I", true)
  | 1 => ("HorsesOwnWays$Search", "by", "[I", true)
  | 2 => ("HorsesOwnWays$Search", "before", "[I", true)
  | 3 => ("HorsesOwnWays$Search", "left", "[Z", true)
  | 4 => ("HorsesOwnWays$Search", "piecesFromLast", "[I", true)
  | 5 => ("HorsesOwnWays$Search", "pieceCount", "I", false)
  | 6 => ("HorsesOwnWays$Search", "wayHorses", "I", false)
  | _ => ("HorsesOwnWays$Search", "wayWalks", "I", false)
def tyX3 : Nat → FieldType := fun k => match k with
  | 0 => .array .int
  | 1 => .array .int
  | 2 => .array .int
  | 3 => .array .boolean
  | 4 => .array .int
  | 5 => .int
  | 6 => .int
  | _ => .int
abbrev wsX30 : List Cond := u_ws RX3 TX3 8
theorem nmX3 : ∀ a, a < 8 → ∀ b, b < 8 → a ≠ b → (TX3 a).2.1 ≠ (TX3 b).2.1 := by decide +kernel
theorem tyX3_ok : ∀ k, k < 8 → parseFieldDescriptor (TX3 k).2.2.1 = some (tyX3 k) := by decide +kernel
abbrev cX3_init : ByteArray := prog_5_method_1_code
def yX3_init : MethodName := ⟨RX3, "<init>", "()V"⟩
abbrev cX3_setOut : ByteArray := prog_5_method_2_code
def yX3_setOut : MethodName := ⟨RX3, "setOut", "([[I[LHorsesOwnWays$Horse;III)V"⟩
abbrev cX3_soonestNotLeft : ByteArray := prog_5_method_3_code
def yX3_soonestNotLeft : MethodName := ⟨RX3, "soonestNotLeft", "()I"⟩
abbrev cX3_leaveByHorse : ByteArray := prog_5_method_4_code
def yX3_leaveByHorse : MethodName := ⟨RX3, "leaveByHorse", "([LHorsesOwnWays$Horse;II)V"⟩
abbrev cX3_leaveOnFoot : ByteArray := prog_5_method_5_code
def yX3_leaveOnFoot : MethodName := ⟨RX3, "leaveOnFoot", "([II)V"⟩
abbrev cX3_arrive : ByteArray := prog_5_method_6_code
def yX3_arrive : MethodName := ⟨RX3, "arrive", "(IIII)V"⟩
abbrev cX3_soonAt : ByteArray := prog_5_method_7_code
def yX3_soonAt : MethodName := ⟨RX3, "soonAt", "(I)I"⟩
abbrev cX3_greatestSoon : ByteArray := prog_5_method_8_code
def yX3_greatestSoon : MethodName := ⟨RX3, "greatestSoon", "()I"⟩
abbrev cX3_traceTo : ByteArray := prog_5_method_9_code
def yX3_traceTo : MethodName := ⟨RX3, "traceTo", "(I)V"⟩
abbrev cX3_pieceAt : ByteArray := prog_5_method_10_code
def yX3_pieceAt : MethodName := ⟨RX3, "pieceAt", "(I)I"⟩
abbrev cX3_firstHorse : ByteArray := prog_5_method_11_code
def yX3_firstHorse : MethodName := ⟨RX3, "firstHorse", "()I"⟩
def RX4 : String := "HorsesOwnWays$Sheet"
def TX4 : u_T := fun k => match k with
  | 0 => ("HorsesOwnWays$Sheet", "numbers", "[I", true)
  | 1 => ("HorsesOwnWays$Sheet", "sort", "I", false)
  | _ => ("HorsesOwnWays$Sheet", "size", "I", false)
def tyX4 : Nat → FieldType := fun k => match k with
  | 0 => .array .int
  | 1 => .int
  | _ => .int
abbrev wsX40 : List Cond := u_ws RX4 TX4 3
theorem nmX4 : ∀ a, a < 3 → ∀ b, b < 3 → a ≠ b → (TX4 a).2.1 ≠ (TX4 b).2.1 := by decide +kernel
theorem tyX4_ok : ∀ k, k < 3 → parseFieldDescriptor (TX4 k).2.2.1 = some (tyX4 k) := by decide +kernel
abbrev cX4_init : ByteArray := prog_6_method_1_code
def yX4_init : MethodName := ⟨RX4, "<init>", "()V"⟩
abbrev cX4_become : ByteArray := prog_6_method_2_code
def yX4_become : MethodName := ⟨RX4, "become", "(II)V"⟩
abbrev cX4_isMissing : ByteArray := prog_6_method_3_code
def yX4_isMissing : MethodName := ⟨RX4, "isMissing", "()Z"⟩
abbrev cX4_holds : ByteArray := prog_6_method_4_code
def yX4_holds : MethodName := ⟨RX4, "holds", "(II)Z"⟩
abbrev cX4_numberAt : ByteArray := prog_6_method_5_code
def yX4_numberAt : MethodName := ⟨RX4, "numberAt", "(I)I"⟩
abbrev cX4_put : ByteArray := prog_6_method_6_code
def yX4_put : MethodName := ⟨RX4, "put", "(II)V"⟩
def RX5 : String := "HorsesOwnWays$Tape"
def TX5 : u_T := fun k => match k with
  | 0 => ("HorsesOwnWays$Tape", "bytes", "[I", true)
  | 1 => ("HorsesOwnWays$Tape", "size", "I", false)
  | 2 => ("HorsesOwnWays$Tape", "place", "I", false)
  | 3 => ("HorsesOwnWays$Tape", "start", "I", false)
  | _ => ("HorsesOwnWays$Tape", "number", "I", false)
def tyX5 : Nat → FieldType := fun k => match k with
  | 0 => .array .int
  | 1 => .int
  | 2 => .int
  | 3 => .int
  | _ => .int
abbrev wsX50 : List Cond := u_ws RX5 TX5 5
theorem nmX5 : ∀ a, a < 5 → ∀ b, b < 5 → a ≠ b → (TX5 a).2.1 ≠ (TX5 b).2.1 := by decide +kernel
theorem tyX5_ok : ∀ k, k < 5 → parseFieldDescriptor (TX5 k).2.2.1 = some (tyX5 k) := by decide +kernel
abbrev cX5_init : ByteArray := prog_7_method_1_code
def yX5_init : MethodName := ⟨RX5, "<init>", "()V"⟩
abbrev cX5_add : ByteArray := prog_7_method_2_code
def yX5_add : MethodName := ⟨RX5, "add", "(I)V"⟩
abbrev cX5_clear : ByteArray := prog_7_method_3_code
def yX5_clear : MethodName := ⟨RX5, "clear", "()V"⟩
abbrev cX5_rewind : ByteArray := prog_7_method_4_code
def yX5_rewind : MethodName := ⟨RX5, "rewind", "()V"⟩
abbrev cX5_next : ByteArray := prog_7_method_5_code
def yX5_next : MethodName := ⟨RX5, "next", "()I"⟩
abbrev cX5_isLetter : ByteArray := prog_7_method_6_code
def yX5_isLetter : MethodName := ⟨RX5, "isLetter", "()Z"⟩
abbrev cX5_isDigit : ByteArray := prog_7_method_7_code
def yX5_isDigit : MethodName := ⟨RX5, "isDigit", "()Z"⟩
abbrev cX5_nextWord : ByteArray := prog_7_method_8_code
def yX5_nextWord : MethodName := ⟨RX5, "nextWord", "()I"⟩
abbrev cX5_isWord : ByteArray := prog_7_method_9_code
def yX5_isWord : MethodName := ⟨RX5, "isWord", "(I)Z"⟩
abbrev cX5_nextNumber : ByteArray := prog_7_method_10_code
def yX5_nextNumber : MethodName := ⟨RX5, "nextNumber", "()I"⟩
def RX6 : String := "HorsesOwnWays$Text"
def TX6 : u_T := fun k => match k with
  | 0 => ("HorsesOwnWays$Text", "steps", "[I", true)
  | 1 => ("HorsesOwnWays$Text", "ends", "[I", true)
  | 2 => ("HorsesOwnWays$Text", "stack", "[I", true)
  | _ => ("HorsesOwnWays$Text", "size", "I", false)
def tyX6 : Nat → FieldType := fun k => match k with
  | 0 => .array .int
  | 1 => .array .int
  | 2 => .array .int
  | _ => .int
abbrev wsX60 : List Cond := u_ws RX6 TX6 4
theorem nmX6 : ∀ a, a < 4 → ∀ b, b < 4 → a ≠ b → (TX6 a).2.1 ≠ (TX6 b).2.1 := by decide +kernel
theorem tyX6_ok : ∀ k, k < 4 → parseFieldDescriptor (TX6 k).2.2.1 = some (tyX6 k) := by decide +kernel
abbrev cX6_init : ByteArray := prog_8_method_1_code
def yX6_init : MethodName := ⟨RX6, "<init>", "()V"⟩
abbrev cX6_clear : ByteArray := prog_8_method_2_code
def yX6_clear : MethodName := ⟨RX6, "clear", "()V"⟩
abbrev cX6_add : ByteArray := prog_8_method_3_code
def yX6_add : MethodName := ⟨RX6, "add", "(I)V"⟩
abbrev cX6_endPart : ByteArray := prog_8_method_4_code
def yX6_endPart : MethodName := ⟨RX6, "endPart", "(I)V"⟩
abbrev cX6_says : ByteArray := prog_8_method_5_code
def yX6_says : MethodName := ⟨RX6, "says", "(ILHorsesOwnWays$Horse;I)I"⟩
abbrev cX6_take : ByteArray := prog_8_method_6_code
def yX6_take : MethodName := ⟨RX6, "take", "(IILHorsesOwnWays$Horse;I)I"⟩
abbrev cX6_push : ByteArray := prog_8_method_7_code
def yX6_push : MethodName := ⟨RX6, "push", "(II)I"⟩
abbrev cX6_joined : ByteArray := prog_8_method_8_code
def yX6_joined : MethodName := ⟨RX6, "joined", "(III)I"⟩
def RX7 : String := "HorsesOwnWays"
def TX7 : u_T := fun k => match k with
  | 0 => ("HorsesOwnWays", "walks", "[[I", true)
  | 1 => ("HorsesOwnWays", "horses", "[LHorsesOwnWays$Horse;", true)
  | 2 => ("HorsesOwnWays", "rideFrom", "[I", true)
  | 3 => ("HorsesOwnWays", "rideTo", "[I", true)
  | 4 => ("HorsesOwnWays", "texts", "[LHorsesOwnWays$Text;", true)
  | 5 => ("HorsesOwnWays", "reader", "LHorsesOwnWays$Reader;", true)
  | 6 => ("HorsesOwnWays", "search", "LHorsesOwnWays$Search;", true)
  | 7 => ("HorsesOwnWays", "kept", "LHorsesOwnWays$Image;", true)
  | 8 => ("HorsesOwnWays", "sheets", "[LHorsesOwnWays$Sheet;", true)
  | 9 => ("HorsesOwnWays", "horseCount", "I", false)
  | 10 => ("HorsesOwnWays", "rideCount", "I", false)
  | 11 => ("HorsesOwnWays", "textCount", "I", false)
  | _ => ("HorsesOwnWays", "law", "I", false)
def tyX7 : Nat → FieldType := fun k => match k with
  | 0 => .array (.array .int)
  | 1 => .array (.object "HorsesOwnWays$Horse")
  | 2 => .array .int
  | 3 => .array .int
  | 4 => .array (.object "HorsesOwnWays$Text")
  | 5 => .object "HorsesOwnWays$Reader"
  | 6 => .object "HorsesOwnWays$Search"
  | 7 => .object "HorsesOwnWays$Image"
  | 8 => .array (.object "HorsesOwnWays$Sheet")
  | 9 => .int
  | 10 => .int
  | 11 => .int
  | _ => .int
abbrev wsX70 : List Cond := u_ws RX7 TX7 13
theorem nmX7 : ∀ a, a < 13 → ∀ b, b < 13 → a ≠ b → (TX7 a).2.1 ≠ (TX7 b).2.1 := by decide +kernel
theorem tyX7_ok : ∀ k, k < 13 → parseFieldDescriptor (TX7 k).2.2.1 = some (tyX7 k) := by decide +kernel
abbrev cX7_init : ByteArray := prog_1_method_1_code
def yX7_init : MethodName := ⟨RX7, "<init>", "()V"⟩
abbrev cX7_path : ByteArray := prog_1_method_2_code
def yX7_path : MethodName := ⟨RX7, "path", "(III)I"⟩
abbrev cX7_pathTold : ByteArray := prog_1_method_3_code
def yX7_pathTold : MethodName := ⟨RX7, "pathTold", "(II)I"⟩
abbrev cX7_ride : ByteArray := prog_1_method_4_code
def yX7_ride : MethodName := ⟨RX7, "ride", "(II)I"⟩
abbrev cX7_rideTold : ByteArray := prog_1_method_5_code
def yX7_rideTold : MethodName := ⟨RX7, "rideTold", "(II)I"⟩
abbrev cX7_count : ByteArray := prog_1_method_6_code
def yX7_count : MethodName := ⟨RX7, "count", "(I)I"⟩
abbrev cX7_feed : ByteArray := prog_1_method_7_code
def yX7_feed : MethodName := ⟨RX7, "feed", "(IIIIII)I"⟩
abbrev cX7_text : ByteArray := prog_1_method_8_code
def yX7_text : MethodName := ⟨RX7, "text", "()I"⟩
abbrev cX7_force : ByteArray := prog_1_method_9_code
def yX7_force : MethodName := ⟨RX7, "force", "(I)I"⟩
abbrev cX7_asks : ByteArray := prog_1_method_10_code
def yX7_asks : MethodName := ⟨RX7, "asks", "(II)I"⟩
abbrev cX7_horse : ByteArray := prog_1_method_11_code
def yX7_horse : MethodName := ⟨RX7, "horse", "(IIII)I"⟩
abbrev cX7_stand : ByteArray := prog_1_method_12_code
def yX7_stand : MethodName := ⟨RX7, "stand", "(II)I"⟩
abbrev cX7_told : ByteArray := prog_1_method_13_code
def yX7_told : MethodName := ⟨RX7, "told", "(II)I"⟩
abbrev cX7_goes : ByteArray := prog_1_method_14_code
def yX7_goes : MethodName := ⟨RX7, "goes", "(II)I"⟩
abbrev cX7_at : ByteArray := prog_1_method_15_code
def yX7_at : MethodName := ⟨RX7, "at", "(I)I"⟩
abbrev cX7_soonest : ByteArray := prog_1_method_16_code
def yX7_soonest : MethodName := ⟨RX7, "soonest", "(III)I"⟩
abbrev cX7_piece : ByteArray := prog_1_method_17_code
def yX7_piece : MethodName := ⟨RX7, "piece", "(III)I"⟩
abbrev cX7_both : ByteArray := prog_1_method_18_code
def yX7_both : MethodName := ⟨RX7, "both", "(III)I"⟩
abbrev cX7_all : ByteArray := prog_1_method_19_code
def yX7_all : MethodName := ⟨RX7, "all", "()I"⟩
abbrev cX7_worth : ByteArray := prog_1_method_20_code
def yX7_worth : MethodName := ⟨RX7, "worth", "(I)I"⟩
abbrev cX7_teach : ByteArray := prog_1_method_21_code
def yX7_teach : MethodName := ⟨RX7, "teach", "(I)I"⟩
abbrev cX7_move : ByteArray := prog_1_method_22_code
def yX7_move : MethodName := ⟨RX7, "move", "(II)I"⟩
abbrev cX7_cut : ByteArray := prog_1_method_23_code
def yX7_cut : MethodName := ⟨RX7, "cut", "(III)I"⟩
abbrev cX7_lost : ByteArray := prog_1_method_24_code
def yX7_lost : MethodName := ⟨RX7, "lost", "(III)J"⟩
abbrev cX7_needed : ByteArray := prog_1_method_25_code
def yX7_needed : MethodName := ⟨RX7, "needed", "(III)I"⟩
abbrev cX7_again : ByteArray := prog_1_method_26_code
def yX7_again : MethodName := ⟨RX7, "again", "(II)I"⟩
abbrev cX7_doctor : ByteArray := prog_1_method_27_code
def yX7_doctor : MethodName := ⟨RX7, "doctor", "(I)I"⟩
abbrev cX7_judge : ByteArray := prog_1_method_28_code
def yX7_judge : MethodName := ⟨RX7, "judge", "(III)I"⟩
abbrev cX7_wet : ByteArray := prog_1_method_29_code
def yX7_wet : MethodName := ⟨RX7, "wet", "(II)I"⟩
abbrev cX7_whence : ByteArray := prog_1_method_30_code
def yX7_whence : MethodName := ⟨RX7, "whence", "(I)I"⟩
abbrev cX7_laws : ByteArray := prog_1_method_31_code
def yX7_laws : MethodName := ⟨RX7, "laws", "(II)I"⟩
abbrev cX7_film : ByteArray := prog_1_method_32_code
def yX7_film : MethodName := ⟨RX7, "film", "(II)I"⟩
abbrev cX7_drawn : ByteArray := prog_1_method_33_code
def yX7_drawn : MethodName := ⟨RX7, "drawn", "(I)I"⟩
abbrev cX7_mean : ByteArray := prog_1_method_34_code
def yX7_mean : MethodName := ⟨RX7, "mean", "(IIIII)J"⟩
abbrev cX7_image : ByteArray := prog_1_method_35_code
def yX7_image : MethodName := ⟨RX7, "image", "()I"⟩
abbrev cX7_back : ByteArray := prog_1_method_36_code
def yX7_back : MethodName := ⟨RX7, "back", "()I"⟩
abbrev cX7_sheet : ByteArray := prog_1_method_37_code
def yX7_sheet : MethodName := ⟨RX7, "sheet", "(III)I"⟩
abbrev cX7_cell : ByteArray := prog_1_method_38_code
def yX7_cell : MethodName := ⟨RX7, "cell", "(III)I"⟩
abbrev cX7_copy : ByteArray := prog_1_method_39_code
def yX7_copy : MethodName := ⟨RX7, "copy", "(IIIII)I"⟩
abbrev cX7_horsesBy : ByteArray := prog_1_method_40_code
def yX7_horsesBy : MethodName := ⟨RX7, "horsesBy", "(IIII)I"⟩
abbrev cX7_taken : ByteArray := prog_1_method_41_code
def yX7_taken : MethodName := ⟨RX7, "taken", "(II)I"⟩
abbrev cX7_isWithin : ByteArray := prog_1_method_42_code
def yX7_isWithin : MethodName := ⟨RX7, "isWithin", "(III)Z"⟩
abbrev cX7_isPlace : ByteArray := prog_1_method_43_code
def yX7_isPlace : MethodName := ⟨RX7, "isPlace", "(I)Z"⟩
abbrev cX7_isWay : ByteArray := prog_1_method_44_code
def yX7_isWay : MethodName := ⟨RX7, "isWay", "(II)Z"⟩
abbrev cX7_isByte : ByteArray := prog_1_method_45_code
def yX7_isByte : MethodName := ⟨RX7, "isByte", "(I)Z"⟩
abbrev cX7_areBytes : ByteArray := prog_1_method_46_code
def yX7_areBytes : MethodName := ⟨RX7, "areBytes", "(IIIII)Z"⟩
abbrev cX7_isSheet : ByteArray := prog_1_method_47_code
def yX7_isSheet : MethodName := ⟨RX7, "isSheet", "(I)Z"⟩
abbrev cX7_isHorse : ByteArray := prog_1_method_48_code
def yX7_isHorse : MethodName := ⟨RX7, "isHorse", "(I)Z"⟩
abbrev cX7_isRide : ByteArray := prog_1_method_49_code
def yX7_isRide : MethodName := ⟨RX7, "isRide", "(I)Z"⟩
abbrev cX7_isIn : ByteArray := prog_1_method_50_code
def yX7_isIn : MethodName := ⟨RX7, "isIn", "(II)Z"⟩
abbrev cX7_setWalk : ByteArray := prog_1_method_51_code
def yX7_setWalk : MethodName := ⟨RX7, "setWalk", "(III)V"⟩
abbrev cX7_setFrom : ByteArray := prog_1_method_52_code
def yX7_setFrom : MethodName := ⟨RX7, "setFrom", "(LHorsesOwnWays$Horse;I)V"⟩
abbrev cX7_setLaw : ByteArray := prog_1_method_53_code
def yX7_setLaw : MethodName := ⟨RX7, "setLaw", "(I)V"⟩
abbrev cX7_hearLawAll : ByteArray := prog_1_method_54_code
def yX7_hearLawAll : MethodName := ⟨RX7, "hearLawAll", "()V"⟩
abbrev cX7_hearLaw : ByteArray := prog_1_method_55_code
def yX7_hearLaw : MethodName := ⟨RX7, "hearLaw", "(LHorsesOwnWays$Horse;)V"⟩
abbrev cX7_bounded : ByteArray := prog_1_method_56_code
def yX7_bounded : MethodName := ⟨RX7, "bounded", "(III)I"⟩
abbrev cX7_copyWalks : ByteArray := prog_1_method_57_code
def yX7_copyWalks : MethodName := ⟨RX7, "copyWalks", "([[I[[I)V"⟩
abbrev cX7_allHorses : ByteArray := prog_1_method_58_code
def yX7_allHorses : MethodName := ⟨RX7, "allHorses", "()I"⟩
abbrev cX7_soonWith : ByteArray := prog_1_method_59_code
def yX7_soonWith : MethodName := ⟨RX7, "soonWith", "(III)I"⟩
abbrev cX7_searchAll : ByteArray := prog_1_method_60_code
def yX7_searchAll : MethodName := ⟨RX7, "searchAll", "(I)V"⟩
abbrev cX7_ridden : ByteArray := prog_1_method_61_code
def yX7_ridden : MethodName := ⟨RX7, "ridden", "(I)I"⟩
abbrev cX7_lives : ByteArray := prog_1_method_62_code
def yX7_lives : MethodName := ⟨RX7, "lives", "(I)J"⟩
abbrev cX7_livingBy : ByteArray := prog_1_method_63_code
def yX7_livingBy : MethodName := ⟨RX7, "livingBy", "(I)I"⟩
abbrev cX7_greatestCommon : ByteArray := prog_1_method_64_code
def yX7_greatestCommon : MethodName := ⟨RX7, "greatestCommon", "(II)I"⟩
abbrev cX7_canBe : ByteArray := prog_1_method_65_code
def yX7_canBe : MethodName := ⟨RX7, "canBe", "(III)Z"⟩
abbrev cX7_refusalOfSoons : ByteArray := prog_1_method_66_code
def yX7_refusalOfSoons : MethodName := ⟨RX7, "refusalOfSoons", "(I)I"⟩
abbrev cX7_isSoFrom : ByteArray := prog_1_method_67_code
def yX7_isSoFrom : MethodName := ⟨RX7, "isSoFrom", "(ILHorsesOwnWays$Sheet;)Z"⟩
def RX8 : String := "HorsesOwnWaysModel"
def TX8 : u_T := fun k => match k with
  | 0 => ("HorsesOwnWaysModel", "walk", "[I", true)
  | 1 => ("HorsesOwnWaysModel", "rides", "I", false)
  | 2 => ("HorsesOwnWaysModel", "rideFrom", "[I", true)
  | 3 => ("HorsesOwnWaysModel", "rideTo", "[I", true)
  | 4 => ("HorsesOwnWaysModel", "horses", "I", false)
  | 5 => ("HorsesOwnWaysModel", "kind", "[I", true)
  | 6 => ("HorsesOwnWaysModel", "from", "[I", true)
  | 7 => ("HorsesOwnWaysModel", "to", "[I", true)
  | 8 => ("HorsesOwnWaysModel", "minutes", "[I", true)
  | 9 => ("HorsesOwnWaysModel", "extra", "[I", true)
  | 10 => ("HorsesOwnWaysModel", "ready", "[I", true)
  | 11 => ("HorsesOwnWaysModel", "tape", "[I", true)
  | 12 => ("HorsesOwnWaysModel", "taped", "I", false)
  | 13 => ("HorsesOwnWaysModel", "texts", "I", false)
  | 14 => ("HorsesOwnWaysModel", "rule", "I", false)
  | 15 => ("HorsesOwnWaysModel", "codes", "[I", true)
  | 16 => ("HorsesOwnWaysModel", "codeMany", "[I", true)
  | 17 => ("HorsesOwnWaysModel", "at", "I", false)
  | 18 => ("HorsesOwnWaysModel", "token", "I", false)
  | 19 => ("HorsesOwnWaysModel", "worth", "I", false)
  | 20 => ("HorsesOwnWaysModel", "place", "I", false)
  | 21 => ("HorsesOwnWaysModel", "letters", "[C", true)
  | 22 => ("HorsesOwnWaysModel", "begins", "[I", true)
  | 23 => ("HorsesOwnWaysModel", "waits", "[I", true)
  | 24 => ("HorsesOwnWaysModel", "waiting", "I", false)
  | 25 => ("HorsesOwnWaysModel", "open", "I", false)
  | 26 => ("HorsesOwnWaysModel", "nested", "I", false)
  | 27 => ("HorsesOwnWaysModel", "compared", "[Z", true)
  | 28 => ("HorsesOwnWaysModel", "codeAt", "I", false)
  | 29 => ("HorsesOwnWaysModel", "made", "I", false)
  | 30 => ("HorsesOwnWaysModel", "stack", "[I", true)
  | 31 => ("HorsesOwnWaysModel", "names", "[I", true)
  | 32 => ("HorsesOwnWaysModel", "soon", "[I", true)
  | 33 => ("HorsesOwnWaysModel", "by", "[I", true)
  | 34 => ("HorsesOwnWaysModel", "out", "[I", true)
  | 35 => ("HorsesOwnWaysModel", "left", "[Z", true)
  | 36 => ("HorsesOwnWaysModel", "outs", "[I", true)
  | 37 => ("HorsesOwnWaysModel", "way", "[I", true)
  | 38 => ("HorsesOwnWaysModel", "pieces", "I", false)
  | 39 => ("HorsesOwnWaysModel", "kept", "Z", false)
  | 40 => ("HorsesOwnWaysModel", "walkThen", "[I", true)
  | 41 => ("HorsesOwnWaysModel", "readyThen", "[I", true)
  | 42 => ("HorsesOwnWaysModel", "horsesThen", "I", false)
  | 43 => ("HorsesOwnWaysModel", "ridesThen", "I", false)
  | 44 => ("HorsesOwnWaysModel", "ruleThen", "I", false)
  | 45 => ("HorsesOwnWaysModel", "sorts", "[I", true)
  | 46 => ("HorsesOwnWaysModel", "sizes", "[I", true)
  | 47 => ("HorsesOwnWaysModel", "items", "[I", true)
  | _ => ("HorsesOwnWaysModel", "moved", "[I", true)
def tyX8 : Nat → FieldType := fun k => match k with
  | 0 => .array .int
  | 1 => .int
  | 2 => .array .int
  | 3 => .array .int
  | 4 => .int
  | 5 => .array .int
  | 6 => .array .int
  | 7 => .array .int
  | 8 => .array .int
  | 9 => .array .int
  | 10 => .array .int
  | 11 => .array .int
  | 12 => .int
  | 13 => .int
  | 14 => .int
  | 15 => .array .int
  | 16 => .array .int
  | 17 => .int
  | 18 => .int
  | 19 => .int
  | 20 => .int
  | 21 => .array .char
  | 22 => .array .int
  | 23 => .array .int
  | 24 => .int
  | 25 => .int
  | 26 => .int
  | 27 => .array .boolean
  | 28 => .int
  | 29 => .int
  | 30 => .array .int
  | 31 => .array .int
  | 32 => .array .int
  | 33 => .array .int
  | 34 => .array .int
  | 35 => .array .boolean
  | 36 => .array .int
  | 37 => .array .int
  | 38 => .int
  | 39 => .boolean
  | 40 => .array .int
  | 41 => .array .int
  | 42 => .int
  | 43 => .int
  | 44 => .int
  | 45 => .array .int
  | 46 => .array .int
  | 47 => .array .int
  | _ => .array .int
abbrev wsX80 : List Cond := u_ws RX8 TX8 49
theorem nmX8 : ∀ a, a < 49 → ∀ b, b < 49 → a ≠ b → (TX8 a).2.1 ≠ (TX8 b).2.1 := by decide +kernel
theorem tyX8_ok : ∀ k, k < 49 → parseFieldDescriptor (TX8 k).2.2.1 = some (tyX8 k) := by decide +kernel
abbrev cX8_isIn : ByteArray := prog_10_method_1_code
def yX8_isIn : MethodName := ⟨RX8, "isIn", "(III)Z"⟩
abbrev cX8_isPlace : ByteArray := prog_10_method_2_code
def yX8_isPlace : MethodName := ⟨RX8, "isPlace", "(I)Z"⟩
abbrev cX8_isHorse : ByteArray := prog_10_method_3_code
def yX8_isHorse : MethodName := ⟨RX8, "isHorse", "(I)Z"⟩
abbrev cX8_isRide : ByteArray := prog_10_method_4_code
def yX8_isRide : MethodName := ⟨RX8, "isRide", "(I)Z"⟩
abbrev cX8_walkIs : ByteArray := prog_10_method_5_code
def yX8_walkIs : MethodName := ⟨RX8, "walkIs", "(III)V"⟩
abbrev cX8_path : ByteArray := prog_10_method_6_code
def yX8_path : MethodName := ⟨RX8, "path", "(III)I"⟩
abbrev cX8_pathTold : ByteArray := prog_10_method_7_code
def yX8_pathTold : MethodName := ⟨RX8, "pathTold", "(II)I"⟩
abbrev cX8_ride : ByteArray := prog_10_method_8_code
def yX8_ride : MethodName := ⟨RX8, "ride", "(II)I"⟩
abbrev cX8_rideTold : ByteArray := prog_10_method_9_code
def yX8_rideTold : MethodName := ⟨RX8, "rideTold", "(II)I"⟩
abbrev cX8_horseIs : ByteArray := prog_10_method_10_code
def yX8_horseIs : MethodName := ⟨RX8, "horseIs", "(IIIIII)V"⟩
abbrev cX8_horse : ByteArray := prog_10_method_11_code
def yX8_horse : MethodName := ⟨RX8, "horse", "(IIII)I"⟩
abbrev cX8_stand : ByteArray := prog_10_method_12_code
def yX8_stand : MethodName := ⟨RX8, "stand", "(II)I"⟩
abbrev cX8_whither : ByteArray := prog_10_method_13_code
def yX8_whither : MethodName := ⟨RX8, "whither", "(II)I"⟩
abbrev cX8_outOf : ByteArray := prog_10_method_14_code
def yX8_outOf : MethodName := ⟨RX8, "outOf", "(I)I"⟩
abbrev cX8_homeOf : ByteArray := prog_10_method_15_code
def yX8_homeOf : MethodName := ⟨RX8, "homeOf", "(I)I"⟩
abbrev cX8_told : ByteArray := prog_10_method_16_code
def yX8_told : MethodName := ⟨RX8, "told", "(II)I"⟩
abbrev cX8_goes : ByteArray := prog_10_method_17_code
def yX8_goes : MethodName := ⟨RX8, "goes", "(II)I"⟩
abbrev cX8_at : ByteArray := prog_10_method_18_code
def yX8_at : MethodName := ⟨RX8, "at", "(I)I"⟩
abbrev cX8_feed : ByteArray := prog_10_method_19_code
def yX8_feed : MethodName := ⟨RX8, "feed", "(IIIIII)I"⟩
abbrev cX8_isLetter : ByteArray := prog_10_method_20_code
def yX8_isLetter : MethodName := ⟨RX8, "isLetter", "(I)Z"⟩
abbrev cX8_isDigit : ByteArray := prog_10_method_21_code
def yX8_isDigit : MethodName := ⟨RX8, "isDigit", "(I)Z"⟩
abbrev cX8_readWord : ByteArray := prog_10_method_22_code
def yX8_readWord : MethodName := ⟨RX8, "readWord", "()V"⟩
abbrev cX8_readNumber : ByteArray := prog_10_method_23_code
def yX8_readNumber : MethodName := ⟨RX8, "readNumber", "()V"⟩
abbrev cX8_next : ByteArray := prog_10_method_24_code
def yX8_next : MethodName := ⟨RX8, "next", "()V"⟩
abbrev cX8_isSign : ByteArray := prog_10_method_25_code
def yX8_isSign : MethodName := ⟨RX8, "isSign", "(I)Z"⟩
abbrev cX8_isKey : ByteArray := prog_10_method_26_code
def yX8_isKey : MethodName := ⟨RX8, "isKey", "(I)Z"⟩
abbrev cX8_emit : ByteArray := prog_10_method_27_code
def yX8_emit : MethodName := ⟨RX8, "emit", "(I)V"⟩
abbrev cX8_rank : ByteArray := prog_10_method_28_code
def yX8_rank : MethodName := ⟨RX8, "rank", "(I)I"⟩
abbrev cX8_doAll : ByteArray := prog_10_method_29_code
def yX8_doAll : MethodName := ⟨RX8, "doAll", "(I)V"⟩
abbrev cX8_await : ByteArray := prog_10_method_30_code
def yX8_await : MethodName := ⟨RX8, "await", "(I)V"⟩
abbrev cX8_between : ByteArray := prog_10_method_31_code
def yX8_between : MethodName := ⟨RX8, "between", "()Z"⟩
abbrev cX8_closes : ByteArray := prog_10_method_32_code
def yX8_closes : MethodName := ⟨RX8, "closes", "()Z"⟩
abbrev cX8_ahead : ByteArray := prog_10_method_33_code
def yX8_ahead : MethodName := ⟨RX8, "ahead", "(Z)Z"⟩
abbrev cX8_readE : ByteArray := prog_10_method_34_code
def yX8_readE : MethodName := ⟨RX8, "readE", "(I)Z"⟩
abbrev cX8_readAll : ByteArray := prog_10_method_35_code
def yX8_readAll : MethodName := ⟨RX8, "readAll", "(I)I"⟩
abbrev cX8_text : ByteArray := prog_10_method_36_code
def yX8_text : MethodName := ⟨RX8, "text", "()I"⟩
abbrev cX8_force : ByteArray := prog_10_method_37_code
def yX8_force : MethodName := ⟨RX8, "force", "(I)I"⟩
abbrev cX8_init : ByteArray := prog_10_method_38_code
def yX8_init : MethodName := ⟨RX8, "<init>", "()V"⟩
abbrev cX8_done : ByteArray := prog_10_method_39_code
def yX8_done : MethodName := ⟨RX8, "done", "(III)I"⟩
abbrev cX8_worthOf : ByteArray := prog_10_method_40_code
def yX8_worthOf : MethodName := ⟨RX8, "worthOf", "(II)I"⟩
abbrev cX8_asks : ByteArray := prog_10_method_41_code
def yX8_asks : MethodName := ⟨RX8, "asks", "(II)I"⟩
abbrev cX8_count : ByteArray := prog_10_method_42_code
def yX8_count : MethodName := ⟨RX8, "count", "(I)I"⟩
abbrev cX8_come : ByteArray := prog_10_method_43_code
def yX8_come : MethodName := ⟨RX8, "come", "(IIII)V"⟩
abbrev cX8_leave : ByteArray := prog_10_method_44_code
def yX8_leave : MethodName := ⟨RX8, "leave", "(II)V"⟩
abbrev cX8_goFrom : ByteArray := prog_10_method_45_code
def yX8_goFrom : MethodName := ⟨RX8, "goFrom", "(II)V"⟩
abbrev cX8_everyOne : ByteArray := prog_10_method_46_code
def yX8_everyOne : MethodName := ⟨RX8, "everyOne", "()I"⟩
abbrev cX8_soonTo : ByteArray := prog_10_method_47_code
def yX8_soonTo : MethodName := ⟨RX8, "soonTo", "(III)I"⟩
abbrev cX8_wayTo : ByteArray := prog_10_method_48_code
def yX8_wayTo : MethodName := ⟨RX8, "wayTo", "(I)V"⟩
abbrev cX8_waySet : ByteArray := prog_10_method_49_code
def yX8_waySet : MethodName := ⟨RX8, "waySet", "()I"⟩
abbrev cX8_soonest : ByteArray := prog_10_method_50_code
def yX8_soonest : MethodName := ⟨RX8, "soonest", "(III)I"⟩
abbrev cX8_piece : ByteArray := prog_10_method_51_code
def yX8_piece : MethodName := ⟨RX8, "piece", "(III)I"⟩
abbrev cX8_both : ByteArray := prog_10_method_52_code
def yX8_both : MethodName := ⟨RX8, "both", "(III)I"⟩
abbrev cX8_ridden : ByteArray := prog_10_method_53_code
def yX8_ridden : MethodName := ⟨RX8, "ridden", "(I)I"⟩
abbrev cX8_all : ByteArray := prog_10_method_54_code
def yX8_all : MethodName := ⟨RX8, "all", "()I"⟩
abbrev cX8_worth : ByteArray := prog_10_method_55_code
def yX8_worth : MethodName := ⟨RX8, "worth", "(I)I"⟩
abbrev cX8_teach : ByteArray := prog_10_method_56_code
def yX8_teach : MethodName := ⟨RX8, "teach", "(I)I"⟩
abbrev cX8_move : ByteArray := prog_10_method_57_code
def yX8_move : MethodName := ⟨RX8, "move", "(II)I"⟩
abbrev cX8_cut : ByteArray := prog_10_method_58_code
def yX8_cut : MethodName := ⟨RX8, "cut", "(III)I"⟩
abbrev cX8_lost : ByteArray := prog_10_method_59_code
def yX8_lost : MethodName := ⟨RX8, "lost", "(III)J"⟩
abbrev cX8_needed : ByteArray := prog_10_method_60_code
def yX8_needed : MethodName := ⟨RX8, "needed", "(III)I"⟩
abbrev cX8_again : ByteArray := prog_10_method_61_code
def yX8_again : MethodName := ⟨RX8, "again", "(II)I"⟩
abbrev cX8_doctor : ByteArray := prog_10_method_62_code
def yX8_doctor : MethodName := ⟨RX8, "doctor", "(I)I"⟩
abbrev cX8_judge : ByteArray := prog_10_method_63_code
def yX8_judge : MethodName := ⟨RX8, "judge", "(III)I"⟩
abbrev cX8_wet : ByteArray := prog_10_method_64_code
def yX8_wet : MethodName := ⟨RX8, "wet", "(II)I"⟩
abbrev cX8_isTold : ByteArray := prog_10_method_65_code
def yX8_isTold : MethodName := ⟨RX8, "isTold", "(II)Z"⟩
abbrev cX8_whence : ByteArray := prog_10_method_66_code
def yX8_whence : MethodName := ⟨RX8, "whence", "(I)I"⟩
abbrev cX8_laws : ByteArray := prog_10_method_67_code
def yX8_laws : MethodName := ⟨RX8, "laws", "(II)I"⟩
abbrev cX8_film : ByteArray := prog_10_method_68_code
def yX8_film : MethodName := ⟨RX8, "film", "(II)I"⟩
abbrev cX8_drawnBy : ByteArray := prog_10_method_69_code
def yX8_drawnBy : MethodName := ⟨RX8, "drawnBy", "(I)I"⟩
abbrev cX8_drawn : ByteArray := prog_10_method_70_code
def yX8_drawn : MethodName := ⟨RX8, "drawn", "(I)I"⟩
abbrev cX8_divisor : ByteArray := prog_10_method_71_code
def yX8_divisor : MethodName := ⟨RX8, "divisor", "(JJ)J"⟩
abbrev cX8_mean : ByteArray := prog_10_method_72_code
def yX8_mean : MethodName := ⟨RX8, "mean", "(IIIII)J"⟩
abbrev cX8_move_ : ByteArray := prog_10_method_73_code
def yX8_move_ : MethodName := ⟨RX8, "move", "([I[I)V"⟩
abbrev cX8_image : ByteArray := prog_10_method_74_code
def yX8_image : MethodName := ⟨RX8, "image", "()I"⟩
abbrev cX8_back : ByteArray := prog_10_method_75_code
def yX8_back : MethodName := ⟨RX8, "back", "()I"⟩
abbrev cX8_isSheet : ByteArray := prog_10_method_76_code
def yX8_isSheet : MethodName := ⟨RX8, "isSheet", "(I)Z"⟩
abbrev cX8_sheet : ByteArray := prog_10_method_77_code
def yX8_sheet : MethodName := ⟨RX8, "sheet", "(III)I"⟩
abbrev cX8_cell : ByteArray := prog_10_method_78_code
def yX8_cell : MethodName := ⟨RX8, "cell", "(III)I"⟩
abbrev cX8_copy : ByteArray := prog_10_method_79_code
def yX8_copy : MethodName := ⟨RX8, "copy", "(IIIII)I"⟩
abbrev cX8_horsesBy : ByteArray := prog_10_method_80_code
def yX8_horsesBy : MethodName := ⟨RX8, "horsesBy", "(IIII)I"⟩
abbrev cX8_taken : ByteArray := prog_10_method_81_code
def yX8_taken : MethodName := ⟨RX8, "taken", "(II)I"⟩
def RL : String := "HorsesOwnWaysLaw"
abbrev cL_law : ByteArray := code
def yL_law : MethodName := ⟨RL, "law", "([I)Z"⟩
abbrev vwCl : List vw_C := [(RX0, TX0, 9), (RX1, TX1, 6), (RX2, TX2, 3), (RX3, TX3, 8), (RX4, TX4, 3), (RX5, TX5, 5), (RX6, TX6, 4), (RX7, TX7, 13), (RX8, TX8, 49)]
end
section
/-! ===== the abstract machine: addresses are numbers (0 null, below 10 externals), one heap of ints and one of references ===== -/
abbrev Mem : Type := Nat → Nat → Int32
/-- how many addresses, how many slots, kinds, lengths, references -/
abbrev HS : Type := Nat × Nat × (Nat → Nat) × (Nat → Nat) × (Nat → Nat → Nat)
/-- a method: name, bytes, locals, what it returns -/
abbrev MK : Type := MethodName × ByteArray × Nat × Option FieldType
/-- the world: the first heap, the externals' addresses, the classes' numbers and slots, the array classes, the script's length and values -/
abbrev GW : Type := Heap × (Nat → Nat) × va_G × (Nat → ClassId) × Nat × (Nat → Int32)
def TW : List Cond := lw_tbl.filter goodWord
theorem TW_in {w : Cond} (h : w ∈ TW) : w ∈ lw_tbl := (List.mem_filter.mp h).1
theorem TW_good {w : Cond} (h : w ∈ TW) : (w.onTables && w.keeps) = true ∨ ∃ ty, w = .arrayClass ty := good_of_word (List.mem_filter.mp h).2
def g_adr (G : GW) (a : Nat) : Nat := if a < 10 then G.2.1 a else G.1.size + (a - 10)
def g_rf (G : GW) (a : Nat) : Value := if a = 0 then .null else .ref (g_adr G a)
def cv (G : GW) (v : Value) : Value := match v with
  | .ref a => g_rf G a
  | .int x => .int x
  | .long x => .long x
  | w => w
def cvp (G : GW) (q : Nat × Value) : Nat × Value := (q.1, cv G q.2)
theorem cv_cat (G : GW) (v : Value) : (cv G v).category = v.category := by
  cases v with
  | ref a =>
    show (g_rf G a).category = 1
    unfold g_rf
    split <;> rfl
  | _ => rfl
def c_ty (c k : Nat) : FieldType := match c with
  | 0 => tyX0 k
  | 1 => tyX1 k
  | 2 => tyX2 k
  | 3 => tyX3 k
  | 4 => tyX4 k
  | 5 => tyX5 k
  | 6 => tyX6 k
  | 7 => tyX7 k
  | _ => tyX8 k
def g_fv (G : GW) (c k : Nat) (x : Int32) (r : Nat) : Value := if (c_ty c k).isReference then g_rf G r else .int x
def k_ty (k : Nat) : FieldType := match k with
  | 1 => .int
  | 2 => .boolean
  | 3 => .char
  | 4 => .array .int
  | 5 => .object RX0
  | 6 => .object RX6
  | _ => .object RX4
def g_tys (G : GW) : List (ClassId × FieldType) := [(G.2.2.2.1 1, .int), (G.2.2.2.1 2, .boolean), (G.2.2.2.1 3, .char), (G.2.2.2.1 4, .array .int), (G.2.2.2.1 5, .object RX0), (G.2.2.2.1 6, .object RX6), (G.2.2.2.1 7, .object RX4)]
def g_cell (G : GW) (S : HS) (μ : Mem) (a : Nat) (H : Heap) : Prop :=
  if 10 ≤ S.2.2.1 a then ∃ r : vw_C, vwCl[S.2.2.1 a - 10]? = some r ∧ t_OB (g_adr G a) (G.2.2.1.1 (S.2.2.1 a - 10)) r.2.2 (G.2.2.1.2 (S.2.2.1 a - 10)) H (fun k => g_fv G (S.2.2.1 a - 10) k (μ a k) (S.2.2.2.2 a k))
  else if S.2.2.1 a ≤ 3 then H[g_adr G a]? = some (arrV (G.2.2.2.1 (S.2.2.1 a)) (S.2.2.2.1 a) (fun j => .int (μ a j)))
  else H[g_adr G a]? = some (arrV (G.2.2.2.1 (S.2.2.1 a)) (S.2.2.2.1 a) (fun j => g_rf G (S.2.2.2.2 a j)))
def HR (G : GW) (S : HS) (μ : Mem) (H : Heap) : Prop :=
  10 ≤ S.1 ∧ H.size + 10 = G.1.size + S.1 ∧ (∀ q : Nat, q < G.1.size → H[q]? = G.1[q]?) ∧ (∀ a : Nat, S.2.2.1 a ≠ 0 → 10 ≤ a ∧ a < S.1) ∧ ∀ a : Nat, S.2.2.1 a ≠ 0 → g_cell G S μ a H
def TK (G : GW) (U : State) : Prop := va_K G.2.2.1 vwCl (g_tys G) U
/-- places at or behind the first heap's end -/
def g_A (G : GW) : Nat → Prop := fun q => G.1.size ≤ q
def rI (r : Option FieldType) : Instr := match r with
  | none => .return_
  | some .long => .lreturn
  | some _ => .ireturn
def g_fit (r : Option FieldType) (v : Option Value) : Prop := match r, v with
  | none, none => True
  | some .long, some (.long _) => True
  | some .int, some (.int _) => True
  | some .boolean, some (.int x) => narrow .boolean (.int x) = .int x
  | some .char, some (.int x) => narrow .char (.int x) = .int x
  | _, _ => False
/-- what stands outside: the script, the static row of kinds, two texts, links among nest mates -/
def kaV (j : Nat) : Int32 := [(-1 : Int32), 0, 0, 1, 2, 0].getD j 0
def scSigns : List Int32 := [40, 41, 59, 43, 45, 42, 60, 61]
def scWords : List Int32 := [111, 117, 116, 32, 32, 104, 111, 109, 101, 32, 100, 105, 101, 115, 32, 111, 114, 32, 32, 32, 97, 110, 100, 32, 32, 110, 111, 116, 32, 32, 116, 111, 108, 100, 32, 109, 111, 114, 101, 32, 102, 114, 111, 109, 32, 116, 111, 32, 32, 32, 114, 101, 97, 100, 121, 102, 97, 114, 32, 32]
def NWl : List Cond := [.methodLinkNest RX7 35 yX2_init RX7, .methodLinkNest RX2 11 yX5_init RX7, .methodLinkNest RX7 42 yX3_init RX7, .methodLinkNest RX7 49 yX1_init RX7, .methodLinkNest RX7 79 yX0_init RX7, .methodLinkNest RX7 81 yX4_init RX7, .methodLinkNest RX6 33 yX7_isWithin RX7, .methodLinkNest RX2 78 yX7_isWithin RX7, .methodLinkNest RX3 51 yX7_isIn RX7]
def va_AOi (U : State) : Prop := (Cond.arrayOver (.array .int)).before #[] U = true
theorem va_AOi.moved {u U : State} (hvm : u.vm.Alike U.vm) (h : va_AOi u) : va_AOi U := by
  obtain ⟨comp, c, k, h1, h2, h3, h4, h5⟩ := arrayOverA_spec h
  obtain ⟨k', hk', he⟩ := hvm.2.2 _ _ h3
  have hi : (U.vm.classes.findIdx? fun (x : Class) => match x.kind with | .array component _ => component == comp | _ => false) = some c := by
    rw [hvm.findIdx?_eq _ (fun _ => rfl)]
    exact h2
  have hkind : k'.kind = .array comp (.array .int) := by rw [he]; exact h4
  have f1 : U.vm.findClass (FieldType.array .int).toString = some comp := by rw [hvm.findClass]; exact h1
  have f2 : U.vm.findClass ("[" ++ (FieldType.array .int).toString) = some c := by rw [hvm.findClass]; exact h5
  unfold va_AOi Cond.before Cond.holds
  simp only [Cond.value]
  rw [f1, Option.bind_some]
  refine (congrArg (fun o : Option Nat => (o.bind (fun c => (U.vm.classes[c]?).map fun (k : Class) => match k.kind with | .array _ ty => decide (ty = FieldType.array .int) && decide (U.vm.findClass ("[" ++ (FieldType.array .int).toString) = some c) | _ => false) == some true)) hi).trans ?_
  simp [hk', hkind, f2]
def EX (G : GW) (U : State) : Prop :=
  va_X (G.2.1 1) G.2.2.2.2.1 G.2.2.2.2.2 U G.1 ∧
  va_Z "HorsesOwnWays" "KIND_ABOVE" "[I" (.ref (G.2.1 2)) (g_A G) U G.1 ∧
  va_T .int (G.2.1 2) 6 (fun j => .int (kaV j)) (g_A G) U G.1 ∧
  (vk_R RX5 42 "();+-*<=" (G.2.1 3) U ∧ vk_R RX5 54 "out  home dies or   and  not  told more from to   readyfar  " (G.2.1 4) U ∧
    vk_S 2 [8, 60] [scSigns, scWords] (fun i => G.2.1 (3 + i)) (fun i => G.2.1 (5 + i)) (g_A G) U G.1) ∧
  va_Z "java/lang/String" "COMPACT_STRINGS" "Z" (.int 1) (g_A G) U G.1 ∧
  va_Zq "jdk/internal/util/Preconditions" "SIOOBE_FORMATTER" "Ljava/util/function/BiFunction;" (g_A G) U G.1 ∧
  (∀ w ∈ NWl, va_Nw w U) ∧ va_Nw (.fieldLinkNest RX0 39 RX7 "KIND_ABOVE" "[I" RX7) U ∧
  (va_AO RX0 U ∧ va_AO RX6 U ∧ va_AO RX4 U ∧ va_AOi U)
theorem EX.warm {G : GW} {s U : State} (hW : s.WarmedH U.vm) (h : EX G s) : EX G U := by
  obtain ⟨h1, h2, h3, ⟨h4, h5, h6⟩, h7, h8, h9, h10, h11, h12, h13, h14⟩ := h
  refine ⟨va_X.moved hW.alike h1, va_Z.moved hW.alike h2, va_T.moved hW.alike h3, ⟨vk_R.warm hW h4, vk_R.warm hW h5, vk_S.moved hW.alike h6⟩, va_Z.moved hW.alike h7, va_Zq.moved hW.alike h8, ?_, va_Nw.warmF hW h10, va_AO.moved hW.alike h11, va_AO.moved hW.alike h12, va_AO.moved hW.alike h13, va_AOi.moved hW.alike h14⟩
  intro w hw
  have h := h9 w hw
  simp only [NWl, List.mem_cons, List.not_mem_nil, or_false] at hw
  rcases hw with rfl | rfl | rfl | rfl | rfl | rfl | rfl | rfl | rfl <;> exact va_Nw.warmM hW h
def CX (G : GW) (M : MK) (d : Nat) (p : Program) (R : Room) (s : State) (m : MethodId) (args : Array Value) (meth : Method) (c : Code) : Prop :=
  p.tables.exec = Jvm.exec ∧ c.code = M.2.1 ∧ c.maxLocals = M.2.2.1 ∧ s.vm.findClass M.1.cls = some m.cls ∧ (∀ w ∈ TW, w.before args s = true) ∧ meth.sig.returnType = M.2.2.2 ∧ meth.locks = false ∧ (M.1.name = "<init>" → meth.name = "<init>") ∧ (d ≤ R.frames ∧ 64 * d ≤ R.locals) ∧ TK G s ∧ EX G s
/-- from this point on, in any run, the method ends, and what it answers and leaves is in K -/
def EvW (G : GW) (M : MK) (d N Z pc : Nat) (lv : List (Nat × Value)) (st : List Value) (S : HS) (μ : Mem) (K : Option Value → HS → Mem → Prop) : Prop :=
  ∀ (p : Program) (l : Launch) (e : Env) (R : Room) (s : State) (m : MethodId) (args : Array Value) (below : List Frame) (meth : Method) (c : Code) (H : Heap) (locs : List Loc) (n0 z0 : Nat) (lsA : Array Slot) (Q : State → Prop),
    CX G M d p R s m args meth c → HR G S μ H → n0 ≤ S.1 → z0 ≤ S.2.1 → N ≤ n0 + R.cells → Z ≤ z0 + R.slots → (∀ q ∈ locs, G.1.size ≤ q.base) → lv_has lsA M.2.2.1 (lv.map (cvp G)) →
    (∀ (v : Option Value) (S' : HS) (μ' : Mem) (H' : Heap) (locs' : List Loc) (pc' : Nat) (lsA' : Array Slot), decode M.2.1 pc' = .ok (rI M.2.2.2, 1) → g_fit M.2.2.2 v → K v S' μ' → HR G S' μ' H' → S'.1 = N → S'.2.1 = Z → (∀ q ∈ locs', G.1.size ≤ q.base) →
      W p l e R s m args below meth c H' locs' (N - n0) (Z - z0) Q (F0 m pc' lsA' v.toList)) →
    W p l e R s m args below meth c H locs (S.1 - n0) (S.2.1 - z0) Q (F0 m pc lsA (st.map (cv G)))
theorem EvW.imp {G : GW} {M : MK} {d N Z pc : Nat} {lv : List (Nat × Value)} {st : List Value} {S : HS} {μ : Mem} {K K' : Option Value → HS → Mem → Prop} (h : EvW G M d N Z pc lv st S μ K) (hK : ∀ v S' μ', K v S' μ' → K' v S' μ') : EvW G M d N Z pc lv st S μ K' := by
  intro p l e R s m args below meth c H locs n0 z0 lsA Q C hH hn0 hz0 hN hZ hlo hl fin
  exact h p l e R s m args below meth c H locs n0 z0 lsA Q C hH hn0 hz0 hN hZ hlo hl (fun v S' μ' H' locs' pc' lsA' a1 a2 a3 => fin v S' μ' H' locs' pc' lsA' a1 a2 (hK _ _ _ a3))
/-- more room does no harm -/
theorem EvW.deeper {G : GW} {M : MK} {d d' N Z pc : Nat} {lv : List (Nat × Value)} {st : List Value} {S : HS} {μ : Mem} {K : Option Value → HS → Mem → Prop} (h : EvW G M d N Z pc lv st S μ K) (hd : d ≤ d') : EvW G M d' N Z pc lv st S μ K := by
  intro p l e R s m args below meth c H locs n0 z0 lsA Q C hH hn0 hz0 hN hZ hlo hl fin
  obtain ⟨c1, c2, c3, c4, c5, c6, c7, c8, ⟨c9, c10⟩, c11⟩ := C
  exact h p l e R s m args below meth c H locs n0 z0 lsA Q ⟨c1, c2, c3, c4, c5, c6, c7, c8, ⟨by omega, by omega⟩, c11⟩ hH hn0 hz0 hN hZ hlo hl fin
/-- fewer locals are known -/
theorem EvW.less {G : GW} {M : MK} {d N Z pc : Nat} {lv lv' : List (Nat × Value)} {st : List Value} {S : HS} {μ : Mem} {K : Option Value → HS → Mem → Prop} (ks : List Nat) (hl' : lv_pick lv ks = lv') (h : EvW G M d N Z pc lv' st S μ K) : EvW G M d N Z pc lv st S μ K := by
  intro p l e R s m args below meth c H locs n0 z0 lsA Q C hH hn0 hz0 hN hZ hlo hl fin
  refine h p l e R s m args below meth c H locs n0 z0 lsA Q C hH hn0 hz0 hN hZ hlo (lv_sub hl ks ?_) fin
  subst hl'
  unfold lv_pick
  rw [List.map_filterMap]
  congr 1
  funext k
  rw [List.getElem?_map]
end
section
/-! ===== rows: an instruction each ===== -/
section EV
variable {G : GW} {M : MK} {d N Z pc : Nat} {lv : List (Nat × Value)} {st : List Value} {S : HS} {μ : Mem} {K : Option Value → HS → Mem → Prop}
theorem ev_iconst {n : Int} {v : Int32} (hd : decode M.2.1 pc = .ok (.iconst n, 1)) (hv : Int32.ofInt n = v) (kk : EvW G M d N Z (pc + 1) lv (.int v :: st) S μ K) : EvW G M d N Z pc lv (st) S μ K := by
  intro p l e R s m args below meth c H locs n0 z0 lsA Q C hH hn0 hz0 hN hZ hlo hl fin
  exact lv_iconst C.1 C.2.1 hd hv (kk p l e R s m args below meth c H locs n0 z0 lsA Q C hH hn0 hz0 hN hZ hlo hl fin)
theorem ev_bipush {n : Int} {v : Int32} (hd : decode M.2.1 pc = .ok (.bipush n, 2)) (hv : (Int8.ofInt n).toInt32 = v) (kk : EvW G M d N Z (pc + 2) lv (.int v :: st) S μ K) : EvW G M d N Z pc lv (st) S μ K := by
  intro p l e R s m args below meth c H locs n0 z0 lsA Q C hH hn0 hz0 hN hZ hlo hl fin
  exact lv_bipush C.1 C.2.1 hd hv (kk p l e R s m args below meth c H locs n0 z0 lsA Q C hH hn0 hz0 hN hZ hlo hl fin)
theorem ev_sipush {n : Int} {v : Int32} (hd : decode M.2.1 pc = .ok (.sipush n, 3)) (hv : (Int16.ofInt n).toInt32 = v) (kk : EvW G M d N Z (pc + 3) lv (.int v :: st) S μ K) : EvW G M d N Z pc lv (st) S μ K := by
  intro p l e R s m args below meth c H locs n0 z0 lsA Q C hH hn0 hz0 hN hZ hlo hl fin
  exact lv_sipush C.1 C.2.1 hd hv (kk p l e R s m args below meth c H locs n0 z0 lsA Q C hH hn0 hz0 hN hZ hlo hl fin)
theorem ev_lconst {n : Fin 2} {v : Int64} (hd : decode M.2.1 pc = .ok (.lconst n, 1)) (hv : Int64.ofNat (n : Nat) = v) (kk : EvW G M d N Z (pc + 1) lv (.long v :: st) S μ K) : EvW G M d N Z pc lv (st) S μ K := by
  intro p l e R s m args below meth c H locs n0 z0 lsA Q C hH hn0 hz0 hN hZ hlo hl fin
  exact lv_lconst C.1 C.2.1 hd hv (kk p l e R s m args below meth c H locs n0 z0 lsA Q C hH hn0 hz0 hN hZ hlo hl fin)
theorem ev_ldc {i : Nat} {v : Int32} (hd : decode M.2.1 pc = .ok (.ldc i, 2)) (hw : Cond.constant M.1.cls i v ∈ TW) (kk : EvW G M d N Z (pc + 2) lv (.int v :: st) S μ K) : EvW G M d N Z pc lv (st) S μ K := by
  intro p l e R s m args below meth c H locs n0 z0 lsA Q C hH hn0 hz0 hN hZ hlo hl fin
  exact W.ldc C.1 C.2.1 C.2.2.2.1 (C.2.2.2.2.1 _ hw) rfl hd (kk p l e R s m args below meth c H locs n0 z0 lsA Q C hH hn0 hz0 hN hZ hlo hl fin)
theorem ev_ldcw {i : Nat} {v : Int32} (hd : decode M.2.1 pc = .ok (.ldc_w i, 3)) (hw : Cond.constant M.1.cls i v ∈ TW) (kk : EvW G M d N Z (pc + 3) lv (.int v :: st) S μ K) : EvW G M d N Z pc lv (st) S μ K := by
  intro p l e R s m args below meth c H locs n0 z0 lsA Q C hH hn0 hz0 hN hZ hlo hl fin
  exact lv_ldcw C.1 C.2.1 C.2.2.2.1 (C.2.2.2.2.1 _ hw) hd (kk p l e R s m args below meth c H locs n0 z0 lsA Q C hH hn0 hz0 hN hZ hlo hl fin)
theorem ev_ldc2 {i : Nat} {v : Int64} (hd : decode M.2.1 pc = .ok (.ldc2_w i, 3)) (hw : Cond.constantLong M.1.cls i v ∈ TW) (kk : EvW G M d N Z (pc + 3) lv (.long v :: st) S μ K) : EvW G M d N Z pc lv (st) S μ K := by
  intro p l e R s m args below meth c H locs n0 z0 lsA Q C hH hn0 hz0 hN hZ hlo hl fin
  exact lv_ldc2 C.1 C.2.1 C.2.2.2.1 (C.2.2.2.2.1 _ hw) hd (kk p l e R s m args below meth c H locs n0 z0 lsA Q C hH hn0 hz0 hN hZ hlo hl fin)
theorem lv_cget {lsA : Array Slot} {nL j k : Nat} {v : Value} (hl : lv_has lsA nL (lv.map (cvp G))) (h : lv[j]? = some (k, v)) : lsA[k]? = some (.val (cv G v)) := by
  refine lv_at hl j ?_
  rw [List.getElem?_map, h]
  rfl
theorem ev_iload_n {k : Fin 4} {x : Int32} (hd : decode M.2.1 pc = .ok (.iload_n k, 1)) (j : Nat) (h : lv[j]? = some ((k : Nat), .int x)) (kk : EvW G M d N Z (pc + 1) lv (.int x :: st) S μ K) : EvW G M d N Z pc lv (st) S μ K := by
  intro p l e R s m args below meth c H locs n0 z0 lsA Q C hH hn0 hz0 hN hZ hlo hl fin
  exact lv_iload_n C.1 C.2.1 hd rfl (lv_cget hl h) (kk p l e R s m args below meth c H locs n0 z0 lsA Q C hH hn0 hz0 hN hZ hlo hl fin)
theorem ev_iload {k : Nat} {x : Int32} (hd : decode M.2.1 pc = .ok (.iload k, 2)) (j : Nat) (h : lv[j]? = some (k, .int x)) (kk : EvW G M d N Z (pc + 2) lv (.int x :: st) S μ K) : EvW G M d N Z pc lv (st) S μ K := by
  intro p l e R s m args below meth c H locs n0 z0 lsA Q C hH hn0 hz0 hN hZ hlo hl fin
  exact lv_iload C.1 C.2.1 hd (lv_cget hl h) (kk p l e R s m args below meth c H locs n0 z0 lsA Q C hH hn0 hz0 hN hZ hlo hl fin)
theorem ev_lload_n {k : Fin 4} {x : Int64} (hd : decode M.2.1 pc = .ok (.lload_n k, 1)) (j : Nat) (h : lv[j]? = some ((k : Nat), .long x)) (kk : EvW G M d N Z (pc + 1) lv (.long x :: st) S μ K) : EvW G M d N Z pc lv (st) S μ K := by
  intro p l e R s m args below meth c H locs n0 z0 lsA Q C hH hn0 hz0 hN hZ hlo hl fin
  exact lv_lload_n C.1 C.2.1 hd rfl (lv_cget hl h) (kk p l e R s m args below meth c H locs n0 z0 lsA Q C hH hn0 hz0 hN hZ hlo hl fin)
theorem ev_lload {k : Nat} {x : Int64} (hd : decode M.2.1 pc = .ok (.lload k, 2)) (j : Nat) (h : lv[j]? = some (k, .long x)) (kk : EvW G M d N Z (pc + 2) lv (.long x :: st) S μ K) : EvW G M d N Z pc lv (st) S μ K := by
  intro p l e R s m args below meth c H locs n0 z0 lsA Q C hH hn0 hz0 hN hZ hlo hl fin
  exact lv_lload C.1 C.2.1 hd (lv_cget hl h) (kk p l e R s m args below meth c H locs n0 z0 lsA Q C hH hn0 hz0 hN hZ hlo hl fin)
theorem g_rf_nz {a : Nat} (ha : a ≠ 0) : g_rf G a = .ref (g_adr G a) := if_neg ha
theorem cv_nz {a : Nat} (ha : a ≠ 0) : cv G (.ref a) = .ref (g_adr G a) := if_neg ha
theorem lv_cref {lsA : Array Slot} {nL j k a : Nat} (hl : lv_has lsA nL (lv.map (cvp G))) (h : lv[j]? = some (k, .ref a)) (ha : a ≠ 0) : lsA[k]? = some (.val (.ref (g_adr G a))) := by
  rw [lv_cget hl h, cv_nz ha]
theorem st_ref {a : Nat} {st : List Value} (ha : a ≠ 0) : List.map (cv G) (.ref a :: st) = .ref (g_adr G a) :: st.map (cv G) := by
  show cv G (.ref a) :: _ = _
  rw [cv_nz ha]
theorem ev_aload_n {k : Fin 4} {x : Nat} (hd : decode M.2.1 pc = .ok (.aload_n k, 1)) (j : Nat) (h : lv[j]? = some ((k : Nat), .ref x)) (ha : x ≠ 0) (kk : EvW G M d N Z (pc + 1) lv (.ref x :: st) S μ K) : EvW G M d N Z pc lv st S μ K := by
  intro p l e R s m args below meth c H locs n0 z0 lsA Q C hH hn0 hz0 hN hZ hlo hl fin
  have k2 := kk p l e R s m args below meth c H locs n0 z0 lsA Q C hH hn0 hz0 hN hZ hlo hl fin
  rw [st_ref ha] at k2
  exact lv_aload_n C.1 C.2.1 hd rfl (lv_cref hl h ha) k2
theorem ev_aload {k : Nat} {x : Nat} (hd : decode M.2.1 pc = .ok (.aload k, 2)) (j : Nat) (h : lv[j]? = some (k, .ref x)) (ha : x ≠ 0) (kk : EvW G M d N Z (pc + 2) lv (.ref x :: st) S μ K) : EvW G M d N Z pc lv st S μ K := by
  intro p l e R s m args below meth c H locs n0 z0 lsA Q C hH hn0 hz0 hN hZ hlo hl fin
  have k2 := kk p l e R s m args below meth c H locs n0 z0 lsA Q C hH hn0 hz0 hN hZ hlo hl fin
  rw [st_ref ha] at k2
  exact lv_aload C.1 C.2.1 hd (lv_cref hl h ha) k2
theorem lv_fpick {k : Nat} {v : Value} {lv' : List (Nat × Value)} {P : Nat × Value → Bool} (hP : ∀ q, P (cvp G q) = P q) (ks : List Nat) (hl' : lv_pick ((k, v) :: lv.filter P) ks = lv') : lv_pick ((k, cv G v) :: (lv.map (cvp G)).filter P) ks = lv'.map (cvp G) := by
  subst hl'
  unfold lv_pick
  rw [List.map_filterMap, List.filter_map]
  have e : (P ∘ cvp G) = P := funext hP
  rw [e]
  congr 1
  funext i
  cases i with
  | zero => rfl
  | succ i => simp [List.getElem?_map]
theorem cvp_cat (q : Nat × Value) : (cvp G q).2.category = q.2.category := cv_cat G q.2
theorem ev_istore_n {k : Fin 4} {x : Int32} {lv' : List (Nat × Value)} (hd : decode M.2.1 pc = .ok (.istore_n k, 1)) (hn : (k : Nat) < M.2.2.1) (ks : List Nat) (hl' : lv_pick (((k : Nat), .int x) :: lv.filter (fun q => !(q.1 == (k : Nat)) && !(q.1 + 1 == (k : Nat) && q.2.category == 2))) ks = lv') (kk : EvW G M d N Z (pc + 1) lv' st S μ K) : EvW G M d N Z pc lv (.int x :: st) S μ K := by
  intro p l e R s m args below meth c H locs n0 z0 lsA Q C hH hn0 hz0 hN hZ hlo hl fin
  refine lv_istore_n C.1 C.2.1 hd rfl hl hn rfl (fun ls2 hl2 => ?_)
  exact kk p l e R s m args below meth c H locs n0 z0 ls2 Q C hH hn0 hz0 hN hZ hlo (lv_sub hl2 ks (lv_fpick (G := G) (v := .int x) (fun q => by rw [cvp_cat]; rfl) ks hl')) fin
theorem ev_istore {k : Nat} {x : Int32} {lv' : List (Nat × Value)} (hd : decode M.2.1 pc = .ok (.istore k, 2)) (hn : k < M.2.2.1) (ks : List Nat) (hl' : lv_pick ((k, .int x) :: lv.filter (fun q => !(q.1 == k) && !(q.1 + 1 == k && q.2.category == 2))) ks = lv') (kk : EvW G M d N Z (pc + 2) lv' st S μ K) : EvW G M d N Z pc lv (.int x :: st) S μ K := by
  intro p l e R s m args below meth c H locs n0 z0 lsA Q C hH hn0 hz0 hN hZ hlo hl fin
  refine lv_istore C.1 C.2.1 hd hl hn rfl (fun ls2 hl2 => ?_)
  exact kk p l e R s m args below meth c H locs n0 z0 ls2 Q C hH hn0 hz0 hN hZ hlo (lv_sub hl2 ks (lv_fpick (G := G) (v := .int x) (fun q => by rw [cvp_cat]; rfl) ks hl')) fin
theorem ev_lstore_n {k : Fin 4} {x : Int64} {lv' : List (Nat × Value)} (hd : decode M.2.1 pc = .ok (.lstore_n k, 1)) (hn : (k : Nat) + 1 < M.2.2.1) (ks : List Nat) (hl' : lv_pick (((k : Nat), .long x) :: lv.filter (fun q => !(q.1 == (k : Nat)) && (!(q.1 == (k : Nat) + 1) && !(q.1 + 1 == (k : Nat) && q.2.category == 2)))) ks = lv') (kk : EvW G M d N Z (pc + 1) lv' st S μ K) : EvW G M d N Z pc lv (.long x :: st) S μ K := by
  intro p l e R s m args below meth c H locs n0 z0 lsA Q C hH hn0 hz0 hN hZ hlo hl fin
  refine lv_lstore_n C.1 C.2.1 hd rfl hl hn rfl (fun ls2 hl2 => ?_)
  exact kk p l e R s m args below meth c H locs n0 z0 ls2 Q C hH hn0 hz0 hN hZ hlo (lv_sub hl2 ks (lv_fpick (G := G) (v := .long x) (fun q => by rw [cvp_cat]; rfl) ks hl')) fin
theorem ev_lstore {k : Nat} {x : Int64} {lv' : List (Nat × Value)} (hd : decode M.2.1 pc = .ok (.lstore k, 2)) (hn : k + 1 < M.2.2.1) (ks : List Nat) (hl' : lv_pick ((k, .long x) :: lv.filter (fun q => !(q.1 == k) && (!(q.1 == k + 1) && !(q.1 + 1 == k && q.2.category == 2)))) ks = lv') (kk : EvW G M d N Z (pc + 2) lv' st S μ K) : EvW G M d N Z pc lv (.long x :: st) S μ K := by
  intro p l e R s m args below meth c H locs n0 z0 lsA Q C hH hn0 hz0 hN hZ hlo hl fin
  refine lv_lstore C.1 C.2.1 hd hl hn rfl (fun ls2 hl2 => ?_)
  exact kk p l e R s m args below meth c H locs n0 z0 ls2 Q C hH hn0 hz0 hN hZ hlo (lv_sub hl2 ks (lv_fpick (G := G) (v := .long x) (fun q => by rw [cvp_cat]; rfl) ks hl')) fin
theorem ev_astore_n {k : Fin 4} {x : Nat} {lv' : List (Nat × Value)} (hd : decode M.2.1 pc = .ok (.astore_n k, 1)) (ha : x ≠ 0) (hn : (k : Nat) < M.2.2.1) (ks : List Nat) (hl' : lv_pick (((k : Nat), .ref x) :: lv.filter (fun q => !(q.1 == (k : Nat)) && !(q.1 + 1 == (k : Nat) && q.2.category == 2))) ks = lv') (kk : EvW G M d N Z (pc + 1) lv' st S μ K) : EvW G M d N Z pc lv (.ref x :: st) S μ K := by
  intro p l e R s m args below meth c H locs n0 z0 lsA Q C hH hn0 hz0 hN hZ hlo hl fin
  rw [st_ref ha]
  refine lv_astore_n C.1 C.2.1 hd rfl hl hn rfl (fun ls2 hl2 => ?_)
  have e9 := lv_fpick (G := G) (v := .ref x) (P := (fun q => !(q.1 == (k : Nat)) && !(q.1 + 1 == (k : Nat) && q.2.category == 2))) (fun q => by rw [cvp_cat]; rfl) ks hl'
  rw [cv_nz ha] at e9
  exact kk p l e R s m args below meth c H locs n0 z0 ls2 Q C hH hn0 hz0 hN hZ hlo (lv_sub hl2 ks e9) fin
theorem ev_astore {k : Nat} {x : Nat} {lv' : List (Nat × Value)} (hd : decode M.2.1 pc = .ok (.astore k, 2)) (ha : x ≠ 0) (hn : k < M.2.2.1) (ks : List Nat) (hl' : lv_pick ((k, .ref x) :: lv.filter (fun q => !(q.1 == k) && !(q.1 + 1 == k && q.2.category == 2))) ks = lv') (kk : EvW G M d N Z (pc + 2) lv' st S μ K) : EvW G M d N Z pc lv (.ref x :: st) S μ K := by
  intro p l e R s m args below meth c H locs n0 z0 lsA Q C hH hn0 hz0 hN hZ hlo hl fin
  rw [st_ref ha]
  refine lv_astore C.1 C.2.1 hd hl hn rfl (fun ls2 hl2 => ?_)
  have e9 := lv_fpick (G := G) (v := .ref x) (P := (fun q => !(q.1 == k) && !(q.1 + 1 == k && q.2.category == 2))) (fun q => by rw [cvp_cat]; rfl) ks hl'
  rw [cv_nz ha] at e9
  exact kk p l e R s m args below meth c H locs n0 z0 ls2 Q C hH hn0 hz0 hN hZ hlo (lv_sub hl2 ks e9) fin
theorem ev_iinc {k : Nat} {n : Int} {x v : Int32} {lv' : List (Nat × Value)} (hd : decode M.2.1 pc = .ok (.iinc k n, 3)) (j : Nat) (h : lv[j]? = some (k, .int x)) (hv : x + Int32.ofInt n = v) (hn : k < M.2.2.1) (ks : List Nat) (hl' : lv_pick ((k, .int v) :: lv.filter (fun q => !(q.1 == k) && !(q.1 + 1 == k && q.2.category == 2))) ks = lv') (kk : EvW G M d N Z (pc + 3) lv' st S μ K) : EvW G M d N Z pc lv st S μ K := by
  intro p l e R s m args below meth c H locs n0 z0 lsA Q C hH hn0 hz0 hN hZ hlo hl fin
  refine lv_iinc (k := j) C.1 C.2.1 hd hl (by rw [List.getElem?_map, h]; rfl) hv hn rfl (fun ls2 hl2 => ?_)
  exact kk p l e R s m args below meth c H locs n0 z0 ls2 Q C hH hn0 hz0 hN hZ hlo (lv_sub hl2 ks (lv_fpick (G := G) (v := .int v) (fun q => by rw [cvp_cat]; rfl) ks hl')) fin
theorem ev_iadd {x y : Int32} (hd : decode M.2.1 pc = .ok (.iadd, 1)) (kk : EvW G M d N Z (pc + 1) lv (.int (x + y) :: st) S μ K) : EvW G M d N Z pc lv (.int y :: .int x :: st) S μ K := by
  intro p l e R s m args below meth c H locs n0 z0 lsA Q C hH hn0 hz0 hN hZ hlo hl fin
  exact lv_iadd C.1 C.2.1 hd (kk p l e R s m args below meth c H locs n0 z0 lsA Q C hH hn0 hz0 hN hZ hlo hl fin)
theorem ev_isub {x y : Int32} (hd : decode M.2.1 pc = .ok (.isub, 1)) (kk : EvW G M d N Z (pc + 1) lv (.int (x - y) :: st) S μ K) : EvW G M d N Z pc lv (.int y :: .int x :: st) S μ K := by
  intro p l e R s m args below meth c H locs n0 z0 lsA Q C hH hn0 hz0 hN hZ hlo hl fin
  exact lv_isub C.1 C.2.1 hd (kk p l e R s m args below meth c H locs n0 z0 lsA Q C hH hn0 hz0 hN hZ hlo hl fin)
theorem ev_imul {x y : Int32} (hd : decode M.2.1 pc = .ok (.imul, 1)) (kk : EvW G M d N Z (pc + 1) lv (.int (x * y) :: st) S μ K) : EvW G M d N Z pc lv (.int y :: .int x :: st) S μ K := by
  intro p l e R s m args below meth c H locs n0 z0 lsA Q C hH hn0 hz0 hN hZ hlo hl fin
  exact lv_imul C.1 C.2.1 hd (kk p l e R s m args below meth c H locs n0 z0 lsA Q C hH hn0 hz0 hN hZ hlo hl fin)
theorem ev_iand {x y : Int32} (hd : decode M.2.1 pc = .ok (.iand, 1)) (kk : EvW G M d N Z (pc + 1) lv (.int (x &&& y) :: st) S μ K) : EvW G M d N Z pc lv (.int y :: .int x :: st) S μ K := by
  intro p l e R s m args below meth c H locs n0 z0 lsA Q C hH hn0 hz0 hN hZ hlo hl fin
  exact lv_iand C.1 C.2.1 hd (kk p l e R s m args below meth c H locs n0 z0 lsA Q C hH hn0 hz0 hN hZ hlo hl fin)
theorem ev_ior {x y : Int32} (hd : decode M.2.1 pc = .ok (.ior, 1)) (kk : EvW G M d N Z (pc + 1) lv (.int (x ||| y) :: st) S μ K) : EvW G M d N Z pc lv (.int y :: .int x :: st) S μ K := by
  intro p l e R s m args below meth c H locs n0 z0 lsA Q C hH hn0 hz0 hN hZ hlo hl fin
  exact lv_ior C.1 C.2.1 hd (kk p l e R s m args below meth c H locs n0 z0 lsA Q C hH hn0 hz0 hN hZ hlo hl fin)
theorem ev_ixor {x y : Int32} (hd : decode M.2.1 pc = .ok (.ixor, 1)) (kk : EvW G M d N Z (pc + 1) lv (.int (x ^^^ y) :: st) S μ K) : EvW G M d N Z pc lv (.int y :: .int x :: st) S μ K := by
  intro p l e R s m args below meth c H locs n0 z0 lsA Q C hH hn0 hz0 hN hZ hlo hl fin
  exact lv_ixor C.1 C.2.1 hd (kk p l e R s m args below meth c H locs n0 z0 lsA Q C hH hn0 hz0 hN hZ hlo hl fin)
theorem ev_ishl {x y : Int32} (hd : decode M.2.1 pc = .ok (.ishl, 1)) (kk : EvW G M d N Z (pc + 1) lv (.int (x <<< (y &&& 31)) :: st) S μ K) : EvW G M d N Z pc lv (.int y :: .int x :: st) S μ K := by
  intro p l e R s m args below meth c H locs n0 z0 lsA Q C hH hn0 hz0 hN hZ hlo hl fin
  exact lv_ishl C.1 C.2.1 hd (kk p l e R s m args below meth c H locs n0 z0 lsA Q C hH hn0 hz0 hN hZ hlo hl fin)
theorem ev_ishr {x y : Int32} (hd : decode M.2.1 pc = .ok (.ishr, 1)) (kk : EvW G M d N Z (pc + 1) lv (.int (x >>> (y &&& 31)) :: st) S μ K) : EvW G M d N Z pc lv (.int y :: .int x :: st) S μ K := by
  intro p l e R s m args below meth c H locs n0 z0 lsA Q C hH hn0 hz0 hN hZ hlo hl fin
  exact lv_ishr C.1 C.2.1 hd (kk p l e R s m args below meth c H locs n0 z0 lsA Q C hH hn0 hz0 hN hZ hlo hl fin)
theorem ev_idiv {x y : Int32} (hd : decode M.2.1 pc = .ok (.idiv, 1)) (hne : ¬ y = 0) (kk : EvW G M d N Z (pc + 1) lv (.int (x / y) :: st) S μ K) : EvW G M d N Z pc lv (.int y :: .int x :: st) S μ K := by
  intro p l e R s m args below meth c H locs n0 z0 lsA Q C hH hn0 hz0 hN hZ hlo hl fin
  exact lv_idiv C.1 C.2.1 hd hne (kk p l e R s m args below meth c H locs n0 z0 lsA Q C hH hn0 hz0 hN hZ hlo hl fin)
theorem ev_irem {x y : Int32} (hd : decode M.2.1 pc = .ok (.irem, 1)) (hne : ¬ y = 0) (kk : EvW G M d N Z (pc + 1) lv (.int (x - x / y * y) :: st) S μ K) : EvW G M d N Z pc lv (.int y :: .int x :: st) S μ K := by
  intro p l e R s m args below meth c H locs n0 z0 lsA Q C hH hn0 hz0 hN hZ hlo hl fin
  exact lv_irem C.1 C.2.1 hd hne (kk p l e R s m args below meth c H locs n0 z0 lsA Q C hH hn0 hz0 hN hZ hlo hl fin)
theorem ev_ladd {x y : Int64} (hd : decode M.2.1 pc = .ok (.ladd, 1)) (kk : EvW G M d N Z (pc + 1) lv (.long (x + y) :: st) S μ K) : EvW G M d N Z pc lv (.long y :: .long x :: st) S μ K := by
  intro p l e R s m args below meth c H locs n0 z0 lsA Q C hH hn0 hz0 hN hZ hlo hl fin
  exact lv_ladd C.1 C.2.1 hd (kk p l e R s m args below meth c H locs n0 z0 lsA Q C hH hn0 hz0 hN hZ hlo hl fin)
theorem ev_lsub {x y : Int64} (hd : decode M.2.1 pc = .ok (.lsub, 1)) (kk : EvW G M d N Z (pc + 1) lv (.long (x - y) :: st) S μ K) : EvW G M d N Z pc lv (.long y :: .long x :: st) S μ K := by
  intro p l e R s m args below meth c H locs n0 z0 lsA Q C hH hn0 hz0 hN hZ hlo hl fin
  exact lv_lsub C.1 C.2.1 hd (kk p l e R s m args below meth c H locs n0 z0 lsA Q C hH hn0 hz0 hN hZ hlo hl fin)
theorem ev_lmul {x y : Int64} (hd : decode M.2.1 pc = .ok (.lmul, 1)) (kk : EvW G M d N Z (pc + 1) lv (.long (x * y) :: st) S μ K) : EvW G M d N Z pc lv (.long y :: .long x :: st) S μ K := by
  intro p l e R s m args below meth c H locs n0 z0 lsA Q C hH hn0 hz0 hN hZ hlo hl fin
  exact lv_lmul C.1 C.2.1 hd (kk p l e R s m args below meth c H locs n0 z0 lsA Q C hH hn0 hz0 hN hZ hlo hl fin)
theorem ev_ldiv {x y : Int64} (hd : decode M.2.1 pc = .ok (.ldiv, 1)) (hne : ¬ y = 0) (kk : EvW G M d N Z (pc + 1) lv (.long (x / y) :: st) S μ K) : EvW G M d N Z pc lv (.long y :: .long x :: st) S μ K := by
  intro p l e R s m args below meth c H locs n0 z0 lsA Q C hH hn0 hz0 hN hZ hlo hl fin
  exact lv_ldiv C.1 C.2.1 hd hne (kk p l e R s m args below meth c H locs n0 z0 lsA Q C hH hn0 hz0 hN hZ hlo hl fin)
theorem ev_lrem {x y : Int64} (hd : decode M.2.1 pc = .ok (.lrem, 1)) (hne : ¬ y = 0) (kk : EvW G M d N Z (pc + 1) lv (.long (x - x / y * y) :: st) S μ K) : EvW G M d N Z pc lv (.long y :: .long x :: st) S μ K := by
  intro p l e R s m args below meth c H locs n0 z0 lsA Q C hH hn0 hz0 hN hZ hlo hl fin
  exact lv_lrem C.1 C.2.1 hd hne (kk p l e R s m args below meth c H locs n0 z0 lsA Q C hH hn0 hz0 hN hZ hlo hl fin)
theorem ev_ineg {x : Int32} (hd : decode M.2.1 pc = .ok (.ineg, 1)) (kk : EvW G M d N Z (pc + 1) lv (.int (-x) :: st) S μ K) : EvW G M d N Z pc lv (.int x :: st) S μ K := by
  intro p l e R s m args below meth c H locs n0 z0 lsA Q C hH hn0 hz0 hN hZ hlo hl fin
  exact lv_ineg C.1 C.2.1 hd (kk p l e R s m args below meth c H locs n0 z0 lsA Q C hH hn0 hz0 hN hZ hlo hl fin)
theorem ev_lcmp {x y : Int64} (hd : decode M.2.1 pc = .ok (.lcmp, 1)) (kk : EvW G M d N Z (pc + 1) lv (.int (lg_cmp x y) :: st) S μ K) : EvW G M d N Z pc lv (.long y :: .long x :: st) S μ K := by
  intro p l e R s m args below meth c H locs n0 z0 lsA Q C hH hn0 hz0 hN hZ hlo hl fin
  exact W.lcmp C.1 C.2.1 hd (kk p l e R s m args below meth c H locs n0 z0 lsA Q C hH hn0 hz0 hN hZ hlo hl fin)
theorem ev_i2l {x : Int32} (hd : decode M.2.1 pc = .ok (.i2l, 1)) (kk : EvW G M d N Z (pc + 1) lv (.long x.toInt64 :: st) S μ K) : EvW G M d N Z pc lv (.int x :: st) S μ K := by
  intro p l e R s m args below meth c H locs n0 z0 lsA Q C hH hn0 hz0 hN hZ hlo hl fin
  exact lv_i2l C.1 C.2.1 hd rfl (kk p l e R s m args below meth c H locs n0 z0 lsA Q C hH hn0 hz0 hN hZ hlo hl fin)
theorem ev_l2i {x : Int64} (hd : decode M.2.1 pc = .ok (.l2i, 1)) (kk : EvW G M d N Z (pc + 1) lv (.int x.toInt32 :: st) S μ K) : EvW G M d N Z pc lv (.long x :: st) S μ K := by
  intro p l e R s m args below meth c H locs n0 z0 lsA Q C hH hn0 hz0 hN hZ hlo hl fin
  exact lv_l2i C.1 C.2.1 hd rfl (kk p l e R s m args below meth c H locs n0 z0 lsA Q C hH hn0 hz0 hN hZ hlo hl fin)
theorem ev_i2b {x : Int32} (hd : decode M.2.1 pc = .ok (.i2b, 1)) (kk : EvW G M d N Z (pc + 1) lv (.int x.toInt8.toInt32 :: st) S μ K) : EvW G M d N Z pc lv (.int x :: st) S μ K := by
  intro p l e R s m args below meth c H locs n0 z0 lsA Q C hH hn0 hz0 hN hZ hlo hl fin
  exact lv_i2b C.1 C.2.1 hd rfl (kk p l e R s m args below meth c H locs n0 z0 lsA Q C hH hn0 hz0 hN hZ hlo hl fin)
theorem ev_i2s {x : Int32} (hd : decode M.2.1 pc = .ok (.i2s, 1)) (kk : EvW G M d N Z (pc + 1) lv (.int x.toInt16.toInt32 :: st) S μ K) : EvW G M d N Z pc lv (.int x :: st) S μ K := by
  intro p l e R s m args below meth c H locs n0 z0 lsA Q C hH hn0 hz0 hN hZ hlo hl fin
  exact lv_i2s C.1 C.2.1 hd rfl (kk p l e R s m args below meth c H locs n0 z0 lsA Q C hH hn0 hz0 hN hZ hlo hl fin)
theorem ev_i2c {x : Int32} (hd : decode M.2.1 pc = .ok (.i2c, 1)) (kk : EvW G M d N Z (pc + 1) lv (.int (x.toUInt32 % 65536).toInt32 :: st) S μ K) : EvW G M d N Z pc lv (.int x :: st) S μ K := by
  intro p l e R s m args below meth c H locs n0 z0 lsA Q C hH hn0 hz0 hN hZ hlo hl fin
  exact lv_i2c C.1 C.2.1 hd rfl (kk p l e R s m args below meth c H locs n0 z0 lsA Q C hH hn0 hz0 hN hZ hlo hl fin)
theorem ev_dup {v : Value} (hd : decode M.2.1 pc = .ok (.dup, 1)) (hv : v.category = 1) (kk : EvW G M d N Z (pc + 1) lv (v :: v :: st) S μ K) : EvW G M d N Z pc lv (v :: st) S μ K := by
  intro p l e R s m args below meth c H locs n0 z0 lsA Q C hH hn0 hz0 hN hZ hlo hl fin
  exact lv_dup C.1 C.2.1 hd (by rw [cv_cat]; exact hv) (kk p l e R s m args below meth c H locs n0 z0 lsA Q C hH hn0 hz0 hN hZ hlo hl fin)
theorem ev_pop {v : Value} (hd : decode M.2.1 pc = .ok (.pop, 1)) (hv : v.category = 1) (kk : EvW G M d N Z (pc + 1) lv (st) S μ K) : EvW G M d N Z pc lv (v :: st) S μ K := by
  intro p l e R s m args below meth c H locs n0 z0 lsA Q C hH hn0 hz0 hN hZ hlo hl fin
  exact lv_pop C.1 C.2.1 hd (by rw [cv_cat]; exact hv) (kk p l e R s m args below meth c H locs n0 z0 lsA Q C hH hn0 hz0 hN hZ hlo hl fin)
theorem ev_if_eq {x : Int32} {off : Int} {tgt : Nat} (hd : decode M.2.1 pc = .ok (.ifCond .eq off, 3)) (ht : (pc : Int) + off = (tgt : Int)) (kt : x = 0 → EvW G M d N Z tgt lv st S μ K) (kf : ¬ (x = 0) → EvW G M d N Z (pc + 3) lv st S μ K) : EvW G M d N Z pc lv (.int x :: st) S μ K := by
  intro p l e R s m args below meth c H locs n0 z0 lsA Q C hH hn0 hz0 hN hZ hlo hl fin
  exact lv_if_eq C.1 C.2.1 hd ht (fun q => kt q p l e R s m args below meth c H locs n0 z0 lsA Q C hH hn0 hz0 hN hZ hlo hl fin) (fun q => kf q p l e R s m args below meth c H locs n0 z0 lsA Q C hH hn0 hz0 hN hZ hlo hl fin)
theorem ev_if_ne {x : Int32} {off : Int} {tgt : Nat} (hd : decode M.2.1 pc = .ok (.ifCond .ne off, 3)) (ht : (pc : Int) + off = (tgt : Int)) (kt : ¬ x = 0 → EvW G M d N Z tgt lv st S μ K) (kf : x = 0 → EvW G M d N Z (pc + 3) lv st S μ K) : EvW G M d N Z pc lv (.int x :: st) S μ K := by
  intro p l e R s m args below meth c H locs n0 z0 lsA Q C hH hn0 hz0 hN hZ hlo hl fin
  exact lv_if_ne C.1 C.2.1 hd ht (fun q => kt q p l e R s m args below meth c H locs n0 z0 lsA Q C hH hn0 hz0 hN hZ hlo hl fin) (fun q => kf q p l e R s m args below meth c H locs n0 z0 lsA Q C hH hn0 hz0 hN hZ hlo hl fin)
theorem ev_if_lt {x : Int32} {off : Int} {tgt : Nat} (hd : decode M.2.1 pc = .ok (.ifCond .lt off, 3)) (ht : (pc : Int) + off = (tgt : Int)) (kt : x < 0 → EvW G M d N Z tgt lv st S μ K) (kf : ¬ (x < 0) → EvW G M d N Z (pc + 3) lv st S μ K) : EvW G M d N Z pc lv (.int x :: st) S μ K := by
  intro p l e R s m args below meth c H locs n0 z0 lsA Q C hH hn0 hz0 hN hZ hlo hl fin
  exact lv_if_lt C.1 C.2.1 hd ht (fun q => kt q p l e R s m args below meth c H locs n0 z0 lsA Q C hH hn0 hz0 hN hZ hlo hl fin) (fun q => kf q p l e R s m args below meth c H locs n0 z0 lsA Q C hH hn0 hz0 hN hZ hlo hl fin)
theorem ev_if_ge {x : Int32} {off : Int} {tgt : Nat} (hd : decode M.2.1 pc = .ok (.ifCond .ge off, 3)) (ht : (pc : Int) + off = (tgt : Int)) (kt : 0 ≤ x → EvW G M d N Z tgt lv st S μ K) (kf : ¬ (0 ≤ x) → EvW G M d N Z (pc + 3) lv st S μ K) : EvW G M d N Z pc lv (.int x :: st) S μ K := by
  intro p l e R s m args below meth c H locs n0 z0 lsA Q C hH hn0 hz0 hN hZ hlo hl fin
  exact lv_if_ge C.1 C.2.1 hd ht (fun q => kt q p l e R s m args below meth c H locs n0 z0 lsA Q C hH hn0 hz0 hN hZ hlo hl fin) (fun q => kf q p l e R s m args below meth c H locs n0 z0 lsA Q C hH hn0 hz0 hN hZ hlo hl fin)
theorem ev_if_gt {x : Int32} {off : Int} {tgt : Nat} (hd : decode M.2.1 pc = .ok (.ifCond .gt off, 3)) (ht : (pc : Int) + off = (tgt : Int)) (kt : 0 < x → EvW G M d N Z tgt lv st S μ K) (kf : ¬ (0 < x) → EvW G M d N Z (pc + 3) lv st S μ K) : EvW G M d N Z pc lv (.int x :: st) S μ K := by
  intro p l e R s m args below meth c H locs n0 z0 lsA Q C hH hn0 hz0 hN hZ hlo hl fin
  exact lv_if_gt C.1 C.2.1 hd ht (fun q => kt q p l e R s m args below meth c H locs n0 z0 lsA Q C hH hn0 hz0 hN hZ hlo hl fin) (fun q => kf q p l e R s m args below meth c H locs n0 z0 lsA Q C hH hn0 hz0 hN hZ hlo hl fin)
theorem ev_if_le {x : Int32} {off : Int} {tgt : Nat} (hd : decode M.2.1 pc = .ok (.ifCond .le off, 3)) (ht : (pc : Int) + off = (tgt : Int)) (kt : x ≤ 0 → EvW G M d N Z tgt lv st S μ K) (kf : ¬ (x ≤ 0) → EvW G M d N Z (pc + 3) lv st S μ K) : EvW G M d N Z pc lv (.int x :: st) S μ K := by
  intro p l e R s m args below meth c H locs n0 z0 lsA Q C hH hn0 hz0 hN hZ hlo hl fin
  exact lv_if_le C.1 C.2.1 hd ht (fun q => kt q p l e R s m args below meth c H locs n0 z0 lsA Q C hH hn0 hz0 hN hZ hlo hl fin) (fun q => kf q p l e R s m args below meth c H locs n0 z0 lsA Q C hH hn0 hz0 hN hZ hlo hl fin)
theorem ev_icmp_eq {x y : Int32} {off : Int} {tgt : Nat} (hd : decode M.2.1 pc = .ok (.if_icmp .eq off, 3)) (ht : (pc : Int) + off = (tgt : Int)) (kt : x = y → EvW G M d N Z tgt lv st S μ K) (kf : ¬ (x = y) → EvW G M d N Z (pc + 3) lv st S μ K) : EvW G M d N Z pc lv (.int y :: .int x :: st) S μ K := by
  intro p l e R s m args below meth c H locs n0 z0 lsA Q C hH hn0 hz0 hN hZ hlo hl fin
  exact lv_icmp_eq C.1 C.2.1 hd ht (fun q => kt q p l e R s m args below meth c H locs n0 z0 lsA Q C hH hn0 hz0 hN hZ hlo hl fin) (fun q => kf q p l e R s m args below meth c H locs n0 z0 lsA Q C hH hn0 hz0 hN hZ hlo hl fin)
theorem ev_icmp_ne {x y : Int32} {off : Int} {tgt : Nat} (hd : decode M.2.1 pc = .ok (.if_icmp .ne off, 3)) (ht : (pc : Int) + off = (tgt : Int)) (kt : ¬ x = y → EvW G M d N Z tgt lv st S μ K) (kf : x = y → EvW G M d N Z (pc + 3) lv st S μ K) : EvW G M d N Z pc lv (.int y :: .int x :: st) S μ K := by
  intro p l e R s m args below meth c H locs n0 z0 lsA Q C hH hn0 hz0 hN hZ hlo hl fin
  exact lv_icmp_ne C.1 C.2.1 hd ht (fun q => kt q p l e R s m args below meth c H locs n0 z0 lsA Q C hH hn0 hz0 hN hZ hlo hl fin) (fun q => kf q p l e R s m args below meth c H locs n0 z0 lsA Q C hH hn0 hz0 hN hZ hlo hl fin)
theorem ev_icmp_lt {x y : Int32} {off : Int} {tgt : Nat} (hd : decode M.2.1 pc = .ok (.if_icmp .lt off, 3)) (ht : (pc : Int) + off = (tgt : Int)) (kt : x < y → EvW G M d N Z tgt lv st S μ K) (kf : ¬ (x < y) → EvW G M d N Z (pc + 3) lv st S μ K) : EvW G M d N Z pc lv (.int y :: .int x :: st) S μ K := by
  intro p l e R s m args below meth c H locs n0 z0 lsA Q C hH hn0 hz0 hN hZ hlo hl fin
  exact lv_icmp_lt C.1 C.2.1 hd ht (fun q => kt q p l e R s m args below meth c H locs n0 z0 lsA Q C hH hn0 hz0 hN hZ hlo hl fin) (fun q => kf q p l e R s m args below meth c H locs n0 z0 lsA Q C hH hn0 hz0 hN hZ hlo hl fin)
theorem ev_icmp_ge {x y : Int32} {off : Int} {tgt : Nat} (hd : decode M.2.1 pc = .ok (.if_icmp .ge off, 3)) (ht : (pc : Int) + off = (tgt : Int)) (kt : y ≤ x → EvW G M d N Z tgt lv st S μ K) (kf : ¬ (y ≤ x) → EvW G M d N Z (pc + 3) lv st S μ K) : EvW G M d N Z pc lv (.int y :: .int x :: st) S μ K := by
  intro p l e R s m args below meth c H locs n0 z0 lsA Q C hH hn0 hz0 hN hZ hlo hl fin
  exact lv_icmp_ge C.1 C.2.1 hd ht (fun q => kt q p l e R s m args below meth c H locs n0 z0 lsA Q C hH hn0 hz0 hN hZ hlo hl fin) (fun q => kf q p l e R s m args below meth c H locs n0 z0 lsA Q C hH hn0 hz0 hN hZ hlo hl fin)
theorem ev_icmp_gt {x y : Int32} {off : Int} {tgt : Nat} (hd : decode M.2.1 pc = .ok (.if_icmp .gt off, 3)) (ht : (pc : Int) + off = (tgt : Int)) (kt : y < x → EvW G M d N Z tgt lv st S μ K) (kf : ¬ (y < x) → EvW G M d N Z (pc + 3) lv st S μ K) : EvW G M d N Z pc lv (.int y :: .int x :: st) S μ K := by
  intro p l e R s m args below meth c H locs n0 z0 lsA Q C hH hn0 hz0 hN hZ hlo hl fin
  exact lv_icmp_gt C.1 C.2.1 hd ht (fun q => kt q p l e R s m args below meth c H locs n0 z0 lsA Q C hH hn0 hz0 hN hZ hlo hl fin) (fun q => kf q p l e R s m args below meth c H locs n0 z0 lsA Q C hH hn0 hz0 hN hZ hlo hl fin)
theorem ev_icmp_le {x y : Int32} {off : Int} {tgt : Nat} (hd : decode M.2.1 pc = .ok (.if_icmp .le off, 3)) (ht : (pc : Int) + off = (tgt : Int)) (kt : x ≤ y → EvW G M d N Z tgt lv st S μ K) (kf : ¬ (x ≤ y) → EvW G M d N Z (pc + 3) lv st S μ K) : EvW G M d N Z pc lv (.int y :: .int x :: st) S μ K := by
  intro p l e R s m args below meth c H locs n0 z0 lsA Q C hH hn0 hz0 hN hZ hlo hl fin
  exact lv_icmp_le C.1 C.2.1 hd ht (fun q => kt q p l e R s m args below meth c H locs n0 z0 lsA Q C hH hn0 hz0 hN hZ hlo hl fin) (fun q => kf q p l e R s m args below meth c H locs n0 z0 lsA Q C hH hn0 hz0 hN hZ hlo hl fin)
theorem ev_goto {off : Int} {tgt : Nat} (hd : decode M.2.1 pc = .ok (.goto off, 3)) (ht : (pc : Int) + off = (tgt : Int)) (kk : EvW G M d N Z tgt lv st S μ K) : EvW G M d N Z pc lv st S μ K := by
  intro p l e R s m args below meth c H locs n0 z0 lsA Q C hH hn0 hz0 hN hZ hlo hl fin
  exact lv_goto C.1 C.2.1 hd ht (kk p l e R s m args below meth c H locs n0 z0 lsA Q C hH hn0 hz0 hN hZ hlo hl fin)
theorem ev_tabIn {dflt lo hi : Int} {offs : Array Int} {len : Nat} {x : Int32} {off : Int} {tgt : Nat} (k : Int32) (hd : decode M.2.1 pc = .ok (.tableswitch dflt lo hi offs, len)) (hx : x = k) (h1 : ¬ k.toInt < lo ∧ ¬ hi < k.toInt ∧ offs[(k.toInt - lo).toNat]? = some off ∧ (pc : Int) + off = (tgt : Int)) (kk : EvW G M d N Z tgt lv st S μ K) : EvW G M d N Z pc lv (.int x :: st) S μ K := by
  intro p l e R s m args below meth c H locs n0 z0 lsA Q C hH hn0 hz0 hN hZ hlo hl fin
  subst hx
  exact lv_tableIn C.1 C.2.1 hd h1.1 h1.2.1 h1.2.2.1 h1.2.2.2 (kk p l e R s m args below meth c H locs n0 z0 lsA Q C hH hn0 hz0 hN hZ hlo hl fin)
theorem ev_tabOut {dflt lo hi : Int} {offs : Array Int} {len : Nat} {x : Int32} {tgt : Nat} (hd : decode M.2.1 pc = .ok (.tableswitch dflt lo hi offs, len)) (hx : x.toInt < lo ∨ hi < x.toInt) (ht : (pc : Int) + dflt = (tgt : Int)) (kk : EvW G M d N Z tgt lv st S μ K) : EvW G M d N Z pc lv (.int x :: st) S μ K := by
  intro p l e R s m args below meth c H locs n0 z0 lsA Q C hH hn0 hz0 hN hZ hlo hl fin
  exact lv_tableOut C.1 C.2.1 hd hx ht (kk p l e R s m args below meth c H locs n0 z0 lsA Q C hH hn0 hz0 hN hZ hlo hl fin)
theorem ev_ireturn {x : Int32} (hd : decode M.2.1 pc = .ok (.ireturn, 1)) (hr : rI M.2.2.2 = .ireturn) (hf : g_fit M.2.2.2 (some (.int x))) (h1 : S.1 = N) (h2 : S.2.1 = Z) (k : K (some (.int x)) S μ) : EvW G M d N Z pc lv [.int x] S μ K := by
  intro p l e R s m args below meth c H locs n0 z0 lsA Q C hH hn0 hz0 hN hZ hlo hl fin
  have w := fin (some (.int x)) S μ H locs pc lsA (by rw [hr]; exact hd) hf k hH h1 h2 hlo
  subst h1
  subst h2
  exact w
theorem ev_lreturn {x : Int64} (hd : decode M.2.1 pc = .ok (.lreturn, 1)) (hr : M.2.2.2 = some .long) (h1 : S.1 = N) (h2 : S.2.1 = Z) (k : K (some (.long x)) S μ) : EvW G M d N Z pc lv [.long x] S μ K := by
  intro p l e R s m args below meth c H locs n0 z0 lsA Q C hH hn0 hz0 hN hZ hlo hl fin
  have w := fin (some (.long x)) S μ H locs pc lsA (by rw [hr]; exact hd) (by rw [hr]; trivial) k hH h1 h2 hlo
  subst h1
  subst h2
  exact w
theorem ev_return (hd : decode M.2.1 pc = .ok (.return_, 1)) (hr : M.2.2.2 = none) (h1 : S.1 = N) (h2 : S.2.1 = Z) (k : K none S μ) : EvW G M d N Z pc lv [] S μ K := by
  intro p l e R s m args below meth c H locs n0 z0 lsA Q C hH hn0 hz0 hN hZ hlo hl fin
  have w := fin none S μ H locs pc lsA (by rw [hr]; exact hd) (by rw [hr]; trivial) k hH h1 h2 hlo
  subst h1
  subst h2
  exact w
end EV
end
section
/-! ===== the heap of the abstract machine: reading, writing ===== -/
/-- one place of the ints changed -/
def mset (μ : Mem) (a k : Nat) (x : Int32) : Mem := fun a' k' => if a' = a ∧ k' = k then x else μ a' k'
/-- one place of the references changed -/
def rset (ρ : Nat → Nat → Nat) (a k r : Nat) : Nat → Nat → Nat := fun a' k' => if a' = a ∧ k' = k then r else ρ a' k'
def S_ref (S : HS) (a k r : Nat) : HS := (S.1, S.2.1, S.2.2.1, S.2.2.2.1, rset S.2.2.2.2 a k r)
theorem mset_same {μ : Mem} {a k : Nat} {x : Int32} : mset μ a k x a k = x := if_pos ⟨rfl, rfl⟩
theorem mset_other {μ : Mem} {a k a' k' : Nat} {x : Int32} (h : ¬ (a' = a ∧ k' = k)) : mset μ a k x a' k' = μ a' k' := if_neg h
section HP
variable {G : GW} {S S' : HS} {μ μ' : Mem} {H H' : Heap} {a : Nat}
theorem g_adr_hi (h : 10 ≤ a) : g_adr G a = G.1.size + (a - 10) := if_neg (by omega)
theorem g_adr_inj {b : Nat} (h1 : 10 ≤ a) (h2 : 10 ≤ b) (h : g_adr G a = g_adr G b) : a = b := by
  rw [g_adr_hi h1, g_adr_hi h2] at h
  omega
theorem g_cell.kept (h : g_cell G S μ a H) (hq : H'[g_adr G a]? = H[g_adr G a]?) (hk : S'.2.2.1 a = S.2.2.1 a) (hl : S'.2.2.2.1 a = S.2.2.2.1 a) (hm : ∀ k, μ' a k = μ a k) (hr : ∀ k, S'.2.2.2.2 a k = S.2.2.2.2 a k) : g_cell G S' μ' a H' := by
  unfold g_cell at h ⊢
  rw [hk, hl, hq]
  have e1 : μ' a = μ a := funext hm
  have e2 : S'.2.2.2.2 a = S.2.2.2.2 a := funext hr
  rw [e1, e2]
  split
  · rename_i h10
    rw [if_pos h10] at h
    obtain ⟨r, h1, h2⟩ := h
    exact ⟨r, h1, h2.kept hq⟩
  · rename_i h10
    rw [if_neg h10] at h
    exact h
theorem HR.put (h : HR G S μ H) (ha : S.2.2.1 a ≠ 0) (hsz : H'.size = H.size) (ho : ∀ q : Nat, q ≠ g_adr G a → H'[q]? = H[q]?)
    (h1 : S'.1 = S.1) (h2 : S'.2.2.1 = S.2.2.1) (h3 : S'.2.2.2.1 = S.2.2.2.1) (hm : ∀ b, b ≠ a → ∀ k, μ' b k = μ b k) (hr : ∀ b, b ≠ a → ∀ k, S'.2.2.2.2 b k = S.2.2.2.2 b k)
    (hc : g_cell G S' μ' a H') : HR G S' μ' H' := by
  obtain ⟨a1, a2, a3, a4, a5⟩ := h
  have h10 := (a4 a ha).1
  refine ⟨by rw [h1]; exact a1, by rw [h1, hsz]; exact a2, fun q hq => ?_, fun b hb => by rw [h1]; exact a4 b (by rw [← h2]; exact hb), fun b hb => ?_⟩
  · rw [ho q (by rw [g_adr_hi h10]; omega)]
    exact a3 q hq
  · rw [h2] at hb
    by_cases e : b = a
    · subst e
      exact hc
    · exact (a5 b hb).kept (ho _ (fun z => e (g_adr_inj (a4 b hb).1 h10 z))) (by rw [h2]) (by rw [h3]) (hm b e) (hr b e)
theorem HR.nz (h : HR G S μ H) (ha : S.2.2.1 a ≠ 0) : a ≠ 0 := by
  have := (h.2.2.2.1 a ha).1
  omega
theorem HR.adr (h : HR G S μ H) (ha : S.2.2.1 a ≠ 0) : g_rf G a = .ref (g_adr G a) := if_neg (h.nz ha)
theorem HR.obj {ci : Nat} (h : HR G S μ H) (hk : S.2.2.1 a = 10 + ci) : ∃ r : vw_C, vwCl[ci]? = some r ∧ t_OB (g_adr G a) (G.2.2.1.1 ci) r.2.2 (G.2.2.1.2 ci) H (fun k => g_fv G ci k (μ a k) (S.2.2.2.2 a k)) := by
  have h5 := h.2.2.2.2 a (by omega)
  unfold g_cell at h5
  rw [if_pos (by omega), hk, Nat.add_sub_cancel_left] at h5
  exact h5
theorem HR.ints {k : Nat} (h : HR G S μ H) (hk : S.2.2.1 a = k) (h1 : 1 ≤ k) (h3 : k ≤ 3) : H[g_adr G a]? = some (arrV (G.2.2.2.1 k) (S.2.2.2.1 a) (fun j => .int (μ a j))) := by
  have h5 := h.2.2.2.2 a (by omega)
  unfold g_cell at h5
  rw [if_neg (by omega), if_pos (by omega), hk] at h5
  exact h5
theorem HR.refs {k : Nat} (h : HR G S μ H) (hk : S.2.2.1 a = k) (h1 : 4 ≤ k) (h3 : k ≤ 7) : H[g_adr G a]? = some (arrV (G.2.2.2.1 k) (S.2.2.2.1 a) (fun j => g_rf G (S.2.2.2.2 a j))) := by
  have h5 := h.2.2.2.2 a (by omega)
  unfold g_cell at h5
  rw [if_neg (by omega), if_neg (by omega), hk] at h5
  exact h5
end HP
/-- what an instruction's field entry links to: the field k of the class ci -/
def FL (own : String) (idx ci k : Nat) : Prop := ∃ r : vw_C, vwCl[ci]? = some r ∧ k < r.2.2 ∧ Cond.fieldLink own idx (r.2.1 k).1 (r.2.1 k).2.1 (r.2.1 k).2.2.1 ∈ TW
/-- the words of a class -/
def CL (ci : Nat) (r : vw_C) : Prop := vwCl[ci]? = some r ∧ (∀ w ∈ u_ws r.1 r.2.1 r.2.2, w ∈ TW) ∧ (∀ k, k < r.2.2 → parseFieldDescriptor (r.2.1 k).2.2.1 = some (c_ty ci k)) ∧ ∀ a, a < r.2.2 → ∀ b, b < r.2.2 → a ≠ b → (r.2.1 a).2.1 ≠ (r.2.1 b).2.1
theorem TW_sub {ws : List Cond} (hg : ws.all goodWord = true) (h : ∀ w ∈ ws, w ∈ lw_tbl) : ∀ w ∈ ws, w ∈ TW := fun w hw => List.mem_filter.mpr ⟨h w hw, List.all_eq_true.mp hg w hw⟩
theorem ti_0 : ∀ w ∈ u_ws RX0 TX0 9, w ∈ lw_tbl := by decide +kernel
theorem ti_1 : ∀ w ∈ u_ws RX1 TX1 6, w ∈ lw_tbl := by decide +kernel
theorem ti_2 : ∀ w ∈ u_ws RX2 TX2 3, w ∈ lw_tbl := by decide +kernel
theorem ti_3 : ∀ w ∈ u_ws RX3 TX3 8, w ∈ lw_tbl := by decide +kernel
theorem ti_4 : ∀ w ∈ u_ws RX4 TX4 3, w ∈ lw_tbl := by decide +kernel
theorem ti_5 : ∀ w ∈ u_ws RX5 TX5 5, w ∈ lw_tbl := by decide +kernel
theorem ti_6 : ∀ w ∈ u_ws RX6 TX6 4, w ∈ lw_tbl := by decide +kernel
theorem ti_7 : ∀ w ∈ u_ws RX7 TX7 13, w ∈ lw_tbl := by decide +kernel
theorem ti_8 : ∀ w ∈ u_ws RX8 TX8 49, w ∈ lw_tbl := by decide +kernel
theorem CL_0 : CL 0 (RX0, TX0, 9) := ⟨rfl, TW_sub (by decide +kernel) ti_0, tyX0_ok, nmX0⟩
theorem CL_1 : CL 1 (RX1, TX1, 6) := ⟨rfl, TW_sub (by decide +kernel) ti_1, tyX1_ok, nmX1⟩
theorem CL_2 : CL 2 (RX2, TX2, 3) := ⟨rfl, TW_sub (by decide +kernel) ti_2, tyX2_ok, nmX2⟩
theorem CL_3 : CL 3 (RX3, TX3, 8) := ⟨rfl, TW_sub (by decide +kernel) ti_3, tyX3_ok, nmX3⟩
theorem CL_4 : CL 4 (RX4, TX4, 3) := ⟨rfl, TW_sub (by decide +kernel) ti_4, tyX4_ok, nmX4⟩
theorem CL_5 : CL 5 (RX5, TX5, 5) := ⟨rfl, TW_sub (by decide +kernel) ti_5, tyX5_ok, nmX5⟩
theorem CL_6 : CL 6 (RX6, TX6, 4) := ⟨rfl, TW_sub (by decide +kernel) ti_6, tyX6_ok, nmX6⟩
theorem CL_7 : CL 7 (RX7, TX7, 13) := ⟨rfl, TW_sub (by decide +kernel) ti_7, tyX7_ok, nmX7⟩
theorem CL_8 : CL 8 (RX8, TX8, 49) := ⟨rfl, TW_sub (by decide +kernel) ti_8, tyX8_ok, nmX8⟩
theorem CL_of {ci : Nat} {r : vw_C} (h : vwCl[ci]? = some r) : CL ci r := by
  match ci, h with
  | 0, h => cases h; exact CL_0
  | 1, h => cases h; exact CL_1
  | 2, h => cases h; exact CL_2
  | 3, h => cases h; exact CL_3
  | 4, h => cases h; exact CL_4
  | 5, h => cases h; exact CL_5
  | 6, h => cases h; exact CL_6
  | 7, h => cases h; exact CL_7
  | 8, h => cases h; exact CL_8
  | n + 9, h => simp [vwCl] at h
section EVH
variable {G : GW} {M : MK} {d N Z pc : Nat} {lv : List (Nat × Value)} {st : List Value} {S : HS} {μ : Mem} {K : Option Value → HS → Mem → Prop}
theorem ev_getI {a idx ci k : Nat} (hF : FL M.1.cls idx ci k) (hty : (c_ty ci k).isReference = false) (hk : S.2.2.1 a = 10 + ci) (hd : decode M.2.1 pc = .ok (.getfield idx, 3)) (kk : EvW G M d N Z (pc + 3) lv (.int (μ a k) :: st) S μ K) : EvW G M d N Z pc lv (.ref a :: st) S μ K := by
  intro p l e R s m args below meth c H locs n0 z0 lsA Q C hH hn0 hz0 hN hZ hlo hl fin
  have kw := kk p l e R s m args below meth c H locs n0 z0 lsA Q C hH hn0 hz0 hN hZ hlo hl fin
  obtain ⟨c1, c2, c3, c4, c5, c6, c7, c8, c9, c10, c11⟩ := C
  obtain ⟨r, hr, hkr, hlk⟩ := hF
  obtain ⟨r', hr', cell, q1, q2, q3, q4⟩ := hH.obj hk
  cases hr.symm.trans hr'
  obtain ⟨hc, hws, -, -⟩ := CL_of hr
  obtain ⟨hS, hfc, kC, hkC, hkind⟩ := c10.1 ci _ hc
  obtain ⟨cf, kf, fi, f, hi, hsl⟩ := hS k hkr
  rw [st_ref (hH.nz (by omega))]
  refine W.getf c1 c2 c4 (c5 _ hlk) hi (u_facts hfc hkC (u_lays c5 hws hkr) hi).1 q1 (by rw [q3]; exact fun h => by cases h) (v := .int (μ a k)) ?_ rfl rfl hd kw
  rw [hsl, q4 k hkr]
  simp [g_fv, hty]
theorem ev_getR {a idx ci k : Nat} (hF : FL M.1.cls idx ci k) (hty : (c_ty ci k).isReference = true) (hk : S.2.2.1 a = 10 + ci) (hd : decode M.2.1 pc = .ok (.getfield idx, 3)) (kk : EvW G M d N Z (pc + 3) lv (.ref (S.2.2.2.2 a k) :: st) S μ K) : EvW G M d N Z pc lv (.ref a :: st) S μ K := by
  intro p l e R s m args below meth c H locs n0 z0 lsA Q C hH hn0 hz0 hN hZ hlo hl fin
  have kw := kk p l e R s m args below meth c H locs n0 z0 lsA Q C hH hn0 hz0 hN hZ hlo hl fin
  obtain ⟨c1, c2, c3, c4, c5, c6, c7, c8, c9, c10, c11⟩ := C
  obtain ⟨r, hr, hkr, hlk⟩ := hF
  obtain ⟨r', hr', cell, q1, q2, q3, q4⟩ := hH.obj hk
  cases hr.symm.trans hr'
  obtain ⟨hc, hws, -, -⟩ := CL_of hr
  obtain ⟨hS, hfc, kC, hkC, hkind⟩ := c10.1 ci _ hc
  obtain ⟨cf, kf, fi, f, hi, hsl⟩ := hS k hkr
  rw [st_ref (hH.nz (by omega))]
  refine W.getf c1 c2 c4 (c5 _ hlk) hi (u_facts hfc hkC (u_lays c5 hws hkr) hi).1 q1 (by rw [q3]; exact fun h => by cases h) (v := g_rf G (S.2.2.2.2 a k)) ?_ rfl rfl hd kw
  rw [hsl, q4 k hkr]
  simp [g_fv, hty]
/-- writing an int field (not final) -/
theorem ev_putI {a idx ci k : Nat} {x : Int32} (hF : FL M.1.cls idx ci k) (hty : narrow (c_ty ci k) (.int x) = .int x ∧ fits (c_ty ci k) (.int x) = true ∧ (c_ty ci k).isReference = false) (hfin : ∀ r, vwCl[ci]? = some r → (r.2.1 k).2.2.2 = false) (hk : S.2.2.1 a = 10 + ci) (hd : decode M.2.1 pc = .ok (.putfield idx, 3)) (kk : EvW G M d N Z (pc + 3) lv st S (mset μ a k x) K) : EvW G M d N Z pc lv (.int x :: .ref a :: st) S μ K := by
  intro p l e R s m args below meth c H locs n0 z0 lsA Q C hH hn0 hz0 hN hZ hlo hl fin
  have C0 := C
  obtain ⟨c1, c2, c3, c4, c5, c6, c7, c8, c9, c10, c11⟩ := C
  obtain ⟨r, hr, hkr, hlk⟩ := hF
  obtain ⟨r', hr', cell, q1, q2, q3, q4⟩ := hH.obj hk
  cases hr.symm.trans hr'
  obtain ⟨hc, hws, hpd, hnm⟩ := CL_of hr
  have hap := va_apart (own := M.1.cls) c5 hws (c_ty ci) hpd hnm c10 hc
  obtain ⟨hS, hfc, kC, hkC, hkind⟩ := c10.1 ci _ hc
  obtain ⟨cf, kf, fi, f, hi, hsl⟩ := hS k hkr
  have hlay := c5 _ (hws _ (u_in_lay hkr))
  unfold u_lay at hlay
  rw [if_neg (by rw [hfin r hr]; decide)] at hlay
  have hst := (u_facts hfc hkC (u_lays c5 hws hkr) hi).1
  have h6 := u_store hfc hkC hkind hlay hi (hpd k hkr) hty.1 hty.2.1
  have e0 : List.map (cv G) (.int x :: .ref a :: st) = .int x :: .ref (g_adr G a) :: st.map (cv G) := by
    show _ :: List.map (cv G) (.ref a :: st) = _
    rw [st_ref (hH.nz (by omega))]
    rfl
  rw [e0]
  refine W.putK c1 c2 (f := f) ⟨c4, c5 _ hlk, ⟨_, _, _, hi⟩, hst⟩ (by rw [q2]; exact h6) q1 q3 (by rw [hsl]; exact k2_hasslot (q4 k hkr)) rfl rfl hd fun H' e1 e2 e3 => ?_
  rw [hsl] at e1 ⊢
  refine kk p l e R s m args below meth c H' _ n0 z0 lsA Q C0 (hH.put (a := a) (by omega) e2 e3 rfl rfl rfl (fun b hb k' => mset_other (fun z => hb z.1)) (fun _ _ _ => rfl) ?_) hn0 hz0 hN hZ ?_ hl fin
  · unfold g_cell
    rw [if_pos (by omega), hk, Nat.add_sub_cancel_left]
    refine ⟨r, hr, t_OB.to (V := updV (fun k => g_fv G ci k (μ a k) (S.2.2.2.2 a k)) k (.int x)) ⟨_, e1, q2, q3, t_set q4 hap hkr _⟩ (fun j _ => ?_)⟩
    by_cases ej : j = k
    · subst ej
      simp [updV, g_fv, mset, hty.2.2]
    · simp [updV, g_fv, mset, ej]
  · intro q hq
    rcases List.mem_append.mp hq with h | h
    · exact hlo q h
    · rw [List.mem_singleton.mp h]
      show G.1.size ≤ g_adr G a
      rw [g_adr_hi (hH.2.2.2.1 a (by omega)).1]
      omega
/-- writing a final reference field, in a constructor -/
theorem ev_putR {a b idx ci k : Nat} (hF : FL M.1.cls idx ci k) (hty : (c_ty ci k).isReference = true) (hfin : ∀ r, vwCl[ci]? = some r → (r.2.1 k).2.2.2 = true ∧ (r.2.1 k).1 = M.1.cls) (hin : M.1.name = "<init>") (hk : S.2.2.1 a = 10 + ci) (hb : S.2.2.1 b ≠ 0) (hd : decode M.2.1 pc = .ok (.putfield idx, 3)) (kk : EvW G M d N Z (pc + 3) lv st (S_ref S a k b) μ K) : EvW G M d N Z pc lv (.ref b :: .ref a :: st) S μ K := by
  intro p l e R s m args below meth c H locs n0 z0 lsA Q C hH hn0 hz0 hN hZ hlo hl fin
  have C0 := C
  obtain ⟨c1, c2, c3, c4, c5, c6, c7, c8, c9, c10, c11⟩ := C
  obtain ⟨r, hr, hkr, hlk⟩ := hF
  obtain ⟨r', hr', cell, q1, q2, q3, q4⟩ := hH.obj hk
  cases hr.symm.trans hr'
  obtain ⟨hc, hws, hpd, hnm⟩ := CL_of hr
  have hap := va_apart (own := M.1.cls) c5 hws (c_ty ci) hpd hnm c10 hc
  obtain ⟨hS, hfc, kC, hkC, hkind⟩ := c10.1 ci _ hc
  obtain ⟨cf, kf, fi, f, hi, hsl⟩ := hS k hkr
  have hlay := c5 _ (hws _ (u_in_lay hkr))
  unfold u_lay at hlay
  rw [if_pos (hfin r hr).1] at hlay
  have hst := (u_facts hfc hkC (u_lays c5 hws hkr) hi).1
  have hcf : m.cls = cf := by
    obtain ⟨_, _, c', _, _, _, -, -, hf', -, -, -, hown2, -⟩ := Cond.laysFinal_spec hlay
    have e1 : c' = cf := by have := hi.symm.trans hf'; simp at this; exact this.1.symm
    rw [(hfin r hr).2] at hown2
    rw [← e1]; exact Option.some.inj (c4.symm.trans hown2)
  have hnf : narrow (c_ty ci k) (.ref (g_adr G b)) = .ref (g_adr G b) ∧ fits (c_ty ci k) (.ref (g_adr G b)) = true := by
    generalize c_ty ci k = ty at hty
    cases ty <;> first | (simp [FieldType.isReference] at hty; done) | exact ⟨rfl, rfl⟩
  have h6 := u_fits hfc hkC hkind (Or.inr hlay) hi (hpd k hkr) hnf.1 hnf.2
  have e0 : List.map (cv G) (.ref b :: .ref a :: st) = .ref (g_adr G b) :: .ref (g_adr G a) :: st.map (cv G) := by
    rw [st_ref (hH.nz hb), st_ref (hH.nz (by omega))]
  rw [e0]
  refine W.putFinK c1 c2 c4 (c5 _ hlk) hi hst hcf (c8 hin) (by rw [q2]; exact h6) q1 q3 (by rw [hsl]; exact k2_hasslot (q4 k hkr)) rfl rfl hd fun H' e1 e2 e3 => ?_
  rw [hsl] at e1 ⊢
  refine kk p l e R s m args below meth c H' _ n0 z0 lsA Q C0 (hH.put (a := a) (by omega) e2 e3 rfl rfl rfl (fun _ _ _ => rfl) (fun b' hb k' => if_neg (fun z => hb z.1)) ?_) hn0 hz0 hN hZ ?_ hl fin
  · unfold g_cell
    rw [if_pos (show 10 ≤ (S_ref S a k b).2.2.1 a by show 10 ≤ S.2.2.1 a; omega)]
    show ∃ r : vw_C, vwCl[S.2.2.1 a - 10]? = some r ∧ t_OB (g_adr G a) (G.2.2.1.1 (S.2.2.1 a - 10)) r.2.2 (G.2.2.1.2 (S.2.2.1 a - 10)) H' (fun j => g_fv G (S.2.2.1 a - 10) j (μ a j) (rset S.2.2.2.2 a k b a j))
    rw [hk, Nat.add_sub_cancel_left]
    refine ⟨r, hr, t_OB.to (V := updV (fun k => g_fv G ci k (μ a k) (S.2.2.2.2 a k)) k (.ref (g_adr G b))) ⟨_, e1, q2, q3, t_set q4 hap hkr _⟩ (fun j _ => ?_)⟩
    by_cases ej : j = k
    · subst ej
      simp [updV, g_fv, rset, hty, hH.adr hb]
    · simp [updV, g_fv, rset, ej]
  · intro q hq
    rcases List.mem_append.mp hq with h | h
    · exact hlo q h
    · rw [List.mem_singleton.mp h]
      show G.1.size ≤ g_adr G a
      rw [g_adr_hi (hH.2.2.2.1 a (by omega)).1]
      omega
end EVH
end
section
/-! ===== arrays of the abstract machine, and what is made ===== -/
def S_new (S : HS) (ci N : Nat) : HS := (S.1 + 1, S.2.1 + N, (fun a => if a = S.1 then 10 + ci else S.2.2.1 a), S.2.2.2.1, S.2.2.2.2)
def S_arr (S : HS) (k n : Nat) : HS := (S.1 + 1, S.2.1 + n, (fun a => if a = S.1 then k else S.2.2.1 a), (fun a => if a = S.1 then n else S.2.2.2.1 a), S.2.2.2.2)
section HP2
variable {G : GW} {S S' : HS} {μ μ' : Mem} {H H' : Heap} {a : Nat}
theorem HR.next (h : HR G S μ H) : g_adr G S.1 = H.size := by
  have h1 := h.1
  have h2 := h.2.1
  rw [g_adr_hi h1]
  omega
theorem HR.push (h : HR G S μ H) (hn : S'.1 = S.1 + 1) (hsz : H'.size = H.size + 1) (ho : ∀ q : Nat, q < H.size → H'[q]? = H[q]?)
    (hk : ∀ b, b ≠ S.1 → S'.2.2.1 b = S.2.2.1 b) (hl : ∀ b, b ≠ S.1 → S'.2.2.2.1 b = S.2.2.2.1 b) (hm : ∀ b, b ≠ S.1 → ∀ k, μ' b k = μ b k) (hr : ∀ b, b ≠ S.1 → ∀ k, S'.2.2.2.2 b k = S.2.2.2.2 b k)
    (hc : g_cell G S' μ' S.1 H') : HR G S' μ' H' := by
  have hnx := h.next
  obtain ⟨a1, a2, a3, a4, a5⟩ := h
  refine ⟨by omega, by rw [hsz]; omega, fun q hq => ?_, fun b hb => ?_, fun b hb => ?_⟩
  · rw [ho q (by omega)]
    exact a3 q hq
  · by_cases e : b = S.1
    · omega
    · rw [hk b e] at hb
      have := a4 b hb
      omega
  · by_cases e : b = S.1
    · rw [e]
      exact hc
    · rw [hk b e] at hb
      obtain ⟨b1, b2⟩ := a4 b hb
      exact (a5 b hb).kept (ho _ (by rw [g_adr_hi b1]; omega)) (hk b e) (hl b e) (hm b e) (hr b e)
end HP2
theorem va_in_lt {i : Int32} {n : Nat} (h : vp_in i n) : i.toNatClampNeg < n := Nat.not_le.mp fun q => h (Or.inr q)
section EVA
variable {G : GW} {M : MK} {d N Z pc : Nat} {lv : List (Nat × Value)} {st : List Value} {S : HS} {μ : Mem} {K : Option Value → HS → Mem → Prop}
theorem ev_iaload {q : Nat} {i : Int32} (hk : S.2.2.1 q = 1) (hin : vp_in i (S.2.2.2.1 q)) (hd : decode M.2.1 pc = .ok (.iaload, 1)) (kk : EvW G M d N Z (pc + 1) lv (.int (μ q i.toNatClampNeg) :: st) S μ K) : EvW G M d N Z pc lv (.int i :: .ref q :: st) S μ K := by
  intro p l e R s m args below meth c H locs n0 z0 lsA Q C hH hn0 hz0 hN hZ hlo hl fin
  have kw := kk p l e R s m args below meth c H locs n0 z0 lsA Q C hH hn0 hz0 hN hZ hlo hl fin
  have hq : S.2.2.1 q ≠ 0 := by omega
  show W p l e R s m args below meth c H locs _ _ Q (F0 m pc lsA (.int i :: List.map (cv G) (.ref q :: st)))
  rw [st_ref (hH.nz hq)]
  exact W.iald (v := .int (μ q i.toNatClampNeg)) C.1 C.2.1 (hH.ints hk (by omega) (by omega)) ((C.2.2.2.2.2.2.2.2.2.1.2 0 (G.2.2.2.1 1, .int) rfl).1 _ _) (fun q => by cases q) (by rw [arrV_size]; exact hin) (by rw [arrV_read _ _ (va_in_lt hin)]) rfl rfl hd kw
theorem ev_zaload {q : Nat} {i : Int32} (hk : S.2.2.1 q = 2) (hin : vp_in i (S.2.2.2.1 q)) (hd : decode M.2.1 pc = .ok (.baload, 1)) (kk : EvW G M d N Z (pc + 1) lv (.int (μ q i.toNatClampNeg) :: st) S μ K) : EvW G M d N Z pc lv (.int i :: .ref q :: st) S μ K := by
  intro p l e R s m args below meth c H locs n0 z0 lsA Q C hH hn0 hz0 hN hZ hlo hl fin
  have kw := kk p l e R s m args below meth c H locs n0 z0 lsA Q C hH hn0 hz0 hN hZ hlo hl fin
  have hq : S.2.2.1 q ≠ 0 := by omega
  show W p l e R s m args below meth c H locs _ _ Q (F0 m pc lsA (.int i :: List.map (cv G) (.ref q :: st)))
  rw [st_ref (hH.nz hq)]
  exact W.zald (v := .int (μ q i.toNatClampNeg)) C.1 C.2.1 (hH.ints hk (by omega) (by omega)) ((C.2.2.2.2.2.2.2.2.2.1.2 1 (G.2.2.2.1 2, .boolean) rfl).1 _ _) (fun q => by cases q) (by rw [arrV_size]; exact hin) (by rw [arrV_read _ _ (va_in_lt hin)]) rfl rfl hd kw
theorem ev_caload {q : Nat} {i : Int32} (hk : S.2.2.1 q = 3) (hin : vp_in i (S.2.2.2.1 q)) (hd : decode M.2.1 pc = .ok (.caload, 1)) (kk : EvW G M d N Z (pc + 1) lv (.int (μ q i.toNatClampNeg) :: st) S μ K) : EvW G M d N Z pc lv (.int i :: .ref q :: st) S μ K := by
  intro p l e R s m args below meth c H locs n0 z0 lsA Q C hH hn0 hz0 hN hZ hlo hl fin
  have kw := kk p l e R s m args below meth c H locs n0 z0 lsA Q C hH hn0 hz0 hN hZ hlo hl fin
  have hq : S.2.2.1 q ≠ 0 := by omega
  show W p l e R s m args below meth c H locs _ _ Q (F0 m pc lsA (.int i :: List.map (cv G) (.ref q :: st)))
  rw [st_ref (hH.nz hq)]
  exact W.cald (v := .int (μ q i.toNatClampNeg)) C.1 C.2.1 (hH.ints hk (by omega) (by omega)) ((C.2.2.2.2.2.2.2.2.2.1.2 2 (G.2.2.2.1 3, .char) rfl).1 _ _) (fun q => by cases q) (by rw [arrV_size]; exact hin) (by rw [arrV_read _ _ (va_in_lt hin)]) rfl rfl hd kw
theorem ev_aaload {q k : Nat} {i : Int32} (hk : S.2.2.1 q = k) (h4 : 4 ≤ k ∧ k ≤ 7) (hin : vp_in i (S.2.2.2.1 q)) (hd : decode M.2.1 pc = .ok (.aaload, 1)) (kk : EvW G M d N Z (pc + 1) lv (.ref (S.2.2.2.2 q i.toNatClampNeg) :: st) S μ K) : EvW G M d N Z pc lv (.int i :: .ref q :: st) S μ K := by
  intro p l e R s m args below meth c H locs n0 z0 lsA Q C hH hn0 hz0 hN hZ hlo hl fin
  have kw := kk p l e R s m args below meth c H locs n0 z0 lsA Q C hH hn0 hz0 hN hZ hlo hl fin
  have hq : S.2.2.1 q ≠ 0 := by omega
  show W p l e R s m args below meth c H locs _ _ Q (F0 m pc lsA (.int i :: List.map (cv G) (.ref q :: st)))
  rw [st_ref (hH.nz hq)]
  have hty : ∃ ty : FieldType, ty.isReference = true ∧ ArrOfT s (G.2.2.2.1 k) ty := by
    have T := C.2.2.2.2.2.2.2.2.2.1.2
    rcases (show k = 4 ∨ k = 5 ∨ k = 6 ∨ k = 7 by omega) with rfl | rfl | rfl | rfl
    · exact ⟨_, rfl, (T 3 (G.2.2.2.1 4, .array .int) rfl).1⟩
    · exact ⟨_, rfl, (T 4 (G.2.2.2.1 5, .object RX0) rfl).1⟩
    · exact ⟨_, rfl, (T 5 (G.2.2.2.1 6, .object RX6) rfl).1⟩
    · exact ⟨_, rfl, (T 6 (G.2.2.2.1 7, .object RX4) rfl).1⟩
  obtain ⟨ty, hr, hA⟩ := hty
  exact W.aald (v := g_rf G (S.2.2.2.2 q i.toNatClampNeg)) (ty := ty) C.1 C.2.1 (hH.refs hk h4.1 h4.2) (hA _ _) hr (fun q => by cases q) (by rw [arrV_size]; exact hin) (by rw [arrV_read _ _ (va_in_lt hin)]) rfl rfl hd kw
theorem ev_arraylength {q : Nat} (hk : S.2.2.1 q ≠ 0 ∧ S.2.2.1 q ≤ 7) (hd : decode M.2.1 pc = .ok (.arraylength, 1)) (kk : EvW G M d N Z (pc + 1) lv (.int (nI (S.2.2.2.1 q)) :: st) S μ K) : EvW G M d N Z pc lv (.ref q :: st) S μ K := by
  intro p l e R s m args below meth c H locs n0 z0 lsA Q C hH hn0 hz0 hN hZ hlo hl fin
  have kw := kk p l e R s m args below meth c H locs n0 z0 lsA Q C hH hn0 hz0 hN hZ hlo hl fin
  rw [st_ref (hH.nz hk.1)]
  have T := C.2.2.2.2.2.2.2.2.2.1.2
  have key : ∃ (cell : Cell) (ty : FieldType), H[g_adr G q]? = some cell ∧ s.isArrayOf cell ty ∧ cell.slots.size = S.2.2.2.1 q := by
    obtain ⟨k1, k2⟩ := hk
    generalize hkk : S.2.2.1 q = k at k1 k2
    rcases (show k = 1 ∨ k = 2 ∨ k = 3 ∨ k = 4 ∨ k = 5 ∨ k = 6 ∨ k = 7 by omega) with rfl | rfl | rfl | rfl | rfl | rfl | rfl
    · exact ⟨_, _, hH.ints hkk (by omega) (by omega), (T 0 (G.2.2.2.1 1, .int) rfl).1 _ _, arrV_size _ _ _⟩
    · exact ⟨_, _, hH.ints hkk (by omega) (by omega), (T 1 (G.2.2.2.1 2, .boolean) rfl).1 _ _, arrV_size _ _ _⟩
    · exact ⟨_, _, hH.ints hkk (by omega) (by omega), (T 2 (G.2.2.2.1 3, .char) rfl).1 _ _, arrV_size _ _ _⟩
    · exact ⟨_, _, hH.refs hkk (by omega) (by omega), (T 3 (G.2.2.2.1 4, .array .int) rfl).1 _ _, arrV_size _ _ _⟩
    · exact ⟨_, _, hH.refs hkk (by omega) (by omega), (T 4 (G.2.2.2.1 5, .object RX0) rfl).1 _ _, arrV_size _ _ _⟩
    · exact ⟨_, _, hH.refs hkk (by omega) (by omega), (T 5 (G.2.2.2.1 6, .object RX6) rfl).1 _ _, arrV_size _ _ _⟩
    · exact ⟨_, _, hH.refs hkk (by omega) (by omega), (T 6 (G.2.2.2.1 7, .object RX4) rfl).1 _ _, arrV_size _ _ _⟩
  obtain ⟨cell, ty, g1, g2, g3⟩ := key
  exact W.alen (n := nI (S.2.2.2.1 q)) C.1 C.2.1 g1 g2 (by rw [g3]; rfl) rfl rfl hd kw
theorem g_lo {G : GW} {S : HS} {μ : Mem} {H : Heap} {locs : List Loc} {a j : Nat} (hH : HR G S μ H) (ha : S.2.2.1 a ≠ 0) (hlo : ∀ q ∈ locs, G.1.size ≤ q.base) : ∀ q ∈ locs ++ [(⟨g_adr G a, j⟩ : Loc)], G.1.size ≤ q.base := by
  intro q hq
  rcases List.mem_append.mp hq with h | h
  · exact hlo q h
  · rw [List.mem_singleton.mp h]
    show G.1.size ≤ g_adr G a
    rw [g_adr_hi (hH.2.2.2.1 a ha).1]
    omega
theorem g_seti {G : GW} {S : HS} {μ : Mem} {q k j : Nat} {x : Int32} {H' : Heap} (hk : S.2.2.1 q = k) (h1 : 1 ≤ k) (h3 : k ≤ 3) (e : H'[g_adr G q]? = some ((arrV (G.2.2.2.1 k) (S.2.2.2.1 q) (fun j => .int (μ q j))).setSlot j (.int x))) : g_cell G S (mset μ q j x) q H' := by
  unfold g_cell
  rw [if_neg (by omega), if_pos (by omega), e, hk, arrV_store]
  congr 2
  funext j'
  by_cases ej : j' = j
  · subst ej
    simp [updV, mset]
  · simp [updV, mset, ej]
theorem ev_iastore {q : Nat} {i x : Int32} (hk : S.2.2.1 q = 1) (hin : vp_in i (S.2.2.2.1 q)) (hd : decode M.2.1 pc = .ok (.iastore, 1)) (kk : EvW G M d N Z (pc + 1) lv st S (mset μ q i.toNatClampNeg x) K) : EvW G M d N Z pc lv (.int x :: .int i :: .ref q :: st) S μ K := by
  intro p l e R s m args below meth c H locs n0 z0 lsA Q C hH hn0 hz0 hN hZ hlo hl fin
  have hq : S.2.2.1 q ≠ 0 := by omega
  show W p l e R s m args below meth c H locs _ _ Q (F0 m pc lsA (.int x :: .int i :: List.map (cv G) (.ref q :: st)))
  rw [st_ref (hH.nz hq)]
  refine W.iast C.1 C.2.1 (hH.ints hk (by omega) (by omega)) ((C.2.2.2.2.2.2.2.2.2.1.2 0 (G.2.2.2.1 1, .int) rfl).1 _ _) (fun q => by cases q) (by rw [arrV_size]; exact hin) rfl rfl hd fun H1 e1 z1 oq => ?_
  exact kk p l e R s m args below meth c H1 _ n0 z0 lsA Q C (hH.put (a := q) hq z1 oq rfl rfl rfl (fun b hb k' => mset_other (fun z => hb z.1)) (fun _ _ _ => rfl) (g_seti hk (by omega) (by omega) e1)) hn0 hz0 hN hZ (g_lo hH hq hlo) hl fin
theorem ev_zastore {q : Nat} {i x : Int32} (hk : S.2.2.1 q = 2) (hin : vp_in i (S.2.2.2.1 q)) (hx : narrow .boolean (.int x) = .int x) (hd : decode M.2.1 pc = .ok (.bastore, 1)) (kk : EvW G M d N Z (pc + 1) lv st S (mset μ q i.toNatClampNeg x) K) : EvW G M d N Z pc lv (.int x :: .int i :: .ref q :: st) S μ K := by
  intro p l e R s m args below meth c H locs n0 z0 lsA Q C hH hn0 hz0 hN hZ hlo hl fin
  have hq : S.2.2.1 q ≠ 0 := by omega
  show W p l e R s m args below meth c H locs _ _ Q (F0 m pc lsA (.int x :: .int i :: List.map (cv G) (.ref q :: st)))
  rw [st_ref (hH.nz hq)]
  refine W.zast C.1 C.2.1 (hH.ints hk (by omega) (by omega)) ((C.2.2.2.2.2.2.2.2.2.1.2 1 (G.2.2.2.1 2, .boolean) rfl).1 _ _) (fun q => by cases q) (by rw [arrV_size]; exact hin) rfl rfl hd fun H1 e1 z1 oq => ?_
  rw [hx] at e1
  exact kk p l e R s m args below meth c H1 _ n0 z0 lsA Q C (hH.put (a := q) hq z1 oq rfl rfl rfl (fun b hb k' => mset_other (fun z => hb z.1)) (fun _ _ _ => rfl) (g_seti hk (by omega) (by omega) e1)) hn0 hz0 hN hZ (g_lo hH hq hlo) hl fin
theorem ev_castore {q : Nat} {i x : Int32} (hk : S.2.2.1 q = 3) (hin : vp_in i (S.2.2.2.1 q)) (hx : narrow .char (.int x) = .int x) (hd : decode M.2.1 pc = .ok (.castore, 1)) (kk : EvW G M d N Z (pc + 1) lv st S (mset μ q i.toNatClampNeg x) K) : EvW G M d N Z pc lv (.int x :: .int i :: .ref q :: st) S μ K := by
  intro p l e R s m args below meth c H locs n0 z0 lsA Q C hH hn0 hz0 hN hZ hlo hl fin
  have hq : S.2.2.1 q ≠ 0 := by omega
  show W p l e R s m args below meth c H locs _ _ Q (F0 m pc lsA (.int x :: .int i :: List.map (cv G) (.ref q :: st)))
  rw [st_ref (hH.nz hq)]
  refine W.cast C.1 C.2.1 (hH.ints hk (by omega) (by omega)) ((C.2.2.2.2.2.2.2.2.2.1.2 2 (G.2.2.2.1 3, .char) rfl).1 _ _) (fun q => by cases q) (by rw [arrV_size]; exact hin) rfl rfl hd fun H1 e1 z1 oq => ?_
  rw [hx] at e1
  exact kk p l e R s m args below meth c H1 _ n0 z0 lsA Q C (hH.put (a := q) hq z1 oq rfl rfl rfl (fun b hb k' => mset_other (fun z => hb z.1)) (fun _ _ _ => rfl) (g_seti hk (by omega) (by omega) e1)) hn0 hz0 hN hZ (g_lo hH hq hlo) hl fin
/-- an object put into a row of objects of its class -/
theorem ev_aastore {q b k ci : Nat} {i : Int32} (hk : S.2.2.1 q = k) (hkc : (k = 5 ∧ ci = 0) ∨ (k = 6 ∧ ci = 6) ∨ (k = 7 ∧ ci = 4)) (hb : S.2.2.1 b = 10 + ci) (hin : vp_in i (S.2.2.2.1 q)) (hd : decode M.2.1 pc = .ok (.aastore, 1)) (kk : EvW G M d N Z (pc + 1) lv st (S_ref S q i.toNatClampNeg b) μ K) : EvW G M d N Z pc lv (.ref b :: .int i :: .ref q :: st) S μ K := by
  intro p l e R s m args below meth c H locs n0 z0 lsA Q C hH hn0 hz0 hN hZ hlo hl fin
  have hq : S.2.2.1 q ≠ 0 := by omega
  have hbz : S.2.2.1 b ≠ 0 := by omega
  have e0 : List.map (cv G) (.ref b :: .int i :: .ref q :: st) = .ref (g_adr G b) :: .int i :: .ref (g_adr G q) :: st.map (cv G) := by
    rw [st_ref (hH.nz hbz)]
    show _ :: _ :: List.map (cv G) (.ref q :: st) = _
    rw [st_ref (hH.nz hq)]
    rfl
  rw [e0]
  have T := C.2.2.2.2.2.2.2.2.2.1.2
  have key : ∃ r : vw_C, vwCl[ci]? = some r ∧ va_RA s (G.2.2.2.1 k) (.object r.1) := by
    rcases hkc with ⟨rfl, rfl⟩ | ⟨rfl, rfl⟩ | ⟨rfl, rfl⟩
    · exact ⟨_, rfl, (T 4 (G.2.2.2.1 5, .object RX0) rfl).2⟩
    · exact ⟨_, rfl, (T 5 (G.2.2.2.1 6, .object RX6) rfl).2⟩
    · exact ⟨_, rfl, (T 6 (G.2.2.2.1 7, .object RX4) rfl).2⟩
  obtain ⟨r, hr, kA, comp, k1, k2, k3, -⟩ := key
  have hcls := (C.2.2.2.2.2.2.2.2.2.1.1 ci r hr).2
  have hcomp : comp = G.2.2.1.1 ci := Option.some.inj (k3.symm.trans hcls.1)
  subst hcomp
  obtain ⟨kC, hkC, -⟩ := hcls.2
  obtain ⟨r', hr', cellV, g1, g2, g3, -⟩ := hH.obj hb
  refine W.aast C.1 C.2.1 (hH.refs hk (by omega) (by omega)) (fun q h => by cases h) (fun h => by cases h) k1 k2 rfl hkC ⟨fun z => hin (Or.inl z), by rw [arrV_size]; exact va_in_lt hin⟩ g1 (fun q h => by rw [g3] at h; cases h) (by rw [g2]; exact hkC) (by rw [g2]; exact va_assign hcls) rfl rfl hd fun H1 e1 z1 oq => ?_
  refine kk p l e R s m args below meth c H1 _ n0 z0 lsA Q C (hH.put (a := q) hq z1 oq rfl rfl rfl (fun _ _ _ => rfl) (fun b' hb' k' => if_neg (fun z => hb' z.1)) ?_) hn0 hz0 hN hZ (g_lo hH hq hlo) hl fin
  show g_cell G (S.1, S.2.1, S.2.2.1, S.2.2.2.1, rset S.2.2.2.2 q i.toNatClampNeg b) μ q H1
  unfold g_cell
  rw [if_neg (show ¬ 10 ≤ S.2.2.1 q by omega), if_neg (show ¬ S.2.2.1 q ≤ 3 by omega), e1]
  show _ = some (arrV (G.2.2.2.1 (S.2.2.1 q)) (S.2.2.2.1 q) (fun j => g_rf G (rset S.2.2.2.2 q i.toNatClampNeg b q j)))
  rw [hk, arrV_store]
  congr 2
  funext j'
  by_cases ej : j' = i.toNatClampNeg
  · subst ej
    simp [updV, rset, hH.adr hbz]
  · simp [updV, rset, ej]
end EVA
end
section
/-! ===== calls: a method's contract out of its walk, and a call by it ===== -/
def g_Pc (G : GW) (S : HS) (μ : Mem) (as : List Value) : Array Value → State → Prop := fun v U => v = (as.map (cv G)).toArray ∧ HR G S μ U.heap ∧ TK G U ∧ EX G U
def g_Qc (G : GW) (r : Option FieldType) (N Z : Nat) (K : Option Value → HS → Mem → Prop) : Array Value → State → Outcome → State → Prop := fun _ _ o t => ∃ (v : Option Value) (S' : HS) (μ' : Mem), o = .returned v ∧ g_fit r v ∧ K v S' μ' ∧ HR G S' μ' t.heap ∧ S'.1 = N ∧ S'.2.1 = Z
abbrev g_ws (M : MK) : List Cond := Cond.code M.1 M.2.1 M.2.2.1 M.2.2.2 :: TW
abbrev g_rm (d nc nz : Nat) : Room := { frames := d, cells := nc, slots := nz, locals := 64 * d }
theorem g_blind (G : GW) (S : HS) (μ : Mem) (as : List Value) : FrameBlind (g_Pc G S μ as) := fun a U g mk q => ⟨q.1, q.2.1, va_K.moved (u := U) (U := U.calling g mk a) (Vm.Alike.refl U.vm) q.2.2.1, EX.warm (s := U) (U := U.calling g mk a) (State.WarmedH.refl U) q.2.2.2⟩
theorem lv_args_map (G : GW) : ∀ (as : List Value) (i : Nat), lv_args i (as.map (cv G)) = (lv_args i as).map (cvp G)
  | [], _ => rfl
  | a :: as, i => by
    show (i, cv G a) :: lv_args (if (cv G a).category = 2 then i + 2 else i + 1) (as.map (cv G)) = (i, cv G a) :: (lv_args (if a.category = 2 then i + 2 else i + 1) as).map (cvp G)
    rw [cv_cat, lv_args_map G as]
theorem lg_sl_map (G : GW) : ∀ as : List Value, (lg_sl (as.map (cv G))).length = (lg_sl as).length
  | [] => rfl
  | a :: as => by
    have h := lg_sl_map G as
    unfold lg_sl at h ⊢
    rw [List.map_cons, List.flatMap_cons, List.flatMap_cons, List.length_append, List.length_append, h, cv_cat]
    congr 1
    split <;> rfl
theorem g_fit_cv {G : GW} {r : Option FieldType} {v : Option Value} (h : g_fit r v) : v.toList.map (cv G) = v.toList := by
  cases v with
  | none => rfl
  | some v =>
    cases v with
    | int x => rfl
    | long x => rfl
    | _ =>
      exfalso
      cases r with
      | none => exact h
      | some ty => cases ty <;> exact h
theorem met_of {G : GW} {M : MK} {d N Z : Nat} {as : List Value} {S : HS} {μ : Mem} {K : Option Value → HS → Mem → Prop} (hpl : plainName M.1.cls = true) (hlen : (lg_sl as).length ≤ M.2.2.1) (hN0 : S.1 ≤ N) (hZ0 : S.2.1 ≤ Z)
    (h : EvW G M d N Z 0 (lv_args 0 as) [] S μ K) (l : Launch) : Met l M.1 (g_ws M) (g_rm d (N - S.1) (Z - S.2.1)) (g_Pc G S μ as) (g_Qc G M.2.2.2 N Z K) (N - S.1) (Z - S.2.1) (fun q => G.1.size ≤ q) := by
  refine Met.ofW (cc := M.2.1) (maxL := M.2.2.1) (ret := M.2.2.2) hpl rfl ?_
  intro p e s m args below meth c s₁ B hml hv
  obtain ⟨rfl, hH, hTK, hEX⟩ := hv
  have hts := atoms_spec (ws := g_ws M) B.pre
  have hl := lv_entry (as.map (cv G)) (n := M.2.2.1) (by rw [lg_sl_map]; exact hlen)
  rw [lv_args_map] at hl
  rw [lg_entry_eq]
  have w := h p l e (headSpec (g_ws M) (g_rm d (N - S.1) (Z - S.2.1))).room s m _ below meth c s.heap [] S.1 S.2.1 _ (MQ below (g_Qc G M.2.2.2 N Z K) (as.map (cv G)).toArray s (N - S.1) (Z - S.2.1) (fun q => G.1.size ≤ q))
    ⟨B.exec, B.bytes, hml, findClass_of_methodNamed B.named, fun w hw => hts w (List.mem_cons_of_mem _ hw), B.returns, B.notSynchronized, fun hi => (name_of_methodNamed B.named B.method).1.trans hi, ⟨Nat.le_refl _, Nat.le_refl _⟩, hTK, hEX⟩ hH (Nat.le_refl _) (Nat.le_refl _) (by show N ≤ S.1 + (N - S.1); omega) (by show Z ≤ S.2.1 + (Z - S.2.1); omega) (fun q hq => by cases hq) hl ?_
  · rw [Nat.sub_self, Nat.sub_self] at w
    exact w
  · intro v S' μ' H' locs' pc' lsA' hdec hfit hK hH' e1 e2 hlo'
    have hq : ∀ t : State, t.heap = H' → s.WarmedH t.vm → g_Qc G M.2.2.2 N Z K (as.map (cv G)).toArray s (.returned v) t := fun t ht _ => ⟨v, S', μ', rfl, hfit, hK, by rw [ht]; exact hH', e1, e2⟩
    have hr := B.returns
    have hlocks := B.notSynchronized
    generalize M.2.2.2 = ret at hdec hfit hq hr ⊢
    cases ret with
    | none =>
      cases v with
      | none => exact W.vret B.exec B.bytes hr hq hlo' hdec
      | some v => exact absurd hfit (by simp [g_fit])
    | some ty =>
      cases v with
      | none => exact absurd hfit (by cases ty <;> simp [g_fit])
      | some v =>
        cases v with
        | int x =>
          cases ty with
          | int => exact W.iret B.exec B.bytes hr hq hlo' hdec
          | boolean => exact W.zret (ty := .boolean) B.exec B.bytes hr hfit hq hlo' hdec
          | char => exact W.zret (ty := .char) B.exec B.bytes hr hfit hq hlo' hdec
          | _ => exact absurd hfit (by simp [g_fit])
        | long x =>
          cases ty with
          | long => exact W.lret B.exec B.bytes hr hq hlo' hdec
          | _ => exact absurd hfit (by simp [g_fit])
        | _ => exact absurd hfit (by cases ty <;> simp [g_fit])
/-- what is asked of a method that is called: its words -/
def mOK (M : MK) (n : Nat) : Prop := plainName M.1.cls = true ∧ (M.1.cls ≠ "java/lang/invoke/MethodHandle" ∧ M.1.cls ≠ "java/lang/invoke/VarHandle" ∧ (parseMethodDescriptor M.1.desc).map (fun d => d.parameters.length) = some n) ∧ Cond.initialized M.1.cls ∈ TW ∧ Cond.code M.1 M.2.1 M.2.2.1 M.2.2.2 ∈ TW ∧ M.2.2.1 ≤ 45
theorem TW_ws {M : MK} {n : Nat} (h : mOK M n) {w : Cond} (hw : w ∈ g_ws M) : w ∈ TW := by
  rcases List.mem_cons.mp hw with e | hw
  · rw [e]
    exact h.2.2.2.1
  · exact hw
theorem goodTW {ws : List Cond} (h : ∀ w ∈ ws, w ∈ TW) : GoodIn TW ws := fun w hw => ⟨h w hw, TW_good (h w hw)⟩
section EVC
variable {G : GW} {M M' : MK} {d d' N Z N' Z' pc n idx : Nat} {lv : List (Nat × Value)} {st as stk : List Value} {S : HS} {μ : Mem} {K K' : Option Value → HS → Mem → Prop}
theorem ev_call (hrun : ∀ (p : Program) (l : Launch) (e : Env) (R : Room) (s : State) (m : MethodId) (args : Array Value) (below : List Frame) (meth : Method) (c : Code) (H : Heap) (locs : List Loc) (cells slots : Nat) (lsA : Array Slot), CX G M d p R s m args meth c → HR G S μ H → lsA.size = M.2.2.1 → cells + (N' - S.1) ≤ R.cells → slots + (Z' - S.2.1) ≤ R.slots →
      ∃ av : Array Value, va_Run p l e R s m args below meth c H locs cells slots (N' - S.1) (Z' - S.2.1) (F0 m pc lsA (stk.map (cv G))) (st.map (cv G)) (g_Qc G M'.2.2.2 N' Z' K' av) (fun q => G.1.size ≤ q))
    (hb : (S.1 ≤ N' ∧ N' ≤ N) ∧ S.2.1 ≤ Z' ∧ Z' ≤ Z) (kk : ∀ v S' μ', K' v S' μ' → g_fit M'.2.2.2 v → S'.1 = N' → S'.2.1 = Z' → EvW G M d N Z (pc + 3) lv (v.toList ++ st) S' μ' K) : EvW G M d N Z pc lv stk S μ K := by
  intro p l e R s m args below meth c H locs n0 z0 lsA Q C hH hn0 hz0 hN hZ hlo hl fin
  obtain ⟨av, hr⟩ := hrun p l e R s m args below meth c H locs (S.1 - n0) (S.2.1 - z0) lsA C hH hl.1 (by omega) (by omega)
  intro T hT X
  obtain ⟨v, st₀, t, T', L, h0, X', hL, e1, e2, ⟨v', S', μ', hv, hfit, hK, hHt, en, ez⟩, stp⟩ := hr T hT X
  cases hv
  have c1 : S.1 - n0 + (N' - S.1) = S'.1 - n0 := by omega
  have c2 : S.2.1 - z0 + (Z' - S.2.1) = S'.2.1 - z0 := by omega
  rw [c1, c2] at X'
  have k2 := kk v S' μ' hK hfit en ez p l e R s m args below meth c T'.heap (locs ++ L) n0 z0 lsA Q C (by rw [e1]; exact hHt) (by omega) (by omega) hN hZ (fun q hq => by
    rcases List.mem_append.mp hq with h | h
    · exact hlo q h
    · exact hL q h) hl fin
  rw [List.map_append, g_fit_cv hfit] at k2
  obtain ⟨t2, a1, b1⟩ := k2 T' rfl X'
  exact ⟨t2, stp t2 a1, b1⟩
theorem g_cat : ((st.map (cv G)).map fun v => v.category).sum = (st.map fun v => v.category).sum := by
  rw [List.map_map]
  congr 1
  exact List.map_congr_left (fun v _ => cv_cat G v)
theorem g_room {R : Room} (h : d ≤ R.frames ∧ 64 * d ≤ R.locals) (h1 : M'.2.2.1 ≤ 45) (hd : d' + 1 ≤ d) {nc nz : Nat} : (g_rm d' nc nz).frames + 1 ≤ R.frames ∧ 8 + (M'.2.2.1 + 11) + (g_rm d' nc nz).locals ≤ R.locals := by
  show d' + 1 ≤ R.frames ∧ 8 + (M'.2.2.1 + 11) + 64 * d' ≤ R.locals
  omega
/-- invokevirtual of a method of the receiver's own class -/
theorem ev_callV {a ci : Nat} (hM : mOK M' n) (hV : Cond.instanceMethod M'.1 ∈ TW ∧ Cond.selects M'.1.cls M'.1 M'.1 ∈ TW) (hS : Cond.methodLink M.1.cls idx M'.1 ∈ TW) (hcl : ∀ r, vwCl[ci]? = some r → r.1 = M'.1.cls) (hk : S.2.2.1 a = 10 + ci) (hd : decode M.2.1 pc = .ok (.invokevirtual idx, 3)) (hn : as.length = n)
    (hstk : as.reverse ++ .ref a :: st = stk) (hsum : (st.map fun v => v.category).sum ≤ 8) (hlen : (lg_sl (.ref a :: as)).length ≤ M'.2.2.1) (hdd : d' + 1 ≤ d) (hb : (S.1 ≤ N' ∧ N' ≤ N) ∧ S.2.1 ≤ Z' ∧ Z' ≤ Z)
    (hE : EvW G M' d' N' Z' 0 (lv_args 0 (.ref a :: as)) [] S μ K') (kk : ∀ v S' μ', K' v S' μ' → g_fit M'.2.2.2 v → S'.1 = N' → S'.2.1 = Z' → EvW G M d N Z (pc + 3) lv (v.toList ++ st) S' μ' K) : EvW G M d N Z pc lv stk S μ K := by
  refine ev_call (st := st) (M' := M') (K' := K') ?_ hb kk
  intro p l e R s m args below meth c H locs cells slots lsA C hH hsz h1 h2
  have hnz := hH.nz (a := a) (by omega)
  obtain ⟨r, hr, cell, q1, q2, q3, -⟩ := hH.obj hk
  have hcls := (C.2.2.2.2.2.2.2.2.2.1.1 ci r hr).2.1
  rw [hcl r hr] at hcls
  refine ⟨_, va_runV (As := as.map (cv G)) (rest := st.map (cv G)) (C := M'.1.cls) (b := g_adr G a) (Ts := TW) ⟨C.1, C.2.1, C.2.2.1, C.2.2.2.1, C.2.2.2.2.1⟩ (met_of hM.1 hlen hb.1.1 hb.2.1 hE l) (cwV (ws' := TW) n C.2.2.2.2.1 (goodTW ?_) rfl rfl rfl ⟨rfl, hM.2.1⟩ (g_room C.2.2.2.2.2.2.2.2.1 hM.2.2.2.2 hdd)) ⟨g_blind _ _ _ _, ⟨cell, q1, by rw [q3]; rfl, by rw [q2]; exact hcls⟩, fun U hU hW => ⟨by rw [st_ref hnz], by rw [hU]; exact hH, va_K.moved hW.alike C.2.2.2.2.2.2.2.2.2.1, EX.warm hW C.2.2.2.2.2.2.2.2.2.2⟩⟩ rfl (by rw [List.length_map]; exact hn) hsz ?_ (lv_room (by rw [g_cat]; exact hsum)) hd ⟨h1, h2⟩⟩
  · intro w hw
    unfold wsV at hw
    rcases List.mem_append.mp hw with h | h
    · simp only [List.mem_cons, List.not_mem_nil, or_false] at h
      rcases h with rfl | rfl | rfl | rfl
      · exact hS
      · exact hV.1
      · exact hV.2
      · exact hM.2.2.1
    · exact TW_ws hM h
  · show stk.map (cv G) = _
    rw [← hstk, List.map_append, st_ref hnz, List.map_reverse]
/-- invokestatic -/
theorem ev_callS (hM : mOK M' n) (hV : Cond.static M'.1 ∈ TW) (hS : Cond.methodLink M.1.cls idx M'.1 ∈ TW) (hd : decode M.2.1 pc = .ok (.invokestatic idx, 3)) (hn : as.length = n)
    (hstk : as.reverse ++ st = stk) (hsum : (st.map fun v => v.category).sum ≤ 8) (hlen : (lg_sl as).length ≤ M'.2.2.1) (hdd : d' + 1 ≤ d) (hb : (S.1 ≤ N' ∧ N' ≤ N) ∧ S.2.1 ≤ Z' ∧ Z' ≤ Z)
    (hE : EvW G M' d' N' Z' 0 (lv_args 0 as) [] S μ K') (kk : ∀ v S' μ', K' v S' μ' → g_fit M'.2.2.2 v → S'.1 = N' → S'.2.1 = Z' → EvW G M d N Z (pc + 3) lv (v.toList ++ st) S' μ' K) : EvW G M d N Z pc lv stk S μ K := by
  refine ev_call (st := st) (M' := M') (K' := K') ?_ hb kk
  intro p l e R s m args below meth c H locs cells slots lsA C hH hsz h1 h2
  refine ⟨_, va_runS (As := as.map (cv G)) (rest := st.map (cv G)) (Ts := TW) ⟨C.1, C.2.1, C.2.2.1, C.2.2.2.1, C.2.2.2.2.1⟩ (met_of hM.1 hlen hb.1.1 hb.2.1 hE l) (va_cwS (ws' := TW) n C.2.2.2.2.1 (goodTW ?_) rfl rfl rfl hM.2.1 (g_room C.2.2.2.2.2.2.2.2.1 hM.2.2.2.2 hdd)) ⟨g_blind _ _ _ _, fun U hU hW => ⟨rfl, by rw [hU]; exact hH, va_K.moved hW.alike C.2.2.2.2.2.2.2.2.2.1, EX.warm hW C.2.2.2.2.2.2.2.2.2.2⟩⟩ rfl (by rw [List.length_map]; exact hn) hsz ?_ (lv_room (by rw [g_cat]; exact hsum)) hd ⟨h1, h2⟩⟩
  · intro w hw
    unfold va_wsS at hw
    rcases List.mem_append.mp hw with h | h
    · simp only [List.mem_cons, List.not_mem_nil, or_false] at h
      rcases h with rfl | rfl | rfl
      · exact hS
      · exact hV
      · exact hM.2.2.1
    · exact TW_ws hM h
  · show stk.map (cv G) = _
    rw [← hstk, List.map_append, List.map_reverse]
/-- invokestatic of a nest mate's private method -/
theorem ev_callSN {host : String} (hM : mOK M' n) (hV : Cond.static M'.1 ∈ TW) (hS : Cond.methodLinkNest M.1.cls idx M'.1 host ∈ NWl) (hd : decode M.2.1 pc = .ok (.invokestatic idx, 3)) (hn : as.length = n)
    (hstk : as.reverse ++ st = stk) (hsum : (st.map fun v => v.category).sum ≤ 8) (hlen : (lg_sl as).length ≤ M'.2.2.1) (hdd : d' + 1 ≤ d) (hb : (S.1 ≤ N' ∧ N' ≤ N) ∧ S.2.1 ≤ Z' ∧ Z' ≤ Z)
    (hE : EvW G M' d' N' Z' 0 (lv_args 0 as) [] S μ K') (kk : ∀ v S' μ', K' v S' μ' → g_fit M'.2.2.2 v → S'.1 = N' → S'.2.1 = Z' → EvW G M d N Z (pc + 3) lv (v.toList ++ st) S' μ' K) : EvW G M d N Z pc lv stk S μ K := by
  refine ev_call (st := st) (M' := M') (K' := K') ?_ hb kk
  intro p l e R s m args below meth c H locs cells slots lsA C hH hsz h1 h2
  refine ⟨_, va_runSN (As := as.map (cv G)) (rest := st.map (cv G)) (Ts := TW) ⟨C.1, C.2.1, C.2.2.1, C.2.2.2.1, C.2.2.2.2.1⟩ (met_of hM.1 hlen hb.1.1 hb.2.1 hE l) ⟨va_cnB (ws' := TW) n C.2.2.2.2.1 (goodTW (fun w hw => TW_ws hM hw)) rfl rfl rfl (C.2.2.2.2.2.2.2.2.2.2.2.2.2.2.2.2.1 _ hS) (C.2.2.2.2.1 _ hM.2.2.1) hM.2.1 (g_room C.2.2.2.2.2.2.2.2.1 hM.2.2.2.2 hdd), C.2.2.2.2.1 _ hV, trivial⟩ ⟨g_blind _ _ _ _, fun U hU hW => ⟨rfl, by rw [hU]; exact hH, va_K.moved hW.alike C.2.2.2.2.2.2.2.2.2.1, EX.warm hW C.2.2.2.2.2.2.2.2.2.2⟩⟩ rfl (by rw [List.length_map]; exact hn) hsz ?_ (lv_room (by rw [g_cat]; exact hsum)) hd ⟨h1, h2⟩⟩
  show stk.map (cv G) = _
  rw [← hstk, List.map_append, List.map_reverse]
end EVC
end
section
/-! ===== what is made, constructors, links to what stands outside, the JDK's few members ===== -/
def S_mul (S : HS) (n k : Nat) : HS := (S.1 + 1 + n, S.2.1 + n + n * k, (fun a => if a = S.1 then 4 else if S.1 < a ∧ a ≤ S.1 + n then 1 else S.2.2.1 a), (fun a => if a = S.1 then n else if S.1 < a ∧ a ≤ S.1 + n then k else S.2.2.2.1 a), (fun a j => if a = S.1 ∧ j < n then S.1 + 1 + j else S.2.2.2.2 a j))
def mcpy (μ : Mem) (q0 q1 sp dp n : Nat) : Mem := fun a k => if a = q1 then va_cpy (μ q0) (μ q1) sp dp n k else μ a k
def imax (x y : Int32) : Int32 := if x < y then y else x
def imin (x y : Int32) : Int32 := if y < x then y else x
def iabs (x : Int32) : Int32 := if 0 ≤ x then x else 0 - x
section EVM
variable {G : GW} {M M' : MK} {d d' N Z N' Z' pc n idx : Nat} {lv : List (Nat × Value)} {st as stk : List Value} {S : HS} {μ : Mem} {K K' : Option Value → HS → Mem → Prop}
/-- a constructor of the own class, or of one whose constructor isn't private -/
theorem ev_callI {a : Nat} (hM : mOK M' n) (hi : M'.1.name = "<init>" ∧ M'.2.2.2 = none) (hV : Cond.instanceMethod M'.1 ∈ TW) (hS : Cond.methodLink M.1.cls idx M'.1 ∈ TW) (hk : S.2.2.1 a ≠ 0) (hd : decode M.2.1 pc = .ok (.invokespecial idx, 3)) (hn : as.length = n)
    (hstk : as.reverse ++ .ref a :: st = stk) (hsum : (st.map fun v => v.category).sum ≤ 8) (hlen : (lg_sl (.ref a :: as)).length ≤ M'.2.2.1) (hdd : d' + 1 ≤ d) (hb : (S.1 ≤ N' ∧ N' ≤ N) ∧ S.2.1 ≤ Z' ∧ Z' ≤ Z)
    (hE : EvW G M' d' N' Z' 0 (lv_args 0 (.ref a :: as)) [] S μ K') (kk : ∀ v S' μ', K' v S' μ' → g_fit M'.2.2.2 v → S'.1 = N' → S'.2.1 = Z' → EvW G M d N Z (pc + 3) lv (v.toList ++ st) S' μ' K) : EvW G M d N Z pc lv stk S μ K := by
  obtain ⟨y, b, nL, ret⟩ := M'
  obtain ⟨hi1, hi2⟩ := hi
  have hret : ret = none := hi2
  subst hret
  refine ev_call (st := st) (M' := (y, b, nL, none)) (K' := K') ?_ hb kk
  intro p l e R s m args below meth c H locs cells slots lsA C hH hsz h1 h2
  have hnz := hH.nz hk
  refine ⟨_, va_runI (As := as.map (cv G)) (rest := st.map (cv G)) (b := g_adr G a) (Ts := TW) ⟨C.1, C.2.1, C.2.2.1, C.2.2.2.1, C.2.2.2.2.1⟩ (met_of (M := (y, b, nL, none)) hM.1 hlen hb.1.1 hb.2.1 hE l) ⟨callB_of (ws' := TW) n C.2.2.2.2.1 (goodTW (fun w hw => TW_ws hM hw)) rfl rfl rfl (C.2.2.2.2.1 _ hM.2.2.1) (C.2.2.2.2.1 _ hS) hM.2.1 (g_room (M' := (y, b, nL, none)) C.2.2.2.2.2.2.2.2.1 hM.2.2.2.2 hdd), hi1, C.2.2.2.2.1 _ hV⟩ ⟨g_blind _ _ _ _, fun U hU hW => ⟨by rw [st_ref hnz], by rw [hU]; exact hH, va_K.moved hW.alike C.2.2.2.2.2.2.2.2.2.1, EX.warm hW C.2.2.2.2.2.2.2.2.2.2⟩⟩ rfl (by rw [List.length_map]; exact hn) hsz ?_ (lv_room (by rw [g_cat]; exact hsum)) hd ⟨h1, h2⟩⟩
  show stk.map (cv G) = _
  rw [← hstk, List.map_append, st_ref hnz, List.map_reverse]
/-- a nest mate's private constructor -/
theorem ev_callIN {a : Nat} {host : String} (hM : mOK M' n) (hi : M'.1.name = "<init>" ∧ M'.2.2.2 = none) (hV : Cond.instanceMethod M'.1 ∈ TW) (hS : Cond.methodLinkNest M.1.cls idx M'.1 host ∈ NWl) (hk : S.2.2.1 a ≠ 0) (hd : decode M.2.1 pc = .ok (.invokespecial idx, 3)) (hn : as.length = n)
    (hstk : as.reverse ++ .ref a :: st = stk) (hsum : (st.map fun v => v.category).sum ≤ 8) (hlen : (lg_sl (.ref a :: as)).length ≤ M'.2.2.1) (hdd : d' + 1 ≤ d) (hb : (S.1 ≤ N' ∧ N' ≤ N) ∧ S.2.1 ≤ Z' ∧ Z' ≤ Z)
    (hE : EvW G M' d' N' Z' 0 (lv_args 0 (.ref a :: as)) [] S μ K') (kk : ∀ v S' μ', K' v S' μ' → g_fit M'.2.2.2 v → S'.1 = N' → S'.2.1 = Z' → EvW G M d N Z (pc + 3) lv (v.toList ++ st) S' μ' K) : EvW G M d N Z pc lv stk S μ K := by
  obtain ⟨y, b, nL, ret⟩ := M'
  obtain ⟨hi1, hi2⟩ := hi
  have hret : ret = none := hi2
  subst hret
  refine ev_call (st := st) (M' := (y, b, nL, none)) (K' := K') ?_ hb kk
  intro p l e R s m args below meth c H locs cells slots lsA C hH hsz h1 h2
  have hnz := hH.nz hk
  refine ⟨_, va_runIN (As := as.map (cv G)) (rest := st.map (cv G)) (b := g_adr G a) (Ts := TW) ⟨C.1, C.2.1, C.2.2.1, C.2.2.2.1, C.2.2.2.2.1⟩ (met_of (M := (y, b, nL, none)) hM.1 hlen hb.1.1 hb.2.1 hE l) ⟨va_cnB (ws' := TW) n C.2.2.2.2.1 (goodTW (fun w hw => TW_ws hM hw)) rfl rfl rfl (C.2.2.2.2.2.2.2.2.2.2.2.2.2.2.2.2.1 _ hS) (C.2.2.2.2.1 _ hM.2.2.1) hM.2.1 (g_room (M' := (y, b, nL, none)) C.2.2.2.2.2.2.2.2.1 hM.2.2.2.2 hdd), hi1, C.2.2.2.2.1 _ hV⟩ ⟨g_blind _ _ _ _, fun U hU hW => ⟨by rw [st_ref hnz], by rw [hU]; exact hH, va_K.moved hW.alike C.2.2.2.2.2.2.2.2.2.1, EX.warm hW C.2.2.2.2.2.2.2.2.2.2⟩⟩ rfl (by rw [List.length_map]; exact hn) hsz ?_ (lv_room (by rw [g_cat]; exact hsum)) hd ⟨h1, h2⟩⟩
  show stk.map (cv G) = _
  rw [← hstk, List.map_append, st_ref hnz, List.map_reverse]
/-- Object's own constructor -/
theorem ev_objInit {a : Nat} (hw : Cond.methodLink M.1.cls idx objectInit ∈ TW ∧ Cond.instanceMethod objectInit ∈ TW ∧ Cond.code objectInit ⟨#[0xb1]⟩ 1 none ∈ TW) (hk : S.2.2.1 a ≠ 0) (hd : decode M.2.1 pc = .ok (.invokespecial idx, 3)) (hsum : (st.map fun v => v.category).sum ≤ 8) (hdd : 1 ≤ d) (kk : EvW G M d N Z (pc + 3) lv st S μ K) : EvW G M d N Z pc lv (.ref a :: st) S μ K := by
  intro p l e R s m args below meth c H locs n0 z0 lsA Q C hH hn0 hz0 hN hZ hlo hl fin
  have kw := kk p l e R s m args below meth c H locs n0 z0 lsA Q C hH hn0 hz0 hN hZ hlo hl fin
  rw [st_ref (hH.nz hk)]
  have hr := C.2.2.2.2.2.2.2.2.1
  refine W.objInit C.1 C.2.1 C.2.2.2.1 (C.2.2.2.2.1 _ hw.1) (C.2.2.2.2.1 _ hw.2.1) (C.2.2.2.2.1 _ hw.2.2) rfl (hl.1.trans C.2.2.1.symm) rfl hd (by omega) ?_ ?_
  · show 2 * 0 + ((st.map (cv G)).map fun v => v.category).sum + 12 ≤ R.locals
    rw [g_cat]
    omega
  · exact kw
theorem ev_new {ci : Nat} {r : vw_C} (hr : vwCl[ci]? = some r) (hw : Cond.classLink M.1.cls idx r.1 ∈ TW ∧ Cond.instantiable r.1 r.2.2 ∈ TW ∧ Cond.initialized r.1 ∈ TW) (hdv : ∀ k, k < r.2.2 → defaultValue (c_ty ci k) = if (c_ty ci k).isReference then .null else .int 0) (hz : ∀ k, μ S.1 k = 0 ∧ S.2.2.2.2 S.1 k = 0) (hd : decode M.2.1 pc = .ok (.new idx, 3)) (h1 : S.1 + 1 ≤ N) (h2 : S.2.1 + r.2.2 ≤ Z)
    (kk : EvW G M d N Z (pc + 3) lv (.ref S.1 :: st) (S_new S ci r.2.2) μ K) : EvW G M d N Z pc lv st S μ K := by
  intro p l e R s m args below meth c H locs n0 z0 lsA Q C hH hn0 hz0 hN hZ hlo hl fin
  obtain ⟨c1, c2, c3, c4, c5, c6, c7, c8, c9, c10, c11⟩ := id C
  obtain ⟨hc, hws, hpd, hnm⟩ := CL_of hr
  have hKn := c10.1 ci _ hc
  have hnx := hH.next
  refine W.newcK c1 c2 c4 (c5 _ hw.1) (c5 _ hw.2.1) (c5 _ hw.2.2) rfl hd (by omega) (by omega) hKn.2.1 rfl fun H1 kC hkC e1 z1 o1 => ?_
  have hS1 := hH.1
  have kw := kk p l e R s m args below meth c H1 locs n0 z0 lsA Q C (hH.push (S' := S_new S ci r.2.2) rfl z1 o1 (fun b hb => if_neg hb) (fun b hb => rfl) (fun _ _ _ => rfl) (fun _ _ _ => rfl) ?_) (by show n0 ≤ S.1 + 1; omega) (by show z0 ≤ S.2.1 + r.2.2; omega) hN hZ hlo hl fin
  · rw [st_ref (show S.1 ≠ 0 by omega), hnx] at kw
    have ea : S.1 + 1 - n0 = S.1 - n0 + 1 := by omega
    have eb : S.2.1 + r.2.2 - z0 = S.2.1 - z0 + r.2.2 := by omega
    have kw2 : W p l e R s m args below meth c H1 locs (S.1 + 1 - n0) (S.2.1 + r.2.2 - z0) Q (F0 m (pc + 3) lsA (.ref H.size :: st.map (cv G))) := kw
    rw [ea, eb] at kw2
    exact kw2
  · have hki : (S_new S ci r.2.2).2.2.1 S.1 = 10 + ci := if_pos rfl
    unfold g_cell
    rw [if_pos (by omega), hki, Nat.add_sub_cancel_left]
    refine ⟨r, hr, ?_⟩
    rw [hnx]
    refine (u_born (c_ty ci) c5 hws hKn hkC e1 hpd).to (fun k hk => ?_)
    rw [hdv k hk]
    show _ = g_fv G ci k (μ S.1 k) (S.2.2.2.2 S.1 k)
    rw [(hz k).1, (hz k).2]
    unfold g_fv
    split
    · rfl
    · rfl
theorem ev_newarray {k nn : Nat} {atype : ArrayType} {x : Int32} (ht : (k = 1 ∧ atype = .int) ∨ (k = 2 ∧ atype = .boolean) ∨ (k = 3 ∧ atype = .char)) (hw : Cond.arrayClass (newarray.typeOf atype) ∈ TW) (hx : ¬ x < 0 ∧ x.toNatClampNeg = nn ∧ nn ≤ 100000) (hz : ∀ j, μ S.1 j = 0) (hd : decode M.2.1 pc = .ok (.newarray atype, 2)) (h1 : S.1 + 1 ≤ N) (h2 : S.2.1 + nn ≤ Z)
    (kk : EvW G M d N Z (pc + 2) lv (.ref S.1 :: st) (S_arr S k nn) μ K) : EvW G M d N Z pc lv (.int x :: st) S μ K := by
  intro p l e R s m args below meth c H locs n0 z0 lsA Q C hH hn0 hz0 hN hZ hlo hl fin
  have hnx := hH.next
  have hS1 := hH.1
  have T := C.2.2.2.2.2.2.2.2.2.1.2
  have hcb : nn * componentBytes (newarray.typeOf atype) ≤ 536870912 := by
    rcases ht with ⟨-, rfl⟩ | ⟨-, rfl⟩ | ⟨-, rfl⟩
    · show nn * 4 ≤ _; omega
    · show nn * 1 ≤ _; omega
    · show nn * 2 ≤ _; omega
  refine va_newaK C.1 C.2.1 (C.2.2.2.2.1 _ hw) rfl hd rfl hx.1 hx.2.1 hcb (by omega) (by omega) rfl fun H1 cA e1 z1 o1 _ hnm => ?_
  have key : 1 ≤ k ∧ k ≤ 3 ∧ cA = G.2.2.2.1 k ∧ defaultValue (newarray.typeOf atype) = .int 0 := by
    rcases ht with ⟨rfl, rfl⟩ | ⟨rfl, rfl⟩ | ⟨rfl, rfl⟩
    · exact ⟨by omega, by omega, Option.some.inj (hnm.symm.trans (T 0 (G.2.2.2.1 1, .int) rfl).2), rfl⟩
    · exact ⟨by omega, by omega, Option.some.inj (hnm.symm.trans (T 1 (G.2.2.2.1 2, .boolean) rfl).2), rfl⟩
    · exact ⟨by omega, by omega, Option.some.inj (hnm.symm.trans (T 2 (G.2.2.2.1 3, .char) rfl).2), rfl⟩
  obtain ⟨k1, k3, rfl, hdv⟩ := key
  rw [hdv] at e1
  have kw := kk p l e R s m args below meth c H1 locs n0 z0 lsA Q C (hH.push (S' := S_arr S k nn) rfl z1 o1 (fun b hb => if_neg hb) (fun b hb => if_neg hb) (fun _ _ _ => rfl) (fun _ _ _ => rfl) ?_) (by show n0 ≤ S.1 + 1; omega) (by show z0 ≤ S.2.1 + nn; omega) hN hZ hlo hl fin
  · rw [st_ref (show S.1 ≠ 0 by omega), hnx] at kw
    have ea : S.1 + 1 - n0 = S.1 - n0 + 1 := by omega
    have eb : S.2.1 + nn - z0 = S.2.1 - z0 + nn := by omega
    have kw2 : W p l e R s m args below meth c H1 locs (S.1 + 1 - n0) (S.2.1 + nn - z0) Q (F0 m (pc + 2) lsA (.ref H.size :: st.map (cv G))) := kw
    rw [ea, eb] at kw2
    exact kw2
  · have hki : (S_arr S k nn).2.2.1 S.1 = k := if_pos rfl
    have hkl : (S_arr S k nn).2.2.2.1 S.1 = nn := if_pos rfl
    unfold g_cell
    rw [if_neg (by omega), if_pos (by omega), hki, hkl, hnx, e1]
    congr 2
    funext j
    rw [hz j]
theorem ev_anewarray {k ci nn : Nat} {r : vw_C} {x : Int32} (hr : vwCl[ci]? = some r) (hkc : (k = 5 ∧ ci = 0) ∨ (k = 6 ∧ ci = 6) ∨ (k = 7 ∧ ci = 4)) (hw : Cond.classLink M.1.cls idx r.1 ∈ TW) (hx : ¬ x < 0 ∧ x.toNatClampNeg = nn ∧ nn ≤ 100000) (hz : ∀ j, S.2.2.2.2 S.1 j = 0) (hd : decode M.2.1 pc = .ok (.anewarray idx, 3)) (h1 : S.1 + 1 ≤ N) (h2 : S.2.1 + nn ≤ Z)
    (kk : EvW G M d N Z (pc + 3) lv (.ref S.1 :: st) (S_arr S k nn) μ K) : EvW G M d N Z pc lv (.int x :: st) S μ K := by
  intro p l e R s m args below meth c H locs n0 z0 lsA Q C hH hn0 hz0 hN hZ hlo hl fin
  have hnx := hH.next
  have hS1 := hH.1
  have T := C.2.2.2.2.2.2.2.2.2.1.2
  have A := C.2.2.2.2.2.2.2.2.2.2.2.2.2.2.2.2.2.2
  obtain ⟨x0, x1, x2⟩ := hx
  subst x1
  have key : va_AO r.1 s ∧ va_RA s (G.2.2.2.1 k) (.object r.1) := by
    rcases hkc with ⟨rfl, rfl⟩ | ⟨rfl, rfl⟩ | ⟨rfl, rfl⟩
    · cases hr; exact ⟨A.1, (T 4 (G.2.2.2.1 5, .object RX0) rfl).2⟩
    · cases hr; exact ⟨A.2.1, (T 5 (G.2.2.2.1 6, .object RX6) rfl).2⟩
    · cases hr; exact ⟨A.2.2.1, (T 6 (G.2.2.2.1 7, .object RX4) rfl).2⟩
  obtain ⟨hAO, _, _, -, -, -, hnmA⟩ := key
  refine W.anew C.1 C.2.1 C.2.2.2.1 (C.2.2.2.2.1 _ hw) (va_AO.use hAO) rfl hd rfl x0 (by omega) (by omega) (by omega) fun cA kA comp g1 g2 g3 g4 => ?_
  have hcA : cA = G.2.2.2.1 k := Option.some.inj (g1.symm.trans hnmA)
  subst hcA
  generalize hH1 : H.push { cls := G.2.2.2.1 k, slots := Array.replicate x.toNatClampNeg .null, vm := .none } = H1
  have e1 : H1[H.size]? = some (arrV (G.2.2.2.1 k) x.toNatClampNeg (fun _ => .null)) := by
    rw [← hH1, ← arrV_new]
    simp
  have z1 : H1.size = H.size + 1 := by rw [← hH1]; simp
  have o1 : ∀ q : Nat, q < H.size → H1[q]? = H[q]? := fun q hq => by
    rw [← hH1, Array.getElem?_push, if_neg (Nat.ne_of_lt hq)]
  have kw := kk p l e R s m args below meth c H1 locs n0 z0 lsA Q C (hH.push (S' := S_arr S k x.toNatClampNeg) rfl z1 o1 (fun b hb => if_neg hb) (fun b hb => if_neg hb) (fun _ _ _ => rfl) (fun _ _ _ => rfl) ?_) (by show n0 ≤ S.1 + 1; omega) (by show z0 ≤ S.2.1 + x.toNatClampNeg; omega) hN hZ hlo hl fin
  · rw [st_ref (show S.1 ≠ 0 by omega), hnx] at kw
    have ea : S.1 + 1 - n0 = S.1 - n0 + 1 := by omega
    have eb : S.2.1 + x.toNatClampNeg - z0 = S.2.1 - z0 + x.toNatClampNeg := by omega
    have kw2 : W p l e R s m args below meth c H1 locs (S.1 + 1 - n0) (S.2.1 + x.toNatClampNeg - z0) Q (F0 m (pc + 3) lsA (.ref H.size :: st.map (cv G))) := kw
    rw [ea, eb] at kw2
    exact kw2
  · have hki : (S_arr S k x.toNatClampNeg).2.2.1 S.1 = k := if_pos rfl
    have hkl : (S_arr S k x.toNatClampNeg).2.2.2.1 S.1 = x.toNatClampNeg := if_pos rfl
    unfold g_cell
    rw [if_neg (by omega), if_neg (by omega), hki, hkl, hnx, e1]
    congr 2
    funext j
    show _ = g_rf G (S.2.2.2.2 S.1 j)
    rw [hz j]
    rfl
/-- Math.max, Math.min, Math.abs over ints -/
theorem ev_max {x y : Int32} (hw : Cond.methodLink M.1.cls idx Lib.Math.max.name ∈ TW ∧ Cond.static Lib.Math.max.name ∈ TW ∧ Cond.initialized "java/lang/Math" ∈ TW ∧ Cond.code Lib.Math.max.name Lib.Math.max.code 2 (some .int) ∈ TW) (hd : decode M.2.1 pc = .ok (.invokestatic idx, 3)) (hsum : (st.map fun v => v.category).sum ≤ 8) (hdd : 1 ≤ d) (hNZ : S.1 ≤ N ∧ S.2.1 ≤ Z) (kk : EvW G M d N Z (pc + 3) lv (.int (imax x y) :: st) S μ K) : EvW G M d N Z pc lv (.int y :: .int x :: st) S μ K := by
  intro p l e R s m args below meth c H locs n0 z0 lsA Q C hH hn0 hz0 hN hZ hlo hl fin
  have kw := kk p l e R s m args below meth c H locs n0 z0 lsA Q C hH hn0 hz0 hN hZ hlo hl fin
  have hr := C.2.2.2.2.2.2.2.2.1
  exact va_mmax C.1 C.2.1 (C.2.2.1.trans hl.1.symm) C.2.2.2.1 (C.2.2.2.2.1 _ hw.1) (C.2.2.2.2.1 _ hw.2.1) (C.2.2.2.2.1 _ hw.2.2.1) (C.2.2.2.2.1 _ hw.2.2.2) (by omega) (by rw [g_cat]; omega) (by omega) (by omega) hd kw
theorem ev_min {x y : Int32} (hw : Cond.methodLink M.1.cls idx Lib.Math.min.name ∈ TW ∧ Cond.static Lib.Math.min.name ∈ TW ∧ Cond.initialized "java/lang/Math" ∈ TW ∧ Cond.code Lib.Math.min.name Lib.Math.min.code 2 (some .int) ∈ TW) (hd : decode M.2.1 pc = .ok (.invokestatic idx, 3)) (hsum : (st.map fun v => v.category).sum ≤ 8) (hdd : 1 ≤ d) (hNZ : S.1 ≤ N ∧ S.2.1 ≤ Z) (kk : EvW G M d N Z (pc + 3) lv (.int (imin x y) :: st) S μ K) : EvW G M d N Z pc lv (.int y :: .int x :: st) S μ K := by
  intro p l e R s m args below meth c H locs n0 z0 lsA Q C hH hn0 hz0 hN hZ hlo hl fin
  have kw := kk p l e R s m args below meth c H locs n0 z0 lsA Q C hH hn0 hz0 hN hZ hlo hl fin
  have hr := C.2.2.2.2.2.2.2.2.1
  exact va_mmin C.1 C.2.1 (C.2.2.1.trans hl.1.symm) C.2.2.2.1 (C.2.2.2.2.1 _ hw.1) (C.2.2.2.2.1 _ hw.2.1) (C.2.2.2.2.1 _ hw.2.2.1) (C.2.2.2.2.1 _ hw.2.2.2) (by omega) (by rw [g_cat]; omega) (by omega) (by omega) hd kw
theorem ev_abs {x : Int32} (hw : Cond.methodLink M.1.cls idx Lib.Math.abs.name ∈ TW ∧ Cond.static Lib.Math.abs.name ∈ TW ∧ Cond.initialized "java/lang/Math" ∈ TW ∧ Cond.code Lib.Math.abs.name Lib.Math.abs.code 1 (some .int) ∈ TW) (hd : decode M.2.1 pc = .ok (.invokestatic idx, 3)) (hsum : (st.map fun v => v.category).sum ≤ 8) (hdd : 1 ≤ d) (hNZ : S.1 ≤ N ∧ S.2.1 ≤ Z) (kk : EvW G M d N Z (pc + 3) lv (.int (iabs x) :: st) S μ K) : EvW G M d N Z pc lv (.int x :: st) S μ K := by
  intro p l e R s m args below meth c H locs n0 z0 lsA Q C hH hn0 hz0 hN hZ hlo hl fin
  have kw := kk p l e R s m args below meth c H locs n0 z0 lsA Q C hH hn0 hz0 hN hZ hlo hl fin
  have hr := C.2.2.2.2.2.2.2.2.1
  exact va_mabs C.1 C.2.1 (C.2.2.1.trans hl.1.symm) C.2.2.2.1 (C.2.2.2.2.1 _ hw.1) (C.2.2.2.2.1 _ hw.2.1) (C.2.2.2.2.1 _ hw.2.2.1) (C.2.2.2.2.1 _ hw.2.2.2) (by omega) (by rw [g_cat]; omega) (by omega) (by omega) hd kw
/-- the script (address 1) and the static row of kinds (address 2) -/
theorem ev_slen (hd : decode M.2.1 pc = .ok (.arraylength, 1)) (kk : ∀ L : Nat, G.2.2.2.2.1 = L → EvW G M d N Z (pc + 1) lv (.int (nI L) :: st) S μ K) : EvW G M d N Z pc lv (.ref 1 :: st) S μ K := by
  intro p l e R s m args below meth c H locs n0 z0 lsA Q C hH hn0 hz0 hN hZ hlo hl fin
  have kw := kk _ rfl p l e R s m args below meth c H locs n0 z0 lsA Q C hH hn0 hz0 hN hZ hlo hl fin
  obtain ⟨scr, h1, h2, h3, h4, h5⟩ := C.2.2.2.2.2.2.2.2.2.2.1
  rw [st_ref (show (1 : Nat) ≠ 0 by omega)]
  show W p l e R s m args below meth c H locs _ _ Q (F0 m pc lsA (.ref (G.2.1 1) :: st.map (cv G)))
  exact W.alen (n := nI G.2.2.2.2.1) C.1 C.2.1 (by rw [hH.2.2.1 _ (Array.getElem?_eq_some_iff.mp h1).1]; exact h1) h2 (by rw [h4]; rfl) rfl rfl hd kw
theorem ev_sload {i : Int32} (hin : vp_in i G.2.2.2.2.1) (hd : decode M.2.1 pc = .ok (.iaload, 1)) (kk : EvW G M d N Z (pc + 1) lv (.int (G.2.2.2.2.2 i.toNatClampNeg) :: st) S μ K) : EvW G M d N Z pc lv (.int i :: .ref 1 :: st) S μ K := by
  intro p l e R s m args below meth c H locs n0 z0 lsA Q C hH hn0 hz0 hN hZ hlo hl fin
  have kw := kk p l e R s m args below meth c H locs n0 z0 lsA Q C hH hn0 hz0 hN hZ hlo hl fin
  obtain ⟨scr, h1, h2, h3, h4, h5⟩ := C.2.2.2.2.2.2.2.2.2.2.1
  show W p l e R s m args below meth c H locs _ _ Q (F0 m pc lsA (.int i :: List.map (cv G) (.ref 1 :: st)))
  rw [st_ref (show (1 : Nat) ≠ 0 by omega)]
  show W p l e R s m args below meth c H locs _ _ Q (F0 m pc lsA (.int i :: .ref (G.2.1 1) :: st.map (cv G)))
  exact W.iald (v := .int (G.2.2.2.2.2 i.toNatClampNeg)) C.1 C.2.1 (by rw [hH.2.2.1 _ (Array.getElem?_eq_some_iff.mp h1).1]; exact h1) h2 h3 (by rw [h4]; exact hin) (h5 _ (va_in_lt hin)) rfl rfl hd kw
theorem ev_kaload {i : Int32} (hin : vp_in i 6) (hd : decode M.2.1 pc = .ok (.iaload, 1)) (kk : EvW G M d N Z (pc + 1) lv (.int (kaV i.toNatClampNeg) :: st) S μ K) : EvW G M d N Z pc lv (.int i :: .ref 2 :: st) S μ K := by
  intro p l e R s m args below meth c H locs n0 z0 lsA Q C hH hn0 hz0 hN hZ hlo hl fin
  have kw := kk p l e R s m args below meth c H locs n0 z0 lsA Q C hH hn0 hz0 hN hZ hlo hl fin
  obtain ⟨cell, h1, h2, h3, h4, h5, h6, h7⟩ := C.2.2.2.2.2.2.2.2.2.2.2.2.1
  show W p l e R s m args below meth c H locs _ _ Q (F0 m pc lsA (.int i :: List.map (cv G) (.ref 2 :: st)))
  rw [st_ref (show (2 : Nat) ≠ 0 by omega)]
  show W p l e R s m args below meth c H locs _ _ Q (F0 m pc lsA (.int i :: .ref (G.2.1 2) :: st.map (cv G)))
  have hlt := va_in_lt hin
  refine W.iald (v := .int (kaV i.toNatClampNeg)) C.1 C.2.1 (by rw [hH.2.2.1 _ (Array.getElem?_eq_some_iff.mp h1).1]; exact h1) h2 h3 (fun q => ?_) (h6 _ hlt) rfl rfl hd kw
  rcases q with q | q
  · exact hin (Or.inl q)
  · omega
theorem ev_kalen (hd : decode M.2.1 pc = .ok (.arraylength, 1)) (kk : EvW G M d N Z (pc + 1) lv (.int 6 :: st) S μ K) : EvW G M d N Z pc lv (.ref 2 :: st) S μ K := by
  intro p l e R s m args below meth c H locs n0 z0 lsA Q C hH hn0 hz0 hN hZ hlo hl fin
  have kw := kk p l e R s m args below meth c H locs n0 z0 lsA Q C hH hn0 hz0 hN hZ hlo hl fin
  obtain ⟨cell, h1, h2, h3, h4, h5, h6, h7⟩ := C.2.2.2.2.2.2.2.2.2.2.2.2.1
  rw [st_ref (show (2 : Nat) ≠ 0 by omega)]
  show W p l e R s m args below meth c H locs _ _ Q (F0 m pc lsA (.ref (G.2.1 2) :: st.map (cv G)))
  exact W.alen (n := 6) C.1 C.2.1 (by rw [hH.2.2.1 _ (Array.getElem?_eq_some_iff.mp h1).1]; exact h1) h2 h5 rfl rfl hd kw
/-- the static row of kinds, from the class that has it, or from a nest mate -/
theorem ev_getka (hM : M.1.cls = RX0) (hd : decode M.2.1 pc = .ok (.getstatic 39, 3)) (kk : EvW G M d N Z (pc + 3) lv (.ref 2 :: st) S μ K) : EvW G M d N Z pc lv st S μ K := by
  intro p l e R s m args below meth c H locs n0 z0 lsA Q C hH hn0 hz0 hN hZ hlo hl fin
  have kw := kk p l e R s m args below meth c H locs n0 z0 lsA Q C hH hn0 hz0 hN hZ hlo hl fin
  have hown := C.2.2.2.1
  rw [hM] at hown
  obtain ⟨cf, kf, fi, f, a, cell, h1, h2, h3, h4, h5, h6, h7, h8⟩ := C.2.2.2.2.2.2.2.2.2.2.2.1
  rw [st_ref (show (2 : Nat) ≠ 0 by omega)] at kw
  have hL := C.2.2.2.2.2.2.2.2.2.2.2.2.2.2.2.2.2.1
  exact va_WgetsN (v := .ref (G.2.1 2)) C.1 C.2.1 hown (va_Nw.use rfl hL) h1 h2 h3 h4 (by rw [hH.2.2.1 _ (Array.getElem?_eq_some_iff.mp h5).1]; exact h5) (fun e9 => by rw [e9] at h6; cases h6) h7 rfl hd kw
/-- new int[n][k] -/
theorem W.mul {p : Program} {l : Launch} {e : Env} {R : Room} {s : State} {m : MethodId} {args : Array Value} {below : List Frame} {meth : Method} {c : Code} {H : Heap} {locs : List Loc} {cells slots : Nat} {Q : State → Prop} {cc : ByteArray} (hexec : p.tables.exec = Jvm.exec) (hb : c.code = cc) {own : String} {index : Nat} {ty : FieldType} (hown : s.vm.findClass own = some m.cls) (hclink : (Cond.classLink own index ("[" ++ (FieldType.array ty).toString)).before args s = true)
    (hover : (Cond.arrayOver (.array ty)).before args s = true) (harr : (Cond.arrayClass ty).before args s = true) {pc : Nat} {ls : Array Slot} {rest : List Value} (hdg : decode cc pc = .ok (.multianewarray index 2, 4)) {n k : Int32} {n' k' : Nat} (hn : ¬ n < 0) (hk : ¬ k < 0) (hn' : n.toNatClampNeg = n') (hk' : k.toNatClampNeg = k')
    (hb1 : n' * 4 ≤ 536870912) (hb2 : k' * componentBytes ty ≤ 536870912) (hb3 : k' ≤ 536870912) (hdf : fits ty (defaultValue ty) = true) (hdd : (defaultValue ty).isDefault = true) (hcells : cells + (1 + n') ≤ R.cells) (hslots : slots + (n' + n' * k') ≤ R.slots)
    (kk : ∀ (H1 : Heap) (cA comp : ClassId), s.vm.findClass ("[" ++ (FieldType.array ty).toString) = some cA → s.vm.findClass (FieldType.array ty).toString = some comp → H1.size = H.size + 1 + n' → (∀ q, q < H.size → H1[q]? = H[q]?) →
      H1[H.size]? = some (Jvm.Free.Multi.outerC cA n' H.size n') → (∀ j, j < n' → H1[H.size + 1 + j]? = some (Jvm.Free.Multi.innerC comp k' (defaultValue ty))) → W p l e R s m args below meth c H1 locs (cells + 1 + n') (slots + n' + n' * k') Q (F0 m (pc + 4) ls (.ref H.size :: rest))) :
    W p l e R s m args below meth c H locs cells slots Q (F0 m pc ls (.int k :: .int n :: rest)) := by
  subst hn'
  subst hk'
  intro T hT Xs
  obtain ⟨vm₁, cA, comp, -, fA, fC, -, -, X', step⟩ := Xs.multianewarray2F hexec hown hclink hover harr (g := F0 m pc ls (.int k :: .int n :: rest)) rfl (by rw [hb]; exact hdg) rfl hn hk hb1 hb2 hb3 hdf hdd hcells hslots
  generalize hF : Jvm.Free.Multi.fill (T.setVm vm₁) cA comp n.toNatClampNeg k.toNatClampNeg (defaultValue ty) n.toNatClampNeg = F at X' step
  have hTh : (T.setVm vm₁).heap = H := hT
  obtain ⟨f1, f2, -, -⟩ := Jvm.Free.Multi.fill_facts (T.setVm vm₁) cA comp n.toNatClampNeg k.toNatClampNeg (defaultValue ty) n.toNatClampNeg
  rw [hF, hTh] at f1 f2
  have hold : ∀ x : Nat, x < H.size → F.heap[x]? = H[x]? := fun x hx => by
    have := Jvm.Free.Multi.fill_old (T.setVm vm₁) cA comp n.toNatClampNeg k.toNatClampNeg (defaultValue ty) (a := x) (by rw [hTh]; exact hx) n.toNatClampNeg
    rw [hF, hTh] at this
    exact this
  have hrow : ∀ j : Nat, j < n.toNatClampNeg → F.heap[H.size + 1 + j]? = some (Jvm.Free.Multi.innerC comp k.toNatClampNeg (defaultValue ty)) := fun j hj => by
    have := Jvm.Free.Multi.fill_inner (T.setVm vm₁) cA comp n.toNatClampNeg k.toNatClampNeg (defaultValue ty) n.toNatClampNeg j hj
    rw [hF, hTh] at this
    exact this
  obtain ⟨t, a1, b1⟩ := kk F.heap cA comp fA fC f1 hold f2 hrow F rfl X'
  rw [hT] at step
  exact ⟨t, step t a1, b1⟩
theorem g_outer (c : ClassId) (n h0 : Nat) : ∀ i : Nat, Jvm.Free.Multi.outerC c n h0 i = arrV c n (fun j => if j < i then .ref (h0 + 1 + j) else .null)
  | 0 => by
    show ({ cls := c, slots := Array.replicate n .null, vm := .none } : Cell) = _
    rw [arrV_new]
    refine congrArg (arrV c n) (funext fun j => ?_)
    simp
  | i + 1 => by
    show (Jvm.Free.Multi.outerC c n h0 i).setSlot i (.ref (h0 + 1 + i)) = _
    rw [g_outer c n h0 i, arrV_store]
    refine congrArg (arrV c n) (funext fun j => ?_)
    by_cases e : j = i
    · subst e
      simp [updV]
    · by_cases h : j < i
      · simp [updV, e, h, Nat.lt_succ_of_lt h]
      · simp [updV, e, h, show ¬ j < i + 1 by omega]
theorem HR.grow {G : GW} {S S' : HS} {μ μ' : Mem} {H H' : Heap} {c : Nat} (h : HR G S μ H) (hn : S'.1 = S.1 + c) (hsz : H'.size = H.size + c) (ho : ∀ q : Nat, q < H.size → H'[q]? = H[q]?)
    (hk : ∀ b, b < S.1 → S'.2.2.1 b = S.2.2.1 b) (hl : ∀ b, b < S.1 → S'.2.2.2.1 b = S.2.2.2.1 b) (hm : ∀ b, b < S.1 → ∀ k, μ' b k = μ b k) (hr : ∀ b, b < S.1 → ∀ k, S'.2.2.2.2 b k = S.2.2.2.2 b k)
    (hc : ∀ b, S.1 ≤ b → S'.2.2.1 b ≠ 0 → b < S.1 + c ∧ g_cell G S' μ' b H') : HR G S' μ' H' := by
  obtain ⟨a1, a2, a3, a4, a5⟩ := h
  refine ⟨by omega, by rw [hsz]; omega, fun q hq => ?_, fun b hb => ?_, fun b hb => ?_⟩
  · rw [ho q (by omega)]
    exact a3 q hq
  · by_cases e : b < S.1
    · rw [hk b e] at hb
      have := a4 b hb
      omega
    · have := (hc b (by omega) hb).1
      omega
  · by_cases e : b < S.1
    · rw [hk b e] at hb
      obtain ⟨b1, b2⟩ := a4 b hb
      exact (a5 b hb).kept (ho _ (by rw [g_adr_hi b1]; omega)) (hk b e) (hl b e) (hm b e) (hr b e)
    · exact (hc b (by omega) hb).2
theorem ev_mul {x y : Int32} {nn kn : Nat} (hw : Cond.classLink M.1.cls idx "[[I" ∈ TW ∧ Cond.arrayClass .int ∈ TW) (hx : ¬ x < 0 ∧ x.toNatClampNeg = nn ∧ nn ≤ 1000) (hy : ¬ y < 0 ∧ y.toNatClampNeg = kn ∧ kn ≤ 1000) (hz : ∀ j k, μ (S.1 + j) k = 0 ∧ S.2.2.2.2 (S.1 + j) k = 0 ∧ S.2.2.1 (S.1 + j) = 0) (hd : decode M.2.1 pc = .ok (.multianewarray idx 2, 4)) (h1 : S.1 + 1 + nn ≤ N) (h2 : S.2.1 + nn + nn * kn ≤ Z)
    (kk : EvW G M d N Z (pc + 4) lv (.ref S.1 :: st) (S_mul S nn kn) μ K) : EvW G M d N Z pc lv (.int y :: .int x :: st) S μ K := by
  intro p l e R s m args below meth c H locs n0 z0 lsA Q C hH hn0 hz0 hN hZ hlo hl fin
  have hnx := hH.next
  have hS1 := hH.1
  have T := C.2.2.2.2.2.2.2.2.2.1.2
  have A := C.2.2.2.2.2.2.2.2.2.2.2.2.2.2.2.2.2.2.2.2.2
  refine W.mul (ty := .int) (n' := nn) (k' := kn) C.1 C.2.1 C.2.2.2.1 (C.2.2.2.2.1 _ hw.1) A (C.2.2.2.2.1 _ hw.2) hd hx.1 hy.1 hx.2.1 hy.2.1 (by omega) (by show kn * 4 ≤ _; omega) (by omega) rfl rfl (by omega) (by omega) fun H1 cA comp g1 g2 z1 o1 eo ei => ?_
  have hcA : cA = G.2.2.2.1 4 := Option.some.inj (g1.symm.trans (T 3 (G.2.2.2.1 4, .array .int) rfl).2)
  have hcI : comp = G.2.2.2.1 1 := Option.some.inj (g2.symm.trans (T 0 (G.2.2.2.1 1, .int) rfl).2)
  subst hcA
  subst hcI
  rw [g_outer] at eo
  have kw := kk p l e R s m args below meth c H1 locs n0 z0 lsA Q C (hH.grow (S' := S_mul S nn kn) (c := 1 + nn) (by show S.1 + 1 + nn = _; omega) (by rw [z1]; omega) o1 (fun b hb => ?_) (fun b hb => ?_) (fun _ _ _ => rfl) (fun b hb k => ?_) (fun b hb hb0 => ?_)) (by show n0 ≤ S.1 + 1 + nn; omega) (by show z0 ≤ S.2.1 + nn + nn * kn; omega) hN hZ hlo hl fin
  · rw [st_ref (show S.1 ≠ 0 by omega), hnx] at kw
    have ea : S.1 + 1 + nn - n0 = S.1 - n0 + 1 + nn := by omega
    have eb : S.2.1 + nn + nn * kn - z0 = S.2.1 - z0 + nn + nn * kn := by omega
    have kw2 : W p l e R s m args below meth c H1 locs (S.1 + 1 + nn - n0) (S.2.1 + nn + nn * kn - z0) Q (F0 m (pc + 4) lsA (.ref H.size :: st.map (cv G))) := kw
    rw [ea, eb] at kw2
    exact kw2
  · show (if b = S.1 then 4 else if S.1 < b ∧ b ≤ S.1 + nn then 1 else S.2.2.1 b) = _
    rw [if_neg (by omega), if_neg (by omega)]
  · show (if b = S.1 then nn else if S.1 < b ∧ b ≤ S.1 + nn then kn else S.2.2.2.1 b) = _
    rw [if_neg (by omega), if_neg (by omega)]
  · show (if b = S.1 ∧ k < nn then S.1 + 1 + k else S.2.2.2.2 b k) = _
    rw [if_neg (by omega)]
  · obtain ⟨j, rfl⟩ : ∃ j, b = S.1 + j := ⟨b - S.1, by omega⟩
    have hb0' : (if S.1 + j = S.1 then 4 else if S.1 < S.1 + j ∧ S.1 + j ≤ S.1 + nn then 1 else S.2.2.1 (S.1 + j)) ≠ 0 := hb0
    rw [(hz j 0).2.2] at hb0'
    have hjn : j ≤ nn := by
      rcases Nat.lt_or_ge nn j with q | q
      · rw [if_neg (by omega), if_neg (by omega)] at hb0'
        exact absurd rfl hb0'
      · exact q
    refine ⟨by omega, ?_⟩
    unfold g_cell
    rcases Nat.eq_zero_or_pos j with rfl | hj
    · have e1 : (S_mul S nn kn).2.2.1 (S.1 + 0) = 4 := if_pos rfl
      have e2 : (S_mul S nn kn).2.2.2.1 (S.1 + 0) = nn := if_pos rfl
      rw [if_neg (by omega), if_neg (by omega), e1, e2]
      show H1[g_adr G S.1]? = _
      rw [hnx, eo]
      congr 2
      funext j
      show _ = g_rf G (if S.1 + 0 = S.1 ∧ j < nn then S.1 + 1 + j else S.2.2.2.2 (S.1 + 0) j)
      rw [(hz 0 j).2.1]
      by_cases hj : j < nn
      · rw [if_pos hj, if_pos ⟨rfl, hj⟩]
        unfold g_rf
        have e5 : H.size + 1 + j = G.1.size + (S.1 + 1 + j - 10) := by
          rw [← hnx, g_adr_hi hS1]
          omega
        rw [if_neg (by omega), g_adr_hi (by omega), e5]
      · rw [if_neg hj, if_neg (fun z => hj z.2)]
        rfl
    · have e1 : (S_mul S nn kn).2.2.1 (S.1 + j) = 1 := by
        show (if S.1 + j = S.1 then 4 else if S.1 < S.1 + j ∧ S.1 + j ≤ S.1 + nn then 1 else S.2.2.1 (S.1 + j)) = 1
        rw [if_neg (by omega), if_pos (by omega)]
      have e2 : (S_mul S nn kn).2.2.2.1 (S.1 + j) = kn := by
        show (if S.1 + j = S.1 then nn else if S.1 < S.1 + j ∧ S.1 + j ≤ S.1 + nn then kn else S.2.2.2.1 (S.1 + j)) = kn
        rw [if_neg (by omega), if_pos (by omega)]
      rw [if_neg (by omega), if_pos (by omega), e1, e2]
      have ea : g_adr G (S.1 + j) = H.size + 1 + (j - 1) := by
        rw [g_adr_hi hS1] at hnx
        rw [g_adr_hi (by omega)]
        omega
      rw [ea, ei (j - 1) (by omega)]
      show some ({ cls := G.2.2.2.1 1, slots := Array.replicate kn (.int 0), vm := .none } : Cell) = _
      rw [arrV_new]
      congr 2
      funext k
      rw [(hz j k).1]
/-- System.arraycopy over ints -/
theorem ev_arraycopy {q0 q1 : Nat} {sp dp n : Int32} (hw : Cond.methodLink M.1.cls idx arraycopyName ∈ TW ∧ Cond.native arraycopyName ∈ TW ∧ Cond.static arraycopyName ∈ TW ∧ Cond.initialized "java/lang/System" ∈ TW) (hk0 : S.2.2.1 q0 = 1) (hk1 : S.2.2.1 q1 = 1) (h1 : ¬ sp < 0) (h2 : ¬ dp < 0) (h3 : ¬ n < 0) (h4 : sp.toNatClampNeg + n.toNatClampNeg ≤ S.2.2.2.1 q0) (h5 : dp.toNatClampNeg + n.toNatClampNeg ≤ S.2.2.2.1 q1) (hd : decode M.2.1 pc = .ok (.invokestatic idx, 3)) (hsum : (st.map fun v => v.category).sum ≤ 8) (hdd : 1 ≤ d)
    (kk : EvW G M d N Z (pc + 3) lv st S (mcpy μ q0 q1 sp.toNatClampNeg dp.toNatClampNeg n.toNatClampNeg) K) : EvW G M d N Z pc lv (.int n :: .int dp :: .ref q1 :: .int sp :: .ref q0 :: st) S μ K := by
  intro p l e R s m args below meth c H locs n0 z0 lsA Q C hH hn0 hz0 hN hZ hlo hl fin
  have nn : ∀ z : Int32, ¬ z < 0 → z.toInt = (z.toNatClampNeg : Int) := by
    intro z hz
    have hz0 : (0 : Int) ≤ z.toInt := by
      have := Int32.not_lt.mp hz
      simpa using Int32.le_iff_toInt_le.mp this
    show z.toInt = ((z.toInt.toNat : Nat) : Int)
    omega
  have z0' : S.2.2.1 q0 ≠ 0 := by omega
  have z1' : S.2.2.1 q1 ≠ 0 := by omega
  have e0 : List.map (cv G) (.int n :: .int dp :: .ref q1 :: .int sp :: .ref q0 :: st) = .int n :: .int dp :: .ref (g_adr G q1) :: .int sp :: .ref (g_adr G q0) :: st.map (cv G) := by
    show _ :: _ :: List.map (cv G) (.ref q1 :: .int sp :: .ref q0 :: st) = _
    rw [st_ref (hH.nz z1')]
    show _ :: _ :: _ :: _ :: List.map (cv G) (.ref q0 :: st) = _
    rw [st_ref (hH.nz z0')]
    rfl
  rw [e0]
  have hr := C.2.2.2.2.2.2.2.2.1
  have hc0 := hH.ints hk0 (by omega) (by omega)
  have hc1 := hH.ints hk1 (by omega) (by omega)
  have TA := (C.2.2.2.2.2.2.2.2.2.1.2 0 (G.2.2.2.1 1, .int) rfl).1
  obtain ⟨-, k0, hkk0, cm0, hkd0⟩ := TA (S.2.2.2.1 q0) (fun j => .int (μ q0 j))
  intro T hT X
  obtain ⟨vm', X', step⟩ := X.arraycopy C.1 C.2.2.2.1 (C.2.2.2.2.1 _ hw.1) (C.2.2.2.2.1 _ hw.2.1) (C.2.2.2.2.1 _ hw.2.2.1) (C.2.2.2.2.1 _ hw.2.2.2) (src := g_adr G q0) (dst := g_adr G q1) (cs := arrV (G.2.2.2.1 1) (S.2.2.2.1 q0) (fun j => .int (μ q0 j))) (cd := arrV (G.2.2.2.1 1) (S.2.2.2.1 q1) (fun j => .int (μ q1 j))) (srcPos := sp) (destPos := dp) (n := n) (by rw [hT]; exact hc0) (by rw [hT]; exact hc1)
    (fun _ h => by cases h) (fun _ h => by cases h) (fun h => by cases h) (fun h => by cases h) hkk0 hkk0 hkd0 hkd0 (by simp [refKind]) h1 h2 h3
    (by rw [nn sp h1, nn n h3]; show ¬ _ > (((arrV _ _ _).slots.size : Nat) : Int); rw [arrV_size]; omega)
    (by rw [nn dp h2, nn n h3]; show ¬ _ > (((arrV _ _ _).slots.size : Nat) : Int); rw [arrV_size]; omega)
    (fun vm₁ _ i hi => by
      have e9 : (arrV (G.2.2.2.1 1) (S.2.2.2.1 q0) (fun j => .int (μ q0 j))).slots.getD (sp.toNatClampNeg + i) .null = .int (μ q0 (sp.toNatClampNeg + i)) := by
        rw [Array.getD_eq_getD_getElem?, arrV_read _ _ (by omega)]
        rfl
      refine ⟨?_, ?_⟩
      · rw [e9]
        rfl
      · rw [e9]
        exact trivial)
    (g := F0 m pc lsA (.int n :: .int dp :: .ref (g_adr G q1) :: .int sp :: .ref (g_adr G q0) :: st.map (cv G))) rfl (by show lsA.size = _; rw [hl.1, C.2.2.1]) (rest := st.map (cv G)) rfl (by rw [C.2.1]; exact hd) (by omega) (by
      have e8 : nativeFrameWords "java/lang/System" "arraycopy" 5 + 11 + 8 ≤ 64 := by decide +kernel
      show 2 * 0 + ((st.map (cv G)).map fun v => v.category).sum + (nativeFrameWords "java/lang/System" "arraycopy" 5 + 11) ≤ _
      rw [g_cat]
      omega)
  have ec : copied (arrV (G.2.2.2.1 1) (S.2.2.2.1 q0) (fun j => .int (μ q0 j))) (arrV (G.2.2.2.1 1) (S.2.2.2.1 q1) (fun j => .int (μ q1 j))) sp dp n = arrV (G.2.2.2.1 1) (S.2.2.2.1 q1) (fun j => .int (va_cpy (μ q0) (μ q1) sp.toNatClampNeg dp.toNatClampNeg n.toNatClampNeg j)) := va_copied (fun z => .int z) _ _ (μ q0) (μ q1) h4
  rw [ec] at X' step
  have hlt : g_adr G q1 < H.size := (Array.getElem?_eq_some_iff.mp hc1).1
  generalize hH1 : H.setIfInBounds (g_adr G q1) (arrV (G.2.2.2.1 1) (S.2.2.2.1 q1) (fun j => .int (va_cpy (μ q0) (μ q1) sp.toNatClampNeg dp.toNatClampNeg n.toNatClampNeg j))) = H1
  have hheap : ((T.setVm vm').setCell (g_adr G q1) (arrV (G.2.2.2.1 1) (S.2.2.2.1 q1) (fun j => .int (va_cpy (μ q0) (μ q1) sp.toNatClampNeg dp.toNatClampNeg n.toNatClampNeg j)))).heap = H1 := by rw [← hH1, ← hT]; rfl
  have hHR : HR G S (mcpy μ q0 q1 sp.toNatClampNeg dp.toNatClampNeg n.toNatClampNeg) H1 := by
    refine hH.put (a := q1) z1' (by rw [← hH1]; simp) (fun q hq => by rw [← hH1]; simp [Array.getElem?_setIfInBounds, Ne.symm hq]) rfl rfl rfl (fun b hb k => if_neg hb) (fun _ _ _ => rfl) ?_
    unfold g_cell
    rw [if_neg (by omega), if_pos (by omega), hk1, ← hH1]
    simp [Array.getElem?_setIfInBounds, hlt, mcpy]
  obtain ⟨t, a1, b1⟩ := kk p l e R s m args below meth c H1 _ n0 z0 lsA Q C hHR hn0 hz0 hN hZ (fun q hq => by
    rcases List.mem_append.mp hq with h | h
    · exact hlo q h
    · obtain ⟨z, -, hz⟩ := List.mem_map.mp h
      rw [← hz]
      show G.1.size ≤ g_adr G q1
      rw [g_adr_hi (hH.2.2.2.1 q1 z1').1]
      omega) hl fin _ hheap X'
  exact ⟨t, step t a1, b1⟩
end EVM
end
section
/-! ===== methods and links ===== -/
theorem TWt1 {w : Cond} (i : Nat) (h : tables_1_1[i]? = some w) (hg : goodWord w = true) : w ∈ TW := List.mem_filter.mpr ⟨List.mem_append_right _ (List.mem_append_left _ (List.mem_of_getElem? h)), hg⟩
theorem TWt2 {w : Cond} (i : Nat) (h : tables_1_2[i]? = some w) (hg : goodWord w = true) : w ∈ TW := List.mem_filter.mpr ⟨List.mem_append_right _ (List.mem_append_right _ (List.mem_append_left _ (List.mem_of_getElem? h))), hg⟩
theorem TWt3 {w : Cond} (i : Nat) (h : tables_1_3[i]? = some w) (hg : goodWord w = true) : w ∈ TW := List.mem_filter.mpr ⟨List.mem_append_right _ (List.mem_append_right _ (List.mem_append_right _ (List.mem_append_left _ (List.mem_of_getElem? h)))), hg⟩
theorem TWt4 {w : Cond} (i : Nat) (h : tables_1_4[i]? = some w) (hg : goodWord w = true) : w ∈ TW := List.mem_filter.mpr ⟨List.mem_append_right _ (List.mem_append_right _ (List.mem_append_right _ (List.mem_append_right _ (List.mem_append_left _ (List.mem_of_getElem? h))))), hg⟩
theorem TWt5 {w : Cond} (i : Nat) (h : tables_1_5[i]? = some w) (hg : goodWord w = true) : w ∈ TW := List.mem_filter.mpr ⟨List.mem_append_right _ (List.mem_append_right _ (List.mem_append_right _ (List.mem_append_right _ (List.mem_append_right _ (List.mem_append_left _ (List.mem_of_getElem? h)))))), hg⟩
theorem TWt6 {w : Cond} (i : Nat) (h : tables_1_6[i]? = some w) (hg : goodWord w = true) : w ∈ TW := List.mem_filter.mpr ⟨List.mem_append_right _ (List.mem_append_right _ (List.mem_append_right _ (List.mem_append_right _ (List.mem_append_right _ (List.mem_append_right _ (List.mem_of_getElem? h)))))), hg⟩
theorem TWp {w : Cond} (i : Nat) (h : (k2_sels lw_privs)[i]? = some w) (hg : goodWord w = true) : w ∈ TW := List.mem_filter.mpr ⟨List.mem_append_left _ (List.mem_of_getElem? h), hg⟩
abbrev mX0_init : MK := (yX0_init, cX0_init, 1, none)
theorem ok_X0_init : mOK mX0_init 0 := ⟨by decide +kernel, ⟨by decide +kernel, by decide +kernel, by decide +kernel⟩, (TWt1 7 rfl rfl), (TWt1 149 rfl rfl), by decide⟩
theorem vi_X0_init : Cond.instanceMethod mX0_init.1 ∈ TW := (TWt1 148 rfl rfl)
abbrev mX0_become : MK := (yX0_become, cX0_become, 6, none)
theorem ok_X0_become : mOK mX0_become 5 := ⟨by decide +kernel, ⟨by decide +kernel, by decide +kernel, by decide +kernel⟩, (TWt1 7 rfl rfl), (TWt3 89 rfl rfl), by decide⟩
theorem vi_X0_become : Cond.instanceMethod mX0_become.1 ∈ TW ∧ Cond.selects mX0_become.1.cls mX0_become.1 mX0_become.1 ∈ TW := ⟨(TWt3 87 rfl rfl), (TWt3 88 rfl rfl)⟩
abbrev mX0_named : MK := (yX0_named, cX0_named, 3, some .int)
theorem ok_X0_named : mOK mX0_named 2 := ⟨by decide +kernel, ⟨by decide +kernel, by decide +kernel, by decide +kernel⟩, (TWt1 7 rfl rfl), (TWt2 65 rfl rfl), by decide⟩
theorem vi_X0_named : Cond.instanceMethod mX0_named.1 ∈ TW ∧ Cond.selects mX0_named.1.cls mX0_named.1 mX0_named.1 ∈ TW := ⟨(TWt2 63 rfl rfl), (TWt2 64 rfl rfl)⟩
abbrev mX0_isOne : MK := (yX0_isOne, cX0_isOne, 4, some .boolean)
theorem ok_X0_isOne : mOK mX0_isOne 1 := ⟨by decide +kernel, ⟨by decide +kernel, by decide +kernel, by decide +kernel⟩, (TWt1 7 rfl rfl), (TWt4 128 rfl rfl), by decide⟩
theorem vi_X0_isOne : Cond.instanceMethod mX0_isOne.1 ∈ TW ∧ Cond.selects mX0_isOne.1.cls mX0_isOne.1 mX0_isOne.1 ∈ TW := ⟨(TWt4 126 rfl rfl), (TWt4 127 rfl rfl)⟩
abbrev mX0_goesFrom : MK := (yX0_goesFrom, cX0_goesFrom, 2, some .int)
theorem ok_X0_goesFrom : mOK mX0_goesFrom 1 := ⟨by decide +kernel, ⟨by decide +kernel, by decide +kernel, by decide +kernel⟩, (TWt1 7 rfl rfl), (TWt3 114 rfl rfl), by decide⟩
theorem vi_X0_goesFrom : Cond.instanceMethod mX0_goesFrom.1 ∈ TW ∧ Cond.selects mX0_goesFrom.1.cls mX0_goesFrom.1 mX0_goesFrom.1 ∈ TW := ⟨(TWt3 112 rfl rfl), (TWt3 113 rfl rfl)⟩
abbrev mX0_goesToAndFro : MK := (yX0_goesToAndFro, cX0_goesToAndFro, 2, some .int)
theorem ok_X0_goesToAndFro : mOK mX0_goesToAndFro 1 := ⟨by decide +kernel, ⟨by decide +kernel, by decide +kernel, by decide +kernel⟩, (TWt1 7 rfl rfl), (TWt3 118 rfl rfl), by decide⟩
theorem vi_X0_goesToAndFro : Cond.instanceMethod mX0_goesToAndFro.1 ∈ TW ∧ Cond.selects mX0_goesToAndFro.1.cls mX0_goesToAndFro.1 mX0_goesToAndFro.1 ∈ TW := ⟨(TWt3 117 rfl rfl), (TWp 22 rfl rfl)⟩
abbrev mX0_out : MK := (yX0_out, cX0_out, 1, some .int)
theorem ok_X0_out : mOK mX0_out 0 := ⟨by decide +kernel, ⟨by decide +kernel, by decide +kernel, by decide +kernel⟩, (TWt1 7 rfl rfl), (TWt3 101 rfl rfl), by decide⟩
theorem vi_X0_out : Cond.instanceMethod mX0_out.1 ∈ TW ∧ Cond.selects mX0_out.1.cls mX0_out.1 mX0_out.1 ∈ TW := ⟨(TWt3 99 rfl rfl), (TWt3 100 rfl rfl)⟩
abbrev mX0_home : MK := (yX0_home, cX0_home, 1, some .int)
theorem ok_X0_home : mOK mX0_home 0 := ⟨by decide +kernel, ⟨by decide +kernel, by decide +kernel, by decide +kernel⟩, (TWt1 7 rfl rfl), (TWt3 106 rfl rfl), by decide⟩
theorem vi_X0_home : Cond.instanceMethod mX0_home.1 ∈ TW ∧ Cond.selects mX0_home.1.cls mX0_home.1 mX0_home.1 ∈ TW := ⟨(TWt3 104 rfl rfl), (TWt3 105 rfl rfl)⟩
abbrev mX0_arrives : MK := (yX0_arrives, cX0_arrives, 2, some .int)
theorem ok_X0_arrives : mOK mX0_arrives 1 := ⟨by decide +kernel, ⟨by decide +kernel, by decide +kernel, by decide +kernel⟩, (TWt1 7 rfl rfl), (TWt3 155 rfl rfl), by decide⟩
theorem vi_X0_arrives : Cond.instanceMethod mX0_arrives.1 ∈ TW ∧ Cond.selects mX0_arrives.1.cls mX0_arrives.1 mX0_arrives.1 ∈ TW := ⟨(TWt3 153 rfl rfl), (TWt3 154 rfl rfl)⟩
abbrev mX1_init : MK := (yX1_init, cX1_init, 1, none)
theorem ok_X1_init : mOK mX1_init 0 := ⟨by decide +kernel, ⟨by decide +kernel, by decide +kernel, by decide +kernel⟩, (TWt1 5 rfl rfl), (TWt1 113 rfl rfl), by decide⟩
theorem vi_X1_init : Cond.instanceMethod mX1_init.1 ∈ TW := (TWt1 112 rfl rfl)
abbrev mX2_init : MK := (yX2_init, cX2_init, 1, none)
theorem ok_X2_init : mOK mX2_init 0 := ⟨by decide +kernel, ⟨by decide +kernel, by decide +kernel, by decide +kernel⟩, (TWt1 2 rfl rfl), (TWt1 35 rfl rfl), by decide⟩
theorem vi_X2_init : Cond.instanceMethod mX2_init.1 ∈ TW := (TWt1 34 rfl rfl)
abbrev mX2_read : MK := (yX2_read, cX2_read, 3, some .int)
theorem ok_X2_read : mOK mX2_read 1 := ⟨by decide +kernel, ⟨by decide +kernel, by decide +kernel, by decide +kernel⟩, (TWt1 2 rfl rfl), (TWt2 119 rfl rfl), by decide⟩
theorem vi_X2_read : Cond.instanceMethod mX2_read.1 ∈ TW ∧ Cond.selects mX2_read.1.cls mX2_read.1 mX2_read.1 ∈ TW := ⟨(TWt2 117 rfl rfl), (TWt2 118 rfl rfl)⟩
abbrev mX2_expect : MK := (yX2_expect, cX2_expect, 2, none)
theorem ok_X2_expect : mOK mX2_expect 1 := ⟨by decide +kernel, ⟨by decide +kernel, by decide +kernel, by decide +kernel⟩, (TWt1 2 rfl rfl), (TWt3 19 rfl rfl), by decide⟩
theorem vi_X2_expect : Cond.instanceMethod mX2_expect.1 ∈ TW ∧ Cond.selects mX2_expect.1.cls mX2_expect.1 mX2_expect.1 ∈ TW := ⟨(TWt3 18 rfl rfl), (TWp 11 rfl rfl)⟩
abbrev mX2_fail : MK := (yX2_fail, cX2_fail, 1, none)
theorem ok_X2_fail : mOK mX2_fail 0 := ⟨by decide +kernel, ⟨by decide +kernel, by decide +kernel, by decide +kernel⟩, (TWt1 2 rfl rfl), (TWt3 23 rfl rfl), by decide⟩
theorem vi_X2_fail : Cond.instanceMethod mX2_fail.1 ∈ TW ∧ Cond.selects mX2_fail.1.cls mX2_fail.1 mX2_fail.1 ∈ TW := ⟨(TWt3 22 rfl rfl), (TWp 12 rfl rfl)⟩
abbrev mX2_readOr : MK := (yX2_readOr, cX2_readOr, 4, none)
theorem ok_X2_readOr : mOK mX2_readOr 2 := ⟨by decide +kernel, ⟨by decide +kernel, by decide +kernel, by decide +kernel⟩, (TWt1 2 rfl rfl), (TWt3 27 rfl rfl), by decide⟩
theorem vi_X2_readOr : Cond.instanceMethod mX2_readOr.1 ∈ TW ∧ Cond.selects mX2_readOr.1.cls mX2_readOr.1 mX2_readOr.1 ∈ TW := ⟨(TWt3 26 rfl rfl), (TWp 13 rfl rfl)⟩
abbrev mX2_readAnd : MK := (yX2_readAnd, cX2_readAnd, 4, none)
theorem ok_X2_readAnd : mOK mX2_readAnd 2 := ⟨by decide +kernel, ⟨by decide +kernel, by decide +kernel, by decide +kernel⟩, (TWt1 2 rfl rfl), (TWt3 31 rfl rfl), by decide⟩
theorem vi_X2_readAnd : Cond.instanceMethod mX2_readAnd.1 ∈ TW ∧ Cond.selects mX2_readAnd.1.cls mX2_readAnd.1 mX2_readAnd.1 ∈ TW := ⟨(TWt3 30 rfl rfl), (TWp 14 rfl rfl)⟩
abbrev mX2_readNot : MK := (yX2_readNot, cX2_readNot, 3, none)
theorem ok_X2_readNot : mOK mX2_readNot 2 := ⟨by decide +kernel, ⟨by decide +kernel, by decide +kernel, by decide +kernel⟩, (TWt1 2 rfl rfl), (TWt3 35 rfl rfl), by decide⟩
theorem vi_X2_readNot : Cond.instanceMethod mX2_readNot.1 ∈ TW ∧ Cond.selects mX2_readNot.1.cls mX2_readNot.1 mX2_readNot.1 ∈ TW := ⟨(TWt3 34 rfl rfl), (TWp 15 rfl rfl)⟩
abbrev mX2_readComparison : MK := (yX2_readComparison, cX2_readComparison, 4, none)
theorem ok_X2_readComparison : mOK mX2_readComparison 2 := ⟨by decide +kernel, ⟨by decide +kernel, by decide +kernel, by decide +kernel⟩, (TWt1 2 rfl rfl), (TWt3 39 rfl rfl), by decide⟩
theorem vi_X2_readComparison : Cond.instanceMethod mX2_readComparison.1 ∈ TW ∧ Cond.selects mX2_readComparison.1.cls mX2_readComparison.1 mX2_readComparison.1 ∈ TW := ⟨(TWt3 38 rfl rfl), (TWp 16 rfl rfl)⟩
abbrev mX2_readSum : MK := (yX2_readSum, cX2_readSum, 5, none)
theorem ok_X2_readSum : mOK mX2_readSum 2 := ⟨by decide +kernel, ⟨by decide +kernel, by decide +kernel, by decide +kernel⟩, (TWt1 2 rfl rfl), (TWt3 43 rfl rfl), by decide⟩
theorem vi_X2_readSum : Cond.instanceMethod mX2_readSum.1 ∈ TW ∧ Cond.selects mX2_readSum.1.cls mX2_readSum.1 mX2_readSum.1 ∈ TW := ⟨(TWt3 42 rfl rfl), (TWp 17 rfl rfl)⟩
abbrev mX2_readTerm : MK := (yX2_readTerm, cX2_readTerm, 4, none)
theorem ok_X2_readTerm : mOK mX2_readTerm 2 := ⟨by decide +kernel, ⟨by decide +kernel, by decide +kernel, by decide +kernel⟩, (TWt1 2 rfl rfl), (TWt3 47 rfl rfl), by decide⟩
theorem vi_X2_readTerm : Cond.instanceMethod mX2_readTerm.1 ∈ TW ∧ Cond.selects mX2_readTerm.1.cls mX2_readTerm.1 mX2_readTerm.1 ∈ TW := ⟨(TWt3 46 rfl rfl), (TWp 18 rfl rfl)⟩
abbrev mX2_readOne : MK := (yX2_readOne, cX2_readOne, 3, none)
theorem ok_X2_readOne : mOK mX2_readOne 2 := ⟨by decide +kernel, ⟨by decide +kernel, by decide +kernel, by decide +kernel⟩, (TWt1 2 rfl rfl), (TWt3 51 rfl rfl), by decide⟩
theorem vi_X2_readOne : Cond.instanceMethod mX2_readOne.1 ∈ TW ∧ Cond.selects mX2_readOne.1.cls mX2_readOne.1 mX2_readOne.1 ∈ TW := ⟨(TWt3 50 rfl rfl), (TWp 19 rfl rfl)⟩
abbrev mX3_init : MK := (yX3_init, cX3_init, 1, none)
theorem ok_X3_init : mOK mX3_init 0 := ⟨by decide +kernel, ⟨by decide +kernel, by decide +kernel, by decide +kernel⟩, (TWt1 4 rfl rfl), (TWt1 78 rfl rfl), by decide⟩
theorem vi_X3_init : Cond.instanceMethod mX3_init.1 ∈ TW := (TWt1 77 rfl rfl)
abbrev mX3_setOut : MK := (yX3_setOut, cX3_setOut, 8, none)
theorem ok_X3_setOut : mOK mX3_setOut 5 := ⟨by decide +kernel, ⟨by decide +kernel, by decide +kernel, by decide +kernel⟩, (TWt1 4 rfl rfl), (TWt3 138 rfl rfl), by decide⟩
theorem vi_X3_setOut : Cond.instanceMethod mX3_setOut.1 ∈ TW ∧ Cond.selects mX3_setOut.1.cls mX3_setOut.1 mX3_setOut.1 ∈ TW := ⟨(TWt3 136 rfl rfl), (TWt3 137 rfl rfl)⟩
abbrev mX3_soonestNotLeft : MK := (yX3_soonestNotLeft, cX3_soonestNotLeft, 3, some .int)
theorem ok_X3_soonestNotLeft : mOK mX3_soonestNotLeft 0 := ⟨by decide +kernel, ⟨by decide +kernel, by decide +kernel, by decide +kernel⟩, (TWt1 4 rfl rfl), (TWt3 143 rfl rfl), by decide⟩
theorem vi_X3_soonestNotLeft : Cond.instanceMethod mX3_soonestNotLeft.1 ∈ TW ∧ Cond.selects mX3_soonestNotLeft.1.cls mX3_soonestNotLeft.1 mX3_soonestNotLeft.1 ∈ TW := ⟨(TWt3 142 rfl rfl), (TWp 25 rfl rfl)⟩
abbrev mX3_leaveByHorse : MK := (yX3_leaveByHorse, cX3_leaveByHorse, 6, none)
theorem ok_X3_leaveByHorse : mOK mX3_leaveByHorse 3 := ⟨by decide +kernel, ⟨by decide +kernel, by decide +kernel, by decide +kernel⟩, (TWt1 4 rfl rfl), (TWt3 147 rfl rfl), by decide⟩
theorem vi_X3_leaveByHorse : Cond.instanceMethod mX3_leaveByHorse.1 ∈ TW ∧ Cond.selects mX3_leaveByHorse.1.cls mX3_leaveByHorse.1 mX3_leaveByHorse.1 ∈ TW := ⟨(TWt3 146 rfl rfl), (TWp 26 rfl rfl)⟩
abbrev mX3_leaveOnFoot : MK := (yX3_leaveOnFoot, cX3_leaveOnFoot, 4, none)
theorem ok_X3_leaveOnFoot : mOK mX3_leaveOnFoot 2 := ⟨by decide +kernel, ⟨by decide +kernel, by decide +kernel, by decide +kernel⟩, (TWt1 4 rfl rfl), (TWt3 164 rfl rfl), by decide⟩
theorem vi_X3_leaveOnFoot : Cond.instanceMethod mX3_leaveOnFoot.1 ∈ TW ∧ Cond.selects mX3_leaveOnFoot.1.cls mX3_leaveOnFoot.1 mX3_leaveOnFoot.1 ∈ TW := ⟨(TWt3 163 rfl rfl), (TWp 28 rfl rfl)⟩
abbrev mX3_arrive : MK := (yX3_arrive, cX3_arrive, 5, none)
theorem ok_X3_arrive : mOK mX3_arrive 4 := ⟨by decide +kernel, ⟨by decide +kernel, by decide +kernel, by decide +kernel⟩, (TWt1 4 rfl rfl), (TWt3 160 rfl rfl), by decide⟩
theorem vi_X3_arrive : Cond.instanceMethod mX3_arrive.1 ∈ TW ∧ Cond.selects mX3_arrive.1.cls mX3_arrive.1 mX3_arrive.1 ∈ TW := ⟨(TWt3 159 rfl rfl), (TWp 27 rfl rfl)⟩
abbrev mX3_soonAt : MK := (yX3_soonAt, cX3_soonAt, 2, some .int)
theorem ok_X3_soonAt : mOK mX3_soonAt 1 := ⟨by decide +kernel, ⟨by decide +kernel, by decide +kernel, by decide +kernel⟩, (TWt1 4 rfl rfl), (TWt3 168 rfl rfl), by decide⟩
theorem vi_X3_soonAt : Cond.instanceMethod mX3_soonAt.1 ∈ TW ∧ Cond.selects mX3_soonAt.1.cls mX3_soonAt.1 mX3_soonAt.1 ∈ TW := ⟨(TWt3 166 rfl rfl), (TWt3 167 rfl rfl)⟩
abbrev mX3_greatestSoon : MK := (yX3_greatestSoon, cX3_greatestSoon, 3, some .int)
theorem ok_X3_greatestSoon : mOK mX3_greatestSoon 0 := ⟨by decide +kernel, ⟨by decide +kernel, by decide +kernel, by decide +kernel⟩, (TWt1 4 rfl rfl), (TWt4 11 rfl rfl), by decide⟩
theorem vi_X3_greatestSoon : Cond.instanceMethod mX3_greatestSoon.1 ∈ TW ∧ Cond.selects mX3_greatestSoon.1.cls mX3_greatestSoon.1 mX3_greatestSoon.1 ∈ TW := ⟨(TWt4 9 rfl rfl), (TWt4 10 rfl rfl)⟩
abbrev mX3_traceTo : MK := (yX3_traceTo, cX3_traceTo, 4, none)
theorem ok_X3_traceTo : mOK mX3_traceTo 1 := ⟨by decide +kernel, ⟨by decide +kernel, by decide +kernel, by decide +kernel⟩, (TWt1 4 rfl rfl), (TWt3 172 rfl rfl), by decide⟩
theorem vi_X3_traceTo : Cond.instanceMethod mX3_traceTo.1 ∈ TW ∧ Cond.selects mX3_traceTo.1.cls mX3_traceTo.1 mX3_traceTo.1 ∈ TW := ⟨(TWt3 170 rfl rfl), (TWt3 171 rfl rfl)⟩
abbrev mX3_pieceAt : MK := (yX3_pieceAt, cX3_pieceAt, 2, some .int)
theorem ok_X3_pieceAt : mOK mX3_pieceAt 1 := ⟨by decide +kernel, ⟨by decide +kernel, by decide +kernel, by decide +kernel⟩, (TWt1 4 rfl rfl), (TWt3 180 rfl rfl), by decide⟩
theorem vi_X3_pieceAt : Cond.instanceMethod mX3_pieceAt.1 ∈ TW ∧ Cond.selects mX3_pieceAt.1.cls mX3_pieceAt.1 mX3_pieceAt.1 ∈ TW := ⟨(TWt3 178 rfl rfl), (TWt3 179 rfl rfl)⟩
abbrev mX3_firstHorse : MK := (yX3_firstHorse, cX3_firstHorse, 2, some .int)
theorem ok_X3_firstHorse : mOK mX3_firstHorse 0 := ⟨by decide +kernel, ⟨by decide +kernel, by decide +kernel, by decide +kernel⟩, (TWt1 4 rfl rfl), (TWt3 176 rfl rfl), by decide⟩
theorem vi_X3_firstHorse : Cond.instanceMethod mX3_firstHorse.1 ∈ TW ∧ Cond.selects mX3_firstHorse.1.cls mX3_firstHorse.1 mX3_firstHorse.1 ∈ TW := ⟨(TWt3 174 rfl rfl), (TWt3 175 rfl rfl)⟩
abbrev mX4_init : MK := (yX4_init, cX4_init, 1, none)
theorem ok_X4_init : mOK mX4_init 0 := ⟨by decide +kernel, ⟨by decide +kernel, by decide +kernel, by decide +kernel⟩, (TWt1 9 rfl rfl), (TWt1 209 rfl rfl), by decide⟩
theorem vi_X4_init : Cond.instanceMethod mX4_init.1 ∈ TW := (TWt1 208 rfl rfl)
abbrev mX4_become : MK := (yX4_become, cX4_become, 4, none)
theorem ok_X4_become : mOK mX4_become 2 := ⟨by decide +kernel, ⟨by decide +kernel, by decide +kernel, by decide +kernel⟩, (TWt1 9 rfl rfl), (TWt4 64 rfl rfl), by decide⟩
theorem vi_X4_become : Cond.instanceMethod mX4_become.1 ∈ TW ∧ Cond.selects mX4_become.1.cls mX4_become.1 mX4_become.1 ∈ TW := ⟨(TWt4 62 rfl rfl), (TWt4 63 rfl rfl)⟩
abbrev mX4_isMissing : MK := (yX4_isMissing, cX4_isMissing, 1, some .boolean)
theorem ok_X4_isMissing : mOK mX4_isMissing 0 := ⟨by decide +kernel, ⟨by decide +kernel, by decide +kernel, by decide +kernel⟩, (TWt1 9 rfl rfl), (TWt4 23 rfl rfl), by decide⟩
theorem vi_X4_isMissing : Cond.instanceMethod mX4_isMissing.1 ∈ TW ∧ Cond.selects mX4_isMissing.1.cls mX4_isMissing.1 mX4_isMissing.1 ∈ TW := ⟨(TWt4 21 rfl rfl), (TWt4 22 rfl rfl)⟩
abbrev mX4_holds : MK := (yX4_holds, cX4_holds, 3, some .boolean)
theorem ok_X4_holds : mOK mX4_holds 2 := ⟨by decide +kernel, ⟨by decide +kernel, by decide +kernel, by decide +kernel⟩, (TWt1 9 rfl rfl), (TWt4 31 rfl rfl), by decide⟩
theorem vi_X4_holds : Cond.instanceMethod mX4_holds.1 ∈ TW ∧ Cond.selects mX4_holds.1.cls mX4_holds.1 mX4_holds.1 ∈ TW := ⟨(TWt4 29 rfl rfl), (TWt4 30 rfl rfl)⟩
abbrev mX4_numberAt : MK := (yX4_numberAt, cX4_numberAt, 2, some .int)
theorem ok_X4_numberAt : mOK mX4_numberAt 1 := ⟨by decide +kernel, ⟨by decide +kernel, by decide +kernel, by decide +kernel⟩, (TWt1 9 rfl rfl), (TWt4 27 rfl rfl), by decide⟩
theorem vi_X4_numberAt : Cond.instanceMethod mX4_numberAt.1 ∈ TW ∧ Cond.selects mX4_numberAt.1.cls mX4_numberAt.1 mX4_numberAt.1 ∈ TW := ⟨(TWt4 25 rfl rfl), (TWt4 26 rfl rfl)⟩
abbrev mX4_put : MK := (yX4_put, cX4_put, 3, none)
theorem ok_X4_put : mOK mX4_put 2 := ⟨by decide +kernel, ⟨by decide +kernel, by decide +kernel, by decide +kernel⟩, (TWt1 9 rfl rfl), (TWt4 70 rfl rfl), by decide⟩
theorem vi_X4_put : Cond.instanceMethod mX4_put.1 ∈ TW ∧ Cond.selects mX4_put.1.cls mX4_put.1 mX4_put.1 ∈ TW := ⟨(TWt4 68 rfl rfl), (TWt4 69 rfl rfl)⟩
abbrev mX5_init : MK := (yX5_init, cX5_init, 1, none)
theorem ok_X5_init : mOK mX5_init 0 := ⟨by decide +kernel, ⟨by decide +kernel, by decide +kernel, by decide +kernel⟩, (TWt1 3 rfl rfl), (TWt1 41 rfl rfl), by decide⟩
theorem vi_X5_init : Cond.instanceMethod mX5_init.1 ∈ TW := (TWt1 40 rfl rfl)
abbrev mX5_add : MK := (yX5_add, cX5_add, 2, none)
theorem ok_X5_add : mOK mX5_add 1 := ⟨by decide +kernel, ⟨by decide +kernel, by decide +kernel, by decide +kernel⟩, (TWt1 3 rfl rfl), (TWt2 111 rfl rfl), by decide⟩
theorem vi_X5_add : Cond.instanceMethod mX5_add.1 ∈ TW ∧ Cond.selects mX5_add.1.cls mX5_add.1 mX5_add.1 ∈ TW := ⟨(TWt2 109 rfl rfl), (TWt2 110 rfl rfl)⟩
abbrev mX5_clear : MK := (yX5_clear, cX5_clear, 1, none)
theorem ok_X5_clear : mOK mX5_clear 0 := ⟨by decide +kernel, ⟨by decide +kernel, by decide +kernel, by decide +kernel⟩, (TWt1 3 rfl rfl), (TWt3 64 rfl rfl), by decide⟩
theorem vi_X5_clear : Cond.instanceMethod mX5_clear.1 ∈ TW ∧ Cond.selects mX5_clear.1.cls mX5_clear.1 mX5_clear.1 ∈ TW := ⟨(TWt3 62 rfl rfl), (TWt3 63 rfl rfl)⟩
abbrev mX5_rewind : MK := (yX5_rewind, cX5_rewind, 1, none)
theorem ok_X5_rewind : mOK mX5_rewind 0 := ⟨by decide +kernel, ⟨by decide +kernel, by decide +kernel, by decide +kernel⟩, (TWt1 3 rfl rfl), (TWt2 123 rfl rfl), by decide⟩
theorem vi_X5_rewind : Cond.instanceMethod mX5_rewind.1 ∈ TW ∧ Cond.selects mX5_rewind.1.cls mX5_rewind.1 mX5_rewind.1 ∈ TW := ⟨(TWt2 121 rfl rfl), (TWt2 122 rfl rfl)⟩
abbrev mX5_next : MK := (yX5_next, cX5_next, 2, some .int)
theorem ok_X5_next : mOK mX5_next 0 := ⟨by decide +kernel, ⟨by decide +kernel, by decide +kernel, by decide +kernel⟩, (TWt1 3 rfl rfl), (TWt2 131 rfl rfl), by decide⟩
theorem vi_X5_next : Cond.instanceMethod mX5_next.1 ∈ TW ∧ Cond.selects mX5_next.1.cls mX5_next.1 mX5_next.1 ∈ TW := ⟨(TWt2 129 rfl rfl), (TWt2 130 rfl rfl)⟩
abbrev mX5_isLetter : MK := (yX5_isLetter, cX5_isLetter, 1, some .boolean)
theorem ok_X5_isLetter : mOK mX5_isLetter 0 := ⟨by decide +kernel, ⟨by decide +kernel, by decide +kernel, by decide +kernel⟩, (TWt1 3 rfl rfl), (TWt2 135 rfl rfl), by decide⟩
theorem vi_X5_isLetter : Cond.instanceMethod mX5_isLetter.1 ∈ TW ∧ Cond.selects mX5_isLetter.1.cls mX5_isLetter.1 mX5_isLetter.1 ∈ TW := ⟨(TWt2 134 rfl rfl), (TWp 6 rfl rfl)⟩
abbrev mX5_isDigit : MK := (yX5_isDigit, cX5_isDigit, 1, some .boolean)
theorem ok_X5_isDigit : mOK mX5_isDigit 0 := ⟨by decide +kernel, ⟨by decide +kernel, by decide +kernel, by decide +kernel⟩, (TWt1 3 rfl rfl), (TWt2 188 rfl rfl), by decide⟩
theorem vi_X5_isDigit : Cond.instanceMethod mX5_isDigit.1 ∈ TW ∧ Cond.selects mX5_isDigit.1.cls mX5_isDigit.1 mX5_isDigit.1 ∈ TW := ⟨(TWt2 187 rfl rfl), (TWp 9 rfl rfl)⟩
abbrev mX5_nextWord : MK := (yX5_nextWord, cX5_nextWord, 2, some .int)
theorem ok_X5_nextWord : mOK mX5_nextWord 0 := ⟨by decide +kernel, ⟨by decide +kernel, by decide +kernel, by decide +kernel⟩, (TWt1 3 rfl rfl), (TWt2 139 rfl rfl), by decide⟩
theorem vi_X5_nextWord : Cond.instanceMethod mX5_nextWord.1 ∈ TW ∧ Cond.selects mX5_nextWord.1.cls mX5_nextWord.1 mX5_nextWord.1 ∈ TW := ⟨(TWt2 138 rfl rfl), (TWp 7 rfl rfl)⟩
abbrev mX5_isWord : MK := (yX5_isWord, cX5_isWord, 5, some .boolean)
theorem ok_X5_isWord : mOK mX5_isWord 1 := ⟨by decide +kernel, ⟨by decide +kernel, by decide +kernel, by decide +kernel⟩, (TWt1 3 rfl rfl), (TWt2 143 rfl rfl), by decide⟩
theorem vi_X5_isWord : Cond.instanceMethod mX5_isWord.1 ∈ TW ∧ Cond.selects mX5_isWord.1.cls mX5_isWord.1 mX5_isWord.1 ∈ TW := ⟨(TWt2 142 rfl rfl), (TWp 8 rfl rfl)⟩
abbrev mX5_nextNumber : MK := (yX5_nextNumber, cX5_nextNumber, 1, some .int)
theorem ok_X5_nextNumber : mOK mX5_nextNumber 0 := ⟨by decide +kernel, ⟨by decide +kernel, by decide +kernel, by decide +kernel⟩, (TWt1 3 rfl rfl), (TWt2 192 rfl rfl), by decide⟩
theorem vi_X5_nextNumber : Cond.instanceMethod mX5_nextNumber.1 ∈ TW ∧ Cond.selects mX5_nextNumber.1.cls mX5_nextNumber.1 mX5_nextNumber.1 ∈ TW := ⟨(TWt2 191 rfl rfl), (TWp 10 rfl rfl)⟩
abbrev mX6_init : MK := (yX6_init, cX6_init, 2, none)
theorem ok_X6_init : mOK mX6_init 0 := ⟨by decide +kernel, ⟨by decide +kernel, by decide +kernel, by decide +kernel⟩, (TWt1 8 rfl rfl), (TWt1 191 rfl rfl), by decide⟩
theorem vi_X6_init : Cond.instanceMethod mX6_init.1 ∈ TW := (TWt1 190 rfl rfl)
abbrev mX6_clear : MK := (yX6_clear, cX6_clear, 1, none)
theorem ok_X6_clear : mOK mX6_clear 0 := ⟨by decide +kernel, ⟨by decide +kernel, by decide +kernel, by decide +kernel⟩, (TWt1 8 rfl rfl), (TWt2 127 rfl rfl), by decide⟩
theorem vi_X6_clear : Cond.instanceMethod mX6_clear.1 ∈ TW ∧ Cond.selects mX6_clear.1.cls mX6_clear.1 mX6_clear.1 ∈ TW := ⟨(TWt2 125 rfl rfl), (TWt2 126 rfl rfl)⟩
abbrev mX6_add : MK := (yX6_add, cX6_add, 2, none)
theorem ok_X6_add : mOK mX6_add 1 := ⟨by decide +kernel, ⟨by decide +kernel, by decide +kernel, by decide +kernel⟩, (TWt1 8 rfl rfl), (TWt3 55 rfl rfl), by decide⟩
theorem vi_X6_add : Cond.instanceMethod mX6_add.1 ∈ TW ∧ Cond.selects mX6_add.1.cls mX6_add.1 mX6_add.1 ∈ TW := ⟨(TWt3 53 rfl rfl), (TWt3 54 rfl rfl)⟩
abbrev mX6_endPart : MK := (yX6_endPart, cX6_endPart, 2, none)
theorem ok_X6_endPart : mOK mX6_endPart 1 := ⟨by decide +kernel, ⟨by decide +kernel, by decide +kernel, by decide +kernel⟩, (TWt1 8 rfl rfl), (TWt3 60 rfl rfl), by decide⟩
theorem vi_X6_endPart : Cond.instanceMethod mX6_endPart.1 ∈ TW ∧ Cond.selects mX6_endPart.1.cls mX6_endPart.1 mX6_endPart.1 ∈ TW := ⟨(TWt3 58 rfl rfl), (TWt3 59 rfl rfl)⟩
abbrev mX6_says : MK := (yX6_says, cX6_says, 6, some .int)
theorem ok_X6_says : mOK mX6_says 3 := ⟨by decide +kernel, ⟨by decide +kernel, by decide +kernel, by decide +kernel⟩, (TWt1 8 rfl rfl), (TWt2 52 rfl rfl), by decide⟩
theorem vi_X6_says : Cond.instanceMethod mX6_says.1 ∈ TW ∧ Cond.selects mX6_says.1.cls mX6_says.1 mX6_says.1 ∈ TW := ⟨(TWt2 50 rfl rfl), (TWt2 51 rfl rfl)⟩
abbrev mX6_take : MK := (yX6_take, cX6_take, 6, some .int)
theorem ok_X6_take : mOK mX6_take 4 := ⟨by decide +kernel, ⟨by decide +kernel, by decide +kernel, by decide +kernel⟩, (TWt1 8 rfl rfl), (TWt2 56 rfl rfl), by decide⟩
theorem vi_X6_take : Cond.instanceMethod mX6_take.1 ∈ TW ∧ Cond.selects mX6_take.1.cls mX6_take.1 mX6_take.1 ∈ TW := ⟨(TWt2 55 rfl rfl), (TWp 3 rfl rfl)⟩
abbrev mX6_push : MK := (yX6_push, cX6_push, 3, some .int)
theorem ok_X6_push : mOK mX6_push 2 := ⟨by decide +kernel, ⟨by decide +kernel, by decide +kernel, by decide +kernel⟩, (TWt1 8 rfl rfl), (TWt2 60 rfl rfl), by decide⟩
theorem vi_X6_push : Cond.instanceMethod mX6_push.1 ∈ TW ∧ Cond.selects mX6_push.1.cls mX6_push.1 mX6_push.1 ∈ TW := ⟨(TWt2 59 rfl rfl), (TWp 4 rfl rfl)⟩
abbrev mX6_joined : MK := (yX6_joined, cX6_joined, 3, some .int)
theorem ok_X6_joined : mOK mX6_joined 3 := ⟨by decide +kernel, ⟨by decide +kernel, by decide +kernel, by decide +kernel⟩, (TWt1 8 rfl rfl), (TWt2 68 rfl rfl), by decide⟩
theorem sv_X6_joined : Cond.static mX6_joined.1 ∈ TW := (TWt2 67 rfl rfl)
abbrev mX7_init : MK := (yX7_init, cX7_init, 3, none)
theorem ok_X7_init : mOK mX7_init 0 := ⟨by decide +kernel, ⟨by decide +kernel, by decide +kernel, by decide +kernel⟩, (TWt1 1 rfl rfl), (TWt1 21 rfl rfl), by decide⟩
theorem vi_X7_init : Cond.instanceMethod mX7_init.1 ∈ TW := (TWt1 20 rfl rfl)
abbrev mX7_path : MK := (yX7_path, cX7_path, 5, some .int)
theorem ok_X7_path : mOK mX7_path 3 := ⟨by decide +kernel, ⟨by decide +kernel, by decide +kernel, by decide +kernel⟩, (TWt1 1 rfl rfl), (TWt2 27 rfl rfl), by decide⟩
theorem vi_X7_path : Cond.instanceMethod mX7_path.1 ∈ TW ∧ Cond.selects mX7_path.1.cls mX7_path.1 mX7_path.1 ∈ TW := ⟨(TWt2 25 rfl rfl), (TWt2 26 rfl rfl)⟩
abbrev mX7_pathTold : MK := (yX7_pathTold, cX7_pathTold, 3, some .int)
theorem ok_X7_pathTold : mOK mX7_pathTold 2 := ⟨by decide +kernel, ⟨by decide +kernel, by decide +kernel, by decide +kernel⟩, (TWt1 1 rfl rfl), (TWt2 81 rfl rfl), by decide⟩
theorem vi_X7_pathTold : Cond.instanceMethod mX7_pathTold.1 ∈ TW ∧ Cond.selects mX7_pathTold.1.cls mX7_pathTold.1 mX7_pathTold.1 ∈ TW := ⟨(TWt2 79 rfl rfl), (TWt2 80 rfl rfl)⟩
abbrev mX7_ride : MK := (yX7_ride, cX7_ride, 3, some .int)
theorem ok_X7_ride : mOK mX7_ride 2 := ⟨by decide +kernel, ⟨by decide +kernel, by decide +kernel, by decide +kernel⟩, (TWt1 1 rfl rfl), (TWt2 85 rfl rfl), by decide⟩
theorem vi_X7_ride : Cond.instanceMethod mX7_ride.1 ∈ TW ∧ Cond.selects mX7_ride.1.cls mX7_ride.1 mX7_ride.1 ∈ TW := ⟨(TWt2 83 rfl rfl), (TWt2 84 rfl rfl)⟩
abbrev mX7_rideTold : MK := (yX7_rideTold, cX7_rideTold, 3, some .int)
theorem ok_X7_rideTold : mOK mX7_rideTold 2 := ⟨by decide +kernel, ⟨by decide +kernel, by decide +kernel, by decide +kernel⟩, (TWt1 1 rfl rfl), (TWt2 89 rfl rfl), by decide⟩
theorem vi_X7_rideTold : Cond.instanceMethod mX7_rideTold.1 ∈ TW ∧ Cond.selects mX7_rideTold.1.cls mX7_rideTold.1 mX7_rideTold.1 ∈ TW := ⟨(TWt2 87 rfl rfl), (TWt2 88 rfl rfl)⟩
abbrev mX7_count : MK := (yX7_count, cX7_count, 2, some .int)
theorem ok_X7_count : mOK mX7_count 1 := ⟨by decide +kernel, ⟨by decide +kernel, by decide +kernel, by decide +kernel⟩, (TWt1 1 rfl rfl), (TWt2 97 rfl rfl), by decide⟩
theorem vi_X7_count : Cond.instanceMethod mX7_count.1 ∈ TW ∧ Cond.selects mX7_count.1.cls mX7_count.1 mX7_count.1 ∈ TW := ⟨(TWt2 95 rfl rfl), (TWt2 96 rfl rfl)⟩
abbrev mX7_feed : MK := (yX7_feed, cX7_feed, 8, some .int)
theorem ok_X7_feed : mOK mX7_feed 6 := ⟨by decide +kernel, ⟨by decide +kernel, by decide +kernel, by decide +kernel⟩, (TWt1 1 rfl rfl), (TWt2 101 rfl rfl), by decide⟩
theorem vi_X7_feed : Cond.instanceMethod mX7_feed.1 ∈ TW ∧ Cond.selects mX7_feed.1.cls mX7_feed.1 mX7_feed.1 ∈ TW := ⟨(TWt2 99 rfl rfl), (TWt2 100 rfl rfl)⟩
abbrev mX7_text : MK := (yX7_text, cX7_text, 2, some .int)
theorem ok_X7_text : mOK mX7_text 0 := ⟨by decide +kernel, ⟨by decide +kernel, by decide +kernel, by decide +kernel⟩, (TWt1 1 rfl rfl), (TWt2 115 rfl rfl), by decide⟩
theorem vi_X7_text : Cond.instanceMethod mX7_text.1 ∈ TW ∧ Cond.selects mX7_text.1.cls mX7_text.1 mX7_text.1 ∈ TW := ⟨(TWt2 113 rfl rfl), (TWt2 114 rfl rfl)⟩
abbrev mX7_force : MK := (yX7_force, cX7_force, 3, some .int)
theorem ok_X7_force : mOK mX7_force 1 := ⟨by decide +kernel, ⟨by decide +kernel, by decide +kernel, by decide +kernel⟩, (TWt1 1 rfl rfl), (TWt3 69 rfl rfl), by decide⟩
theorem vi_X7_force : Cond.instanceMethod mX7_force.1 ∈ TW ∧ Cond.selects mX7_force.1.cls mX7_force.1 mX7_force.1 ∈ TW := ⟨(TWt3 67 rfl rfl), (TWt3 68 rfl rfl)⟩
abbrev mX7_asks : MK := (yX7_asks, cX7_asks, 3, some .int)
theorem ok_X7_asks : mOK mX7_asks 2 := ⟨by decide +kernel, ⟨by decide +kernel, by decide +kernel, by decide +kernel⟩, (TWt1 1 rfl rfl), (TWt3 77 rfl rfl), by decide⟩
theorem vi_X7_asks : Cond.instanceMethod mX7_asks.1 ∈ TW ∧ Cond.selects mX7_asks.1.cls mX7_asks.1 mX7_asks.1 ∈ TW := ⟨(TWt3 75 rfl rfl), (TWt3 76 rfl rfl)⟩
abbrev mX7_horse : MK := (yX7_horse, cX7_horse, 6, some .int)
theorem ok_X7_horse : mOK mX7_horse 4 := ⟨by decide +kernel, ⟨by decide +kernel, by decide +kernel, by decide +kernel⟩, (TWt1 1 rfl rfl), (TWt3 85 rfl rfl), by decide⟩
theorem vi_X7_horse : Cond.instanceMethod mX7_horse.1 ∈ TW ∧ Cond.selects mX7_horse.1.cls mX7_horse.1 mX7_horse.1 ∈ TW := ⟨(TWt3 83 rfl rfl), (TWt3 84 rfl rfl)⟩
abbrev mX7_stand : MK := (yX7_stand, cX7_stand, 4, some .int)
theorem ok_X7_stand : mOK mX7_stand 2 := ⟨by decide +kernel, ⟨by decide +kernel, by decide +kernel, by decide +kernel⟩, (TWt1 1 rfl rfl), (TWt3 93 rfl rfl), by decide⟩
theorem vi_X7_stand : Cond.instanceMethod mX7_stand.1 ∈ TW ∧ Cond.selects mX7_stand.1.cls mX7_stand.1 mX7_stand.1 ∈ TW := ⟨(TWt3 91 rfl rfl), (TWt3 92 rfl rfl)⟩
abbrev mX7_told : MK := (yX7_told, cX7_told, 4, some .int)
theorem ok_X7_told : mOK mX7_told 2 := ⟨by decide +kernel, ⟨by decide +kernel, by decide +kernel, by decide +kernel⟩, (TWt1 1 rfl rfl), (TWt3 97 rfl rfl), by decide⟩
theorem vi_X7_told : Cond.instanceMethod mX7_told.1 ∈ TW ∧ Cond.selects mX7_told.1.cls mX7_told.1 mX7_told.1 ∈ TW := ⟨(TWt3 95 rfl rfl), (TWt3 96 rfl rfl)⟩
abbrev mX7_goes : MK := (yX7_goes, cX7_goes, 3, some .int)
theorem ok_X7_goes : mOK mX7_goes 2 := ⟨by decide +kernel, ⟨by decide +kernel, by decide +kernel, by decide +kernel⟩, (TWt1 1 rfl rfl), (TWt3 110 rfl rfl), by decide⟩
theorem vi_X7_goes : Cond.instanceMethod mX7_goes.1 ∈ TW ∧ Cond.selects mX7_goes.1.cls mX7_goes.1 mX7_goes.1 ∈ TW := ⟨(TWt3 108 rfl rfl), (TWt3 109 rfl rfl)⟩
abbrev mX7_at : MK := (yX7_at, cX7_at, 4, some .int)
theorem ok_X7_at : mOK mX7_at 1 := ⟨by decide +kernel, ⟨by decide +kernel, by decide +kernel, by decide +kernel⟩, (TWt1 1 rfl rfl), (TWt3 122 rfl rfl), by decide⟩
theorem vi_X7_at : Cond.instanceMethod mX7_at.1 ∈ TW ∧ Cond.selects mX7_at.1.cls mX7_at.1 mX7_at.1 ∈ TW := ⟨(TWt3 120 rfl rfl), (TWt3 121 rfl rfl)⟩
abbrev mX7_soonest : MK := (yX7_soonest, cX7_soonest, 5, some .int)
theorem ok_X7_soonest : mOK mX7_soonest 3 := ⟨by decide +kernel, ⟨by decide +kernel, by decide +kernel, by decide +kernel⟩, (TWt1 1 rfl rfl), (TWt3 126 rfl rfl), by decide⟩
theorem vi_X7_soonest : Cond.instanceMethod mX7_soonest.1 ∈ TW ∧ Cond.selects mX7_soonest.1.cls mX7_soonest.1 mX7_soonest.1 ∈ TW := ⟨(TWt3 124 rfl rfl), (TWt3 125 rfl rfl)⟩
abbrev mX7_piece : MK := (yX7_piece, cX7_piece, 4, some .int)
theorem ok_X7_piece : mOK mX7_piece 3 := ⟨by decide +kernel, ⟨by decide +kernel, by decide +kernel, by decide +kernel⟩, (TWt1 1 rfl rfl), (TWt3 184 rfl rfl), by decide⟩
theorem vi_X7_piece : Cond.instanceMethod mX7_piece.1 ∈ TW ∧ Cond.selects mX7_piece.1.cls mX7_piece.1 mX7_piece.1 ∈ TW := ⟨(TWt3 182 rfl rfl), (TWt3 183 rfl rfl)⟩
abbrev mX7_both : MK := (yX7_both, cX7_both, 12, some .int)
theorem ok_X7_both : mOK mX7_both 3 := ⟨by decide +kernel, ⟨by decide +kernel, by decide +kernel, by decide +kernel⟩, (TWt1 1 rfl rfl), (TWt3 189 rfl rfl), by decide⟩
theorem vi_X7_both : Cond.instanceMethod mX7_both.1 ∈ TW ∧ Cond.selects mX7_both.1.cls mX7_both.1 mX7_both.1 ∈ TW := ⟨(TWt3 187 rfl rfl), (TWt3 188 rfl rfl)⟩
abbrev mX7_all : MK := (yX7_all, cX7_all, 1, some .int)
theorem ok_X7_all : mOK mX7_all 0 := ⟨by decide +kernel, ⟨by decide +kernel, by decide +kernel, by decide +kernel⟩, (TWt1 1 rfl rfl), (TWt3 194 rfl rfl), by decide⟩
theorem vi_X7_all : Cond.instanceMethod mX7_all.1 ∈ TW ∧ Cond.selects mX7_all.1.cls mX7_all.1 mX7_all.1 ∈ TW := ⟨(TWt3 192 rfl rfl), (TWt3 193 rfl rfl)⟩
abbrev mX7_worth : MK := (yX7_worth, cX7_worth, 2, some .int)
theorem ok_X7_worth : mOK mX7_worth 1 := ⟨by decide +kernel, ⟨by decide +kernel, by decide +kernel, by decide +kernel⟩, (TWt1 1 rfl rfl), (TWt3 202 rfl rfl), by decide⟩
theorem vi_X7_worth : Cond.instanceMethod mX7_worth.1 ∈ TW ∧ Cond.selects mX7_worth.1.cls mX7_worth.1 mX7_worth.1 ∈ TW := ⟨(TWt3 200 rfl rfl), (TWt3 201 rfl rfl)⟩
abbrev mX7_teach : MK := (yX7_teach, cX7_teach, 9, some .int)
theorem ok_X7_teach : mOK mX7_teach 1 := ⟨by decide +kernel, ⟨by decide +kernel, by decide +kernel, by decide +kernel⟩, (TWt1 1 rfl rfl), (TWt3 206 rfl rfl), by decide⟩
theorem vi_X7_teach : Cond.instanceMethod mX7_teach.1 ∈ TW ∧ Cond.selects mX7_teach.1.cls mX7_teach.1 mX7_teach.1 ∈ TW := ⟨(TWt3 204 rfl rfl), (TWt3 205 rfl rfl)⟩
abbrev mX7_move : MK := (yX7_move, cX7_move, 9, some .int)
theorem ok_X7_move : mOK mX7_move 2 := ⟨by decide +kernel, ⟨by decide +kernel, by decide +kernel, by decide +kernel⟩, (TWt1 1 rfl rfl), (TWt3 210 rfl rfl), by decide⟩
theorem vi_X7_move : Cond.instanceMethod mX7_move.1 ∈ TW ∧ Cond.selects mX7_move.1.cls mX7_move.1 mX7_move.1 ∈ TW := ⟨(TWt3 208 rfl rfl), (TWt3 209 rfl rfl)⟩
abbrev mX7_cut : MK := (yX7_cut, cX7_cut, 7, some .int)
theorem ok_X7_cut : mOK mX7_cut 3 := ⟨by decide +kernel, ⟨by decide +kernel, by decide +kernel, by decide +kernel⟩, (TWt1 1 rfl rfl), (TWt3 218 rfl rfl), by decide⟩
theorem vi_X7_cut : Cond.instanceMethod mX7_cut.1 ∈ TW ∧ Cond.selects mX7_cut.1.cls mX7_cut.1 mX7_cut.1 ∈ TW := ⟨(TWt3 216 rfl rfl), (TWt3 217 rfl rfl)⟩
abbrev mX7_lost : MK := (yX7_lost, cX7_lost, 7, some .long)
theorem ok_X7_lost : mOK mX7_lost 3 := ⟨by decide +kernel, ⟨by decide +kernel, by decide +kernel, by decide +kernel⟩, (TWt1 1 rfl rfl), (TWt3 223 rfl rfl), by decide⟩
theorem vi_X7_lost : Cond.instanceMethod mX7_lost.1 ∈ TW ∧ Cond.selects mX7_lost.1.cls mX7_lost.1 mX7_lost.1 ∈ TW := ⟨(TWt3 221 rfl rfl), (TWt3 222 rfl rfl)⟩
abbrev mX7_needed : MK := (yX7_needed, cX7_needed, 8, some .int)
theorem ok_X7_needed : mOK mX7_needed 3 := ⟨by decide +kernel, ⟨by decide +kernel, by decide +kernel, by decide +kernel⟩, (TWt1 1 rfl rfl), (TWt3 235 rfl rfl), by decide⟩
theorem vi_X7_needed : Cond.instanceMethod mX7_needed.1 ∈ TW ∧ Cond.selects mX7_needed.1.cls mX7_needed.1 mX7_needed.1 ∈ TW := ⟨(TWt3 233 rfl rfl), (TWt3 234 rfl rfl)⟩
abbrev mX7_again : MK := (yX7_again, cX7_again, 5, some .int)
theorem ok_X7_again : mOK mX7_again 2 := ⟨by decide +kernel, ⟨by decide +kernel, by decide +kernel, by decide +kernel⟩, (TWt1 1 rfl rfl), (TWt3 239 rfl rfl), by decide⟩
theorem vi_X7_again : Cond.instanceMethod mX7_again.1 ∈ TW ∧ Cond.selects mX7_again.1.cls mX7_again.1 mX7_again.1 ∈ TW := ⟨(TWt3 237 rfl rfl), (TWt3 238 rfl rfl)⟩
abbrev mX7_doctor : MK := (yX7_doctor, cX7_doctor, 6, some .int)
theorem ok_X7_doctor : mOK mX7_doctor 1 := ⟨by decide +kernel, ⟨by decide +kernel, by decide +kernel, by decide +kernel⟩, (TWt1 1 rfl rfl), (TWt4 3 rfl rfl), by decide⟩
theorem vi_X7_doctor : Cond.instanceMethod mX7_doctor.1 ∈ TW ∧ Cond.selects mX7_doctor.1.cls mX7_doctor.1 mX7_doctor.1 ∈ TW := ⟨(TWt4 1 rfl rfl), (TWt4 2 rfl rfl)⟩
abbrev mX7_judge : MK := (yX7_judge, cX7_judge, 12, some .int)
theorem ok_X7_judge : mOK mX7_judge 3 := ⟨by decide +kernel, ⟨by decide +kernel, by decide +kernel, by decide +kernel⟩, (TWt1 1 rfl rfl), (TWt4 16 rfl rfl), by decide⟩
theorem vi_X7_judge : Cond.instanceMethod mX7_judge.1 ∈ TW ∧ Cond.selects mX7_judge.1.cls mX7_judge.1 mX7_judge.1 ∈ TW := ⟨(TWt4 14 rfl rfl), (TWt4 15 rfl rfl)⟩
abbrev mX7_wet : MK := (yX7_wet, cX7_wet, 7, some .int)
theorem ok_X7_wet : mOK mX7_wet 2 := ⟨by decide +kernel, ⟨by decide +kernel, by decide +kernel, by decide +kernel⟩, (TWt1 1 rfl rfl), (TWt4 40 rfl rfl), by decide⟩
theorem vi_X7_wet : Cond.instanceMethod mX7_wet.1 ∈ TW ∧ Cond.selects mX7_wet.1.cls mX7_wet.1 mX7_wet.1 ∈ TW := ⟨(TWt4 38 rfl rfl), (TWt4 39 rfl rfl)⟩
abbrev mX7_whence : MK := (yX7_whence, cX7_whence, 5, some .int)
theorem ok_X7_whence : mOK mX7_whence 1 := ⟨by decide +kernel, ⟨by decide +kernel, by decide +kernel, by decide +kernel⟩, (TWt1 1 rfl rfl), (TWt4 44 rfl rfl), by decide⟩
theorem vi_X7_whence : Cond.instanceMethod mX7_whence.1 ∈ TW ∧ Cond.selects mX7_whence.1.cls mX7_whence.1 mX7_whence.1 ∈ TW := ⟨(TWt4 42 rfl rfl), (TWt4 43 rfl rfl)⟩
abbrev mX7_laws : MK := (yX7_laws, cX7_laws, 7, some .int)
theorem ok_X7_laws : mOK mX7_laws 2 := ⟨by decide +kernel, ⟨by decide +kernel, by decide +kernel, by decide +kernel⟩, (TWt1 1 rfl rfl), (TWt4 56 rfl rfl), by decide⟩
theorem vi_X7_laws : Cond.instanceMethod mX7_laws.1 ∈ TW ∧ Cond.selects mX7_laws.1.cls mX7_laws.1 mX7_laws.1 ∈ TW := ⟨(TWt4 54 rfl rfl), (TWt4 55 rfl rfl)⟩
abbrev mX7_film : MK := (yX7_film, cX7_film, 4, some .int)
theorem ok_X7_film : mOK mX7_film 2 := ⟨by decide +kernel, ⟨by decide +kernel, by decide +kernel, by decide +kernel⟩, (TWt1 1 rfl rfl), (TWt4 60 rfl rfl), by decide⟩
theorem vi_X7_film : Cond.instanceMethod mX7_film.1 ∈ TW ∧ Cond.selects mX7_film.1.cls mX7_film.1 mX7_film.1 ∈ TW := ⟨(TWt4 58 rfl rfl), (TWt4 59 rfl rfl)⟩
abbrev mX7_drawn : MK := (yX7_drawn, cX7_drawn, 2, some .int)
theorem ok_X7_drawn : mOK mX7_drawn 1 := ⟨by decide +kernel, ⟨by decide +kernel, by decide +kernel, by decide +kernel⟩, (TWt1 1 rfl rfl), (TWt4 74 rfl rfl), by decide⟩
theorem vi_X7_drawn : Cond.instanceMethod mX7_drawn.1 ∈ TW ∧ Cond.selects mX7_drawn.1.cls mX7_drawn.1 mX7_drawn.1 ∈ TW := ⟨(TWt4 72 rfl rfl), (TWt4 73 rfl rfl)⟩
abbrev mX7_mean : MK := (yX7_mean, cX7_mean, 9, some .long)
theorem ok_X7_mean : mOK mX7_mean 5 := ⟨by decide +kernel, ⟨by decide +kernel, by decide +kernel, by decide +kernel⟩, (TWt1 1 rfl rfl), (TWt4 85 rfl rfl), by decide⟩
theorem vi_X7_mean : Cond.instanceMethod mX7_mean.1 ∈ TW ∧ Cond.selects mX7_mean.1.cls mX7_mean.1 mX7_mean.1 ∈ TW := ⟨(TWt4 83 rfl rfl), (TWt4 84 rfl rfl)⟩
abbrev mX7_image : MK := (yX7_image, cX7_image, 2, some .int)
theorem ok_X7_image : mOK mX7_image 0 := ⟨by decide +kernel, ⟨by decide +kernel, by decide +kernel, by decide +kernel⟩, (TWt1 1 rfl rfl), (TWt4 92 rfl rfl), by decide⟩
theorem vi_X7_image : Cond.instanceMethod mX7_image.1 ∈ TW ∧ Cond.selects mX7_image.1.cls mX7_image.1 mX7_image.1 ∈ TW := ⟨(TWt4 90 rfl rfl), (TWt4 91 rfl rfl)⟩
abbrev mX7_back : MK := (yX7_back, cX7_back, 2, some .int)
theorem ok_X7_back : mOK mX7_back 0 := ⟨by decide +kernel, ⟨by decide +kernel, by decide +kernel, by decide +kernel⟩, (TWt1 1 rfl rfl), (TWt4 102 rfl rfl), by decide⟩
theorem vi_X7_back : Cond.instanceMethod mX7_back.1 ∈ TW ∧ Cond.selects mX7_back.1.cls mX7_back.1 mX7_back.1 ∈ TW := ⟨(TWt4 100 rfl rfl), (TWt4 101 rfl rfl)⟩
abbrev mX7_sheet : MK := (yX7_sheet, cX7_sheet, 4, some .int)
theorem ok_X7_sheet : mOK mX7_sheet 3 := ⟨by decide +kernel, ⟨by decide +kernel, by decide +kernel, by decide +kernel⟩, (TWt1 1 rfl rfl), (TWt4 106 rfl rfl), by decide⟩
theorem vi_X7_sheet : Cond.instanceMethod mX7_sheet.1 ∈ TW ∧ Cond.selects mX7_sheet.1.cls mX7_sheet.1 mX7_sheet.1 ∈ TW := ⟨(TWt4 104 rfl rfl), (TWt4 105 rfl rfl)⟩
abbrev mX7_cell : MK := (yX7_cell, cX7_cell, 4, some .int)
theorem ok_X7_cell : mOK mX7_cell 3 := ⟨by decide +kernel, ⟨by decide +kernel, by decide +kernel, by decide +kernel⟩, (TWt1 1 rfl rfl), (TWt4 110 rfl rfl), by decide⟩
theorem vi_X7_cell : Cond.instanceMethod mX7_cell.1 ∈ TW ∧ Cond.selects mX7_cell.1.cls mX7_cell.1 mX7_cell.1 ∈ TW := ⟨(TWt4 108 rfl rfl), (TWt4 109 rfl rfl)⟩
abbrev mX7_copy : MK := (yX7_copy, cX7_copy, 8, some .int)
theorem ok_X7_copy : mOK mX7_copy 5 := ⟨by decide +kernel, ⟨by decide +kernel, by decide +kernel, by decide +kernel⟩, (TWt1 1 rfl rfl), (TWt4 115 rfl rfl), by decide⟩
theorem vi_X7_copy : Cond.instanceMethod mX7_copy.1 ∈ TW ∧ Cond.selects mX7_copy.1.cls mX7_copy.1 mX7_copy.1 ∈ TW := ⟨(TWt4 113 rfl rfl), (TWt4 114 rfl rfl)⟩
abbrev mX7_horsesBy : MK := (yX7_horsesBy, cX7_horsesBy, 10, some .int)
theorem ok_X7_horsesBy : mOK mX7_horsesBy 4 := ⟨by decide +kernel, ⟨by decide +kernel, by decide +kernel, by decide +kernel⟩, (TWt1 1 rfl rfl), (TWt4 119 rfl rfl), by decide⟩
theorem vi_X7_horsesBy : Cond.instanceMethod mX7_horsesBy.1 ∈ TW ∧ Cond.selects mX7_horsesBy.1.cls mX7_horsesBy.1 mX7_horsesBy.1 ∈ TW := ⟨(TWt4 117 rfl rfl), (TWt4 118 rfl rfl)⟩
abbrev mX7_taken : MK := (yX7_taken, cX7_taken, 5, some .int)
theorem ok_X7_taken : mOK mX7_taken 2 := ⟨by decide +kernel, ⟨by decide +kernel, by decide +kernel, by decide +kernel⟩, (TWt1 1 rfl rfl), (TWt4 124 rfl rfl), by decide⟩
theorem vi_X7_taken : Cond.instanceMethod mX7_taken.1 ∈ TW ∧ Cond.selects mX7_taken.1.cls mX7_taken.1 mX7_taken.1 ∈ TW := ⟨(TWt4 122 rfl rfl), (TWt4 123 rfl rfl)⟩
abbrev mX7_isWithin : MK := (yX7_isWithin, cX7_isWithin, 3, some .boolean)
theorem ok_X7_isWithin : mOK mX7_isWithin 3 := ⟨by decide +kernel, ⟨by decide +kernel, by decide +kernel, by decide +kernel⟩, (TWt1 1 rfl rfl), (TWt2 36 rfl rfl), by decide⟩
theorem sv_X7_isWithin : Cond.static mX7_isWithin.1 ∈ TW := (TWt2 35 rfl rfl)
abbrev mX7_isPlace : MK := (yX7_isPlace, cX7_isPlace, 1, some .boolean)
theorem ok_X7_isPlace : mOK mX7_isPlace 1 := ⟨by decide +kernel, ⟨by decide +kernel, by decide +kernel, by decide +kernel⟩, (TWt1 1 rfl rfl), (TWt2 33 rfl rfl), by decide⟩
theorem sv_X7_isPlace : Cond.static mX7_isPlace.1 ∈ TW := (TWt2 32 rfl rfl)
abbrev mX7_isWay : MK := (yX7_isWay, cX7_isWay, 2, some .boolean)
theorem ok_X7_isWay : mOK mX7_isWay 2 := ⟨by decide +kernel, ⟨by decide +kernel, by decide +kernel, by decide +kernel⟩, (TWt1 1 rfl rfl), (TWt2 30 rfl rfl), by decide⟩
theorem sv_X7_isWay : Cond.static mX7_isWay.1 ∈ TW := (TWt2 29 rfl rfl)
abbrev mX7_isByte : MK := (yX7_isByte, cX7_isByte, 1, some .boolean)
theorem ok_X7_isByte : mOK mX7_isByte 1 := ⟨by decide +kernel, ⟨by decide +kernel, by decide +kernel, by decide +kernel⟩, (TWt1 1 rfl rfl), (TWt2 107 rfl rfl), by decide⟩
theorem sv_X7_isByte : Cond.static mX7_isByte.1 ∈ TW := (TWt2 106 rfl rfl)
abbrev mX7_areBytes : MK := (yX7_areBytes, cX7_areBytes, 5, some .boolean)
theorem ok_X7_areBytes : mOK mX7_areBytes 5 := ⟨by decide +kernel, ⟨by decide +kernel, by decide +kernel, by decide +kernel⟩, (TWt1 1 rfl rfl), (TWt2 104 rfl rfl), by decide⟩
theorem sv_X7_areBytes : Cond.static mX7_areBytes.1 ∈ TW := (TWt2 103 rfl rfl)
abbrev mX7_isSheet : MK := (yX7_isSheet, cX7_isSheet, 1, some .boolean)
theorem ok_X7_isSheet : mOK mX7_isSheet 1 := ⟨by decide +kernel, ⟨by decide +kernel, by decide +kernel, by decide +kernel⟩, (TWt1 1 rfl rfl), (TWt4 19 rfl rfl), by decide⟩
theorem sv_X7_isSheet : Cond.static mX7_isSheet.1 ∈ TW := (TWt4 18 rfl rfl)
abbrev mX7_isHorse : MK := (yX7_isHorse, cX7_isHorse, 2, some .boolean)
theorem ok_X7_isHorse : mOK mX7_isHorse 1 := ⟨by decide +kernel, ⟨by decide +kernel, by decide +kernel, by decide +kernel⟩, (TWt1 1 rfl rfl), (TWt3 81 rfl rfl), by decide⟩
theorem vi_X7_isHorse : Cond.instanceMethod mX7_isHorse.1 ∈ TW ∧ Cond.selects mX7_isHorse.1.cls mX7_isHorse.1 mX7_isHorse.1 ∈ TW := ⟨(TWt3 80 rfl rfl), (TWp 21 rfl rfl)⟩
abbrev mX7_isRide : MK := (yX7_isRide, cX7_isRide, 2, some .boolean)
theorem ok_X7_isRide : mOK mX7_isRide 1 := ⟨by decide +kernel, ⟨by decide +kernel, by decide +kernel, by decide +kernel⟩, (TWt1 1 rfl rfl), (TWt2 93 rfl rfl), by decide⟩
theorem vi_X7_isRide : Cond.instanceMethod mX7_isRide.1 ∈ TW ∧ Cond.selects mX7_isRide.1.cls mX7_isRide.1 mX7_isRide.1 ∈ TW := ⟨(TWt2 92 rfl rfl), (TWp 5 rfl rfl)⟩
abbrev mX7_isIn : MK := (yX7_isIn, cX7_isIn, 2, some .boolean)
theorem ok_X7_isIn : mOK mX7_isIn 2 := ⟨by decide +kernel, ⟨by decide +kernel, by decide +kernel, by decide +kernel⟩, (TWt1 1 rfl rfl), (TWt3 150 rfl rfl), by decide⟩
theorem sv_X7_isIn : Cond.static mX7_isIn.1 ∈ TW := (TWt3 149 rfl rfl)
abbrev mX7_setWalk : MK := (yX7_setWalk, cX7_setWalk, 4, none)
theorem ok_X7_setWalk : mOK mX7_setWalk 3 := ⟨by decide +kernel, ⟨by decide +kernel, by decide +kernel, by decide +kernel⟩, (TWt1 1 rfl rfl), (TWt2 40 rfl rfl), by decide⟩
theorem vi_X7_setWalk : Cond.instanceMethod mX7_setWalk.1 ∈ TW ∧ Cond.selects mX7_setWalk.1.cls mX7_setWalk.1 mX7_setWalk.1 ∈ TW := ⟨(TWt2 39 rfl rfl), (TWp 0 rfl rfl)⟩
abbrev mX7_setFrom : MK := (yX7_setFrom, cX7_setFrom, 3, none)
theorem ok_X7_setFrom : mOK mX7_setFrom 2 := ⟨by decide +kernel, ⟨by decide +kernel, by decide +kernel, by decide +kernel⟩, (TWt1 1 rfl rfl), (TWt3 214 rfl rfl), by decide⟩
theorem vi_X7_setFrom : Cond.instanceMethod mX7_setFrom.1 ∈ TW ∧ Cond.selects mX7_setFrom.1.cls mX7_setFrom.1 mX7_setFrom.1 ∈ TW := ⟨(TWt3 213 rfl rfl), (TWp 30 rfl rfl)⟩
abbrev mX7_setLaw : MK := (yX7_setLaw, cX7_setLaw, 2, none)
theorem ok_X7_setLaw : mOK mX7_setLaw 1 := ⟨by decide +kernel, ⟨by decide +kernel, by decide +kernel, by decide +kernel⟩, (TWt1 1 rfl rfl), (TWt3 73 rfl rfl), by decide⟩
theorem vi_X7_setLaw : Cond.instanceMethod mX7_setLaw.1 ∈ TW ∧ Cond.selects mX7_setLaw.1.cls mX7_setLaw.1 mX7_setLaw.1 ∈ TW := ⟨(TWt3 72 rfl rfl), (TWp 20 rfl rfl)⟩
abbrev mX7_hearLawAll : MK := (yX7_hearLawAll, cX7_hearLawAll, 2, none)
theorem ok_X7_hearLawAll : mOK mX7_hearLawAll 0 := ⟨by decide +kernel, ⟨by decide +kernel, by decide +kernel, by decide +kernel⟩, (TWt1 1 rfl rfl), (TWt2 44 rfl rfl), by decide⟩
theorem vi_X7_hearLawAll : Cond.instanceMethod mX7_hearLawAll.1 ∈ TW ∧ Cond.selects mX7_hearLawAll.1.cls mX7_hearLawAll.1 mX7_hearLawAll.1 ∈ TW := ⟨(TWt2 43 rfl rfl), (TWp 1 rfl rfl)⟩
abbrev mX7_hearLaw : MK := (yX7_hearLaw, cX7_hearLaw, 4, none)
theorem ok_X7_hearLaw : mOK mX7_hearLaw 1 := ⟨by decide +kernel, ⟨by decide +kernel, by decide +kernel, by decide +kernel⟩, (TWt1 1 rfl rfl), (TWt2 48 rfl rfl), by decide⟩
theorem vi_X7_hearLaw : Cond.instanceMethod mX7_hearLaw.1 ∈ TW ∧ Cond.selects mX7_hearLaw.1.cls mX7_hearLaw.1 mX7_hearLaw.1 ∈ TW := ⟨(TWt2 47 rfl rfl), (TWp 2 rfl rfl)⟩
abbrev mX7_bounded : MK := (yX7_bounded, cX7_bounded, 3, some .int)
theorem ok_X7_bounded : mOK mX7_bounded 3 := ⟨by decide +kernel, ⟨by decide +kernel, by decide +kernel, by decide +kernel⟩, (TWt1 1 rfl rfl), (TWt2 71 rfl rfl), by decide⟩
theorem sv_X7_bounded : Cond.static mX7_bounded.1 ∈ TW := (TWt2 70 rfl rfl)
abbrev mX7_copyWalks : MK := (yX7_copyWalks, cX7_copyWalks, 3, none)
theorem ok_X7_copyWalks : mOK mX7_copyWalks 2 := ⟨by decide +kernel, ⟨by decide +kernel, by decide +kernel, by decide +kernel⟩, (TWt1 1 rfl rfl), (TWt4 95 rfl rfl), by decide⟩
theorem sv_X7_copyWalks : Cond.static mX7_copyWalks.1 ∈ TW := (TWt4 94 rfl rfl)
abbrev mX7_allHorses : MK := (yX7_allHorses, cX7_allHorses, 1, some .int)
theorem ok_X7_allHorses : mOK mX7_allHorses 0 := ⟨by decide +kernel, ⟨by decide +kernel, by decide +kernel, by decide +kernel⟩, (TWt1 1 rfl rfl), (TWt3 130 rfl rfl), by decide⟩
theorem vi_X7_allHorses : Cond.instanceMethod mX7_allHorses.1 ∈ TW ∧ Cond.selects mX7_allHorses.1.cls mX7_allHorses.1 mX7_allHorses.1 ∈ TW := ⟨(TWt3 129 rfl rfl), (TWp 23 rfl rfl)⟩
abbrev mX7_soonWith : MK := (yX7_soonWith, cX7_soonWith, 4, some .int)
theorem ok_X7_soonWith : mOK mX7_soonWith 3 := ⟨by decide +kernel, ⟨by decide +kernel, by decide +kernel, by decide +kernel⟩, (TWt1 1 rfl rfl), (TWt3 134 rfl rfl), by decide⟩
theorem vi_X7_soonWith : Cond.instanceMethod mX7_soonWith.1 ∈ TW ∧ Cond.selects mX7_soonWith.1.cls mX7_soonWith.1 mX7_soonWith.1 ∈ TW := ⟨(TWt3 133 rfl rfl), (TWp 24 rfl rfl)⟩
abbrev mX7_searchAll : MK := (yX7_searchAll, cX7_searchAll, 2, none)
theorem ok_X7_searchAll : mOK mX7_searchAll 1 := ⟨by decide +kernel, ⟨by decide +kernel, by decide +kernel, by decide +kernel⟩, (TWt1 1 rfl rfl), (TWt4 7 rfl rfl), by decide⟩
theorem vi_X7_searchAll : Cond.instanceMethod mX7_searchAll.1 ∈ TW ∧ Cond.selects mX7_searchAll.1.cls mX7_searchAll.1 mX7_searchAll.1 ∈ TW := ⟨(TWt4 6 rfl rfl), (TWp 32 rfl rfl)⟩
abbrev mX7_ridden : MK := (yX7_ridden, cX7_ridden, 4, some .int)
theorem ok_X7_ridden : mOK mX7_ridden 1 := ⟨by decide +kernel, ⟨by decide +kernel, by decide +kernel, by decide +kernel⟩, (TWt1 1 rfl rfl), (TWt3 198 rfl rfl), by decide⟩
theorem vi_X7_ridden : Cond.instanceMethod mX7_ridden.1 ∈ TW ∧ Cond.selects mX7_ridden.1.cls mX7_ridden.1 mX7_ridden.1 ∈ TW := ⟨(TWt3 197 rfl rfl), (TWp 29 rfl rfl)⟩
abbrev mX7_lives : MK := (yX7_lives, cX7_lives, 6, some .long)
theorem ok_X7_lives : mOK mX7_lives 1 := ⟨by decide +kernel, ⟨by decide +kernel, by decide +kernel, by decide +kernel⟩, (TWt1 1 rfl rfl), (TWt3 228 rfl rfl), by decide⟩
theorem vi_X7_lives : Cond.instanceMethod mX7_lives.1 ∈ TW ∧ Cond.selects mX7_lives.1.cls mX7_lives.1 mX7_lives.1 ∈ TW := ⟨(TWt3 227 rfl rfl), (TWp 31 rfl rfl)⟩
abbrev mX7_livingBy : MK := (yX7_livingBy, cX7_livingBy, 6, some .int)
theorem ok_X7_livingBy : mOK mX7_livingBy 1 := ⟨by decide +kernel, ⟨by decide +kernel, by decide +kernel, by decide +kernel⟩, (TWt1 1 rfl rfl), (TWt4 79 rfl rfl), by decide⟩
theorem vi_X7_livingBy : Cond.instanceMethod mX7_livingBy.1 ∈ TW ∧ Cond.selects mX7_livingBy.1.cls mX7_livingBy.1 mX7_livingBy.1 ∈ TW := ⟨(TWt4 78 rfl rfl), (TWp 36 rfl rfl)⟩
abbrev mX7_greatestCommon : MK := (yX7_greatestCommon, cX7_greatestCommon, 6, some .int)
theorem ok_X7_greatestCommon : mOK mX7_greatestCommon 2 := ⟨by decide +kernel, ⟨by decide +kernel, by decide +kernel, by decide +kernel⟩, (TWt1 1 rfl rfl), (TWt4 88 rfl rfl), by decide⟩
theorem sv_X7_greatestCommon : Cond.static mX7_greatestCommon.1 ∈ TW := (TWt4 87 rfl rfl)
abbrev mX7_canBe : MK := (yX7_canBe, cX7_canBe, 5, some .boolean)
theorem ok_X7_canBe : mOK mX7_canBe 3 := ⟨by decide +kernel, ⟨by decide +kernel, by decide +kernel, by decide +kernel⟩, (TWt1 1 rfl rfl), (TWt4 35 rfl rfl), by decide⟩
theorem vi_X7_canBe : Cond.instanceMethod mX7_canBe.1 ∈ TW ∧ Cond.selects mX7_canBe.1.cls mX7_canBe.1 mX7_canBe.1 ∈ TW := ⟨(TWt4 34 rfl rfl), (TWp 33 rfl rfl)⟩
abbrev mX7_refusalOfSoons : MK := (yX7_refusalOfSoons, cX7_refusalOfSoons, 2, some .int)
theorem ok_X7_refusalOfSoons : mOK mX7_refusalOfSoons 1 := ⟨by decide +kernel, ⟨by decide +kernel, by decide +kernel, by decide +kernel⟩, (TWt1 1 rfl rfl), (TWt4 48 rfl rfl), by decide⟩
theorem vi_X7_refusalOfSoons : Cond.instanceMethod mX7_refusalOfSoons.1 ∈ TW ∧ Cond.selects mX7_refusalOfSoons.1.cls mX7_refusalOfSoons.1 mX7_refusalOfSoons.1 ∈ TW := ⟨(TWt4 47 rfl rfl), (TWp 34 rfl rfl)⟩
abbrev mX7_isSoFrom : MK := (yX7_isSoFrom, cX7_isSoFrom, 4, some .boolean)
theorem ok_X7_isSoFrom : mOK mX7_isSoFrom 2 := ⟨by decide +kernel, ⟨by decide +kernel, by decide +kernel, by decide +kernel⟩, (TWt1 1 rfl rfl), (TWt4 52 rfl rfl), by decide⟩
theorem vi_X7_isSoFrom : Cond.instanceMethod mX7_isSoFrom.1 ∈ TW ∧ Cond.selects mX7_isSoFrom.1.cls mX7_isSoFrom.1 mX7_isSoFrom.1 ∈ TW := ⟨(TWt4 51 rfl rfl), (TWp 35 rfl rfl)⟩
abbrev mX8_isIn : MK := (yX8_isIn, cX8_isIn, 3, some .boolean)
theorem ok_X8_isIn : mOK mX8_isIn 3 := ⟨by decide +kernel, ⟨by decide +kernel, by decide +kernel, by decide +kernel⟩, (TWt1 10 rfl rfl), (TWt4 140 rfl rfl), by decide⟩
theorem sv_X8_isIn : Cond.static mX8_isIn.1 ∈ TW := (TWt4 139 rfl rfl)
abbrev mX8_isPlace : MK := (yX8_isPlace, cX8_isPlace, 1, some .boolean)
theorem ok_X8_isPlace : mOK mX8_isPlace 1 := ⟨by decide +kernel, ⟨by decide +kernel, by decide +kernel, by decide +kernel⟩, (TWt1 10 rfl rfl), (TWt4 137 rfl rfl), by decide⟩
theorem sv_X8_isPlace : Cond.static mX8_isPlace.1 ∈ TW := (TWt4 136 rfl rfl)
abbrev mX8_isHorse : MK := (yX8_isHorse, cX8_isHorse, 2, some .boolean)
theorem ok_X8_isHorse : mOK mX8_isHorse 1 := ⟨by decide +kernel, ⟨by decide +kernel, by decide +kernel, by decide +kernel⟩, (TWt1 10 rfl rfl), (TWt4 177 rfl rfl), by decide⟩
theorem vi_X8_isHorse : Cond.instanceMethod mX8_isHorse.1 ∈ TW ∧ Cond.selects mX8_isHorse.1.cls mX8_isHorse.1 mX8_isHorse.1 ∈ TW := ⟨(TWt4 176 rfl rfl), (TWp 40 rfl rfl)⟩
abbrev mX8_isRide : MK := (yX8_isRide, cX8_isRide, 2, some .boolean)
theorem ok_X8_isRide : mOK mX8_isRide 1 := ⟨by decide +kernel, ⟨by decide +kernel, by decide +kernel, by decide +kernel⟩, (TWt1 10 rfl rfl), (TWt4 161 rfl rfl), by decide⟩
theorem vi_X8_isRide : Cond.instanceMethod mX8_isRide.1 ∈ TW ∧ Cond.selects mX8_isRide.1.cls mX8_isRide.1 mX8_isRide.1 ∈ TW := ⟨(TWt4 160 rfl rfl), (TWp 38 rfl rfl)⟩
abbrev mX8_walkIs : MK := (yX8_walkIs, cX8_walkIs, 4, none)
theorem ok_X8_walkIs : mOK mX8_walkIs 3 := ⟨by decide +kernel, ⟨by decide +kernel, by decide +kernel, by decide +kernel⟩, (TWt1 10 rfl rfl), (TWt4 145 rfl rfl), by decide⟩
theorem vi_X8_walkIs : Cond.instanceMethod mX8_walkIs.1 ∈ TW ∧ Cond.selects mX8_walkIs.1.cls mX8_walkIs.1 mX8_walkIs.1 ∈ TW := ⟨(TWt4 143 rfl rfl), (TWp 37 rfl rfl)⟩
abbrev mX8_path : MK := (yX8_path, cX8_path, 5, some .int)
theorem ok_X8_path : mOK mX8_path 3 := ⟨by decide +kernel, ⟨by decide +kernel, by decide +kernel, by decide +kernel⟩, (TWt1 10 rfl rfl), (TWt4 134 rfl rfl), by decide⟩
theorem vi_X8_path : Cond.instanceMethod mX8_path.1 ∈ TW ∧ Cond.selects mX8_path.1.cls mX8_path.1 mX8_path.1 ∈ TW := ⟨(TWt4 132 rfl rfl), (TWt4 133 rfl rfl)⟩
abbrev mX8_pathTold : MK := (yX8_pathTold, cX8_pathTold, 3, some .int)
theorem ok_X8_pathTold : mOK mX8_pathTold 2 := ⟨by decide +kernel, ⟨by decide +kernel, by decide +kernel, by decide +kernel⟩, (TWt1 10 rfl rfl), (TWt4 149 rfl rfl), by decide⟩
theorem vi_X8_pathTold : Cond.instanceMethod mX8_pathTold.1 ∈ TW ∧ Cond.selects mX8_pathTold.1.cls mX8_pathTold.1 mX8_pathTold.1 ∈ TW := ⟨(TWt4 147 rfl rfl), (TWt4 148 rfl rfl)⟩
abbrev mX8_ride : MK := (yX8_ride, cX8_ride, 3, some .int)
theorem ok_X8_ride : mOK mX8_ride 2 := ⟨by decide +kernel, ⟨by decide +kernel, by decide +kernel, by decide +kernel⟩, (TWt1 10 rfl rfl), (TWt4 153 rfl rfl), by decide⟩
theorem vi_X8_ride : Cond.instanceMethod mX8_ride.1 ∈ TW ∧ Cond.selects mX8_ride.1.cls mX8_ride.1 mX8_ride.1 ∈ TW := ⟨(TWt4 151 rfl rfl), (TWt4 152 rfl rfl)⟩
abbrev mX8_rideTold : MK := (yX8_rideTold, cX8_rideTold, 3, some .int)
theorem ok_X8_rideTold : mOK mX8_rideTold 2 := ⟨by decide +kernel, ⟨by decide +kernel, by decide +kernel, by decide +kernel⟩, (TWt1 10 rfl rfl), (TWt4 157 rfl rfl), by decide⟩
theorem vi_X8_rideTold : Cond.instanceMethod mX8_rideTold.1 ∈ TW ∧ Cond.selects mX8_rideTold.1.cls mX8_rideTold.1 mX8_rideTold.1 ∈ TW := ⟨(TWt4 155 rfl rfl), (TWt4 156 rfl rfl)⟩
abbrev mX8_horseIs : MK := (yX8_horseIs, cX8_horseIs, 7, none)
theorem ok_X8_horseIs : mOK mX8_horseIs 6 := ⟨by decide +kernel, ⟨by decide +kernel, by decide +kernel, by decide +kernel⟩, (TWt1 10 rfl rfl), (TWt4 169 rfl rfl), by decide⟩
theorem vi_X8_horseIs : Cond.instanceMethod mX8_horseIs.1 ∈ TW ∧ Cond.selects mX8_horseIs.1.cls mX8_horseIs.1 mX8_horseIs.1 ∈ TW := ⟨(TWt4 168 rfl rfl), (TWp 39 rfl rfl)⟩
abbrev mX8_horse : MK := (yX8_horse, cX8_horse, 7, some .int)
theorem ok_X8_horse : mOK mX8_horse 4 := ⟨by decide +kernel, ⟨by decide +kernel, by decide +kernel, by decide +kernel⟩, (TWt1 10 rfl rfl), (TWt4 165 rfl rfl), by decide⟩
theorem vi_X8_horse : Cond.instanceMethod mX8_horse.1 ∈ TW ∧ Cond.selects mX8_horse.1.cls mX8_horse.1 mX8_horse.1 ∈ TW := ⟨(TWt4 163 rfl rfl), (TWt4 164 rfl rfl)⟩
abbrev mX8_stand : MK := (yX8_stand, cX8_stand, 4, some .int)
theorem ok_X8_stand : mOK mX8_stand 2 := ⟨by decide +kernel, ⟨by decide +kernel, by decide +kernel, by decide +kernel⟩, (TWt1 10 rfl rfl), (TWt4 173 rfl rfl), by decide⟩
theorem vi_X8_stand : Cond.instanceMethod mX8_stand.1 ∈ TW ∧ Cond.selects mX8_stand.1.cls mX8_stand.1 mX8_stand.1 ∈ TW := ⟨(TWt4 171 rfl rfl), (TWt4 172 rfl rfl)⟩
abbrev mX8_whither : MK := (yX8_whither, cX8_whither, 5, some .int)
theorem ok_X8_whither : mOK mX8_whither 2 := ⟨by decide +kernel, ⟨by decide +kernel, by decide +kernel, by decide +kernel⟩, (TWt1 10 rfl rfl), (TWt4 206 rfl rfl), by decide⟩
theorem vi_X8_whither : Cond.instanceMethod mX8_whither.1 ∈ TW ∧ Cond.selects mX8_whither.1.cls mX8_whither.1 mX8_whither.1 ∈ TW := ⟨(TWt4 205 rfl rfl), (TWp 44 rfl rfl)⟩
abbrev mX8_outOf : MK := (yX8_outOf, cX8_outOf, 3, some .int)
theorem ok_X8_outOf : mOK mX8_outOf 1 := ⟨by decide +kernel, ⟨by decide +kernel, by decide +kernel, by decide +kernel⟩, (TWt1 10 rfl rfl), (TWt4 185 rfl rfl), by decide⟩
theorem vi_X8_outOf : Cond.instanceMethod mX8_outOf.1 ∈ TW ∧ Cond.selects mX8_outOf.1.cls mX8_outOf.1 mX8_outOf.1 ∈ TW := ⟨(TWt4 184 rfl rfl), (TWp 41 rfl rfl)⟩
abbrev mX8_homeOf : MK := (yX8_homeOf, cX8_homeOf, 3, some .int)
theorem ok_X8_homeOf : mOK mX8_homeOf 1 := ⟨by decide +kernel, ⟨by decide +kernel, by decide +kernel, by decide +kernel⟩, (TWt1 10 rfl rfl), (TWt4 198 rfl rfl), by decide⟩
theorem vi_X8_homeOf : Cond.instanceMethod mX8_homeOf.1 ∈ TW ∧ Cond.selects mX8_homeOf.1.cls mX8_homeOf.1 mX8_homeOf.1 ∈ TW := ⟨(TWt4 197 rfl rfl), (TWp 43 rfl rfl)⟩
abbrev mX8_told : MK := (yX8_told, cX8_told, 3, some .int)
theorem ok_X8_told : mOK mX8_told 2 := ⟨by decide +kernel, ⟨by decide +kernel, by decide +kernel, by decide +kernel⟩, (TWt1 10 rfl rfl), (TWt4 181 rfl rfl), by decide⟩
theorem vi_X8_told : Cond.instanceMethod mX8_told.1 ∈ TW ∧ Cond.selects mX8_told.1.cls mX8_told.1 mX8_told.1 ∈ TW := ⟨(TWt4 179 rfl rfl), (TWt4 180 rfl rfl)⟩
abbrev mX8_goes : MK := (yX8_goes, cX8_goes, 3, some .int)
theorem ok_X8_goes : mOK mX8_goes 2 := ⟨by decide +kernel, ⟨by decide +kernel, by decide +kernel, by decide +kernel⟩, (TWt1 10 rfl rfl), (TWt4 202 rfl rfl), by decide⟩
theorem vi_X8_goes : Cond.instanceMethod mX8_goes.1 ∈ TW ∧ Cond.selects mX8_goes.1.cls mX8_goes.1 mX8_goes.1 ∈ TW := ⟨(TWt4 200 rfl rfl), (TWt4 201 rfl rfl)⟩
abbrev mX8_at : MK := (yX8_at, cX8_at, 4, some .int)
theorem ok_X8_at : mOK mX8_at 1 := ⟨by decide +kernel, ⟨by decide +kernel, by decide +kernel, by decide +kernel⟩, (TWt1 10 rfl rfl), (TWt4 210 rfl rfl), by decide⟩
theorem vi_X8_at : Cond.instanceMethod mX8_at.1 ∈ TW ∧ Cond.selects mX8_at.1.cls mX8_at.1 mX8_at.1 ∈ TW := ⟨(TWt4 208 rfl rfl), (TWt4 209 rfl rfl)⟩
abbrev mX8_feed : MK := (yX8_feed, cX8_feed, 8, some .int)
theorem ok_X8_feed : mOK mX8_feed 6 := ⟨by decide +kernel, ⟨by decide +kernel, by decide +kernel, by decide +kernel⟩, (TWt1 10 rfl rfl), (TWt4 214 rfl rfl), by decide⟩
theorem vi_X8_feed : Cond.instanceMethod mX8_feed.1 ∈ TW ∧ Cond.selects mX8_feed.1.cls mX8_feed.1 mX8_feed.1 ∈ TW := ⟨(TWt4 212 rfl rfl), (TWt4 213 rfl rfl)⟩
abbrev mX8_isLetter : MK := (yX8_isLetter, cX8_isLetter, 2, some .boolean)
theorem ok_X8_isLetter : mOK mX8_isLetter 1 := ⟨by decide +kernel, ⟨by decide +kernel, by decide +kernel, by decide +kernel⟩, (TWt1 10 rfl rfl), (TWt4 230 rfl rfl), by decide⟩
theorem vi_X8_isLetter : Cond.instanceMethod mX8_isLetter.1 ∈ TW ∧ Cond.selects mX8_isLetter.1.cls mX8_isLetter.1 mX8_isLetter.1 ∈ TW := ⟨(TWt4 229 rfl rfl), (TWp 47 rfl rfl)⟩
abbrev mX8_isDigit : MK := (yX8_isDigit, cX8_isDigit, 2, some .boolean)
theorem ok_X8_isDigit : mOK mX8_isDigit 1 := ⟨by decide +kernel, ⟨by decide +kernel, by decide +kernel, by decide +kernel⟩, (TWt1 10 rfl rfl), (TWt4 238 rfl rfl), by decide⟩
theorem vi_X8_isDigit : Cond.instanceMethod mX8_isDigit.1 ∈ TW ∧ Cond.selects mX8_isDigit.1.cls mX8_isDigit.1 mX8_isDigit.1 ∈ TW := ⟨(TWt4 237 rfl rfl), (TWp 49 rfl rfl)⟩
abbrev mX8_readWord : MK := (yX8_readWord, cX8_readWord, 5, none)
theorem ok_X8_readWord : mOK mX8_readWord 0 := ⟨by decide +kernel, ⟨by decide +kernel, by decide +kernel, by decide +kernel⟩, (TWt1 10 rfl rfl), (TWt4 234 rfl rfl), by decide⟩
theorem vi_X8_readWord : Cond.instanceMethod mX8_readWord.1 ∈ TW ∧ Cond.selects mX8_readWord.1.cls mX8_readWord.1 mX8_readWord.1 ∈ TW := ⟨(TWt4 233 rfl rfl), (TWp 48 rfl rfl)⟩
abbrev mX8_readNumber : MK := (yX8_readNumber, cX8_readNumber, 1, none)
theorem ok_X8_readNumber : mOK mX8_readNumber 0 := ⟨by decide +kernel, ⟨by decide +kernel, by decide +kernel, by decide +kernel⟩, (TWt1 10 rfl rfl), (TWt5 2 rfl rfl), by decide⟩
theorem vi_X8_readNumber : Cond.instanceMethod mX8_readNumber.1 ∈ TW ∧ Cond.selects mX8_readNumber.1.cls mX8_readNumber.1 mX8_readNumber.1 ∈ TW := ⟨(TWt5 1 rfl rfl), (TWp 50 rfl rfl)⟩
abbrev mX8_next : MK := (yX8_next, cX8_next, 2, none)
theorem ok_X8_next : mOK mX8_next 0 := ⟨by decide +kernel, ⟨by decide +kernel, by decide +kernel, by decide +kernel⟩, (TWt1 10 rfl rfl), (TWt4 226 rfl rfl), by decide⟩
theorem vi_X8_next : Cond.instanceMethod mX8_next.1 ∈ TW ∧ Cond.selects mX8_next.1.cls mX8_next.1 mX8_next.1 ∈ TW := ⟨(TWt4 225 rfl rfl), (TWp 46 rfl rfl)⟩
abbrev mX8_isSign : MK := (yX8_isSign, cX8_isSign, 2, some .boolean)
theorem ok_X8_isSign : mOK mX8_isSign 1 := ⟨by decide +kernel, ⟨by decide +kernel, by decide +kernel, by decide +kernel⟩, (TWt1 10 rfl rfl), (TWt5 25 rfl rfl), by decide⟩
theorem vi_X8_isSign : Cond.instanceMethod mX8_isSign.1 ∈ TW ∧ Cond.selects mX8_isSign.1.cls mX8_isSign.1 mX8_isSign.1 ∈ TW := ⟨(TWt5 24 rfl rfl), (TWp 55 rfl rfl)⟩
abbrev mX8_isKey : MK := (yX8_isKey, cX8_isKey, 2, some .boolean)
theorem ok_X8_isKey : mOK mX8_isKey 1 := ⟨by decide +kernel, ⟨by decide +kernel, by decide +kernel, by decide +kernel⟩, (TWt1 10 rfl rfl), (TWt5 6 rfl rfl), by decide⟩
theorem vi_X8_isKey : Cond.instanceMethod mX8_isKey.1 ∈ TW ∧ Cond.selects mX8_isKey.1.cls mX8_isKey.1 mX8_isKey.1 ∈ TW := ⟨(TWt5 5 rfl rfl), (TWp 51 rfl rfl)⟩
abbrev mX8_emit : MK := (yX8_emit, cX8_emit, 2, none)
theorem ok_X8_emit : mOK mX8_emit 1 := ⟨by decide +kernel, ⟨by decide +kernel, by decide +kernel, by decide +kernel⟩, (TWt1 10 rfl rfl), (TWt5 14 rfl rfl), by decide⟩
theorem vi_X8_emit : Cond.instanceMethod mX8_emit.1 ∈ TW ∧ Cond.selects mX8_emit.1.cls mX8_emit.1 mX8_emit.1 ∈ TW := ⟨(TWt5 13 rfl rfl), (TWp 53 rfl rfl)⟩
abbrev mX8_rank : MK := (yX8_rank, cX8_rank, 1, some .int)
theorem ok_X8_rank : mOK mX8_rank 1 := ⟨by decide +kernel, ⟨by decide +kernel, by decide +kernel, by decide +kernel⟩, (TWt1 10 rfl rfl), (TWt5 21 rfl rfl), by decide⟩
theorem sv_X8_rank : Cond.static mX8_rank.1 ∈ TW := (TWt5 20 rfl rfl)
abbrev mX8_doAll : MK := (yX8_doAll, cX8_doAll, 2, none)
theorem ok_X8_doAll : mOK mX8_doAll 1 := ⟨by decide +kernel, ⟨by decide +kernel, by decide +kernel, by decide +kernel⟩, (TWt1 10 rfl rfl), (TWt5 18 rfl rfl), by decide⟩
theorem vi_X8_doAll : Cond.instanceMethod mX8_doAll.1 ∈ TW ∧ Cond.selects mX8_doAll.1.cls mX8_doAll.1 mX8_doAll.1 ∈ TW := ⟨(TWt5 17 rfl rfl), (TWp 54 rfl rfl)⟩
abbrev mX8_await : MK := (yX8_await, cX8_await, 2, none)
theorem ok_X8_await : mOK mX8_await 1 := ⟨by decide +kernel, ⟨by decide +kernel, by decide +kernel, by decide +kernel⟩, (TWt1 10 rfl rfl), (TWt5 33 rfl rfl), by decide⟩
theorem vi_X8_await : Cond.instanceMethod mX8_await.1 ∈ TW ∧ Cond.selects mX8_await.1.cls mX8_await.1 mX8_await.1 ∈ TW := ⟨(TWt5 32 rfl rfl), (TWp 57 rfl rfl)⟩
abbrev mX8_between : MK := (yX8_between, cX8_between, 2, some .boolean)
theorem ok_X8_between : mOK mX8_between 0 := ⟨by decide +kernel, ⟨by decide +kernel, by decide +kernel, by decide +kernel⟩, (TWt1 10 rfl rfl), (TWt5 37 rfl rfl), by decide⟩
theorem vi_X8_between : Cond.instanceMethod mX8_between.1 ∈ TW ∧ Cond.selects mX8_between.1.cls mX8_between.1 mX8_between.1 ∈ TW := ⟨(TWt5 36 rfl rfl), (TWp 58 rfl rfl)⟩
abbrev mX8_closes : MK := (yX8_closes, cX8_closes, 1, some .boolean)
theorem ok_X8_closes : mOK mX8_closes 0 := ⟨by decide +kernel, ⟨by decide +kernel, by decide +kernel, by decide +kernel⟩, (TWt1 10 rfl rfl), (TWt5 41 rfl rfl), by decide⟩
theorem vi_X8_closes : Cond.instanceMethod mX8_closes.1 ∈ TW ∧ Cond.selects mX8_closes.1.cls mX8_closes.1 mX8_closes.1 ∈ TW := ⟨(TWt5 40 rfl rfl), (TWp 59 rfl rfl)⟩
abbrev mX8_ahead : MK := (yX8_ahead, cX8_ahead, 3, some .boolean)
theorem ok_X8_ahead : mOK mX8_ahead 1 := ⟨by decide +kernel, ⟨by decide +kernel, by decide +kernel, by decide +kernel⟩, (TWt1 10 rfl rfl), (TWt5 29 rfl rfl), by decide⟩
theorem vi_X8_ahead : Cond.instanceMethod mX8_ahead.1 ∈ TW ∧ Cond.selects mX8_ahead.1.cls mX8_ahead.1 mX8_ahead.1 ∈ TW := ⟨(TWt5 28 rfl rfl), (TWp 56 rfl rfl)⟩
abbrev mX8_readE : MK := (yX8_readE, cX8_readE, 5, some .boolean)
theorem ok_X8_readE : mOK mX8_readE 1 := ⟨by decide +kernel, ⟨by decide +kernel, by decide +kernel, by decide +kernel⟩, (TWt1 10 rfl rfl), (TWt5 10 rfl rfl), by decide⟩
theorem vi_X8_readE : Cond.instanceMethod mX8_readE.1 ∈ TW ∧ Cond.selects mX8_readE.1.cls mX8_readE.1 mX8_readE.1 ∈ TW := ⟨(TWt5 9 rfl rfl), (TWp 52 rfl rfl)⟩
abbrev mX8_readAll : MK := (yX8_readAll, cX8_readAll, 3, some .int)
theorem ok_X8_readAll : mOK mX8_readAll 1 := ⟨by decide +kernel, ⟨by decide +kernel, by decide +kernel, by decide +kernel⟩, (TWt1 10 rfl rfl), (TWt4 222 rfl rfl), by decide⟩
theorem vi_X8_readAll : Cond.instanceMethod mX8_readAll.1 ∈ TW ∧ Cond.selects mX8_readAll.1.cls mX8_readAll.1 mX8_readAll.1 ∈ TW := ⟨(TWt4 221 rfl rfl), (TWp 45 rfl rfl)⟩
abbrev mX8_text : MK := (yX8_text, cX8_text, 2, some .int)
theorem ok_X8_text : mOK mX8_text 0 := ⟨by decide +kernel, ⟨by decide +kernel, by decide +kernel, by decide +kernel⟩, (TWt1 10 rfl rfl), (TWt4 218 rfl rfl), by decide⟩
theorem vi_X8_text : Cond.instanceMethod mX8_text.1 ∈ TW ∧ Cond.selects mX8_text.1.cls mX8_text.1 mX8_text.1 ∈ TW := ⟨(TWt4 216 rfl rfl), (TWt4 217 rfl rfl)⟩
abbrev mX8_force : MK := (yX8_force, cX8_force, 3, some .int)
theorem ok_X8_force : mOK mX8_force 1 := ⟨by decide +kernel, ⟨by decide +kernel, by decide +kernel, by decide +kernel⟩, (TWt1 10 rfl rfl), (TWt5 45 rfl rfl), by decide⟩
theorem vi_X8_force : Cond.instanceMethod mX8_force.1 ∈ TW ∧ Cond.selects mX8_force.1.cls mX8_force.1 mX8_force.1 ∈ TW := ⟨(TWt5 43 rfl rfl), (TWt5 44 rfl rfl)⟩
abbrev mX8_init : MK := (yX8_init, cX8_init, 3, none)
theorem ok_X8_init : mOK mX8_init 0 := ⟨by decide +kernel, ⟨by decide +kernel, by decide +kernel, by decide +kernel⟩, (TWt1 10 rfl rfl), (TWt5 49 rfl rfl), by decide⟩
theorem vi_X8_init : Cond.instanceMethod mX8_init.1 ∈ TW := (TWt5 48 rfl rfl)
abbrev mX8_done : MK := (yX8_done, cX8_done, 3, some .int)
theorem ok_X8_done : mOK mX8_done 3 := ⟨by decide +kernel, ⟨by decide +kernel, by decide +kernel, by decide +kernel⟩, (TWt1 10 rfl rfl), (TWt4 192 rfl rfl), by decide⟩
theorem sv_X8_done : Cond.static mX8_done.1 ∈ TW := (TWt4 191 rfl rfl)
abbrev mX8_worthOf : MK := (yX8_worthOf, cX8_worthOf, 7, some .int)
theorem ok_X8_worthOf : mOK mX8_worthOf 2 := ⟨by decide +kernel, ⟨by decide +kernel, by decide +kernel, by decide +kernel⟩, (TWt1 10 rfl rfl), (TWt4 189 rfl rfl), by decide⟩
theorem vi_X8_worthOf : Cond.instanceMethod mX8_worthOf.1 ∈ TW ∧ Cond.selects mX8_worthOf.1.cls mX8_worthOf.1 mX8_worthOf.1 ∈ TW := ⟨(TWt4 188 rfl rfl), (TWp 42 rfl rfl)⟩
abbrev mX8_asks : MK := (yX8_asks, cX8_asks, 3, some .int)
theorem ok_X8_asks : mOK mX8_asks 2 := ⟨by decide +kernel, ⟨by decide +kernel, by decide +kernel, by decide +kernel⟩, (TWt1 10 rfl rfl), (TWt5 204 rfl rfl), by decide⟩
theorem vi_X8_asks : Cond.instanceMethod mX8_asks.1 ∈ TW ∧ Cond.selects mX8_asks.1.cls mX8_asks.1 mX8_asks.1 ∈ TW := ⟨(TWt5 202 rfl rfl), (TWt5 203 rfl rfl)⟩
abbrev mX8_count : MK := (yX8_count, cX8_count, 2, some .int)
theorem ok_X8_count : mOK mX8_count 1 := ⟨by decide +kernel, ⟨by decide +kernel, by decide +kernel, by decide +kernel⟩, (TWt1 10 rfl rfl), (TWt5 208 rfl rfl), by decide⟩
theorem vi_X8_count : Cond.instanceMethod mX8_count.1 ∈ TW ∧ Cond.selects mX8_count.1.cls mX8_count.1 mX8_count.1 ∈ TW := ⟨(TWt5 206 rfl rfl), (TWt5 207 rfl rfl)⟩
abbrev mX8_come : MK := (yX8_come, cX8_come, 5, none)
theorem ok_X8_come : mOK mX8_come 4 := ⟨by decide +kernel, ⟨by decide +kernel, by decide +kernel, by decide +kernel⟩, (TWt1 10 rfl rfl), (TWt5 229 rfl rfl), by decide⟩
theorem vi_X8_come : Cond.instanceMethod mX8_come.1 ∈ TW ∧ Cond.selects mX8_come.1.cls mX8_come.1 mX8_come.1 ∈ TW := ⟨(TWt5 228 rfl rfl), (TWp 63 rfl rfl)⟩
abbrev mX8_leave : MK := (yX8_leave, cX8_leave, 5, none)
theorem ok_X8_leave : mOK mX8_leave 2 := ⟨by decide +kernel, ⟨by decide +kernel, by decide +kernel, by decide +kernel⟩, (TWt1 10 rfl rfl), (TWt5 225 rfl rfl), by decide⟩
theorem vi_X8_leave : Cond.instanceMethod mX8_leave.1 ∈ TW ∧ Cond.selects mX8_leave.1.cls mX8_leave.1 mX8_leave.1 ∈ TW := ⟨(TWt5 224 rfl rfl), (TWp 62 rfl rfl)⟩
abbrev mX8_goFrom : MK := (yX8_goFrom, cX8_goFrom, 6, none)
theorem ok_X8_goFrom : mOK mX8_goFrom 2 := ⟨by decide +kernel, ⟨by decide +kernel, by decide +kernel, by decide +kernel⟩, (TWt1 10 rfl rfl), (TWt5 220 rfl rfl), by decide⟩
theorem vi_X8_goFrom : Cond.instanceMethod mX8_goFrom.1 ∈ TW ∧ Cond.selects mX8_goFrom.1.cls mX8_goFrom.1 mX8_goFrom.1 ∈ TW := ⟨(TWt5 219 rfl rfl), (TWp 61 rfl rfl)⟩
abbrev mX8_everyOne : MK := (yX8_everyOne, cX8_everyOne, 1, some .int)
theorem ok_X8_everyOne : mOK mX8_everyOne 0 := ⟨by decide +kernel, ⟨by decide +kernel, by decide +kernel, by decide +kernel⟩, (TWt1 10 rfl rfl), (TWt5 216 rfl rfl), by decide⟩
theorem vi_X8_everyOne : Cond.instanceMethod mX8_everyOne.1 ∈ TW ∧ Cond.selects mX8_everyOne.1.cls mX8_everyOne.1 mX8_everyOne.1 ∈ TW := ⟨(TWt5 215 rfl rfl), (TWp 60 rfl rfl)⟩
abbrev mX8_soonTo : MK := (yX8_soonTo, cX8_soonTo, 4, some .int)
theorem ok_X8_soonTo : mOK mX8_soonTo 3 := ⟨by decide +kernel, ⟨by decide +kernel, by decide +kernel, by decide +kernel⟩, (TWt1 10 rfl rfl), (TWt6 9 rfl rfl), by decide⟩
theorem vi_X8_soonTo : Cond.instanceMethod mX8_soonTo.1 ∈ TW ∧ Cond.selects mX8_soonTo.1.cls mX8_soonTo.1 mX8_soonTo.1 ∈ TW := ⟨(TWt6 8 rfl rfl), (TWp 66 rfl rfl)⟩
abbrev mX8_wayTo : MK := (yX8_wayTo, cX8_wayTo, 4, none)
theorem ok_X8_wayTo : mOK mX8_wayTo 1 := ⟨by decide +kernel, ⟨by decide +kernel, by decide +kernel, by decide +kernel⟩, (TWt1 10 rfl rfl), (TWt5 233 rfl rfl), by decide⟩
theorem vi_X8_wayTo : Cond.instanceMethod mX8_wayTo.1 ∈ TW ∧ Cond.selects mX8_wayTo.1.cls mX8_wayTo.1 mX8_wayTo.1 ∈ TW := ⟨(TWt5 232 rfl rfl), (TWp 64 rfl rfl)⟩
abbrev mX8_waySet : MK := (yX8_waySet, cX8_waySet, 3, some .int)
theorem ok_X8_waySet : mOK mX8_waySet 0 := ⟨by decide +kernel, ⟨by decide +kernel, by decide +kernel, by decide +kernel⟩, (TWt1 10 rfl rfl), (TWt5 237 rfl rfl), by decide⟩
theorem vi_X8_waySet : Cond.instanceMethod mX8_waySet.1 ∈ TW ∧ Cond.selects mX8_waySet.1.cls mX8_waySet.1 mX8_waySet.1 ∈ TW := ⟨(TWt5 236 rfl rfl), (TWp 65 rfl rfl)⟩
abbrev mX8_soonest : MK := (yX8_soonest, cX8_soonest, 6, some .int)
theorem ok_X8_soonest : mOK mX8_soonest 3 := ⟨by decide +kernel, ⟨by decide +kernel, by decide +kernel, by decide +kernel⟩, (TWt1 10 rfl rfl), (TWt5 212 rfl rfl), by decide⟩
theorem vi_X8_soonest : Cond.instanceMethod mX8_soonest.1 ∈ TW ∧ Cond.selects mX8_soonest.1.cls mX8_soonest.1 mX8_soonest.1 ∈ TW := ⟨(TWt5 210 rfl rfl), (TWt5 211 rfl rfl)⟩
abbrev mX8_piece : MK := (yX8_piece, cX8_piece, 4, some .int)
theorem ok_X8_piece : mOK mX8_piece 3 := ⟨by decide +kernel, ⟨by decide +kernel, by decide +kernel, by decide +kernel⟩, (TWt1 10 rfl rfl), (TWt6 1 rfl rfl), by decide⟩
theorem vi_X8_piece : Cond.instanceMethod mX8_piece.1 ∈ TW ∧ Cond.selects mX8_piece.1.cls mX8_piece.1 mX8_piece.1 ∈ TW := ⟨(TWt5 239 rfl rfl), (TWt6 0 rfl rfl)⟩
abbrev mX8_both : MK := (yX8_both, cX8_both, 11, some .int)
theorem ok_X8_both : mOK mX8_both 3 := ⟨by decide +kernel, ⟨by decide +kernel, by decide +kernel, by decide +kernel⟩, (TWt1 10 rfl rfl), (TWt6 5 rfl rfl), by decide⟩
theorem vi_X8_both : Cond.instanceMethod mX8_both.1 ∈ TW ∧ Cond.selects mX8_both.1.cls mX8_both.1 mX8_both.1 ∈ TW := ⟨(TWt6 3 rfl rfl), (TWt6 4 rfl rfl)⟩
abbrev mX8_ridden : MK := (yX8_ridden, cX8_ridden, 4, some .int)
theorem ok_X8_ridden : mOK mX8_ridden 1 := ⟨by decide +kernel, ⟨by decide +kernel, by decide +kernel, by decide +kernel⟩, (TWt1 10 rfl rfl), (TWt6 17 rfl rfl), by decide⟩
theorem vi_X8_ridden : Cond.instanceMethod mX8_ridden.1 ∈ TW ∧ Cond.selects mX8_ridden.1.cls mX8_ridden.1 mX8_ridden.1 ∈ TW := ⟨(TWt6 16 rfl rfl), (TWp 67 rfl rfl)⟩
abbrev mX8_all : MK := (yX8_all, cX8_all, 1, some .int)
theorem ok_X8_all : mOK mX8_all 0 := ⟨by decide +kernel, ⟨by decide +kernel, by decide +kernel, by decide +kernel⟩, (TWt1 10 rfl rfl), (TWt6 13 rfl rfl), by decide⟩
theorem vi_X8_all : Cond.instanceMethod mX8_all.1 ∈ TW ∧ Cond.selects mX8_all.1.cls mX8_all.1 mX8_all.1 ∈ TW := ⟨(TWt6 11 rfl rfl), (TWt6 12 rfl rfl)⟩
abbrev mX8_worth : MK := (yX8_worth, cX8_worth, 2, some .int)
theorem ok_X8_worth : mOK mX8_worth 1 := ⟨by decide +kernel, ⟨by decide +kernel, by decide +kernel, by decide +kernel⟩, (TWt1 10 rfl rfl), (TWt6 21 rfl rfl), by decide⟩
theorem vi_X8_worth : Cond.instanceMethod mX8_worth.1 ∈ TW ∧ Cond.selects mX8_worth.1.cls mX8_worth.1 mX8_worth.1 ∈ TW := ⟨(TWt6 19 rfl rfl), (TWt6 20 rfl rfl)⟩
abbrev mX8_teach : MK := (yX8_teach, cX8_teach, 8, some .int)
theorem ok_X8_teach : mOK mX8_teach 1 := ⟨by decide +kernel, ⟨by decide +kernel, by decide +kernel, by decide +kernel⟩, (TWt1 10 rfl rfl), (TWt6 26 rfl rfl), by decide⟩
theorem vi_X8_teach : Cond.instanceMethod mX8_teach.1 ∈ TW ∧ Cond.selects mX8_teach.1.cls mX8_teach.1 mX8_teach.1 ∈ TW := ⟨(TWt6 24 rfl rfl), (TWt6 25 rfl rfl)⟩
abbrev mX8_move : MK := (yX8_move, cX8_move, 8, some .int)
theorem ok_X8_move : mOK mX8_move 2 := ⟨by decide +kernel, ⟨by decide +kernel, by decide +kernel, by decide +kernel⟩, (TWt1 10 rfl rfl), (TWt6 30 rfl rfl), by decide⟩
theorem vi_X8_move : Cond.instanceMethod mX8_move.1 ∈ TW ∧ Cond.selects mX8_move.1.cls mX8_move.1 mX8_move.1 ∈ TW := ⟨(TWt6 28 rfl rfl), (TWt6 29 rfl rfl)⟩
abbrev mX8_cut : MK := (yX8_cut, cX8_cut, 7, some .int)
theorem ok_X8_cut : mOK mX8_cut 3 := ⟨by decide +kernel, ⟨by decide +kernel, by decide +kernel, by decide +kernel⟩, (TWt1 10 rfl rfl), (TWt6 34 rfl rfl), by decide⟩
theorem vi_X8_cut : Cond.instanceMethod mX8_cut.1 ∈ TW ∧ Cond.selects mX8_cut.1.cls mX8_cut.1 mX8_cut.1 ∈ TW := ⟨(TWt6 32 rfl rfl), (TWt6 33 rfl rfl)⟩
abbrev mX8_lost : MK := (yX8_lost, cX8_lost, 11, some .long)
theorem ok_X8_lost : mOK mX8_lost 3 := ⟨by decide +kernel, ⟨by decide +kernel, by decide +kernel, by decide +kernel⟩, (TWt1 10 rfl rfl), (TWt6 39 rfl rfl), by decide⟩
theorem vi_X8_lost : Cond.instanceMethod mX8_lost.1 ∈ TW ∧ Cond.selects mX8_lost.1.cls mX8_lost.1 mX8_lost.1 ∈ TW := ⟨(TWt6 37 rfl rfl), (TWt6 38 rfl rfl)⟩
abbrev mX8_needed : MK := (yX8_needed, cX8_needed, 8, some .int)
theorem ok_X8_needed : mOK mX8_needed 3 := ⟨by decide +kernel, ⟨by decide +kernel, by decide +kernel, by decide +kernel⟩, (TWt1 10 rfl rfl), (TWt6 46 rfl rfl), by decide⟩
theorem vi_X8_needed : Cond.instanceMethod mX8_needed.1 ∈ TW ∧ Cond.selects mX8_needed.1.cls mX8_needed.1 mX8_needed.1 ∈ TW := ⟨(TWt6 44 rfl rfl), (TWt6 45 rfl rfl)⟩
abbrev mX8_again : MK := (yX8_again, cX8_again, 5, some .int)
theorem ok_X8_again : mOK mX8_again 2 := ⟨by decide +kernel, ⟨by decide +kernel, by decide +kernel, by decide +kernel⟩, (TWt1 10 rfl rfl), (TWt6 50 rfl rfl), by decide⟩
theorem vi_X8_again : Cond.instanceMethod mX8_again.1 ∈ TW ∧ Cond.selects mX8_again.1.cls mX8_again.1 mX8_again.1 ∈ TW := ⟨(TWt6 48 rfl rfl), (TWt6 49 rfl rfl)⟩
abbrev mX8_doctor : MK := (yX8_doctor, cX8_doctor, 7, some .int)
theorem ok_X8_doctor : mOK mX8_doctor 1 := ⟨by decide +kernel, ⟨by decide +kernel, by decide +kernel, by decide +kernel⟩, (TWt1 10 rfl rfl), (TWt6 54 rfl rfl), by decide⟩
theorem vi_X8_doctor : Cond.instanceMethod mX8_doctor.1 ∈ TW ∧ Cond.selects mX8_doctor.1.cls mX8_doctor.1 mX8_doctor.1 ∈ TW := ⟨(TWt6 52 rfl rfl), (TWt6 53 rfl rfl)⟩
abbrev mX8_judge : MK := (yX8_judge, cX8_judge, 13, some .int)
theorem ok_X8_judge : mOK mX8_judge 3 := ⟨by decide +kernel, ⟨by decide +kernel, by decide +kernel, by decide +kernel⟩, (TWt1 10 rfl rfl), (TWt6 58 rfl rfl), by decide⟩
theorem vi_X8_judge : Cond.instanceMethod mX8_judge.1 ∈ TW ∧ Cond.selects mX8_judge.1.cls mX8_judge.1 mX8_judge.1 ∈ TW := ⟨(TWt6 56 rfl rfl), (TWt6 57 rfl rfl)⟩
abbrev mX8_wet : MK := (yX8_wet, cX8_wet, 7, some .int)
theorem ok_X8_wet : mOK mX8_wet 2 := ⟨by decide +kernel, ⟨by decide +kernel, by decide +kernel, by decide +kernel⟩, (TWt1 10 rfl rfl), (TWt6 65 rfl rfl), by decide⟩
theorem vi_X8_wet : Cond.instanceMethod mX8_wet.1 ∈ TW ∧ Cond.selects mX8_wet.1.cls mX8_wet.1 mX8_wet.1 ∈ TW := ⟨(TWt6 63 rfl rfl), (TWt6 64 rfl rfl)⟩
abbrev mX8_isTold : MK := (yX8_isTold, cX8_isTold, 5, some .boolean)
theorem ok_X8_isTold : mOK mX8_isTold 2 := ⟨by decide +kernel, ⟨by decide +kernel, by decide +kernel, by decide +kernel⟩, (TWt1 10 rfl rfl), (TWt6 73 rfl rfl), by decide⟩
theorem vi_X8_isTold : Cond.instanceMethod mX8_isTold.1 ∈ TW ∧ Cond.selects mX8_isTold.1.cls mX8_isTold.1 mX8_isTold.1 ∈ TW := ⟨(TWt6 72 rfl rfl), (TWp 68 rfl rfl)⟩
abbrev mX8_whence : MK := (yX8_whence, cX8_whence, 4, some .int)
theorem ok_X8_whence : mOK mX8_whence 1 := ⟨by decide +kernel, ⟨by decide +kernel, by decide +kernel, by decide +kernel⟩, (TWt1 10 rfl rfl), (TWt6 69 rfl rfl), by decide⟩
theorem vi_X8_whence : Cond.instanceMethod mX8_whence.1 ∈ TW ∧ Cond.selects mX8_whence.1.cls mX8_whence.1 mX8_whence.1 ∈ TW := ⟨(TWt6 67 rfl rfl), (TWt6 68 rfl rfl)⟩
abbrev mX8_laws : MK := (yX8_laws, cX8_laws, 6, some .int)
theorem ok_X8_laws : mOK mX8_laws 2 := ⟨by decide +kernel, ⟨by decide +kernel, by decide +kernel, by decide +kernel⟩, (TWt1 10 rfl rfl), (TWt6 77 rfl rfl), by decide⟩
theorem vi_X8_laws : Cond.instanceMethod mX8_laws.1 ∈ TW ∧ Cond.selects mX8_laws.1.cls mX8_laws.1 mX8_laws.1 ∈ TW := ⟨(TWt6 75 rfl rfl), (TWt6 76 rfl rfl)⟩
abbrev mX8_film : MK := (yX8_film, cX8_film, 4, some .int)
theorem ok_X8_film : mOK mX8_film 2 := ⟨by decide +kernel, ⟨by decide +kernel, by decide +kernel, by decide +kernel⟩, (TWt1 10 rfl rfl), (TWt6 81 rfl rfl), by decide⟩
theorem vi_X8_film : Cond.instanceMethod mX8_film.1 ∈ TW ∧ Cond.selects mX8_film.1.cls mX8_film.1 mX8_film.1 ∈ TW := ⟨(TWt6 79 rfl rfl), (TWt6 80 rfl rfl)⟩
abbrev mX8_drawnBy : MK := (yX8_drawnBy, cX8_drawnBy, 6, some .int)
theorem ok_X8_drawnBy : mOK mX8_drawnBy 1 := ⟨by decide +kernel, ⟨by decide +kernel, by decide +kernel, by decide +kernel⟩, (TWt1 10 rfl rfl), (TWt6 94 rfl rfl), by decide⟩
theorem vi_X8_drawnBy : Cond.instanceMethod mX8_drawnBy.1 ∈ TW ∧ Cond.selects mX8_drawnBy.1.cls mX8_drawnBy.1 mX8_drawnBy.1 ∈ TW := ⟨(TWt6 93 rfl rfl), (TWp 69 rfl rfl)⟩
abbrev mX8_drawn : MK := (yX8_drawn, cX8_drawn, 2, some .int)
theorem ok_X8_drawn : mOK mX8_drawn 1 := ⟨by decide +kernel, ⟨by decide +kernel, by decide +kernel, by decide +kernel⟩, (TWt1 10 rfl rfl), (TWt6 89 rfl rfl), by decide⟩
theorem vi_X8_drawn : Cond.instanceMethod mX8_drawn.1 ∈ TW ∧ Cond.selects mX8_drawn.1.cls mX8_drawn.1 mX8_drawn.1 ∈ TW := ⟨(TWt6 87 rfl rfl), (TWt6 88 rfl rfl)⟩
abbrev mX8_divisor : MK := (yX8_divisor, cX8_divisor, 10, some .long)
theorem ok_X8_divisor : mOK mX8_divisor 2 := ⟨by decide +kernel, ⟨by decide +kernel, by decide +kernel, by decide +kernel⟩, (TWt1 10 rfl rfl), (TWt6 103 rfl rfl), by decide⟩
theorem sv_X8_divisor : Cond.static mX8_divisor.1 ∈ TW := (TWt6 102 rfl rfl)
abbrev mX8_mean : MK := (yX8_mean, cX8_mean, 10, some .long)
theorem ok_X8_mean : mOK mX8_mean 5 := ⟨by decide +kernel, ⟨by decide +kernel, by decide +kernel, by decide +kernel⟩, (TWt1 10 rfl rfl), (TWt6 100 rfl rfl), by decide⟩
theorem vi_X8_mean : Cond.instanceMethod mX8_mean.1 ∈ TW ∧ Cond.selects mX8_mean.1.cls mX8_mean.1 mX8_mean.1 ∈ TW := ⟨(TWt6 98 rfl rfl), (TWt6 99 rfl rfl)⟩
abbrev mX8_move_ : MK := (yX8_move_, cX8_move_, 3, none)
theorem ok_X8_move_ : mOK mX8_move_ 2 := ⟨by decide +kernel, ⟨by decide +kernel, by decide +kernel, by decide +kernel⟩, (TWt1 10 rfl rfl), (TWt6 110 rfl rfl), by decide⟩
theorem sv_X8_move_ : Cond.static mX8_move_.1 ∈ TW := (TWt6 109 rfl rfl)
abbrev mX8_image : MK := (yX8_image, cX8_image, 1, some .int)
theorem ok_X8_image : mOK mX8_image 0 := ⟨by decide +kernel, ⟨by decide +kernel, by decide +kernel, by decide +kernel⟩, (TWt1 10 rfl rfl), (TWt6 107 rfl rfl), by decide⟩
theorem vi_X8_image : Cond.instanceMethod mX8_image.1 ∈ TW ∧ Cond.selects mX8_image.1.cls mX8_image.1 mX8_image.1 ∈ TW := ⟨(TWt6 105 rfl rfl), (TWt6 106 rfl rfl)⟩
abbrev mX8_back : MK := (yX8_back, cX8_back, 1, some .int)
theorem ok_X8_back : mOK mX8_back 0 := ⟨by decide +kernel, ⟨by decide +kernel, by decide +kernel, by decide +kernel⟩, (TWt1 10 rfl rfl), (TWt6 114 rfl rfl), by decide⟩
theorem vi_X8_back : Cond.instanceMethod mX8_back.1 ∈ TW ∧ Cond.selects mX8_back.1.cls mX8_back.1 mX8_back.1 ∈ TW := ⟨(TWt6 112 rfl rfl), (TWt6 113 rfl rfl)⟩
abbrev mX8_isSheet : MK := (yX8_isSheet, cX8_isSheet, 1, some .boolean)
theorem ok_X8_isSheet : mOK mX8_isSheet 1 := ⟨by decide +kernel, ⟨by decide +kernel, by decide +kernel, by decide +kernel⟩, (TWt1 10 rfl rfl), (TWt6 61 rfl rfl), by decide⟩
theorem sv_X8_isSheet : Cond.static mX8_isSheet.1 ∈ TW := (TWt6 60 rfl rfl)
abbrev mX8_sheet : MK := (yX8_sheet, cX8_sheet, 5, some .int)
theorem ok_X8_sheet : mOK mX8_sheet 3 := ⟨by decide +kernel, ⟨by decide +kernel, by decide +kernel, by decide +kernel⟩, (TWt1 10 rfl rfl), (TWt6 85 rfl rfl), by decide⟩
theorem vi_X8_sheet : Cond.instanceMethod mX8_sheet.1 ∈ TW ∧ Cond.selects mX8_sheet.1.cls mX8_sheet.1 mX8_sheet.1 ∈ TW := ⟨(TWt6 83 rfl rfl), (TWt6 84 rfl rfl)⟩
abbrev mX8_cell : MK := (yX8_cell, cX8_cell, 4, some .int)
theorem ok_X8_cell : mOK mX8_cell 3 := ⟨by decide +kernel, ⟨by decide +kernel, by decide +kernel, by decide +kernel⟩, (TWt1 10 rfl rfl), (TWt6 119 rfl rfl), by decide⟩
theorem vi_X8_cell : Cond.instanceMethod mX8_cell.1 ∈ TW ∧ Cond.selects mX8_cell.1.cls mX8_cell.1 mX8_cell.1 ∈ TW := ⟨(TWt6 117 rfl rfl), (TWt6 118 rfl rfl)⟩
abbrev mX8_copy : MK := (yX8_copy, cX8_copy, 7, some .int)
theorem ok_X8_copy : mOK mX8_copy 5 := ⟨by decide +kernel, ⟨by decide +kernel, by decide +kernel, by decide +kernel⟩, (TWt1 10 rfl rfl), (TWt6 123 rfl rfl), by decide⟩
theorem vi_X8_copy : Cond.instanceMethod mX8_copy.1 ∈ TW ∧ Cond.selects mX8_copy.1.cls mX8_copy.1 mX8_copy.1 ∈ TW := ⟨(TWt6 121 rfl rfl), (TWt6 122 rfl rfl)⟩
abbrev mX8_horsesBy : MK := (yX8_horsesBy, cX8_horsesBy, 10, some .int)
theorem ok_X8_horsesBy : mOK mX8_horsesBy 4 := ⟨by decide +kernel, ⟨by decide +kernel, by decide +kernel, by decide +kernel⟩, (TWt1 10 rfl rfl), (TWt6 127 rfl rfl), by decide⟩
theorem vi_X8_horsesBy : Cond.instanceMethod mX8_horsesBy.1 ∈ TW ∧ Cond.selects mX8_horsesBy.1.cls mX8_horsesBy.1 mX8_horsesBy.1 ∈ TW := ⟨(TWt6 125 rfl rfl), (TWt6 126 rfl rfl)⟩
abbrev mX8_taken : MK := (yX8_taken, cX8_taken, 6, some .int)
theorem ok_X8_taken : mOK mX8_taken 2 := ⟨by decide +kernel, ⟨by decide +kernel, by decide +kernel, by decide +kernel⟩, (TWt1 10 rfl rfl), (TWt6 134 rfl rfl), by decide⟩
theorem vi_X8_taken : Cond.instanceMethod mX8_taken.1 ∈ TW ∧ Cond.selects mX8_taken.1.cls mX8_taken.1 mX8_taken.1 ∈ TW := ⟨(TWt6 132 rfl rfl), (TWt6 133 rfl rfl)⟩
abbrev mL_law : MK := (yL_law, cL_law, 4, some .boolean)
theorem ml_7_1 : Cond.methodLink RX7 1 objectInit ∈ TW ∧ Cond.instanceMethod objectInit ∈ TW ∧ Cond.code objectInit ⟨#[0xb1]⟩ 1 none ∈ TW := ⟨(TWt1 22 rfl rfl), (TWt1 23 rfl rfl), (TWt1 24 rfl rfl)⟩
theorem ml_7_73 : Cond.methodLink RX7 73 Lib.Math.abs.name ∈ TW ∧ Cond.static Lib.Math.abs.name ∈ TW ∧ Cond.initialized "java/lang/Math" ∈ TW ∧ Cond.code Lib.Math.abs.name Lib.Math.abs.code 1 (some .int) ∈ TW := ⟨(TWt1 143 rfl rfl), (TWt1 144 rfl rfl), (TWt1 6 rfl rfl), (TWt1 145 rfl rfl)⟩
theorem ml_7_80 : Cond.methodLink RX7 80 mX6_init.1 ∈ TW := (TWt1 189 rfl rfl)
theorem ml_7_82 : Cond.methodLink RX7 82 mX7_isWay.1 ∈ TW := (TWt2 28 rfl rfl)
theorem ml_7_86 : Cond.methodLink RX7 86 mX7_isWithin.1 ∈ TW := (TWt2 34 rfl rfl)
theorem ml_7_90 : Cond.methodLink RX7 90 mX7_setWalk.1 ∈ TW := (TWt2 37 rfl rfl)
theorem ml_7_94 : Cond.methodLink RX7 94 mX7_isPlace.1 ∈ TW := (TWt2 31 rfl rfl)
theorem ml_7_98 : Cond.methodLink RX7 98 mX7_isRide.1 ∈ TW := (TWt2 90 rfl rfl)
theorem ml_7_110 : Cond.methodLink RX7 110 mX7_areBytes.1 ∈ TW := (TWt2 102 rfl rfl)
theorem ml_7_114 : Cond.methodLink RX7 114 mX5_add.1 ∈ TW := (TWt2 108 rfl rfl)
theorem ml_7_118 : Cond.methodLink RX7 118 mX2_read.1 ∈ TW := (TWt2 116 rfl rfl)
theorem ml_7_122 : Cond.methodLink RX7 122 mX5_clear.1 ∈ TW := (TWt3 61 rfl rfl)
theorem ml_7_125 : Cond.methodLink RX7 125 mX7_setLaw.1 ∈ TW := (TWt3 70 rfl rfl)
theorem ml_7_128 : Cond.methodLink RX7 128 mX7_isHorse.1 ∈ TW := (TWt3 78 rfl rfl)
theorem ml_7_140 : Cond.methodLink RX7 140 mX0_become.1 ∈ TW := (TWt3 86 rfl rfl)
theorem ml_7_144 : Cond.methodLink RX7 144 mX7_hearLaw.1 ∈ TW := (TWt2 45 rfl rfl)
theorem ml_7_166 : Cond.methodLink RX7 166 mX0_out.1 ∈ TW := (TWt3 98 rfl rfl)
theorem ml_7_170 : Cond.methodLink RX7 170 mX0_home.1 ∈ TW := (TWt3 103 rfl rfl)
theorem ml_7_173 : Cond.methodLink RX7 173 mX0_goesFrom.1 ∈ TW := (TWt3 111 rfl rfl)
theorem ml_7_176 : Cond.methodLink RX7 176 mX7_allHorses.1 ∈ TW := (TWt3 127 rfl rfl)
theorem ml_7_179 : Cond.methodLink RX7 179 mX7_soonWith.1 ∈ TW := (TWt3 131 rfl rfl)
theorem ml_7_183 : Cond.methodLink RX7 183 mX3_traceTo.1 ∈ TW := (TWt3 169 rfl rfl)
theorem ml_7_195 : Cond.methodLink RX7 195 mX3_firstHorse.1 ∈ TW := (TWt3 173 rfl rfl)
theorem ml_7_198 : Cond.methodLink RX7 198 mX3_pieceAt.1 ∈ TW := (TWt3 185 rfl rfl)
theorem ml_7_202 : Cond.methodLink RX7 202 Lib.Math.max.name ∈ TW ∧ Cond.static Lib.Math.max.name ∈ TW ∧ Cond.initialized "java/lang/Math" ∈ TW ∧ Cond.code Lib.Math.max.name Lib.Math.max.code 2 (some .int) ∈ TW := ⟨(TWt2 75 rfl rfl), (TWt2 76 rfl rfl), (TWt1 6 rfl rfl), (TWt2 77 rfl rfl)⟩
theorem ml_7_206 : Cond.methodLink RX7 206 mX7_ridden.1 ∈ TW := (TWt3 195 rfl rfl)
theorem ml_7_209 : Cond.methodLink RX7 209 mX7_setFrom.1 ∈ TW := (TWt3 211 rfl rfl)
theorem ml_7_216 : Cond.methodLink RX7 216 mX7_lives.1 ∈ TW := (TWt3 225 rfl rfl)
theorem ml_7_220 : Cond.methodLink RX7 220 mX7_isIn.1 ∈ TW := (TWt3 230 rfl rfl)
theorem ml_7_223 : Cond.methodLink RX7 223 mX7_searchAll.1 ∈ TW := (TWt4 4 rfl rfl)
theorem ml_7_226 : Cond.methodLink RX7 226 mX3_greatestSoon.1 ∈ TW := (TWt4 8 rfl rfl)
theorem ml_7_229 : Cond.methodLink RX7 229 mX7_isSheet.1 ∈ TW := (TWt4 17 rfl rfl)
theorem ml_7_232 : Cond.methodLink RX7 232 mX4_isMissing.1 ∈ TW := (TWt4 20 rfl rfl)
theorem ml_7_237 : Cond.methodLink RX7 237 mX4_numberAt.1 ∈ TW := (TWt4 24 rfl rfl)
theorem ml_7_240 : Cond.methodLink RX7 240 mX7_canBe.1 ∈ TW := (TWt4 32 rfl rfl)
theorem ml_7_243 : Cond.methodLink RX7 243 mX0_arrives.1 ∈ TW := (TWt4 36 rfl rfl)
theorem ml_7_246 : Cond.methodLink RX7 246 mX7_refusalOfSoons.1 ∈ TW := (TWt4 45 rfl rfl)
theorem ml_7_249 : Cond.methodLink RX7 249 mX7_isSoFrom.1 ∈ TW := (TWt4 49 rfl rfl)
theorem ml_7_253 : Cond.methodLink RX7 253 mX4_become.1 ∈ TW := (TWt4 61 rfl rfl)
theorem ml_7_256 : Cond.methodLink RX7 256 mX3_soonAt.1 ∈ TW := (TWt3 165 rfl rfl)
theorem ml_7_259 : Cond.methodLink RX7 259 mX4_put.1 ∈ TW := (TWt4 67 rfl rfl)
theorem ml_7_263 : Cond.methodLink RX7 263 mX7_livingBy.1 ∈ TW := (TWt4 76 rfl rfl)
theorem ml_7_266 : Cond.methodLink RX7 266 mX7_greatestCommon.1 ∈ TW := (TWt4 86 rfl rfl)
theorem ml_7_277 : Cond.methodLink RX7 277 mX7_copyWalks.1 ∈ TW := (TWt4 93 rfl rfl)
theorem ml_7_283 : Cond.methodLink RX7 283 mX4_holds.1 ∈ TW := (TWt4 111 rfl rfl)
theorem ml_7_292 : Cond.methodLink RX7 292 arraycopyName ∈ TW ∧ Cond.native arraycopyName ∈ TW ∧ Cond.static arraycopyName ∈ TW ∧ Cond.initialized "java/lang/System" ∈ TW := ⟨(TWt4 96 rfl rfl), (TWt4 98 rfl rfl), (TWt4 97 rfl rfl), (TWt1 16 rfl rfl)⟩
theorem ml_7_298 : Cond.methodLink RX7 298 mX7_horse.1 ∈ TW := (TWt4 120 rfl rfl)
theorem ml_7_302 : Cond.methodLink RX7 302 mX0_isOne.1 ∈ TW := (TWt4 125 rfl rfl)
theorem ml_7_305 : Cond.methodLink RX7 305 mX7_isByte.1 ∈ TW := (TWt2 105 rfl rfl)
theorem ml_7_308 : Cond.methodLink RX7 308 mX7_hearLawAll.1 ∈ TW := (TWt2 41 rfl rfl)
theorem ml_7_311 : Cond.methodLink RX7 311 mX6_says.1 ∈ TW := (TWt2 49 rfl rfl)
theorem ml_7_315 : Cond.methodLink RX7 315 mX7_bounded.1 ∈ TW := (TWt2 69 rfl rfl)
theorem ml_7_318 : Cond.methodLink RX7 318 Lib.Math.min.name ∈ TW ∧ Cond.static Lib.Math.min.name ∈ TW ∧ Cond.initialized "java/lang/Math" ∈ TW ∧ Cond.code Lib.Math.min.name Lib.Math.min.code 2 (some .int) ∈ TW := ⟨(TWt2 72 rfl rfl), (TWt2 73 rfl rfl), (TWt1 6 rfl rfl), (TWt2 74 rfl rfl)⟩
theorem ml_7_321 : Cond.methodLink RX7 321 mX3_setOut.1 ∈ TW := (TWt3 135 rfl rfl)
theorem ml_0_3 : Cond.methodLink RX0 3 objectInit ∈ TW ∧ Cond.instanceMethod objectInit ∈ TW ∧ Cond.code objectInit ⟨#[0xb1]⟩ 1 none ∈ TW := ⟨(TWt1 150 rfl rfl), (TWt1 23 rfl rfl), (TWt1 24 rfl rfl)⟩
theorem ml_0_43 : Cond.methodLink RX0 43 mX0_goesToAndFro.1 ∈ TW := (TWt3 115 rfl rfl)
theorem ml_0_47 : Cond.methodLink RX0 47 Lib.Math.max.name ∈ TW ∧ Cond.static Lib.Math.max.name ∈ TW ∧ Cond.initialized "java/lang/Math" ∈ TW ∧ Cond.code Lib.Math.max.name Lib.Math.max.code 2 (some .int) ∈ TW := ⟨(TWt3 102 rfl rfl), (TWt2 76 rfl rfl), (TWt1 6 rfl rfl), (TWt2 77 rfl rfl)⟩
theorem ml_0_53 : Cond.methodLink RX0 53 mX0_out.1 ∈ TW := (TWt3 156 rfl rfl)
theorem ml_1_3 : Cond.methodLink RX1 3 objectInit ∈ TW ∧ Cond.instanceMethod objectInit ∈ TW ∧ Cond.code objectInit ⟨#[0xb1]⟩ 1 none ∈ TW := ⟨(TWt1 114 rfl rfl), (TWt1 23 rfl rfl), (TWt1 24 rfl rfl)⟩
theorem ml_2_3 : Cond.methodLink RX2 3 objectInit ∈ TW ∧ Cond.instanceMethod objectInit ∈ TW ∧ Cond.code objectInit ⟨#[0xb1]⟩ 1 none ∈ TW := ⟨(TWt1 36 rfl rfl), (TWt1 23 rfl rfl), (TWt1 24 rfl rfl)⟩
theorem ml_2_25 : Cond.methodLink RX2 25 mX5_rewind.1 ∈ TW := (TWt2 120 rfl rfl)
theorem ml_2_28 : Cond.methodLink RX2 28 mX6_clear.1 ∈ TW := (TWt2 124 rfl rfl)
theorem ml_2_33 : Cond.methodLink RX2 33 mX5_next.1 ∈ TW := (TWt2 128 rfl rfl)
theorem ml_2_37 : Cond.methodLink RX2 37 mX2_expect.1 ∈ TW := (TWt3 16 rfl rfl)
theorem ml_2_41 : Cond.methodLink RX2 41 mX2_readOr.1 ∈ TW := (TWt3 24 rfl rfl)
theorem ml_2_45 : Cond.methodLink RX2 45 mX6_endPart.1 ∈ TW := (TWt3 57 rfl rfl)
theorem ml_2_48 : Cond.methodLink RX2 48 mX2_fail.1 ∈ TW := (TWt3 20 rfl rfl)
theorem ml_2_54 : Cond.methodLink RX2 54 mX2_readAnd.1 ∈ TW := (TWt3 28 rfl rfl)
theorem ml_2_57 : Cond.methodLink RX2 57 mX6_add.1 ∈ TW := (TWt3 52 rfl rfl)
theorem ml_2_60 : Cond.methodLink RX2 60 mX2_readNot.1 ∈ TW := (TWt3 32 rfl rfl)
theorem ml_2_63 : Cond.methodLink RX2 63 mX2_readComparison.1 ∈ TW := (TWt3 36 rfl rfl)
theorem ml_2_66 : Cond.methodLink RX2 66 mX2_readSum.1 ∈ TW := (TWt3 40 rfl rfl)
theorem ml_2_69 : Cond.methodLink RX2 69 mX2_readTerm.1 ∈ TW := (TWt3 44 rfl rfl)
theorem ml_2_72 : Cond.methodLink RX2 72 mX2_readOne.1 ∈ TW := (TWt3 48 rfl rfl)
theorem ml_3_3 : Cond.methodLink RX3 3 objectInit ∈ TW ∧ Cond.instanceMethod objectInit ∈ TW ∧ Cond.code objectInit ⟨#[0xb1]⟩ 1 none ∈ TW := ⟨(TWt1 79 rfl rfl), (TWt1 23 rfl rfl), (TWt1 24 rfl rfl)⟩
theorem ml_3_39 : Cond.methodLink RX3 39 mX3_soonestNotLeft.1 ∈ TW := (TWt3 140 rfl rfl)
theorem ml_3_43 : Cond.methodLink RX3 43 mX3_leaveByHorse.1 ∈ TW := (TWt3 144 rfl rfl)
theorem ml_3_47 : Cond.methodLink RX3 47 mX3_leaveOnFoot.1 ∈ TW := (TWt3 161 rfl rfl)
theorem ml_3_55 : Cond.methodLink RX3 55 mX0_goesFrom.1 ∈ TW := (TWt3 151 rfl rfl)
theorem ml_3_61 : Cond.methodLink RX3 61 mX0_arrives.1 ∈ TW := (TWt3 152 rfl rfl)
theorem ml_3_64 : Cond.methodLink RX3 64 mX3_arrive.1 ∈ TW := (TWt3 157 rfl rfl)
theorem ml_3_68 : Cond.methodLink RX3 68 Lib.Math.max.name ∈ TW ∧ Cond.static Lib.Math.max.name ∈ TW ∧ Cond.initialized "java/lang/Math" ∈ TW ∧ Cond.code Lib.Math.max.name Lib.Math.max.code 2 (some .int) ∈ TW := ⟨(TWt4 12 rfl rfl), (TWt2 76 rfl rfl), (TWt1 6 rfl rfl), (TWt2 77 rfl rfl)⟩
theorem ml_3_74 : Cond.methodLink RX3 74 mX3_pieceAt.1 ∈ TW := (TWt3 177 rfl rfl)
theorem ml_4_3 : Cond.methodLink RX4 3 objectInit ∈ TW ∧ Cond.instanceMethod objectInit ∈ TW ∧ Cond.code objectInit ⟨#[0xb1]⟩ 1 none ∈ TW := ⟨(TWt1 210 rfl rfl), (TWt1 23 rfl rfl), (TWt1 24 rfl rfl)⟩
theorem ml_4_22 : Cond.methodLink RX4 22 Lib.Math.min.name ∈ TW ∧ Cond.static Lib.Math.min.name ∈ TW ∧ Cond.initialized "java/lang/Math" ∈ TW ∧ Cond.code Lib.Math.min.name Lib.Math.min.code 2 (some .int) ∈ TW := ⟨(TWt4 65 rfl rfl), (TWt2 73 rfl rfl), (TWt1 6 rfl rfl), (TWt2 74 rfl rfl)⟩
theorem ml_4_28 : Cond.methodLink RX4 28 Lib.Math.max.name ∈ TW ∧ Cond.static Lib.Math.max.name ∈ TW ∧ Cond.initialized "java/lang/Math" ∈ TW ∧ Cond.code Lib.Math.max.name Lib.Math.max.code 2 (some .int) ∈ TW := ⟨(TWt4 66 rfl rfl), (TWt2 76 rfl rfl), (TWt1 6 rfl rfl), (TWt2 77 rfl rfl)⟩
theorem ml_4_31 : Cond.methodLink RX4 31 mX4_holds.1 ∈ TW := (TWt4 28 rfl rfl)
theorem ml_5_3 : Cond.methodLink RX5 3 objectInit ∈ TW ∧ Cond.instanceMethod objectInit ∈ TW ∧ Cond.code objectInit ⟨#[0xb1]⟩ 1 none ∈ TW := ⟨(TWt1 42 rfl rfl), (TWt1 23 rfl rfl), (TWt1 24 rfl rfl)⟩
theorem ml_5_28 : Cond.methodLink RX5 28 mX5_isLetter.1 ∈ TW := (TWt2 132 rfl rfl)
theorem ml_5_32 : Cond.methodLink RX5 32 mX5_nextWord.1 ∈ TW := (TWt2 136 rfl rfl)
theorem ml_5_36 : Cond.methodLink RX5 36 mX5_isDigit.1 ∈ TW := (TWt2 185 rfl rfl)
theorem ml_5_39 : Cond.methodLink RX5 39 mX5_nextNumber.1 ∈ TW := (TWt2 189 rfl rfl)
theorem ml_5_50 : Cond.methodLink RX5 50 mX5_isWord.1 ∈ TW := (TWt2 140 rfl rfl)
theorem ml_6_3 : Cond.methodLink RX6 3 objectInit ∈ TW ∧ Cond.instanceMethod objectInit ∈ TW ∧ Cond.code objectInit ⟨#[0xb1]⟩ 1 none ∈ TW := ⟨(TWt1 192 rfl rfl), (TWt1 23 rfl rfl), (TWt1 24 rfl rfl)⟩
theorem ml_6_25 : Cond.methodLink RX6 25 mX6_take.1 ∈ TW := (TWt2 53 rfl rfl)
theorem ml_6_29 : Cond.methodLink RX6 29 mX6_push.1 ∈ TW := (TWt2 57 rfl rfl)
theorem ml_6_37 : Cond.methodLink RX6 37 mX0_named.1 ∈ TW := (TWt2 62 rfl rfl)
theorem ml_6_42 : Cond.methodLink RX6 42 mX6_joined.1 ∈ TW := (TWt2 66 rfl rfl)
theorem ml_L_9 : Cond.methodLink RL 9 mX7_init.1 ∈ TW := (TWt1 19 rfl rfl)
theorem ml_L_12 : Cond.methodLink RL 12 mX8_init.1 ∈ TW := (TWt5 47 rfl rfl)
theorem ml_L_13 : Cond.methodLink RL 13 mX7_path.1 ∈ TW := (TWt2 24 rfl rfl)
theorem ml_L_17 : Cond.methodLink RL 17 mX8_path.1 ∈ TW := (TWt4 131 rfl rfl)
theorem ml_L_18 : Cond.methodLink RL 18 mX7_pathTold.1 ∈ TW := (TWt2 78 rfl rfl)
theorem ml_L_22 : Cond.methodLink RL 22 mX8_pathTold.1 ∈ TW := (TWt4 146 rfl rfl)
theorem ml_L_23 : Cond.methodLink RL 23 mX7_ride.1 ∈ TW := (TWt2 82 rfl rfl)
theorem ml_L_26 : Cond.methodLink RL 26 mX8_ride.1 ∈ TW := (TWt4 150 rfl rfl)
theorem ml_L_27 : Cond.methodLink RL 27 mX7_rideTold.1 ∈ TW := (TWt2 86 rfl rfl)
theorem ml_L_30 : Cond.methodLink RL 30 mX8_rideTold.1 ∈ TW := (TWt4 154 rfl rfl)
theorem ml_L_31 : Cond.methodLink RL 31 mX7_count.1 ∈ TW := (TWt2 94 rfl rfl)
theorem ml_L_35 : Cond.methodLink RL 35 mX8_count.1 ∈ TW := (TWt5 205 rfl rfl)
theorem ml_L_36 : Cond.methodLink RL 36 mX7_feed.1 ∈ TW := (TWt2 98 rfl rfl)
theorem ml_L_40 : Cond.methodLink RL 40 mX8_feed.1 ∈ TW := (TWt4 211 rfl rfl)
theorem ml_L_41 : Cond.methodLink RL 41 mX7_text.1 ∈ TW := (TWt2 112 rfl rfl)
theorem ml_L_45 : Cond.methodLink RL 45 mX8_text.1 ∈ TW := (TWt4 215 rfl rfl)
theorem ml_L_46 : Cond.methodLink RL 46 mX7_force.1 ∈ TW := (TWt3 66 rfl rfl)
theorem ml_L_49 : Cond.methodLink RL 49 mX8_force.1 ∈ TW := (TWt5 42 rfl rfl)
theorem ml_L_50 : Cond.methodLink RL 50 mX7_asks.1 ∈ TW := (TWt3 74 rfl rfl)
theorem ml_L_53 : Cond.methodLink RL 53 mX8_asks.1 ∈ TW := (TWt5 201 rfl rfl)
theorem ml_L_54 : Cond.methodLink RL 54 mX7_horse.1 ∈ TW := (TWt3 82 rfl rfl)
theorem ml_L_58 : Cond.methodLink RL 58 mX8_horse.1 ∈ TW := (TWt4 162 rfl rfl)
theorem ml_L_59 : Cond.methodLink RL 59 mX7_stand.1 ∈ TW := (TWt3 90 rfl rfl)
theorem ml_L_62 : Cond.methodLink RL 62 mX8_stand.1 ∈ TW := (TWt4 170 rfl rfl)
theorem ml_L_63 : Cond.methodLink RL 63 mX7_told.1 ∈ TW := (TWt3 94 rfl rfl)
theorem ml_L_66 : Cond.methodLink RL 66 mX8_told.1 ∈ TW := (TWt4 178 rfl rfl)
theorem ml_L_67 : Cond.methodLink RL 67 mX7_goes.1 ∈ TW := (TWt3 107 rfl rfl)
theorem ml_L_70 : Cond.methodLink RL 70 mX8_goes.1 ∈ TW := (TWt4 199 rfl rfl)
theorem ml_L_71 : Cond.methodLink RL 71 mX7_at.1 ∈ TW := (TWt3 119 rfl rfl)
theorem ml_L_74 : Cond.methodLink RL 74 mX8_at.1 ∈ TW := (TWt4 207 rfl rfl)
theorem ml_L_75 : Cond.methodLink RL 75 mX7_soonest.1 ∈ TW := (TWt3 123 rfl rfl)
theorem ml_L_78 : Cond.methodLink RL 78 mX8_soonest.1 ∈ TW := (TWt5 209 rfl rfl)
theorem ml_L_79 : Cond.methodLink RL 79 mX7_piece.1 ∈ TW := (TWt3 181 rfl rfl)
theorem ml_L_82 : Cond.methodLink RL 82 mX8_piece.1 ∈ TW := (TWt5 238 rfl rfl)
theorem ml_L_83 : Cond.methodLink RL 83 mX7_both.1 ∈ TW := (TWt3 186 rfl rfl)
theorem ml_L_86 : Cond.methodLink RL 86 mX8_both.1 ∈ TW := (TWt6 2 rfl rfl)
theorem ml_L_87 : Cond.methodLink RL 87 mX7_all.1 ∈ TW := (TWt3 191 rfl rfl)
theorem ml_L_90 : Cond.methodLink RL 90 mX8_all.1 ∈ TW := (TWt6 10 rfl rfl)
theorem ml_L_91 : Cond.methodLink RL 91 mX7_worth.1 ∈ TW := (TWt3 199 rfl rfl)
theorem ml_L_94 : Cond.methodLink RL 94 mX8_worth.1 ∈ TW := (TWt6 18 rfl rfl)
theorem ml_L_95 : Cond.methodLink RL 95 mX7_teach.1 ∈ TW := (TWt3 203 rfl rfl)
theorem ml_L_98 : Cond.methodLink RL 98 mX8_teach.1 ∈ TW := (TWt6 23 rfl rfl)
theorem ml_L_99 : Cond.methodLink RL 99 mX7_move.1 ∈ TW := (TWt3 207 rfl rfl)
theorem ml_L_102 : Cond.methodLink RL 102 mX8_move.1 ∈ TW := (TWt6 27 rfl rfl)
theorem ml_L_103 : Cond.methodLink RL 103 mX7_cut.1 ∈ TW := (TWt3 215 rfl rfl)
theorem ml_L_106 : Cond.methodLink RL 106 mX8_cut.1 ∈ TW := (TWt6 31 rfl rfl)
theorem ml_L_107 : Cond.methodLink RL 107 mX7_lost.1 ∈ TW := (TWt3 220 rfl rfl)
theorem ml_L_111 : Cond.methodLink RL 111 mX8_lost.1 ∈ TW := (TWt6 36 rfl rfl)
theorem ml_L_112 : Cond.methodLink RL 112 mX7_needed.1 ∈ TW := (TWt3 232 rfl rfl)
theorem ml_L_115 : Cond.methodLink RL 115 mX8_needed.1 ∈ TW := (TWt6 43 rfl rfl)
theorem ml_L_116 : Cond.methodLink RL 116 mX7_again.1 ∈ TW := (TWt3 236 rfl rfl)
theorem ml_L_119 : Cond.methodLink RL 119 mX8_again.1 ∈ TW := (TWt6 47 rfl rfl)
theorem ml_L_120 : Cond.methodLink RL 120 mX7_doctor.1 ∈ TW := (TWt4 0 rfl rfl)
theorem ml_L_123 : Cond.methodLink RL 123 mX8_doctor.1 ∈ TW := (TWt6 51 rfl rfl)
theorem ml_L_124 : Cond.methodLink RL 124 mX7_judge.1 ∈ TW := (TWt4 13 rfl rfl)
theorem ml_L_127 : Cond.methodLink RL 127 mX8_judge.1 ∈ TW := (TWt6 55 rfl rfl)
theorem ml_L_128 : Cond.methodLink RL 128 mX7_wet.1 ∈ TW := (TWt4 37 rfl rfl)
theorem ml_L_131 : Cond.methodLink RL 131 mX8_wet.1 ∈ TW := (TWt6 62 rfl rfl)
theorem ml_L_132 : Cond.methodLink RL 132 mX7_whence.1 ∈ TW := (TWt4 41 rfl rfl)
theorem ml_L_135 : Cond.methodLink RL 135 mX8_whence.1 ∈ TW := (TWt6 66 rfl rfl)
theorem ml_L_136 : Cond.methodLink RL 136 mX7_laws.1 ∈ TW := (TWt4 53 rfl rfl)
theorem ml_L_139 : Cond.methodLink RL 139 mX8_laws.1 ∈ TW := (TWt6 74 rfl rfl)
theorem ml_L_140 : Cond.methodLink RL 140 mX7_film.1 ∈ TW := (TWt4 57 rfl rfl)
theorem ml_L_143 : Cond.methodLink RL 143 mX8_film.1 ∈ TW := (TWt6 78 rfl rfl)
theorem ml_L_144 : Cond.methodLink RL 144 mX7_drawn.1 ∈ TW := (TWt4 71 rfl rfl)
theorem ml_L_147 : Cond.methodLink RL 147 mX8_drawn.1 ∈ TW := (TWt6 86 rfl rfl)
theorem ml_L_148 : Cond.methodLink RL 148 mX7_mean.1 ∈ TW := (TWt4 82 rfl rfl)
theorem ml_L_152 : Cond.methodLink RL 152 mX8_mean.1 ∈ TW := (TWt6 97 rfl rfl)
theorem ml_L_153 : Cond.methodLink RL 153 mX7_image.1 ∈ TW := (TWt4 89 rfl rfl)
theorem ml_L_156 : Cond.methodLink RL 156 mX8_image.1 ∈ TW := (TWt6 104 rfl rfl)
theorem ml_L_157 : Cond.methodLink RL 157 mX7_back.1 ∈ TW := (TWt4 99 rfl rfl)
theorem ml_L_160 : Cond.methodLink RL 160 mX8_back.1 ∈ TW := (TWt6 111 rfl rfl)
theorem ml_L_161 : Cond.methodLink RL 161 mX7_sheet.1 ∈ TW := (TWt4 103 rfl rfl)
theorem ml_L_164 : Cond.methodLink RL 164 mX8_sheet.1 ∈ TW := (TWt6 115 rfl rfl)
theorem ml_L_165 : Cond.methodLink RL 165 mX7_cell.1 ∈ TW := (TWt4 107 rfl rfl)
theorem ml_L_168 : Cond.methodLink RL 168 mX8_cell.1 ∈ TW := (TWt6 116 rfl rfl)
theorem ml_L_169 : Cond.methodLink RL 169 mX7_copy.1 ∈ TW := (TWt4 112 rfl rfl)
theorem ml_L_173 : Cond.methodLink RL 173 mX8_copy.1 ∈ TW := (TWt6 120 rfl rfl)
theorem ml_L_174 : Cond.methodLink RL 174 mX7_horsesBy.1 ∈ TW := (TWt4 116 rfl rfl)
theorem ml_L_177 : Cond.methodLink RL 177 mX8_horsesBy.1 ∈ TW := (TWt6 124 rfl rfl)
theorem ml_L_178 : Cond.methodLink RL 178 mX7_taken.1 ∈ TW := (TWt4 121 rfl rfl)
theorem ml_L_181 : Cond.methodLink RL 181 mX8_taken.1 ∈ TW := (TWt6 131 rfl rfl)
theorem ml_8_3 : Cond.methodLink RX8 3 mX8_isIn.1 ∈ TW := (TWt4 138 rfl rfl)
theorem ml_8_18 : Cond.methodLink RX8 18 mX8_isPlace.1 ∈ TW := (TWt4 135 rfl rfl)
theorem ml_8_22 : Cond.methodLink RX8 22 mX8_walkIs.1 ∈ TW := (TWt4 141 rfl rfl)
theorem ml_8_32 : Cond.methodLink RX8 32 mX8_isRide.1 ∈ TW := (TWt4 158 rfl rfl)
theorem ml_8_53 : Cond.methodLink RX8 53 mX8_horseIs.1 ∈ TW := (TWt4 166 rfl rfl)
theorem ml_8_57 : Cond.methodLink RX8 57 mX8_isHorse.1 ∈ TW := (TWt4 174 rfl rfl)
theorem ml_8_60 : Cond.methodLink RX8 60 mX8_worthOf.1 ∈ TW := (TWt4 186 rfl rfl)
theorem ml_8_64 : Cond.methodLink RX8 64 Lib.Math.max.name ∈ TW ∧ Cond.static Lib.Math.max.name ∈ TW ∧ Cond.initialized "java/lang/Math" ∈ TW ∧ Cond.code Lib.Math.max.name Lib.Math.max.code 2 (some .int) ∈ TW := ⟨(TWt4 194 rfl rfl), (TWt2 76 rfl rfl), (TWt1 6 rfl rfl), (TWt2 77 rfl rfl)⟩
theorem ml_8_69 : Cond.methodLink RX8 69 mX8_outOf.1 ∈ TW := (TWt4 182 rfl rfl)
theorem ml_8_73 : Cond.methodLink RX8 73 mX8_homeOf.1 ∈ TW := (TWt4 195 rfl rfl)
theorem ml_8_76 : Cond.methodLink RX8 76 mX8_whither.1 ∈ TW := (TWt4 203 rfl rfl)
theorem ml_8_88 : Cond.methodLink RX8 88 mX8_isLetter.1 ∈ TW := (TWt4 227 rfl rfl)
theorem ml_8_107 : Cond.methodLink RX8 107 mX8_isDigit.1 ∈ TW := (TWt4 235 rfl rfl)
theorem ml_8_110 : Cond.methodLink RX8 110 mX8_readWord.1 ∈ TW := (TWt4 231 rfl rfl)
theorem ml_8_114 : Cond.methodLink RX8 114 mX8_readNumber.1 ∈ TW := (TWt4 239 rfl rfl)
theorem ml_8_132 : Cond.methodLink RX8 132 mX8_rank.1 ∈ TW := (TWt5 19 rfl rfl)
theorem ml_8_138 : Cond.methodLink RX8 138 mX8_emit.1 ∈ TW := (TWt5 11 rfl rfl)
theorem ml_8_142 : Cond.methodLink RX8 142 mX8_isSign.1 ∈ TW := (TWt5 22 rfl rfl)
theorem ml_8_145 : Cond.methodLink RX8 145 mX8_isKey.1 ∈ TW := (TWt5 3 rfl rfl)
theorem ml_8_155 : Cond.methodLink RX8 155 mX8_doAll.1 ∈ TW := (TWt5 15 rfl rfl)
theorem ml_8_158 : Cond.methodLink RX8 158 mX8_await.1 ∈ TW := (TWt5 30 rfl rfl)
theorem ml_8_161 : Cond.methodLink RX8 161 mX8_ahead.1 ∈ TW := (TWt5 26 rfl rfl)
theorem ml_8_168 : Cond.methodLink RX8 168 mX8_between.1 ∈ TW := (TWt5 34 rfl rfl)
theorem ml_8_172 : Cond.methodLink RX8 172 mX8_closes.1 ∈ TW := (TWt5 38 rfl rfl)
theorem ml_8_175 : Cond.methodLink RX8 175 mX8_next.1 ∈ TW := (TWt4 223 rfl rfl)
theorem ml_8_178 : Cond.methodLink RX8 178 mX8_readE.1 ∈ TW := (TWt5 7 rfl rfl)
theorem ml_8_184 : Cond.methodLink RX8 184 mX8_readAll.1 ∈ TW := (TWt4 219 rfl rfl)
theorem ml_8_190 : Cond.methodLink RX8 190 objectInit ∈ TW ∧ Cond.instanceMethod objectInit ∈ TW ∧ Cond.code objectInit ⟨#[0xb1]⟩ 1 none ∈ TW := ⟨(TWt5 50 rfl rfl), (TWt1 23 rfl rfl), (TWt1 24 rfl rfl)⟩
theorem ml_8_237 : Cond.methodLink RX8 237 Lib.Math.abs.name ∈ TW ∧ Cond.static Lib.Math.abs.name ∈ TW ∧ Cond.initialized "java/lang/Math" ∈ TW ∧ Cond.code Lib.Math.abs.name Lib.Math.abs.code 1 (some .int) ∈ TW := ⟨(TWt5 51 rfl rfl), (TWt1 144 rfl rfl), (TWt1 6 rfl rfl), (TWt1 145 rfl rfl)⟩
theorem ml_8_240 : Cond.methodLink RX8 240 mX8_done.1 ∈ TW := (TWt4 190 rfl rfl)
theorem ml_8_244 : Cond.methodLink RX8 244 Lib.Math.min.name ∈ TW ∧ Cond.static Lib.Math.min.name ∈ TW ∧ Cond.initialized "java/lang/Math" ∈ TW ∧ Cond.code Lib.Math.min.name Lib.Math.min.code 2 (some .int) ∈ TW := ⟨(TWt4 193 rfl rfl), (TWt2 73 rfl rfl), (TWt1 6 rfl rfl), (TWt2 74 rfl rfl)⟩
theorem ml_8_247 : Cond.methodLink RX8 247 mX8_come.1 ∈ TW := (TWt5 226 rfl rfl)
theorem ml_8_252 : Cond.methodLink RX8 252 mX8_leave.1 ∈ TW := (TWt5 222 rfl rfl)
theorem ml_8_256 : Cond.methodLink RX8 256 mX8_goFrom.1 ∈ TW := (TWt5 217 rfl rfl)
theorem ml_8_262 : Cond.methodLink RX8 262 mX8_everyOne.1 ∈ TW := (TWt5 213 rfl rfl)
theorem ml_8_266 : Cond.methodLink RX8 266 mX8_wayTo.1 ∈ TW := (TWt5 230 rfl rfl)
theorem ml_8_269 : Cond.methodLink RX8 269 mX8_waySet.1 ∈ TW := (TWt5 234 rfl rfl)
theorem ml_8_272 : Cond.methodLink RX8 272 mX8_soonTo.1 ∈ TW := (TWt6 6 rfl rfl)
theorem ml_8_275 : Cond.methodLink RX8 275 mX8_ridden.1 ∈ TW := (TWt6 14 rfl rfl)
theorem ml_8_278 : Cond.methodLink RX8 278 mX8_all.1 ∈ TW := (TWt6 22 rfl rfl)
theorem ml_8_288 : Cond.methodLink RX8 288 mX8_isSheet.1 ∈ TW := (TWt6 59 rfl rfl)
theorem ml_8_291 : Cond.methodLink RX8 291 mX8_isTold.1 ∈ TW := (TWt6 70 rfl rfl)
theorem ml_8_295 : Cond.methodLink RX8 295 mX8_sheet.1 ∈ TW := (TWt6 82 rfl rfl)
theorem ml_8_303 : Cond.methodLink RX8 303 mX8_drawnBy.1 ∈ TW := (TWt6 91 rfl rfl)
theorem ml_8_306 : Cond.methodLink RX8 306 mX8_divisor.1 ∈ TW := (TWt6 101 rfl rfl)
theorem ml_8_314 : Cond.methodLink RX8 314 mX8_move_.1 ∈ TW := (TWt6 108 rfl rfl)
theorem ml_8_331 : Cond.methodLink RX8 331 mX8_horse.1 ∈ TW := (TWt6 130 rfl rfl)
theorem fl_7_11 : FL RX7 11 7 0 := ⟨_, rfl, by decide, (TWt1 224 rfl rfl)⟩
theorem fl_7_16 : FL RX7 16 7 1 := ⟨_, rfl, by decide, (TWt1 225 rfl rfl)⟩
theorem fl_7_20 : FL RX7 20 7 2 := ⟨_, rfl, by decide, (TWt1 226 rfl rfl)⟩
theorem fl_7_24 : FL RX7 24 7 3 := ⟨_, rfl, by decide, (TWt1 227 rfl rfl)⟩
theorem fl_7_29 : FL RX7 29 7 4 := ⟨_, rfl, by decide, (TWt1 228 rfl rfl)⟩
theorem fl_7_36 : FL RX7 36 7 5 := ⟨_, rfl, by decide, (TWt1 229 rfl rfl)⟩
theorem fl_7_43 : FL RX7 43 7 6 := ⟨_, rfl, by decide, (TWt1 230 rfl rfl)⟩
theorem fl_7_50 : FL RX7 50 7 7 := ⟨_, rfl, by decide, (TWt1 231 rfl rfl)⟩
theorem fl_7_56 : FL RX7 56 7 8 := ⟨_, rfl, by decide, (TWt1 232 rfl rfl)⟩
theorem fl_7_60 : FL RX7 60 7 9 := ⟨_, rfl, by decide, (TWt1 233 rfl rfl)⟩
theorem fl_7_64 : FL RX7 64 7 10 := ⟨_, rfl, by decide, (TWt1 234 rfl rfl)⟩
theorem fl_7_67 : FL RX7 67 7 11 := ⟨_, rfl, by decide, (TWt1 235 rfl rfl)⟩
theorem fl_7_70 : FL RX7 70 7 12 := ⟨_, rfl, by decide, (TWt1 236 rfl rfl)⟩
theorem fl_7_101 : FL RX7 101 2 0 := ⟨_, rfl, by decide, (TWt1 64 rfl rfl)⟩
theorem fl_7_105 : FL RX7 105 5 1 := ⟨_, rfl, by decide, (TWt1 45 rfl rfl)⟩
theorem fl_7_131 : FL RX7 131 0 6 := ⟨_, rfl, by decide, (TWt1 164 rfl rfl)⟩
theorem fl_7_134 : FL RX7 134 0 7 := ⟨_, rfl, by decide, (TWt1 166 rfl rfl)⟩
theorem fl_7_137 : FL RX7 137 0 8 := ⟨_, rfl, by decide, (TWt1 168 rfl rfl)⟩
theorem fl_7_148 : FL RX7 148 0 5 := ⟨_, rfl, by decide, (TWt1 162 rfl rfl)⟩
theorem fl_7_151 : FL RX7 151 0 0 := ⟨_, rfl, by decide, (TWt1 152 rfl rfl)⟩
theorem fl_7_154 : FL RX7 154 0 1 := ⟨_, rfl, by decide, (TWt1 154 rfl rfl)⟩
theorem fl_7_157 : FL RX7 157 0 2 := ⟨_, rfl, by decide, (TWt1 156 rfl rfl)⟩
theorem fl_7_160 : FL RX7 160 0 3 := ⟨_, rfl, by decide, (TWt1 158 rfl rfl)⟩
theorem fl_7_163 : FL RX7 163 0 4 := ⟨_, rfl, by decide, (TWt1 160 rfl rfl)⟩
theorem fl_7_186 : FL RX7 186 3 6 := ⟨_, rfl, by decide, (TWt1 88 rfl rfl)⟩
theorem fl_7_189 : FL RX7 189 3 7 := ⟨_, rfl, by decide, (TWt1 90 rfl rfl)⟩
theorem fl_7_192 : FL RX7 192 3 5 := ⟨_, rfl, by decide, (TWt1 86 rfl rfl)⟩
theorem fl_7_236 : FL RX7 236 4 2 := ⟨_, rfl, by decide, (TWt1 216 rfl rfl)⟩
theorem fl_7_269 : FL RX7 269 1 2 := ⟨_, rfl, by decide, (TWt1 121 rfl rfl)⟩
theorem fl_7_273 : FL RX7 273 1 3 := ⟨_, rfl, by decide, (TWt1 123 rfl rfl)⟩
theorem fl_7_274 : FL RX7 274 1 4 := ⟨_, rfl, by decide, (TWt1 125 rfl rfl)⟩
theorem fl_7_275 : FL RX7 275 1 5 := ⟨_, rfl, by decide, (TWt1 127 rfl rfl)⟩
theorem fl_7_276 : FL RX7 276 1 0 := ⟨_, rfl, by decide, (TWt1 117 rfl rfl)⟩
theorem fl_7_281 : FL RX7 281 1 1 := ⟨_, rfl, by decide, (TWt1 119 rfl rfl)⟩
theorem fl_7_286 : FL RX7 286 4 1 := ⟨_, rfl, by decide, (TWt1 214 rfl rfl)⟩
theorem fl_7_289 : FL RX7 289 4 0 := ⟨_, rfl, by decide, (TWt1 212 rfl rfl)⟩
theorem fl_0_9 : FL RX0 9 0 0 := ⟨_, rfl, by decide, (TWt1 151 rfl rfl)⟩
theorem fl_0_15 : FL RX0 15 0 1 := ⟨_, rfl, by decide, (TWt1 153 rfl rfl)⟩
theorem fl_0_18 : FL RX0 18 0 2 := ⟨_, rfl, by decide, (TWt1 155 rfl rfl)⟩
theorem fl_0_21 : FL RX0 21 0 3 := ⟨_, rfl, by decide, (TWt1 157 rfl rfl)⟩
theorem fl_0_24 : FL RX0 24 0 4 := ⟨_, rfl, by decide, (TWt1 159 rfl rfl)⟩
theorem fl_0_27 : FL RX0 27 0 5 := ⟨_, rfl, by decide, (TWt1 161 rfl rfl)⟩
theorem fl_0_30 : FL RX0 30 0 6 := ⟨_, rfl, by decide, (TWt1 163 rfl rfl)⟩
theorem fl_0_33 : FL RX0 33 0 7 := ⟨_, rfl, by decide, (TWt1 165 rfl rfl)⟩
theorem fl_0_36 : FL RX0 36 0 8 := ⟨_, rfl, by decide, (TWt1 167 rfl rfl)⟩
theorem fl_1_11 : FL RX1 11 1 0 := ⟨_, rfl, by decide, (TWt1 116 rfl rfl)⟩
theorem fl_1_16 : FL RX1 16 1 1 := ⟨_, rfl, by decide, (TWt1 118 rfl rfl)⟩
theorem fl_1_20 : FL RX1 20 1 2 := ⟨_, rfl, by decide, (TWt1 120 rfl rfl)⟩
theorem fl_1_24 : FL RX1 24 1 3 := ⟨_, rfl, by decide, (TWt1 122 rfl rfl)⟩
theorem fl_1_28 : FL RX1 28 1 4 := ⟨_, rfl, by decide, (TWt1 124 rfl rfl)⟩
theorem fl_1_31 : FL RX1 31 1 5 := ⟨_, rfl, by decide, (TWt1 126 rfl rfl)⟩
theorem fl_2_12 : FL RX2 12 2 0 := ⟨_, rfl, by decide, (TWt1 63 rfl rfl)⟩
theorem fl_2_18 : FL RX2 18 2 1 := ⟨_, rfl, by decide, (TWt1 65 rfl rfl)⟩
theorem fl_2_22 : FL RX2 22 2 2 := ⟨_, rfl, by decide, (TWt1 66 rfl rfl)⟩
theorem fl_2_51 : FL RX2 51 5 3 := ⟨_, rfl, by decide, (TWt1 48 rfl rfl)⟩
theorem fl_2_75 : FL RX2 75 5 4 := ⟨_, rfl, by decide, (TWt1 50 rfl rfl)⟩
theorem fl_3_9 : FL RX3 9 3 0 := ⟨_, rfl, by decide, (TWt1 80 rfl rfl)⟩
theorem fl_3_15 : FL RX3 15 3 1 := ⟨_, rfl, by decide, (TWt1 81 rfl rfl)⟩
theorem fl_3_18 : FL RX3 18 3 2 := ⟨_, rfl, by decide, (TWt1 82 rfl rfl)⟩
theorem fl_3_21 : FL RX3 21 3 3 := ⟨_, rfl, by decide, (TWt1 83 rfl rfl)⟩
theorem fl_3_25 : FL RX3 25 3 4 := ⟨_, rfl, by decide, (TWt1 84 rfl rfl)⟩
theorem fl_3_28 : FL RX3 28 3 5 := ⟨_, rfl, by decide, (TWt1 85 rfl rfl)⟩
theorem fl_3_32 : FL RX3 32 3 6 := ⟨_, rfl, by decide, (TWt1 87 rfl rfl)⟩
theorem fl_3_35 : FL RX3 35 3 7 := ⟨_, rfl, by decide, (TWt1 89 rfl rfl)⟩
theorem fl_4_9 : FL RX4 9 4 0 := ⟨_, rfl, by decide, (TWt1 211 rfl rfl)⟩
theorem fl_4_15 : FL RX4 15 4 1 := ⟨_, rfl, by decide, (TWt1 213 rfl rfl)⟩
theorem fl_4_19 : FL RX4 19 4 2 := ⟨_, rfl, by decide, (TWt1 215 rfl rfl)⟩
theorem fl_5_9 : FL RX5 9 5 0 := ⟨_, rfl, by decide, (TWt1 43 rfl rfl)⟩
theorem fl_5_15 : FL RX5 15 5 1 := ⟨_, rfl, by decide, (TWt1 44 rfl rfl)⟩
theorem fl_5_19 : FL RX5 19 5 2 := ⟨_, rfl, by decide, (TWt1 46 rfl rfl)⟩
theorem fl_5_22 : FL RX5 22 5 3 := ⟨_, rfl, by decide, (TWt1 47 rfl rfl)⟩
theorem fl_5_25 : FL RX5 25 5 4 := ⟨_, rfl, by decide, (TWt1 49 rfl rfl)⟩
theorem fl_6_9 : FL RX6 9 6 0 := ⟨_, rfl, by decide, (TWt1 193 rfl rfl)⟩
theorem fl_6_15 : FL RX6 15 6 1 := ⟨_, rfl, by decide, (TWt1 194 rfl rfl)⟩
theorem fl_6_18 : FL RX6 18 6 2 := ⟨_, rfl, by decide, (TWt1 195 rfl rfl)⟩
theorem fl_6_21 : FL RX6 21 6 3 := ⟨_, rfl, by decide, (TWt1 196 rfl rfl)⟩
theorem fl_8_7 : FL RX8 7 8 4 := ⟨_, rfl, by decide, (TWt5 56 rfl rfl)⟩
theorem fl_8_11 : FL RX8 11 8 1 := ⟨_, rfl, by decide, (TWt5 53 rfl rfl)⟩
theorem fl_8_14 : FL RX8 14 8 0 := ⟨_, rfl, by decide, (TWt5 52 rfl rfl)⟩
theorem fl_8_26 : FL RX8 26 8 2 := ⟨_, rfl, by decide, (TWt5 54 rfl rfl)⟩
theorem fl_8_29 : FL RX8 29 8 3 := ⟨_, rfl, by decide, (TWt5 55 rfl rfl)⟩
theorem fl_8_35 : FL RX8 35 8 5 := ⟨_, rfl, by decide, (TWt5 57 rfl rfl)⟩
theorem fl_8_38 : FL RX8 38 8 6 := ⟨_, rfl, by decide, (TWt5 58 rfl rfl)⟩
theorem fl_8_41 : FL RX8 41 8 7 := ⟨_, rfl, by decide, (TWt5 59 rfl rfl)⟩
theorem fl_8_44 : FL RX8 44 8 8 := ⟨_, rfl, by decide, (TWt5 60 rfl rfl)⟩
theorem fl_8_47 : FL RX8 47 8 9 := ⟨_, rfl, by decide, (TWt5 61 rfl rfl)⟩
theorem fl_8_50 : FL RX8 50 8 10 := ⟨_, rfl, by decide, (TWt5 62 rfl rfl)⟩
theorem fl_8_79 : FL RX8 79 8 12 := ⟨_, rfl, by decide, (TWt5 64 rfl rfl)⟩
theorem fl_8_82 : FL RX8 82 8 11 := ⟨_, rfl, by decide, (TWt5 63 rfl rfl)⟩
theorem fl_8_85 : FL RX8 85 8 17 := ⟨_, rfl, by decide, (TWt5 69 rfl rfl)⟩
theorem fl_8_91 : FL RX8 91 8 18 := ⟨_, rfl, by decide, (TWt5 70 rfl rfl)⟩
theorem fl_8_94 : FL RX8 94 8 22 := ⟨_, rfl, by decide, (TWt5 74 rfl rfl)⟩
theorem fl_8_97 : FL RX8 97 8 20 := ⟨_, rfl, by decide, (TWt5 72 rfl rfl)⟩
theorem fl_8_100 : FL RX8 100 8 21 := ⟨_, rfl, by decide, (TWt5 73 rfl rfl)⟩
theorem fl_8_104 : FL RX8 104 8 19 := ⟨_, rfl, by decide, (TWt5 71 rfl rfl)⟩
theorem fl_8_117 : FL RX8 117 8 15 := ⟨_, rfl, by decide, (TWt5 67 rfl rfl)⟩
theorem fl_8_120 : FL RX8 120 8 28 := ⟨_, rfl, by decide, (TWt5 80 rfl rfl)⟩
theorem fl_8_123 : FL RX8 123 8 29 := ⟨_, rfl, by decide, (TWt5 81 rfl rfl)⟩
theorem fl_8_126 : FL RX8 126 8 24 := ⟨_, rfl, by decide, (TWt5 76 rfl rfl)⟩
theorem fl_8_129 : FL RX8 129 8 23 := ⟨_, rfl, by decide, (TWt5 75 rfl rfl)⟩
theorem fl_8_135 : FL RX8 135 8 25 := ⟨_, rfl, by decide, (TWt5 77 rfl rfl)⟩
theorem fl_8_148 : FL RX8 148 8 27 := ⟨_, rfl, by decide, (TWt5 79 rfl rfl)⟩
theorem fl_8_152 : FL RX8 152 8 26 := ⟨_, rfl, by decide, (TWt5 78 rfl rfl)⟩
theorem fl_8_165 : FL RX8 165 8 16 := ⟨_, rfl, by decide, (TWt5 68 rfl rfl)⟩
theorem fl_8_181 : FL RX8 181 8 13 := ⟨_, rfl, by decide, (TWt5 65 rfl rfl)⟩
theorem fl_8_187 : FL RX8 187 8 14 := ⟨_, rfl, by decide, (TWt5 66 rfl rfl)⟩
theorem fl_8_195 : FL RX8 195 8 30 := ⟨_, rfl, by decide, (TWt5 82 rfl rfl)⟩
theorem fl_8_198 : FL RX8 198 8 31 := ⟨_, rfl, by decide, (TWt5 83 rfl rfl)⟩
theorem fl_8_201 : FL RX8 201 8 32 := ⟨_, rfl, by decide, (TWt5 84 rfl rfl)⟩
theorem fl_8_204 : FL RX8 204 8 33 := ⟨_, rfl, by decide, (TWt5 85 rfl rfl)⟩
theorem fl_8_207 : FL RX8 207 8 34 := ⟨_, rfl, by decide, (TWt5 86 rfl rfl)⟩
theorem fl_8_210 : FL RX8 210 8 35 := ⟨_, rfl, by decide, (TWt5 87 rfl rfl)⟩
theorem fl_8_213 : FL RX8 213 8 36 := ⟨_, rfl, by decide, (TWt5 88 rfl rfl)⟩
theorem fl_8_216 : FL RX8 216 8 37 := ⟨_, rfl, by decide, (TWt5 89 rfl rfl)⟩
theorem fl_8_219 : FL RX8 219 8 40 := ⟨_, rfl, by decide, (TWt5 92 rfl rfl)⟩
theorem fl_8_222 : FL RX8 222 8 41 := ⟨_, rfl, by decide, (TWt5 93 rfl rfl)⟩
theorem fl_8_225 : FL RX8 225 8 45 := ⟨_, rfl, by decide, (TWt5 97 rfl rfl)⟩
theorem fl_8_228 : FL RX8 228 8 46 := ⟨_, rfl, by decide, (TWt5 98 rfl rfl)⟩
theorem fl_8_231 : FL RX8 231 8 47 := ⟨_, rfl, by decide, (TWt5 99 rfl rfl)⟩
theorem fl_8_234 : FL RX8 234 8 48 := ⟨_, rfl, by decide, (TWt5 100 rfl rfl)⟩
theorem fl_8_259 : FL RX8 259 8 38 := ⟨_, rfl, by decide, (TWt5 90 rfl rfl)⟩
theorem fl_8_310 : FL RX8 310 8 39 := ⟨_, rfl, by decide, (TWt5 91 rfl rfl)⟩
theorem fl_8_318 : FL RX8 318 8 42 := ⟨_, rfl, by decide, (TWt5 94 rfl rfl)⟩
theorem fl_8_321 : FL RX8 321 8 43 := ⟨_, rfl, by decide, (TWt5 95 rfl rfl)⟩
theorem fl_8_324 : FL RX8 324 8 44 := ⟨_, rfl, by decide, (TWt5 96 rfl rfl)⟩
theorem co_7_201 : Cond.constant RX7 201 (1000000000) ∈ TW := (TWt3 190 rfl rfl)
theorem co_7_213 : Cond.constant RX7 213 (-1000000) ∈ TW := (TWt3 219 rfl rfl)
theorem co_7_262 : Cond.constant RX7 262 (99999) ∈ TW := (TWt4 75 rfl rfl)
theorem co_3_38 : Cond.constant RX3 38 (1000000000) ∈ TW := (TWt3 139 rfl rfl)
theorem co_8_251 : Cond.constant RX8 251 (2000000000) ∈ TW := (TWt5 221 rfl rfl)
theorem co_8_281 : Cond.constant RX8 281 (-1000000) ∈ TW := (TWt6 35 rfl rfl)
theorem co_8_302 : Cond.constant RX8 302 (99999) ∈ TW := (TWt6 90 rfl rfl)
theorem co_7_214 : Cond.constantLong RX7 214 (-4611686018427387904) ∈ TW := (TWt3 224 rfl rfl)
theorem co_7_325 : Cond.constantLong RX7 325 (1000000000) ∈ TW := (TWt3 229 rfl rfl)
theorem co_7_327 : Cond.constantLong RX7 327 (100) ∈ TW := (TWt3 231 rfl rfl)
theorem co_7_329 : Cond.constantLong RX7 329 (48271) ∈ TW := (TWt4 80 rfl rfl)
theorem co_7_331 : Cond.constantLong RX7 331 (2147483647) ∈ TW := (TWt4 81 rfl rfl)
theorem co_8_282 : Cond.constantLong RX8 282 (-4611686018427387904) ∈ TW := (TWt6 40 rfl rfl)
theorem co_8_284 : Cond.constantLong RX8 284 (1000000000) ∈ TW := (TWt6 41 rfl rfl)
theorem co_8_286 : Cond.constantLong RX8 286 (100) ∈ TW := (TWt6 42 rfl rfl)
theorem co_8_298 : Cond.constantLong RX8 298 (48271) ∈ TW := (TWt6 95 rfl rfl)
theorem co_8_300 : Cond.constantLong RX8 300 (2147483647) ∈ TW := (TWt6 96 rfl rfl)
theorem co_8_327 : Cond.constantLong RX8 327 (4) ∈ TW := (TWt6 128 rfl rfl)
theorem co_8_329 : Cond.constantLong RX8 329 (3) ∈ TW := (TWt6 129 rfl rfl)
theorem kl_7_9 : Cond.classLink RX7 9 "[[I" ∈ TW ∧ Cond.arrayClass .int ∈ TW := ⟨(TWt1 25 rfl rfl), (TWt1 62 rfl rfl)⟩
theorem kl_7_14 : Cond.classLink RX7 14 RX0 ∈ TW ∧ Cond.instantiable RX0 9 ∈ TW ∧ Cond.initialized RX0 ∈ TW := ⟨(TWt1 27 rfl rfl), (TWt1 146 rfl rfl), (TWt1 7 rfl rfl)⟩
theorem kl_7_27 : Cond.classLink RX7 27 RX6 ∈ TW ∧ Cond.instantiable RX6 4 ∈ TW ∧ Cond.initialized RX6 ∈ TW := ⟨(TWt1 29 rfl rfl), (TWt1 188 rfl rfl), (TWt1 8 rfl rfl)⟩
theorem kl_7_33 : Cond.classLink RX7 33 RX2 ∈ TW ∧ Cond.instantiable RX2 3 ∈ TW ∧ Cond.initialized RX2 ∈ TW := ⟨(TWt1 31 rfl rfl), (TWt1 32 rfl rfl), (TWt1 2 rfl rfl)⟩
theorem kl_7_40 : Cond.classLink RX7 40 RX3 ∈ TW ∧ Cond.instantiable RX3 8 ∈ TW ∧ Cond.initialized RX3 ∈ TW := ⟨(TWt1 74 rfl rfl), (TWt1 75 rfl rfl), (TWt1 4 rfl rfl)⟩
theorem kl_7_47 : Cond.classLink RX7 47 RX1 ∈ TW ∧ Cond.instantiable RX1 6 ∈ TW ∧ Cond.initialized RX1 ∈ TW := ⟨(TWt1 109 rfl rfl), (TWt1 110 rfl rfl), (TWt1 5 rfl rfl)⟩
theorem kl_7_54 : Cond.classLink RX7 54 RX4 ∈ TW ∧ Cond.instantiable RX4 3 ∈ TW ∧ Cond.initialized RX4 ∈ TW := ⟨(TWt1 141 rfl rfl), (TWt1 206 rfl rfl), (TWt1 9 rfl rfl)⟩
theorem kl_1_9 : Cond.classLink RX1 9 "[[I" ∈ TW ∧ Cond.arrayClass .int ∈ TW := ⟨(TWt1 115 rfl rfl), (TWt1 62 rfl rfl)⟩
theorem kl_2_9 : Cond.classLink RX2 9 RX5 ∈ TW ∧ Cond.instantiable RX5 5 ∈ TW ∧ Cond.initialized RX5 ∈ TW := ⟨(TWt1 37 rfl rfl), (TWt1 38 rfl rfl), (TWt1 3 rfl rfl)⟩
theorem kl_L_7 : Cond.classLink RL 7 RX7 ∈ TW ∧ Cond.instantiable RX7 13 ∈ TW ∧ Cond.initialized RX7 ∈ TW := ⟨(TWt1 17 rfl rfl), (TWt1 18 rfl rfl), (TWt1 1 rfl rfl)⟩
theorem kl_L_10 : Cond.classLink RL 10 RX8 ∈ TW ∧ Cond.instantiable RX8 49 ∈ TW ∧ Cond.initialized RX8 ∈ TW := ⟨(TWt5 46 rfl rfl), (TWt4 144 rfl rfl), (TWt1 10 rfl rfl)⟩
theorem ac_int : Cond.arrayClass .int ∈ TW := (TWt1 62 rfl rfl)
theorem ac_boolean : Cond.arrayClass .boolean ∈ TW := (TWt1 108 rfl rfl)
theorem ac_char : Cond.arrayClass .char ∈ TW := (TWt5 200 rfl rfl)
end
section
theorem i_vc : Claimed_1_1 ∧ Claimed_1_2 := sorry
end
