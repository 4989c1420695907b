section
-- ===== PART A: goes FIRST, ahead of the names: the tables' words, and 'selects' of the private methods out of them =====
/-- a private method of a class that the tables say can be made, by its rows of tables_1 -/
def lw_okq (q : MethodName × Nat) : Prop := (q.1.cls ≠ "java/lang/invoke/MethodHandle" ∧ q.1.cls ≠ "java/lang/invoke/VarHandle") ∧ Cond.instantiable q.1.cls q.2 ∈ tables_1 ∧ Cond.privateMethod q.1 ∈ tables_1 ∧ Cond.instanceMethod q.1 ∈ tables_1
theorem lw_p0 : lw_okq (⟨"LiveIndex", "placeInBuffer", "(I)I"⟩, 20) := ⟨⟨by decide +kernel, by decide +kernel⟩, List.mem_of_getElem? (i := 22) (by decide +kernel), List.mem_of_getElem? (i := 329) (by decide +kernel), List.mem_of_getElem? (i := 330) (by decide +kernel)⟩
theorem lw_p1 : lw_okq (⟨"LiveIndex", "dropLive", "(I)I"⟩, 20) := ⟨⟨by decide +kernel, by decide +kernel⟩, List.mem_of_getElem? (i := 22) (by decide +kernel), List.mem_of_getElem? (i := 349) (by decide +kernel), List.mem_of_getElem? (i := 350) (by decide +kernel)⟩
theorem lw_p2 : lw_okq (⟨"LiveIndex", "placeInSegments", "(I)I"⟩, 20) := ⟨⟨by decide +kernel, by decide +kernel⟩, List.mem_of_getElem? (i := 22) (by decide +kernel), List.mem_of_getElem? (i := 353) (by decide +kernel), List.mem_of_getElem? (i := 354) (by decide +kernel)⟩
theorem lw_p3 : lw_okq (⟨"LiveIndex", "isQuery", "(I)Z"⟩, 20) := ⟨⟨by decide +kernel, by decide +kernel⟩, List.mem_of_getElem? (i := 22) (by decide +kernel), List.mem_of_getElem? (i := 393) (by decide +kernel), List.mem_of_getElem? (i := 394) (by decide +kernel)⟩
theorem lw_p4 : lw_okq (⟨"LiveIndex$Query", "leafWorth", "([II)I"⟩, 7) := ⟨⟨by decide +kernel, by decide +kernel⟩, List.mem_of_getElem? (i := 205) (by decide +kernel), List.mem_of_getElem? (i := 406) (by decide +kernel), List.mem_of_getElem? (i := 407) (by decide +kernel)⟩
theorem lw_p5 : lw_okq (⟨"LiveIndex$Query", "phrasesIn", "([III)I"⟩, 7) := ⟨⟨by decide +kernel, by decide +kernel⟩, List.mem_of_getElem? (i := 205) (by decide +kernel), List.mem_of_getElem? (i := 422) (by decide +kernel), List.mem_of_getElem? (i := 423) (by decide +kernel)⟩
theorem lw_p6 : lw_okq (⟨"LiveIndex$Hits", "insert", "(II)V"⟩, 5) := ⟨⟨by decide +kernel, by decide +kernel⟩, List.mem_of_getElem? (i := 179) (by decide +kernel), List.mem_of_getElem? (i := 426) (by decide +kernel), List.mem_of_getElem? (i := 427) (by decide +kernel)⟩
theorem lw_p7 : lw_okq (⟨"LiveIndex$Segment", "notePosting", "(II)V"⟩, 7) := ⟨⟨by decide +kernel, by decide +kernel⟩, List.mem_of_getElem? (i := 438) (by decide +kernel), List.mem_of_getElem? (i := 448) (by decide +kernel), List.mem_of_getElem? (i := 449) (by decide +kernel)⟩
theorem lw_p8 : lw_okq (⟨"LiveIndex$Segment", "firstNotBelow", "(I)I"⟩, 7) := ⟨⟨by decide +kernel, by decide +kernel⟩, List.mem_of_getElem? (i := 438) (by decide +kernel), List.mem_of_getElem? (i := 452) (by decide +kernel), List.mem_of_getElem? (i := 453) (by decide +kernel)⟩
theorem lw_p9 : lw_okq (⟨"LiveIndex", "isSegment", "(I)Z"⟩, 20) := ⟨⟨by decide +kernel, by decide +kernel⟩, List.mem_of_getElem? (i := 22) (by decide +kernel), List.mem_of_getElem? (i := 503) (by decide +kernel), List.mem_of_getElem? (i := 504) (by decide +kernel)⟩
theorem lw_p10 : lw_okq (⟨"LiveIndex", "viewsWith", "(I)I"⟩, 20) := ⟨⟨by decide +kernel, by decide +kernel⟩, List.mem_of_getElem? (i := 22) (by decide +kernel), List.mem_of_getElem? (i := 528) (by decide +kernel), List.mem_of_getElem? (i := 529) (by decide +kernel)⟩
theorem lw_p11 : lw_okq (⟨"LiveIndex$Policy", "isFit", "(LLiveIndex$Stand;I)Z"⟩, 2) := ⟨⟨by decide +kernel, by decide +kernel⟩, List.mem_of_getElem? (i := 90) (by decide +kernel), List.mem_of_getElem? (i := 574) (by decide +kernel), List.mem_of_getElem? (i := 575) (by decide +kernel)⟩
theorem lw_p12 : lw_okq (⟨"LiveIndex$Policy", "areOfOneTier", "(LLiveIndex$Stand;I)Z"⟩, 2) := ⟨⟨by decide +kernel, by decide +kernel⟩, List.mem_of_getElem? (i := 90) (by decide +kernel), List.mem_of_getElem? (i := 578) (by decide +kernel), List.mem_of_getElem? (i := 579) (by decide +kernel)⟩
theorem lw_p13 : lw_okq (⟨"LiveIndex$Policy", "areSmallTogether", "(LLiveIndex$Stand;I)Z"⟩, 2) := ⟨⟨by decide +kernel, by decide +kernel⟩, List.mem_of_getElem? (i := 90) (by decide +kernel), List.mem_of_getElem? (i := 582) (by decide +kernel), List.mem_of_getElem? (i := 583) (by decide +kernel)⟩
theorem lw_p14 : lw_okq (⟨"LiveIndex$Policy", "hasDropped", "(LLiveIndex$Stand;I)Z"⟩, 2) := ⟨⟨by decide +kernel, by decide +kernel⟩, List.mem_of_getElem? (i := 90) (by decide +kernel), List.mem_of_getElem? (i := 586) (by decide +kernel), List.mem_of_getElem? (i := 587) (by decide +kernel)⟩
theorem lw_p15 : lw_okq (⟨"LiveIndex", "leastSplit", "(II)I"⟩, 20) := ⟨⟨by decide +kernel, by decide +kernel⟩, List.mem_of_getElem? (i := 22) (by decide +kernel), List.mem_of_getElem? (i := 630) (by decide +kernel), List.mem_of_getElem? (i := 631) (by decide +kernel)⟩
def lw_privs_1 : List (MethodName × Nat) := [(⟨"LiveIndex", "placeInBuffer", "(I)I"⟩, 20), (⟨"LiveIndex", "dropLive", "(I)I"⟩, 20), (⟨"LiveIndex", "placeInSegments", "(I)I"⟩, 20), (⟨"LiveIndex", "isQuery", "(I)Z"⟩, 20), (⟨"LiveIndex$Query", "leafWorth", "([II)I"⟩, 7), (⟨"LiveIndex$Query", "phrasesIn", "([III)I"⟩, 7), (⟨"LiveIndex$Hits", "insert", "(II)V"⟩, 5), (⟨"LiveIndex$Segment", "notePosting", "(II)V"⟩, 7), (⟨"LiveIndex$Segment", "firstNotBelow", "(I)I"⟩, 7), (⟨"LiveIndex", "isSegment", "(I)Z"⟩, 20), (⟨"LiveIndex", "viewsWith", "(I)I"⟩, 20), (⟨"LiveIndex$Policy", "isFit", "(LLiveIndex$Stand;I)Z"⟩, 2), (⟨"LiveIndex$Policy", "areOfOneTier", "(LLiveIndex$Stand;I)Z"⟩, 2), (⟨"LiveIndex$Policy", "areSmallTogether", "(LLiveIndex$Stand;I)Z"⟩, 2), (⟨"LiveIndex$Policy", "hasDropped", "(LLiveIndex$Stand;I)Z"⟩, 2), (⟨"LiveIndex", "leastSplit", "(II)I"⟩, 20)]
theorem lw_r1 : ∀ q ∈ lw_privs_1, lw_okq q := List.forall_mem_cons.mpr ⟨lw_p0, List.forall_mem_cons.mpr ⟨lw_p1, List.forall_mem_cons.mpr ⟨lw_p2, List.forall_mem_cons.mpr ⟨lw_p3, List.forall_mem_cons.mpr ⟨lw_p4, List.forall_mem_cons.mpr ⟨lw_p5, List.forall_mem_cons.mpr ⟨lw_p6, List.forall_mem_cons.mpr ⟨lw_p7, List.forall_mem_cons.mpr ⟨lw_p8, List.forall_mem_cons.mpr ⟨lw_p9, List.forall_mem_cons.mpr ⟨lw_p10, List.forall_mem_cons.mpr ⟨lw_p11, List.forall_mem_cons.mpr ⟨lw_p12, List.forall_mem_cons.mpr ⟨lw_p13, List.forall_mem_cons.mpr ⟨lw_p14, List.forall_mem_cons.mpr ⟨lw_p15, fun _ h => absurd h List.not_mem_nil⟩⟩⟩⟩⟩⟩⟩⟩⟩⟩⟩⟩⟩⟩⟩⟩
theorem lw_p16 : lw_okq (⟨"LiveIndex", "splitCost", "(III)I"⟩, 20) := ⟨⟨by decide +kernel, by decide +kernel⟩, List.mem_of_getElem? (i := 22) (by decide +kernel), List.mem_of_getElem? (i := 634) (by decide +kernel), List.mem_of_getElem? (i := 635) (by decide +kernel)⟩
theorem lw_p17 : lw_okq (⟨"LiveIndex$QueryReader", "next", "()V"⟩, 8) := ⟨⟨by decide +kernel, by decide +kernel⟩, List.mem_of_getElem? (i := 129) (by decide +kernel), List.mem_of_getElem? (i := 666) (by decide +kernel), List.mem_of_getElem? (i := 667) (by decide +kernel)⟩
theorem lw_p18 : lw_okq (⟨"LiveIndex$QueryReader", "readEither", "()V"⟩, 8) := ⟨⟨by decide +kernel, by decide +kernel⟩, List.mem_of_getElem? (i := 129) (by decide +kernel), List.mem_of_getElem? (i := 676) (by decide +kernel), List.mem_of_getElem? (i := 677) (by decide +kernel)⟩
theorem lw_p19 : lw_okq (⟨"LiveIndex$QueryReader", "readBoth", "()V"⟩, 8) := ⟨⟨by decide +kernel, by decide +kernel⟩, List.mem_of_getElem? (i := 129) (by decide +kernel), List.mem_of_getElem? (i := 680) (by decide +kernel), List.mem_of_getElem? (i := 681) (by decide +kernel)⟩
theorem lw_p20 : lw_okq (⟨"LiveIndex$QueryReader", "readOne", "()V"⟩, 8) := ⟨⟨by decide +kernel, by decide +kernel⟩, List.mem_of_getElem? (i := 129) (by decide +kernel), List.mem_of_getElem? (i := 684) (by decide +kernel), List.mem_of_getElem? (i := 685) (by decide +kernel)⟩
theorem lw_p21 : lw_okq (⟨"LiveIndex$QueryReader", "readNot", "()V"⟩, 8) := ⟨⟨by decide +kernel, by decide +kernel⟩, List.mem_of_getElem? (i := 129) (by decide +kernel), List.mem_of_getElem? (i := 688) (by decide +kernel), List.mem_of_getElem? (i := 689) (by decide +kernel)⟩
theorem lw_p22 : lw_okq (⟨"LiveIndex$QueryReader", "refuse", "()V"⟩, 8) := ⟨⟨by decide +kernel, by decide +kernel⟩, List.mem_of_getElem? (i := 129) (by decide +kernel), List.mem_of_getElem? (i := 692) (by decide +kernel), List.mem_of_getElem? (i := 693) (by decide +kernel)⟩
theorem lw_p23 : lw_okq (⟨"LiveIndex$QueryReader", "readBrackets", "()V"⟩, 8) := ⟨⟨by decide +kernel, by decide +kernel⟩, List.mem_of_getElem? (i := 129) (by decide +kernel), List.mem_of_getElem? (i := 700) (by decide +kernel), List.mem_of_getElem? (i := 701) (by decide +kernel)⟩
theorem lw_p24 : lw_okq (⟨"LiveIndex$QueryReader", "readWord", "()V"⟩, 8) := ⟨⟨by decide +kernel, by decide +kernel⟩, List.mem_of_getElem? (i := 129) (by decide +kernel), List.mem_of_getElem? (i := 704) (by decide +kernel), List.mem_of_getElem? (i := 705) (by decide +kernel)⟩
theorem lw_p25 : lw_okq (⟨"LiveIndex$QueryReader", "readPhrase", "()V"⟩, 8) := ⟨⟨by decide +kernel, by decide +kernel⟩, List.mem_of_getElem? (i := 129) (by decide +kernel), List.mem_of_getElem? (i := 710) (by decide +kernel), List.mem_of_getElem? (i := 711) (by decide +kernel)⟩
theorem lw_p26 : lw_okq (⟨"LiveIndex", "heldSegments", "()I"⟩, 20) := ⟨⟨by decide +kernel, by decide +kernel⟩, List.mem_of_getElem? (i := 22) (by decide +kernel), List.mem_of_getElem? (i := 734) (by decide +kernel), List.mem_of_getElem? (i := 735) (by decide +kernel)⟩
theorem lw_p27 : lw_okq (⟨"LiveIndex", "isHeldBefore", "(II)Z"⟩, 20) := ⟨⟨by decide +kernel, by decide +kernel⟩, List.mem_of_getElem? (i := 22) (by decide +kernel), List.mem_of_getElem? (i := 738) (by decide +kernel), List.mem_of_getElem? (i := 739) (by decide +kernel)⟩
theorem lw_p28 : lw_okq (⟨"LiveIndex", "answer", "(LLiveIndex$Query;LLiveIndex$Stand;I)I"⟩, 20) := ⟨⟨by decide +kernel, by decide +kernel⟩, List.mem_of_getElem? (i := 22) (by decide +kernel), List.mem_of_getElem? (i := 749) (by decide +kernel), List.mem_of_getElem? (i := 750) (by decide +kernel)⟩
theorem lw_p29 : lw_okq (⟨"LiveIndex$Query", "leafCost", "(LLiveIndex$Segment;I)I"⟩, 7) := ⟨⟨by decide +kernel, by decide +kernel⟩, List.mem_of_getElem? (i := 205) (by decide +kernel), List.mem_of_getElem? (i := 757) (by decide +kernel), List.mem_of_getElem? (i := 758) (by decide +kernel)⟩
theorem lw_p30 : lw_okq (⟨"LiveIndex$Query", "phraseCost", "(LLiveIndex$Segment;II)I"⟩, 7) := ⟨⟨by decide +kernel, by decide +kernel⟩, List.mem_of_getElem? (i := 205) (by decide +kernel), List.mem_of_getElem? (i := 770) (by decide +kernel), List.mem_of_getElem? (i := 771) (by decide +kernel)⟩
theorem lw_p31 : lw_okq (⟨"LiveIndex", "isDear", "(I)Z"⟩, 20) := ⟨⟨by decide +kernel, by decide +kernel⟩, List.mem_of_getElem? (i := 22) (by decide +kernel), List.mem_of_getElem? (i := 786) (by decide +kernel), List.mem_of_getElem? (i := 787) (by decide +kernel)⟩
def lw_privs_2 : List (MethodName × Nat) := [(⟨"LiveIndex", "splitCost", "(III)I"⟩, 20), (⟨"LiveIndex$QueryReader", "next", "()V"⟩, 8), (⟨"LiveIndex$QueryReader", "readEither", "()V"⟩, 8), (⟨"LiveIndex$QueryReader", "readBoth", "()V"⟩, 8), (⟨"LiveIndex$QueryReader", "readOne", "()V"⟩, 8), (⟨"LiveIndex$QueryReader", "readNot", "()V"⟩, 8), (⟨"LiveIndex$QueryReader", "refuse", "()V"⟩, 8), (⟨"LiveIndex$QueryReader", "readBrackets", "()V"⟩, 8), (⟨"LiveIndex$QueryReader", "readWord", "()V"⟩, 8), (⟨"LiveIndex$QueryReader", "readPhrase", "()V"⟩, 8), (⟨"LiveIndex", "heldSegments", "()I"⟩, 20), (⟨"LiveIndex", "isHeldBefore", "(II)Z"⟩, 20), (⟨"LiveIndex", "answer", "(LLiveIndex$Query;LLiveIndex$Stand;I)I"⟩, 20), (⟨"LiveIndex$Query", "leafCost", "(LLiveIndex$Segment;I)I"⟩, 7), (⟨"LiveIndex$Query", "phraseCost", "(LLiveIndex$Segment;II)I"⟩, 7), (⟨"LiveIndex", "isDear", "(I)Z"⟩, 20)]
theorem lw_r2 : ∀ q ∈ lw_privs_2, lw_okq q := List.forall_mem_cons.mpr ⟨lw_p16, List.forall_mem_cons.mpr ⟨lw_p17, List.forall_mem_cons.mpr ⟨lw_p18, List.forall_mem_cons.mpr ⟨lw_p19, List.forall_mem_cons.mpr ⟨lw_p20, List.forall_mem_cons.mpr ⟨lw_p21, List.forall_mem_cons.mpr ⟨lw_p22, List.forall_mem_cons.mpr ⟨lw_p23, List.forall_mem_cons.mpr ⟨lw_p24, List.forall_mem_cons.mpr ⟨lw_p25, List.forall_mem_cons.mpr ⟨lw_p26, List.forall_mem_cons.mpr ⟨lw_p27, List.forall_mem_cons.mpr ⟨lw_p28, List.forall_mem_cons.mpr ⟨lw_p29, List.forall_mem_cons.mpr ⟨lw_p30, List.forall_mem_cons.mpr ⟨lw_p31, fun _ h => absurd h List.not_mem_nil⟩⟩⟩⟩⟩⟩⟩⟩⟩⟩⟩⟩⟩⟩⟩⟩
theorem lw_p32 : lw_okq (⟨"LiveIndex", "foundByOther", "(II)I"⟩, 20) := ⟨⟨by decide +kernel, by decide +kernel⟩, List.mem_of_getElem? (i := 22) (by decide +kernel), List.mem_of_getElem? (i := 799) (by decide +kernel), List.mem_of_getElem? (i := 800) (by decide +kernel)⟩
theorem lw_p33 : lw_okq (⟨"LiveIndex", "firstOtherwise", "(III)I"⟩, 20) := ⟨⟨by decide +kernel, by decide +kernel⟩, List.mem_of_getElem? (i := 22) (by decide +kernel), List.mem_of_getElem? (i := 823) (by decide +kernel), List.mem_of_getElem? (i := 824) (by decide +kernel)⟩
theorem lw_p34 : lw_okq (⟨"LiveIndex", "queriesToldBy", "(II)I"⟩, 20) := ⟨⟨by decide +kernel, by decide +kernel⟩, List.mem_of_getElem? (i := 22) (by decide +kernel), List.mem_of_getElem? (i := 832) (by decide +kernel), List.mem_of_getElem? (i := 833) (by decide +kernel)⟩
theorem lw_p35 : lw_okq (⟨"LiveIndex", "viewsToldBy", "(II)I"⟩, 20) := ⟨⟨by decide +kernel, by decide +kernel⟩, List.mem_of_getElem? (i := 22) (by decide +kernel), List.mem_of_getElem? (i := 836) (by decide +kernel), List.mem_of_getElem? (i := 837) (by decide +kernel)⟩
theorem lw_p36 : lw_okq (⟨"LiveIndex", "openViews", "()I"⟩, 20) := ⟨⟨by decide +kernel, by decide +kernel⟩, List.mem_of_getElem? (i := 22) (by decide +kernel), List.mem_of_getElem? (i := 861) (by decide +kernel), List.mem_of_getElem? (i := 862) (by decide +kernel)⟩
theorem lw_p37 : lw_okq (⟨"LiveIndexModel", "bufferPlace", "(I)I"⟩, 54) := ⟨⟨by decide +kernel, by decide +kernel⟩, List.mem_of_getElem? (i := 883) (by decide +kernel), List.mem_of_getElem? (i := 1074) (by decide +kernel), List.mem_of_getElem? (i := 1075) (by decide +kernel)⟩
theorem lw_p38 : lw_okq (⟨"LiveIndexModel", "segmentPlace", "(I)I"⟩, 54) := ⟨⟨by decide +kernel, by decide +kernel⟩, List.mem_of_getElem? (i := 883) (by decide +kernel), List.mem_of_getElem? (i := 1078) (by decide +kernel), List.mem_of_getElem? (i := 1079) (by decide +kernel)⟩
theorem lw_p39 : lw_okq (⟨"LiveIndexModel", "document", "()I"⟩, 54) := ⟨⟨by decide +kernel, by decide +kernel⟩, List.mem_of_getElem? (i := 883) (by decide +kernel), List.mem_of_getElem? (i := 1086) (by decide +kernel), List.mem_of_getElem? (i := 1087) (by decide +kernel)⟩
theorem lw_p40 : lw_okq (⟨"LiveIndexModel", "byteAt", "(I)I"⟩, 54) := ⟨⟨by decide +kernel, by decide +kernel⟩, List.mem_of_getElem? (i := 883) (by decide +kernel), List.mem_of_getElem? (i := 1093) (by decide +kernel), List.mem_of_getElem? (i := 1094) (by decide +kernel)⟩
theorem lw_p41 : lw_okq (⟨"LiveIndexModel", "wordFrom", "(II)I"⟩, 54) := ⟨⟨by decide +kernel, by decide +kernel⟩, List.mem_of_getElem? (i := 883) (by decide +kernel), List.mem_of_getElem? (i := 1100) (by decide +kernel), List.mem_of_getElem? (i := 1101) (by decide +kernel)⟩
theorem lw_p42 : lw_okq (⟨"LiveIndexModel", "held", "()I"⟩, 54) := ⟨⟨by decide +kernel, by decide +kernel⟩, List.mem_of_getElem? (i := 883) (by decide +kernel), List.mem_of_getElem? (i := 1114) (by decide +kernel), List.mem_of_getElem? (i := 1115) (by decide +kernel)⟩
theorem lw_p43 : lw_okq (⟨"LiveIndexModel", "newSegment", "()I"⟩, 54) := ⟨⟨by decide +kernel, by decide +kernel⟩, List.mem_of_getElem? (i := 883) (by decide +kernel), List.mem_of_getElem? (i := 1118) (by decide +kernel), List.mem_of_getElem? (i := 1119) (by decide +kernel)⟩
theorem lw_p44 : lw_okq (⟨"LiveIndexModel", "joins", "(II)V"⟩, 54) := ⟨⟨by decide +kernel, by decide +kernel⟩, List.mem_of_getElem? (i := 883) (by decide +kernel), List.mem_of_getElem? (i := 1122) (by decide +kernel), List.mem_of_getElem? (i := 1123) (by decide +kernel)⟩
theorem lw_p45 : lw_okq (⟨"LiveIndexModel", "isSegment", "(I)Z"⟩, 54) := ⟨⟨by decide +kernel, by decide +kernel⟩, List.mem_of_getElem? (i := 883) (by decide +kernel), List.mem_of_getElem? (i := 1130) (by decide +kernel), List.mem_of_getElem? (i := 1131) (by decide +kernel)⟩
theorem lw_p46 : lw_okq (⟨"LiveIndexModel", "wordAbove", "(II)I"⟩, 54) := ⟨⟨by decide +kernel, by decide +kernel⟩, List.mem_of_getElem? (i := 883) (by decide +kernel), List.mem_of_getElem? (i := 1134) (by decide +kernel), List.mem_of_getElem? (i := 1135) (by decide +kernel)⟩
theorem lw_p47 : lw_okq (⟨"LiveIndexModel", "postings", "(II)I"⟩, 54) := ⟨⟨by decide +kernel, by decide +kernel⟩, List.mem_of_getElem? (i := 883) (by decide +kernel), List.mem_of_getElem? (i := 1141) (by decide +kernel), List.mem_of_getElem? (i := 1142) (by decide +kernel)⟩
def lw_privs_3 : List (MethodName × Nat) := [(⟨"LiveIndex", "foundByOther", "(II)I"⟩, 20), (⟨"LiveIndex", "firstOtherwise", "(III)I"⟩, 20), (⟨"LiveIndex", "queriesToldBy", "(II)I"⟩, 20), (⟨"LiveIndex", "viewsToldBy", "(II)I"⟩, 20), (⟨"LiveIndex", "openViews", "()I"⟩, 20), (⟨"LiveIndexModel", "bufferPlace", "(I)I"⟩, 54), (⟨"LiveIndexModel", "segmentPlace", "(I)I"⟩, 54), (⟨"LiveIndexModel", "document", "()I"⟩, 54), (⟨"LiveIndexModel", "byteAt", "(I)I"⟩, 54), (⟨"LiveIndexModel", "wordFrom", "(II)I"⟩, 54), (⟨"LiveIndexModel", "held", "()I"⟩, 54), (⟨"LiveIndexModel", "newSegment", "()I"⟩, 54), (⟨"LiveIndexModel", "joins", "(II)V"⟩, 54), (⟨"LiveIndexModel", "isSegment", "(I)Z"⟩, 54), (⟨"LiveIndexModel", "wordAbove", "(II)I"⟩, 54), (⟨"LiveIndexModel", "postings", "(II)I"⟩, 54)]
theorem lw_r3 : ∀ q ∈ lw_privs_3, lw_okq q := List.forall_mem_cons.mpr ⟨lw_p32, List.forall_mem_cons.mpr ⟨lw_p33, List.forall_mem_cons.mpr ⟨lw_p34, List.forall_mem_cons.mpr ⟨lw_p35, List.forall_mem_cons.mpr ⟨lw_p36, List.forall_mem_cons.mpr ⟨lw_p37, List.forall_mem_cons.mpr ⟨lw_p38, List.forall_mem_cons.mpr ⟨lw_p39, List.forall_mem_cons.mpr ⟨lw_p40, List.forall_mem_cons.mpr ⟨lw_p41, List.forall_mem_cons.mpr ⟨lw_p42, List.forall_mem_cons.mpr ⟨lw_p43, List.forall_mem_cons.mpr ⟨lw_p44, List.forall_mem_cons.mpr ⟨lw_p45, List.forall_mem_cons.mpr ⟨lw_p46, List.forall_mem_cons.mpr ⟨lw_p47, fun _ h => absurd h List.not_mem_nil⟩⟩⟩⟩⟩⟩⟩⟩⟩⟩⟩⟩⟩⟩⟩⟩
theorem lw_p48 : lw_okq (⟨"LiveIndexModel", "hasWord", "(II)Z"⟩, 54) := ⟨⟨by decide +kernel, by decide +kernel⟩, List.mem_of_getElem? (i := 883) (by decide +kernel), List.mem_of_getElem? (i := 1145) (by decide +kernel), List.mem_of_getElem? (i := 1146) (by decide +kernel)⟩
theorem lw_p49 : lw_okq (⟨"LiveIndexModel", "chosen", "()I"⟩, 54) := ⟨⟨by decide +kernel, by decide +kernel⟩, List.mem_of_getElem? (i := 883) (by decide +kernel), List.mem_of_getElem? (i := 1161) (by decide +kernel), List.mem_of_getElem? (i := 1162) (by decide +kernel)⟩
theorem lw_p50 : lw_okq (⟨"LiveIndexModel", "width", "()I"⟩, 54) := ⟨⟨by decide +kernel, by decide +kernel⟩, List.mem_of_getElem? (i := 883) (by decide +kernel), List.mem_of_getElem? (i := 1165) (by decide +kernel), List.mem_of_getElem? (i := 1166) (by decide +kernel)⟩
theorem lw_p51 : lw_okq (⟨"LiveIndexModel", "fits", "(II)Z"⟩, 54) := ⟨⟨by decide +kernel, by decide +kernel⟩, List.mem_of_getElem? (i := 883) (by decide +kernel), List.mem_of_getElem? (i := 1169) (by decide +kernel), List.mem_of_getElem? (i := 1170) (by decide +kernel)⟩
theorem lw_p52 : lw_okq (⟨"LiveIndexModel", "tier", "(I)I"⟩, 54) := ⟨⟨by decide +kernel, by decide +kernel⟩, List.mem_of_getElem? (i := 883) (by decide +kernel), List.mem_of_getElem? (i := 1173) (by decide +kernel), List.mem_of_getElem? (i := 1174) (by decide +kernel)⟩
theorem lw_p53 : lw_okq (⟨"LiveIndexModel", "size", "(I)I"⟩, 54) := ⟨⟨by decide +kernel, by decide +kernel⟩, List.mem_of_getElem? (i := 883) (by decide +kernel), List.mem_of_getElem? (i := 1177) (by decide +kernel), List.mem_of_getElem? (i := 1178) (by decide +kernel)⟩
theorem lw_p54 : lw_okq (⟨"LiveIndexModel", "liveOf", "(I)I"⟩, 54) := ⟨⟨by decide +kernel, by decide +kernel⟩, List.mem_of_getElem? (i := 883) (by decide +kernel), List.mem_of_getElem? (i := 1181) (by decide +kernel), List.mem_of_getElem? (i := 1182) (by decide +kernel)⟩
theorem lw_p55 : lw_okq (⟨"LiveIndexModel", "liveIn", "(II)I"⟩, 54) := ⟨⟨by decide +kernel, by decide +kernel⟩, List.mem_of_getElem? (i := 883) (by decide +kernel), List.mem_of_getElem? (i := 1186) (by decide +kernel), List.mem_of_getElem? (i := 1187) (by decide +kernel)⟩
theorem lw_p56 : lw_okq (⟨"LiveIndexModel", "costOf", "(III)I"⟩, 54) := ⟨⟨by decide +kernel, by decide +kernel⟩, List.mem_of_getElem? (i := 883) (by decide +kernel), List.mem_of_getElem? (i := 1206) (by decide +kernel), List.mem_of_getElem? (i := 1207) (by decide +kernel)⟩
theorem lw_p57 : lw_okq (⟨"LiveIndexModel", "lay", "(I)V"⟩, 54) := ⟨⟨by decide +kernel, by decide +kernel⟩, List.mem_of_getElem? (i := 883) (by decide +kernel), List.mem_of_getElem? (i := 1214) (by decide +kernel), List.mem_of_getElem? (i := 1215) (by decide +kernel)⟩
theorem lw_p58 : lw_okq (⟨"LiveIndexModel", "handOn", "(II)V"⟩, 54) := ⟨⟨by decide +kernel, by decide +kernel⟩, List.mem_of_getElem? (i := 883) (by decide +kernel), List.mem_of_getElem? (i := 1222) (by decide +kernel), List.mem_of_getElem? (i := 1223) (by decide +kernel)⟩
theorem lw_p59 : lw_okq (⟨"LiveIndexModel", "dictionary", "(IZ)I"⟩, 54) := ⟨⟨by decide +kernel, by decide +kernel⟩, List.mem_of_getElem? (i := 883) (by decide +kernel), List.mem_of_getElem? (i := 1234) (by decide +kernel), List.mem_of_getElem? (i := 1235) (by decide +kernel)⟩
theorem lw_p60 : lw_okq (⟨"LiveIndexModel", "openViews", "(I)I"⟩, 54) := ⟨⟨by decide +kernel, by decide +kernel⟩, List.mem_of_getElem? (i := 883) (by decide +kernel), List.mem_of_getElem? (i := 1238) (by decide +kernel), List.mem_of_getElem? (i := 1239) (by decide +kernel)⟩
theorem lw_p61 : lw_okq (⟨"LiveIndexModel", "stands", "(II)Z"⟩, 54) := ⟨⟨by decide +kernel, by decide +kernel⟩, List.mem_of_getElem? (i := 883) (by decide +kernel), List.mem_of_getElem? (i := 1242) (by decide +kernel), List.mem_of_getElem? (i := 1243) (by decide +kernel)⟩
theorem lw_p62 : lw_okq (⟨"LiveIndexModel", "heldSegments", "()I"⟩, 54) := ⟨⟨by decide +kernel, by decide +kernel⟩, List.mem_of_getElem? (i := 883) (by decide +kernel), List.mem_of_getElem? (i := 1261) (by decide +kernel), List.mem_of_getElem? (i := 1262) (by decide +kernel)⟩
theorem lw_p63 : lw_okq (⟨"LiveIndexModel", "next", "()V"⟩, 54) := ⟨⟨by decide +kernel, by decide +kernel⟩, List.mem_of_getElem? (i := 883) (by decide +kernel), List.mem_of_getElem? (i := 1269) (by decide +kernel), List.mem_of_getElem? (i := 1270) (by decide +kernel)⟩
def lw_privs_4 : List (MethodName × Nat) := [(⟨"LiveIndexModel", "hasWord", "(II)Z"⟩, 54), (⟨"LiveIndexModel", "chosen", "()I"⟩, 54), (⟨"LiveIndexModel", "width", "()I"⟩, 54), (⟨"LiveIndexModel", "fits", "(II)Z"⟩, 54), (⟨"LiveIndexModel", "tier", "(I)I"⟩, 54), (⟨"LiveIndexModel", "size", "(I)I"⟩, 54), (⟨"LiveIndexModel", "liveOf", "(I)I"⟩, 54), (⟨"LiveIndexModel", "liveIn", "(II)I"⟩, 54), (⟨"LiveIndexModel", "costOf", "(III)I"⟩, 54), (⟨"LiveIndexModel", "lay", "(I)V"⟩, 54), (⟨"LiveIndexModel", "handOn", "(II)V"⟩, 54), (⟨"LiveIndexModel", "dictionary", "(IZ)I"⟩, 54), (⟨"LiveIndexModel", "openViews", "(I)I"⟩, 54), (⟨"LiveIndexModel", "stands", "(II)Z"⟩, 54), (⟨"LiveIndexModel", "heldSegments", "()I"⟩, 54), (⟨"LiveIndexModel", "next", "()V"⟩, 54)]
theorem lw_r4 : ∀ q ∈ lw_privs_4, lw_okq q := List.forall_mem_cons.mpr ⟨lw_p48, List.forall_mem_cons.mpr ⟨lw_p49, List.forall_mem_cons.mpr ⟨lw_p50, List.forall_mem_cons.mpr ⟨lw_p51, List.forall_mem_cons.mpr ⟨lw_p52, List.forall_mem_cons.mpr ⟨lw_p53, List.forall_mem_cons.mpr ⟨lw_p54, List.forall_mem_cons.mpr ⟨lw_p55, List.forall_mem_cons.mpr ⟨lw_p56, List.forall_mem_cons.mpr ⟨lw_p57, List.forall_mem_cons.mpr ⟨lw_p58, List.forall_mem_cons.mpr ⟨lw_p59, List.forall_mem_cons.mpr ⟨lw_p60, List.forall_mem_cons.mpr ⟨lw_p61, List.forall_mem_cons.mpr ⟨lw_p62, List.forall_mem_cons.mpr ⟨lw_p63, fun _ h => absurd h List.not_mem_nil⟩⟩⟩⟩⟩⟩⟩⟩⟩⟩⟩⟩⟩⟩⟩⟩
theorem lw_p64 : lw_okq (⟨"LiveIndexModel", "keyAt", "(II)I"⟩, 54) := ⟨⟨by decide +kernel, by decide +kernel⟩, List.mem_of_getElem? (i := 883) (by decide +kernel), List.mem_of_getElem? (i := 1273) (by decide +kernel), List.mem_of_getElem? (i := 1274) (by decide +kernel)⟩
theorem lw_p65 : lw_okq (⟨"LiveIndexModel", "either", "()V"⟩, 54) := ⟨⟨by decide +kernel, by decide +kernel⟩, List.mem_of_getElem? (i := 883) (by decide +kernel), List.mem_of_getElem? (i := 1331) (by decide +kernel), List.mem_of_getElem? (i := 1332) (by decide +kernel)⟩
theorem lw_p66 : lw_okq (⟨"LiveIndexModel", "both", "()V"⟩, 54) := ⟨⟨by decide +kernel, by decide +kernel⟩, List.mem_of_getElem? (i := 883) (by decide +kernel), List.mem_of_getElem? (i := 1335) (by decide +kernel), List.mem_of_getElem? (i := 1336) (by decide +kernel)⟩
theorem lw_p67 : lw_okq (⟨"LiveIndexModel", "one", "()V"⟩, 54) := ⟨⟨by decide +kernel, by decide +kernel⟩, List.mem_of_getElem? (i := 883) (by decide +kernel), List.mem_of_getElem? (i := 1339) (by decide +kernel), List.mem_of_getElem? (i := 1340) (by decide +kernel)⟩
theorem lw_p68 : lw_okq (⟨"LiveIndexModel", "is", "(II)Z"⟩, 54) := ⟨⟨by decide +kernel, by decide +kernel⟩, List.mem_of_getElem? (i := 883) (by decide +kernel), List.mem_of_getElem? (i := 1343) (by decide +kernel), List.mem_of_getElem? (i := 1344) (by decide +kernel)⟩
theorem lw_p69 : lw_okq (⟨"LiveIndexModel", "opens", "()V"⟩, 54) := ⟨⟨by decide +kernel, by decide +kernel⟩, List.mem_of_getElem? (i := 883) (by decide +kernel), List.mem_of_getElem? (i := 1347) (by decide +kernel), List.mem_of_getElem? (i := 1348) (by decide +kernel)⟩
theorem lw_p70 : lw_okq (⟨"LiveIndexModel", "mark", "(I)V"⟩, 54) := ⟨⟨by decide +kernel, by decide +kernel⟩, List.mem_of_getElem? (i := 883) (by decide +kernel), List.mem_of_getElem? (i := 1351) (by decide +kernel), List.mem_of_getElem? (i := 1352) (by decide +kernel)⟩
theorem lw_p71 : lw_okq (⟨"LiveIndexModel", "phrase", "()V"⟩, 54) := ⟨⟨by decide +kernel, by decide +kernel⟩, List.mem_of_getElem? (i := 883) (by decide +kernel), List.mem_of_getElem? (i := 1355) (by decide +kernel), List.mem_of_getElem? (i := 1356) (by decide +kernel)⟩
theorem lw_p72 : lw_okq (⟨"LiveIndexModel", "plain", "()V"⟩, 54) := ⟨⟨by decide +kernel, by decide +kernel⟩, List.mem_of_getElem? (i := 883) (by decide +kernel), List.mem_of_getElem? (i := 1359) (by decide +kernel), List.mem_of_getElem? (i := 1360) (by decide +kernel)⟩
theorem lw_p73 : lw_okq (⟨"LiveIndexModel", "isQuery", "(I)Z"⟩, 54) := ⟨⟨by decide +kernel, by decide +kernel⟩, List.mem_of_getElem? (i := 883) (by decide +kernel), List.mem_of_getElem? (i := 1368) (by decide +kernel), List.mem_of_getElem? (i := 1369) (by decide +kernel)⟩
theorem lw_p74 : lw_okq (⟨"LiveIndexModel", "answer", "(III)I"⟩, 54) := ⟨⟨by decide +kernel, by decide +kernel⟩, List.mem_of_getElem? (i := 883) (by decide +kernel), List.mem_of_getElem? (i := 1375) (by decide +kernel), List.mem_of_getElem? (i := 1376) (by decide +kernel)⟩
theorem lw_p75 : lw_okq (⟨"LiveIndexModel", "cost", "(II)I"⟩, 54) := ⟨⟨by decide +kernel, by decide +kernel⟩, List.mem_of_getElem? (i := 883) (by decide +kernel), List.mem_of_getElem? (i := 1379) (by decide +kernel), List.mem_of_getElem? (i := 1380) (by decide +kernel)⟩
theorem lw_p76 : lw_okq (⟨"LiveIndexModel", "costOfWord", "(III)I"⟩, 54) := ⟨⟨by decide +kernel, by decide +kernel⟩, List.mem_of_getElem? (i := 883) (by decide +kernel), List.mem_of_getElem? (i := 1383) (by decide +kernel), List.mem_of_getElem? (i := 1384) (by decide +kernel)⟩
theorem lw_p77 : lw_okq (⟨"LiveIndexModel", "postingsBegun", "(III)I"⟩, 54) := ⟨⟨by decide +kernel, by decide +kernel⟩, List.mem_of_getElem? (i := 883) (by decide +kernel), List.mem_of_getElem? (i := 1387) (by decide +kernel), List.mem_of_getElem? (i := 1388) (by decide +kernel)⟩
theorem lw_p78 : lw_okq (⟨"LiveIndexModel", "find", "(II)V"⟩, 54) := ⟨⟨by decide +kernel, by decide +kernel⟩, List.mem_of_getElem? (i := 883) (by decide +kernel), List.mem_of_getElem? (i := 1397) (by decide +kernel), List.mem_of_getElem? (i := 1398) (by decide +kernel)⟩
theorem lw_p79 : lw_okq (⟨"LiveIndexModel", "worth", "(II)I"⟩, 54) := ⟨⟨by decide +kernel, by decide +kernel⟩, List.mem_of_getElem? (i := 883) (by decide +kernel), List.mem_of_getElem? (i := 1401) (by decide +kernel), List.mem_of_getElem? (i := 1402) (by decide +kernel)⟩
def lw_privs_5 : List (MethodName × Nat) := [(⟨"LiveIndexModel", "keyAt", "(II)I"⟩, 54), (⟨"LiveIndexModel", "either", "()V"⟩, 54), (⟨"LiveIndexModel", "both", "()V"⟩, 54), (⟨"LiveIndexModel", "one", "()V"⟩, 54), (⟨"LiveIndexModel", "is", "(II)Z"⟩, 54), (⟨"LiveIndexModel", "opens", "()V"⟩, 54), (⟨"LiveIndexModel", "mark", "(I)V"⟩, 54), (⟨"LiveIndexModel", "phrase", "()V"⟩, 54), (⟨"LiveIndexModel", "plain", "()V"⟩, 54), (⟨"LiveIndexModel", "isQuery", "(I)Z"⟩, 54), (⟨"LiveIndexModel", "answer", "(III)I"⟩, 54), (⟨"LiveIndexModel", "cost", "(II)I"⟩, 54), (⟨"LiveIndexModel", "costOfWord", "(III)I"⟩, 54), (⟨"LiveIndexModel", "postingsBegun", "(III)I"⟩, 54), (⟨"LiveIndexModel", "find", "(II)V"⟩, 54), (⟨"LiveIndexModel", "worth", "(II)I"⟩, 54)]
theorem lw_r5 : ∀ q ∈ lw_privs_5, lw_okq q := List.forall_mem_cons.mpr ⟨lw_p64, List.forall_mem_cons.mpr ⟨lw_p65, List.forall_mem_cons.mpr ⟨lw_p66, List.forall_mem_cons.mpr ⟨lw_p67, List.forall_mem_cons.mpr ⟨lw_p68, List.forall_mem_cons.mpr ⟨lw_p69, List.forall_mem_cons.mpr ⟨lw_p70, List.forall_mem_cons.mpr ⟨lw_p71, List.forall_mem_cons.mpr ⟨lw_p72, List.forall_mem_cons.mpr ⟨lw_p73, List.forall_mem_cons.mpr ⟨lw_p74, List.forall_mem_cons.mpr ⟨lw_p75, List.forall_mem_cons.mpr ⟨lw_p76, List.forall_mem_cons.mpr ⟨lw_p77, List.forall_mem_cons.mpr ⟨lw_p78, List.forall_mem_cons.mpr ⟨lw_p79, fun _ h => absurd h List.not_mem_nil⟩⟩⟩⟩⟩⟩⟩⟩⟩⟩⟩⟩⟩⟩⟩⟩
theorem lw_p80 : lw_okq (⟨"LiveIndexModel", "timesBegun", "(III)I"⟩, 54) := ⟨⟨by decide +kernel, by decide +kernel⟩, List.mem_of_getElem? (i := 883) (by decide +kernel), List.mem_of_getElem? (i := 1405) (by decide +kernel), List.mem_of_getElem? (i := 1406) (by decide +kernel)⟩
theorem lw_p81 : lw_okq (⟨"LiveIndexModel", "near", "(III)I"⟩, 54) := ⟨⟨by decide +kernel, by decide +kernel⟩, List.mem_of_getElem? (i := 883) (by decide +kernel), List.mem_of_getElem? (i := 1409) (by decide +kernel), List.mem_of_getElem? (i := 1410) (by decide +kernel)⟩
theorem lw_p82 : lw_okq (⟨"LiveIndexModel", "phraseTimes", "(I[III)I"⟩, 54) := ⟨⟨by decide +kernel, by decide +kernel⟩, List.mem_of_getElem? (i := 883) (by decide +kernel), List.mem_of_getElem? (i := 1416) (by decide +kernel), List.mem_of_getElem? (i := 1417) (by decide +kernel)⟩
theorem lw_p83 : lw_okq (⟨"LiveIndexModel", "comes", "(II)V"⟩, 54) := ⟨⟨by decide +kernel, by decide +kernel⟩, List.mem_of_getElem? (i := 883) (by decide +kernel), List.mem_of_getElem? (i := 1421) (by decide +kernel), List.mem_of_getElem? (i := 1422) (by decide +kernel)⟩
theorem lw_p84 : lw_okq (⟨"LiveIndexModel", "shutLook", "(I)V"⟩, 54) := ⟨⟨by decide +kernel, by decide +kernel⟩, List.mem_of_getElem? (i := 883) (by decide +kernel), List.mem_of_getElem? (i := 1433) (by decide +kernel), List.mem_of_getElem? (i := 1434) (by decide +kernel)⟩
theorem lw_p85 : lw_okq (⟨"LiveIndexModel", "wasFound", "(I[II)Z"⟩, 54) := ⟨⟨by decide +kernel, by decide +kernel⟩, List.mem_of_getElem? (i := 883) (by decide +kernel), List.mem_of_getElem? (i := 1441) (by decide +kernel), List.mem_of_getElem? (i := 1442) (by decide +kernel)⟩
theorem lw_p86 : lw_okq (⟨"LiveIndexModel", "otherwise", "(III)I"⟩, 54) := ⟨⟨by decide +kernel, by decide +kernel⟩, List.mem_of_getElem? (i := 883) (by decide +kernel), List.mem_of_getElem? (i := 1456) (by decide +kernel), List.mem_of_getElem? (i := 1457) (by decide +kernel)⟩
theorem lw_p87 : lw_okq (⟨"LiveIndexModel", "liveMany", "()I"⟩, 54) := ⟨⟨by decide +kernel, by decide +kernel⟩, List.mem_of_getElem? (i := 883) (by decide +kernel), List.mem_of_getElem? (i := 1468) (by decide +kernel), List.mem_of_getElem? (i := 1469) (by decide +kernel)⟩
theorem lw_p88 : lw_okq (⟨"LiveIndexModel", "viewsOpen", "()I"⟩, 54) := ⟨⟨by decide +kernel, by decide +kernel⟩, List.mem_of_getElem? (i := 883) (by decide +kernel), List.mem_of_getElem? (i := 1472) (by decide +kernel), List.mem_of_getElem? (i := 1473) (by decide +kernel)⟩
def lw_privs_6 : List (MethodName × Nat) := [(⟨"LiveIndexModel", "timesBegun", "(III)I"⟩, 54), (⟨"LiveIndexModel", "near", "(III)I"⟩, 54), (⟨"LiveIndexModel", "phraseTimes", "(I[III)I"⟩, 54), (⟨"LiveIndexModel", "comes", "(II)V"⟩, 54), (⟨"LiveIndexModel", "shutLook", "(I)V"⟩, 54), (⟨"LiveIndexModel", "wasFound", "(I[II)Z"⟩, 54), (⟨"LiveIndexModel", "otherwise", "(III)I"⟩, 54), (⟨"LiveIndexModel", "liveMany", "()I"⟩, 54), (⟨"LiveIndexModel", "viewsOpen", "()I"⟩, 54)]
theorem lw_r6 : ∀ q ∈ lw_privs_6, lw_okq q := List.forall_mem_cons.mpr ⟨lw_p80, List.forall_mem_cons.mpr ⟨lw_p81, List.forall_mem_cons.mpr ⟨lw_p82, List.forall_mem_cons.mpr ⟨lw_p83, List.forall_mem_cons.mpr ⟨lw_p84, List.forall_mem_cons.mpr ⟨lw_p85, List.forall_mem_cons.mpr ⟨lw_p86, List.forall_mem_cons.mpr ⟨lw_p87, List.forall_mem_cons.mpr ⟨lw_p88, fun _ h => absurd h List.not_mem_nil⟩⟩⟩⟩⟩⟩⟩⟩⟩
def lw_privs : List (MethodName × Nat) := lw_privs_1 ++ (lw_privs_2 ++ (lw_privs_3 ++ (lw_privs_4 ++ (lw_privs_5 ++ (lw_privs_6)))))
def lw_tbl : List Cond := k2_sels lw_privs ++ tables_1
theorem lw_privs_ok : ∀ q ∈ lw_privs, lw_okq q := by
  show ∀ q ∈ lw_privs_1 ++ (lw_privs_2 ++ (lw_privs_3 ++ (lw_privs_4 ++ (lw_privs_5 ++ (lw_privs_6))))), lw_okq q
  exact List.forall_mem_append.mpr ⟨lw_r1, List.forall_mem_append.mpr ⟨lw_r2, List.forall_mem_append.mpr ⟨lw_r3, List.forall_mem_append.mpr ⟨lw_r4, List.forall_mem_append.mpr ⟨lw_r5, lw_r6⟩⟩⟩⟩⟩
-- ===== end of PART A; then your names; then what follows =====
end
section
/-! ===== BEGIN printed: names, fields, word lists, decode rows ===== -/
def RX0 : String := "LiveIndex$Doc"
def TX0 : u_T := fun k => match k with
  | 0 => ("LiveIndex$Doc", "key", "I", true)
  | _ => ("LiveIndex$Doc", "words", "[I", true)
def tyX0 : Nat → FieldType := fun k => match k with
  | 0 => .int
  | _ => .array .int
abbrev wsX00 : List Cond := u_ws RX0 TX0 2
theorem nmX0 : ∀ a, a < 2 → ∀ b, b < 2 → a ≠ b → (TX0 a).2.1 ≠ (TX0 b).2.1 := by decide +kernel
theorem tyX0_ok : ∀ k, k < 2 → parseFieldDescriptor (TX0 k).2.2.1 = some (tyX0 k) := by decide +kernel
abbrev cX0_init : ByteArray := prog_2_method_1_code
def yX0_init : MethodName := ⟨RX0, "<init>", "(I[I)V"⟩
abbrev cX0_hasBefore : ByteArray := prog_2_method_2_code
def yX0_hasBefore : MethodName := ⟨RX0, "hasBefore", "(I)Z"⟩
def RX1 : String := "LiveIndex$Hits"
def TX1 : u_T := fun k => match k with
  | 0 => ("LiveIndex$Hits", "keys", "[I", true)
  | 1 => ("LiveIndex$Hits", "worths", "[I", true)
  | 2 => ("LiveIndex$Hits", "marks", "[J", true)
  | 3 => ("LiveIndex$Hits", "size", "I", false)
  | _ => ("LiveIndex$Hits", "total", "I", false)
def tyX1 : Nat → FieldType := fun k => match k with
  | 0 => .array .int
  | 1 => .array .int
  | 2 => .array .long
  | 3 => .int
  | _ => .int
abbrev wsX10 : List Cond := u_ws RX1 TX1 5
theorem nmX1 : ∀ a, a < 5 → ∀ b, b < 5 → a ≠ b → (TX1 a).2.1 ≠ (TX1 b).2.1 := by decide +kernel
theorem tyX1_ok : ∀ k, k < 5 → parseFieldDescriptor (TX1 k).2.2.1 = some (tyX1 k) := by decide +kernel
abbrev cX1_init : ByteArray := prog_3_method_1_code
def yX1_init : MethodName := ⟨RX1, "<init>", "()V"⟩
abbrev cX1_search : ByteArray := prog_3_method_2_code
def yX1_search : MethodName := ⟨RX1, "search", "(LLiveIndex$Query;LLiveIndex$Stand;)V"⟩
abbrev cX1_insert : ByteArray := prog_3_method_3_code
def yX1_insert : MethodName := ⟨RX1, "insert", "(II)V"⟩
abbrev cX1_isAnswer : ByteArray := prog_3_method_4_code
def yX1_isAnswer : MethodName := ⟨RX1, "isAnswer", "(I)Z"⟩
abbrev cX1_answer : ByteArray := prog_3_method_5_code
def yX1_answer : MethodName := ⟨RX1, "answer", "(I)I"⟩
abbrev cX1_alsoIn : ByteArray := prog_3_method_6_code
def yX1_alsoIn : MethodName := ⟨RX1, "alsoIn", "(LLiveIndex$Hits;)I"⟩
def RX2 : String := "LiveIndex$Looks"
def TX2 : u_T := fun k => match k with
  | 0 => ("LiveIndex$Looks", "ever", "I", false)
  | 1 => ("LiveIndex$Looks", "log", "[I", true)
  | _ => ("LiveIndex$Looks", "kept", "I", false)
def tyX2 : Nat → FieldType := fun k => match k with
  | 0 => .int
  | 1 => .array .int
  | _ => .int
abbrev wsX20 : List Cond := u_ws RX2 TX2 3
theorem nmX2 : ∀ a, a < 3 → ∀ b, b < 3 → a ≠ b → (TX2 a).2.1 ≠ (TX2 b).2.1 := by decide +kernel
theorem tyX2_ok : ∀ k, k < 3 → parseFieldDescriptor (TX2 k).2.2.1 = some (tyX2 k) := by decide +kernel
abbrev cX2_init : ByteArray := prog_4_method_1_code
def yX2_init : MethodName := ⟨RX2, "<init>", "()V"⟩
abbrev cX2_start : ByteArray := prog_4_method_2_code
def yX2_start : MethodName := ⟨RX2, "start", "()I"⟩
abbrev cX2_end : ByteArray := prog_4_method_3_code
def yX2_end : MethodName := ⟨RX2, "end", "(I)V"⟩
abbrev cX2_ended : ByteArray := prog_4_method_4_code
def yX2_ended : MethodName := ⟨RX2, "ended", "(I)I"⟩
def RX3 : String := "LiveIndex$Merge"
def TX3 : u_T := fun k => match k with
  | 0 => ("LiveIndex$Merge", "begun", "Z", false)
  | 1 => ("LiveIndex$Merge", "first", "I", false)
  | 2 => ("LiveIndex$Merge", "width", "I", false)
  | _ => ("LiveIndex$Merge", "left", "[J", true)
def tyX3 : Nat → FieldType := fun k => match k with
  | 0 => .boolean
  | 1 => .int
  | 2 => .int
  | _ => .array .long
abbrev wsX30 : List Cond := u_ws RX3 TX3 4
theorem nmX3 : ∀ a, a < 4 → ∀ b, b < 4 → a ≠ b → (TX3 a).2.1 ≠ (TX3 b).2.1 := by decide +kernel
theorem tyX3_ok : ∀ k, k < 4 → parseFieldDescriptor (TX3 k).2.2.1 = some (tyX3 k) := by decide +kernel
abbrev cX3_init : ByteArray := prog_5_method_1_code
def yX3_init : MethodName := ⟨RX3, "<init>", "()V"⟩
abbrev cX3_start : ByteArray := prog_5_method_2_code
def yX3_start : MethodName := ⟨RX3, "start", "(LLiveIndex$Stand;II)V"⟩
abbrev cX3_howManyCome : ByteArray := prog_5_method_3_code
def yX3_howManyCome : MethodName := ⟨RX3, "howManyCome", "(LLiveIndex$Stand;)I"⟩
abbrev cX3_bring : ByteArray := prog_5_method_4_code
def yX3_bring : MethodName := ⟨RX3, "bring", "(LLiveIndex$Stand;[LLiveIndex$Doc;)J"⟩
def RX4 : String := "LiveIndex$Policy"
def TX4 : u_T := fun k => match k with
  | 0 => ("LiveIndex$Policy", "kind", "I", false)
  | _ => ("LiveIndex$Policy", "number", "I", false)
def tyX4 : Nat → FieldType := fun k => match k with
  | 0 => .int
  | _ => .int
abbrev wsX40 : List Cond := u_ws RX4 TX4 2
theorem nmX4 : ∀ a, a < 2 → ∀ b, b < 2 → a ≠ b → (TX4 a).2.1 ≠ (TX4 b).2.1 := by decide +kernel
theorem tyX4_ok : ∀ k, k < 2 → parseFieldDescriptor (TX4 k).2.2.1 = some (tyX4 k) := by decide +kernel
abbrev cX4_init : ByteArray := prog_6_method_1_code
def yX4_init : MethodName := ⟨RX4, "<init>", "()V"⟩
abbrev cX4_isUnder : ByteArray := prog_6_method_2_code
def yX4_isUnder : MethodName := ⟨RX4, "isUnder", "(I)Z"⟩
abbrev cX4_sizeOf : ByteArray := prog_6_method_3_code
def yX4_sizeOf : MethodName := ⟨RX4, "sizeOf", "(LLiveIndex$Stand;I)I"⟩
abbrev cX4_tierOf : ByteArray := prog_6_method_4_code
def yX4_tierOf : MethodName := ⟨RX4, "tierOf", "(LLiveIndex$Stand;I)I"⟩
abbrev cX4_width : ByteArray := prog_6_method_5_code
def yX4_width : MethodName := ⟨RX4, "width", "()I"⟩
abbrev cX4_choose : ByteArray := prog_6_method_6_code
def yX4_choose : MethodName := ⟨RX4, "choose", "(LLiveIndex$Stand;)I"⟩
abbrev cX4_isFit : ByteArray := prog_6_method_7_code
def yX4_isFit : MethodName := ⟨RX4, "isFit", "(LLiveIndex$Stand;I)Z"⟩
abbrev cX4_areOfOneTier : ByteArray := prog_6_method_8_code
def yX4_areOfOneTier : MethodName := ⟨RX4, "areOfOneTier", "(LLiveIndex$Stand;I)Z"⟩
abbrev cX4_areSmallTogether : ByteArray := prog_6_method_9_code
def yX4_areSmallTogether : MethodName := ⟨RX4, "areSmallTogether", "(LLiveIndex$Stand;I)Z"⟩
abbrev cX4_hasDropped : ByteArray := prog_6_method_10_code
def yX4_hasDropped : MethodName := ⟨RX4, "hasDropped", "(LLiveIndex$Stand;I)Z"⟩
def RX5 : String := "LiveIndex$Query"
def TX5 : u_T := fun k => match k with
  | 0 => ("LiveIndex$Query", "steps", "[I", true)
  | 1 => ("LiveIndex$Query", "ones", "[I", true)
  | 2 => ("LiveIndex$Query", "others", "[I", true)
  | 3 => ("LiveIndex$Query", "size", "I", false)
  | 4 => ("LiveIndex$Query", "phraseWords", "[I", true)
  | 5 => ("LiveIndex$Query", "phraseSize", "I", false)
  | _ => ("LiveIndex$Query", "pending", "[I", true)
def tyX5 : Nat → FieldType := fun k => match k with
  | 0 => .array .int
  | 1 => .array .int
  | 2 => .array .int
  | 3 => .int
  | 4 => .array .int
  | 5 => .int
  | _ => .array .int
abbrev wsX50 : List Cond := u_ws RX5 TX5 7
theorem nmX5 : ∀ a, a < 7 → ∀ b, b < 7 → a ≠ b → (TX5 a).2.1 ≠ (TX5 b).2.1 := by decide +kernel
theorem tyX5_ok : ∀ k, k < 7 → parseFieldDescriptor (TX5 k).2.2.1 = some (tyX5 k) := by decide +kernel
abbrev cX5_init : ByteArray := prog_7_method_1_code
def yX5_init : MethodName := ⟨RX5, "<init>", "()V"⟩
abbrev cX5_clear : ByteArray := prog_7_method_2_code
def yX5_clear : MethodName := ⟨RX5, "clear", "()V"⟩
abbrev cX5_put : ByteArray := prog_7_method_3_code
def yX5_put : MethodName := ⟨RX5, "put", "(III)V"⟩
abbrev cX5_putPhraseWord : ByteArray := prog_7_method_4_code
def yX5_putPhraseWord : MethodName := ⟨RX5, "putPhraseWord", "(I)V"⟩
abbrev cX5_putPhrase : ByteArray := prog_7_method_5_code
def yX5_putPhrase : MethodName := ⟨RX5, "putPhrase", "(I)V"⟩
abbrev cX5_worthIn : ByteArray := prog_7_method_6_code
def yX5_worthIn : MethodName := ⟨RX5, "worthIn", "([I)I"⟩
abbrev cX5_costIn : ByteArray := prog_7_method_7_code
def yX5_costIn : MethodName := ⟨RX5, "costIn", "(LLiveIndex$Stand;)I"⟩
abbrev cX5_leafWorth : ByteArray := prog_7_method_8_code
def yX5_leafWorth : MethodName := ⟨RX5, "leafWorth", "([II)I"⟩
abbrev cX5_leafCost : ByteArray := prog_7_method_9_code
def yX5_leafCost : MethodName := ⟨RX5, "leafCost", "(LLiveIndex$Segment;I)I"⟩
abbrev cX5_phraseCost : ByteArray := prog_7_method_10_code
def yX5_phraseCost : MethodName := ⟨RX5, "phraseCost", "(LLiveIndex$Segment;II)I"⟩
abbrev cX5_placesBetween : ByteArray := prog_7_method_11_code
def yX5_placesBetween : MethodName := ⟨RX5, "placesBetween", "([III)I"⟩
abbrev cX5_nearTwos : ByteArray := prog_7_method_12_code
def yX5_nearTwos : MethodName := ⟨RX5, "nearTwos", "([III)I"⟩
abbrev cX5_phrasesIn : ByteArray := prog_7_method_13_code
def yX5_phrasesIn : MethodName := ⟨RX5, "phrasesIn", "([III)I"⟩
def RX6 : String := "LiveIndex$QueryReader"
def TX6 : u_T := fun k => match k with
  | 0 => ("LiveIndex$QueryReader", "tape", "LLiveIndex$Tape;", true)
  | 1 => ("LiveIndex$QueryReader", "query", "LLiveIndex$Query;", false)
  | 2 => ("LiveIndex$QueryReader", "token", "I", false)
  | 3 => ("LiveIndex$QueryReader", "place", "I", false)
  | 4 => ("LiveIndex$QueryReader", "end", "I", false)
  | 5 => ("LiveIndex$QueryReader", "word", "I", false)
  | 6 => ("LiveIndex$QueryReader", "opened", "I", false)
  | _ => ("LiveIndex$QueryReader", "fault", "I", false)
def tyX6 : Nat → FieldType := fun k => match k with
  | 0 => .object "LiveIndex$Tape"
  | 1 => .object "LiveIndex$Query"
  | 2 => .int
  | 3 => .int
  | 4 => .int
  | 5 => .int
  | 6 => .int
  | _ => .int
abbrev wsX60 : List Cond := u_ws RX6 TX6 8
theorem nmX6 : ∀ a, a < 8 → ∀ b, b < 8 → a ≠ b → (TX6 a).2.1 ≠ (TX6 b).2.1 := by decide +kernel
theorem tyX6_ok : ∀ k, k < 8 → parseFieldDescriptor (TX6 k).2.2.1 = some (tyX6 k) := by decide +kernel
abbrev cX6_init : ByteArray := prog_8_method_1_code
def yX6_init : MethodName := ⟨RX6, "<init>", "(LLiveIndex$Tape;)V"⟩
abbrev cX6_read : ByteArray := prog_8_method_2_code
def yX6_read : MethodName := ⟨RX6, "read", "(LLiveIndex$Query;)I"⟩
abbrev cX6_refuse : ByteArray := prog_8_method_3_code
def yX6_refuse : MethodName := ⟨RX6, "refuse", "()V"⟩
abbrev cX6_next : ByteArray := prog_8_method_4_code
def yX6_next : MethodName := ⟨RX6, "next", "()V"⟩
abbrev cX6_wordToken : ByteArray := prog_8_method_5_code
def yX6_wordToken : MethodName := ⟨RX6, "wordToken", "(I)I"⟩
abbrev cX6_readEither : ByteArray := prog_8_method_6_code
def yX6_readEither : MethodName := ⟨RX6, "readEither", "()V"⟩
abbrev cX6_readBoth : ByteArray := prog_8_method_7_code
def yX6_readBoth : MethodName := ⟨RX6, "readBoth", "()V"⟩
abbrev cX6_readOne : ByteArray := prog_8_method_8_code
def yX6_readOne : MethodName := ⟨RX6, "readOne", "()V"⟩
abbrev cX6_readNot : ByteArray := prog_8_method_9_code
def yX6_readNot : MethodName := ⟨RX6, "readNot", "()V"⟩
abbrev cX6_readBrackets : ByteArray := prog_8_method_10_code
def yX6_readBrackets : MethodName := ⟨RX6, "readBrackets", "()V"⟩
abbrev cX6_readWord : ByteArray := prog_8_method_11_code
def yX6_readWord : MethodName := ⟨RX6, "readWord", "()V"⟩
abbrev cX6_readPhrase : ByteArray := prog_8_method_12_code
def yX6_readPhrase : MethodName := ⟨RX6, "readPhrase", "()V"⟩
def RX7 : String := "LiveIndex$Segment"
def TX7 : u_T := fun k => match k with
  | 0 => ("LiveIndex$Segment", "name", "I", true)
  | 1 => ("LiveIndex$Segment", "docs", "[LLiveIndex$Doc;", true)
  | 2 => ("LiveIndex$Segment", "words", "[I", true)
  | 3 => ("LiveIndex$Segment", "postings", "[I", true)
  | 4 => ("LiveIndex$Segment", "placeSums", "[I", true)
  | 5 => ("LiveIndex$Segment", "wordCount", "I", false)
  | _ => ("LiveIndex$Segment", "allPostings", "I", false)
def tyX7 : Nat → FieldType := fun k => match k with
  | 0 => .int
  | 1 => .array (.object "LiveIndex$Doc")
  | 2 => .array .int
  | 3 => .array .int
  | 4 => .array .int
  | 5 => .int
  | _ => .int
abbrev wsX70 : List Cond := u_ws RX7 TX7 7
theorem nmX7 : ∀ a, a < 7 → ∀ b, b < 7 → a ≠ b → (TX7 a).2.1 ≠ (TX7 b).2.1 := by decide +kernel
theorem tyX7_ok : ∀ k, k < 7 → parseFieldDescriptor (TX7 k).2.2.1 = some (tyX7 k) := by decide +kernel
abbrev cX7_init : ByteArray := prog_9_method_1_code
def yX7_init : MethodName := ⟨RX7, "<init>", "(I[LLiveIndex$Doc;)V"⟩
abbrev cX7_notePosting : ByteArray := prog_9_method_2_code
def yX7_notePosting : MethodName := ⟨RX7, "notePosting", "(II)V"⟩
abbrev cX7_firstNotBelow : ByteArray := prog_9_method_3_code
def yX7_firstNotBelow : MethodName := ⟨RX7, "firstNotBelow", "(I)I"⟩
abbrev cX7_postingsBetween : ByteArray := prog_9_method_4_code
def yX7_postingsBetween : MethodName := ⟨RX7, "postingsBetween", "(II)I"⟩
abbrev cX7_postingsOf : ByteArray := prog_9_method_5_code
def yX7_postingsOf : MethodName := ⟨RX7, "postingsOf", "(I)I"⟩
def RX8 : String := "LiveIndex$Sheet"
def TX8 : u_T := fun k => match k with
  | 0 => ("LiveIndex$Sheet", "items", "[I", true)
  | 1 => ("LiveIndex$Sheet", "sort", "I", false)
  | _ => ("LiveIndex$Sheet", "size", "I", false)
def tyX8 : Nat → FieldType := fun k => match k with
  | 0 => .array .int
  | 1 => .int
  | _ => .int
abbrev wsX80 : List Cond := u_ws RX8 TX8 3
theorem nmX8 : ∀ a, a < 3 → ∀ b, b < 3 → a ≠ b → (TX8 a).2.1 ≠ (TX8 b).2.1 := by decide +kernel
theorem tyX8_ok : ∀ k, k < 3 → parseFieldDescriptor (TX8 k).2.2.1 = some (tyX8 k) := by decide +kernel
abbrev cX8_init : ByteArray := prog_10_method_1_code
def yX8_init : MethodName := ⟨RX8, "<init>", "()V"⟩
abbrev cX8_isMissing : ByteArray := prog_10_method_2_code
def yX8_isMissing : MethodName := ⟨RX8, "isMissing", "()Z"⟩
abbrev cX8_become : ByteArray := prog_10_method_3_code
def yX8_become : MethodName := ⟨RX8, "become", "(II)V"⟩
abbrev cX8_hasItems : ByteArray := prog_10_method_4_code
def yX8_hasItems : MethodName := ⟨RX8, "hasItems", "(II)Z"⟩
abbrev cX8_put : ByteArray := prog_10_method_5_code
def yX8_put : MethodName := ⟨RX8, "put", "(II)V"⟩
abbrev cX8_firstOtherwise : ByteArray := prog_10_method_6_code
def yX8_firstOtherwise : MethodName := ⟨RX8, "firstOtherwise", "([II)I"⟩
def RX9 : String := "LiveIndex$Stand"
def TX9 : u_T := fun k => match k with
  | 0 => ("LiveIndex$Stand", "segments", "[LLiveIndex$Segment;", true)
  | 1 => ("LiveIndex$Stand", "dropped", "[J", true)
  | 2 => ("LiveIndex$Stand", "size", "I", false)
  | _ => ("LiveIndex$Stand", "there", "Z", false)
def tyX9 : Nat → FieldType := fun k => match k with
  | 0 => .array (.object "LiveIndex$Segment")
  | 1 => .array .long
  | 2 => .int
  | _ => .boolean
abbrev wsX90 : List Cond := u_ws RX9 TX9 4
theorem nmX9 : ∀ a, a < 4 → ∀ b, b < 4 → a ≠ b → (TX9 a).2.1 ≠ (TX9 b).2.1 := by decide +kernel
theorem tyX9_ok : ∀ k, k < 4 → parseFieldDescriptor (TX9 k).2.2.1 = some (tyX9 k) := by decide +kernel
abbrev cX9_init : ByteArray := prog_11_method_1_code
def yX9_init : MethodName := ⟨RX9, "<init>", "()V"⟩
abbrev cX9_become : ByteArray := prog_11_method_2_code
def yX9_become : MethodName := ⟨RX9, "become", "(LLiveIndex$Stand;)V"⟩
abbrev cX9_append : ByteArray := prog_11_method_3_code
def yX9_append : MethodName := ⟨RX9, "append", "(LLiveIndex$Segment;)V"⟩
abbrev cX9_remove : ByteArray := prog_11_method_4_code
def yX9_remove : MethodName := ⟨RX9, "remove", "(II)V"⟩
abbrev cX9_isDropped : ByteArray := prog_11_method_5_code
def yX9_isDropped : MethodName := ⟨RX9, "isDropped", "(II)Z"⟩
abbrev cX9_liveIn : ByteArray := prog_11_method_6_code
def yX9_liveIn : MethodName := ⟨RX9, "liveIn", "(I)I"⟩
abbrev cX9_liveBetween : ByteArray := prog_11_method_7_code
def yX9_liveBetween : MethodName := ⟨RX9, "liveBetween", "(II)I"⟩
abbrev cX9_allDocs : ByteArray := prog_11_method_8_code
def yX9_allDocs : MethodName := ⟨RX9, "allDocs", "()I"⟩
abbrev cX9_hasName : ByteArray := prog_11_method_9_code
def yX9_hasName : MethodName := ⟨RX9, "hasName", "(I)Z"⟩
def RX10 : String := "LiveIndex$Tape"
def TX10 : u_T := fun k => match k with
  | 0 => ("LiveIndex$Tape", "bytes", "[I", true)
  | 1 => ("LiveIndex$Tape", "size", "I", false)
  | 2 => ("LiveIndex$Tape", "words", "[I", true)
  | _ => ("LiveIndex$Tape", "wordCount", "I", false)
def tyX10 : Nat → FieldType := fun k => match k with
  | 0 => .array .int
  | 1 => .int
  | 2 => .array .int
  | _ => .int
abbrev wsX100 : List Cond := u_ws RX10 TX10 4
theorem nmX10 : ∀ a, a < 4 → ∀ b, b < 4 → a ≠ b → (TX10 a).2.1 ≠ (TX10 b).2.1 := by decide +kernel
theorem tyX10_ok : ∀ k, k < 4 → parseFieldDescriptor (TX10 k).2.2.1 = some (tyX10 k) := by decide +kernel
abbrev cX10_init : ByteArray := prog_12_method_1_code
def yX10_init : MethodName := ⟨RX10, "<init>", "()V"⟩
abbrev cX10_append : ByteArray := prog_12_method_2_code
def yX10_append : MethodName := ⟨RX10, "append", "(I)V"⟩
abbrev cX10_readDocument : ByteArray := prog_12_method_3_code
def yX10_readDocument : MethodName := ⟨RX10, "readDocument", "()I"⟩
abbrev cX10_wordsRead : ByteArray := prog_12_method_4_code
def yX10_wordsRead : MethodName := ⟨RX10, "wordsRead", "()[I"⟩
abbrev cX10_behindBlanks : ByteArray := prog_12_method_5_code
def yX10_behindBlanks : MethodName := ⟨RX10, "behindBlanks", "(I)I"⟩
abbrev cX10_wordEnd : ByteArray := prog_12_method_6_code
def yX10_wordEnd : MethodName := ⟨RX10, "wordEnd", "(I)I"⟩
abbrev cX10_wordBetween : ByteArray := prog_12_method_7_code
def yX10_wordBetween : MethodName := ⟨RX10, "wordBetween", "(II)I"⟩
abbrev cX10_lettersAlone : ByteArray := prog_12_method_8_code
def yX10_lettersAlone : MethodName := ⟨RX10, "lettersAlone", "(I)I"⟩
def RX11 : String := "LiveIndex"
def TX11 : u_T := fun k => match k with
  | 0 => ("LiveIndex", "tape", "LLiveIndex$Tape;", true)
  | 1 => ("LiveIndex", "buffer", "[LLiveIndex$Doc;", true)
  | 2 => ("LiveIndex", "buffered", "I", false)
  | 3 => ("LiveIndex", "now", "LLiveIndex$Stand;", true)
  | 4 => ("LiveIndex", "written", "LLiveIndex$Stand;", true)
  | 5 => ("LiveIndex", "committed", "LLiveIndex$Stand;", true)
  | 6 => ("LiveIndex", "views", "[LLiveIndex$Stand;", true)
  | 7 => ("LiveIndex", "holders", "[LLiveIndex$Stand;", true)
  | 8 => ("LiveIndex", "names", "I", false)
  | 9 => ("LiveIndex", "policy", "LLiveIndex$Policy;", true)
  | 10 => ("LiveIndex", "merge", "LLiveIndex$Merge;", true)
  | 11 => ("LiveIndex", "limit", "I", false)
  | 12 => ("LiveIndex", "queries", "[LLiveIndex$Query;", true)
  | 13 => ("LiveIndex", "asked", "I", false)
  | 14 => ("LiveIndex", "reader", "LLiveIndex$QueryReader;", true)
  | 15 => ("LiveIndex", "looks", "LLiveIndex$Looks;", true)
  | 16 => ("LiveIndex", "sheets", "[LLiveIndex$Sheet;", true)
  | 17 => ("LiveIndex", "hits", "LLiveIndex$Hits;", true)
  | 18 => ("LiveIndex", "otherHits", "LLiveIndex$Hits;", true)
  | _ => ("LiveIndex", "leastCosts", "[I", true)
def tyX11 : Nat → FieldType := fun k => match k with
  | 0 => .object "LiveIndex$Tape"
  | 1 => .array (.object "LiveIndex$Doc")
  | 2 => .int
  | 3 => .object "LiveIndex$Stand"
  | 4 => .object "LiveIndex$Stand"
  | 5 => .object "LiveIndex$Stand"
  | 6 => .array (.object "LiveIndex$Stand")
  | 7 => .array (.object "LiveIndex$Stand")
  | 8 => .int
  | 9 => .object "LiveIndex$Policy"
  | 10 => .object "LiveIndex$Merge"
  | 11 => .int
  | 12 => .array (.object "LiveIndex$Query")
  | 13 => .int
  | 14 => .object "LiveIndex$QueryReader"
  | 15 => .object "LiveIndex$Looks"
  | 16 => .array (.object "LiveIndex$Sheet")
  | 17 => .object "LiveIndex$Hits"
  | 18 => .object "LiveIndex$Hits"
  | _ => .array .int
abbrev wsX110 : List Cond := u_ws RX11 TX11 20
theorem nmX11 : ∀ a, a < 20 → ∀ b, b < 20 → a ≠ b → (TX11 a).2.1 ≠ (TX11 b).2.1 := by decide +kernel
theorem tyX11_ok : ∀ k, k < 20 → parseFieldDescriptor (TX11 k).2.2.1 = some (tyX11 k) := by decide +kernel
abbrev cX11_init : ByteArray := prog_1_method_1_code
def yX11_init : MethodName := ⟨RX11, "<init>", "()V"⟩
abbrev cX11_feed : ByteArray := prog_1_method_2_code
def yX11_feed : MethodName := ⟨RX11, "feed", "(IIIIII)I"⟩
abbrev cX11_add : ByteArray := prog_1_method_3_code
def yX11_add : MethodName := ⟨RX11, "add", "(I)I"⟩
abbrev cX11_drop : ByteArray := prog_1_method_4_code
def yX11_drop : MethodName := ⟨RX11, "drop", "(I)I"⟩
abbrev cX11_dropBy : ByteArray := prog_1_method_5_code
def yX11_dropBy : MethodName := ⟨RX11, "dropBy", "(I)I"⟩
abbrev cX11_flush : ByteArray := prog_1_method_6_code
def yX11_flush : MethodName := ⟨RX11, "flush", "()I"⟩
abbrev cX11_where : ByteArray := prog_1_method_7_code
def yX11_where : MethodName := ⟨RX11, "where", "(I)I"⟩
abbrev cX11_isByte : ByteArray := prog_1_method_8_code
def yX11_isByte : MethodName := ⟨RX11, "isByte", "(I)Z"⟩
abbrev cX11_isKey : ByteArray := prog_1_method_9_code
def yX11_isKey : MethodName := ⟨RX11, "isKey", "(I)Z"⟩
abbrev cX11_placeInBuffer : ByteArray := prog_1_method_10_code
def yX11_placeInBuffer : MethodName := ⟨RX11, "placeInBuffer", "(I)I"⟩
abbrev cX11_placeInSegments : ByteArray := prog_1_method_11_code
def yX11_placeInSegments : MethodName := ⟨RX11, "placeInSegments", "(I)I"⟩
abbrev cX11_dropLive : ByteArray := prog_1_method_12_code
def yX11_dropLive : MethodName := ⟨RX11, "dropLive", "(I)I"⟩
abbrev cX11_told : ByteArray := prog_1_method_13_code
def yX11_told : MethodName := ⟨RX11, "told", "(II)I"⟩
abbrev cX11_doc : ByteArray := prog_1_method_14_code
def yX11_doc : MethodName := ⟨RX11, "doc", "(III)I"⟩
abbrev cX11_word : ByteArray := prog_1_method_15_code
def yX11_word : MethodName := ⟨RX11, "word", "(III)I"⟩
abbrev cX11_set : ByteArray := prog_1_method_16_code
def yX11_set : MethodName := ⟨RX11, "set", "(II)I"⟩
abbrev cX11_taken : ByteArray := prog_1_method_17_code
def yX11_taken : MethodName := ⟨RX11, "taken", "(I)I"⟩
abbrev cX11_choice : ByteArray := prog_1_method_18_code
def yX11_choice : MethodName := ⟨RX11, "choice", "(I)I"⟩
abbrev cX11_begin : ByteArray := prog_1_method_19_code
def yX11_begin : MethodName := ⟨RX11, "begin", "()I"⟩
abbrev cX11_finish : ByteArray := prog_1_method_20_code
def yX11_finish : MethodName := ⟨RX11, "finish", "()I"⟩
abbrev cX11_leave : ByteArray := prog_1_method_21_code
def yX11_leave : MethodName := ⟨RX11, "leave", "()I"⟩
abbrev cX11_cheapest : ByteArray := prog_1_method_22_code
def yX11_cheapest : MethodName := ⟨RX11, "cheapest", "(I)I"⟩
abbrev cX11_isSegment : ByteArray := prog_1_method_23_code
def yX11_isSegment : MethodName := ⟨RX11, "isSegment", "(I)Z"⟩
abbrev cX11_viewsWith : ByteArray := prog_1_method_24_code
def yX11_viewsWith : MethodName := ⟨RX11, "viewsWith", "(I)I"⟩
abbrev cX11_splitCost : ByteArray := prog_1_method_25_code
def yX11_splitCost : MethodName := ⟨RX11, "splitCost", "(III)I"⟩
abbrev cX11_leastSplit : ByteArray := prog_1_method_26_code
def yX11_leastSplit : MethodName := ⟨RX11, "leastSplit", "(II)I"⟩
abbrev cX11_write : ByteArray := prog_1_method_27_code
def yX11_write : MethodName := ⟨RX11, "write", "()I"⟩
abbrev cX11_commit : ByteArray := prog_1_method_28_code
def yX11_commit : MethodName := ⟨RX11, "commit", "()I"⟩
abbrev cX11_crash : ByteArray := prog_1_method_29_code
def yX11_crash : MethodName := ⟨RX11, "crash", "()I"⟩
abbrev cX11_query : ByteArray := prog_1_method_30_code
def yX11_query : MethodName := ⟨RX11, "query", "()I"⟩
abbrev cX11_open : ByteArray := prog_1_method_31_code
def yX11_open : MethodName := ⟨RX11, "open", "(I)I"⟩
abbrev cX11_shut : ByteArray := prog_1_method_32_code
def yX11_shut : MethodName := ⟨RX11, "shut", "(I)I"⟩
abbrev cX11_found : ByteArray := prog_1_method_33_code
def yX11_found : MethodName := ⟨RX11, "found", "(III)I"⟩
abbrev cX11_look : ByteArray := prog_1_method_34_code
def yX11_look : MethodName := ⟨RX11, "look", "(II)I"⟩
abbrev cX11_both : ByteArray := prog_1_method_35_code
def yX11_both : MethodName := ⟨RX11, "both", "(III)I"⟩
abbrev cX11_silence : ByteArray := prog_1_method_36_code
def yX11_silence : MethodName := ⟨RX11, "silence", "(II)I"⟩
abbrev cX11_tells : ByteArray := prog_1_method_37_code
def yX11_tells : MethodName := ⟨RX11, "tells", "(IIII)I"⟩
abbrev cX11_film : ByteArray := prog_1_method_38_code
def yX11_film : MethodName := ⟨RX11, "film", "(III)I"⟩
abbrev cX11_count : ByteArray := prog_1_method_39_code
def yX11_count : MethodName := ⟨RX11, "count", "(I)I"⟩
abbrev cX11_isQuery : ByteArray := prog_1_method_40_code
def yX11_isQuery : MethodName := ⟨RX11, "isQuery", "(I)Z"⟩
abbrev cX11_isView : ByteArray := prog_1_method_41_code
def yX11_isView : MethodName := ⟨RX11, "isView", "(I)Z"⟩
abbrev cX11_isDear : ByteArray := prog_1_method_42_code
def yX11_isDear : MethodName := ⟨RX11, "isDear", "(I)Z"⟩
abbrev cX11_answer : ByteArray := prog_1_method_43_code
def yX11_answer : MethodName := ⟨RX11, "answer", "(LLiveIndex$Query;LLiveIndex$Stand;I)I"⟩
abbrev cX11_foundByOther : ByteArray := prog_1_method_44_code
def yX11_foundByOther : MethodName := ⟨RX11, "foundByOther", "(II)I"⟩
abbrev cX11_firstOtherwise : ByteArray := prog_1_method_45_code
def yX11_firstOtherwise : MethodName := ⟨RX11, "firstOtherwise", "(III)I"⟩
abbrev cX11_queriesToldBy : ByteArray := prog_1_method_46_code
def yX11_queriesToldBy : MethodName := ⟨RX11, "queriesToldBy", "(II)I"⟩
abbrev cX11_viewsToldBy : ByteArray := prog_1_method_47_code
def yX11_viewsToldBy : MethodName := ⟨RX11, "viewsToldBy", "(II)I"⟩
abbrev cX11_openViews : ByteArray := prog_1_method_48_code
def yX11_openViews : MethodName := ⟨RX11, "openViews", "()I"⟩
abbrev cX11_heldSegments : ByteArray := prog_1_method_49_code
def yX11_heldSegments : MethodName := ⟨RX11, "heldSegments", "()I"⟩
abbrev cX11_isHeldBefore : ByteArray := prog_1_method_50_code
def yX11_isHeldBefore : MethodName := ⟨RX11, "isHeldBefore", "(II)Z"⟩
abbrev cX11_sheet : ByteArray := prog_1_method_51_code
def yX11_sheet : MethodName := ⟨RX11, "sheet", "(III)I"⟩
abbrev cX11_cell : ByteArray := prog_1_method_52_code
def yX11_cell : MethodName := ⟨RX11, "cell", "(III)I"⟩
abbrev cX11_copy : ByteArray := prog_1_method_53_code
def yX11_copy : MethodName := ⟨RX11, "copy", "(IIIII)I"⟩
abbrev cX11_isSheet : ByteArray := prog_1_method_54_code
def yX11_isSheet : MethodName := ⟨RX11, "isSheet", "(I)Z"⟩
def RX12 : String := "LiveIndexModel"
def TX12 : u_T := fun k => match k with
  | 0 => ("LiveIndexModel", "documents", "I", false)
  | 1 => ("LiveIndexModel", "keys", "[I", true)
  | 2 => ("LiveIndexModel", "sizes", "[I", true)
  | 3 => ("LiveIndexModel", "words", "[[I", true)
  | 4 => ("LiveIndexModel", "isDropped", "[Z", true)
  | 5 => ("LiveIndexModel", "segmentsEver", "I", false)
  | 6 => ("LiveIndexModel", "names", "[I", true)
  | 7 => ("LiveIndexModel", "lengths", "[I", true)
  | 8 => ("LiveIndexModel", "members", "[[I", true)
  | 9 => ("LiveIndexModel", "isThere", "[Z", true)
  | 10 => ("LiveIndexModel", "counts", "[I", true)
  | 11 => ("LiveIndexModel", "rows", "[[I", true)
  | 12 => ("LiveIndexModel", "wasDropped", "[[Z", true)
  | 13 => ("LiveIndexModel", "segments", "I", false)
  | 14 => ("LiveIndexModel", "standing", "[I", true)
  | 15 => ("LiveIndexModel", "buffered", "I", false)
  | 16 => ("LiveIndexModel", "buffer", "[I", true)
  | 17 => ("LiveIndexModel", "tape", "[I", true)
  | 18 => ("LiveIndexModel", "taped", "I", false)
  | 19 => ("LiveIndexModel", "newWords", "[I", true)
  | 20 => ("LiveIndexModel", "newMany", "I", false)
  | 21 => ("LiveIndexModel", "policy", "I", false)
  | 22 => ("LiveIndexModel", "number", "I", false)
  | 23 => ("LiveIndexModel", "limit", "I", false)
  | 24 => ("LiveIndexModel", "isBegun", "Z", false)
  | 25 => ("LiveIndexModel", "firstOfMerge", "I", false)
  | 26 => ("LiveIndexModel", "wideOfMerge", "I", false)
  | 27 => ("LiveIndexModel", "coming", "I", false)
  | 28 => ("LiveIndexModel", "come", "[I", true)
  | 29 => ("LiveIndexModel", "costs", "[[I", true)
  | 30 => ("LiveIndexModel", "queries", "I", false)
  | 31 => ("LiveIndexModel", "marks", "[[I", true)
  | 32 => ("LiveIndexModel", "markMany", "[I", true)
  | 33 => ("LiveIndexModel", "newMarks", "[I", true)
  | 34 => ("LiveIndexModel", "newSize", "I", false)
  | 35 => ("LiveIndexModel", "at", "I", false)
  | 36 => ("LiveIndexModel", "begin", "I", false)
  | 37 => ("LiveIndexModel", "token", "I", false)
  | 38 => ("LiveIndexModel", "value", "I", false)
  | 39 => ("LiveIndexModel", "opened", "I", false)
  | 40 => ("LiveIndexModel", "isWrong", "Z", false)
  | 41 => ("LiveIndexModel", "heap", "[I", true)
  | 42 => ("LiveIndexModel", "foundMany", "I", false)
  | 43 => ("LiveIndexModel", "foundSum", "I", false)
  | 44 => ("LiveIndexModel", "found", "[I", true)
  | 45 => ("LiveIndexModel", "foundWorth", "[I", true)
  | 46 => ("LiveIndexModel", "looks", "I", false)
  | 47 => ("LiveIndexModel", "logged", "I", false)
  | 48 => ("LiveIndexModel", "log", "[I", true)
  | 49 => ("LiveIndexModel", "foundAhead", "[I", true)
  | 50 => ("LiveIndexModel", "sorts", "[I", true)
  | 51 => ("LiveIndexModel", "sizesOfSheets", "[I", true)
  | 52 => ("LiveIndexModel", "items", "[[I", true)
  | _ => ("LiveIndexModel", "passed", "[I", true)
def tyX12 : Nat → FieldType := fun k => match k with
  | 0 => .int
  | 1 => .array .int
  | 2 => .array .int
  | 3 => .array (.array .int)
  | 4 => .array .boolean
  | 5 => .int
  | 6 => .array .int
  | 7 => .array .int
  | 8 => .array (.array .int)
  | 9 => .array .boolean
  | 10 => .array .int
  | 11 => .array (.array .int)
  | 12 => .array (.array .boolean)
  | 13 => .int
  | 14 => .array .int
  | 15 => .int
  | 16 => .array .int
  | 17 => .array .int
  | 18 => .int
  | 19 => .array .int
  | 20 => .int
  | 21 => .int
  | 22 => .int
  | 23 => .int
  | 24 => .boolean
  | 25 => .int
  | 26 => .int
  | 27 => .int
  | 28 => .array .int
  | 29 => .array (.array .int)
  | 30 => .int
  | 31 => .array (.array .int)
  | 32 => .array .int
  | 33 => .array .int
  | 34 => .int
  | 35 => .int
  | 36 => .int
  | 37 => .int
  | 38 => .int
  | 39 => .int
  | 40 => .boolean
  | 41 => .array .int
  | 42 => .int
  | 43 => .int
  | 44 => .array .int
  | 45 => .array .int
  | 46 => .int
  | 47 => .int
  | 48 => .array .int
  | 49 => .array .int
  | 50 => .array .int
  | 51 => .array .int
  | 52 => .array (.array .int)
  | _ => .array .int
abbrev wsX120 : List Cond := u_ws RX12 TX12 54
theorem nmX12 : ∀ a, a < 54 → ∀ b, b < 54 → a ≠ b → (TX12 a).2.1 ≠ (TX12 b).2.1 := by decide +kernel
theorem tyX12_ok : ∀ k, k < 54 → parseFieldDescriptor (TX12 k).2.2.1 = some (tyX12 k) := by decide +kernel
abbrev cX12_init : ByteArray := prog_14_method_1_code
def yX12_init : MethodName := ⟨RX12, "<init>", "()V"⟩
abbrev cX12_in : ByteArray := prog_14_method_2_code
def yX12_in : MethodName := ⟨RX12, "in", "(III)Z"⟩
abbrev cX12_isSegment : ByteArray := prog_14_method_3_code
def yX12_isSegment : MethodName := ⟨RX12, "isSegment", "(I)Z"⟩
abbrev cX12_isKey : ByteArray := prog_14_method_4_code
def yX12_isKey : MethodName := ⟨RX12, "isKey", "(I)Z"⟩
abbrev cX12_isView : ByteArray := prog_14_method_5_code
def yX12_isView : MethodName := ⟨RX12, "isView", "(I)Z"⟩
abbrev cX12_isQuery : ByteArray := prog_14_method_6_code
def yX12_isQuery : MethodName := ⟨RX12, "isQuery", "(I)Z"⟩
abbrev cX12_isByte : ByteArray := prog_14_method_7_code
def yX12_isByte : MethodName := ⟨RX12, "isByte", "(I)Z"⟩
abbrev cX12_feed : ByteArray := prog_14_method_8_code
def yX12_feed : MethodName := ⟨RX12, "feed", "(IIIIII)I"⟩
abbrev cX12_byteAt : ByteArray := prog_14_method_9_code
def yX12_byteAt : MethodName := ⟨RX12, "byteAt", "(I)I"⟩
abbrev cX12_isLetter : ByteArray := prog_14_method_10_code
def yX12_isLetter : MethodName := ⟨RX12, "isLetter", "(I)Z"⟩
abbrev cX12_isBlank : ByteArray := prog_14_method_11_code
def yX12_isBlank : MethodName := ⟨RX12, "isBlank", "(I)Z"⟩
abbrev cX12_wordFrom : ByteArray := prog_14_method_12_code
def yX12_wordFrom : MethodName := ⟨RX12, "wordFrom", "(II)I"⟩
abbrev cX12_document : ByteArray := prog_14_method_13_code
def yX12_document : MethodName := ⟨RX12, "document", "()I"⟩
abbrev cX12_bufferPlace : ByteArray := prog_14_method_14_code
def yX12_bufferPlace : MethodName := ⟨RX12, "bufferPlace", "(I)I"⟩
abbrev cX12_segmentPlace : ByteArray := prog_14_method_15_code
def yX12_segmentPlace : MethodName := ⟨RX12, "segmentPlace", "(I)I"⟩
abbrev cX12_drop : ByteArray := prog_14_method_16_code
def yX12_drop : MethodName := ⟨RX12, "drop", "(I)I"⟩
abbrev cX12_add : ByteArray := prog_14_method_17_code
def yX12_add : MethodName := ⟨RX12, "add", "(I)I"⟩
abbrev cX12_where : ByteArray := prog_14_method_18_code
def yX12_where : MethodName := ⟨RX12, "where", "(I)I"⟩
abbrev cX12_held : ByteArray := prog_14_method_19_code
def yX12_held : MethodName := ⟨RX12, "held", "()I"⟩
abbrev cX12_newSegment : ByteArray := prog_14_method_20_code
def yX12_newSegment : MethodName := ⟨RX12, "newSegment", "()I"⟩
abbrev cX12_joins : ByteArray := prog_14_method_21_code
def yX12_joins : MethodName := ⟨RX12, "joins", "(II)V"⟩
abbrev cX12_flush : ByteArray := prog_14_method_22_code
def yX12_flush : MethodName := ⟨RX12, "flush", "()I"⟩
abbrev cX12_liveOf : ByteArray := prog_14_method_23_code
def yX12_liveOf : MethodName := ⟨RX12, "liveOf", "(I)I"⟩
abbrev cX12_hasWord : ByteArray := prog_14_method_24_code
def yX12_hasWord : MethodName := ⟨RX12, "hasWord", "(II)Z"⟩
abbrev cX12_postings : ByteArray := prog_14_method_25_code
def yX12_postings : MethodName := ⟨RX12, "postings", "(II)I"⟩
abbrev cX12_wordAbove : ByteArray := prog_14_method_26_code
def yX12_wordAbove : MethodName := ⟨RX12, "wordAbove", "(II)I"⟩
abbrev cX12_dictionary : ByteArray := prog_14_method_27_code
def yX12_dictionary : MethodName := ⟨RX12, "dictionary", "(IZ)I"⟩
abbrev cX12_plainWord : ByteArray := prog_14_method_28_code
def yX12_plainWord : MethodName := ⟨RX12, "plainWord", "(I)I"⟩
abbrev cX12_word : ByteArray := prog_14_method_29_code
def yX12_word : MethodName := ⟨RX12, "word", "(III)I"⟩
abbrev cX12_size : ByteArray := prog_14_method_30_code
def yX12_size : MethodName := ⟨RX12, "size", "(I)I"⟩
abbrev cX12_tier : ByteArray := prog_14_method_31_code
def yX12_tier : MethodName := ⟨RX12, "tier", "(I)I"⟩
abbrev cX12_width : ByteArray := prog_14_method_32_code
def yX12_width : MethodName := ⟨RX12, "width", "()I"⟩
abbrev cX12_fits : ByteArray := prog_14_method_33_code
def yX12_fits : MethodName := ⟨RX12, "fits", "(II)Z"⟩
abbrev cX12_chosen : ByteArray := prog_14_method_34_code
def yX12_chosen : MethodName := ⟨RX12, "chosen", "()I"⟩
abbrev cX12_set : ByteArray := prog_14_method_35_code
def yX12_set : MethodName := ⟨RX12, "set", "(II)I"⟩
abbrev cX12_taken : ByteArray := prog_14_method_36_code
def yX12_taken : MethodName := ⟨RX12, "taken", "(I)I"⟩
abbrev cX12_liveIn : ByteArray := prog_14_method_37_code
def yX12_liveIn : MethodName := ⟨RX12, "liveIn", "(II)I"⟩
abbrev cX12_choice : ByteArray := prog_14_method_38_code
def yX12_choice : MethodName := ⟨RX12, "choice", "(I)I"⟩
abbrev cX12_begin : ByteArray := prog_14_method_39_code
def yX12_begin : MethodName := ⟨RX12, "begin", "()I"⟩
abbrev cX12_finish : ByteArray := prog_14_method_40_code
def yX12_finish : MethodName := ⟨RX12, "finish", "()I"⟩
abbrev cX12_leave : ByteArray := prog_14_method_41_code
def yX12_leave : MethodName := ⟨RX12, "leave", "()I"⟩
abbrev cX12_costOf : ByteArray := prog_14_method_42_code
def yX12_costOf : MethodName := ⟨RX12, "costOf", "(III)I"⟩
abbrev cX12_cheapest : ByteArray := prog_14_method_43_code
def yX12_cheapest : MethodName := ⟨RX12, "cheapest", "(I)I"⟩
abbrev cX12_lay : ByteArray := prog_14_method_44_code
def yX12_lay : MethodName := ⟨RX12, "lay", "(I)V"⟩
abbrev cX12_handOn : ByteArray := prog_14_method_45_code
def yX12_handOn : MethodName := ⟨RX12, "handOn", "(II)V"⟩
abbrev cX12_stands : ByteArray := prog_14_method_46_code
def yX12_stands : MethodName := ⟨RX12, "stands", "(II)Z"⟩
abbrev cX12_heldSegments : ByteArray := prog_14_method_47_code
def yX12_heldSegments : MethodName := ⟨RX12, "heldSegments", "()I"⟩
abbrev cX12_write : ByteArray := prog_14_method_48_code
def yX12_write : MethodName := ⟨RX12, "write", "()I"⟩
abbrev cX12_commit : ByteArray := prog_14_method_49_code
def yX12_commit : MethodName := ⟨RX12, "commit", "()I"⟩
abbrev cX12_crash : ByteArray := prog_14_method_50_code
def yX12_crash : MethodName := ⟨RX12, "crash", "()I"⟩
abbrev cX12_openViews : ByteArray := prog_14_method_51_code
def yX12_openViews : MethodName := ⟨RX12, "openViews", "(I)I"⟩
abbrev cX12_told : ByteArray := prog_14_method_52_code
def yX12_told : MethodName := ⟨RX12, "told", "(II)I"⟩
abbrev cX12_doc : ByteArray := prog_14_method_53_code
def yX12_doc : MethodName := ⟨RX12, "doc", "(III)I"⟩
abbrev cX12_open : ByteArray := prog_14_method_54_code
def yX12_open : MethodName := ⟨RX12, "open", "(I)I"⟩
abbrev cX12_shut : ByteArray := prog_14_method_55_code
def yX12_shut : MethodName := ⟨RX12, "shut", "(I)I"⟩
abbrev cX12_keyAt : ByteArray := prog_14_method_56_code
def yX12_keyAt : MethodName := ⟨RX12, "keyAt", "(II)I"⟩
abbrev cX12_wordOf : ByteArray := prog_14_method_57_code
def yX12_wordOf : MethodName := ⟨RX12, "wordOf", "(Ljava/lang/String;)I"⟩
abbrev cX12_next : ByteArray := prog_14_method_58_code
def yX12_next : MethodName := ⟨RX12, "next", "()V"⟩
abbrev cX12_is : ByteArray := prog_14_method_59_code
def yX12_is : MethodName := ⟨RX12, "is", "(II)Z"⟩
abbrev cX12_mark : ByteArray := prog_14_method_60_code
def yX12_mark : MethodName := ⟨RX12, "mark", "(I)V"⟩
abbrev cX12_either : ByteArray := prog_14_method_61_code
def yX12_either : MethodName := ⟨RX12, "either", "()V"⟩
abbrev cX12_both : ByteArray := prog_14_method_62_code
def yX12_both : MethodName := ⟨RX12, "both", "()V"⟩
abbrev cX12_opens : ByteArray := prog_14_method_63_code
def yX12_opens : MethodName := ⟨RX12, "opens", "()V"⟩
abbrev cX12_one : ByteArray := prog_14_method_64_code
def yX12_one : MethodName := ⟨RX12, "one", "()V"⟩
abbrev cX12_plain : ByteArray := prog_14_method_65_code
def yX12_plain : MethodName := ⟨RX12, "plain", "()V"⟩
abbrev cX12_phrase : ByteArray := prog_14_method_66_code
def yX12_phrase : MethodName := ⟨RX12, "phrase", "()V"⟩
abbrev cX12_query : ByteArray := prog_14_method_67_code
def yX12_query : MethodName := ⟨RX12, "query", "()I"⟩
abbrev cX12_power : ByteArray := prog_14_method_68_code
def yX12_power : MethodName := ⟨RX12, "power", "(I)I"⟩
abbrev cX12_begins : ByteArray := prog_14_method_69_code
def yX12_begins : MethodName := ⟨RX12, "begins", "(III)Z"⟩
abbrev cX12_timesBegun : ByteArray := prog_14_method_70_code
def yX12_timesBegun : MethodName := ⟨RX12, "timesBegun", "(III)I"⟩
abbrev cX12_near : ByteArray := prog_14_method_71_code
def yX12_near : MethodName := ⟨RX12, "near", "(III)I"⟩
abbrev cX12_phraseTimes : ByteArray := prog_14_method_72_code
def yX12_phraseTimes : MethodName := ⟨RX12, "phraseTimes", "(I[III)I"⟩
abbrev cX12_worth : ByteArray := prog_14_method_73_code
def yX12_worth : MethodName := ⟨RX12, "worth", "(II)I"⟩
abbrev cX12_postingsBegun : ByteArray := prog_14_method_74_code
def yX12_postingsBegun : MethodName := ⟨RX12, "postingsBegun", "(III)I"⟩
abbrev cX12_costOfWord : ByteArray := prog_14_method_75_code
def yX12_costOfWord : MethodName := ⟨RX12, "costOfWord", "(III)I"⟩
abbrev cX12_cost : ByteArray := prog_14_method_76_code
def yX12_cost : MethodName := ⟨RX12, "cost", "(II)I"⟩
abbrev cX12_find : ByteArray := prog_14_method_77_code
def yX12_find : MethodName := ⟨RX12, "find", "(II)V"⟩
abbrev cX12_comes : ByteArray := prog_14_method_78_code
def yX12_comes : MethodName := ⟨RX12, "comes", "(II)V"⟩
abbrev cX12_isAsked : ByteArray := prog_14_method_79_code
def yX12_isAsked : MethodName := ⟨RX12, "isAsked", "(I)Z"⟩
abbrev cX12_answer : ByteArray := prog_14_method_80_code
def yX12_answer : MethodName := ⟨RX12, "answer", "(III)I"⟩
abbrev cX12_found : ByteArray := prog_14_method_81_code
def yX12_found : MethodName := ⟨RX12, "found", "(III)I"⟩
abbrev cX12_dropBy : ByteArray := prog_14_method_82_code
def yX12_dropBy : MethodName := ⟨RX12, "dropBy", "(I)I"⟩
abbrev cX12_shutLook : ByteArray := prog_14_method_83_code
def yX12_shutLook : MethodName := ⟨RX12, "shutLook", "(I)V"⟩
abbrev cX12_look : ByteArray := prog_14_method_84_code
def yX12_look : MethodName := ⟨RX12, "look", "(II)I"⟩
abbrev cX12_wasFound : ByteArray := prog_14_method_85_code
def yX12_wasFound : MethodName := ⟨RX12, "wasFound", "(I[II)Z"⟩
abbrev cX12_both_ : ByteArray := prog_14_method_86_code
def yX12_both_ : MethodName := ⟨RX12, "both", "(III)I"⟩
abbrev cX12_silence : ByteArray := prog_14_method_87_code
def yX12_silence : MethodName := ⟨RX12, "silence", "(II)I"⟩
abbrev cX12_otherwise : ByteArray := prog_14_method_88_code
def yX12_otherwise : MethodName := ⟨RX12, "otherwise", "(III)I"⟩
abbrev cX12_tells : ByteArray := prog_14_method_89_code
def yX12_tells : MethodName := ⟨RX12, "tells", "(IIII)I"⟩
abbrev cX12_film : ByteArray := prog_14_method_90_code
def yX12_film : MethodName := ⟨RX12, "film", "(III)I"⟩
abbrev cX12_liveMany : ByteArray := prog_14_method_91_code
def yX12_liveMany : MethodName := ⟨RX12, "liveMany", "()I"⟩
abbrev cX12_viewsOpen : ByteArray := prog_14_method_92_code
def yX12_viewsOpen : MethodName := ⟨RX12, "viewsOpen", "()I"⟩
abbrev cX12_count : ByteArray := prog_14_method_93_code
def yX12_count : MethodName := ⟨RX12, "count", "(I)I"⟩
abbrev cX12_isSheet : ByteArray := prog_14_method_94_code
def yX12_isSheet : MethodName := ⟨RX12, "isSheet", "(I)Z"⟩
abbrev cX12_sheet : ByteArray := prog_14_method_95_code
def yX12_sheet : MethodName := ⟨RX12, "sheet", "(III)I"⟩
abbrev cX12_cell : ByteArray := prog_14_method_96_code
def yX12_cell : MethodName := ⟨RX12, "cell", "(III)I"⟩
abbrev cX12_copy : ByteArray := prog_14_method_97_code
def yX12_copy : MethodName := ⟨RX12, "copy", "(IIIII)I"⟩
def RJ13 : String := "java/lang/Long"
def TJ13 : u_T := fun k => match k with
  | _ => ("", "", "", false)
def tyJ13 : Nat → FieldType := fun k => match k with
  | _ => .int
abbrev wsJ130 : List Cond := u_ws RJ13 TJ13 0
theorem nmJ13 : ∀ a, a < 0 → ∀ b, b < 0 → a ≠ b → (TJ13 a).2.1 ≠ (TJ13 b).2.1 := by decide +kernel
theorem tyJ13_ok : ∀ k, k < 0 → parseFieldDescriptor (TJ13 k).2.2.1 = some (tyJ13 k) := by decide +kernel
abbrev cJ13_bitCount_95d88 : ByteArray := prog_15_method_50_code
def yJ13_bitCount_95d88 : MethodName := ⟨RJ13, "bitCount", "(J)I"⟩
def RJ9 : String := "java/lang/Math"
def TJ9 : u_T := fun k => match k with
  | _ => ("", "", "", false)
def tyJ9 : Nat → FieldType := fun k => match k with
  | _ => .int
abbrev wsJ90 : List Cond := u_ws RJ9 TJ9 0
theorem nmJ9 : ∀ a, a < 0 → ∀ b, b < 0 → a ≠ b → (TJ9 a).2.1 ≠ (TJ9 b).2.1 := by decide +kernel
theorem tyJ9_ok : ∀ k, k < 0 → parseFieldDescriptor (TJ9 k).2.2.1 = some (tyJ9 k) := by decide +kernel
abbrev cJ9_abs_0f7a4 : ByteArray := prog_16_method_59_code
def yJ9_abs_0f7a4 : MethodName := ⟨RJ9, "abs", "(I)I"⟩
abbrev cJ9_max_7cf53 : ByteArray := prog_16_method_65_code
def yJ9_max_7cf53 : MethodName := ⟨RJ9, "max", "(II)I"⟩
abbrev cJ9_min_7cf53 : ByteArray := prog_16_method_69_code
def yJ9_min_7cf53 : MethodName := ⟨RJ9, "min", "(II)I"⟩
def RJ0 : String := "java/lang/String"
def TJ0 : u_T := fun k => match k with
  | _ => ("", "", "", false)
def tyJ0 : Nat → FieldType := fun k => match k with
  | _ => .int
abbrev wsJ00 : List Cond := u_ws RJ0 TJ0 0
theorem nmJ0 : ∀ a, a < 0 → ∀ b, b < 0 → a ≠ b → (TJ0 a).2.1 ≠ (TJ0 b).2.1 := by decide +kernel
theorem tyJ0_ok : ∀ k, k < 0 → parseFieldDescriptor (TJ0 k).2.2.1 = some (tyJ0 k) := by decide +kernel
abbrev cJ0_length_8abf5 : ByteArray := prog_17_method_54_code
def yJ0_length_8abf5 : MethodName := ⟨RJ0, "length", "()I"⟩
abbrev cJ0_charAt_5068e : ByteArray := prog_17_method_56_code
def yJ0_charAt_5068e : MethodName := ⟨RJ0, "charAt", "(I)C"⟩
abbrev cJ0_coder_7d493 : ByteArray := prog_17_method_152_code
def yJ0_coder_7d493 : MethodName := ⟨RJ0, "coder", "()B"⟩
abbrev cJ0_isLatin1_aae02 : ByteArray := prog_17_method_154_code
def yJ0_isLatin1_aae02 : MethodName := ⟨RJ0, "isLatin1", "()Z"⟩
abbrev cJ0_checkIndex_df160 : ByteArray := prog_17_method_155_code
def yJ0_checkIndex_df160 : MethodName := ⟨RJ0, "checkIndex", "(II)V"⟩
def RJ1 : String := "java/lang/StringLatin1"
def TJ1 : u_T := fun k => match k with
  | _ => ("", "", "", false)
def tyJ1 : Nat → FieldType := fun k => match k with
  | _ => .int
abbrev wsJ10 : List Cond := u_ws RJ1 TJ1 0
theorem nmJ1 : ∀ a, a < 0 → ∀ b, b < 0 → a ≠ b → (TJ1 a).2.1 ≠ (TJ1 b).2.1 := by decide +kernel
theorem tyJ1_ok : ∀ k, k < 0 → parseFieldDescriptor (TJ1 k).2.2.1 = some (tyJ1 k) := by decide +kernel
abbrev cJ1_charAt_3b067 : ByteArray := prog_18_method_2_code
def yJ1_charAt_3b067 : MethodName := ⟨RJ1, "charAt", "([BI)C"⟩
def RJ2 : String := "java/lang/StringUTF16"
def TJ2 : u_T := fun k => match k with
  | _ => ("", "", "", false)
def tyJ2 : Nat → FieldType := fun k => match k with
  | _ => .int
abbrev wsJ20 : List Cond := u_ws RJ2 TJ2 0
theorem nmJ2 : ∀ a, a < 0 → ∀ b, b < 0 → a ≠ b → (TJ2 a).2.1 ≠ (TJ2 b).2.1 := by decide +kernel
theorem tyJ2_ok : ∀ k, k < 0 → parseFieldDescriptor (TJ2 k).2.2.1 = some (tyJ2 k) := by decide +kernel
abbrev cJ2_getChar_3b067 : ByteArray := prog_19_method_5_code
def yJ2_getChar_3b067 : MethodName := ⟨RJ2, "getChar", "([BI)C"⟩
abbrev cJ2_length_9d52b : ByteArray := prog_19_method_6_code
def yJ2_length_9d52b : MethodName := ⟨RJ2, "length", "([B)I"⟩
abbrev cJ2_charAt_3b067 : ByteArray := prog_19_method_83_code
def yJ2_charAt_3b067 : MethodName := ⟨RJ2, "charAt", "([BI)C"⟩
abbrev cJ2_checkIndex_2214a : ByteArray := prog_19_method_91_code
def yJ2_checkIndex_2214a : MethodName := ⟨RJ2, "checkIndex", "(I[B)V"⟩
def RJ10 : String := "java/lang/System"
def TJ10 : u_T := fun k => match k with
  | _ => ("", "", "", false)
def tyJ10 : Nat → FieldType := fun k => match k with
  | _ => .int
abbrev wsJ100 : List Cond := u_ws RJ10 TJ10 0
theorem nmJ10 : ∀ a, a < 0 → ∀ b, b < 0 → a ≠ b → (TJ10 a).2.1 ≠ (TJ10 b).2.1 := by decide +kernel
theorem tyJ10_ok : ∀ k, k < 0 → parseFieldDescriptor (TJ10 k).2.2.1 = some (tyJ10 k) := by decide +kernel
def RJ3 : String := "jdk/internal/util/Preconditions"
def TJ3 : u_T := fun k => match k with
  | _ => ("", "", "", false)
def tyJ3 : Nat → FieldType := fun k => match k with
  | _ => .int
abbrev wsJ30 : List Cond := u_ws RJ3 TJ3 0
theorem nmJ3 : ∀ a, a < 0 → ∀ b, b < 0 → a ≠ b → (TJ3 a).2.1 ≠ (TJ3 b).2.1 := by decide +kernel
theorem tyJ3_ok : ∀ k, k < 0 → parseFieldDescriptor (TJ3 k).2.2.1 = some (tyJ3 k) := by decide +kernel
abbrev cJ3_checkIndex_8e157 : ByteArray := prog_21_method_11_code
def yJ3_checkIndex_8e157 : MethodName := ⟨RJ3, "checkIndex", "(IILjava/util/function/BiFunction;)I"⟩
def RL : String := "LiveIndexLaw"
abbrev cL_law : ByteArray := code
def yL_law : MethodName := ⟨RL, "law", "([I)Z"⟩
end
section
/-! THE PURE HEAP: how many cells; each cell's kind (0 .. 12 objects by class, 13 int[], 14 long[], 15 boolean[], 16 .. 20 arrays of objects, 21 int[][], 22 boolean[][]) and length; three memories: ints (as whole numbers within the range of an int), longs, references -/
abbrev AH : Type := Nat × (Nat → Nat × Nat) × (Nat → Nat → Int) × (Nat → Nat → Int64) × (Nat → Nat → Option Nat)
def nH (h : AH) : Nat := h.1
def kH (h : AH) (a : Nat) : Nat × Nat := h.2.1 a
def iH (h : AH) (a k : Nat) : Int := h.2.2.1 a k
def jH (h : AH) (a k : Nat) : Int64 := h.2.2.2.1 a k
def rH (h : AH) (a k : Nat) : Option Nat := h.2.2.2.2 a k
def u2 {α : Type} (f : Nat → Nat → α) (a k : Nat) (v : α) : Nat → Nat → α := fun x y => if x = a then (if y = k then v else f x y) else f x y
def r2 {α : Type} (f : Nat → Nat → α) (a : Nat) (g : Nat → α) : Nat → Nat → α := fun x y => if x = a then g y else f x y
def sI (h : AH) (a k : Nat) (v : Int) : AH := (h.1, h.2.1, u2 h.2.2.1 a k v, h.2.2.2.1, h.2.2.2.2)
def sJ (h : AH) (a k : Nat) (v : Int64) : AH := (h.1, h.2.1, h.2.2.1, u2 h.2.2.2.1 a k v, h.2.2.2.2)
def sR (h : AH) (a k : Nat) (v : Option Nat) : AH := (h.1, h.2.1, h.2.2.1, h.2.2.2.1, u2 h.2.2.2.2 a k v)
def sW (h : AH) (a : Nat) (g : Nat → Int) : AH := (h.1, h.2.1, r2 h.2.2.1 a g, h.2.2.2.1, h.2.2.2.2)
def nw (h : AH) (t n : Nat) : AH := (h.1 + 1, (fun x => if x = h.1 then (t, n) else h.2.1 x), r2 h.2.2.1 h.1 (fun _ => 0), r2 h.2.2.2.1 h.1 (fun _ => 0), r2 h.2.2.2.2 h.1 (fun _ => none))
/-- which fields of a kind are references -/
def fR (t : Nat) : List Bool := match t with
  | 0 => [false, true]
  | 1 => [true, true, true, false, false]
  | 2 => [false, true, false]
  | 3 => [false, false, false, true]
  | 4 => [false, false]
  | 5 => [true, true, true, false, true, false, true]
  | 6 => [true, true, false, false, false, false, false, false]
  | 7 => [false, true, true, true, true, false, false]
  | 8 => [true, false, false]
  | 9 => [true, true, false, false]
  | 10 => [true, false, true, false]
  | 11 => [true, true, false, true, true, true, true, true, false, true, true, false, true, false, true, true, true, true, true, true]
  | 12 => [false, true, true, true, true, false, true, true, true, true, true, true, true, false, true, false, true, true, false, true, false, false, false, false, false, false, false, false, true, true, false, true, true, true, false, false, false, false, false, false, false, true, false, false, true, true, false, false, true, true, true, true, true, true]
  | _ => []
abbrev vwCl : List vw_C := [(RX0, TX0, 2), (RX1, TX1, 5), (RX2, TX2, 3), (RX3, TX3, 4), (RX4, TX4, 2), (RX5, TX5, 7), (RX6, TX6, 8), (RX7, TX7, 7), (RX8, TX8, 3), (RX9, TX9, 4), (RX10, TX10, 4), (RX11, TX11, 20), (RX12, TX12, 54)]
def ov (b : Nat) (h : AH) (a t k : Nat) : Value := if (fR t).getD k false = true then va_rf ((rH h a k).map (fun x => b + x)) else .int (Int32.ofInt (iH h a k))
def ovs (b : Nat) (h : AH) (a t : Nat) : List Value := (List.range (fR t).length).map (ov b h a t)
def cE (cy : Nat → ClassId) (b : Nat) (h : AH) (a : Nat) : va_E :=
  if (kH h a).1 < 13 then .inr ((kH h a).1, ovs b h a (kH h a).1)
  else if (kH h a).1 = 14 then .inl (cy (kH h a).1, (kH h a).2, .inr (.inl (jH h a)))
  else if (kH h a).1 < 16 then .inl (cy (kH h a).1, (kH h a).2, .inl (fun j => Int32.ofInt (iH h a j)))
  else .inl (cy (kH h a).1, (kH h a).2, .inr (.inr (.inr (.inr (fun j => (rH h a j).map (fun x => b + x))))))
/-- a value: a whole number (an int), a long, a reference -/
abbrev AV : Type := Int ⊕ (Int64 ⊕ Option Nat)
abbrev vi (x : Int) : AV := .inl x
abbrev vl (x : Int64) : AV := .inr (.inl x)
abbrev vq (r : Option Nat) : AV := .inr (.inr r)
abbrev vr (a : Nat) : AV := .inr (.inr (some a))
def inr (x : Int) : Prop := -2147483648 ≤ x ∧ x < 2147483648
def okV (v : AV) : Prop := match v with
  | .inl x => inr x
  | _ => True
/-- the world: the pure heap stands in the machine's heap from b on, and is all that stands there -/
def Wd (D : va_G) (cy : Nat → ClassId) (b : Nat) (h : AH) (H : Heap) : Prop := H.size = b + nH h ∧ (∀ a, a < nH h → va_at D vwCl (b + a, cE cy b h a) H) ∧ ∀ a k, inr (iH h a k)
def cv (b : Nat) (v : AV) : Value := match v with
  | .inl x => .int (Int32.ofInt x)
  | .inr (.inl x) => .long x
  | .inr (.inr r) => va_rf (r.map (fun x => b + x))
def cat (v : AV) : Nat := match v with
  | .inr (.inl _) => 2
  | _ => 1
def lg : List (Option AV) → Nat → Option AV
  | [], _ => none
  | x :: _, 0 => x
  | _ :: l, n + 1 => lg l n
def lst : List (Option AV) → Nat → Option AV → List (Option AV)
  | [], _, _ => []
  | _ :: l, 0, v => v :: l
  | x :: l, n + 1, v => x :: lst l n v
def lvs (b : Nat) (lo : List (Option AV)) : List (Nat × Value) := (List.range lo.length).filterMap (fun i => (lg lo i).map (fun v => (i, cv b v)))
abbrev Lc (b : Nat) (n : Nat) (ls : Array Slot) (lo : List (Option AV)) : Prop := lv_has ls n (lvs b lo)
def tyA (t : Nat) : FieldType := match t with
  | 13 => .int
  | 14 => .long
  | 15 => .boolean
  | 16 => .object RX0
  | 17 => .object RX5
  | 18 => .object RX7
  | 19 => .object RX8
  | 20 => .object RX9
  | 21 => .array .int
  | _ => .array .boolean
def tyL (cy : Nat → ClassId) : List (ClassId × FieldType) := (List.range 10).map (fun i => (cy (13 + i), tyA (13 + i)))
/-- the words of the tables that any method keeps -/
def gt : List Cond := lw_tbl.filter goodWord
theorem gt_ok {w : Cond} (h : w ∈ lw_tbl) (g : goodWord w = true) : w ∈ gt := List.mem_filter.mpr ⟨h, g⟩
abbrev MI : Type := MethodName × ByteArray × Nat × Option FieldType
abbrev cdw (y : MI) : Cond := Cond.code y.1 y.2.1 y.2.2.1 y.2.2.2
def wsM (y : MI) : List Cond := cdw y :: gt
theorem gt_good {y : MI} (h : cdw y ∈ gt) : GoodIn gt (wsM y) := fun w hw => by
  have hm : w ∈ gt := by
    rcases List.mem_cons.mp hw with e | e
    · rw [e]; exact h
    · exact e
  exact ⟨hm, good_of_word (List.mem_filter.mp hm).2⟩
end
section
theorem lg_len : ∀ (lo : List (Option AV)) (i : Nat) (v : AV), lg lo i = some v → i < lo.length
  | [], i, v, h => by simp [lg] at h
  | x :: l, 0, v, h => by simp
  | x :: l, n + 1, v, h => by
    have := lg_len l n v (by simpa [lg] using h)
    simp; omega
theorem lvs_mem {b : Nat} {lo : List (Option AV)} {q : Nat × Value} : q ∈ lvs b lo ↔ ∃ v, lg lo q.1 = some v ∧ q.2 = cv b v := by
  unfold lvs
  rw [List.mem_filterMap]
  constructor
  · rintro ⟨i, -, h⟩
    cases hg : lg lo i with
    | none => rw [hg] at h; cases h
    | some v => rw [hg] at h; cases h; exact ⟨v, hg, rfl⟩
  · rintro ⟨v, h1, h2⟩
    refine ⟨q.1, List.mem_range.mpr (lg_len _ _ _ h1), ?_⟩
    rw [h1]
    show some (q.1, cv b v) = some q
    rw [← h2]
theorem Lc.get {b n : Nat} {ls : Array Slot} {lo : List (Option AV)} (h : Lc b n ls lo) {i : Nat} {v : AV} (hi : lg lo i = some v) : ls[i]? = some (.val (cv b v)) := h.2.2 (i, cv b v) (lvs_mem.mpr ⟨v, hi, rfl⟩)
theorem lg_lst : ∀ (lo : List (Option AV)) (i j : Nat) (v : Option AV) (w : AV), lg (lst lo i v) j = some w → (j = i ∧ v = some w) ∨ (j ≠ i ∧ lg lo j = some w)
  | [], i, j, v, w, h => by simp [lst, lg] at h
  | x :: l, 0, 0, v, w, h => by simp [lst, lg] at h; exact Or.inl ⟨rfl, h⟩
  | x :: l, 0, j + 1, v, w, h => by simp [lst, lg] at h; exact Or.inr ⟨by omega, by simpa [lg] using h⟩
  | x :: l, i + 1, 0, v, w, h => by simp [lst, lg] at h; exact Or.inr ⟨by omega, by simpa [lg] using h⟩
  | x :: l, i + 1, j + 1, v, w, h => by
    simp [lst, lg] at h
    rcases lg_lst l i j v w h with ⟨e, h1⟩ | ⟨e, h1⟩
    · exact Or.inl ⟨by omega, h1⟩
    · exact Or.inr ⟨by omega, by simpa [lg] using h1⟩
/-- no long stands just ahead of a place -/
def noL (lo : List (Option AV)) : Nat → Bool
  | 0 => true
  | i + 1 => match lg lo i with
    | some v => cat v == 1
    | none => true
theorem cv_cat (b : Nat) (v : AV) : (cv b v).category = cat v := by
  rcases v with x | x | _ | x <;> rfl
theorem Lc.of1 {b n : Nat} {ls : Array Slot} {lo : List (Option AV)} {i : Nat} {v : AV} (hno : noL lo i = true) (h : lv_has ls n ((i, cv b v) :: (lvs b lo).filter (fun q => !(q.1 == i) && !(q.1 + 1 == i && q.2.category == 2)))) : Lc b n ls (lst lo i (some v)) := by
  refine ⟨h.1, h.2.1, fun q hq => h.2.2 q ?_⟩
  obtain ⟨w, h1, h2⟩ := lvs_mem.mp hq
  rcases lg_lst _ _ _ _ _ h1 with ⟨e, h3⟩ | ⟨e, h3⟩
  · cases h3
    refine List.mem_cons.mpr (Or.inl ?_)
    rw [← e, ← h2]
  · refine List.mem_cons.mpr (Or.inr (List.mem_filter.mpr ⟨lvs_mem.mpr ⟨w, h3, h2⟩, ?_⟩))
    have e1 : (q.1 == i) = false := by simpa using e
    rw [e1]
    by_cases e2 : q.1 + 1 = i
    · subst e2
      have : cat w = 1 := by simpa [noL, h3] using hno
      rw [h2, cv_cat, this]
      simp
    · have : (q.1 + 1 == i) = false := by simpa using e2
      rw [this]
      rfl
theorem Lc.of2 {b n : Nat} {ls : Array Slot} {lo : List (Option AV)} {i : Nat} {v : AV} (hno : noL lo i = true) (h : lv_has ls n ((i, cv b v) :: (lvs b lo).filter (fun q => !(q.1 == i) && (!(q.1 == i + 1) && !(q.1 + 1 == i && q.2.category == 2))))) : Lc b n ls (lst (lst lo (i + 1) none) i (some v)) := by
  refine ⟨h.1, h.2.1, fun q hq => h.2.2 q ?_⟩
  obtain ⟨w, h1, h2⟩ := lvs_mem.mp hq
  rcases lg_lst _ _ _ _ _ h1 with ⟨e, h3⟩ | ⟨e, h3⟩
  · cases h3
    refine List.mem_cons.mpr (Or.inl ?_)
    rw [← e, ← h2]
  · rcases lg_lst _ _ _ _ _ h3 with ⟨e', h3'⟩ | ⟨e', h3'⟩
    · cases h3'
    · refine List.mem_cons.mpr (Or.inr (List.mem_filter.mpr ⟨lvs_mem.mpr ⟨w, h3', h2⟩, ?_⟩))
      have e1 : (q.1 == i) = false := by simpa using e
      have e1' : (q.1 == i + 1) = false := by simpa using e'
      rw [e1, e1']
      by_cases e2 : q.1 + 1 = i
      · subst e2
        have : cat w = 1 := by simpa [noL, h3'] using hno
        rw [h2, cv_cat, this]
        simp
      · have : (q.1 + 1 == i) = false := by simpa using e2
        rw [this]
        rfl
theorem Wd.upd {D : va_G} {cy : Nat → ClassId} {b a : Nat} {h h' : AH} {H H' : Heap} (w : Wd D cy b h H) (hn : nH h' = nH h) (hr : ∀ a k, inr (iH h' a k)) (hz : H'.size = H.size) (he : va_at D vwCl (b + a, cE cy b h' a) H') (ho : ∀ q, q ≠ b + a → H'[q]? = H[q]?) (hc : ∀ x, x ≠ a → cE cy b h' x = cE cy b h x) : Wd D cy b h' H' := by
  refine ⟨by rw [hz, hn]; exact w.1, fun x hx => ?_, hr⟩
  by_cases e : x = a
  · subst e; exact he
  · rw [hc x e]
    exact (w.2.1 x (by rw [← hn]; exact hx)).kept (ho _ (by intro q; exact e (by simpa using q)))
theorem Wd.push {D : va_G} {cy : Nat → ClassId} {b : Nat} {h h' : AH} {H H' : Heap} (w : Wd D cy b h H) (hn : nH h' = nH h + 1) (hr : ∀ a k, inr (iH h' a k)) (hz : H'.size = H.size + 1) (he : va_at D vwCl (b + nH h, cE cy b h' (nH h)) H') (ho : ∀ q, q < H.size → H'[q]? = H[q]?) (hc : ∀ x, x < nH h → cE cy b h' x = cE cy b h x) : Wd D cy b h' H' := by
  refine ⟨by rw [hz, hn, w.1]; omega, fun x hx => ?_, hr⟩
  by_cases e : x = nH h
  · subst e; exact he
  · have hx' : x < nH h := by omega
    rw [hc x hx']
    exact (w.2.1 x hx').kept (ho _ (by rw [w.1]; show b + x < _; omega))
theorem cE_sI {cy : Nat → ClassId} {b : Nat} {h : AH} {a k : Nat} {v : Int} {x : Nat} (e : x ≠ a) : cE cy b (sI h a k v) x = cE cy b h x := by
  have h1 : iH (sI h a k v) x = iH h x := by funext y; simp [iH, sI, u2, e]
  have h2 : ∀ t, ovs b (sI h a k v) x t = ovs b h x t := fun t => by
    unfold ovs; congr 1; funext j; unfold ov; rw [h1]; rfl
  unfold cE
  rw [h1, h2]
  rfl
theorem cE_sW {cy : Nat → ClassId} {b : Nat} {h : AH} {a : Nat} {g : Nat → Int} {x : Nat} (e : x ≠ a) : cE cy b (sW h a g) x = cE cy b h x := by
  have h1 : iH (sW h a g) x = iH h x := by funext y; simp [iH, sW, r2, e]
  have h2 : ∀ t, ovs b (sW h a g) x t = ovs b h x t := fun t => by
    unfold ovs; congr 1; funext j; unfold ov; rw [h1]; rfl
  unfold cE
  rw [h1, h2]
  rfl
theorem cE_sJ {cy : Nat → ClassId} {b : Nat} {h : AH} {a k : Nat} {v : Int64} {x : Nat} (e : x ≠ a) : cE cy b (sJ h a k v) x = cE cy b h x := by
  have h1 : jH (sJ h a k v) x = jH h x := by funext y; simp [jH, sJ, u2, e]
  unfold cE
  rw [h1]
  rfl
theorem cE_sR {cy : Nat → ClassId} {b : Nat} {h : AH} {a k : Nat} {v : Option Nat} {x : Nat} (e : x ≠ a) : cE cy b (sR h a k v) x = cE cy b h x := by
  have h1 : rH (sR h a k v) x = rH h x := by funext y; simp [rH, sR, u2, e]
  have h2 : ∀ t, ovs b (sR h a k v) x t = ovs b h x t := fun t => by
    unfold ovs; congr 1; funext j; unfold ov; rw [h1]; rfl
  unfold cE
  rw [h1, h2]
  rfl
theorem cE_nw {cy : Nat → ClassId} {b : Nat} {h : AH} {t n : Nat} {x : Nat} (e : x < nH h) : cE cy b (nw h t n) x = cE cy b h x := by
  have e' : x ≠ h.1 := Nat.ne_of_lt e
  have h0 : kH (nw h t n) x = kH h x := by simp [kH, nw, e']
  have h1 : rH (nw h t n) x = rH h x := by funext y; simp [rH, nw, r2, e']
  have h3 : iH (nw h t n) x = iH h x := by funext y; simp [iH, nw, r2, e']
  have h4 : jH (nw h t n) x = jH h x := by funext y; simp [jH, nw, r2, e']
  have h2 : ∀ t', ovs b (nw h t n) x t' = ovs b h x t' := fun t' => by
    unfold ovs; congr 1; funext j; unfold ov; rw [h1, h3]
  unfold cE
  rw [h0, h1, h2, h3, h4]
end
section
/-! ===== a row of rows, made in one piece: multianewarray with two counts (6.5), over the machine itself ===== -/
section MULTI
variable {p : Program} {l : Launch} {e : Env} {R : Room} {s : State} {m : MethodId} {args : Array Value} {below : List Frame} {meth : Method} {c : Code} {T : State} {locs : List Loc} {cells slots : Nat}
/-- the row of rows that begins at b, when i of its rows stand behind it -/
def mq_o (cA : ClassId) (n b i : Nat) : Cell := arrV cA n (fun j => if j < i then .ref (b + 1 + j) else .null)
/-- a row of like values -/
def mq_i (cC : ClassId) (k : Nat) (v : Value) : Cell := { cls := cC, slots := Array.replicate k v, vm := .none }
/-- the heap when i rows stand -/
def mq_h (H : Heap) (cA cC : ClassId) (n k : Nat) (v : Value) (i : Nat) : Heap := H.push (mq_o cA n H.size i) ++ Array.replicate i (mq_i cC k v)
theorem mq_hsize (H : Heap) (cA cC : ClassId) (n k : Nat) (v : Value) (i : Nat) : (mq_h H cA cC n k v i).size = H.size + 1 + i := by
  simp [mq_h]
/-- what stands where -/
theorem mq_hat (H : Heap) (cA cC : ClassId) (n k : Nat) (v : Value) (i a : Nat) :
    (mq_h H cA cC n k v i)[a]? = if a < H.size then H[a]? else if a = H.size then some (mq_o cA n H.size i) else if a < H.size + 1 + i then some (mq_i cC k v) else none := by
  show (H.push (mq_o cA n H.size i) ++ Array.replicate i (mq_i cC k v))[a]? = _
  rw [Array.getElem?_append, Array.size_push, Array.getElem?_push, Array.getElem?_replicate]
  rcases Nat.lt_trichotomy a H.size with h | h | h
  · rw [if_pos (by omega), if_neg (by omega), if_pos h]
  · subst h
    rw [if_pos (by omega), if_pos rfl, if_neg (by omega), if_pos rfl]
  · rw [if_neg (by omega), if_neg (show ¬ a < H.size by omega), if_neg (show ¬ a = H.size by omega)]
    by_cases q : a < H.size + 1 + i
    · rw [if_pos (by omega), if_pos q]
    · rw [if_neg (by omega), if_neg q]
/-- the state when i rows stand -/
def mq_s (U : State) (cA cC : ClassId) (n k : Nat) (v : Value) (i : Nat) : State :=
  { U with heap := mq_h U.heap cA cC n k v i, slotsUsed := U.slotsUsed + n + i * k }
theorem mq_size (U : State) (cA cC : ClassId) (n k : Nat) (v : Value) (i : Nat) : (mq_s U cA cC n k v i).heap.size = U.heap.size + 1 + i := mq_hsize U.heap cA cC n k v i
theorem mq_at (U : State) (cA cC : ClassId) (n k : Nat) (v : Value) (i a : Nat) :
    (mq_s U cA cC n k v i).heap[a]? = if a < U.heap.size then U.heap[a]? else if a = U.heap.size then some (mq_o cA n U.heap.size i) else if a < U.heap.size + 1 + i then some (mq_i cC k v) else none := mq_hat U.heap cA cC n k v i a
theorem mq_zero (U : State) (cA cC : ClassId) (n k : Nat) (v : Value) : U.pushCell { cls := cA, slots := Array.replicate n .null, vm := .none } = mq_s U cA cC n k v 0 := by
  have h : (mq_o cA n U.heap.size 0) = ({ cls := cA, slots := Array.replicate n .null, vm := .none } : Cell) := by
    rw [arrV_new]
    show arrV cA n _ = _
    congr 1
  unfold mq_s mq_h State.pushCell
  rw [h]
  simp
/-- one row more -/
theorem mq_step (U : State) (cA cC : ClassId) (n k : Nat) (v : Value) (i : Nat) :
    ((mq_s U cA cC n k v i).pushCell (mq_i cC k v)).setCell U.heap.size ((mq_o cA n U.heap.size i).setSlot i (.ref (U.heap.size + 1 + i))) = mq_s U cA cC n k v (i + 1) := by
  have ho : (mq_o cA n U.heap.size i).setSlot i (.ref (U.heap.size + 1 + i)) = mq_o cA n U.heap.size (i + 1) := by
    show (arrV cA n _).setSlot i _ = arrV cA n _
    rw [arrV_store]
    congr 1
    funext j
    unfold updV
    by_cases q : j = i
    · subst q; simp
    · by_cases w : j < i
      · simp [q, w, show j < i + 1 by omega]
      · simp [q, w, show ¬ j < i + 1 by omega]
  have hh : ((mq_s U cA cC n k v i).heap.push (mq_i cC k v)).setIfInBounds U.heap.size (mq_o cA n U.heap.size (i + 1)) = (mq_s U cA cC n k v (i + 1)).heap := by
    apply Array.ext_getElem?
    intro a
    rw [Array.getElem?_setIfInBounds, Array.getElem?_push, Array.size_push, mq_size, mq_at, mq_at]
    rcases Nat.lt_trichotomy a U.heap.size with h | h | h
    · rw [if_neg (by omega), if_neg (by omega), if_pos h, if_pos h]
    · subst h
      rw [if_pos rfl, if_pos (by omega), if_neg (Nat.lt_irrefl _), if_pos rfl]
    · rw [if_neg (by omega), if_neg (show ¬ a < U.heap.size by omega), if_neg (show ¬ a = U.heap.size by omega), if_neg (show ¬ a < U.heap.size by omega), if_neg (show ¬ a = U.heap.size by omega)]
      by_cases q : a = U.heap.size + 1 + i
      · rw [if_pos q, if_pos (by omega)]
      · rw [if_neg q]
        by_cases w : a < U.heap.size + 1 + i
        · rw [if_pos w, if_pos (by omega)]
        · rw [if_neg w, if_neg (by omega)]
  rw [ho]
  show ({ (mq_s U cA cC n k v i) with heap := ((mq_s U cA cC n k v i).heap.push (mq_i cC k v)).setIfInBounds U.heap.size (mq_o cA n U.heap.size (i + 1)), slotsUsed := (U.slotsUsed + n + i * k) + (mq_i cC k v).slots.size } : State) = _
  rw [hh]
  have hs : U.slotsUsed + n + i * k + (mq_i cC k v).slots.size = U.slotsUsed + n + (i + 1) * k := by
    have : (mq_i cC k v).slots.size = k := by simp [mq_i]
    rw [this, Nat.succ_mul]; omega
  rw [hs]
  rfl
/-- nothing old is touched -/
theorem mq_new (U : State) (cA cC : ClassId) (n k : Nat) (v : Value) {x : Thread} (hx : U.threads[U.cur]? = some x) : U.sameButNew (mq_s U cA cC n k v n) [] (1 + n) (n + n * k) := by
  have hd : (((mq_s U cA cC n k v n).heap.toList.drop U.heap.size).map (·.slots.size)).sum = n + n * k := by
    have : (mq_s U cA cC n k v n).heap.toList.drop U.heap.size = mq_o cA n U.heap.size n :: List.replicate n (mq_i cC k v) := by
      show (U.heap.push (mq_o cA n U.heap.size n) ++ Array.replicate n (mq_i cC k v)).toList.drop U.heap.size = _
      rw [Array.toList_append, Array.toList_push, List.append_assoc, ← Array.length_toList, List.drop_left]
      simp
    rw [this]
    simp [mq_o, mq_i, arrV_size, List.map_replicate, List.sum_replicate_nat]
  refine ⟨?_, by rw [mq_size]; omega, by rw [mq_size]; omega, ?_, by rw [hd]; exact Nat.le_refl _, fun a c hc => ⟨c, ?_, rfl, rfl, fun _ _ => rfl⟩⟩
  · show _ = ({ U.setFrames U.frames with heap := (mq_s U cA cC n k v n).heap, slotsUsed := (mq_s U cA cC n k v n).slotsUsed } : State)
    rw [State.setFrames_self hx]
    rfl
  · rw [hd]; show U.slotsUsed + n + n * k = _; omega
  · have hl : a < U.heap.size := (Array.getElem?_eq_some_iff.mp hc).1
    rw [mq_at, if_pos hl]; exact hc
theorem mq_stand (X : Stand p l e R s m args below meth c T locs cells slots) (cA cC : ClassId) (n k : Nat) (v : Value) :
    Stand p l e R s m args below meth c (mq_s T cA cC n k v n) locs (cells + (1 + n)) (slots + (n + n * k)) := by
  obtain ⟨g0, hg⟩ := Option.isSome_iff_exists.mp X.here.top
  obtain ⟨r, hr⟩ := State.topJava?_eq_some.mp hg
  obtain ⟨t, ht, -⟩ := State.frames_cons hr
  have h := mq_new T cA cC n k v ht
  have h' := X.moved (T₂ := mq_s T cA cC n k v n) (l₂ := []) (c₂ := 1 + n) (n₂ := n + n * k) ⟨X.here.top, X.here.above, X.here.running, X.here.runnable, X.here.alone, X.here.code, X.here.plain⟩ X.tail rfl rfl (State.WarmedH.refl T) h
  rw [List.append_nil] at h'
  exact h'
section WP
variable {E : CtlPost} {d : Bool} {acts : List Action} {U : State}
/-- an array of like values is made -/
theorem mq_array {cA comp : ClassId} {kA : Class} {ty : FieldType} {n : Nat} {v : Value} (hk : U.vm.classes[cA]? = some kA) (hkind : kA.kind = .array comp ty) (hv : fits ty v = true)
    (h1 : n ≤ e.platform.arrayLengthLimit) (h2 : n * componentBytes ty ≤ e.platform.maxHeapBytes) (h3 : U.heap.size < e.platform.maxCells) (h4 : U.slotsUsed + n ≤ e.platform.maxSlots) {Q : Addr → Pre}
    (hq : ∀ acts', Q U.heap.size d acts' (U.pushCell { cls := cA, slots := Array.replicate n v, vm := .none })) : wp (Jvm.newArray cA n v) Q E e d acts U := by
  simp only [Jvm.newArray, Jvm.arrayFits, wp_bind', W.ask, W.ite, W.theClass, hk, Option.some.injEq, exists_eq_left', hkind, wp_pure', W.alloc, W.stop]
  rw [if_neg (by omega)]
  simp only [if_neg (show ¬ n * componentBytes ty > e.platform.maxHeapBytes by omega), if_neg (show ¬ n > e.platform.maxSlots by omega)]
  refine ⟨h3, by rw [Array.size_replicate]; exact h4, fun i w hw => ?_, hq _⟩
  rw [Array.getElem?_replicate] at hw
  split at hw
  · cases hw; simp [State.fitsSlot, State.slotType?, hk, hkind, hv]
  · cases hw
/-- the innermost rows -/
theorem mq_make1 {cC comp : ClassId} {kC : Class} {ty : FieldType} {k : Int32} (hk : U.vm.classes[cC]? = some kC) (hkind : kC.kind = .array comp ty) (hn : ¬ k < 0)
    (h1 : k.toNatClampNeg ≤ e.platform.arrayLengthLimit) (h2 : k.toNatClampNeg * componentBytes ty ≤ e.platform.maxHeapBytes) (h3 : U.heap.size < e.platform.maxCells) (h4 : U.slotsUsed + k.toNatClampNeg ≤ e.platform.maxSlots) {Q : Addr → Pre}
    (hq : ∀ acts', Q U.heap.size d acts' (U.pushCell (mq_i cC k.toNatClampNeg (defaultValue ty)))) : wp (Op.multianewarray.make cC [k]) Q E e d acts U := by
  unfold Op.multianewarray.make
  simp only [wp_bind', W.ite, if_neg hn, wp_pure', W.theClass, hk, Option.some.injEq, exists_eq_left', hkind]
  exact mq_array hk hkind (fits_default ty) h1 h2 h3 h4 hq
/-- the rows one behind another -/
theorem mq_rows {cA cC comp : ClassId} {kA kC : Class} {t0 ty : FieldType} {k : Int32} {n : Nat} (hkA : U.vm.classes[cA]? = some kA) (hkindA : kA.kind = .array cC t0) (href : ∀ a, fits t0 (.ref a) = true)
    (hkC : U.vm.classes[cC]? = some kC) (hkindC : kC.kind = .array comp ty) (hn : ¬ k < 0)
    (h1 : k.toNatClampNeg ≤ e.platform.arrayLengthLimit) (h2 : k.toNatClampNeg * componentBytes ty ≤ e.platform.maxHeapBytes) (h3 : U.heap.size + (1 + n) ≤ e.platform.maxCells) (h4 : U.slotsUsed + (n + n * k.toNatClampNeg) ≤ e.platform.maxSlots)
    (f : Nat → PUnit → Sem (ForInStep PUnit)) (hf : ∀ i u, f i u = (do Jvm.writeLoc U.heap.size i (.ref (← Op.multianewarray.make cC [k])); Pure.pure (ForInStep.yield PUnit.unit))) {Q : PUnit → Pre}
    (hq : ∀ d' acts', Q PUnit.unit d' acts' (mq_s U cA cC n k.toNatClampNeg (defaultValue ty) n)) :
    ∀ (r i : Nat) (d : Bool) (acts : List Action), i + r = n → wp (forIn (List.range' i r) PUnit.unit f) Q E e d acts (mq_s U cA cC n k.toNatClampNeg (defaultValue ty) i)
  | 0, i, d, acts, g => by
    simp only [List.range'_zero, List.forIn_nil, wp_pure']
    rw [show i = n by omega]
    exact hq d acts
  | r + 1, i, d, acts, g => by
    have hle : i * k.toNatClampNeg + k.toNatClampNeg ≤ n * k.toNatClampNeg := by
      rw [← Nat.succ_mul]; exact Nat.mul_le_mul_right _ (by omega)
    simp only [List.range'_succ, List.forIn_cons, wp_bind', hf]
    refine mq_make1 (U := mq_s U cA cC n k.toNatClampNeg (defaultValue ty) i) hkC hkindC hn h1 h2 (by rw [mq_size]; omega) (by show U.slotsUsed + n + i * k.toNatClampNeg + _ ≤ _; omega) fun acts' => ?_
    rw [wp_bind', W.writeLoc]
    refine ⟨mq_o cA n U.heap.size i, ?_, by simp [mq_o, arrV], by simp only [mq_o, arrV_size]; omega, ?_, ?_⟩
    · show ((mq_s U cA cC n k.toNatClampNeg (defaultValue ty) i).heap.push _)[U.heap.size]? = _
      rw [Array.getElem?_push, mq_size, if_neg (by omega), mq_at, if_neg (Nat.lt_irrefl _), if_pos rfl]
    · simp [State.fitsSlot, State.slotType?, mq_o, arrV, State.pushCell, mq_s, hkA, hkindA, href]
    · rw [mq_size, mq_step]
      simp only [wp_pure']
      exact mq_rows hkA hkindA href hkC hkindC hn h1 h2 h3 h4 f hf hq r (i + 1) _ _ (by omega)
/-- the whole -/
theorem mq_make {cA cC comp : ClassId} {kA kC : Class} {t0 ty : FieldType} {n k : Int32} (hkA : U.vm.classes[cA]? = some kA) (hkindA : kA.kind = .array cC (.array t0))
    (hkC : U.vm.classes[cC]? = some kC) (hkindC : kC.kind = .array comp ty) (hn : ¬ n < 0) (hk : ¬ k < 0)
    (h1 : n.toNatClampNeg ≤ e.platform.arrayLengthLimit) (h2 : n.toNatClampNeg * 4 ≤ e.platform.maxHeapBytes) (h1' : k.toNatClampNeg ≤ e.platform.arrayLengthLimit) (h2' : k.toNatClampNeg * componentBytes ty ≤ e.platform.maxHeapBytes)
    (h3 : U.heap.size + (1 + n.toNatClampNeg) ≤ e.platform.maxCells) (h4 : U.slotsUsed + (n.toNatClampNeg + n.toNatClampNeg * k.toNatClampNeg) ≤ e.platform.maxSlots) {Q : Addr → Pre}
    (hq : ∀ d' acts', Q U.heap.size d' acts' (mq_s U cA cC n.toNatClampNeg k.toNatClampNeg (defaultValue ty) n.toNatClampNeg)) : wp (Op.multianewarray.make cA [n, k]) Q E e d acts U := by
  unfold Op.multianewarray.make
  simp only [wp_bind', W.ite, if_neg hn, wp_pure', W.theClass, hkA, Option.some.injEq, exists_eq_left', hkindA]
  refine mq_array hkA hkindA rfl h1 h2 (by omega) (by omega) fun acts' => ?_
  have hfind : List.find? (fun x : Int32 => decide (x < 0)) [k] = none := by simp [hk]
  rw [mq_zero U cA cC n.toNatClampNeg k.toNatClampNeg (defaultValue ty)]
  simp only [hfind, ite_self, wp_bind', wp_pure', Std.Legacy.Range.forIn_eq_forIn_range']
  refine mq_rows (t0 := .array t0) hkA hkindA (fun a => rfl) hkC hkindC hk h1' h2' h3 h4 _ (fun i u => rfl) (fun d' acts'' => hq d' acts'') _ 0 d acts' ?_
  simp [Std.Legacy.Range.size]
/-- the instruction, once its entry is resolved -/
theorem mq_sem {g : JFrame} {index : Nat} {rest : List Value} {cA cC comp : ClassId} {kA kC : Class} {t0 ty : FieldType} {n k : Int32} (hs : U.topJava?.isSome) (hr : U.vm.classReady g.method.cls index cA)
    (hkA : U.vm.classes[cA]? = some kA) (hkindA : kA.kind = .array cC (.array t0)) (hkC : U.vm.classes[cC]? = some kC) (hkindC : kC.kind = .array comp ty) (hstack : g.stack = .int k :: .int n :: rest) (hn : ¬ n < 0) (hk : ¬ k < 0)
    (h1 : n.toNatClampNeg ≤ e.platform.arrayLengthLimit) (h2 : n.toNatClampNeg * 4 ≤ e.platform.maxHeapBytes) (h1' : k.toNatClampNeg ≤ e.platform.arrayLengthLimit) (h2' : k.toNatClampNeg * componentBytes ty ≤ e.platform.maxHeapBytes)
    (h3 : U.heap.size + (1 + n.toNatClampNeg) ≤ e.platform.maxCells) (h4 : U.slotsUsed + (n.toNatClampNeg + n.toNatClampNeg * k.toNatClampNeg) ≤ e.platform.maxSlots) {Q : Unit → Pre}
    (hq : ∀ acts', Q () true acts' ((mq_s U cA cC n.toNatClampNeg k.toNatClampNeg (defaultValue ty) n.toNatClampNeg).setTop { g with stack := .ref U.heap.size :: rest })) :
    wp (Op.multianewarray.sem index 2) Q E e d acts (U.setTop g) := by
  simp only [Op.multianewarray.sem, wp_bind', W.resolveClassAt_ready (State.method?_setTop g hs) hr, W.popN]
  rw [if_neg (by omega)]
  refine ⟨g, State.topJava?_setTop' _ hs, [.int n, .int k], rest, rfl, by rw [hstack]; rfl, ?_⟩
  simp only [List.mapM_cons, List.mapM_nil, wp_bind', wp_pure', State.setTop_setTop]
  refine mq_make (U := U.setTop { g with stack := rest }) hkA hkindA hkC hkindC hn hk h1 h2 h1' h2' h3 h4 fun d' acts' => ?_
  have ht : (mq_s U cA cC n.toNatClampNeg k.toNatClampNeg (defaultValue ty) n.toNatClampNeg).topJava?.isSome := hs
  show wp (Jvm.mark _ >>= fun _ => Jvm.pushRef _) Q E e d' acts' ((mq_s U cA cC n.toNatClampNeg k.toNatClampNeg (defaultValue ty) n.toNatClampNeg).setTop { g with stack := rest })
  simp only [wp_bind', W.mark, W.pushRef, State.topJava?_setTop' _ ht, Option.some.injEq, exists_eq_left', State.setTop_setTop]
  exact hq acts'
end WP
/-- multianewarray of two counts, in a walk -/
theorem mq_walk (X : Stand p l e R s m args below meth c T locs cells slots) (hexec : p.tables.exec = Jvm.exec) {own : String} {index : Nat} {ty : FieldType} (hown : s.vm.findClass own = some m.cls)
    (hclink : (Cond.classLink own index ("[" ++ (FieldType.array ty).toString)).before args s = true) (hover : (Cond.arrayOver (.array ty)).before args s = true) (harr : (Cond.arrayClass ty).before args s = true)
    {g : JFrame} (hg : g.method = m) (hdg : decode c.code g.pc = .ok (.multianewarray index 2, 4)) {n k : Int32} {rest : List Value} (hstack : g.stack = .int k :: .int n :: rest) (hn : ¬ n < 0) (hk : ¬ k < 0)
    (hb1 : n.toNatClampNeg * 4 ≤ 536870912) (hb2 : k.toNatClampNeg * componentBytes ty ≤ 536870912) (hb3 : k.toNatClampNeg ≤ 536870912)
    (hcells : cells + (1 + n.toNatClampNeg) ≤ R.cells) (hslots : slots + (n.toNatClampNeg + n.toNatClampNeg * k.toNatClampNeg) ≤ R.slots) :
    ∃ (vm1 : Vm) (cA cC : ClassId), s.vm.findClass ("[" ++ (FieldType.array ty).toString) = some cA ∧ s.vm.findClass (FieldType.array ty).toString = some cC ∧
      Stand p l e R s m args below meth c (mq_s (T.setVm vm1) cA cC n.toNatClampNeg k.toNatClampNeg (defaultValue ty) n.toNatClampNeg) locs (cells + (1 + n.toNatClampNeg)) (slots + (n.toNatClampNeg + n.toNatClampNeg * k.toNatClampNeg)) ∧
      ∀ target, Steps p.tables e below ((mq_s (T.setVm vm1) cA cC n.toNatClampNeg k.toNatClampNeg (defaultValue ty) n.toNatClampNeg).setTop { g with pc := g.pc + 4, stack := .ref T.heap.size :: rest }) target → Steps p.tables e below (T.setTop g) target := by
  subst hg
  have hpl : e.platform.magicAccessors = ({} : Platform).magicAccessors := by rw [X.admits.platform]
  obtain ⟨cC, cA, kA, hcC, -, hkA, hkindA, hcA⟩ := arrayOverA_spec hover
  obtain ⟨cC', kC, comp, hcC', hkC, hkindC⟩ := Cond.arrayClass_spec harr
  cases Option.some.inj (hcC.symm.trans hcC')
  obtain ⟨cL, hcL, hcl⟩ := Cond.classLink_spec hown hclink e.platform hpl
  cases Option.some.inj (hcA.symm.trans hcL)
  obtain ⟨hgi, hwarm, hready⟩ := State.classEntry (e := e) X.warmed hcl
  generalize T.vm.noted g.method.cls index (.cls cA) = vm1 at hgi hwarm hready
  have hal : s.vm.Alike vm1 := hwarm.alike
  obtain ⟨kA1, hkA1, heA⟩ := hal.2.2 _ _ hkA
  obtain ⟨kC1, hkC1, heC⟩ := hal.2.2 _ _ hkC
  have hkindA1 : kA1.kind = .array cC (.array ty) := by rw [heA]; exact hkindA
  have hkindC1 : kC1.kind = .array comp ty := by rw [heC]; exact hkindC
  have X1 := X.noted hwarm
  have X2 := mq_stand X1 cA cC n.toNatClampNeg k.toNatClampNeg (defaultValue ty)
  obtain ⟨hr1, hr2⟩ := X.roomAbove hcells hslots
  refine ⟨vm1, cA, cC, hcA, hcC, X2, fun target hrest => ?_⟩
  have hlim : e.platform.arrayLengthLimit = 2147483645 := by rw [Launch.admits_arrayLengthLimit X.admits]
  have hheap : e.platform.maxHeapBytes = 536870912 := by rw [Launch.admits_maxHeapBytes X.admits]
  refine Steps.instr (c := c) X.here ?_
  rw [hdg]
  show wpRun (p.tables.exec (.multianewarray index 2)) _ _ e (T.setTop g)
  rw [hexec]
  show wp (Op.multianewarray.sem index 2) _ _ e false [] (T.setTop g)
  have hmove : ∀ {Q : Unit → Pre} {E : CtlPost}, wp (Op.multianewarray.sem index 2) Q E e false [] ((T.setVm vm1).setTop g) → wp (Op.multianewarray.sem index 2) Q E e false [] (T.setTop g) := fun {Q E} h => by
    simp only [Op.multianewarray.sem, wp_bind'] at h ⊢
    exact (W.resolveClassAt_transfer (s := T.setTop g) (State.method?_setTop g X.here.top) hgi hready).mpr h
  refine hmove (mq_sem (U := T.setVm vm1) X1.here.top hready hkA1 hkindA1 hkC1 hkindC1 hstack hn hk (by omega) (by omega) (by omega) (by omega) hr1 hr2 fun acts' => ?_)
  intro acts
  rw [afterInstr_ok]
  exact hrest
/-- .. and over a known heap -/
theorem mq_W {H : Heap} {Q : State → Prop} {cc : ByteArray} (hexec : p.tables.exec = Jvm.exec) (hb : c.code = cc) {own : String} {index : Nat} {ty : FieldType} (hown : s.vm.findClass own = some m.cls)
    (hclink : (Cond.classLink own index ("[" ++ (FieldType.array ty).toString)).before args s = true) (hover : (Cond.arrayOver (.array ty)).before args s = true) (harr : (Cond.arrayClass ty).before args s = true)
    {g : JFrame} (hg : g.method = m) (hdg : decode cc g.pc = .ok (.multianewarray index 2, 4)) {n k : Int32} {rest : List Value} (hstack : g.stack = .int k :: .int n :: rest) (hn : ¬ n < 0) (hk : ¬ k < 0)
    (hb1 : n.toNatClampNeg * 4 ≤ 536870912) (hb2 : k.toNatClampNeg * componentBytes ty ≤ 536870912) (hb3 : k.toNatClampNeg ≤ 536870912)
    (hcells : cells + (1 + n.toNatClampNeg) ≤ R.cells) (hslots : slots + (n.toNatClampNeg + n.toNatClampNeg * k.toNatClampNeg) ≤ R.slots)
    (kk : ∀ cA cC : ClassId, s.vm.findClass ("[" ++ (FieldType.array ty).toString) = some cA → s.vm.findClass (FieldType.array ty).toString = some cC →
      W p l e R s m args below meth c (mq_h H cA cC n.toNatClampNeg k.toNatClampNeg (defaultValue ty) n.toNatClampNeg) locs (cells + (1 + n.toNatClampNeg)) (slots + (n.toNatClampNeg + n.toNatClampNeg * k.toNatClampNeg)) Q { g with pc := g.pc + 4, stack := .ref H.size :: rest }) :
    W p l e R s m args below meth c H locs cells slots Q g := by
  intro T hT X
  subst hT; subst hb
  obtain ⟨vm1, cA, cC, hcA, hcC, X', st⟩ := mq_walk X hexec hown hclink hover harr hg hdg hstack hn hk hb1 hb2 hb3 hcells hslots
  obtain ⟨t, a1, b1⟩ := kk cA cC hcA hcC _ rfl X'
  exact ⟨t, st t a1, b1⟩
end MULTI
end
section
/-! THE JUDGEMENT: the kit's W with all its context packed; what stays fixed below the base b -/
def undr (j : Nat) : Int32 := match j with
  | 0 => -1
  | 1 => 0
  | 2 => 0
  | 3 => 1
  | 4 => 2
  | _ => 0
def spn (j : Nat) : Int32 := match j with
  | 0 => 387420489
  | 1 => 14348907
  | 2 => 531441
  | 3 => 19683
  | 4 => 729
  | 5 => 27
  | _ => 1
abbrev ab (b : Nat) : Nat → Prop := fun q => b ≤ q
abbrev sLen : List Nat := [2, 3, 3]
abbrev sByt : List (List Int32) := [[111, 114], [97, 110, 100], [110, 111, 116]]
def StP (b : Nat) (U : State) (H : Heap) : Prop :=
  (∃ t, va_Z "LiveIndex$Policy" "UNDER" "[I" (.ref t) (ab b) U H ∧ va_T .int t 6 (fun j => .int (undr j)) (ab b) U H) ∧
  (∃ t, va_Z "LiveIndex" "SPANS" "[I" (.ref t) (ab b) U H ∧ va_T .int t 7 (fun j => .int (spn j)) (ab b) U H) ∧
  (∃ adK adV : Nat → Nat, vk_S 3 sLen sByt adK adV (ab b) U H ∧ vk_R "LiveIndexModel" 269 "or" (adK 0) U ∧ vk_R "LiveIndexModel" 275 "and" (adK 1) U ∧ vk_R "LiveIndexModel" 277 "not" (adK 2) U) ∧
  va_Z "java/lang/String" "COMPACT_STRINGS" "Z" (.int 1) (ab b) U H ∧ va_Zq "jdk/internal/util/Preconditions" "SIOOBE_FORMATTER" "Ljava/util/function/BiFunction;" (ab b) U H
theorem StP.go {b : Nat} {s U : State} {locs : List Loc} (h : StP b s s.heap) (hW : s.WarmedH U.vm) (hS : va_S (ab b) s.heap U.heap locs) : StP b U U.heap := by
  have hA := hW.alike
  have hq : ∀ a : Nat, a < s.heap.size → ¬ ab b a → U.heap[a]? = s.heap[a]? := hS.2.1
  obtain ⟨⟨t, h1, h2⟩, ⟨t', h3, h4⟩, ⟨adK, adV, h5, h6, h7, h8⟩, h9, h10⟩ := h
  exact ⟨⟨t, va_Z.moved hA (h1.kept hq), va_T.moved hA (h2.kept hq)⟩, ⟨t', va_Z.moved hA (h3.kept hq), va_T.moved hA (h4.kept hq)⟩, ⟨adK, adV, vk_S.moved hA (h5.kept hq), vk_R.warm hW h6, vk_R.warm hW h7, vk_R.warm hW h8⟩, va_Z.moved hA (h9.kept hq), va_Zq.moved hA (h10.kept hq)⟩
/-- the words of the nest and of arrays of objects -/
def nestM : List (Nat × MethodName) := [(9, yX10_init), (24, yX9_init), (44, yX4_init), (51, yX3_init), (77, yX2_init), (90, yX1_init), (106, yX5_init), (107, yX8_init)]
def aoL : List String := [RX0, RX5, RX7, RX8, RX9]
abbrev EN : Type := Nat × va_G × (Nat → ClassId)
/-- the same for arrays of rows -/
def aoA (t : FieldType) (U : State) : Prop := (Cond.arrayOver (.array t)).before #[] U = true
theorem aoA.use {t : FieldType} {A : Array Value} {U : State} (h : aoA t U) : (Cond.arrayOver (.array t)).before A U = true := h
theorem aoA.moved {t : FieldType} {u U : State} (hv : u.vm.Alike U.vm) (h : aoA t u) : aoA t U := by
  have h1 : (Cond.arrayOver (.array t)).before #[] (u.setVm U.vm) = true := by
    rw [Cond.arrayOver_setVmC hv]; exact h
  exact h1
def Gs (E : EN) (U : State) : Prop := va_K E.2.1 vwCl (tyL E.2.2) U ∧ (∀ q ∈ nestM, va_Nw (.methodLinkNest RX11 q.1 q.2 RX11) U) ∧ va_Nw (.fieldLinkNest RX6 97 RX11 "SPANS" "[I" RX11) U ∧ ((∀ C ∈ aoL, va_AO C U) ∧ aoA .int U ∧ aoA .boolean U) ∧ StP E.1 U U.heap
theorem Gs.go {E : EN} {s U : State} {locs : List Loc} (h : Gs E s) (hW : s.WarmedH U.vm) (hS : va_S (ab E.1) s.heap U.heap locs) : Gs E U :=
  ⟨va_K.moved hW.alike h.1, fun q hq => va_Nw.warmM hW (h.2.1 q hq), va_Nw.warmF hW h.2.2.1, ⟨fun C hC => va_AO.moved hW.alike (h.2.2.2.1.1 C hC), aoA.moved hW.alike h.2.2.2.1.2.1, aoA.moved hW.alike h.2.2.2.1.2.2⟩, h.2.2.2.2.go hW hS⟩
def Cx (y : MI) (E : EN) (p : Program) (s : State) (m : MethodId) (args : Array Value) (meth : Method) (c : Code) : Prop :=
  p.tables.exec = Jvm.exec ∧ c.code = y.2.1 ∧ c.maxLocals = y.2.2.1 ∧ s.vm.findClass y.1.cls = some m.cls ∧ (∀ w ∈ gt, w.before args s = true) ∧ Gs E s ∧ (y.1.name = "<init>" → meth.name = "<init>")
/-- a return: the instruction, by the method's type -/
def rtI (y : MI) (v : Option AV) (pc : Nat) : Prop :=
  (∃ x, v = some (vi x) ∧ y.2.2.2 = some .int ∧ decode y.2.1 pc = .ok (.ireturn, 1)) ∨
  (∃ x, v = some (vi x) ∧ (x = 0 ∨ x = 1) ∧ y.2.2.2 = some .boolean ∧ decode y.2.1 pc = .ok (.ireturn, 1)) ∨
  (∃ x, v = some (vl x) ∧ y.2.2.2 = some .long ∧ decode y.2.1 pc = .ok (.lreturn, 1)) ∨
  (∃ x t, v = some (vr x) ∧ y.2.2.2 = some (.array t) ∧ decode y.2.1 pc = .ok (.areturn, 1)) ∨
  (v = none ∧ y.2.2.2 = none ∧ decode y.2.1 pc = .ok (.return_, 1))
def Rt (y : MI) (E : EN) (Q : Option AV → AH → Prop) (p : Program) (l : Launch) (e : Env) (R : Room) (s : State) (m : MethodId) (args : Array Value) (below : List Frame) (meth : Method) (c : Code) (Z : State → Prop) : Prop :=
  ∀ (v : Option AV) (h : AH) (pc : Nat) (ls : Array Slot) (H : Heap) (locs : List Loc) (cells slots : Nat), rtI y v pc → (∀ w, v = some w → okV w) → Q v h → Wd E.2.1 E.2.2 E.1 h H → va_S (ab E.1) s.heap H locs → cells ≤ R.cells → slots ≤ R.slots → W p l e R s m args below meth c H locs cells slots Z (F0 m pc ls (v.toList.map (cv E.1)))
def wp (y : MI) (d rc rs : Nat) (Q : Option AV → AH → Prop) (pc : Nat) (lo : List (Option AV)) (st : List AV) (h : AH) : Prop :=
  ∀ (E : EN) (p : Program) (l : Launch) (e : Env) (R : Room) (s : State) (m : MethodId) (args : Array Value) (below : List Frame) (meth : Method) (c : Code) (Z : State → Prop), Cx y E p s m args meth c → Rt y E Q p l e R s m args below meth c Z → d ≤ R.frames → 64 * d ≤ R.locals → E.1 ≤ s.heap.size →
  ∀ (H : Heap) (locs : List Loc) (ls : Array Slot) (cells slots : Nat), cells + rc ≤ R.cells → slots + rs ≤ R.slots → Wd E.2.1 E.2.2 E.1 h H → va_S (ab E.1) s.heap H locs → Lc E.1 y.2.2.1 ls lo → (∀ v ∈ st, okV v) → (∀ i v, lg lo i = some v → okV v) → W p l e R s m args below meth c H locs cells slots Z (F0 m pc ls (st.map (cv E.1)))
/-- a method's contract over the pure heap: depth of frames, new cells, new slots -/
def PcM (E : EN) (av : List AV) (h : AH) : Array Value → State → Prop := va_Pc (av.map (cv E.1)) (fun U => (∀ v ∈ av, okV v) ∧ Wd E.2.1 E.2.2 E.1 h U.heap ∧ Gs E U)
def QcM (E : EN) (Q : Option AV → AH → Prop) : Array Value → State → Outcome → State → Prop := fun _ st oc t => ∃ (v : Option AV) (h : AH), oc = .returned (v.map (cv E.1)) ∧ (∀ w, v = some w → okV w) ∧ Q v h ∧ Wd E.2.1 E.2.2 E.1 h t.heap ∧ va_F (ab E.1) st t
abbrev rmM (d mc ms : Nat) : Room := { frames := d, cells := mc, slots := ms, locals := 64 * d }
def Ct (d mc ms : Nat) (y : MI) (av : List AV) (h : AH) (Q : Option AV → AH → Prop) : Prop :=
  ∀ (l : Launch) (E : EN), Met l y.1 (wsM y) (rmM d mc ms) (PcM E av h) (QcM E Q) mc ms (ab E.1)
/-- locals at the entry -/
def enL : List AV → List (Option AV)
  | [] => []
  | v :: l => if cat v = 2 then some v :: none :: enL l else some v :: enL l
def lo0 (av : List AV) (n : Nat) : List (Option AV) := enL av ++ List.replicate (n - (enL av).length) none
theorem lg_app : ∀ (a : List (Option AV)) (k i : Nat), lg (a ++ List.replicate k none) i = lg a i
  | [], k, i => by
    have : ∀ (k i : Nat), lg (List.replicate k none) i = none := by
      intro k
      induction k with
      | zero => intro i; rfl
      | succ k ih => intro i; cases i with
        | zero => rfl
        | succ i => simpa [List.replicate_succ, lg] using ih i
    simpa [lg] using this k i
  | x :: a, k, 0 => rfl
  | x :: a, k, i + 1 => by simpa [lg] using lg_app a k i
theorem enL_args (b : Nat) : ∀ (av : List AV) (k i : Nat) (v : AV), lg (enL av) i = some v → (k + i, cv b v) ∈ lv_args k (av.map (cv b))
  | [], k, i, v, h => by simp [enL, lg] at h
  | x :: av, k, i, v, h => by
    by_cases hc : cat x = 2
    · rw [enL, if_pos hc] at h
      have hc' : (cv b x).category = 2 := by rw [cv_cat]; exact hc
      match i, h with
      | 0, h => cases h; simp [lv_args]
      | 1, h => cases h
      | i + 2, h =>
        have := enL_args b av (k + 2) i v (by simpa [lg] using h)
        simp [lv_args, hc']
        rw [show k + (i + 2) = k + 2 + i by omega]
        exact this
    · rw [enL, if_neg hc] at h
      have hc' : ¬ (cv b x).category = 2 := by rw [cv_cat]; exact hc
      match i, h with
      | 0, h => cases h; simp [lv_args]
      | i + 1, h =>
        have := enL_args b av (k + 1) i v (by simpa [lg] using h)
        simp [lv_args, hc']
        rw [show k + (i + 1) = k + 1 + i by omega]
        exact this
end
section
theorem enL_len (b : Nat) : ∀ av : List AV, (lg_sl (av.map (cv b))).length = (enL av).length
  | [] => rfl
  | x :: av => by
    have ih := enL_len b av
    by_cases hc : cat x = 2
    · have hc' : (cv b x).category = 2 := by rw [cv_cat]; exact hc
      simp [lg_sl, enL, hc, hc'] at ih ⊢
      omega
    · have hc' : ¬ (cv b x).category = 2 := by rw [cv_cat]; exact hc
      simp [lg_sl, enL, hc, hc'] at ih ⊢
      omega
theorem enL_mem : ∀ (av : List AV) (i : Nat) (v : AV), lg (enL av) i = some v → v ∈ av
  | [], i, v, h => by simp [enL, lg] at h
  | x :: av, i, v, h => by
    by_cases hc : cat x = 2
    · rw [enL, if_pos hc] at h
      match i, h with
      | 0, h => cases h; exact List.mem_cons_self
      | 1, h => cases h
      | i + 2, h => exact List.mem_cons_of_mem _ (enL_mem av i v (by simpa [lg] using h))
    · rw [enL, if_neg hc] at h
      match i, h with
      | 0, h => cases h; exact List.mem_cons_self
      | i + 1, h => exact List.mem_cons_of_mem _ (enL_mem av i v (by simpa [lg] using h))
theorem Lc_entry (b n : Nat) (av : List AV) {ls : Array Slot} (h : lv_has ls n (lv_args 0 (av.map (cv b)))) : Lc b n ls (lo0 av n) := by
  refine ⟨h.1, h.2.1, fun q hq => h.2.2 q ?_⟩
  obtain ⟨v, h1, h2⟩ := lvs_mem.mp hq
  unfold lo0 at h1
  rw [lg_app] at h1
  have := enL_args b av 0 q.1 v h1
  rw [Nat.zero_add, ← h2] at this
  exact this
theorem Ct.of {y : MI} {d mc ms : Nat} {av : List AV} {h : AH} {Q : Option AV → AH → Prop} (hy : plainName y.1.cls = true) (hlen : (enL av).length ≤ y.2.2.1) (hw : wp y d mc ms Q 0 (lo0 av y.2.2.1) [] h) : Ct d mc ms y av h Q := by
  intro l E
  refine Met.ofW (cc := y.2.1) (maxL := y.2.2.1) (ret := y.2.2.2) hy rfl ?_
  intro p e s m args below meth c s₁ B hml hv
  obtain ⟨rfl, hav, hWd, hG⟩ := hv
  have hts := atoms_spec (ws := wsM y) B.pre
  have hown : s.vm.findClass y.1.cls = some m.cls := findClass_of_methodNamed B.named
  have hlocks := B.notSynchronized
  have hx := B.exec
  have hb := B.bytes
  have hr := B.returns
  have hin : meth.name = y.1.name := (name_of_methodNamed B.named B.method).1
  have hl := lv_entry (av.map (cv E.1)) (n := y.2.2.1) (by rw [enL_len]; exact hlen)
  rw [lg_entry_eq]
  refine hw E p l e _ s m _ below meth c _ ⟨hx, hb, hml, hown, fun w h => hts w (List.mem_cons_of_mem _ h), hG, fun e => hin.trans e⟩ ?_ (Nat.le_refl _) (Nat.le_refl _) (by rw [hWd.1]; omega) s.heap [] _ 0 0 (Nat.le_of_eq (Nat.zero_add _)) (Nat.le_of_eq (Nat.zero_add _)) hWd va_S.rf (Lc_entry _ _ _ hl) (fun v h => by cases h) (fun i v h => hav v (enL_mem av i v (by rw [lo0, lg_app] at h; exact h)))
  intro v h' pc ls H locs cells slots hi hok hQ hWd' hS hc hs
  refine W.widen (k := mc) (n := ms) hc hs ?_
  have hq : ∀ t : State, t.heap = H → s.WarmedH t.vm → QcM E Q (List.map (cv E.1) av).toArray s (.returned (v.map (cv E.1))) t := fun t ht _ => ⟨v, h', rfl, hok, hQ, by rw [ht]; exact hWd', hS.F ht⟩
  rcases hi with ⟨x, rfl, e1, e2⟩ | ⟨x, rfl, e0, e1, e2⟩ | ⟨x, rfl, e1, e2⟩ | ⟨x, t, rfl, e1, e2⟩ | ⟨rfl, e1, e2⟩
  · exact W.iret (v := Int32.ofInt x) hx hb (hr.trans e1) hq hS.2.2 e2
  · exact W.zret (v := Int32.ofInt x) (ty := .boolean) hx hb (hr.trans e1) (by rcases e0 with rfl | rfl <;> decide +kernel) hq hS.2.2 e2
  · exact W.lret (v := x) hx hb (hr.trans e1) hq hS.2.2 e2
  · exact W.aret (v := .ref (E.1 + x)) (rt := .array t) hx hb (hr.trans e1) (Or.inr ⟨t, rfl⟩) (Or.inr ⟨_, rfl⟩) hq hS.2.2 e2
  · exact W.vret hx hb (hr.trans e1) hq hS.2.2 e2
end
section
section WROWS
variable {y : MI} {d rc rs : Nat} {Q : Option AV → AH → Prop} {pc q : Nat} {lo : List (Option AV)} {st st' : List AV} {h : AH}
/-- an instruction that changes the operand stack alone -/
theorem wp_pure (k : wp y d rc rs Q q lo st' h) (hstep : ∀ (b : Nat) (p : Program) (l : Launch) (e : Env) (R : Room) (s : State) (m : MethodId) (args : Array Value) (below : List Frame) (meth : Method) (c : Code) (Z : State → Prop) (H : Heap) (locs : List Loc) (ls : Array Slot) (cells slots : Nat), p.tables.exec = Jvm.exec → c.code = y.2.1 → Lc b y.2.2.1 ls lo → (∀ v ∈ st, okV v) → W p l e R s m args below meth c H locs cells slots Z (F0 m q ls (st'.map (cv b))) → W p l e R s m args below meth c H locs cells slots Z (F0 m pc ls (st.map (cv b))))
    (hok : (∀ v ∈ st, okV v) → (∀ i v, lg lo i = some v → okV v) → ∀ v ∈ st', okV v) : wp y d rc rs Q pc lo st h := by
  intro E p l e R s m args below meth c Z hC hR hd1 hd2 hb H locs ls cells slots hc hs hW hS hl hst hlo
  exact hstep E.1 p l e R s m args below meth c Z H locs ls cells slots hC.1 hC.2.1 hl hst (k E p l e R s m args below meth c Z hC hR hd1 hd2 hb H locs ls cells slots hc hs hW hS hl (hok hst hlo) hlo)
theorem ok_cons {v : AV} {st : List AV} : (∀ w ∈ v :: st, okV w) ↔ okV v ∧ ∀ w ∈ st, okV w := List.forall_mem_cons
theorem oi_add (x z : Int) : Int32.ofInt x + Int32.ofInt z = Int32.ofInt (x + z) := (Int32.ofInt_add x z).symm
theorem oi_sub (x z : Int) : Int32.ofInt x - Int32.ofInt z = Int32.ofInt (x - z) := (Int32.ofInt_sub x z).symm
theorem oi_mul (x z : Int) : Int32.ofInt x * Int32.ofInt z = Int32.ofInt (x * z) := (Int32.ofInt_mul x z).symm
theorem oi_back (x : Int32) : Int32.ofInt x.toInt = x := Int32.ofInt_toInt x
theorem oi_in (x : Int32) : inr x.toInt := ⟨Int32.le_toInt x, Int32.toInt_lt x⟩
theorem oi_to {x : Int} (h : inr x) : (Int32.ofInt x).toInt = x := Int32.toInt_ofInt_of_le h.1 h.2
theorem oi_lt {x z : Int} (hx : inr x) (hz : inr z) : Int32.ofInt x < Int32.ofInt z ↔ x < z := by rw [Int32.lt_iff_toInt_lt, oi_to hx, oi_to hz]
theorem oi_le {x z : Int} (hx : inr x) (hz : inr z) : Int32.ofInt x ≤ Int32.ofInt z ↔ x ≤ z := by rw [Int32.le_iff_toInt_le, oi_to hx, oi_to hz]
theorem oi_eq {x z : Int} (hx : inr x) (hz : inr z) : Int32.ofInt x = Int32.ofInt z ↔ x = z := ⟨fun e => by rw [← oi_to hx, ← oi_to hz, e], fun e => by rw [e]⟩
theorem oi_0 : (0 : Int32) = Int32.ofInt 0 := rfl
theorem in_0 : inr 0 := by unfold inr; omega
theorem oi_nat {x : Int} (hx : inr x) : (Int32.ofInt x).toNatClampNeg = x.toNat := by
  show (Int32.ofInt x).toInt.toNat = x.toNat
  rw [oi_to hx]
theorem w_push (v : Int) (hv : inr v) {i : Instr} {n : Nat} (hd : decode y.2.1 pc = .ok (i, n)) (hi : (i = .iconst v ∧ n = 1) ∨ (∃ u : Int, i = .bipush u ∧ n = 2 ∧ (Int8.ofInt u).toInt32 = Int32.ofInt v) ∨ (∃ u : Int, i = .sipush u ∧ n = 3 ∧ (Int16.ofInt u).toInt32 = Int32.ofInt v))
    (k : wp y d rc rs Q (pc + n) lo (vi v :: st) h) : wp y d rc rs Q pc lo st h := by
  refine wp_pure k ?_ (fun h1 _ => ok_cons.mpr ⟨hv, h1⟩)
  intro b p l e R s m args below meth c Z H locs ls cells slots hx hb hl hst kk
  rcases hi with ⟨rfl, rfl⟩ | ⟨u, rfl, rfl, hu⟩ | ⟨u, rfl, rfl, hu⟩
  · exact lv_iconst hx hb hd rfl kk
  · exact lv_bipush hx hb hd hu kk
  · exact lv_sipush hx hb hd hu kk
theorem w_lconst {f : Fin 2} {v : Int64} (hd : decode y.2.1 pc = .ok (.lconst f, 1)) (hv : Int64.ofNat (f : Nat) = v) (k : wp y d rc rs Q (pc + 1) lo (vl v :: st) h) : wp y d rc rs Q pc lo st h :=
  wp_pure k (fun b p l e R s m args below meth c Z H locs ls cells slots hx hb hl hst kk => lv_lconst hx hb hd hv kk) (fun h1 _ => ok_cons.mpr ⟨trivial, h1⟩)
theorem w_iload {i : Nat} {x : Int} {ins : Instr} {n : Nat} (hd : decode y.2.1 pc = .ok (ins, n)) (hi : (∃ k : Fin 4, ins = .iload_n k ∧ (k : Nat) = i ∧ n = 1) ∨ (ins = .iload i ∧ n = 2)) (hl : lg lo i = some (vi x)) (k : wp y d rc rs Q (pc + n) lo (vi x :: st) h) : wp y d rc rs Q pc lo st h := by
  refine wp_pure k ?_ (fun h1 h2 => ok_cons.mpr ⟨h2 i _ hl, h1⟩)
  intro b p l e R s m args below meth c Z H locs ls cells slots hx hb hL hst kk
  rcases hi with ⟨f, rfl, hf, rfl⟩ | ⟨rfl, rfl⟩
  · exact lv_iload_n hx hb hd hf (hL.get hl) kk
  · exact lv_iload hx hb hd (hL.get hl) kk
theorem w_aload {i : Nat} {x : Nat} {ins : Instr} {n : Nat} (hd : decode y.2.1 pc = .ok (ins, n)) (hi : (∃ k : Fin 4, ins = .aload_n k ∧ (k : Nat) = i ∧ n = 1) ∨ (ins = .aload i ∧ n = 2)) (hl : lg lo i = some (vr x)) (k : wp y d rc rs Q (pc + n) lo (vr x :: st) h) : wp y d rc rs Q pc lo st h := by
  refine wp_pure k ?_ (fun h1 h2 => ok_cons.mpr ⟨h2 i _ hl, h1⟩)
  intro b p l e R s m args below meth c Z H locs ls cells slots hx hb hL hst kk
  rcases hi with ⟨f, rfl, hf, rfl⟩ | ⟨rfl, rfl⟩
  · exact lv_aload_n hx hb hd hf (hL.get hl) kk
  · exact lv_aload hx hb hd (hL.get hl) kk
theorem w_lload {i : Nat} {x : Int64} {f : Fin 4} (hd : decode y.2.1 pc = .ok (.lload_n f, 1)) (hf : (f : Nat) = i) (hl : lg lo i = some (vl x)) (k : wp y d rc rs Q (pc + 1) lo (vl x :: st) h) : wp y d rc rs Q pc lo st h :=
  wp_pure k (fun b p l e R s m args below meth c Z H locs ls cells slots hx hb hL hst kk => lv_lload_n hx hb hd hf (hL.get hl) kk) (fun h1 _ => ok_cons.mpr ⟨trivial, h1⟩)
theorem lst_ok {i : Nat} {v : AV} (hv : okV v) (h : ∀ i v, lg lo i = some v → okV v) : ∀ j w, lg (lst lo i (some v)) j = some w → okV w := fun j w hw => by
  rcases lg_lst _ _ _ _ _ hw with ⟨-, e⟩ | ⟨-, e⟩
  · cases e; exact hv
  · exact h j w e
theorem w_istore {i : Nat} {x : Int} {ins : Instr} {n : Nat} (hd : decode y.2.1 pc = .ok (ins, n)) (hi : (∃ k : Fin 4, ins = .istore_n k ∧ (k : Nat) = i ∧ n = 1) ∨ (ins = .istore i ∧ n = 2)) (hn : i < y.2.2.1) (hno : noL lo i = true) (k : wp y d rc rs Q (pc + n) (lst lo i (some (vi x))) st h) : wp y d rc rs Q pc lo (vi x :: st) h := by
  intro E p l e R s m args below meth c Z hC hR hd1 hd2 hb H locs ls cells slots hc hs hW hS hl hst hlo
  rcases hi with ⟨f, rfl, hf, rfl⟩ | ⟨rfl, rfl⟩
  · exact lv_istore_n hC.1 hC.2.1 hd hf hl hn rfl (fun ls' hl' => k E p l e R s m args below meth c Z hC hR hd1 hd2 hb H locs ls' cells slots hc hs hW hS (Lc.of1 (v := vi x) hno hl') (ok_cons.mp hst).2 (lst_ok (ok_cons.mp hst).1 hlo))
  · exact lv_istore hC.1 hC.2.1 hd hl hn rfl (fun ls' hl' => k E p l e R s m args below meth c Z hC hR hd1 hd2 hb H locs ls' cells slots hc hs hW hS (Lc.of1 (v := vi x) hno hl') (ok_cons.mp hst).2 (lst_ok (ok_cons.mp hst).1 hlo))
theorem w_astore {i : Nat} {x : Nat} {ins : Instr} {n : Nat} (hd : decode y.2.1 pc = .ok (ins, n)) (hi : (∃ k : Fin 4, ins = .astore_n k ∧ (k : Nat) = i ∧ n = 1) ∨ (ins = .astore i ∧ n = 2)) (hn : i < y.2.2.1) (hno : noL lo i = true) (k : wp y d rc rs Q (pc + n) (lst lo i (some (vr x))) st h) : wp y d rc rs Q pc lo (vr x :: st) h := by
  intro E p l e R s m args below meth c Z hC hR hd1 hd2 hb H locs ls cells slots hc hs hW hS hl hst hlo
  rcases hi with ⟨f, rfl, hf, rfl⟩ | ⟨rfl, rfl⟩
  · exact lv_astore_n hC.1 hC.2.1 hd hf hl hn rfl (fun ls' hl' => k E p l e R s m args below meth c Z hC hR hd1 hd2 hb H locs ls' cells slots hc hs hW hS (Lc.of1 (v := vr x) hno hl') (ok_cons.mp hst).2 (lst_ok (ok_cons.mp hst).1 hlo))
  · exact lv_astore hC.1 hC.2.1 hd hl hn rfl (fun ls' hl' => k E p l e R s m args below meth c Z hC hR hd1 hd2 hb H locs ls' cells slots hc hs hW hS (Lc.of1 (v := vr x) hno hl') (ok_cons.mp hst).2 (lst_ok (ok_cons.mp hst).1 hlo))
theorem w_lstore {i : Nat} {x : Int64} {f : Fin 4} (hd : decode y.2.1 pc = .ok (.lstore_n f, 1)) (hf : (f : Nat) = i) (hn : i + 1 < y.2.2.1) (hno : noL lo i = true) (k : wp y d rc rs Q (pc + 1) (lst (lst lo (i + 1) none) i (some (vl x))) st h) : wp y d rc rs Q pc lo (vl x :: st) h := by
  intro E p l e R s m args below meth c Z hC hR hd1 hd2 hb H locs ls cells slots hc hs hW hS hl hst hlo
  refine lv_lstore_n hC.1 hC.2.1 hd hf hl hn rfl (fun ls' hl' => k E p l e R s m args below meth c Z hC hR hd1 hd2 hb H locs ls' cells slots hc hs hW hS (Lc.of2 (v := vl x) hno hl') (ok_cons.mp hst).2 (lst_ok (ok_cons.mp hst).1 ?_))
  intro j w hw
  rcases lg_lst _ _ _ _ _ hw with ⟨-, e⟩ | ⟨-, e⟩
  · cases e
  · exact hlo j w e
theorem w_iinc {i : Nat} {n x : Int} (hd : decode y.2.1 pc = .ok (.iinc i n, 3)) (hx : lg lo i = some (vi x)) (hr : inr (x + n)) (hn : i < y.2.2.1) (hno : noL lo i = true) (k : wp y d rc rs Q (pc + 3) (lst lo i (some (vi (x + n)))) st h) : wp y d rc rs Q pc lo st h := by
  intro E p l e R s m args below meth c Z hC hR hd1 hd2 hb H locs ls cells slots hc hs hW hS hl hst hlo
  have hm : (i, Value.int (Int32.ofInt x)) ∈ lvs E.1 lo := lvs_mem.mpr ⟨_, hx, rfl⟩
  obtain ⟨kk, hk⟩ := List.mem_iff_getElem?.mp hm
  exact lv_iinc hC.1 hC.2.1 hd hl hk (oi_add x n) hn rfl (fun ls' hl' => k E p l e R s m args below meth c Z hC hR hd1 hd2 hb H locs ls' cells slots hc hs hW hS (Lc.of1 (v := vi (x + n)) hno hl') hst (lst_ok hr hlo))
theorem w_bin {ins : Instr} {x z r : Int} (hr : inr r) (hrow : ∀ (p : Program) (l : Launch) (e : Env) (R : Room) (s : State) (m : MethodId) (args : Array Value) (below : List Frame) (meth : Method) (c : Code) (Z : State → Prop) (H : Heap) (locs : List Loc) (ls : Array Slot) (cells slots : Nat) (rest : List Value), p.tables.exec = Jvm.exec → c.code = y.2.1 → inr x → inr z → W p l e R s m args below meth c H locs cells slots Z (F0 m (pc + 1) ls (.int (Int32.ofInt r) :: rest)) → W p l e R s m args below meth c H locs cells slots Z (F0 m pc ls (.int (Int32.ofInt z) :: .int (Int32.ofInt x) :: rest)))
    (k : wp y d rc rs Q (pc + 1) lo (vi r :: st) h) : wp y d rc rs Q pc lo (vi z :: vi x :: st) h :=
  wp_pure k (fun b p l e R s m args below meth c Z H locs ls cells slots hx hb hL hst kk => hrow p l e R s m args below meth c Z H locs ls cells slots _ hx hb (ok_cons.mp (ok_cons.mp hst).2).1 (ok_cons.mp hst).1 kk) (fun h1 _ => ok_cons.mpr ⟨hr, (ok_cons.mp (ok_cons.mp h1).2).2⟩)
theorem w_iadd {x z : Int} (hd : decode y.2.1 pc = .ok (.iadd, 1)) (hr : inr (x + z)) (k : wp y d rc rs Q (pc + 1) lo (vi (x + z) :: st) h) : wp y d rc rs Q pc lo (vi z :: vi x :: st) h :=
  w_bin (ins := .iadd) hr (fun p l e R s m args below meth c Z H locs ls cells slots rest hx hb _ _ kk => lv_iadd hx hb hd (by rw [oi_add]; exact kk)) k
theorem w_isub {x z : Int} (hd : decode y.2.1 pc = .ok (.isub, 1)) (hr : inr (x - z)) (k : wp y d rc rs Q (pc + 1) lo (vi (x - z) :: st) h) : wp y d rc rs Q pc lo (vi z :: vi x :: st) h :=
  w_bin (ins := .isub) hr (fun p l e R s m args below meth c Z H locs ls cells slots rest hx hb _ _ kk => lv_isub hx hb hd (by rw [oi_sub]; exact kk)) k
theorem w_imul {x z : Int} (hd : decode y.2.1 pc = .ok (.imul, 1)) (hr : inr (x * z)) (k : wp y d rc rs Q (pc + 1) lo (vi (x * z) :: st) h) : wp y d rc rs Q pc lo (vi z :: vi x :: st) h :=
  w_bin (ins := .imul) hr (fun p l e R s m args below meth c Z H locs ls cells slots rest hx hb _ _ kk => lv_imul hx hb hd (by rw [oi_mul]; exact kk)) k
theorem oi_div {x z : Int} (hx : inr x) (hz : inr z) (h0 : 0 ≤ x) (h1 : 0 < z) : Int32.ofInt x / Int32.ofInt z = Int32.ofInt (x / z) := by
  have hle : x / z ≤ x := Int.ediv_le_self _ h0
  have hge : 0 ≤ x / z := Int.ediv_nonneg h0 (by omega)
  have hr : inr (x / z) := by unfold inr at *; omega
  have hn : ¬ ((Int32.ofInt x).toInt = -2147483648 ∧ (Int32.ofInt z).toInt = -1) := by rw [oi_to hx, oi_to hz]; omega
  have e : (Int32.ofInt x / Int32.ofInt z).toInt = (Int32.ofInt (x / z)).toInt := by
    rw [Int32.toInt_div, oi_to hx, oi_to hz, oi_to hr, Int.tdiv_eq_ediv_of_nonneg h0]
    rw [Int.bmod_eq_of_le] <;> (unfold inr at hr; simp [Int32.size]; omega)
  rw [← oi_back (Int32.ofInt x / Int32.ofInt z), e, oi_back]
theorem w_idiv {x z : Int} (hd : decode y.2.1 pc = .ok (.idiv, 1)) (h0 : 0 ≤ x) (h1 : 0 < z) (hr : inr (x / z)) (k : wp y d rc rs Q (pc + 1) lo (vi (x / z) :: st) h) : wp y d rc rs Q pc lo (vi z :: vi x :: st) h :=
  w_bin (ins := .idiv) hr (fun p l e R s m args below meth c Z H locs ls cells slots rest hx hb ix iz kk => lv_idiv hx hb hd (fun e0 => by rw [oi_0, oi_eq iz in_0] at e0; omega) (by rw [oi_div ix iz h0 h1]; exact kk)) k
theorem w_irem {x z : Int} (hd : decode y.2.1 pc = .ok (.irem, 1)) (h0 : 0 ≤ x) (h1 : 0 < z) (hr : inr (x % z)) (k : wp y d rc rs Q (pc + 1) lo (vi (x % z) :: st) h) : wp y d rc rs Q pc lo (vi z :: vi x :: st) h :=
  w_bin (ins := .irem) hr (fun p l e R s m args below meth c Z H locs ls cells slots rest hx hb ix iz kk => lv_irem hx hb hd (fun e0 => by rw [oi_0, oi_eq iz in_0] at e0; omega) (by rw [oi_div ix iz h0 h1, oi_mul, oi_sub, show x - x / z * z = x % z by rw [Int.emod_def, Int.mul_comm]]; exact kk)) k
theorem w_iand {x z : Int} (hd : decode y.2.1 pc = .ok (.iand, 1)) (k : wp y d rc rs Q (pc + 1) lo (vi (Int32.ofInt x &&& Int32.ofInt z).toInt :: st) h) : wp y d rc rs Q pc lo (vi z :: vi x :: st) h :=
  w_bin (ins := .iand) (oi_in _) (fun p l e R s m args below meth c Z H locs ls cells slots rest hx hb _ _ kk => lv_iand hx hb hd (by rw [oi_back] at kk; exact kk)) k
theorem w_ior {x z : Int} (hd : decode y.2.1 pc = .ok (.ior, 1)) (k : wp y d rc rs Q (pc + 1) lo (vi (Int32.ofInt x ||| Int32.ofInt z).toInt :: st) h) : wp y d rc rs Q pc lo (vi z :: vi x :: st) h :=
  w_bin (ins := .ior) (oi_in _) (fun p l e R s m args below meth c Z H locs ls cells slots rest hx hb _ _ kk => lv_ior hx hb hd (by rw [oi_back] at kk; exact kk)) k
theorem w_ishl {x z : Int} (hd : decode y.2.1 pc = .ok (.ishl, 1)) (k : wp y d rc rs Q (pc + 1) lo (vi (Int32.ofInt x <<< (Int32.ofInt z &&& 31)).toInt :: st) h) : wp y d rc rs Q pc lo (vi z :: vi x :: st) h :=
  w_bin (ins := .ishl) (oi_in _) (fun p l e R s m args below meth c Z H locs ls cells slots rest hx hb _ _ kk => lv_ishl hx hb hd (by rw [oi_back] at kk; exact kk)) k
theorem w_i2b {x : Int} (hd : decode y.2.1 pc = .ok (.i2b, 1)) (k : wp y d rc rs Q (pc + 1) lo (vi ((Int32.ofInt x).toInt8.toInt32).toInt :: st) h) : wp y d rc rs Q pc lo (vi x :: st) h :=
  wp_pure k (fun b p l e R s m args below meth c Z H locs ls cells slots hx hb hL hst kk => lv_i2b hx hb hd (oi_back _).symm kk) (fun h1 _ => ok_cons.mpr ⟨oi_in _, (ok_cons.mp h1).2⟩)
theorem oi_neg (x : Int) : -Int32.ofInt x = Int32.ofInt (-x) := (Int32.ofInt_neg x).symm
theorem w_ineg {x : Int} (hd : decode y.2.1 pc = .ok (.ineg, 1)) (hr : inr (-x)) (k : wp y d rc rs Q (pc + 1) lo (vi (-x) :: st) h) : wp y d rc rs Q pc lo (vi x :: st) h :=
  wp_pure k (fun b p l e R s m args below meth c Z H locs ls cells slots hx hb hL hst kk => lv_ineg hx hb hd (by rw [oi_neg]; exact kk)) (fun h1 _ => ok_cons.mpr ⟨hr, (ok_cons.mp h1).2⟩)
theorem w_l2i {x : Int64} (hd : decode y.2.1 pc = .ok (.l2i, 1)) (k : wp y d rc rs Q (pc + 1) lo (vi (x.toInt32).toInt :: st) h) : wp y d rc rs Q pc lo (vl x :: st) h :=
  wp_pure k (fun b p l e R s m args below meth c Z H locs ls cells slots hx hb hL hst kk => lv_l2i hx hb hd (oi_back _).symm kk) (fun h1 _ => ok_cons.mpr ⟨oi_in _, (ok_cons.mp h1).2⟩)
theorem w_ladd {x z : Int64} (hd : decode y.2.1 pc = .ok (.ladd, 1)) (k : wp y d rc rs Q (pc + 1) lo (vl (x + z) :: st) h) : wp y d rc rs Q pc lo (vl z :: vl x :: st) h :=
  wp_pure k (fun b p l e R s m args below meth c Z H locs ls cells slots hx hb hL hst kk => lv_ladd hx hb hd kk) (fun h1 _ => ok_cons.mpr ⟨trivial, (ok_cons.mp (ok_cons.mp h1).2).2⟩)
theorem w_lsub {x z : Int64} (hd : decode y.2.1 pc = .ok (.lsub, 1)) (k : wp y d rc rs Q (pc + 1) lo (vl (x - z) :: st) h) : wp y d rc rs Q pc lo (vl z :: vl x :: st) h :=
  wp_pure k (fun b p l e R s m args below meth c Z H locs ls cells slots hx hb hL hst kk => lv_lsub hx hb hd kk) (fun h1 _ => ok_cons.mpr ⟨trivial, (ok_cons.mp (ok_cons.mp h1).2).2⟩)
theorem w_land {x z : Int64} (hd : decode y.2.1 pc = .ok (.land, 1)) (k : wp y d rc rs Q (pc + 1) lo (vl (x &&& z) :: st) h) : wp y d rc rs Q pc lo (vl z :: vl x :: st) h :=
  wp_pure k (fun b p l e R s m args below meth c Z H locs ls cells slots hx hb hL hst kk => lv_land hx hb hd kk) (fun h1 _ => ok_cons.mpr ⟨trivial, (ok_cons.mp (ok_cons.mp h1).2).2⟩)
theorem w_lor {x z : Int64} (hd : decode y.2.1 pc = .ok (.lor, 1)) (k : wp y d rc rs Q (pc + 1) lo (vl (x ||| z) :: st) h) : wp y d rc rs Q pc lo (vl z :: vl x :: st) h :=
  wp_pure k (fun b p l e R s m args below meth c Z H locs ls cells slots hx hb hL hst kk => lv_lor hx hb hd kk) (fun h1 _ => ok_cons.mpr ⟨trivial, (ok_cons.mp (ok_cons.mp h1).2).2⟩)
def shl6 (x : Int64) (z : Int) : Int64 := x <<< ((Int32.ofInt z).toInt64 &&& 63)
def shr6 (x : Int64) (z : Int) : Int64 := (x.toUInt64 >>> ((Int32.ofInt z).toInt64.toUInt64 &&& Int64.toUInt64 63)).toInt64
theorem w_lshl {x : Int64} {z : Int} (hd : decode y.2.1 pc = .ok (.lshl, 1)) (k : wp y d rc rs Q (pc + 1) lo (vl (shl6 x z) :: st) h) : wp y d rc rs Q pc lo (vi z :: vl x :: st) h :=
  wp_pure k (fun b p l e R s m args below meth c Z H locs ls cells slots hx hb hL hst kk => lv_lshl hx hb hd rfl kk) (fun h1 _ => ok_cons.mpr ⟨trivial, (ok_cons.mp (ok_cons.mp h1).2).2⟩)
theorem w_lushr {x : Int64} {z : Int} (hd : decode y.2.1 pc = .ok (.lushr, 1)) (k : wp y d rc rs Q (pc + 1) lo (vl (shr6 x z) :: st) h) : wp y d rc rs Q pc lo (vi z :: vl x :: st) h :=
  wp_pure k (fun b p l e R s m args below meth c Z H locs ls cells slots hx hb hL hst kk => lv_lushr hx hb hd rfl kk) (fun h1 _ => ok_cons.mpr ⟨trivial, (ok_cons.mp (ok_cons.mp h1).2).2⟩)
theorem w_lcmp {x z : Int64} (hd : decode y.2.1 pc = .ok (.lcmp, 1)) (k : wp y d rc rs Q (pc + 1) lo (vi (lg_cmp x z).toInt :: st) h) : wp y d rc rs Q pc lo (vl z :: vl x :: st) h :=
  wp_pure k (fun b p l e R s m args below meth c Z H locs ls cells slots hx hb hL hst kk => W.lcmp hx hb hd (by rw [← oi_back (lg_cmp x z)]; exact kk)) (fun h1 _ => ok_cons.mpr ⟨oi_in _, (ok_cons.mp (ok_cons.mp h1).2).2⟩)
theorem w_dup {v : AV} (hd : decode y.2.1 pc = .ok (.dup, 1)) (hv : cat v = 1) (k : wp y d rc rs Q (pc + 1) lo (v :: v :: st) h) : wp y d rc rs Q pc lo (v :: st) h :=
  wp_pure k (fun b p l e R s m args below meth c Z H locs ls cells slots hx hb hL hst kk => lv_dup hx hb hd (by rw [cv_cat]; exact hv) kk) (fun h1 _ => ok_cons.mpr ⟨(ok_cons.mp h1).1, h1⟩)
theorem w_dup2 {v w : AV} (hd : decode y.2.1 pc = .ok (.dup2, 1)) (hv : cat v = 1) (hw : cat w = 1) (k : wp y d rc rs Q (pc + 1) lo (v :: w :: v :: w :: st) h) : wp y d rc rs Q pc lo (v :: w :: st) h :=
  wp_pure k (fun b p l e R s m args below meth c Z H locs ls cells slots hx hb hL hst kk => lv_dup2_11 hx hb hd (by rw [cv_cat]; exact hv) (by rw [cv_cat]; exact hw) kk) (fun h1 _ => ok_cons.mpr ⟨(ok_cons.mp h1).1, ok_cons.mpr ⟨(ok_cons.mp (ok_cons.mp h1).2).1, h1⟩⟩)
theorem w_pop {v : AV} (hd : decode y.2.1 pc = .ok (.pop, 1)) (hv : cat v = 1) (k : wp y d rc rs Q (pc + 1) lo st h) : wp y d rc rs Q pc lo (v :: st) h :=
  wp_pure k (fun b p l e R s m args below meth c Z H locs ls cells slots hx hb hL hst kk => lv_pop hx hb hd (by rw [cv_cat]; exact hv) kk) (fun h1 _ => (ok_cons.mp h1).2)
end WROWS
end
section
/-! the classes by number; which entry of a class file is which field (and where the table says so) -/
def rx : Nat → String := fun c => match c with
  | 0 => RX0
  | 1 => RX1
  | 2 => RX2
  | 3 => RX3
  | 4 => RX4
  | 5 => RX5
  | 6 => RX6
  | 7 => RX7
  | 8 => RX8
  | 9 => RX9
  | 10 => RX10
  | 11 => RX11
  | 12 => RX12
  | _ => RL
def tf : Nat → u_T := fun c => match c with
  | 0 => TX0
  | 1 => TX1
  | 2 => TX2
  | 3 => TX3
  | 4 => TX4
  | 5 => TX5
  | 6 => TX6
  | 7 => TX7
  | 8 => TX8
  | 9 => TX9
  | 10 => TX10
  | 11 => TX11
  | 12 => TX12
  | _ => TX0
def tyf : Nat → Nat → FieldType := fun c => match c with
  | 0 => tyX0
  | 1 => tyX1
  | 2 => tyX2
  | 3 => tyX3
  | 4 => tyX4
  | 5 => tyX5
  | 6 => tyX6
  | 7 => tyX7
  | 8 => tyX8
  | 9 => tyX9
  | 10 => tyX10
  | 11 => tyX11
  | 12 => tyX12
  | _ => tyX0
def nf (c : Nat) : Nat := (fR c).length
theorem lt13 {c : Nat} (h : c < 13) : c = 0 ∨ c = 1 ∨ c = 2 ∨ c = 3 ∨ c = 4 ∨ c = 5 ∨ c = 6 ∨ c = 7 ∨ c = 8 ∨ c = 9 ∨ c = 10 ∨ c = 11 ∨ c = 12 := by omega
theorem vwAt {c : Nat} (h : c < 13) : vwCl[c]? = some (rx c, tf c, nf c) := by
  rcases lt13 h with rfl | rfl | rfl | rfl | rfl | rfl | rfl | rfl | rfl | rfl | rfl | rfl | rfl <;> rfl
theorem tyAt {c : Nat} (h : c < 13) : ∀ k, k < nf c → parseFieldDescriptor (tf c k).2.2.1 = some (tyf c k) := by
  rcases lt13 h with rfl | rfl | rfl | rfl | rfl | rfl | rfl | rfl | rfl | rfl | rfl | rfl | rfl
  · exact tyX0_ok
  · exact tyX1_ok
  · exact tyX2_ok
  · exact tyX3_ok
  · exact tyX4_ok
  · exact tyX5_ok
  · exact tyX6_ok
  · exact tyX7_ok
  · exact tyX8_ok
  · exact tyX9_ok
  · exact tyX10_ok
  · exact tyX11_ok
  · exact tyX12_ok
theorem nmAt {c : Nat} (h : c < 13) : ∀ a, a < nf c → ∀ b, b < nf c → a ≠ b → (tf c a).2.1 ≠ (tf c b).2.1 := by
  rcases lt13 h with rfl | rfl | rfl | rfl | rfl | rfl | rfl | rfl | rfl | rfl | rfl | rfl | rfl
  · exact nmX0
  · exact nmX1
  · exact nmX2
  · exact nmX3
  · exact nmX4
  · exact nmX5
  · exact nmX6
  · exact nmX7
  · exact nmX8
  · exact nmX9
  · exact nmX10
  · exact nmX11
  · exact nmX12
theorem zipG : ∀ {l : List Cond} {n : List Nat}, (l.zip n).all (fun q => decide (lw_tbl[q.2]? = some q.1) && goodWord q.1) = true → l.length = n.length → ∀ w ∈ l, w ∈ gt
  | [], _, _, _, w, h => by cases h
  | x :: l, [], _, e, w, h => by simp at e
  | x :: l, k :: n, ha, e, w, h => by
    simp only [List.zip_cons_cons, List.all_cons, Bool.and_eq_true, decide_eq_true_eq] at ha
    rcases List.mem_cons.mp h with rfl | h
    · exact gt_ok (List.mem_of_getElem? ha.1.1) ha.1.2
    · exact zipG ha.2 (by simpa using e) w h
theorem inG0 : ∀ w ∈ u_ws RX0 TX0 2, w ∈ gt := by
  have h : ((u_ws RX0 TX0 2).zip [468, 470]).all (fun q => decide (lw_tbl[q.2]? = some q.1) && goodWord q.1) = true := by decide +kernel
  have e : (u_ws RX0 TX0 2).length = 2 := by decide +kernel
  exact zipG h (by rw [e]; rfl)
theorem inG1 : ∀ w ∈ u_ws RX1 TX1 5, w ∈ gt := by
  have h : ((u_ws RX1 TX1 5).zip [283, 285, 287, 289, 291]).all (fun q => decide (lw_tbl[q.2]? = some q.1) && goodWord q.1) = true := by decide +kernel
  have e : (u_ws RX1 TX1 5).length = 5 := by decide +kernel
  exact zipG h (by rw [e]; rfl)
theorem inG2 : ∀ w ∈ u_ws RX2 TX2 3, w ∈ gt := by
  have h : ((u_ws RX2 TX2 3).zip [258, 260, 262]).all (fun q => decide (lw_tbl[q.2]? = some q.1) && goodWord q.1) = true := by decide +kernel
  have e : (u_ws RX2 TX2 3).length = 3 := by decide +kernel
  exact zipG h (by rw [e]; rfl)
theorem inG3 : ∀ w ∈ u_ws RX3 TX3 4, w ∈ gt := by
  have h : ((u_ws RX3 TX3 4).zip [206, 208, 210, 212]).all (fun q => decide (lw_tbl[q.2]? = some q.1) && goodWord q.1) = true := by decide +kernel
  have e : (u_ws RX3 TX3 4).length = 4 := by decide +kernel
  exact zipG h (by rw [e]; rfl)
theorem inG4 : ∀ w ∈ u_ws RX4 TX4 2, w ∈ gt := by
  have h : ((u_ws RX4 TX4 2).zip [188, 190]).all (fun q => decide (lw_tbl[q.2]? = some q.1) && goodWord q.1) = true := by decide +kernel
  have e : (u_ws RX4 TX4 2).length = 2 := by decide +kernel
  exact zipG h (by rw [e]; rfl)
theorem inG5 : ∀ w ∈ u_ws RX5 TX5 7, w ∈ gt := by
  have h : ((u_ws RX5 TX5 7).zip [306, 308, 310, 312, 314, 316, 318]).all (fun q => decide (lw_tbl[q.2]? = some q.1) && goodWord q.1) = true := by decide +kernel
  have e : (u_ws RX5 TX5 7).length = 7 := by decide +kernel
  exact zipG h (by rw [e]; rfl)
theorem inG6 : ∀ w ∈ u_ws RX6 TX6 8, w ∈ gt := by
  have h : ((u_ws RX6 TX6 8).zip [231, 233, 235, 237, 239, 241, 243, 245]).all (fun q => decide (lw_tbl[q.2]? = some q.1) && goodWord q.1) = true := by decide +kernel
  have e : (u_ws RX6 TX6 8).length = 8 := by decide +kernel
  exact zipG h (by rw [e]; rfl)
theorem inG7 : ∀ w ∈ u_ws RX7 TX7 7, w ∈ gt := by
  have h : ((u_ws RX7 TX7 7).zip [564, 566, 568, 570, 572, 574, 576]).all (fun q => decide (lw_tbl[q.2]? = some q.1) && goodWord q.1) = true := by decide +kernel
  have e : (u_ws RX7 TX7 7).length = 7 := by decide +kernel
  exact zipG h (by rw [e]; rfl)
theorem inG8 : ∀ w ∈ u_ws RX8 TX8 3, w ∈ gt := by
  have h : ((u_ws RX8 TX8 3).zip [331, 333, 335]).all (fun q => decide (lw_tbl[q.2]? = some q.1) && goodWord q.1) = true := by decide +kernel
  have e : (u_ws RX8 TX8 3).length = 3 := by decide +kernel
  exact zipG h (by rw [e]; rfl)
theorem inG9 : ∀ w ∈ u_ws RX9 TX9 4, w ∈ gt := by
  have h : ((u_ws RX9 TX9 4).zip [167, 169, 171, 173]).all (fun q => decide (lw_tbl[q.2]? = some q.1) && goodWord q.1) = true := by decide +kernel
  have e : (u_ws RX9 TX9 4).length = 4 := by decide +kernel
  exact zipG h (by rw [e]; rfl)
theorem inG10 : ∀ w ∈ u_ws RX10 TX10 4, w ∈ gt := by
  have h : ((u_ws RX10 TX10 4).zip [131, 133, 135, 137]).all (fun q => decide (lw_tbl[q.2]? = some q.1) && goodWord q.1) = true := by decide +kernel
  have e : (u_ws RX10 TX10 4).length = 4 := by decide +kernel
  exact zipG h (by rw [e]; rfl)
theorem inG11 : ∀ w ∈ u_ws RX11 TX11 20, w ∈ gt := by
  have h : ((u_ws RX11 TX11 20).zip [358, 360, 362, 364, 366, 368, 370, 372, 374, 376, 378, 380, 382, 384, 386, 388, 390, 392, 394, 396]).all (fun q => decide (lw_tbl[q.2]? = some q.1) && goodWord q.1) = true := by decide +kernel
  have e : (u_ws RX11 TX11 20).length = 20 := by decide +kernel
  exact zipG h (by rw [e]; rfl)
theorem inG12 : ∀ w ∈ u_ws RX12 TX12 54, w ∈ gt := by
  have h : ((u_ws RX12 TX12 54).zip [1035, 1037, 1039, 1041, 1043, 1045, 1047, 1049, 1051, 1053, 1055, 1057, 1059, 1061, 1063, 1065, 1067, 1069, 1071, 1073, 1075, 1077, 1079, 1081, 1083, 1085, 1087, 1089, 1091, 1093, 1095, 1097, 1099, 1101, 1103, 1105, 1107, 1109, 1111, 1113, 1115, 1117, 1119, 1121, 1123, 1125, 1127, 1129, 1131, 1133, 1135, 1137, 1139, 1141]).all (fun q => decide (lw_tbl[q.2]? = some q.1) && goodWord q.1) = true := by decide +kernel
  have e : (u_ws RX12 TX12 54).length = 54 := by decide +kernel
  exact zipG h (by rw [e]; rfl)
theorem inG {c : Nat} (h : c < 13) : ∀ w ∈ u_ws (rx c) (tf c) (nf c), w ∈ gt := by
  rcases lt13 h with rfl | rfl | rfl | rfl | rfl | rfl | rfl | rfl | rfl | rfl | rfl | rfl | rfl
  · exact inG0
  · exact inG1
  · exact inG2
  · exact inG3
  · exact inG4
  · exact inG5
  · exact inG6
  · exact inG7
  · exact inG8
  · exact inG9
  · exact inG10
  · exact inG11
  · exact inG12
def flT : List (Nat × Nat × Nat × Nat × Nat) := [(10, 9, 10, 0, 124), (6, 71, 10, 0, 125), (10, 18, 10, 1, 126), (11, 112, 10, 1, 127), (6, 55, 10, 1, 128), (10, 15, 10, 2, 129), (10, 22, 10, 3, 130), (9, 11, 9, 0, 151), (1, 32, 9, 0, 152), (3, 31, 9, 0, 153), (4, 34, 9, 0, 154), (5, 51, 9, 0, 155), (11, 182, 9, 0, 156), (9, 17, 9, 1, 157), (3, 26, 9, 1, 158), (11, 154, 9, 1, 159), (4, 71, 9, 1, 160), (9, 21, 9, 2, 161), (1, 29, 9, 2, 162), (11, 153, 9, 2, 163), (4, 52, 9, 2, 164), (5, 48, 9, 2, 165), (11, 102, 9, 3, 166), (4, 9, 4, 0, 184), (11, 231, 4, 0, 185), (4, 25, 4, 1, 186), (11, 234, 4, 1, 187), (3, 15, 3, 0, 199), (11, 251, 3, 0, 200), (3, 19, 3, 1, 201), (11, 263, 3, 1, 202), (3, 23, 3, 2, 203), (11, 258, 3, 2, 204), (3, 9, 3, 3, 205), (6, 9, 6, 0, 223), (6, 15, 6, 1, 224), (6, 40, 6, 2, 225), (6, 46, 6, 3, 226), (6, 31, 6, 4, 227), (6, 65, 6, 5, 228), (6, 24, 6, 6, 229), (6, 28, 6, 7, 230), (2, 15, 2, 0, 254), (11, 354, 2, 0, 255), (2, 9, 2, 1, 256), (2, 19, 2, 2, 257), (1, 9, 1, 0, 273), (11, 345, 1, 0, 274), (1, 15, 1, 1, 275), (11, 319, 1, 1, 276), (1, 18, 1, 2, 277), (11, 158, 1, 2, 278), (1, 22, 1, 3, 279), (11, 161, 1, 3, 280), (1, 26, 1, 4, 281), (11, 316, 1, 4, 282), (5, 9, 5, 0, 299), (5, 15, 5, 1, 300), (5, 18, 5, 2, 301), (5, 27, 5, 3, 302), (5, 21, 5, 4, 303), (5, 31, 5, 5, 304), (5, 24, 5, 6, 305), (8, 9, 8, 0, 326), (11, 381, 8, 0, 327), (8, 15, 8, 1, 328), (11, 378, 8, 1, 329), (8, 19, 8, 2, 330), (11, 10, 11, 0, 338), (11, 18, 11, 1, 339), (11, 122, 11, 2, 340), (11, 25, 11, 3, 341), (11, 29, 11, 4, 342), (11, 32, 11, 5, 343), (11, 35, 11, 6, 344), (11, 39, 11, 7, 345), (11, 165, 11, 8, 346), (11, 45, 11, 9, 347), (11, 52, 11, 10, 348), (11, 56, 11, 11, 349), (11, 62, 11, 12, 350), (11, 285, 11, 13, 351), (11, 71, 11, 14, 352), (11, 78, 11, 15, 353), (11, 84, 11, 16, 354), (11, 91, 11, 17, 355), (11, 95, 11, 18, 356), (11, 98, 11, 19, 357), (0, 7, 0, 0, 461), (1, 57, 0, 0, 462), (11, 179, 0, 0, 463), (0, 13, 0, 1, 464), (7, 17, 0, 1, 465), (1, 46, 0, 1, 466), (11, 143, 0, 1, 467), (7, 7, 7, 0, 545), (9, 39, 7, 0, 546), (11, 212, 7, 0, 547), (7, 13, 7, 1, 548), (1, 36, 7, 1, 549), (3, 35, 7, 1, 550), (4, 38, 7, 1, 551), (9, 25, 7, 1, 552), (11, 186, 7, 1, 553), (7, 23, 7, 2, 554), (11, 221, 7, 2, 555), (7, 24, 7, 3, 556), (11, 225, 7, 3, 557), (7, 27, 7, 4, 558), (11, 228, 7, 4, 559), (7, 42, 7, 5, 560), (11, 199, 7, 5, 561), (7, 51, 7, 6, 562), (11, 202, 7, 6, 563), (12, 159, 12, 0, 981), (12, 9, 12, 1, 982), (12, 13, 12, 2, 983), (12, 18, 12, 3, 984), (12, 21, 12, 4, 985), (12, 168, 12, 5, 986), (12, 25, 12, 6, 987), (12, 28, 12, 7, 988), (12, 31, 12, 8, 989), (12, 34, 12, 9, 990), (12, 37, 12, 10, 991), (12, 40, 12, 11, 992), (12, 45, 12, 12, 993), (12, 106, 12, 13, 994), (12, 48, 12, 14, 995), (12, 140, 12, 15, 996), (12, 51, 12, 16, 997), (12, 54, 12, 17, 998), (12, 120, 12, 18, 999), (12, 57, 12, 19, 1000), (12, 123, 12, 20, 1001), (12, 197, 12, 21, 1002), (12, 203, 12, 22, 1003), (12, 60, 12, 23, 1004), (12, 229, 12, 24, 1005), (12, 233, 12, 25, 1006), (12, 236, 12, 26, 1007), (12, 239, 12, 27, 1008), (12, 64, 12, 28, 1009), (12, 67, 12, 29, 1010), (12, 113, 12, 30, 1011), (12, 70, 12, 31, 1012), (12, 73, 12, 32, 1013), (12, 76, 12, 33, 1014), (12, 306, 12, 34, 1015), (12, 291, 12, 35, 1016), (12, 294, 12, 36, 1017), (12, 297, 12, 37, 1018), (12, 303, 12, 38, 1019), (12, 324, 12, 39, 1020), (12, 288, 12, 40, 1021), (12, 79, 12, 41, 1022), (12, 367, 12, 42, 1023), (12, 370, 12, 43, 1024), (12, 82, 12, 44, 1025), (12, 85, 12, 45, 1026), (12, 397, 12, 46, 1027), (12, 394, 12, 47, 1028), (12, 88, 12, 48, 1029), (12, 91, 12, 49, 1030), (12, 94, 12, 50, 1031), (12, 97, 12, 51, 1032), (12, 100, 12, 52, 1033), (12, 103, 12, 53, 1034)]
theorem flT_ok : flT.all (fun q => decide (q.2.2.1 < 13) && decide (q.2.2.2.1 < nf q.2.2.1) && decide (lw_tbl[q.2.2.2.2]? = some (Cond.fieldLink (rx q.1) q.2.1 (tf q.2.2.1 q.2.2.2.1).1 (tf q.2.2.1 q.2.2.2.1).2.1 (tf q.2.2.1 q.2.2.2.1).2.2.1))) = true := by decide +kernel
def flq (o i c k : Nat) : Bool := flT.any (fun q => q.1 == o && q.2.1 == i && q.2.2.1 == c && q.2.2.2.1 == k)
theorem flq_ok {o i c k : Nat} (h : flq o i c k = true) : c < 13 ∧ k < nf c ∧ Cond.fieldLink (rx o) i (tf c k).1 (tf c k).2.1 (tf c k).2.2.1 ∈ gt := by
  obtain ⟨q, hq, h1⟩ := List.any_eq_true.mp h
  have h2 := List.all_eq_true.mp flT_ok q hq
  simp only [Bool.and_eq_true, beq_iff_eq, decide_eq_true_eq] at h1 h2
  obtain ⟨⟨⟨rfl, rfl⟩, rfl⟩, rfl⟩ := h1
  exact ⟨h2.1.1, h2.1.2, gt_ok (List.mem_of_getElem? h2.2) rfl⟩
end
section
section HROWS
variable {y : MI} {d rc rs : Nat} {Q : Option AV → AH → Prop} {pc q : Nat} {lo : List (Option AV)} {st st' : List AV} {h : AH}
theorem cE_o {cy : Nat → ClassId} {b : Nat} {h : AH} {a t n : Nat} (hk : kH h a = (t, n)) (ht : t < 13) : cE cy b h a = .inr (t, ovs b h a t) := by
  unfold cE; rw [hk]; simp [ht]
theorem cE_i {cy : Nat → ClassId} {b : Nat} {h : AH} {a t n : Nat} (hk : kH h a = (t, n)) (ht : t = 13 ∨ t = 15) : cE cy b h a = .inl (cy t, n, .inl (fun j => Int32.ofInt (iH h a j))) := by
  unfold cE; rw [hk]; rcases ht with rfl | rfl <;> simp
theorem cE_j {cy : Nat → ClassId} {b : Nat} {h : AH} {a n : Nat} (hk : kH h a = (14, n)) : cE cy b h a = .inl (cy 14, n, .inr (.inl (jH h a))) := by
  unfold cE; rw [hk]; simp
theorem cE_q {cy : Nat → ClassId} {b : Nat} {h : AH} {a t n : Nat} (hk : kH h a = (t, n)) (ht : 15 < t) : cE cy b h a = .inl (cy t, n, .inr (.inr (.inr (.inr (fun j => (rH h a j).map (fun x => b + x)))))) := by
  unfold cE; rw [hk]; simp [show ¬ t < 13 by omega, show ¬ t = 14 by omega, show ¬ t < 16 by omega]
theorem ovs_get {b : Nat} {h : AH} {a t k : Nat} (hk : k < nf t) : (ovs b h a t)[k]? = some (ov b h a t k) := by
  unfold nf at hk; unfold ovs; rw [List.getElem?_map, List.getElem?_range hk]; rfl
theorem vpV_ovs {b : Nat} {h : AH} {a t k : Nat} (hk : k < nf t) : vp_V (ovs b h a t) k = ov b h a t k := by
  unfold vp_V; rw [List.getD_eq_getElem?_getD, ovs_get hk]; rfl
theorem tyL_at (cy : Nat → ClassId) {t : Nat} (h1 : 13 ≤ t) (h2 : t < 23) : (tyL cy)[t - 13]? = some (cy t, tyA t) := by
  unfold tyL
  rw [List.getElem?_map, List.getElem?_range (by omega)]
  show some (cy (13 + (t - 13)), tyA (13 + (t - 13))) = _
  rw [show 13 + (t - 13) = t by omega]
theorem Wd.one {D : va_G} {cy : Nat → ClassId} {b a : Nat} {h : AH} {H : Heap} (w : Wd D cy b h H) (ha : a < nH h) {x : va_E} (hx : cE cy b h a = x) : va_P D vwCl [(b + a, x)] H := by
  intro k q hq
  match k, hq with
  | 0, hq => cases hq; rw [← hx]; exact w.2.1 a ha
theorem in_ix {x : Int} {n : Nat} (hx : inr x) (h0 : 0 ≤ x) (h1 : x < n) : vp_in (Int32.ofInt x) n := by
  unfold vp_in
  rw [oi_nat hx, oi_0, oi_lt hx in_0]
  omega
/-- a field is read -/
theorem w_get {o i c k a : Nat} (ho : y.1.cls = rx o) (hd : decode y.2.1 pc = .ok (.getfield i, 3)) (hf : flq o i c k = true) (ha : a < nH h) (hk : kH h a = (c, 0)) {v : AV} (hv : ∀ b, ov b h a c k = cv b v) (hok : (∀ a k, inr (iH h a k)) → okV v) (kk : wp y d rc rs Q (pc + 3) lo (v :: st) h) : wp y d rc rs Q pc lo (vr a :: st) h := by
  obtain ⟨hc13, hkn, hlk⟩ := flq_ok hf
  intro E p l e R s m args below meth c' Z hC hR hd1 hd2 hb H locs ls cells slots hc hs hW hS hl hst hlo
  have hP := hW.one ha (cE_o hk hc13)
  refine va_get (D := E.2.1) (ci := c) (C := rx c) (T := tf c) (N := nf c) (own := y.1.cls) (ref := (tf c k).1) hC.1 hC.2.1 hC.2.2.2.2.1 (inG hc13) hC.2.2.2.1 hC.2.2.2.2.2.1.1 hP 0 rfl (vwAt hc13) k hkn (hC.2.2.2.2.1 _ (by rw [ho]; exact hlk)) (fun _ z => z) (v := cv E.1 v) ?_ hd ?_
  · rw [ovs_get hkn, hv]
  · exact kk E p l e R s m args below meth c' Z hC hR hd1 hd2 hb H locs ls cells slots hc hs hW hS hl (ok_cons.mpr ⟨hok hW.2.2, (ok_cons.mp hst).2⟩) hlo
/-- what a store into a cell's field does to the world -/
theorem w_putx {o i c k a : Nat} (ho : y.1.cls = rx o) (hd : decode y.2.1 pc = .ok (.putfield i, 3)) (hf : flq o i c k = true) (hfin : (tf c k).2.2.2 = false ∨ ((tf c k).1 = y.1.cls ∧ (tf c k).1 = rx c ∧ y.1.name = "<init>")) (ha : a < nH h) (hk : kH h a = (c, 0)) {v : AV} {h' : AH} (hv : ∀ b, narrow (tyf c k) (cv b v) = cv b v ∧ fits (tyf c k) (cv b v) = true) (hn : nH h' = nH h) (hkk : kH h' = kH h) (hr : (∀ a k, inr (iH h a k)) → okV v → ∀ a k, inr (iH h' a k)) (hc : ∀ cy b x, x ≠ a → cE cy b h' x = cE cy b h x) (hov : ∀ b j, j < nf c → ov b h' a c j = if j = k then cv b v else ov b h a c j) (kk : wp y d rc rs Q (pc + 3) lo st h') : wp y d rc rs Q pc lo (v :: vr a :: st) h := by
  obtain ⟨hc13, hkn, hlk⟩ := flq_ok hf
  intro E p l e R s m args below meth c' Z hC hR hd1 hd2 hb H locs ls cells slots hcc hss hW hS hl hst hlo
  have hKall := hC.2.2.2.2.2.1.1
  have hcl := vwAt hc13
  have hts := hC.2.2.2.2.1
  have hap := va_apart (own := y.1.cls) hts (inG hc13) (tyf c) (tyAt hc13) (nmAt hc13) hKall hcl
  have hat := hW.2.1 a ha
  rw [cE_o hk hc13] at hat
  obtain ⟨r, h1, cell, q1, q2, q3, q4⟩ := hat
  have hr' : r = (rx c, tf c, nf c) := Option.some.inj (h1.symm.trans hcl)
  subst hr'
  obtain ⟨hSl, hfc, kC, hkC, hkind⟩ := hKall.1 c _ hcl
  obtain ⟨cf, kf, fi, f, hi, hsl⟩ := hSl k hkn
  have hst' := (u_facts hfc hkC (u_lays hts (inG hc13) hkn) hi).1
  have hlink := hts _ (show Cond.fieldLink y.1.cls i (tf c k).1 (tf c k).2.1 (tf c k).2.2.1 ∈ gt by rw [ho]; exact hlk)
  have hlay := hts _ (inG hc13 _ (u_in_lay hkn))
  have fin : ∀ H' : Heap, H'[E.1 + a]? = some (cell.setSlot f.slot (cv E.1 v)) → H'.size = H.size → (∀ q, q ≠ E.1 + a → H'[q]? = H[q]?) → W p l e R s m args below meth c' H' (locs ++ [⟨E.1 + a, f.slot⟩]) cells slots Z { (F0 m pc ls (List.map (cv E.1) (v :: vr a :: st))) with pc := pc + 3, stack := List.map (cv E.1) st } := by
    intro H' e1 e2 e3
    rw [hsl] at e1
    have hW' : Wd E.2.1 E.2.2 E.1 h' H' := by
      refine hW.upd hn (hr hW.2.2 (ok_cons.mp hst).1) e2 ?_ e3 (fun x hx => hc _ _ x hx)
      rw [cE_o (by rw [hkk]; exact hk) hc13]
      refine ⟨_, hcl, t_OB.to (V := updV (vp_V (ovs E.1 h a c)) k (cv E.1 v)) ⟨_, e1, q2, q3, t_set q4 hap hkn _⟩ (fun j hj => ?_)⟩
      rw [vpV_ovs hj, hov _ j hj]
      by_cases e : j = k
      · subst e; simp [updV]
      · simp [updV, e, vpV_ovs hj]
    exact kk E p l e R s m args below meth c' Z hC hR hd1 hd2 hb H' _ ls cells slots hcc hss hW' (hS.put e2 e3 (by show E.1 ≤ E.1 + a; omega)) hl (ok_cons.mp (ok_cons.mp hst).2).2 hlo
  rcases hfin with hfin | ⟨hdecl, hdecl2, hini⟩
  · by_cases hf2 : (tf c k).2.2.2 = true
    · rw [hfin] at hf2; cases hf2
    · unfold u_lay at hlay
      rw [if_neg hf2] at hlay
      have h6 := u_store hfc hkC hkind hlay hi (tyAt hc13 k hkn) (hv E.1).1 (hv E.1).2
      exact W.putK hC.1 hC.2.1 (f := f) ⟨hC.2.2.2.1, hlink, ⟨_, _, _, hi⟩, hst'⟩ (by rw [q2]; exact h6) q1 q3 (by rw [hsl]; exact k2_hasslot (q4 k hkn)) rfl rfl hd fin
  · by_cases hf2 : (tf c k).2.2.2 = true
    · unfold u_lay at hlay
      rw [if_pos hf2] at hlay
      have hcf : m.cls = cf := by
        obtain ⟨_, _, c'', _, _, _, -, -, hf', -, -, -, hown2, -⟩ := Cond.laysFinal_spec hlay
        have e1 : c'' = cf := by have := hi.symm.trans hf'; simp at this; exact this.1.symm
        rw [hdecl] at hown2
        rw [← e1]; exact Option.some.inj (hC.2.2.2.1.symm.trans hown2)
      have h6 := u_fits hfc hkC hkind (Or.inr hlay) hi (tyAt hc13 k hkn) (hv E.1).1 (hv E.1).2
      exact W.putFinK hC.1 hC.2.1 hC.2.2.2.1 hlink hi hst' hcf (hC.2.2.2.2.2.2 hini) (by rw [q2]; exact h6) q1 q3 (by rw [hsl]; exact k2_hasslot (q4 k hkn)) rfl rfl hd fin
    · unfold u_lay at hlay
      rw [if_neg hf2] at hlay
      have h6 := u_store hfc hkC hkind hlay hi (tyAt hc13 k hkn) (hv E.1).1 (hv E.1).2
      exact W.putK hC.1 hC.2.1 (f := f) ⟨hC.2.2.2.1, hlink, ⟨_, _, _, hi⟩, hst'⟩ (by rw [q2]; exact h6) q1 q3 (by rw [hsl]; exact k2_hasslot (q4 k hkn)) rfl rfl hd fin
theorem in_sI {h : AH} {a k : Nat} {v : Int} (hh : ∀ a k, inr (iH h a k)) (hv : inr v) : ∀ x j, inr (iH (sI h a k v) x j) := by
  intro x j
  show inr (u2 h.2.2.1 a k v x j)
  unfold u2
  by_cases e : x = a
  · rw [if_pos e]
    by_cases e2 : j = k
    · rw [if_pos e2]; exact hv
    · rw [if_neg e2]; exact hh x j
  · rw [if_neg e]; exact hh x j
/-- a whole number comes into a field -/
theorem w_putI {o i c k a : Nat} {x : Int} (ho : y.1.cls = rx o) (hd : decode y.2.1 pc = .ok (.putfield i, 3)) (hf : flq o i c k = true) (hfin : (tf c k).2.2.2 = false ∨ ((tf c k).1 = y.1.cls ∧ (tf c k).1 = rx c ∧ y.1.name = "<init>")) (ht : (fR c).getD k false = false ∧ (tyf c k = .int ∨ (tyf c k = .boolean ∧ (x = 0 ∨ x = 1)))) (ha : a < nH h) (hk : kH h a = (c, 0)) (kk : wp y d rc rs Q (pc + 3) lo st (sI h a k x)) : wp y d rc rs Q pc lo (vi x :: vr a :: st) h := by
  refine w_putx (v := vi x) (h' := sI h a k x) ho hd hf hfin ha hk (fun b => ?_) rfl rfl (fun h1 h2 => in_sI h1 h2) (fun cy b z hz => cE_sI hz) (fun b j hj => ?_) kk
  · rcases ht.2 with e | ⟨e, rfl | rfl⟩
    · rw [e]; exact ⟨rfl, rfl⟩
    · rw [e]; exact ⟨show narrow FieldType.boolean (.int (Int32.ofInt 0)) = .int (Int32.ofInt 0) by decide +kernel, show fits FieldType.boolean (.int (Int32.ofInt 0)) = true by decide +kernel⟩
    · rw [e]; exact ⟨show narrow FieldType.boolean (.int (Int32.ofInt 1)) = .int (Int32.ofInt 1) by decide +kernel, show fits FieldType.boolean (.int (Int32.ofInt 1)) = true by decide +kernel⟩
  · by_cases e : j = k
    · subst e
      rw [if_pos rfl]
      unfold ov
      rw [ht.1]
      simp [iH, sI, u2, cv]
    · rw [if_neg e]
      unfold ov
      simp [iH, rH, sI, u2, e]
/-- a reference comes into a field -/
theorem w_putR {o i c k a b0 : Nat} (ho : y.1.cls = rx o) (hd : decode y.2.1 pc = .ok (.putfield i, 3)) (hf : flq o i c k = true) (hfin : (tf c k).2.2.2 = false ∨ ((tf c k).1 = y.1.cls ∧ (tf c k).1 = rx c ∧ y.1.name = "<init>")) (ht : (fR c).getD k false = true ∧ ((∃ C, tyf c k = .object C) ∨ ∃ t, tyf c k = .array t)) (ha : a < nH h) (hk : kH h a = (c, 0)) (kk : wp y d rc rs Q (pc + 3) lo st (sR h a k (some b0))) : wp y d rc rs Q pc lo (vr b0 :: vr a :: st) h := by
  refine w_putx (v := vr b0) (h' := sR h a k (some b0)) ho hd hf hfin ha hk (fun b => ?_) rfl rfl (fun h1 _ => h1) (fun cy b z hz => cE_sR hz) (fun b j hj => ?_) kk
  · rcases ht.2 with ⟨C, e⟩ | ⟨t, e⟩ <;> (rw [e]; exact ⟨rfl, rfl⟩)
  · by_cases e : j = k
    · subst e
      rw [if_pos rfl]
      unfold ov
      rw [ht.1]
      simp [rH, sR, u2, cv]
    · rw [if_neg e]
      unfold ov
      simp [iH, rH, sR, u2, e]
end HROWS
end
section
section AROWS
variable {y : MI} {d rc rs : Nat} {Q : Option AV → AH → Prop} {pc q : Nat} {lo : List (Option AV)} {st st' : List AV} {h : AH}
theorem w_iald {a n : Nat} {x : Int} (hd : decode y.2.1 pc = .ok (.iaload, 1)) (ha : a < nH h) (hk : kH h a = (13, n)) (h0 : 0 ≤ x) (h1 : x < n) (kk : wp y d rc rs Q (pc + 1) lo (vi (iH h a x.toNat) :: st) h) : wp y d rc rs Q pc lo (vi x :: vr a :: st) h := by
  intro E p l e R s m args below meth c' Z hC hR hd1 hd2 hb H locs ls cells slots hc hs hW hS hl hst hlo
  have hx : inr x := (ok_cons.mp hst).1
  refine va_iald hC.1 hC.2.1 hC.2.2.2.2.2.1.1 (hW.one ha (cE_i hk (Or.inl rfl))) 0 0 rfl (tyL_at _ (t := 13) (by omega) (by omega)) (in_ix hx h0 h1) hd ?_
  rw [oi_nat hx]
  exact kk E p l e R s m args below meth c' Z hC hR hd1 hd2 hb H locs ls cells slots hc hs hW hS hl (ok_cons.mpr ⟨hW.2.2 _ _, (ok_cons.mp (ok_cons.mp hst).2).2⟩) hlo
theorem w_bald {a n : Nat} {x : Int} (hd : decode y.2.1 pc = .ok (.baload, 1)) (ha : a < nH h) (hk : kH h a = (15, n)) (h0 : 0 ≤ x) (h1 : x < n) (kk : wp y d rc rs Q (pc + 1) lo (vi (iH h a x.toNat) :: st) h) : wp y d rc rs Q pc lo (vi x :: vr a :: st) h := by
  intro E p l e R s m args below meth c' Z hC hR hd1 hd2 hb H locs ls cells slots hc hs hW hS hl hst hlo
  have hx : inr x := (ok_cons.mp hst).1
  refine va_zald hC.1 hC.2.1 hC.2.2.2.2.2.1.1 (hW.one ha (cE_i hk (Or.inr rfl))) 0 2 rfl (tyL_at _ (t := 15) (by omega) (by omega)) (in_ix hx h0 h1) hd ?_
  rw [oi_nat hx]
  exact kk E p l e R s m args below meth c' Z hC hR hd1 hd2 hb H locs ls cells slots hc hs hW hS hl (ok_cons.mpr ⟨hW.2.2 _ _, (ok_cons.mp (ok_cons.mp hst).2).2⟩) hlo
theorem w_lald {a n : Nat} {x : Int} (hd : decode y.2.1 pc = .ok (.laload, 1)) (ha : a < nH h) (hk : kH h a = (14, n)) (h0 : 0 ≤ x) (h1 : x < n) (kk : wp y d rc rs Q (pc + 1) lo (vl (jH h a x.toNat) :: st) h) : wp y d rc rs Q pc lo (vi x :: vr a :: st) h := by
  intro E p l e R s m args below meth c' Z hC hR hd1 hd2 hb H locs ls cells slots hc hs hW hS hl hst hlo
  have hx : inr x := (ok_cons.mp hst).1
  refine va_lald hC.1 hC.2.1 hC.2.2.2.2.2.1.1 (hW.one ha (cE_j hk)) 0 1 rfl (tyL_at _ (t := 14) (by omega) (by omega)) (in_ix hx h0 h1) hd ?_
  rw [oi_nat hx]
  exact kk E p l e R s m args below meth c' Z hC hR hd1 hd2 hb H locs ls cells slots hc hs hW hS hl (ok_cons.mpr ⟨trivial, (ok_cons.mp (ok_cons.mp hst).2).2⟩) hlo
theorem tyA_ref {t : Nat} (h1 : 15 < t) (h2 : t < 23) : (tyA t).isReference = true := by
  rcases (show t = 16 ∨ t = 17 ∨ t = 18 ∨ t = 19 ∨ t = 20 ∨ t = 21 ∨ t = 22 by omega) with rfl | rfl | rfl | rfl | rfl | rfl | rfl <;> rfl
theorem w_aald {a t n : Nat} {x : Int} (hd : decode y.2.1 pc = .ok (.aaload, 1)) (ha : a < nH h) (hk : kH h a = (t, n)) (ht : 15 < t ∧ t < 23) (h0 : 0 ≤ x) (h1 : x < n) (kk : wp y d rc rs Q (pc + 1) lo (vq (rH h a x.toNat) :: st) h) : wp y d rc rs Q pc lo (vi x :: vr a :: st) h := by
  intro E p l e R s m args below meth c' Z hC hR hd1 hd2 hb H locs ls cells slots hc hs hW hS hl hst hlo
  have hx : inr x := (ok_cons.mp hst).1
  have hi := in_ix hx h0 h1
  have hat := hW.2.1 a ha
  rw [cE_q hk ht.1] at hat
  have hlt : (Int32.ofInt x).toNatClampNeg < n := Nat.not_le.mp fun q => hi (Or.inr q)
  refine W.aald (v := cv E.1 (vq (rH h a x.toNat))) (ty := tyA t) hC.1 hC.2.1 hat ((hC.2.2.2.2.2.1.1.2 (t - 13) _ (tyL_at E.2.2 (t := t) (by omega) (by omega))).1 n _) (tyA_ref ht.1 ht.2) (fun q => by cases q) (by show ¬ (_ < 0 ∨ (arrV _ _ _).slots.size ≤ _); rw [arrV_size]; exact hi) (by show (arrV _ _ _).slots[_]? = _; rw [arrV_read _ _ hlt, oi_nat hx]; rfl) rfl rfl hd ?_
  exact kk E p l e R s m args below meth c' Z hC hR hd1 hd2 hb H locs ls cells slots hc hs hW hS hl (ok_cons.mpr ⟨trivial, (ok_cons.mp (ok_cons.mp hst).2).2⟩) hlo
theorem w_alen {a t n : Nat} (hd : decode y.2.1 pc = .ok (.arraylength, 1)) (ha : a < nH h) (hk : kH h a = (t, n)) (ht : 13 ≤ t ∧ t < 23) (hn : inr (n : Int)) (kk : wp y d rc rs Q (pc + 1) lo (vi (n : Int) :: st) h) : wp y d rc rs Q pc lo (vr a :: st) h := by
  intro E p l e R s m args below meth c' Z hC hR hd1 hd2 hb H locs ls cells slots hc hs hW hS hl hst hlo
  have hw : ∃ x : vp_A, x.1 = n ∧ cE E.2.2 E.1 h a = .inl (E.2.2 t, x) := by
    by_cases e : t = 14
    · subst e; exact ⟨_, rfl, cE_j hk⟩
    · by_cases e2 : 15 < t
      · exact ⟨_, rfl, cE_q hk e2⟩
      · exact ⟨_, rfl, cE_i hk (by omega)⟩
  obtain ⟨x, hx1, hx2⟩ := hw
  refine va_alen (v := Int32.ofInt (n : Int)) hC.1 hC.2.1 hC.2.2.2.2.2.1.1 (hW.one ha hx2) 0 (t - 13) rfl (tyL_at _ ht.1 ht.2) (by rw [hx1]; rfl) hd ?_
  exact kk E p l e R s m args below meth c' Z hC hR hd1 hd2 hb H locs ls cells slots hc hs hW hS hl (ok_cons.mpr ⟨hn, (ok_cons.mp hst).2⟩) hlo
theorem updI {f : Nat → Int} {k : Nat} {x : Int} : updV (fun j => Value.int (Int32.ofInt (f j))) k (.int (Int32.ofInt x)) = fun j => Value.int (Int32.ofInt (if j = k then x else f j)) := by
  funext j
  by_cases e : j = k <;> simp [updV, e]
theorem w_iast {a n : Nat} {x z : Int} (hd : decode y.2.1 pc = .ok (.iastore, 1)) (ha : a < nH h) (hk : kH h a = (13, n)) (h0 : 0 ≤ x) (h1 : x < n) (kk : wp y d rc rs Q (pc + 1) lo st (sI h a x.toNat z)) : wp y d rc rs Q pc lo (vi z :: vi x :: vr a :: st) h := by
  intro E p l e R s m args below meth c' Z hC hR hd1 hd2 hb H locs ls cells slots hc hs hW hS hl hst hlo
  have hz : inr z := (ok_cons.mp hst).1
  have hx : inr x := (ok_cons.mp (ok_cons.mp hst).2).1
  have hat := hW.2.1 a ha
  rw [cE_i hk (Or.inl rfl)] at hat
  refine W.iast hC.1 hC.2.1 hat ((hC.2.2.2.2.2.1.1.2 0 _ (tyL_at E.2.2 (t := 13) (by omega) (by omega))).1 n _) (fun q => by cases q) (by show ¬ (_ < 0 ∨ (arrV _ _ _).slots.size ≤ _); rw [arrV_size]; exact in_ix hx h0 h1) rfl rfl hd fun H1 e1 z1 oq => ?_
  refine kk E p l e R s m args below meth c' Z hC hR hd1 hd2 hb H1 _ ls cells slots hc hs (hW.upd rfl (in_sI hW.2.2 hz) z1 ?_ oq (fun x hx => cE_sI hx)) (hS.put z1 oq (by show E.1 ≤ E.1 + a; omega)) hl (ok_cons.mp (ok_cons.mp (ok_cons.mp hst).2).2).2 hlo
  rw [cE_i (h := sI h a x.toNat z) hk (Or.inl rfl)]
  show H1[E.1 + a]? = some (vp_cell _ _)
  rw [e1, vp_cell_i, vp_cell_i, arrV_store, oi_nat hx, updI]
  congr 2
  funext j
  simp [iH, sI, u2]
theorem w_bast {a n : Nat} {x z : Int} (hd : decode y.2.1 pc = .ok (.bastore, 1)) (ha : a < nH h) (hk : kH h a = (15, n)) (h0 : 0 ≤ x) (h1 : x < n) (hz1 : z = 0 ∨ z = 1) (kk : wp y d rc rs Q (pc + 1) lo st (sI h a x.toNat z)) : wp y d rc rs Q pc lo (vi z :: vi x :: vr a :: st) h := by
  intro E p l e R s m args below meth c' Z hC hR hd1 hd2 hb H locs ls cells slots hc hs hW hS hl hst hlo
  have hz : inr z := (ok_cons.mp hst).1
  have hx : inr x := (ok_cons.mp (ok_cons.mp hst).2).1
  have hat := hW.2.1 a ha
  rw [cE_i hk (Or.inr rfl)] at hat
  refine W.zast hC.1 hC.2.1 hat ((hC.2.2.2.2.2.1.1.2 2 _ (tyL_at E.2.2 (t := 15) (by omega) (by omega))).1 n _) (fun q => by cases q) (by show ¬ (_ < 0 ∨ (arrV _ _ _).slots.size ≤ _); rw [arrV_size]; exact in_ix hx h0 h1) rfl rfl hd fun H1 e1 z1 oq => ?_
  refine kk E p l e R s m args below meth c' Z hC hR hd1 hd2 hb H1 _ ls cells slots hc hs (hW.upd rfl (in_sI hW.2.2 hz) z1 ?_ oq (fun x hx => cE_sI hx)) (hS.put z1 oq (by show E.1 ≤ E.1 + a; omega)) hl (ok_cons.mp (ok_cons.mp (ok_cons.mp hst).2).2).2 hlo
  rw [cE_i (h := sI h a x.toNat z) hk (Or.inr rfl)]
  show H1[E.1 + a]? = some (vp_cell _ _)
  have en : narrow .boolean (.int (Int32.ofInt z)) = .int (Int32.ofInt z) := by rcases hz1 with rfl | rfl <;> decide +kernel
  rw [e1, en, vp_cell_i, vp_cell_i, arrV_store, oi_nat hx, updI]
  congr 2
  funext j
  simp [iH, sI, u2]
theorem w_last {a n : Nat} {x : Int} {z : Int64} (hd : decode y.2.1 pc = .ok (.lastore, 1)) (ha : a < nH h) (hk : kH h a = (14, n)) (h0 : 0 ≤ x) (h1 : x < n) (kk : wp y d rc rs Q (pc + 1) lo st (sJ h a x.toNat z)) : wp y d rc rs Q pc lo (vl z :: vi x :: vr a :: st) h := by
  intro E p l e R s m args below meth c' Z hC hR hd1 hd2 hb H locs ls cells slots hc hs hW hS hl hst hlo
  have hx : inr x := (ok_cons.mp (ok_cons.mp hst).2).1
  have hat := hW.2.1 a ha
  rw [cE_j hk] at hat
  refine W.last hC.1 hC.2.1 hat ((hC.2.2.2.2.2.1.1.2 1 _ (tyL_at E.2.2 (t := 14) (by omega) (by omega))).1 n _) (fun q => by cases q) (by show ¬ (_ < 0 ∨ (arrV _ _ _).slots.size ≤ _); rw [arrV_size]; exact in_ix hx h0 h1) rfl rfl hd fun H1 e1 z1 oq => ?_
  refine kk E p l e R s m args below meth c' Z hC hR hd1 hd2 hb H1 _ ls cells slots hc hs (hW.upd rfl hW.2.2 z1 ?_ oq (fun x hx => cE_sJ hx)) (hS.put z1 oq (by show E.1 ≤ E.1 + a; omega)) hl (ok_cons.mp (ok_cons.mp (ok_cons.mp hst).2).2).2 hlo
  rw [cE_j (h := sJ h a x.toNat z) hk]
  show H1[E.1 + a]? = some (vp_cell _ _)
  rw [e1, vp_cell_l, vp_cell_l, arrV_store, oi_nat hx]
  congr 2
  funext j
  by_cases e : j = x.toNat <;> simp [jH, sJ, u2, updV, e]
/-- which kind of object an array of objects holds -/
def elK (t : Nat) : Nat := match t with
  | 16 => 0
  | 17 => 5
  | 18 => 7
  | 19 => 8
  | _ => 9
theorem elK_ok {t : Nat} (h1 : 15 < t) (h2 : t < 21) : elK t < 13 ∧ tyA t = .object (rx (elK t)) := by
  rcases (show t = 16 ∨ t = 17 ∨ t = 18 ∨ t = 19 ∨ t = 20 by omega) with rfl | rfl | rfl | rfl | rfl <;> exact ⟨by decide, rfl⟩
theorem w_aast {a t n v nv : Nat} {x : Int} (hd : decode y.2.1 pc = .ok (.aastore, 1)) (ha : a < nH h) (hk : kH h a = (t, n)) (ht : 15 < t ∧ t < 21) (h0 : 0 ≤ x) (h1 : x < n) (hv : v < nH h) (hkv : kH h v = (elK t, nv)) (kk : wp y d rc rs Q (pc + 1) lo st (sR h a x.toNat (some v))) : wp y d rc rs Q pc lo (vr v :: vi x :: vr a :: st) h := by
  intro E p l e R s m args below meth c' Z hC hR hd1 hd2 hb H locs ls cells slots hc hs hW hS hl hst hlo
  have hx : inr x := (ok_cons.mp (ok_cons.mp hst).2).1
  have hi := in_ix hx h0 h1
  have hlt : (Int32.ofInt x).toNatClampNeg < n := Nat.not_le.mp fun q => hi (Or.inr q)
  have hneg : ¬ Int32.ofInt x < 0 := fun q => hi (Or.inl q)
  obtain ⟨hl13, hty⟩ := elK_ok ht.1 ht.2
  have hat := hW.2.1 a ha
  rw [cE_q hk ht.1] at hat
  have hatv := hW.2.1 v hv
  rw [cE_o hkv hl13] at hatv
  have hKall := hC.2.2.2.2.2.1.1
  obtain ⟨r', hr', cellV, g1, g2, g3, -⟩ := hatv
  have hcls := (hKall.1 (elK t) _ (vwAt hl13)).2
  have hRA := (hKall.2 (t - 13) _ (tyL_at E.2.2 (t := t) (by omega) (by omega))).2
  rw [hty] at hRA
  obtain ⟨kA, comp, k1, k2, k3, -⟩ := hRA
  have hcomp : comp = E.2.1.1 (elK t) := Option.some.inj (k3.symm.trans hcls.1)
  subst hcomp
  obtain ⟨kC, hkC, -⟩ := hcls.2
  refine W.aast hC.1 hC.2.1 hat (fun q h => by cases h) (fun h => by cases h) k1 k2 rfl hkC ⟨hneg, by show _ < (arrV _ _ _).slots.size; rw [arrV_size]; exact hlt⟩ g1 (fun q h => by rw [g3] at h; cases h) (by rw [g2]; exact hkC) (by rw [g2]; exact va_assign hcls) rfl rfl hd fun H1 e1 z1 oq => ?_
  refine kk E p l e R s m args below meth c' Z hC hR hd1 hd2 hb H1 _ ls cells slots hc hs (hW.upd rfl hW.2.2 z1 ?_ oq (fun x hx => cE_sR hx)) (hS.put z1 oq (by show E.1 ≤ E.1 + a; omega)) hl (ok_cons.mp (ok_cons.mp (ok_cons.mp hst).2).2).2 hlo
  rw [cE_q (h := sR h a x.toNat (some v)) hk ht.1]
  show H1[E.1 + a]? = some (vp_cell _ _)
  rw [e1, vp_cell_q, vp_cell_q, arrV_store, oi_nat hx]
  congr 2
  funext j
  by_cases e : j = x.toNat <;> simp [rH, sR, u2, updV, e, va_rf]
end AROWS
end
section
section FROWS
variable {y : MI} {d rc rs : Nat} {Q : Option AV → AH → Prop} {pc q : Nat} {lo : List (Option AV)} {st st' : List AV} {h : AH}
theorem w_goto {off : Int} {t : Nat} (hd : decode y.2.1 pc = .ok (.goto off, 3)) (ht : (pc : Int) + off = (t : Int)) (k : wp y d rc rs Q t lo st h) : wp y d rc rs Q pc lo st h :=
  wp_pure k (fun b p l e R s m args below meth c Z H locs ls cells slots hx hb hL hst kk => lv_goto hx hb hd ht kk) (fun h1 _ => h1)
theorem w_br {P : Prop} {t n : Nat} {w : List AV} (hrow : ∀ (b : Nat) (p : Program) (l : Launch) (e : Env) (R : Room) (s : State) (m : MethodId) (args : Array Value) (below : List Frame) (meth : Method) (c : Code) (Z : State → Prop) (H : Heap) (locs : List Loc) (ls : Array Slot) (cells slots : Nat) (rest : List Value), p.tables.exec = Jvm.exec → c.code = y.2.1 → (∀ v ∈ w, okV v) → (P → W p l e R s m args below meth c H locs cells slots Z (F0 m t ls rest)) → (¬ P → W p l e R s m args below meth c H locs cells slots Z (F0 m n ls rest)) → W p l e R s m args below meth c H locs cells slots Z (F0 m pc ls (w.map (cv b) ++ rest)))
    (kt : P → wp y d rc rs Q t lo st h) (kf : ¬ P → wp y d rc rs Q n lo st h) : wp y d rc rs Q pc lo (w ++ st) h := by
  intro E p l e R s m args below meth c Z hC hR hd1 hd2 hb H locs ls cells slots hc hs hW hS hl hst hlo
  rw [List.map_append]
  have h1 : ∀ v ∈ w, okV v := fun v hv => hst v (List.mem_append_left _ hv)
  have h2 : ∀ v ∈ st, okV v := fun v hv => hst v (List.mem_append_right _ hv)
  exact hrow E.1 p l e R s m args below meth c Z H locs ls cells slots _ hC.1 hC.2.1 h1 (fun hp => kt hp E p l e R s m args below meth c Z hC hR hd1 hd2 hb H locs ls cells slots hc hs hW hS hl h2 hlo) (fun hp => kf hp E p l e R s m args below meth c Z hC hR hd1 hd2 hb H locs ls cells slots hc hs hW hS hl h2 hlo)
/-- the condition of a comparison: 0 eq, 1 ne, 2 lt, 3 ge, 4 gt, 5 le -/
def cmp (o : Nat) (x z : Int) : Prop := match o with
  | 0 => x = z
  | 1 => x ≠ z
  | 2 => x < z
  | 3 => z ≤ x
  | 4 => z < x
  | _ => x ≤ z
def ifI (o : Nat) (off : Int) : Instr := match o with
  | 0 => .ifCond .eq off
  | 1 => .ifCond .ne off
  | 2 => .ifCond .lt off
  | 3 => .ifCond .ge off
  | 4 => .ifCond .gt off
  | _ => .ifCond .le off
def icI (o : Nat) (off : Int) : Instr := match o with
  | 0 => .if_icmp .eq off
  | 1 => .if_icmp .ne off
  | 2 => .if_icmp .lt off
  | 3 => .if_icmp .ge off
  | 4 => .if_icmp .gt off
  | _ => .if_icmp .le off
theorem w_if {o t : Nat} {off x : Int} (ho : o < 6) (hd : decode y.2.1 pc = .ok (ifI o off, 3)) (ht : (pc : Int) + off = (t : Int)) (kt : cmp o x 0 → wp y d rc rs Q t lo st h) (kf : ¬ cmp o x 0 → wp y d rc rs Q (pc + 3) lo st h) : wp y d rc rs Q pc lo (vi x :: st) h := by
  refine w_br (w := [vi x]) (P := cmp o x 0) ?_ kt kf
  intro b p l e R s m args below meth c Z H locs ls cells slots rest hx hb hok k1 k2
  have hi : inr x := (ok_cons.mp hok).1
  rcases (show o = 0 ∨ o = 1 ∨ o = 2 ∨ o = 3 ∨ o = 4 ∨ o = 5 by omega) with rfl | rfl | rfl | rfl | rfl | rfl
  · exact lv_if_eq hx hb hd ht (fun e => k1 ((oi_eq hi in_0).mp e)) (fun e => k2 (fun e' => e ((oi_eq hi in_0).mpr e')))
  · exact lv_if_ne hx hb hd ht (fun e => k1 (fun e' => e ((oi_eq hi in_0).mpr e'))) (fun e => k2 (fun e' => e' ((oi_eq hi in_0).mp e)))
  · exact lv_if_lt hx hb hd ht (fun e => k1 ((oi_lt hi in_0).mp e)) (fun e => k2 (fun e' => e ((oi_lt hi in_0).mpr e')))
  · exact lv_if_ge hx hb hd ht (fun e => k1 ((oi_le in_0 hi).mp e)) (fun e => k2 (fun e' => e ((oi_le in_0 hi).mpr e')))
  · exact lv_if_gt hx hb hd ht (fun e => k1 ((oi_lt in_0 hi).mp e)) (fun e => k2 (fun e' => e ((oi_lt in_0 hi).mpr e')))
  · exact lv_if_le hx hb hd ht (fun e => k1 ((oi_le hi in_0).mp e)) (fun e => k2 (fun e' => e ((oi_le hi in_0).mpr e')))
theorem w_ic {o t : Nat} {off x z : Int} (ho : o < 6) (hd : decode y.2.1 pc = .ok (icI o off, 3)) (ht : (pc : Int) + off = (t : Int)) (kt : cmp o x z → wp y d rc rs Q t lo st h) (kf : ¬ cmp o x z → wp y d rc rs Q (pc + 3) lo st h) : wp y d rc rs Q pc lo (vi z :: vi x :: st) h := by
  refine w_br (w := [vi z, vi x]) (P := cmp o x z) ?_ kt kf
  intro b p l e R s m args below meth c Z H locs ls cells slots rest hx hb hok k1 k2
  have hz : inr z := (ok_cons.mp hok).1
  have hi : inr x := (ok_cons.mp (ok_cons.mp hok).2).1
  rcases (show o = 0 ∨ o = 1 ∨ o = 2 ∨ o = 3 ∨ o = 4 ∨ o = 5 by omega) with rfl | rfl | rfl | rfl | rfl | rfl
  · exact lv_icmp_eq hx hb hd ht (fun e => k1 ((oi_eq hi hz).mp e)) (fun e => k2 (fun e' => e ((oi_eq hi hz).mpr e')))
  · exact lv_icmp_ne hx hb hd ht (fun e => k1 (fun e' => e ((oi_eq hi hz).mpr e'))) (fun e => k2 (fun e' => e' ((oi_eq hi hz).mp e)))
  · exact lv_icmp_lt hx hb hd ht (fun e => k1 ((oi_lt hi hz).mp e)) (fun e => k2 (fun e' => e ((oi_lt hi hz).mpr e')))
  · exact lv_icmp_ge hx hb hd ht (fun e => k1 ((oi_le hz hi).mp e)) (fun e => k2 (fun e' => e ((oi_le hz hi).mpr e')))
  · exact lv_icmp_gt hx hb hd ht (fun e => k1 ((oi_lt hz hi).mp e)) (fun e => k2 (fun e' => e ((oi_lt hz hi).mpr e')))
  · exact lv_icmp_le hx hb hd ht (fun e => k1 ((oi_le hi hz).mp e)) (fun e => k2 (fun e' => e ((oi_le hi hz).mpr e')))
/-- a switch: keys and places in order, else the last -/
def swK (x : Int) (K : Nat → Prop) (t0 : Nat) : List (Int × Nat) → Prop
  | [] => K t0
  | (k, t) :: r => (x = k → K t) ∧ (x ≠ k → swK x K t0 r)
def chkT (pc : Nat) : Int → List Int → List (Int × Nat) → Bool
  | _, [], [] => true
  | lo, o :: os, (k, t) :: r => decide (k = lo) && decide ((pc : Int) + o = (t : Int)) && chkT pc (lo + 1) os r
  | _, _, _ => false
def chkL (pc : Nat) : List (Int × Int) → List (Int × Nat) → Bool
  | [], [] => true
  | (a, o) :: os, (k, t) :: r => decide (k = a) && decide ((pc : Int) + o = (t : Int)) && chkL pc os r
  | _, _ => false
theorem swT {x : Int} {K : Nat → Prop} {t0 pc : Nat} : ∀ {os : List Int} {lo : Int} {r : List (Int × Nat)}, chkT pc lo os r = true → swK x K t0 r → (x < lo ∨ lo + os.length ≤ x → K t0) ∧ ∀ (i : Nat) (o : Int), os[i]? = some o → x = lo + i → ∃ t : Nat, (pc : Int) + o = (t : Int) ∧ K t
  | [], lo, [], h, hk => ⟨fun _ => hk, fun i o ho => by simp at ho⟩
  | [], lo, _ :: _, h, hk => by simp [chkT] at h
  | _ :: _, lo, [], h, hk => by simp [chkT] at h
  | o :: os, lo, (k, t) :: r, h, hk => by
    simp only [chkT, Bool.and_eq_true, decide_eq_true_eq] at h
    obtain ⟨⟨rfl, h2⟩, h3⟩ := h
    obtain ⟨k1, k2⟩ := hk
    by_cases e : x = k
    · subst e
      refine ⟨fun hh => by simp at hh; omega, fun i o' ho hx => ?_⟩
      have : i = 0 := by omega
      subst this
      simp at ho
      subst ho
      exact ⟨t, h2, k1 rfl⟩
    · obtain ⟨r1, r2⟩ := swT h3 (k2 e)
      refine ⟨fun hh => r1 (by simp at hh; omega), fun i o' ho hx => ?_⟩
      cases i with
      | zero => omega
      | succ i => exact r2 i o' (by simpa using ho) (by omega)
theorem w_ts {dflt lw hi : Int} {offs : Array Int} {len t0 : Nat} {x : Int} {r : List (Int × Nat)} (hd : decode y.2.1 pc = .ok (.tableswitch dflt lw hi offs, len)) (hn : lw + offs.toList.length = hi + 1) (h0 : (pc : Int) + dflt = (t0 : Int)) (hr : chkT pc lw offs.toList r = true) (k : swK x (fun t => wp y d rc rs Q t lo st h) t0 r) : wp y d rc rs Q pc lo (vi x :: st) h := by
  intro E p l e R s m args below meth c Z hC hR hd1 hd2 hb H locs ls cells slots hc hs hW hS hl hst hlo
  have hx : inr x := (ok_cons.mp hst).1
  obtain ⟨k1, k2⟩ := swT hr k
  have go : ∀ t, wp y d rc rs Q t lo st h → W p l e R s m args below meth c H locs cells slots Z (F0 m t ls (st.map (cv E.1))) := fun t kt => kt E p l e R s m args below meth c Z hC hR hd1 hd2 hb H locs ls cells slots hc hs hW hS hl (ok_cons.mp hst).2 hlo
  by_cases e : x < lw ∨ hi < x
  · refine lv_tableOut hC.1 hC.2.1 hd (by rw [oi_to hx]; exact e) h0 (go _ (k1 ?_))
    omega
  · have hlt : (x - lw).toNat < offs.toList.length := by omega
    obtain ⟨t, ht1, ht2⟩ := k2 (x - lw).toNat offs.toList[(x - lw).toNat] (List.getElem?_eq_getElem hlt) (by omega)
    refine lv_tableIn hC.1 hC.2.1 hd (by rw [oi_to hx]; omega) (by rw [oi_to hx]; omega) (off := offs.toList[(x - lw).toNat]) ?_ ht1 (go _ ht2)
    rw [oi_to hx, ← Array.getElem?_toList]
    exact List.getElem?_eq_getElem hlt
theorem swL {x : Int} {K : Nat → Prop} {t0 pc : Nat} {dflt : Int} (h0 : (pc : Int) + dflt = (t0 : Int)) : ∀ {os : List (Int × Int)} {r : List (Int × Nat)}, chkL pc os r = true → swK x K t0 r → ∃ t : Nat, (pc : Int) + Op.lookupswitch.offset os dflt x = (t : Int) ∧ K t
  | [], [], h, hk => ⟨t0, by rw [show Op.lookupswitch.offset [] dflt x = dflt from rfl]; exact h0, hk⟩
  | [], _ :: _, h, hk => by simp [chkL] at h
  | (_, _) :: _, [], h, hk => by simp [chkL] at h
  | (a, o) :: os, (k, t) :: r, h, hk => by
    simp only [chkL, Bool.and_eq_true, decide_eq_true_eq] at h
    obtain ⟨⟨rfl, h2⟩, h3⟩ := h
    obtain ⟨k1, k2⟩ := hk
    rw [Op.lookupswitch.offset_cons]
    by_cases e : x = k
    · subst e
      exact ⟨t, by simpa using h2, k1 rfl⟩
    · obtain ⟨t', r1, r2⟩ := swL h0 h3 (k2 e)
      refine ⟨t', ?_, r2⟩
      rw [if_neg]
      · exact r1
      · simpa using fun q => e q.symm
theorem w_lsw {dflt : Int} {ps : Array (Int × Int)} {len t0 : Nat} {x : Int} {r : List (Int × Nat)} (hd : decode y.2.1 pc = .ok (.lookupswitch dflt ps, len)) (hp : (ps.toList.zip (ps.toList.drop 1)).all (fun (a, next) => a.1 < next.1) = true) (h0 : (pc : Int) + dflt = (t0 : Int)) (hr : chkL pc ps.toList r = true) (k : swK x (fun t => wp y d rc rs Q t lo st h) t0 r) : wp y d rc rs Q pc lo (vi x :: st) h := by
  intro E p l e R s m args below meth c Z hC hR hd1 hd2 hb H locs ls cells slots hc hs hW hS hl hst hlo
  have hx : inr x := (ok_cons.mp hst).1
  obtain ⟨t, k1, k2⟩ := swL h0 hr k
  exact lv_lookup hC.1 hC.2.1 hd hp (by rw [oi_to hx]) k1 (k2 E p l e R s m args below meth c Z hC hR hd1 hd2 hb H locs ls cells slots hc hs hW hS hl (ok_cons.mp hst).2 hlo)
theorem w_ret {v : Option AV} (hi : rtI y v pc) (hq : Q v h) : wp y d rc rs Q pc lo v.toList h := by
  intro E p l e R s m args below meth c Z hC hR hd1 hd2 hb H locs ls cells slots hc hs hW hS hl hst hlo
  exact hR v h pc ls H locs cells slots hi (fun w hw => hst w (by rw [hw]; simp)) hq hW hS (by omega) (by omega)
theorem w_iret {x : Int} (hr : y.2.2.2 = some .int) (hd : decode y.2.1 pc = .ok (.ireturn, 1)) (hq : Q (some (vi x)) h) : wp y d rc rs Q pc lo [vi x] h := w_ret (v := some (vi x)) (Or.inl ⟨x, rfl, hr, hd⟩) hq
theorem w_zret {x : Int} (hr : y.2.2.2 = some .boolean) (hd : decode y.2.1 pc = .ok (.ireturn, 1)) (h01 : x = 0 ∨ x = 1) (hq : Q (some (vi x)) h) : wp y d rc rs Q pc lo [vi x] h := w_ret (v := some (vi x)) (Or.inr (Or.inl ⟨x, rfl, h01, hr, hd⟩)) hq
theorem w_lret {x : Int64} (hr : y.2.2.2 = some .long) (hd : decode y.2.1 pc = .ok (.lreturn, 1)) (hq : Q (some (vl x)) h) : wp y d rc rs Q pc lo [vl x] h := w_ret (v := some (vl x)) (Or.inr (Or.inr (Or.inl ⟨x, rfl, hr, hd⟩))) hq
theorem w_aret {x : Nat} {t : FieldType} (hr : y.2.2.2 = some (.array t)) (hd : decode y.2.1 pc = .ok (.areturn, 1)) (hq : Q (some (vr x)) h) : wp y d rc rs Q pc lo [vr x] h := w_ret (v := some (vr x)) (Or.inr (Or.inr (Or.inr (Or.inl ⟨x, t, rfl, hr, hd⟩)))) hq
theorem w_vret (hr : y.2.2.2 = none) (hd : decode y.2.1 pc = .ok (.return_, 1)) (hq : Q none h) : wp y d rc rs Q pc lo [] h := w_ret (v := none) (Or.inr (Or.inr (Or.inr (Or.inr ⟨rfl, hr, hd⟩)))) hq
end FROWS
end
section
theorem StP.same {b : Nat} {u U : State} (hv : u.vm = U.vm) (hh : U.heap = u.heap) (h : StP b u u.heap) : StP b U U.heap := by
  rw [hh]
  have hA : u.vm.Alike U.vm := by rw [← hv]; exact Vm.Alike.refl _
  obtain ⟨⟨t, h1, h2⟩, ⟨t', h3, h4⟩, ⟨adK, adV, h5, h6, h7, h8⟩, h9, h10⟩ := h
  exact ⟨⟨t, va_Z.moved hA h1, va_T.moved hA h2⟩, ⟨t', va_Z.moved hA h3, va_T.moved hA h4⟩, ⟨adK, adV, vk_S.moved hA h5, vk_R.same hv.symm h6, vk_R.same hv.symm h7, vk_R.same hv.symm h8⟩, va_Z.moved hA h9, va_Zq.moved hA h10⟩
theorem Gs.same {E : EN} {u U : State} (hv : u.vm = U.vm) (hh : U.heap = u.heap) (h : Gs E u) : Gs E U := by
  have hA : u.vm.Alike U.vm := by rw [← hv]; exact Vm.Alike.refl _
  exact ⟨va_K.moved hA h.1, fun q hq => va_Nw.same rfl hv (h.2.1 q hq), va_Nw.same rfl hv h.2.2.1, ⟨fun C hC => va_AO.moved hA (h.2.2.2.1.1 C hC), aoA.moved hA h.2.2.2.1.2.1, aoA.moved hA h.2.2.2.1.2.2⟩, h.2.2.2.2.same hv hh⟩
theorem PcM_blind (E : EN) (av : List AV) (h : AH) : FrameBlind (PcM E av h) := fun a U g mk q => by
  obtain ⟨q0, q1, q2, q3⟩ := q
  exact ⟨q0, q1, q2, q3.same rfl rfl⟩
section CROWS
variable {y z : MI} {d d' rc rs mc ms : Nat} {Q Q' : Option AV → AH → Prop} {pc q : Nat} {lo : List (Option AV)} {st st' stk : List AV} {h : AH} {av : List AV}
/-- what the tables say of a method that is called -/
def ML (z : MI) (n : Nat) : Prop := cdw z ∈ gt ∧ Cond.initialized z.1.cls ∈ gt ∧ z.1.cls ≠ "java/lang/invoke/MethodHandle" ∧ z.1.cls ≠ "java/lang/invoke/VarHandle" ∧ (parseMethodDescriptor z.1.desc).map (fun d => d.parameters.length) = some n
def VL (y z : MI) (i n : Nat) : Prop := ML z n ∧ Cond.methodLink y.1.cls i z.1 ∈ gt ∧ Cond.instanceMethod z.1 ∈ gt ∧ Cond.selects z.1.cls z.1 z.1 ∈ gt
def SL (y z : MI) (i n : Nat) : Prop := ML z n ∧ Cond.methodLink y.1.cls i z.1 ∈ gt ∧ Cond.static z.1 ∈ gt
def IL (y z : MI) (i n : Nat) : Prop := ML z n ∧ Cond.methodLink y.1.cls i z.1 ∈ gt ∧ Cond.instanceMethod z.1 ∈ gt ∧ z.1.name = "<init>" ∧ z.2.2.2 = none
def NL (y z : MI) (i n : Nat) : Prop := ML z n ∧ y.1.cls = RX11 ∧ (i, z.1) ∈ nestM ∧ Cond.instanceMethod z.1 ∈ gt ∧ z.1.name = "<init>" ∧ z.2.2.2 = none
theorem w_fin {E : EN} {p : Program} {l : Launch} {e : Env} {R : Room} {s : State} {m : MethodId} {args : Array Value} {below : List Frame} {meth : Method} {c : Code} {Z : State → Prop} {H : Heap} {locs : List Loc} {ls : Array Slot} {cells slots : Nat} {st0 : List Value} {a : Array Value}
    (hr : va_Run p l e R s m args below meth c H locs cells slots mc ms (F0 m pc ls st0) (st.map (cv E.1)) (QcM E Q' a) (ab E.1)) (hS : va_S (ab E.1) s.heap H locs)
    (kk : ∀ (v : Option AV) (h' : AH) (H1 : Heap) (locs1 : List Loc), (∀ w, v = some w → okV w) → Q' v h' → Wd E.2.1 E.2.2 E.1 h' H1 → va_S (ab E.1) s.heap H1 locs1 → W p l e R s m args below meth c H1 locs1 (cells + mc) (slots + ms) Z (F0 m (pc + 3) ls ((v.toList ++ st).map (cv E.1)))) : W p l e R s m args below meth c H locs cells slots Z (F0 m pc ls st0) := by
  intro T hT X
  obtain ⟨v, st₀, t, T', L, h0, X', hL, e1, e2, ⟨v', h', ev, hok, hq, hWd, hz, hk⟩, stp⟩ := hr T hT X
  cases ev
  rw [h0] at hz hk
  obtain ⟨t2, a1, b1⟩ := kk v' h' T'.heap (locs ++ L) hok hq (by rw [e1]; exact hWd) ⟨Nat.le_trans hS.1 (by rw [e1]; exact hz), fun q h1 h2 => by rw [e1, hk q (Nat.lt_of_lt_of_le h1 hS.1) h2]; exact hS.2.1 q h1 h2, fun q hq => by
      rcases List.mem_append.mp hq with h | h
      · exact hS.2.2 q h
      · exact hL q h⟩ T' rfl X'
  refine ⟨t2, stp t2 ?_, b1⟩
  have : (v'.toList ++ st).map (cv E.1) = (v'.map (cv E.1)).toList ++ st.map (cv E.1) := by cases v' <;> rfl
  rw [this] at a1
  exact a1
theorem cat_sum (b : Nat) (st : List AV) : ((st.map (cv b)).map fun v => v.category).sum = (st.map cat).sum := by
  rw [List.map_map]
  congr 1
  exact List.map_congr_left (fun v _ => cv_cat b v)
theorem map_rev (b a : Nat) (av st : List AV) : (av.reverse ++ vr a :: st).map (cv b) = (av.map (cv b)).reverse ++ Value.ref (b + a) :: st.map (cv b) := by simp [cv, va_rf]
/-- a virtual call -/
theorem w_callV {i n c a : Nat} (hM : Ct d' mc ms z (vr a :: av) h Q') (hd : decode y.2.1 pc = .ok (.invokevirtual i, 3)) (hl : VL y z i n) (hs : stk = av.reverse ++ vr a :: st) (hn : av.length = n) (ha : a < nH h) (hk : kH h a = (c, 0)) (hc : c < 13 ∧ rx c = z.1.cls) (hdd : d' + 1 ≤ d) (hml : z.2.2.1 ≤ 45) (hmc : mc ≤ rc) (hms : ms ≤ rs) (h8 : (st.map cat).sum ≤ 8)
    (kk : ∀ (v : Option AV) (h' : AH), (∀ w, v = some w → okV w) → Q' v h' → wp y d (rc - mc) (rs - ms) Q (pc + 3) lo (v.toList ++ st) h') : wp y d rc rs Q pc lo stk h := by
  subst hs
  intro E p l e R s m args below meth c' Z hC hR hd1 hd2 hb H locs ls cells slots hcc hss hW hS hl' hst hlo
  obtain ⟨⟨l1, l2, l3, l4, l5⟩, l6, l7, l8⟩ := hl
  have hts := hC.2.2.2.2.1
  have hcb : CallB R s args y.1.cls i z.1 z.2.1 z.2.2.1 z.2.2.2 (wsM z) (rmM d' mc ms) mc ms n := callB_of n hts (gt_good l1) rfl rfl rfl (hts _ l2) (hts _ l6) ⟨l3, l4, l5⟩ ⟨by show d' + 1 ≤ R.frames; omega, by show 8 + (z.2.2.1 + 11) + 64 * d' ≤ R.locals; omega⟩
  have hat := hW.2.1 a ha
  rw [cE_o hk hc.1] at hat
  obtain ⟨r, h1, cell, q1, q2, q3, -⟩ := hat
  have hfc := (hC.2.2.2.2.2.1.1.1 c _ (vwAt hc.1)).2.1
  have hstv : ∀ v ∈ vr a :: av, okV v := fun v hv => by
    rcases List.mem_cons.mp hv with rfl | hv
    · trivial
    · exact hst v (List.mem_append_left _ (List.mem_reverse.mpr hv))
  rw [map_rev]
  refine w_fin (E := E) (va_runV (As := av.map (cv E.1)) (rest := st.map (cv E.1)) (b := E.1 + a) (C := z.1.cls) ⟨hC.1, hC.2.1, hC.2.2.1, hC.2.2.2.1, hts⟩ (hM l E) ⟨hcb, hts _ l7, hts _ l8⟩ ⟨PcM_blind E _ _, ⟨cell, q1, by rw [q3]; rfl, by rw [q2, ← hc.2]; exact hfc⟩, fun U hU hWm => ⟨rfl, hstv, by rw [hU]; exact hW, hC.2.2.2.2.2.1.go hWm (by rw [hU]; exact hS)⟩⟩ rfl (by rw [List.length_map]; exact hn) hl'.1 rfl (lv_room (by rw [cat_sum]; exact h8)) hd ⟨by omega, by omega⟩) hS ?_
  intro v h' H1 locs1 hok hq hW1 hS1
  exact kk v h' hok hq E p l e R s m args below meth c' Z hC hR hd1 hd2 hb H1 locs1 ls (cells + mc) (slots + ms) (by omega) (by omega) hW1 hS1 hl' (fun w hw => by
    rcases List.mem_append.mp hw with hw | hw
    · cases v with
      | none => simp at hw
      | some v => simp at hw; rw [hw]; exact hok v rfl
    · exact hst w (List.mem_append_right _ (List.mem_cons_of_mem _ hw))) hlo
/-- a static call -/
theorem w_callS {i n : Nat} (hM : Ct d' mc ms z av h Q') (hd : decode y.2.1 pc = .ok (.invokestatic i, 3)) (hl : SL y z i n) (hs : stk = av.reverse ++ st) (hn : av.length = n) (hdd : d' + 1 ≤ d) (hml : z.2.2.1 ≤ 45) (hmc : mc ≤ rc) (hms : ms ≤ rs) (h8 : (st.map cat).sum ≤ 8)
    (kk : ∀ (v : Option AV) (h' : AH), (∀ w, v = some w → okV w) → Q' v h' → wp y d (rc - mc) (rs - ms) Q (pc + 3) lo (v.toList ++ st) h') : wp y d rc rs Q pc lo stk h := by
  subst hs
  intro E p l e R s m args below meth c' Z hC hR hd1 hd2 hb H locs ls cells slots hcc hss hW hS hl' hst hlo
  obtain ⟨⟨l1, l2, l3, l4, l5⟩, l6, l7⟩ := hl
  have hts := hC.2.2.2.2.1
  have hcb : CallB R s args y.1.cls i z.1 z.2.1 z.2.2.1 z.2.2.2 (wsM z) (rmM d' mc ms) mc ms n := callB_of n hts (gt_good l1) rfl rfl rfl (hts _ l2) (hts _ l6) ⟨l3, l4, l5⟩ ⟨by show d' + 1 ≤ R.frames; omega, by show 8 + (z.2.2.1 + 11) + 64 * d' ≤ R.locals; omega⟩
  have hstv : ∀ v ∈ av, okV v := fun v hv => hst v (List.mem_append_left _ (List.mem_reverse.mpr hv))
  have em : (av.reverse ++ st).map (cv E.1) = (av.map (cv E.1)).reverse ++ st.map (cv E.1) := by simp
  rw [em]
  refine w_fin (E := E) (va_runS (As := av.map (cv E.1)) (rest := st.map (cv E.1)) ⟨hC.1, hC.2.1, hC.2.2.1, hC.2.2.2.1, hts⟩ (hM l E) ⟨hcb, hts _ l7⟩ ⟨PcM_blind E _ _, fun U hU hWm => ⟨rfl, hstv, by rw [hU]; exact hW, hC.2.2.2.2.2.1.go hWm (by rw [hU]; exact hS)⟩⟩ rfl (by rw [List.length_map]; exact hn) hl'.1 rfl (lv_room (by rw [cat_sum]; exact h8)) hd ⟨by omega, by omega⟩) hS ?_
  intro v h' H1 locs1 hok hq hW1 hS1
  exact kk v h' hok hq E p l e R s m args below meth c' Z hC hR hd1 hd2 hb H1 locs1 ls (cells + mc) (slots + ms) (by omega) (by omega) hW1 hS1 hl' (fun w hw => by
    rcases List.mem_append.mp hw with hw | hw
    · cases v with
      | none => simp at hw
      | some v => simp at hw; rw [hw]; exact hok v rfl
    · exact hst w (List.mem_append_right _ hw)) hlo
/-- a constructor -/
theorem w_callI {i n a : Nat} (hM : Ct d' mc ms z (vr a :: av) h Q') (hd : decode y.2.1 pc = .ok (.invokespecial i, 3)) (hl : IL y z i n ∨ NL y z i n) (hs : stk = av.reverse ++ vr a :: st) (hn : av.length = n) (hdd : d' + 1 ≤ d) (hml : z.2.2.1 ≤ 45) (hmc : mc ≤ rc) (hms : ms ≤ rs) (h8 : (st.map cat).sum ≤ 8)
    (kk : ∀ (v : Option AV) (h' : AH), (∀ w, v = some w → okV w) → Q' v h' → wp y d (rc - mc) (rs - ms) Q (pc + 3) lo (v.toList ++ st) h') : wp y d rc rs Q pc lo stk h := by
  subst hs
  intro E p l e R s m args below meth c' Z hC hR hd1 hd2 hb H locs ls cells slots hcc hss hW hS hl' hst hlo
  have hts := hC.2.2.2.2.1
  have hstv : ∀ v ∈ vr a :: av, okV v := fun v hv => by
    rcases List.mem_cons.mp hv with rfl | hv
    · trivial
    · exact hst v (List.mem_append_left _ (List.mem_reverse.mpr hv))
  rw [map_rev]
  have hrun : va_Run p l e R s m args below meth c' H locs cells slots mc ms (F0 m pc ls ((av.map (cv E.1)).reverse ++ Value.ref (E.1 + a) :: st.map (cv E.1))) (st.map (cv E.1)) (QcM E Q' (Value.ref (E.1 + a) :: av.map (cv E.1)).toArray) (ab E.1) := by
    have hpre : PreS s H (PcM E (vr a :: av) h) (Value.ref (E.1 + a) :: av.map (cv E.1)) := ⟨PcM_blind E _ _, fun U hU hWm => ⟨rfl, hstv, by rw [hU]; exact hW, hC.2.2.2.2.2.1.go hWm (by rw [hU]; exact hS)⟩⟩
    rcases hl with ⟨⟨l1, l2, l3, l4, l5⟩, l6, l7, l8, l9⟩ | ⟨⟨l1, l2, l3, l4, l5⟩, l6, l7, l8, l9, l10⟩
    · have hcb : CallB R s args y.1.cls i z.1 z.2.1 z.2.2.1 none (wsM z) (rmM d' mc ms) mc ms n := callB_of (ws' := gt) n hts (gt_good l1) (by rw [← l9]; rfl) rfl rfl (hts _ l2) (hts _ l6) ⟨l3, l4, l5⟩ ⟨by show d' + 1 ≤ R.frames; omega, by show 8 + (z.2.2.1 + 11) + 64 * d' ≤ R.locals; omega⟩
      exact va_runI (As := av.map (cv E.1)) (rest := st.map (cv E.1)) ⟨hC.1, hC.2.1, hC.2.2.1, hC.2.2.2.1, hts⟩ (hM l E) ⟨hcb, l8, hts _ l7⟩ hpre rfl (by rw [List.length_map]; exact hn) hl'.1 rfl (lv_room (by rw [cat_sum]; exact h8)) hd ⟨by omega, by omega⟩
    · have hcb : va_CN R s args y.1.cls i z.1 RX11 z.2.1 z.2.2.1 none (wsM z) (rmM d' mc ms) mc ms n := va_cnB (ws' := gt) n hts (gt_good l1) (by rw [← l10]; rfl) rfl rfl (by rw [l6]; exact hC.2.2.2.2.2.1.2.1 _ l7) (hts _ l2) ⟨l3, l4, l5⟩ ⟨by show d' + 1 ≤ R.frames; omega, by show 8 + (z.2.2.1 + 11) + 64 * d' ≤ R.locals; omega⟩
      exact va_runIN (As := av.map (cv E.1)) (rest := st.map (cv E.1)) ⟨hC.1, hC.2.1, hC.2.2.1, hC.2.2.2.1, hts⟩ (hM l E) ⟨hcb, l9, hts _ l8⟩ hpre rfl (by rw [List.length_map]; exact hn) hl'.1 rfl (lv_room (by rw [cat_sum]; exact h8)) hd ⟨by omega, by omega⟩
  refine w_fin (E := E) hrun hS ?_
  intro v h' H1 locs1 hok hq hW1 hS1
  exact kk v h' hok hq E p l e R s m args below meth c' Z hC hR hd1 hd2 hb H1 locs1 ls (cells + mc) (slots + ms) (by omega) (by omega) hW1 hS1 hl' (fun w hw => by
    rcases List.mem_append.mp hw with hw | hw
    · cases v with
      | none => simp at hw
      | some v => simp at hw; rw [hw]; exact hok v rfl
    · exact hst w (List.mem_append_right _ (List.mem_cons_of_mem _ hw))) hlo
/-- Object's own constructor -/
theorem w_obj {i a : Nat} (hd : decode y.2.1 pc = .ok (.invokespecial i, 3)) (hl : Cond.methodLink y.1.cls i objectInit ∈ gt ∧ Cond.instanceMethod objectInit ∈ gt ∧ Cond.code objectInit ⟨#[0xb1]⟩ 1 none ∈ gt) (hdd : 1 ≤ d) (h8 : (st.map cat).sum ≤ 8) (kk : wp y d rc rs Q (pc + 3) lo st h) : wp y d rc rs Q pc lo (vr a :: st) h := by
  intro E p l e R s m args below meth c' Z hC hR hd1 hd2 hb H locs ls cells slots hcc hss hW hS hl' hst hlo
  have hts := hC.2.2.2.2.1
  refine W.objInit hC.1 hC.2.1 hC.2.2.2.1 (hts _ hl.1) (hts _ hl.2.1) (hts _ hl.2.2) rfl (by rw [hC.2.2.1]; exact hl'.1) rfl hd (by omega) ?_ ?_
  · have := lv_room (m := m) (pc := pc) (ls := ls) (rest := (vr a :: st).map (cv E.1)) (st := st.map (cv E.1)) (by rw [cat_sum]; exact h8)
    exact Nat.le_trans (Nat.add_le_add_right this 12) (by omega)
  · exact kk E p l e R s m args below meth c' Z hC hR hd1 hd2 hb H locs ls cells slots hcc hss hW hS hl' (ok_cons.mp hst).2 hlo
end CROWS
end
section
section NROWS
variable {y : MI} {d rc rs : Nat} {Q : Option AV → AH → Prop} {pc q : Nat} {lo : List (Option AV)} {st st' : List AV} {h : AH}
theorem in_nw {h : AH} {t n : Nat} (hh : ∀ a k, inr (iH h a k)) : ∀ x j, inr (iH (nw h t n) x j) := by
  intro x j
  show inr (r2 h.2.2.1 h.1 (fun _ => 0) x j)
  unfold r2
  by_cases e : x = h.1
  · rw [if_pos e]; exact in_0
  · rw [if_neg e]; exact hh x j
theorem kH_nw (h : AH) (t n : Nat) : kH (nw h t n) (nH h) = (t, n) := by simp [kH, nw, nH]
theorem iH_nw (h : AH) (t n j : Nat) : iH (nw h t n) (nH h) j = 0 := by simp [iH, nw, nH, r2]
theorem jH_nw (h : AH) (t n j : Nat) : jH (nw h t n) (nH h) j = 0 := by simp [jH, nw, nH, r2]
theorem rH_nw (h : AH) (t n j : Nat) : rH (nw h t n) (nH h) j = none := by simp [rH, nw, nH, r2]
theorem dfl : ∀ c, c < 13 → ∀ k, k < nf c → defaultValue (tyf c k) = if (fR c).getD k false = true then Value.null else Value.int 0 := by decide +kernel
/-- a new object -/
theorem w_new {i c : Nat} (hc : c < 13) (hd : decode y.2.1 pc = .ok (.new i, 3)) (hl : Cond.classLink y.1.cls i (rx c) ∈ gt ∧ Cond.instantiable (rx c) (nf c) ∈ gt ∧ Cond.initialized (rx c) ∈ gt) (h1 : 1 ≤ rc) (h2 : nf c ≤ rs) (kk : wp y d (rc - 1) (rs - nf c) Q (pc + 3) lo (vr (nH h) :: st) (nw h c 0)) : wp y d rc rs Q pc lo st h := by
  intro E p l e R s m args below meth c' Z hC hR hd1 hd2 hb H locs ls cells slots hcc hss hW hS hl' hst hlo
  have hts := hC.2.2.2.2.1
  have hKn := hC.2.2.2.2.2.1.1.1 c _ (vwAt hc)
  refine W.newcK hC.1 hC.2.1 hC.2.2.2.1 (hts _ hl.1) (hts _ hl.2.1) (hts _ hl.2.2) rfl hd (by omega) (by omega) hKn.2.1 hW.1 fun H1 kC hkC e1 z1 o1 => ?_
  have hW1 : Wd E.2.1 E.2.2 E.1 (nw h c 0) H1 := by
    refine hW.push rfl (in_nw hW.2.2) (by rw [z1, hW.1]) ?_ (fun q hq => o1 q (by rw [← hW.1]; exact hq)) (fun x hx => cE_nw hx)
    rw [cE_o (kH_nw h c 0) hc]
    refine ⟨_, vwAt hc, (u_born (tyf c) hts (inG hc) hKn hkC e1 (tyAt hc)).to (fun j hj => ?_)⟩
    rw [vpV_ovs hj, dfl c hc j hj]
    unfold ov
    rw [rH_nw, iH_nw]
    rfl
  exact kk E p l e R s m args below meth c' Z hC hR hd1 hd2 hb H1 locs ls (cells + 1) (slots + nf c) (by omega) (by omega) hW1 ⟨Nat.le_trans hS.1 (by rw [z1, hW.1]; omega), fun x g1 g2 => (o1 x (by rw [← hW.1]; exact Nat.lt_of_lt_of_le g1 hS.1)).trans (hS.2.1 x g1 g2), hS.2.2⟩ hl' (ok_cons.mpr ⟨trivial, hst⟩) hlo
/-- a new array of whole numbers, longs, truths -/
theorem w_newa {t : Nat} {x : Int} {at' : ArrayType} (hd : decode y.2.1 pc = .ok (.newarray at', 2)) (ht : (t = 13 ∧ at' = .int) ∨ (t = 14 ∧ at' = .long) ∨ (t = 15 ∧ at' = .boolean)) (hl : Cond.arrayClass (newarray.typeOf at') ∈ gt) (h0 : 0 ≤ x) (hx1 : x ≤ 100000) (h1 : 1 ≤ rc) (h2 : x.toNat ≤ rs) (kk : wp y d (rc - 1) (rs - x.toNat) Q (pc + 2) lo (vr (nH h) :: st) (nw h t x.toNat)) : wp y d rc rs Q pc lo (vi x :: st) h := by
  intro E p l e R s m args below meth c' Z hC hR hd1 hd2 hb H locs ls cells slots hcc hss hW hS hl' hst hlo
  have hts := hC.2.2.2.2.1
  have hx : inr x := (ok_cons.mp hst).1
  refine va_newaK (N := x.toNat) hC.1 hC.2.1 (hts _ hl) rfl hd rfl (by rw [oi_0, oi_lt hx in_0]; omega) (oi_nat hx) ?_ (by omega) (by omega) hW.1 fun H1 cA e1 z1 o1 hAr hNm => ?_
  · rcases ht with ⟨-, rfl⟩ | ⟨-, rfl⟩ | ⟨-, rfl⟩
    · show x.toNat * 4 ≤ 536870912; omega
    · show x.toNat * 8 ≤ 536870912; omega
    · show x.toNat * 1 ≤ 536870912; omega
  · have hW1 : Wd E.2.1 E.2.2 E.1 (nw h t x.toNat) H1 := by
      refine hW.push rfl (in_nw hW.2.2) (by rw [z1, hW.1]) ?_ (fun q hq => o1 q (by rw [← hW.1]; exact hq)) (fun x hx => cE_nw hx)
      have hRA := fun t (g1 : 13 ≤ t) (g2 : t < 23) => (hC.2.2.2.2.2.1.1.2 (t - 13) _ (tyL_at E.2.2 (t := t) g1 g2)).2
      rcases ht with ⟨rfl, rfl⟩ | ⟨rfl, rfl⟩ | ⟨rfl, rfl⟩
      · rw [cE_i (kH_nw h 13 x.toNat) (Or.inl rfl)]
        have : E.2.2 13 = cA := Option.some.inj ((hRA 13 (by omega) (by omega)).symm.trans hNm)
        show H1[E.1 + nH h]? = some (vp_cell _ _)
        rw [e1, this, vp_cell_i]
        simp only [iH_nw]
        rfl
      · rw [cE_j (kH_nw h 14 x.toNat)]
        have : E.2.2 14 = cA := Option.some.inj ((hRA 14 (by omega) (by omega)).symm.trans hNm)
        show H1[E.1 + nH h]? = some (vp_cell _ _)
        rw [e1, this, vp_cell_l]
        simp only [jH_nw]
        rfl
      · rw [cE_i (kH_nw h 15 x.toNat) (Or.inr rfl)]
        have : E.2.2 15 = cA := Option.some.inj ((hRA 15 (by omega) (by omega)).symm.trans hNm)
        show H1[E.1 + nH h]? = some (vp_cell _ _)
        rw [e1, this, vp_cell_i]
        simp only [iH_nw]
        rfl
    have := kk E p l e R s m args below meth c' Z hC hR hd1 hd2 hb H1 locs ls (cells + 1) (slots + x.toNat) (by omega) (by omega) hW1 ⟨Nat.le_trans hS.1 (by rw [z1, hW.1]; omega), fun x g1 g2 => (o1 x (by rw [← hW.1]; exact Nat.lt_of_lt_of_le g1 hS.1)).trans (hS.2.1 x g1 g2), hS.2.2⟩ hl' (ok_cons.mpr ⟨trivial, (ok_cons.mp hst).2⟩) hlo
    exact this
/-- a new array of objects -/
theorem w_anew {i t : Nat} {x : Int} (ht : 15 < t ∧ t < 21) (hd : decode y.2.1 pc = .ok (.anewarray i, 3)) (hl : Cond.classLink y.1.cls i (rx (elK t)) ∈ gt) (hao : rx (elK t) ∈ aoL) (h0 : 0 ≤ x) (hx1 : x ≤ 100000) (h1 : 1 ≤ rc) (h2 : x.toNat ≤ rs) (kk : wp y d (rc - 1) (rs - x.toNat) Q (pc + 3) lo (vr (nH h) :: st) (nw h t x.toNat)) : wp y d rc rs Q pc lo (vi x :: st) h := by
  intro E p l e R s m args below meth c' Z hC hR hd1 hd2 hb H locs ls cells slots hcc hss hW hS hl' hst hlo
  have hts := hC.2.2.2.2.1
  have hx : inr x := (ok_cons.mp hst).1
  have hxn := oi_nat hx
  refine W.anew hC.1 hC.2.1 hC.2.2.2.1 (hts _ hl) (va_AO.use (hC.2.2.2.2.2.1.2.2.2.1.1 _ hao)) rfl hd rfl (by rw [oi_0, oi_lt hx in_0]; omega) (by rw [hxn]; omega) (by omega) (by rw [hxn]; omega) fun cA kA comp f1 f2 f3 f4 => ?_
  rw [hxn]
  generalize hH1 : H.push ({ cls := cA, slots := Array.replicate x.toNat .null, vm := .none } : Cell) = H1
  have z1 : H1.size = H.size + 1 := by rw [← hH1, Array.size_push]
  have e1 : H1[H.size]? = some (arrV cA x.toNat (fun _ => .null)) := by rw [← hH1, Array.getElem?_push_size, ← arrV_new]
  have o1 : ∀ q : Nat, q < H.size → H1[q]? = H[q]? := fun q hq => by rw [← hH1, Array.getElem?_push, if_neg (Nat.ne_of_lt hq)]
  obtain ⟨hl13, hty⟩ := elK_ok ht.1 ht.2
  have hRA := (hC.2.2.2.2.2.1.1.2 (t - 13) _ (tyL_at E.2.2 (t := t) (by omega) (by omega))).2
  rw [hty] at hRA
  obtain ⟨kA', comp', k1, k2, k3, k4⟩ := hRA
  have hcA : E.2.2 t = cA := Option.some.inj (k4.symm.trans f1)
  have hW1 : Wd E.2.1 E.2.2 E.1 (nw h t x.toNat) H1 := by
    refine hW.push rfl (in_nw hW.2.2) z1 ?_ o1 (fun x hx => cE_nw hx)
    rw [cE_q (kH_nw h t x.toNat) ht.1]
    show H1[E.1 + nH h]? = some (vp_cell _ _)
    rw [← hW.1, e1, hcA, vp_cell_q]
    simp only [rH_nw]
    rfl
  have := kk E p l e R s m args below meth c' Z hC hR hd1 hd2 hb H1 locs ls (cells + 1) (slots + x.toNat) (by omega) (by omega) hW1 ⟨Nat.le_trans hS.1 (by rw [z1]; omega), fun x g1 g2 => (o1 x (Nat.lt_of_lt_of_le g1 hS.1)).trans (hS.2.1 x g1 g2), hS.2.2⟩ hl' (ok_cons.mpr ⟨trivial, (ok_cons.mp hst).2⟩) hlo
  rw [hW.1]
  exact this
/-- a row of rows, made in one piece -/
def mu (h : AH) (t n rk k : Nat) : AH := (h.1 + 1 + n, (fun x => if x < h.1 then h.2.1 x else if x = h.1 then (t, n) else (rk, k)), (fun x y => if x < h.1 then h.2.2.1 x y else 0), (fun x y => if x < h.1 then h.2.2.2.1 x y else 0), (fun x y => if x < h.1 then h.2.2.2.2 x y else if x = h.1 ∧ y < n then some (h.1 + 1 + y) else none))
theorem cE_mu {cy : Nat → ClassId} {b : Nat} {h : AH} {t n rk k : Nat} {x : Nat} (e : x < nH h) : cE cy b (mu h t n rk k) x = cE cy b h x := by
  have e' : x < h.1 := e
  have h0 : kH (mu h t n rk k) x = kH h x := by simp [kH, mu, e']
  have h1 : rH (mu h t n rk k) x = rH h x := by funext y; simp [rH, mu, e']
  have h3 : iH (mu h t n rk k) x = iH h x := by funext y; simp [iH, mu, e']
  have h4 : jH (mu h t n rk k) x = jH h x := by funext y; simp [jH, mu, e']
  have h2 : ∀ t', ovs b (mu h t n rk k) x t' = ovs b h x t' := fun t' => by
    unfold ovs; congr 1; funext j; unfold ov; rw [h1, h3]
  unfold cE
  rw [h0, h1, h2, h3, h4]
theorem w_multi {i t rk : Nat} {ft : FieldType} {n k : Int} (ht : (t = 21 ∧ rk = 13 ∧ ft = .int) ∨ (t = 22 ∧ rk = 15 ∧ ft = .boolean)) (hd : decode y.2.1 pc = .ok (.multianewarray i 2, 4)) (hl : Cond.classLink y.1.cls i ("[" ++ (FieldType.array ft).toString) ∈ gt) (hac : Cond.arrayClass ft ∈ gt) (hn : 0 ≤ n) (hk : 0 ≤ k) (hn' : n ≤ 100000) (hk' : k ≤ 100000) (h1 : 1 + n.toNat ≤ rc) (h2 : n.toNat + n.toNat * k.toNat ≤ rs) (kk : wp y d (rc - (1 + n.toNat)) (rs - (n.toNat + n.toNat * k.toNat)) Q (pc + 4) lo (vr (nH h) :: st) (mu h t n.toNat rk k.toNat)) : wp y d rc rs Q pc lo (vi k :: vi n :: st) h := by
  intro E p l e R s m args below meth c' Z hC hR hd1 hd2 hb H locs ls cells slots hcc hss hW hS hl' hst hlo
  have hts := hC.2.2.2.2.1
  have hov : aoA ft s := by
    rcases ht with ⟨-, -, rfl⟩ | ⟨-, -, rfl⟩
    · exact hC.2.2.2.2.2.1.2.2.2.1.2.1
    · exact hC.2.2.2.2.2.1.2.2.2.1.2.2
  have hik : inr k := (ok_cons.mp hst).1
  have hin : inr n := (ok_cons.mp (ok_cons.mp hst).2).1
  have hst' := (ok_cons.mp (ok_cons.mp hst).2).2
  have en := oi_nat hin
  have ek := oi_nat hik
  have hbk : (Int32.ofInt k).toNatClampNeg * componentBytes ft ≤ 536870912 := by
    rw [ek]
    rcases ht with ⟨-, -, rfl⟩ | ⟨-, -, rfl⟩
    · show k.toNat * 4 ≤ _; omega
    · show k.toNat * 1 ≤ _; omega
  refine mq_W hC.1 hC.2.1 hC.2.2.2.1 (hts _ hl) (hov.use) (hts _ hac) (g := F0 m pc ls ((vi k :: vi n :: st).map (cv E.1))) rfl hd (n := Int32.ofInt n) (k := Int32.ofInt k) (rest := st.map (cv E.1)) rfl (by rw [oi_0, oi_lt hin in_0]; omega) (by rw [oi_0, oi_lt hik in_0]; omega) (by rw [en]; omega) hbk (by rw [ek]; omega) (by rw [en]; omega) (by rw [en, ek]; omega) fun cA comp hfA hfC => ?_
  rw [en, ek]
  have f1 := mq_hsize H cA comp n.toNat k.toNat (defaultValue ft) n.toNat
  have fat := mq_hat H cA comp n.toNat k.toNat (defaultValue ft) n.toNat
  have fold : ∀ a, a < H.size → (mq_h H cA comp n.toNat k.toNat (defaultValue ft) n.toNat)[a]? = H[a]? := fun a ha => by rw [fat, if_pos ha]
  generalize mq_h H cA comp n.toNat k.toNat (defaultValue ft) n.toNat = F at f1 fat fold
  have hRA := fun t (g1 : 13 ≤ t) (g2 : t < 23) => (hC.2.2.2.2.2.1.1.2 (t - 13) _ (tyL_at E.2.2 (t := t) g1 g2)).2
  have hcA : E.2.2 t = cA := by
    rcases ht with ⟨rfl, rfl, rfl⟩ | ⟨rfl, rfl, rfl⟩
    · exact Option.some.inj ((hRA 21 (by omega) (by omega)).symm.trans hfA)
    · exact Option.some.inj ((hRA 22 (by omega) (by omega)).symm.trans hfA)
  have hcC : E.2.2 rk = comp := by
    rcases ht with ⟨rfl, rfl, rfl⟩ | ⟨rfl, rfl, rfl⟩
    · exact Option.some.inj ((hRA 13 (by omega) (by omega)).symm.trans hfC)
    · exact Option.some.inj ((hRA 15 (by omega) (by omega)).symm.trans hfC)
  have ht15 : 15 < t := by rcases ht with ⟨rfl, -⟩ | ⟨rfl, -⟩ <;> omega
  have hrk : rk = 13 ∨ rk = 15 := by rcases ht with ⟨-, rfl, -⟩ | ⟨-, rfl, -⟩ <;> simp
  have hdv : defaultValue ft = .int 0 := by rcases ht with ⟨-, -, rfl⟩ | ⟨-, -, rfl⟩ <;> rfl
  have hz : E.1 + h.1 = H.size := hW.1.symm
  have hW1 : Wd E.2.1 E.2.2 E.1 (mu h t n.toNat rk k.toNat) F := by
    refine ⟨by rw [f1, ← hz]; show _ = E.1 + (h.1 + 1 + n.toNat); omega, fun a ha => ?_, fun a j => ?_⟩
    · have ha' : a < h.1 + 1 + n.toNat := ha
      rcases Nat.lt_trichotomy a h.1 with q | q | q
      · rw [cE_mu q]
        exact (hW.2.1 a q).kept (fold _ (by omega))
      · subst q
        have hk0 : kH (mu h t n.toNat rk k.toNat) h.1 = (t, n.toNat) := by simp [kH, mu]
        rw [cE_q hk0 ht15]
        show F[E.1 + h.1]? = some (vp_cell _ _)
        rw [fat, if_neg (by omega), if_pos hz, hcA, vp_cell_q, ← hz]
        congr 1
        have hfun : ∀ j, j < n.toNat → (if j < n.toNat then Value.ref (E.1 + h.1 + 1 + j) else .null) = va_rf (Option.map (fun x => E.1 + x) (rH (mu h t n.toNat rk k.toNat) h.1 j)) := fun j hj => by
          have : rH (mu h t n.toNat rk k.toNat) h.1 j = some (h.1 + 1 + j) := by
            show (if h.1 < h.1 then h.2.2.2.2 h.1 j else if h.1 = h.1 ∧ j < n.toNat then some (h.1 + 1 + j) else none) = _
            rw [if_neg (Nat.lt_irrefl _), if_pos ⟨rfl, hj⟩]
          rw [if_pos hj, this]
          show Value.ref _ = Value.ref _
          congr 1
          show E.1 + h.1 + 1 + j = E.1 + (h.1 + 1 + j); omega
        unfold mq_o arrV
        congr 1
        apply Array.ext
        · simp
        · intro j hj1 hj2
          simp only [Array.getElem_ofFn]
          exact hfun j (by simpa using hj1)
      · have hk0 : kH (mu h t n.toNat rk k.toNat) a = (rk, k.toNat) := by simp [kH, mu, show ¬ a < h.1 by omega, show ¬ a = h.1 by omega]
        rw [cE_i hk0 hrk]
        show F[E.1 + a]? = some (vp_cell _ _)
        rw [fat, if_neg (by omega), if_neg (by omega), if_pos (by omega), hcC, vp_cell_i]
        congr 1
        unfold mq_i
        rw [arrV_new, hdv]
        congr 1
        funext j
        have : iH (mu h t n.toNat rk k.toNat) a j = 0 := by simp [iH, mu, show ¬ a < h.1 by omega]
        rw [this]; rfl
    · show inr (if a < h.1 then h.2.2.1 a j else 0)
      split
      · exact hW.2.2 a j
      · exact in_0
  have := kk E p l e R s m args below meth c' Z hC hR hd1 hd2 hb F locs ls (cells + (1 + n.toNat)) (slots + (n.toNat + n.toNat * k.toNat)) (by omega) (by omega) hW1 ⟨Nat.le_trans hS.1 (by rw [f1]; omega), fun x g1 g2 => (fold x (Nat.lt_of_lt_of_le g1 hS.1)).trans (hS.2.1 x g1 g2), hS.2.2⟩ hl' (ok_cons.mpr ⟨trivial, hst'⟩) hlo
  rw [hW.1]
  exact this
end NROWS
end
