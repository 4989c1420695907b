section
-- ===== PART A: goes FIRST, ahead of the names: the tables' words, and 'selects' of the private methods out of them =====
/-- a private method of a class that the tables say can be made, by its rows of tables_1 -/
def lw_okq (q : MethodName × Nat) : Prop := (q.1.cls ≠ "java/lang/invoke/MethodHandle" ∧ q.1.cls ≠ "java/lang/invoke/VarHandle") ∧ Cond.instantiable q.1.cls q.2 ∈ tables_1 ∧ Cond.privateMethod q.1 ∈ tables_1 ∧ Cond.instanceMethod q.1 ∈ tables_1
theorem lw_p0 : lw_okq (⟨"LiveIndex", "placeInBuffer", "(I)I"⟩, 20) := ⟨⟨by decide +kernel, by decide +kernel⟩, List.mem_of_getElem? (i := 22) (by decide +kernel), List.mem_of_getElem? (i := 319) (by decide +kernel), List.mem_of_getElem? (i := 320) (by decide +kernel)⟩
theorem lw_p1 : lw_okq (⟨"LiveIndex", "dropLive", "(I)I"⟩, 20) := ⟨⟨by decide +kernel, by decide +kernel⟩, List.mem_of_getElem? (i := 22) (by decide +kernel), List.mem_of_getElem? (i := 339) (by decide +kernel), List.mem_of_getElem? (i := 340) (by decide +kernel)⟩
theorem lw_p2 : lw_okq (⟨"LiveIndex", "placeInSegments", "(I)I"⟩, 20) := ⟨⟨by decide +kernel, by decide +kernel⟩, List.mem_of_getElem? (i := 22) (by decide +kernel), List.mem_of_getElem? (i := 343) (by decide +kernel), List.mem_of_getElem? (i := 344) (by decide +kernel)⟩
theorem lw_p3 : lw_okq (⟨"LiveIndex", "isQuery", "(I)Z"⟩, 20) := ⟨⟨by decide +kernel, by decide +kernel⟩, List.mem_of_getElem? (i := 22) (by decide +kernel), List.mem_of_getElem? (i := 383) (by decide +kernel), List.mem_of_getElem? (i := 384) (by decide +kernel)⟩
theorem lw_p4 : lw_okq (⟨"LiveIndex$Query", "leafWorth", "([II)I"⟩, 3) := ⟨⟨by decide +kernel, by decide +kernel⟩, List.mem_of_getElem? (i := 205) (by decide +kernel), List.mem_of_getElem? (i := 396) (by decide +kernel), List.mem_of_getElem? (i := 397) (by decide +kernel)⟩
theorem lw_p5 : lw_okq (⟨"LiveIndex$Query", "phrasesIn", "([III)I"⟩, 3) := ⟨⟨by decide +kernel, by decide +kernel⟩, List.mem_of_getElem? (i := 205) (by decide +kernel), List.mem_of_getElem? (i := 412) (by decide +kernel), List.mem_of_getElem? (i := 413) (by decide +kernel)⟩
theorem lw_p6 : lw_okq (⟨"LiveIndex$Query", "length", "(I)I"⟩, 3) := ⟨⟨by decide +kernel, by decide +kernel⟩, List.mem_of_getElem? (i := 205) (by decide +kernel), List.mem_of_getElem? (i := 416) (by decide +kernel), List.mem_of_getElem? (i := 417) (by decide +kernel)⟩
theorem lw_p7 : lw_okq (⟨"LiveIndex$Hits", "insert", "(II)V"⟩, 5) := ⟨⟨by decide +kernel, by decide +kernel⟩, List.mem_of_getElem? (i := 179) (by decide +kernel), List.mem_of_getElem? (i := 420) (by decide +kernel), List.mem_of_getElem? (i := 421) (by decide +kernel)⟩
theorem lw_p8 : lw_okq (⟨"LiveIndex$Segment", "notePosting", "(II)V"⟩, 7) := ⟨⟨by decide +kernel, by decide +kernel⟩, List.mem_of_getElem? (i := 432) (by decide +kernel), List.mem_of_getElem? (i := 442) (by decide +kernel), List.mem_of_getElem? (i := 443) (by decide +kernel)⟩
theorem lw_p9 : lw_okq (⟨"LiveIndex$Segment", "firstNotBelow", "(I)I"⟩, 7) := ⟨⟨by decide +kernel, by decide +kernel⟩, List.mem_of_getElem? (i := 432) (by decide +kernel), List.mem_of_getElem? (i := 446) (by decide +kernel), List.mem_of_getElem? (i := 447) (by decide +kernel)⟩
theorem lw_p10 : lw_okq (⟨"LiveIndex", "isSegment", "(I)Z"⟩, 20) := ⟨⟨by decide +kernel, by decide +kernel⟩, List.mem_of_getElem? (i := 22) (by decide +kernel), List.mem_of_getElem? (i := 497) (by decide +kernel), List.mem_of_getElem? (i := 498) (by decide +kernel)⟩
theorem lw_p11 : lw_okq (⟨"LiveIndex", "viewsWith", "(I)I"⟩, 20) := ⟨⟨by decide +kernel, by decide +kernel⟩, List.mem_of_getElem? (i := 22) (by decide +kernel), List.mem_of_getElem? (i := 522) (by decide +kernel), List.mem_of_getElem? (i := 523) (by decide +kernel)⟩
theorem lw_p12 : lw_okq (⟨"LiveIndex$Policy", "isFit", "(LLiveIndex$Stand;I)Z"⟩, 2) := ⟨⟨by decide +kernel, by decide +kernel⟩, List.mem_of_getElem? (i := 90) (by decide +kernel), List.mem_of_getElem? (i := 568) (by decide +kernel), List.mem_of_getElem? (i := 569) (by decide +kernel)⟩
theorem lw_p13 : lw_okq (⟨"LiveIndex$Policy", "areOfOneTier", "(LLiveIndex$Stand;I)Z"⟩, 2) := ⟨⟨by decide +kernel, by decide +kernel⟩, List.mem_of_getElem? (i := 90) (by decide +kernel), List.mem_of_getElem? (i := 572) (by decide +kernel), List.mem_of_getElem? (i := 573) (by decide +kernel)⟩
theorem lw_p14 : lw_okq (⟨"LiveIndex$Policy", "areSmallTogether", "(LLiveIndex$Stand;I)Z"⟩, 2) := ⟨⟨by decide +kernel, by decide +kernel⟩, List.mem_of_getElem? (i := 90) (by decide +kernel), List.mem_of_getElem? (i := 576) (by decide +kernel), List.mem_of_getElem? (i := 577) (by decide +kernel)⟩
theorem lw_p15 : lw_okq (⟨"LiveIndex$Policy", "hasDropped", "(LLiveIndex$Stand;I)Z"⟩, 2) := ⟨⟨by decide +kernel, by decide +kernel⟩, List.mem_of_getElem? (i := 90) (by decide +kernel), List.mem_of_getElem? (i := 580) (by decide +kernel), List.mem_of_getElem? (i := 581) (by decide +kernel)⟩
def lw_privs_1 : List (MethodName × Nat) := [(⟨"LiveIndex", "placeInBuffer", "(I)I"⟩, 20), (⟨"LiveIndex", "dropLive", "(I)I"⟩, 20), (⟨"LiveIndex", "placeInSegments", "(I)I"⟩, 20), (⟨"LiveIndex", "isQuery", "(I)Z"⟩, 20), (⟨"LiveIndex$Query", "leafWorth", "([II)I"⟩, 3), (⟨"LiveIndex$Query", "phrasesIn", "([III)I"⟩, 3), (⟨"LiveIndex$Query", "length", "(I)I"⟩, 3), (⟨"LiveIndex$Hits", "insert", "(II)V"⟩, 5), (⟨"LiveIndex$Segment", "notePosting", "(II)V"⟩, 7), (⟨"LiveIndex$Segment", "firstNotBelow", "(I)I"⟩, 7), (⟨"LiveIndex", "isSegment", "(I)Z"⟩, 20), (⟨"LiveIndex", "viewsWith", "(I)I"⟩, 20), (⟨"LiveIndex$Policy", "isFit", "(LLiveIndex$Stand;I)Z"⟩, 2), (⟨"LiveIndex$Policy", "areOfOneTier", "(LLiveIndex$Stand;I)Z"⟩, 2), (⟨"LiveIndex$Policy", "areSmallTogether", "(LLiveIndex$Stand;I)Z"⟩, 2), (⟨"LiveIndex$Policy", "hasDropped", "(LLiveIndex$Stand;I)Z"⟩, 2)]
theorem lw_r1 : ∀ q ∈ lw_privs_1, lw_okq q := List.forall_mem_cons.mpr ⟨lw_p0, List.forall_mem_cons.mpr ⟨lw_p1, List.forall_mem_cons.mpr ⟨lw_p2, List.forall_mem_cons.mpr ⟨lw_p3, List.forall_mem_cons.mpr ⟨lw_p4, List.forall_mem_cons.mpr ⟨lw_p5, List.forall_mem_cons.mpr ⟨lw_p6, List.forall_mem_cons.mpr ⟨lw_p7, List.forall_mem_cons.mpr ⟨lw_p8, List.forall_mem_cons.mpr ⟨lw_p9, List.forall_mem_cons.mpr ⟨lw_p10, List.forall_mem_cons.mpr ⟨lw_p11, List.forall_mem_cons.mpr ⟨lw_p12, List.forall_mem_cons.mpr ⟨lw_p13, List.forall_mem_cons.mpr ⟨lw_p14, List.forall_mem_cons.mpr ⟨lw_p15, fun _ h => absurd h List.not_mem_nil⟩⟩⟩⟩⟩⟩⟩⟩⟩⟩⟩⟩⟩⟩⟩⟩
theorem lw_p16 : lw_okq (⟨"LiveIndex", "leastSplit", "(II)I"⟩, 20) := ⟨⟨by decide +kernel, by decide +kernel⟩, List.mem_of_getElem? (i := 22) (by decide +kernel), List.mem_of_getElem? (i := 624) (by decide +kernel), List.mem_of_getElem? (i := 625) (by decide +kernel)⟩
theorem lw_p17 : lw_okq (⟨"LiveIndex", "splitCost", "(III)I"⟩, 20) := ⟨⟨by decide +kernel, by decide +kernel⟩, List.mem_of_getElem? (i := 22) (by decide +kernel), List.mem_of_getElem? (i := 628) (by decide +kernel), List.mem_of_getElem? (i := 629) (by decide +kernel)⟩
theorem lw_p18 : lw_okq (⟨"LiveIndex$QueryReader", "next", "()V"⟩, 8) := ⟨⟨by decide +kernel, by decide +kernel⟩, List.mem_of_getElem? (i := 129) (by decide +kernel), List.mem_of_getElem? (i := 656) (by decide +kernel), List.mem_of_getElem? (i := 657) (by decide +kernel)⟩
theorem lw_p19 : lw_okq (⟨"LiveIndex$QueryReader", "readEither", "()V"⟩, 8) := ⟨⟨by decide +kernel, by decide +kernel⟩, List.mem_of_getElem? (i := 129) (by decide +kernel), List.mem_of_getElem? (i := 666) (by decide +kernel), List.mem_of_getElem? (i := 667) (by decide +kernel)⟩
theorem lw_p20 : lw_okq (⟨"LiveIndex$QueryReader", "readBoth", "()V"⟩, 8) := ⟨⟨by decide +kernel, by decide +kernel⟩, List.mem_of_getElem? (i := 129) (by decide +kernel), List.mem_of_getElem? (i := 670) (by decide +kernel), List.mem_of_getElem? (i := 671) (by decide +kernel)⟩
theorem lw_p21 : lw_okq (⟨"LiveIndex$QueryReader", "readOne", "()V"⟩, 8) := ⟨⟨by decide +kernel, by decide +kernel⟩, List.mem_of_getElem? (i := 129) (by decide +kernel), List.mem_of_getElem? (i := 674) (by decide +kernel), List.mem_of_getElem? (i := 675) (by decide +kernel)⟩
theorem lw_p22 : lw_okq (⟨"LiveIndex$QueryReader", "readNot", "()V"⟩, 8) := ⟨⟨by decide +kernel, by decide +kernel⟩, List.mem_of_getElem? (i := 129) (by decide +kernel), List.mem_of_getElem? (i := 678) (by decide +kernel), List.mem_of_getElem? (i := 679) (by decide +kernel)⟩
theorem lw_p23 : lw_okq (⟨"LiveIndex$QueryReader", "refuse", "()V"⟩, 8) := ⟨⟨by decide +kernel, by decide +kernel⟩, List.mem_of_getElem? (i := 129) (by decide +kernel), List.mem_of_getElem? (i := 682) (by decide +kernel), List.mem_of_getElem? (i := 683) (by decide +kernel)⟩
theorem lw_p24 : lw_okq (⟨"LiveIndex$QueryReader", "readBrackets", "()V"⟩, 8) := ⟨⟨by decide +kernel, by decide +kernel⟩, List.mem_of_getElem? (i := 129) (by decide +kernel), List.mem_of_getElem? (i := 690) (by decide +kernel), List.mem_of_getElem? (i := 691) (by decide +kernel)⟩
theorem lw_p25 : lw_okq (⟨"LiveIndex$QueryReader", "readWord", "()V"⟩, 8) := ⟨⟨by decide +kernel, by decide +kernel⟩, List.mem_of_getElem? (i := 129) (by decide +kernel), List.mem_of_getElem? (i := 694) (by decide +kernel), List.mem_of_getElem? (i := 695) (by decide +kernel)⟩
theorem lw_p26 : lw_okq (⟨"LiveIndex$QueryReader", "readPhrase", "()V"⟩, 8) := ⟨⟨by decide +kernel, by decide +kernel⟩, List.mem_of_getElem? (i := 129) (by decide +kernel), List.mem_of_getElem? (i := 705) (by decide +kernel), List.mem_of_getElem? (i := 706) (by decide +kernel)⟩
theorem lw_p27 : lw_okq (⟨"LiveIndex", "heldSegments", "()I"⟩, 20) := ⟨⟨by decide +kernel, by decide +kernel⟩, List.mem_of_getElem? (i := 22) (by decide +kernel), List.mem_of_getElem? (i := 720) (by decide +kernel), List.mem_of_getElem? (i := 721) (by decide +kernel)⟩
theorem lw_p28 : lw_okq (⟨"LiveIndex", "isHeldBefore", "(II)Z"⟩, 20) := ⟨⟨by decide +kernel, by decide +kernel⟩, List.mem_of_getElem? (i := 22) (by decide +kernel), List.mem_of_getElem? (i := 724) (by decide +kernel), List.mem_of_getElem? (i := 725) (by decide +kernel)⟩
theorem lw_p29 : lw_okq (⟨"LiveIndex", "answer", "(LLiveIndex$Query;LLiveIndex$Stand;I)I"⟩, 20) := ⟨⟨by decide +kernel, by decide +kernel⟩, List.mem_of_getElem? (i := 22) (by decide +kernel), List.mem_of_getElem? (i := 735) (by decide +kernel), List.mem_of_getElem? (i := 736) (by decide +kernel)⟩
theorem lw_p30 : lw_okq (⟨"LiveIndex$Query", "leafCost", "(LLiveIndex$Segment;I)I"⟩, 3) := ⟨⟨by decide +kernel, by decide +kernel⟩, List.mem_of_getElem? (i := 205) (by decide +kernel), List.mem_of_getElem? (i := 743) (by decide +kernel), List.mem_of_getElem? (i := 744) (by decide +kernel)⟩
theorem lw_p31 : lw_okq (⟨"LiveIndex$Query", "wordCosts", "(LLiveIndex$Segment;II)I"⟩, 3) := ⟨⟨by decide +kernel, by decide +kernel⟩, List.mem_of_getElem? (i := 205) (by decide +kernel), List.mem_of_getElem? (i := 751) (by decide +kernel), List.mem_of_getElem? (i := 752) (by decide +kernel)⟩
def lw_privs_2 : List (MethodName × Nat) := [(⟨"LiveIndex", "leastSplit", "(II)I"⟩, 20), (⟨"LiveIndex", "splitCost", "(III)I"⟩, 20), (⟨"LiveIndex$QueryReader", "next", "()V"⟩, 8), (⟨"LiveIndex$QueryReader", "readEither", "()V"⟩, 8), (⟨"LiveIndex$QueryReader", "readBoth", "()V"⟩, 8), (⟨"LiveIndex$QueryReader", "readOne", "()V"⟩, 8), (⟨"LiveIndex$QueryReader", "readNot", "()V"⟩, 8), (⟨"LiveIndex$QueryReader", "refuse", "()V"⟩, 8), (⟨"LiveIndex$QueryReader", "readBrackets", "()V"⟩, 8), (⟨"LiveIndex$QueryReader", "readWord", "()V"⟩, 8), (⟨"LiveIndex$QueryReader", "readPhrase", "()V"⟩, 8), (⟨"LiveIndex", "heldSegments", "()I"⟩, 20), (⟨"LiveIndex", "isHeldBefore", "(II)Z"⟩, 20), (⟨"LiveIndex", "answer", "(LLiveIndex$Query;LLiveIndex$Stand;I)I"⟩, 20), (⟨"LiveIndex$Query", "leafCost", "(LLiveIndex$Segment;I)I"⟩, 3), (⟨"LiveIndex$Query", "wordCosts", "(LLiveIndex$Segment;II)I"⟩, 3)]
theorem lw_r2 : ∀ q ∈ lw_privs_2, lw_okq q := List.forall_mem_cons.mpr ⟨lw_p16, List.forall_mem_cons.mpr ⟨lw_p17, List.forall_mem_cons.mpr ⟨lw_p18, List.forall_mem_cons.mpr ⟨lw_p19, List.forall_mem_cons.mpr ⟨lw_p20, List.forall_mem_cons.mpr ⟨lw_p21, List.forall_mem_cons.mpr ⟨lw_p22, List.forall_mem_cons.mpr ⟨lw_p23, List.forall_mem_cons.mpr ⟨lw_p24, List.forall_mem_cons.mpr ⟨lw_p25, List.forall_mem_cons.mpr ⟨lw_p26, List.forall_mem_cons.mpr ⟨lw_p27, List.forall_mem_cons.mpr ⟨lw_p28, List.forall_mem_cons.mpr ⟨lw_p29, List.forall_mem_cons.mpr ⟨lw_p30, List.forall_mem_cons.mpr ⟨lw_p31, fun _ h => absurd h List.not_mem_nil⟩⟩⟩⟩⟩⟩⟩⟩⟩⟩⟩⟩⟩⟩⟩⟩
theorem lw_p32 : lw_okq (⟨"LiveIndex", "isDear", "(I)Z"⟩, 20) := ⟨⟨by decide +kernel, by decide +kernel⟩, List.mem_of_getElem? (i := 22) (by decide +kernel), List.mem_of_getElem? (i := 767) (by decide +kernel), List.mem_of_getElem? (i := 768) (by decide +kernel)⟩
theorem lw_p33 : lw_okq (⟨"LiveIndex", "foundByOther", "(II)I"⟩, 20) := ⟨⟨by decide +kernel, by decide +kernel⟩, List.mem_of_getElem? (i := 22) (by decide +kernel), List.mem_of_getElem? (i := 780) (by decide +kernel), List.mem_of_getElem? (i := 781) (by decide +kernel)⟩
theorem lw_p34 : lw_okq (⟨"LiveIndex", "firstOtherwise", "(III)I"⟩, 20) := ⟨⟨by decide +kernel, by decide +kernel⟩, List.mem_of_getElem? (i := 22) (by decide +kernel), List.mem_of_getElem? (i := 804) (by decide +kernel), List.mem_of_getElem? (i := 805) (by decide +kernel)⟩
theorem lw_p35 : lw_okq (⟨"LiveIndex", "queriesToldBy", "(II)I"⟩, 20) := ⟨⟨by decide +kernel, by decide +kernel⟩, List.mem_of_getElem? (i := 22) (by decide +kernel), List.mem_of_getElem? (i := 813) (by decide +kernel), List.mem_of_getElem? (i := 814) (by decide +kernel)⟩
theorem lw_p36 : lw_okq (⟨"LiveIndex", "viewsToldBy", "(II)I"⟩, 20) := ⟨⟨by decide +kernel, by decide +kernel⟩, List.mem_of_getElem? (i := 22) (by decide +kernel), List.mem_of_getElem? (i := 817) (by decide +kernel), List.mem_of_getElem? (i := 818) (by decide +kernel)⟩
theorem lw_p37 : lw_okq (⟨"LiveIndex", "openViews", "()I"⟩, 20) := ⟨⟨by decide +kernel, by decide +kernel⟩, List.mem_of_getElem? (i := 22) (by decide +kernel), List.mem_of_getElem? (i := 842) (by decide +kernel), List.mem_of_getElem? (i := 843) (by decide +kernel)⟩
theorem lw_p38 : lw_okq (⟨"LiveIndexModel", "bufferPlace", "(I)I"⟩, 54) := ⟨⟨by decide +kernel, by decide +kernel⟩, List.mem_of_getElem? (i := 864) (by decide +kernel), List.mem_of_getElem? (i := 1055) (by decide +kernel), List.mem_of_getElem? (i := 1056) (by decide +kernel)⟩
theorem lw_p39 : lw_okq (⟨"LiveIndexModel", "segmentPlace", "(I)I"⟩, 54) := ⟨⟨by decide +kernel, by decide +kernel⟩, List.mem_of_getElem? (i := 864) (by decide +kernel), List.mem_of_getElem? (i := 1059) (by decide +kernel), List.mem_of_getElem? (i := 1060) (by decide +kernel)⟩
theorem lw_p40 : lw_okq (⟨"LiveIndexModel", "document", "()I"⟩, 54) := ⟨⟨by decide +kernel, by decide +kernel⟩, List.mem_of_getElem? (i := 864) (by decide +kernel), List.mem_of_getElem? (i := 1067) (by decide +kernel), List.mem_of_getElem? (i := 1068) (by decide +kernel)⟩
theorem lw_p41 : lw_okq (⟨"LiveIndexModel", "byteAt", "(I)I"⟩, 54) := ⟨⟨by decide +kernel, by decide +kernel⟩, List.mem_of_getElem? (i := 864) (by decide +kernel), List.mem_of_getElem? (i := 1074) (by decide +kernel), List.mem_of_getElem? (i := 1075) (by decide +kernel)⟩
theorem lw_p42 : lw_okq (⟨"LiveIndexModel", "wordFrom", "(II)I"⟩, 54) := ⟨⟨by decide +kernel, by decide +kernel⟩, List.mem_of_getElem? (i := 864) (by decide +kernel), List.mem_of_getElem? (i := 1081) (by decide +kernel), List.mem_of_getElem? (i := 1082) (by decide +kernel)⟩
theorem lw_p43 : lw_okq (⟨"LiveIndexModel", "held", "()I"⟩, 54) := ⟨⟨by decide +kernel, by decide +kernel⟩, List.mem_of_getElem? (i := 864) (by decide +kernel), List.mem_of_getElem? (i := 1095) (by decide +kernel), List.mem_of_getElem? (i := 1096) (by decide +kernel)⟩
theorem lw_p44 : lw_okq (⟨"LiveIndexModel", "newSegment", "()I"⟩, 54) := ⟨⟨by decide +kernel, by decide +kernel⟩, List.mem_of_getElem? (i := 864) (by decide +kernel), List.mem_of_getElem? (i := 1099) (by decide +kernel), List.mem_of_getElem? (i := 1100) (by decide +kernel)⟩
theorem lw_p45 : lw_okq (⟨"LiveIndexModel", "joins", "(II)V"⟩, 54) := ⟨⟨by decide +kernel, by decide +kernel⟩, List.mem_of_getElem? (i := 864) (by decide +kernel), List.mem_of_getElem? (i := 1103) (by decide +kernel), List.mem_of_getElem? (i := 1104) (by decide +kernel)⟩
theorem lw_p46 : lw_okq (⟨"LiveIndexModel", "isSegment", "(I)Z"⟩, 54) := ⟨⟨by decide +kernel, by decide +kernel⟩, List.mem_of_getElem? (i := 864) (by decide +kernel), List.mem_of_getElem? (i := 1111) (by decide +kernel), List.mem_of_getElem? (i := 1112) (by decide +kernel)⟩
theorem lw_p47 : lw_okq (⟨"LiveIndexModel", "wordAbove", "(II)I"⟩, 54) := ⟨⟨by decide +kernel, by decide +kernel⟩, List.mem_of_getElem? (i := 864) (by decide +kernel), List.mem_of_getElem? (i := 1115) (by decide +kernel), List.mem_of_getElem? (i := 1116) (by decide +kernel)⟩
def lw_privs_3 : List (MethodName × Nat) := [(⟨"LiveIndex", "isDear", "(I)Z"⟩, 20), (⟨"LiveIndex", "foundByOther", "(II)I"⟩, 20), (⟨"LiveIndex", "firstOtherwise", "(III)I"⟩, 20), (⟨"LiveIndex", "queriesToldBy", "(II)I"⟩, 20), (⟨"LiveIndex", "viewsToldBy", "(II)I"⟩, 20), (⟨"LiveIndex", "openViews", "()I"⟩, 20), (⟨"LiveIndexModel", "bufferPlace", "(I)I"⟩, 54), (⟨"LiveIndexModel", "segmentPlace", "(I)I"⟩, 54), (⟨"LiveIndexModel", "document", "()I"⟩, 54), (⟨"LiveIndexModel", "byteAt", "(I)I"⟩, 54), (⟨"LiveIndexModel", "wordFrom", "(II)I"⟩, 54), (⟨"LiveIndexModel", "held", "()I"⟩, 54), (⟨"LiveIndexModel", "newSegment", "()I"⟩, 54), (⟨"LiveIndexModel", "joins", "(II)V"⟩, 54), (⟨"LiveIndexModel", "isSegment", "(I)Z"⟩, 54), (⟨"LiveIndexModel", "wordAbove", "(II)I"⟩, 54)]
theorem lw_r3 : ∀ q ∈ lw_privs_3, lw_okq q := List.forall_mem_cons.mpr ⟨lw_p32, List.forall_mem_cons.mpr ⟨lw_p33, List.forall_mem_cons.mpr ⟨lw_p34, List.forall_mem_cons.mpr ⟨lw_p35, List.forall_mem_cons.mpr ⟨lw_p36, List.forall_mem_cons.mpr ⟨lw_p37, List.forall_mem_cons.mpr ⟨lw_p38, List.forall_mem_cons.mpr ⟨lw_p39, List.forall_mem_cons.mpr ⟨lw_p40, List.forall_mem_cons.mpr ⟨lw_p41, List.forall_mem_cons.mpr ⟨lw_p42, List.forall_mem_cons.mpr ⟨lw_p43, List.forall_mem_cons.mpr ⟨lw_p44, List.forall_mem_cons.mpr ⟨lw_p45, List.forall_mem_cons.mpr ⟨lw_p46, List.forall_mem_cons.mpr ⟨lw_p47, fun _ h => absurd h List.not_mem_nil⟩⟩⟩⟩⟩⟩⟩⟩⟩⟩⟩⟩⟩⟩⟩⟩
theorem lw_p48 : lw_okq (⟨"LiveIndexModel", "postings", "(II)I"⟩, 54) := ⟨⟨by decide +kernel, by decide +kernel⟩, List.mem_of_getElem? (i := 864) (by decide +kernel), List.mem_of_getElem? (i := 1122) (by decide +kernel), List.mem_of_getElem? (i := 1123) (by decide +kernel)⟩
theorem lw_p49 : lw_okq (⟨"LiveIndexModel", "hasWord", "(II)Z"⟩, 54) := ⟨⟨by decide +kernel, by decide +kernel⟩, List.mem_of_getElem? (i := 864) (by decide +kernel), List.mem_of_getElem? (i := 1126) (by decide +kernel), List.mem_of_getElem? (i := 1127) (by decide +kernel)⟩
theorem lw_p50 : lw_okq (⟨"LiveIndexModel", "chosen", "()I"⟩, 54) := ⟨⟨by decide +kernel, by decide +kernel⟩, List.mem_of_getElem? (i := 864) (by decide +kernel), List.mem_of_getElem? (i := 1142) (by decide +kernel), List.mem_of_getElem? (i := 1143) (by decide +kernel)⟩
theorem lw_p51 : lw_okq (⟨"LiveIndexModel", "width", "()I"⟩, 54) := ⟨⟨by decide +kernel, by decide +kernel⟩, List.mem_of_getElem? (i := 864) (by decide +kernel), List.mem_of_getElem? (i := 1146) (by decide +kernel), List.mem_of_getElem? (i := 1147) (by decide +kernel)⟩
theorem lw_p52 : lw_okq (⟨"LiveIndexModel", "fits", "(II)Z"⟩, 54) := ⟨⟨by decide +kernel, by decide +kernel⟩, List.mem_of_getElem? (i := 864) (by decide +kernel), List.mem_of_getElem? (i := 1150) (by decide +kernel), List.mem_of_getElem? (i := 1151) (by decide +kernel)⟩
theorem lw_p53 : lw_okq (⟨"LiveIndexModel", "tier", "(I)I"⟩, 54) := ⟨⟨by decide +kernel, by decide +kernel⟩, List.mem_of_getElem? (i := 864) (by decide +kernel), List.mem_of_getElem? (i := 1154) (by decide +kernel), List.mem_of_getElem? (i := 1155) (by decide +kernel)⟩
theorem lw_p54 : lw_okq (⟨"LiveIndexModel", "size", "(I)I"⟩, 54) := ⟨⟨by decide +kernel, by decide +kernel⟩, List.mem_of_getElem? (i := 864) (by decide +kernel), List.mem_of_getElem? (i := 1158) (by decide +kernel), List.mem_of_getElem? (i := 1159) (by decide +kernel)⟩
theorem lw_p55 : lw_okq (⟨"LiveIndexModel", "liveOf", "(I)I"⟩, 54) := ⟨⟨by decide +kernel, by decide +kernel⟩, List.mem_of_getElem? (i := 864) (by decide +kernel), List.mem_of_getElem? (i := 1162) (by decide +kernel), List.mem_of_getElem? (i := 1163) (by decide +kernel)⟩
theorem lw_p56 : lw_okq (⟨"LiveIndexModel", "liveIn", "(II)I"⟩, 54) := ⟨⟨by decide +kernel, by decide +kernel⟩, List.mem_of_getElem? (i := 864) (by decide +kernel), List.mem_of_getElem? (i := 1167) (by decide +kernel), List.mem_of_getElem? (i := 1168) (by decide +kernel)⟩
theorem lw_p57 : lw_okq (⟨"LiveIndexModel", "costOf", "(III)I"⟩, 54) := ⟨⟨by decide +kernel, by decide +kernel⟩, List.mem_of_getElem? (i := 864) (by decide +kernel), List.mem_of_getElem? (i := 1187) (by decide +kernel), List.mem_of_getElem? (i := 1188) (by decide +kernel)⟩
theorem lw_p58 : lw_okq (⟨"LiveIndexModel", "lay", "(I)V"⟩, 54) := ⟨⟨by decide +kernel, by decide +kernel⟩, List.mem_of_getElem? (i := 864) (by decide +kernel), List.mem_of_getElem? (i := 1195) (by decide +kernel), List.mem_of_getElem? (i := 1196) (by decide +kernel)⟩
theorem lw_p59 : lw_okq (⟨"LiveIndexModel", "handOn", "(II)V"⟩, 54) := ⟨⟨by decide +kernel, by decide +kernel⟩, List.mem_of_getElem? (i := 864) (by decide +kernel), List.mem_of_getElem? (i := 1203) (by decide +kernel), List.mem_of_getElem? (i := 1204) (by decide +kernel)⟩
theorem lw_p60 : lw_okq (⟨"LiveIndexModel", "dictionary", "(IZ)I"⟩, 54) := ⟨⟨by decide +kernel, by decide +kernel⟩, List.mem_of_getElem? (i := 864) (by decide +kernel), List.mem_of_getElem? (i := 1215) (by decide +kernel), List.mem_of_getElem? (i := 1216) (by decide +kernel)⟩
theorem lw_p61 : lw_okq (⟨"LiveIndexModel", "openViews", "(I)I"⟩, 54) := ⟨⟨by decide +kernel, by decide +kernel⟩, List.mem_of_getElem? (i := 864) (by decide +kernel), List.mem_of_getElem? (i := 1219) (by decide +kernel), List.mem_of_getElem? (i := 1220) (by decide +kernel)⟩
theorem lw_p62 : lw_okq (⟨"LiveIndexModel", "stands", "(II)Z"⟩, 54) := ⟨⟨by decide +kernel, by decide +kernel⟩, List.mem_of_getElem? (i := 864) (by decide +kernel), List.mem_of_getElem? (i := 1223) (by decide +kernel), List.mem_of_getElem? (i := 1224) (by decide +kernel)⟩
theorem lw_p63 : lw_okq (⟨"LiveIndexModel", "heldSegments", "()I"⟩, 54) := ⟨⟨by decide +kernel, by decide +kernel⟩, List.mem_of_getElem? (i := 864) (by decide +kernel), List.mem_of_getElem? (i := 1242) (by decide +kernel), List.mem_of_getElem? (i := 1243) (by decide +kernel)⟩
def lw_privs_4 : List (MethodName × Nat) := [(⟨"LiveIndexModel", "postings", "(II)I"⟩, 54), (⟨"LiveIndexModel", "hasWord", "(II)Z"⟩, 54), (⟨"LiveIndexModel", "chosen", "()I"⟩, 54), (⟨"LiveIndexModel", "width", "()I"⟩, 54), (⟨"LiveIndexModel", "fits", "(II)Z"⟩, 54), (⟨"LiveIndexModel", "tier", "(I)I"⟩, 54), (⟨"LiveIndexModel", "size", "(I)I"⟩, 54), (⟨"LiveIndexModel", "liveOf", "(I)I"⟩, 54), (⟨"LiveIndexModel", "liveIn", "(II)I"⟩, 54), (⟨"LiveIndexModel", "costOf", "(III)I"⟩, 54), (⟨"LiveIndexModel", "lay", "(I)V"⟩, 54), (⟨"LiveIndexModel", "handOn", "(II)V"⟩, 54), (⟨"LiveIndexModel", "dictionary", "(IZ)I"⟩, 54), (⟨"LiveIndexModel", "openViews", "(I)I"⟩, 54), (⟨"LiveIndexModel", "stands", "(II)Z"⟩, 54), (⟨"LiveIndexModel", "heldSegments", "()I"⟩, 54)]
theorem lw_r4 : ∀ q ∈ lw_privs_4, lw_okq q := List.forall_mem_cons.mpr ⟨lw_p48, List.forall_mem_cons.mpr ⟨lw_p49, List.forall_mem_cons.mpr ⟨lw_p50, List.forall_mem_cons.mpr ⟨lw_p51, List.forall_mem_cons.mpr ⟨lw_p52, List.forall_mem_cons.mpr ⟨lw_p53, List.forall_mem_cons.mpr ⟨lw_p54, List.forall_mem_cons.mpr ⟨lw_p55, List.forall_mem_cons.mpr ⟨lw_p56, List.forall_mem_cons.mpr ⟨lw_p57, List.forall_mem_cons.mpr ⟨lw_p58, List.forall_mem_cons.mpr ⟨lw_p59, List.forall_mem_cons.mpr ⟨lw_p60, List.forall_mem_cons.mpr ⟨lw_p61, List.forall_mem_cons.mpr ⟨lw_p62, List.forall_mem_cons.mpr ⟨lw_p63, fun _ h => absurd h List.not_mem_nil⟩⟩⟩⟩⟩⟩⟩⟩⟩⟩⟩⟩⟩⟩⟩⟩
theorem lw_p64 : lw_okq (⟨"LiveIndexModel", "next", "()V"⟩, 54) := ⟨⟨by decide +kernel, by decide +kernel⟩, List.mem_of_getElem? (i := 864) (by decide +kernel), List.mem_of_getElem? (i := 1250) (by decide +kernel), List.mem_of_getElem? (i := 1251) (by decide +kernel)⟩
theorem lw_p65 : lw_okq (⟨"LiveIndexModel", "keyAt", "(II)I"⟩, 54) := ⟨⟨by decide +kernel, by decide +kernel⟩, List.mem_of_getElem? (i := 864) (by decide +kernel), List.mem_of_getElem? (i := 1254) (by decide +kernel), List.mem_of_getElem? (i := 1255) (by decide +kernel)⟩
theorem lw_p66 : lw_okq (⟨"LiveIndexModel", "either", "()V"⟩, 54) := ⟨⟨by decide +kernel, by decide +kernel⟩, List.mem_of_getElem? (i := 864) (by decide +kernel), List.mem_of_getElem? (i := 1312) (by decide +kernel), List.mem_of_getElem? (i := 1313) (by decide +kernel)⟩
theorem lw_p67 : lw_okq (⟨"LiveIndexModel", "both", "()V"⟩, 54) := ⟨⟨by decide +kernel, by decide +kernel⟩, List.mem_of_getElem? (i := 864) (by decide +kernel), List.mem_of_getElem? (i := 1316) (by decide +kernel), List.mem_of_getElem? (i := 1317) (by decide +kernel)⟩
theorem lw_p68 : lw_okq (⟨"LiveIndexModel", "one", "()V"⟩, 54) := ⟨⟨by decide +kernel, by decide +kernel⟩, List.mem_of_getElem? (i := 864) (by decide +kernel), List.mem_of_getElem? (i := 1320) (by decide +kernel), List.mem_of_getElem? (i := 1321) (by decide +kernel)⟩
theorem lw_p69 : lw_okq (⟨"LiveIndexModel", "is", "(II)Z"⟩, 54) := ⟨⟨by decide +kernel, by decide +kernel⟩, List.mem_of_getElem? (i := 864) (by decide +kernel), List.mem_of_getElem? (i := 1324) (by decide +kernel), List.mem_of_getElem? (i := 1325) (by decide +kernel)⟩
theorem lw_p70 : lw_okq (⟨"LiveIndexModel", "opens", "()V"⟩, 54) := ⟨⟨by decide +kernel, by decide +kernel⟩, List.mem_of_getElem? (i := 864) (by decide +kernel), List.mem_of_getElem? (i := 1328) (by decide +kernel), List.mem_of_getElem? (i := 1329) (by decide +kernel)⟩
theorem lw_p71 : lw_okq (⟨"LiveIndexModel", "mark", "(I)V"⟩, 54) := ⟨⟨by decide +kernel, by decide +kernel⟩, List.mem_of_getElem? (i := 864) (by decide +kernel), List.mem_of_getElem? (i := 1332) (by decide +kernel), List.mem_of_getElem? (i := 1333) (by decide +kernel)⟩
theorem lw_p72 : lw_okq (⟨"LiveIndexModel", "phrase", "()V"⟩, 54) := ⟨⟨by decide +kernel, by decide +kernel⟩, List.mem_of_getElem? (i := 864) (by decide +kernel), List.mem_of_getElem? (i := 1336) (by decide +kernel), List.mem_of_getElem? (i := 1337) (by decide +kernel)⟩
theorem lw_p73 : lw_okq (⟨"LiveIndexModel", "plain", "()V"⟩, 54) := ⟨⟨by decide +kernel, by decide +kernel⟩, List.mem_of_getElem? (i := 864) (by decide +kernel), List.mem_of_getElem? (i := 1340) (by decide +kernel), List.mem_of_getElem? (i := 1341) (by decide +kernel)⟩
theorem lw_p74 : lw_okq (⟨"LiveIndexModel", "isQuery", "(I)Z"⟩, 54) := ⟨⟨by decide +kernel, by decide +kernel⟩, List.mem_of_getElem? (i := 864) (by decide +kernel), List.mem_of_getElem? (i := 1349) (by decide +kernel), List.mem_of_getElem? (i := 1350) (by decide +kernel)⟩
theorem lw_p75 : lw_okq (⟨"LiveIndexModel", "answer", "(III)I"⟩, 54) := ⟨⟨by decide +kernel, by decide +kernel⟩, List.mem_of_getElem? (i := 864) (by decide +kernel), List.mem_of_getElem? (i := 1356) (by decide +kernel), List.mem_of_getElem? (i := 1357) (by decide +kernel)⟩
theorem lw_p76 : lw_okq (⟨"LiveIndexModel", "cost", "(II)I"⟩, 54) := ⟨⟨by decide +kernel, by decide +kernel⟩, List.mem_of_getElem? (i := 864) (by decide +kernel), List.mem_of_getElem? (i := 1360) (by decide +kernel), List.mem_of_getElem? (i := 1361) (by decide +kernel)⟩
theorem lw_p77 : lw_okq (⟨"LiveIndexModel", "costOfWord", "(III)I"⟩, 54) := ⟨⟨by decide +kernel, by decide +kernel⟩, List.mem_of_getElem? (i := 864) (by decide +kernel), List.mem_of_getElem? (i := 1364) (by decide +kernel), List.mem_of_getElem? (i := 1365) (by decide +kernel)⟩
theorem lw_p78 : lw_okq (⟨"LiveIndexModel", "postingsBegun", "(III)I"⟩, 54) := ⟨⟨by decide +kernel, by decide +kernel⟩, List.mem_of_getElem? (i := 864) (by decide +kernel), List.mem_of_getElem? (i := 1368) (by decide +kernel), List.mem_of_getElem? (i := 1369) (by decide +kernel)⟩
theorem lw_p79 : lw_okq (⟨"LiveIndexModel", "find", "(II)V"⟩, 54) := ⟨⟨by decide +kernel, by decide +kernel⟩, List.mem_of_getElem? (i := 864) (by decide +kernel), List.mem_of_getElem? (i := 1378) (by decide +kernel), List.mem_of_getElem? (i := 1379) (by decide +kernel)⟩
def lw_privs_5 : List (MethodName × Nat) := [(⟨"LiveIndexModel", "next", "()V"⟩, 54), (⟨"LiveIndexModel", "keyAt", "(II)I"⟩, 54), (⟨"LiveIndexModel", "either", "()V"⟩, 54), (⟨"LiveIndexModel", "both", "()V"⟩, 54), (⟨"LiveIndexModel", "one", "()V"⟩, 54), (⟨"LiveIndexModel", "is", "(II)Z"⟩, 54), (⟨"LiveIndexModel", "opens", "()V"⟩, 54), (⟨"LiveIndexModel", "mark", "(I)V"⟩, 54), (⟨"LiveIndexModel", "phrase", "()V"⟩, 54), (⟨"LiveIndexModel", "plain", "()V"⟩, 54), (⟨"LiveIndexModel", "isQuery", "(I)Z"⟩, 54), (⟨"LiveIndexModel", "answer", "(III)I"⟩, 54), (⟨"LiveIndexModel", "cost", "(II)I"⟩, 54), (⟨"LiveIndexModel", "costOfWord", "(III)I"⟩, 54), (⟨"LiveIndexModel", "postingsBegun", "(III)I"⟩, 54), (⟨"LiveIndexModel", "find", "(II)V"⟩, 54)]
theorem lw_r5 : ∀ q ∈ lw_privs_5, lw_okq q := List.forall_mem_cons.mpr ⟨lw_p64, List.forall_mem_cons.mpr ⟨lw_p65, List.forall_mem_cons.mpr ⟨lw_p66, List.forall_mem_cons.mpr ⟨lw_p67, List.forall_mem_cons.mpr ⟨lw_p68, List.forall_mem_cons.mpr ⟨lw_p69, List.forall_mem_cons.mpr ⟨lw_p70, List.forall_mem_cons.mpr ⟨lw_p71, List.forall_mem_cons.mpr ⟨lw_p72, List.forall_mem_cons.mpr ⟨lw_p73, List.forall_mem_cons.mpr ⟨lw_p74, List.forall_mem_cons.mpr ⟨lw_p75, List.forall_mem_cons.mpr ⟨lw_p76, List.forall_mem_cons.mpr ⟨lw_p77, List.forall_mem_cons.mpr ⟨lw_p78, List.forall_mem_cons.mpr ⟨lw_p79, fun _ h => absurd h List.not_mem_nil⟩⟩⟩⟩⟩⟩⟩⟩⟩⟩⟩⟩⟩⟩⟩⟩
theorem lw_p80 : lw_okq (⟨"LiveIndexModel", "worth", "(II)I"⟩, 54) := ⟨⟨by decide +kernel, by decide +kernel⟩, List.mem_of_getElem? (i := 864) (by decide +kernel), List.mem_of_getElem? (i := 1382) (by decide +kernel), List.mem_of_getElem? (i := 1383) (by decide +kernel)⟩
theorem lw_p81 : lw_okq (⟨"LiveIndexModel", "timesBegun", "(III)I"⟩, 54) := ⟨⟨by decide +kernel, by decide +kernel⟩, List.mem_of_getElem? (i := 864) (by decide +kernel), List.mem_of_getElem? (i := 1386) (by decide +kernel), List.mem_of_getElem? (i := 1387) (by decide +kernel)⟩
theorem lw_p82 : lw_okq (⟨"LiveIndexModel", "near", "(III)I"⟩, 54) := ⟨⟨by decide +kernel, by decide +kernel⟩, List.mem_of_getElem? (i := 864) (by decide +kernel), List.mem_of_getElem? (i := 1390) (by decide +kernel), List.mem_of_getElem? (i := 1391) (by decide +kernel)⟩
theorem lw_p83 : lw_okq (⟨"LiveIndexModel", "phraseTimes", "(I[III)I"⟩, 54) := ⟨⟨by decide +kernel, by decide +kernel⟩, List.mem_of_getElem? (i := 864) (by decide +kernel), List.mem_of_getElem? (i := 1397) (by decide +kernel), List.mem_of_getElem? (i := 1398) (by decide +kernel)⟩
theorem lw_p84 : lw_okq (⟨"LiveIndexModel", "comes", "(II)V"⟩, 54) := ⟨⟨by decide +kernel, by decide +kernel⟩, List.mem_of_getElem? (i := 864) (by decide +kernel), List.mem_of_getElem? (i := 1402) (by decide +kernel), List.mem_of_getElem? (i := 1403) (by decide +kernel)⟩
theorem lw_p85 : lw_okq (⟨"LiveIndexModel", "shutLook", "(I)V"⟩, 54) := ⟨⟨by decide +kernel, by decide +kernel⟩, List.mem_of_getElem? (i := 864) (by decide +kernel), List.mem_of_getElem? (i := 1414) (by decide +kernel), List.mem_of_getElem? (i := 1415) (by decide +kernel)⟩
theorem lw_p86 : lw_okq (⟨"LiveIndexModel", "wasFound", "(I[II)Z"⟩, 54) := ⟨⟨by decide +kernel, by decide +kernel⟩, List.mem_of_getElem? (i := 864) (by decide +kernel), List.mem_of_getElem? (i := 1422) (by decide +kernel), List.mem_of_getElem? (i := 1423) (by decide +kernel)⟩
theorem lw_p87 : lw_okq (⟨"LiveIndexModel", "otherwise", "(III)I"⟩, 54) := ⟨⟨by decide +kernel, by decide +kernel⟩, List.mem_of_getElem? (i := 864) (by decide +kernel), List.mem_of_getElem? (i := 1437) (by decide +kernel), List.mem_of_getElem? (i := 1438) (by decide +kernel)⟩
theorem lw_p88 : lw_okq (⟨"LiveIndexModel", "liveMany", "()I"⟩, 54) := ⟨⟨by decide +kernel, by decide +kernel⟩, List.mem_of_getElem? (i := 864) (by decide +kernel), List.mem_of_getElem? (i := 1449) (by decide +kernel), List.mem_of_getElem? (i := 1450) (by decide +kernel)⟩
theorem lw_p89 : lw_okq (⟨"LiveIndexModel", "viewsOpen", "()I"⟩, 54) := ⟨⟨by decide +kernel, by decide +kernel⟩, List.mem_of_getElem? (i := 864) (by decide +kernel), List.mem_of_getElem? (i := 1453) (by decide +kernel), List.mem_of_getElem? (i := 1454) (by decide +kernel)⟩
def lw_privs_6 : List (MethodName × Nat) := [(⟨"LiveIndexModel", "worth", "(II)I"⟩, 54), (⟨"LiveIndexModel", "timesBegun", "(III)I"⟩, 54), (⟨"LiveIndexModel", "near", "(III)I"⟩, 54), (⟨"LiveIndexModel", "phraseTimes", "(I[III)I"⟩, 54), (⟨"LiveIndexModel", "comes", "(II)V"⟩, 54), (⟨"LiveIndexModel", "shutLook", "(I)V"⟩, 54), (⟨"LiveIndexModel", "wasFound", "(I[II)Z"⟩, 54), (⟨"LiveIndexModel", "otherwise", "(III)I"⟩, 54), (⟨"LiveIndexModel", "liveMany", "()I"⟩, 54), (⟨"LiveIndexModel", "viewsOpen", "()I"⟩, 54)]
theorem lw_r6 : ∀ q ∈ lw_privs_6, lw_okq q := List.forall_mem_cons.mpr ⟨lw_p80, List.forall_mem_cons.mpr ⟨lw_p81, List.forall_mem_cons.mpr ⟨lw_p82, List.forall_mem_cons.mpr ⟨lw_p83, List.forall_mem_cons.mpr ⟨lw_p84, List.forall_mem_cons.mpr ⟨lw_p85, List.forall_mem_cons.mpr ⟨lw_p86, List.forall_mem_cons.mpr ⟨lw_p87, List.forall_mem_cons.mpr ⟨lw_p88, List.forall_mem_cons.mpr ⟨lw_p89, fun _ h => absurd h List.not_mem_nil⟩⟩⟩⟩⟩⟩⟩⟩⟩⟩
def lw_privs : List (MethodName × Nat) := lw_privs_1 ++ (lw_privs_2 ++ (lw_privs_3 ++ (lw_privs_4 ++ (lw_privs_5 ++ (lw_privs_6)))))
def lw_tbl : List Cond := k2_sels lw_privs ++ tables_1
theorem lw_privs_ok : ∀ q ∈ lw_privs, lw_okq q := by
  show ∀ q ∈ lw_privs_1 ++ (lw_privs_2 ++ (lw_privs_3 ++ (lw_privs_4 ++ (lw_privs_5 ++ (lw_privs_6))))), lw_okq q
  exact List.forall_mem_append.mpr ⟨lw_r1, List.forall_mem_append.mpr ⟨lw_r2, List.forall_mem_append.mpr ⟨lw_r3, List.forall_mem_append.mpr ⟨lw_r4, List.forall_mem_append.mpr ⟨lw_r5, lw_r6⟩⟩⟩⟩⟩
-- ===== end of PART A; then your names; then what follows =====
end
section
/-! ===== BEGIN printed: names, fields, word lists, decode rows ===== -/
def RX0 : String := "LiveIndex$Doc"
def TX0 : u_T := fun k => match k with
  | 0 => ("LiveIndex$Doc", "key", "I", true)
  | _ => ("LiveIndex$Doc", "words", "[I", true)
def tyX0 : Nat → FieldType := fun k => match k with
  | 0 => .int
  | _ => .array .int
abbrev wsX00 : List Cond := u_ws RX0 TX0 2
theorem nmX0 : ∀ a, a < 2 → ∀ b, b < 2 → a ≠ b → (TX0 a).2.1 ≠ (TX0 b).2.1 := by decide +kernel
theorem tyX0_ok : ∀ k, k < 2 → parseFieldDescriptor (TX0 k).2.2.1 = some (tyX0 k) := by decide +kernel
abbrev cX0_init : ByteArray := prog_2_method_1_code
def yX0_init : MethodName := ⟨RX0, "<init>", "(I[I)V"⟩
abbrev cX0_hasBefore : ByteArray := prog_2_method_2_code
def yX0_hasBefore : MethodName := ⟨RX0, "hasBefore", "(I)Z"⟩
def RX1 : String := "LiveIndex$Hits"
def TX1 : u_T := fun k => match k with
  | 0 => ("LiveIndex$Hits", "keys", "[I", true)
  | 1 => ("LiveIndex$Hits", "worths", "[I", true)
  | 2 => ("LiveIndex$Hits", "marks", "[J", true)
  | 3 => ("LiveIndex$Hits", "size", "I", false)
  | _ => ("LiveIndex$Hits", "total", "I", false)
def tyX1 : Nat → FieldType := fun k => match k with
  | 0 => .array .int
  | 1 => .array .int
  | 2 => .array .long
  | 3 => .int
  | _ => .int
abbrev wsX10 : List Cond := u_ws RX1 TX1 5
theorem nmX1 : ∀ a, a < 5 → ∀ b, b < 5 → a ≠ b → (TX1 a).2.1 ≠ (TX1 b).2.1 := by decide +kernel
theorem tyX1_ok : ∀ k, k < 5 → parseFieldDescriptor (TX1 k).2.2.1 = some (tyX1 k) := by decide +kernel
abbrev cX1_init : ByteArray := prog_3_method_1_code
def yX1_init : MethodName := ⟨RX1, "<init>", "()V"⟩
abbrev cX1_search : ByteArray := prog_3_method_2_code
def yX1_search : MethodName := ⟨RX1, "search", "(LLiveIndex$Query;LLiveIndex$Stand;)V"⟩
abbrev cX1_insert : ByteArray := prog_3_method_3_code
def yX1_insert : MethodName := ⟨RX1, "insert", "(II)V"⟩
abbrev cX1_isAnswer : ByteArray := prog_3_method_4_code
def yX1_isAnswer : MethodName := ⟨RX1, "isAnswer", "(I)Z"⟩
abbrev cX1_answer : ByteArray := prog_3_method_5_code
def yX1_answer : MethodName := ⟨RX1, "answer", "(I)I"⟩
abbrev cX1_alsoIn : ByteArray := prog_3_method_6_code
def yX1_alsoIn : MethodName := ⟨RX1, "alsoIn", "(LLiveIndex$Hits;)I"⟩
def RX2 : String := "LiveIndex$Looks"
def TX2 : u_T := fun k => match k with
  | 0 => ("LiveIndex$Looks", "ever", "I", false)
  | 1 => ("LiveIndex$Looks", "log", "[I", true)
  | _ => ("LiveIndex$Looks", "kept", "I", false)
def tyX2 : Nat → FieldType := fun k => match k with
  | 0 => .int
  | 1 => .array .int
  | _ => .int
abbrev wsX20 : List Cond := u_ws RX2 TX2 3
theorem nmX2 : ∀ a, a < 3 → ∀ b, b < 3 → a ≠ b → (TX2 a).2.1 ≠ (TX2 b).2.1 := by decide +kernel
theorem tyX2_ok : ∀ k, k < 3 → parseFieldDescriptor (TX2 k).2.2.1 = some (tyX2 k) := by decide +kernel
abbrev cX2_init : ByteArray := prog_4_method_1_code
def yX2_init : MethodName := ⟨RX2, "<init>", "()V"⟩
abbrev cX2_start : ByteArray := prog_4_method_2_code
def yX2_start : MethodName := ⟨RX2, "start", "()I"⟩
abbrev cX2_end : ByteArray := prog_4_method_3_code
def yX2_end : MethodName := ⟨RX2, "end", "(I)V"⟩
abbrev cX2_ended : ByteArray := prog_4_method_4_code
def yX2_ended : MethodName := ⟨RX2, "ended", "(I)I"⟩
def RX3 : String := "LiveIndex$Merge"
def TX3 : u_T := fun k => match k with
  | 0 => ("LiveIndex$Merge", "begun", "Z", false)
  | 1 => ("LiveIndex$Merge", "first", "I", false)
  | 2 => ("LiveIndex$Merge", "width", "I", false)
  | _ => ("LiveIndex$Merge", "left", "[J", true)
def tyX3 : Nat → FieldType := fun k => match k with
  | 0 => .boolean
  | 1 => .int
  | 2 => .int
  | _ => .array .long
abbrev wsX30 : List Cond := u_ws RX3 TX3 4
theorem nmX3 : ∀ a, a < 4 → ∀ b, b < 4 → a ≠ b → (TX3 a).2.1 ≠ (TX3 b).2.1 := by decide +kernel
theorem tyX3_ok : ∀ k, k < 4 → parseFieldDescriptor (TX3 k).2.2.1 = some (tyX3 k) := by decide +kernel
abbrev cX3_init : ByteArray := prog_5_method_1_code
def yX3_init : MethodName := ⟨RX3, "<init>", "()V"⟩
abbrev cX3_start : ByteArray := prog_5_method_2_code
def yX3_start : MethodName := ⟨RX3, "start", "(LLiveIndex$Stand;II)V"⟩
abbrev cX3_howManyCome : ByteArray := prog_5_method_3_code
def yX3_howManyCome : MethodName := ⟨RX3, "howManyCome", "(LLiveIndex$Stand;)I"⟩
abbrev cX3_bring : ByteArray := prog_5_method_4_code
def yX3_bring : MethodName := ⟨RX3, "bring", "(LLiveIndex$Stand;[LLiveIndex$Doc;)J"⟩
def RX4 : String := "LiveIndex$Policy"
def TX4 : u_T := fun k => match k with
  | 0 => ("LiveIndex$Policy", "kind", "I", false)
  | _ => ("LiveIndex$Policy", "number", "I", false)
def tyX4 : Nat → FieldType := fun k => match k with
  | 0 => .int
  | _ => .int
abbrev wsX40 : List Cond := u_ws RX4 TX4 2
theorem nmX4 : ∀ a, a < 2 → ∀ b, b < 2 → a ≠ b → (TX4 a).2.1 ≠ (TX4 b).2.1 := by decide +kernel
theorem tyX4_ok : ∀ k, k < 2 → parseFieldDescriptor (TX4 k).2.2.1 = some (tyX4 k) := by decide +kernel
abbrev cX4_init : ByteArray := prog_6_method_1_code
def yX4_init : MethodName := ⟨RX4, "<init>", "()V"⟩
abbrev cX4_isUnder : ByteArray := prog_6_method_2_code
def yX4_isUnder : MethodName := ⟨RX4, "isUnder", "(I)Z"⟩
abbrev cX4_sizeOf : ByteArray := prog_6_method_3_code
def yX4_sizeOf : MethodName := ⟨RX4, "sizeOf", "(LLiveIndex$Stand;I)I"⟩
abbrev cX4_tierOf : ByteArray := prog_6_method_4_code
def yX4_tierOf : MethodName := ⟨RX4, "tierOf", "(LLiveIndex$Stand;I)I"⟩
abbrev cX4_width : ByteArray := prog_6_method_5_code
def yX4_width : MethodName := ⟨RX4, "width", "()I"⟩
abbrev cX4_choose : ByteArray := prog_6_method_6_code
def yX4_choose : MethodName := ⟨RX4, "choose", "(LLiveIndex$Stand;)I"⟩
abbrev cX4_isFit : ByteArray := prog_6_method_7_code
def yX4_isFit : MethodName := ⟨RX4, "isFit", "(LLiveIndex$Stand;I)Z"⟩
abbrev cX4_areOfOneTier : ByteArray := prog_6_method_8_code
def yX4_areOfOneTier : MethodName := ⟨RX4, "areOfOneTier", "(LLiveIndex$Stand;I)Z"⟩
abbrev cX4_areSmallTogether : ByteArray := prog_6_method_9_code
def yX4_areSmallTogether : MethodName := ⟨RX4, "areSmallTogether", "(LLiveIndex$Stand;I)Z"⟩
abbrev cX4_hasDropped : ByteArray := prog_6_method_10_code
def yX4_hasDropped : MethodName := ⟨RX4, "hasDropped", "(LLiveIndex$Stand;I)Z"⟩
def RX5 : String := "LiveIndex$Query"
def TX5 : u_T := fun k => match k with
  | 0 => ("LiveIndex$Query", "steps", "[I", true)
  | 1 => ("LiveIndex$Query", "size", "I", false)
  | _ => ("LiveIndex$Query", "pending", "[I", true)
def tyX5 : Nat → FieldType := fun k => match k with
  | 0 => .array .int
  | 1 => .int
  | _ => .array .int
abbrev wsX50 : List Cond := u_ws RX5 TX5 3
theorem nmX5 : ∀ a, a < 3 → ∀ b, b < 3 → a ≠ b → (TX5 a).2.1 ≠ (TX5 b).2.1 := by decide +kernel
theorem tyX5_ok : ∀ k, k < 3 → parseFieldDescriptor (TX5 k).2.2.1 = some (tyX5 k) := by decide +kernel
abbrev cX5_init : ByteArray := prog_7_method_1_code
def yX5_init : MethodName := ⟨RX5, "<init>", "()V"⟩
abbrev cX5_put : ByteArray := prog_7_method_2_code
def yX5_put : MethodName := ⟨RX5, "put", "(I)V"⟩
abbrev cX5_put_ : ByteArray := prog_7_method_3_code
def yX5_put_ : MethodName := ⟨RX5, "put", "(III)V"⟩
abbrev cX5_worthIn : ByteArray := prog_7_method_4_code
def yX5_worthIn : MethodName := ⟨RX5, "worthIn", "([I)I"⟩
abbrev cX5_costIn : ByteArray := prog_7_method_5_code
def yX5_costIn : MethodName := ⟨RX5, "costIn", "(LLiveIndex$Stand;)I"⟩
abbrev cX5_length : ByteArray := prog_7_method_6_code
def yX5_length : MethodName := ⟨RX5, "length", "(I)I"⟩
abbrev cX5_leafWorth : ByteArray := prog_7_method_7_code
def yX5_leafWorth : MethodName := ⟨RX5, "leafWorth", "([II)I"⟩
abbrev cX5_leafCost : ByteArray := prog_7_method_8_code
def yX5_leafCost : MethodName := ⟨RX5, "leafCost", "(LLiveIndex$Segment;I)I"⟩
abbrev cX5_wordCosts : ByteArray := prog_7_method_9_code
def yX5_wordCosts : MethodName := ⟨RX5, "wordCosts", "(LLiveIndex$Segment;II)I"⟩
abbrev cX5_placesBetween : ByteArray := prog_7_method_10_code
def yX5_placesBetween : MethodName := ⟨RX5, "placesBetween", "([III)I"⟩
abbrev cX5_nearTwos : ByteArray := prog_7_method_11_code
def yX5_nearTwos : MethodName := ⟨RX5, "nearTwos", "([III)I"⟩
abbrev cX5_phrasesIn : ByteArray := prog_7_method_12_code
def yX5_phrasesIn : MethodName := ⟨RX5, "phrasesIn", "([III)I"⟩
def RX6 : String := "LiveIndex$QueryReader"
def TX6 : u_T := fun k => match k with
  | 0 => ("LiveIndex$QueryReader", "tape", "LLiveIndex$Tape;", true)
  | 1 => ("LiveIndex$QueryReader", "query", "LLiveIndex$Query;", false)
  | 2 => ("LiveIndex$QueryReader", "token", "I", false)
  | 3 => ("LiveIndex$QueryReader", "place", "I", false)
  | 4 => ("LiveIndex$QueryReader", "end", "I", false)
  | 5 => ("LiveIndex$QueryReader", "word", "I", false)
  | 6 => ("LiveIndex$QueryReader", "opened", "I", false)
  | _ => ("LiveIndex$QueryReader", "fault", "I", false)
def tyX6 : Nat → FieldType := fun k => match k with
  | 0 => .object "LiveIndex$Tape"
  | 1 => .object "LiveIndex$Query"
  | 2 => .int
  | 3 => .int
  | 4 => .int
  | 5 => .int
  | 6 => .int
  | _ => .int
abbrev wsX60 : List Cond := u_ws RX6 TX6 8
theorem nmX6 : ∀ a, a < 8 → ∀ b, b < 8 → a ≠ b → (TX6 a).2.1 ≠ (TX6 b).2.1 := by decide +kernel
theorem tyX6_ok : ∀ k, k < 8 → parseFieldDescriptor (TX6 k).2.2.1 = some (tyX6 k) := by decide +kernel
abbrev cX6_init : ByteArray := prog_8_method_1_code
def yX6_init : MethodName := ⟨RX6, "<init>", "(LLiveIndex$Tape;)V"⟩
abbrev cX6_read : ByteArray := prog_8_method_2_code
def yX6_read : MethodName := ⟨RX6, "read", "(LLiveIndex$Query;)I"⟩
abbrev cX6_refuse : ByteArray := prog_8_method_3_code
def yX6_refuse : MethodName := ⟨RX6, "refuse", "()V"⟩
abbrev cX6_next : ByteArray := prog_8_method_4_code
def yX6_next : MethodName := ⟨RX6, "next", "()V"⟩
abbrev cX6_wordToken : ByteArray := prog_8_method_5_code
def yX6_wordToken : MethodName := ⟨RX6, "wordToken", "(I)I"⟩
abbrev cX6_readEither : ByteArray := prog_8_method_6_code
def yX6_readEither : MethodName := ⟨RX6, "readEither", "()V"⟩
abbrev cX6_readBoth : ByteArray := prog_8_method_7_code
def yX6_readBoth : MethodName := ⟨RX6, "readBoth", "()V"⟩
abbrev cX6_readOne : ByteArray := prog_8_method_8_code
def yX6_readOne : MethodName := ⟨RX6, "readOne", "()V"⟩
abbrev cX6_readNot : ByteArray := prog_8_method_9_code
def yX6_readNot : MethodName := ⟨RX6, "readNot", "()V"⟩
abbrev cX6_readBrackets : ByteArray := prog_8_method_10_code
def yX6_readBrackets : MethodName := ⟨RX6, "readBrackets", "()V"⟩
abbrev cX6_readWord : ByteArray := prog_8_method_11_code
def yX6_readWord : MethodName := ⟨RX6, "readWord", "()V"⟩
abbrev cX6_readPhrase : ByteArray := prog_8_method_12_code
def yX6_readPhrase : MethodName := ⟨RX6, "readPhrase", "()V"⟩
def RX7 : String := "LiveIndex$Segment"
def TX7 : u_T := fun k => match k with
  | 0 => ("LiveIndex$Segment", "name", "I", true)
  | 1 => ("LiveIndex$Segment", "docs", "[LLiveIndex$Doc;", true)
  | 2 => ("LiveIndex$Segment", "words", "[I", true)
  | 3 => ("LiveIndex$Segment", "postings", "[I", true)
  | 4 => ("LiveIndex$Segment", "placeSums", "[I", true)
  | 5 => ("LiveIndex$Segment", "wordCount", "I", false)
  | _ => ("LiveIndex$Segment", "allPostings", "I", false)
def tyX7 : Nat → FieldType := fun k => match k with
  | 0 => .int
  | 1 => .array (.object "LiveIndex$Doc")
  | 2 => .array .int
  | 3 => .array .int
  | 4 => .array .int
  | 5 => .int
  | _ => .int
abbrev wsX70 : List Cond := u_ws RX7 TX7 7
theorem nmX7 : ∀ a, a < 7 → ∀ b, b < 7 → a ≠ b → (TX7 a).2.1 ≠ (TX7 b).2.1 := by decide +kernel
theorem tyX7_ok : ∀ k, k < 7 → parseFieldDescriptor (TX7 k).2.2.1 = some (tyX7 k) := by decide +kernel
abbrev cX7_init : ByteArray := prog_9_method_1_code
def yX7_init : MethodName := ⟨RX7, "<init>", "(I[LLiveIndex$Doc;)V"⟩
abbrev cX7_notePosting : ByteArray := prog_9_method_2_code
def yX7_notePosting : MethodName := ⟨RX7, "notePosting", "(II)V"⟩
abbrev cX7_firstNotBelow : ByteArray := prog_9_method_3_code
def yX7_firstNotBelow : MethodName := ⟨RX7, "firstNotBelow", "(I)I"⟩
abbrev cX7_postingsBetween : ByteArray := prog_9_method_4_code
def yX7_postingsBetween : MethodName := ⟨RX7, "postingsBetween", "(II)I"⟩
def RX8 : String := "LiveIndex$Sheet"
def TX8 : u_T := fun k => match k with
  | 0 => ("LiveIndex$Sheet", "items", "[I", true)
  | 1 => ("LiveIndex$Sheet", "sort", "I", false)
  | _ => ("LiveIndex$Sheet", "size", "I", false)
def tyX8 : Nat → FieldType := fun k => match k with
  | 0 => .array .int
  | 1 => .int
  | _ => .int
abbrev wsX80 : List Cond := u_ws RX8 TX8 3
theorem nmX8 : ∀ a, a < 3 → ∀ b, b < 3 → a ≠ b → (TX8 a).2.1 ≠ (TX8 b).2.1 := by decide +kernel
theorem tyX8_ok : ∀ k, k < 3 → parseFieldDescriptor (TX8 k).2.2.1 = some (tyX8 k) := by decide +kernel
abbrev cX8_init : ByteArray := prog_10_method_1_code
def yX8_init : MethodName := ⟨RX8, "<init>", "()V"⟩
abbrev cX8_isMissing : ByteArray := prog_10_method_2_code
def yX8_isMissing : MethodName := ⟨RX8, "isMissing", "()Z"⟩
abbrev cX8_become : ByteArray := prog_10_method_3_code
def yX8_become : MethodName := ⟨RX8, "become", "(II)V"⟩
abbrev cX8_hasItems : ByteArray := prog_10_method_4_code
def yX8_hasItems : MethodName := ⟨RX8, "hasItems", "(II)Z"⟩
abbrev cX8_put : ByteArray := prog_10_method_5_code
def yX8_put : MethodName := ⟨RX8, "put", "(II)V"⟩
abbrev cX8_firstOtherwise : ByteArray := prog_10_method_6_code
def yX8_firstOtherwise : MethodName := ⟨RX8, "firstOtherwise", "([II)I"⟩
def RX9 : String := "LiveIndex$Stand"
def TX9 : u_T := fun k => match k with
  | 0 => ("LiveIndex$Stand", "segments", "[LLiveIndex$Segment;", true)
  | 1 => ("LiveIndex$Stand", "dropped", "[J", true)
  | 2 => ("LiveIndex$Stand", "size", "I", false)
  | _ => ("LiveIndex$Stand", "there", "Z", false)
def tyX9 : Nat → FieldType := fun k => match k with
  | 0 => .array (.object "LiveIndex$Segment")
  | 1 => .array .long
  | 2 => .int
  | _ => .boolean
abbrev wsX90 : List Cond := u_ws RX9 TX9 4
theorem nmX9 : ∀ a, a < 4 → ∀ b, b < 4 → a ≠ b → (TX9 a).2.1 ≠ (TX9 b).2.1 := by decide +kernel
theorem tyX9_ok : ∀ k, k < 4 → parseFieldDescriptor (TX9 k).2.2.1 = some (tyX9 k) := by decide +kernel
abbrev cX9_init : ByteArray := prog_11_method_1_code
def yX9_init : MethodName := ⟨RX9, "<init>", "()V"⟩
abbrev cX9_become : ByteArray := prog_11_method_2_code
def yX9_become : MethodName := ⟨RX9, "become", "(LLiveIndex$Stand;)V"⟩
abbrev cX9_append : ByteArray := prog_11_method_3_code
def yX9_append : MethodName := ⟨RX9, "append", "(LLiveIndex$Segment;)V"⟩
abbrev cX9_remove : ByteArray := prog_11_method_4_code
def yX9_remove : MethodName := ⟨RX9, "remove", "(II)V"⟩
abbrev cX9_isDropped : ByteArray := prog_11_method_5_code
def yX9_isDropped : MethodName := ⟨RX9, "isDropped", "(II)Z"⟩
abbrev cX9_liveIn : ByteArray := prog_11_method_6_code
def yX9_liveIn : MethodName := ⟨RX9, "liveIn", "(I)I"⟩
abbrev cX9_liveBetween : ByteArray := prog_11_method_7_code
def yX9_liveBetween : MethodName := ⟨RX9, "liveBetween", "(II)I"⟩
abbrev cX9_allDocs : ByteArray := prog_11_method_8_code
def yX9_allDocs : MethodName := ⟨RX9, "allDocs", "()I"⟩
abbrev cX9_hasName : ByteArray := prog_11_method_9_code
def yX9_hasName : MethodName := ⟨RX9, "hasName", "(I)Z"⟩
def RX10 : String := "LiveIndex$Tape"
def TX10 : u_T := fun k => match k with
  | 0 => ("LiveIndex$Tape", "bytes", "[I", true)
  | 1 => ("LiveIndex$Tape", "size", "I", false)
  | 2 => ("LiveIndex$Tape", "words", "[I", true)
  | _ => ("LiveIndex$Tape", "wordCount", "I", false)
def tyX10 : Nat → FieldType := fun k => match k with
  | 0 => .array .int
  | 1 => .int
  | 2 => .array .int
  | _ => .int
abbrev wsX100 : List Cond := u_ws RX10 TX10 4
theorem nmX10 : ∀ a, a < 4 → ∀ b, b < 4 → a ≠ b → (TX10 a).2.1 ≠ (TX10 b).2.1 := by decide +kernel
theorem tyX10_ok : ∀ k, k < 4 → parseFieldDescriptor (TX10 k).2.2.1 = some (tyX10 k) := by decide +kernel
abbrev cX10_init : ByteArray := prog_12_method_1_code
def yX10_init : MethodName := ⟨RX10, "<init>", "()V"⟩
abbrev cX10_append : ByteArray := prog_12_method_2_code
def yX10_append : MethodName := ⟨RX10, "append", "(I)V"⟩
abbrev cX10_readDocument : ByteArray := prog_12_method_3_code
def yX10_readDocument : MethodName := ⟨RX10, "readDocument", "()I"⟩
abbrev cX10_wordsRead : ByteArray := prog_12_method_4_code
def yX10_wordsRead : MethodName := ⟨RX10, "wordsRead", "()[I"⟩
abbrev cX10_behindBlanks : ByteArray := prog_12_method_5_code
def yX10_behindBlanks : MethodName := ⟨RX10, "behindBlanks", "(I)I"⟩
abbrev cX10_wordEnd : ByteArray := prog_12_method_6_code
def yX10_wordEnd : MethodName := ⟨RX10, "wordEnd", "(I)I"⟩
abbrev cX10_wordBetween : ByteArray := prog_12_method_7_code
def yX10_wordBetween : MethodName := ⟨RX10, "wordBetween", "(II)I"⟩
abbrev cX10_lettersAlone : ByteArray := prog_12_method_8_code
def yX10_lettersAlone : MethodName := ⟨RX10, "lettersAlone", "(I)I"⟩
def RX11 : String := "LiveIndex"
def TX11 : u_T := fun k => match k with
  | 0 => ("LiveIndex", "tape", "LLiveIndex$Tape;", true)
  | 1 => ("LiveIndex", "buffer", "[LLiveIndex$Doc;", true)
  | 2 => ("LiveIndex", "buffered", "I", false)
  | 3 => ("LiveIndex", "now", "LLiveIndex$Stand;", true)
  | 4 => ("LiveIndex", "written", "LLiveIndex$Stand;", true)
  | 5 => ("LiveIndex", "committed", "LLiveIndex$Stand;", true)
  | 6 => ("LiveIndex", "views", "[LLiveIndex$Stand;", true)
  | 7 => ("LiveIndex", "holders", "[LLiveIndex$Stand;", true)
  | 8 => ("LiveIndex", "names", "I", false)
  | 9 => ("LiveIndex", "policy", "LLiveIndex$Policy;", true)
  | 10 => ("LiveIndex", "merge", "LLiveIndex$Merge;", true)
  | 11 => ("LiveIndex", "limit", "I", false)
  | 12 => ("LiveIndex", "queries", "[LLiveIndex$Query;", true)
  | 13 => ("LiveIndex", "asked", "I", false)
  | 14 => ("LiveIndex", "reader", "LLiveIndex$QueryReader;", true)
  | 15 => ("LiveIndex", "looks", "LLiveIndex$Looks;", true)
  | 16 => ("LiveIndex", "sheets", "[LLiveIndex$Sheet;", true)
  | 17 => ("LiveIndex", "hits", "LLiveIndex$Hits;", true)
  | 18 => ("LiveIndex", "otherHits", "LLiveIndex$Hits;", true)
  | _ => ("LiveIndex", "leastCosts", "[I", true)
def tyX11 : Nat → FieldType := fun k => match k with
  | 0 => .object "LiveIndex$Tape"
  | 1 => .array (.object "LiveIndex$Doc")
  | 2 => .int
  | 3 => .object "LiveIndex$Stand"
  | 4 => .object "LiveIndex$Stand"
  | 5 => .object "LiveIndex$Stand"
  | 6 => .array (.object "LiveIndex$Stand")
  | 7 => .array (.object "LiveIndex$Stand")
  | 8 => .int
  | 9 => .object "LiveIndex$Policy"
  | 10 => .object "LiveIndex$Merge"
  | 11 => .int
  | 12 => .array (.object "LiveIndex$Query")
  | 13 => .int
  | 14 => .object "LiveIndex$QueryReader"
  | 15 => .object "LiveIndex$Looks"
  | 16 => .array (.object "LiveIndex$Sheet")
  | 17 => .object "LiveIndex$Hits"
  | 18 => .object "LiveIndex$Hits"
  | _ => .array .int
abbrev wsX110 : List Cond := u_ws RX11 TX11 20
theorem nmX11 : ∀ a, a < 20 → ∀ b, b < 20 → a ≠ b → (TX11 a).2.1 ≠ (TX11 b).2.1 := by decide +kernel
theorem tyX11_ok : ∀ k, k < 20 → parseFieldDescriptor (TX11 k).2.2.1 = some (tyX11 k) := by decide +kernel
abbrev cX11_init : ByteArray := prog_1_method_1_code
def yX11_init : MethodName := ⟨RX11, "<init>", "()V"⟩
abbrev cX11_feed : ByteArray := prog_1_method_2_code
def yX11_feed : MethodName := ⟨RX11, "feed", "(IIIIII)I"⟩
abbrev cX11_add : ByteArray := prog_1_method_3_code
def yX11_add : MethodName := ⟨RX11, "add", "(I)I"⟩
abbrev cX11_drop : ByteArray := prog_1_method_4_code
def yX11_drop : MethodName := ⟨RX11, "drop", "(I)I"⟩
abbrev cX11_dropBy : ByteArray := prog_1_method_5_code
def yX11_dropBy : MethodName := ⟨RX11, "dropBy", "(I)I"⟩
abbrev cX11_flush : ByteArray := prog_1_method_6_code
def yX11_flush : MethodName := ⟨RX11, "flush", "()I"⟩
abbrev cX11_where : ByteArray := prog_1_method_7_code
def yX11_where : MethodName := ⟨RX11, "where", "(I)I"⟩
abbrev cX11_isByte : ByteArray := prog_1_method_8_code
def yX11_isByte : MethodName := ⟨RX11, "isByte", "(I)Z"⟩
abbrev cX11_isKey : ByteArray := prog_1_method_9_code
def yX11_isKey : MethodName := ⟨RX11, "isKey", "(I)Z"⟩
abbrev cX11_placeInBuffer : ByteArray := prog_1_method_10_code
def yX11_placeInBuffer : MethodName := ⟨RX11, "placeInBuffer", "(I)I"⟩
abbrev cX11_placeInSegments : ByteArray := prog_1_method_11_code
def yX11_placeInSegments : MethodName := ⟨RX11, "placeInSegments", "(I)I"⟩
abbrev cX11_dropLive : ByteArray := prog_1_method_12_code
def yX11_dropLive : MethodName := ⟨RX11, "dropLive", "(I)I"⟩
abbrev cX11_told : ByteArray := prog_1_method_13_code
def yX11_told : MethodName := ⟨RX11, "told", "(II)I"⟩
abbrev cX11_doc : ByteArray := prog_1_method_14_code
def yX11_doc : MethodName := ⟨RX11, "doc", "(III)I"⟩
abbrev cX11_word : ByteArray := prog_1_method_15_code
def yX11_word : MethodName := ⟨RX11, "word", "(III)I"⟩
abbrev cX11_set : ByteArray := prog_1_method_16_code
def yX11_set : MethodName := ⟨RX11, "set", "(II)I"⟩
abbrev cX11_taken : ByteArray := prog_1_method_17_code
def yX11_taken : MethodName := ⟨RX11, "taken", "(I)I"⟩
abbrev cX11_choice : ByteArray := prog_1_method_18_code
def yX11_choice : MethodName := ⟨RX11, "choice", "(I)I"⟩
abbrev cX11_begin : ByteArray := prog_1_method_19_code
def yX11_begin : MethodName := ⟨RX11, "begin", "()I"⟩
abbrev cX11_finish : ByteArray := prog_1_method_20_code
def yX11_finish : MethodName := ⟨RX11, "finish", "()I"⟩
abbrev cX11_leave : ByteArray := prog_1_method_21_code
def yX11_leave : MethodName := ⟨RX11, "leave", "()I"⟩
abbrev cX11_cheapest : ByteArray := prog_1_method_22_code
def yX11_cheapest : MethodName := ⟨RX11, "cheapest", "(I)I"⟩
abbrev cX11_isSegment : ByteArray := prog_1_method_23_code
def yX11_isSegment : MethodName := ⟨RX11, "isSegment", "(I)Z"⟩
abbrev cX11_viewsWith : ByteArray := prog_1_method_24_code
def yX11_viewsWith : MethodName := ⟨RX11, "viewsWith", "(I)I"⟩
abbrev cX11_splitCost : ByteArray := prog_1_method_25_code
def yX11_splitCost : MethodName := ⟨RX11, "splitCost", "(III)I"⟩
abbrev cX11_leastSplit : ByteArray := prog_1_method_26_code
def yX11_leastSplit : MethodName := ⟨RX11, "leastSplit", "(II)I"⟩
abbrev cX11_write : ByteArray := prog_1_method_27_code
def yX11_write : MethodName := ⟨RX11, "write", "()I"⟩
abbrev cX11_commit : ByteArray := prog_1_method_28_code
def yX11_commit : MethodName := ⟨RX11, "commit", "()I"⟩
abbrev cX11_crash : ByteArray := prog_1_method_29_code
def yX11_crash : MethodName := ⟨RX11, "crash", "()I"⟩
abbrev cX11_query : ByteArray := prog_1_method_30_code
def yX11_query : MethodName := ⟨RX11, "query", "()I"⟩
abbrev cX11_open : ByteArray := prog_1_method_31_code
def yX11_open : MethodName := ⟨RX11, "open", "(I)I"⟩
abbrev cX11_shut : ByteArray := prog_1_method_32_code
def yX11_shut : MethodName := ⟨RX11, "shut", "(I)I"⟩
abbrev cX11_found : ByteArray := prog_1_method_33_code
def yX11_found : MethodName := ⟨RX11, "found", "(III)I"⟩
abbrev cX11_look : ByteArray := prog_1_method_34_code
def yX11_look : MethodName := ⟨RX11, "look", "(II)I"⟩
abbrev cX11_both : ByteArray := prog_1_method_35_code
def yX11_both : MethodName := ⟨RX11, "both", "(III)I"⟩
abbrev cX11_silence : ByteArray := prog_1_method_36_code
def yX11_silence : MethodName := ⟨RX11, "silence", "(II)I"⟩
abbrev cX11_tells : ByteArray := prog_1_method_37_code
def yX11_tells : MethodName := ⟨RX11, "tells", "(IIII)I"⟩
abbrev cX11_film : ByteArray := prog_1_method_38_code
def yX11_film : MethodName := ⟨RX11, "film", "(III)I"⟩
abbrev cX11_count : ByteArray := prog_1_method_39_code
def yX11_count : MethodName := ⟨RX11, "count", "(I)I"⟩
abbrev cX11_isQuery : ByteArray := prog_1_method_40_code
def yX11_isQuery : MethodName := ⟨RX11, "isQuery", "(I)Z"⟩
abbrev cX11_isView : ByteArray := prog_1_method_41_code
def yX11_isView : MethodName := ⟨RX11, "isView", "(I)Z"⟩
abbrev cX11_isDear : ByteArray := prog_1_method_42_code
def yX11_isDear : MethodName := ⟨RX11, "isDear", "(I)Z"⟩
abbrev cX11_answer : ByteArray := prog_1_method_43_code
def yX11_answer : MethodName := ⟨RX11, "answer", "(LLiveIndex$Query;LLiveIndex$Stand;I)I"⟩
abbrev cX11_foundByOther : ByteArray := prog_1_method_44_code
def yX11_foundByOther : MethodName := ⟨RX11, "foundByOther", "(II)I"⟩
abbrev cX11_firstOtherwise : ByteArray := prog_1_method_45_code
def yX11_firstOtherwise : MethodName := ⟨RX11, "firstOtherwise", "(III)I"⟩
abbrev cX11_queriesToldBy : ByteArray := prog_1_method_46_code
def yX11_queriesToldBy : MethodName := ⟨RX11, "queriesToldBy", "(II)I"⟩
abbrev cX11_viewsToldBy : ByteArray := prog_1_method_47_code
def yX11_viewsToldBy : MethodName := ⟨RX11, "viewsToldBy", "(II)I"⟩
abbrev cX11_openViews : ByteArray := prog_1_method_48_code
def yX11_openViews : MethodName := ⟨RX11, "openViews", "()I"⟩
abbrev cX11_heldSegments : ByteArray := prog_1_method_49_code
def yX11_heldSegments : MethodName := ⟨RX11, "heldSegments", "()I"⟩
abbrev cX11_isHeldBefore : ByteArray := prog_1_method_50_code
def yX11_isHeldBefore : MethodName := ⟨RX11, "isHeldBefore", "(II)Z"⟩
abbrev cX11_sheet : ByteArray := prog_1_method_51_code
def yX11_sheet : MethodName := ⟨RX11, "sheet", "(III)I"⟩
abbrev cX11_cell : ByteArray := prog_1_method_52_code
def yX11_cell : MethodName := ⟨RX11, "cell", "(III)I"⟩
abbrev cX11_copy : ByteArray := prog_1_method_53_code
def yX11_copy : MethodName := ⟨RX11, "copy", "(IIIII)I"⟩
abbrev cX11_isSheet : ByteArray := prog_1_method_54_code
def yX11_isSheet : MethodName := ⟨RX11, "isSheet", "(I)Z"⟩
def RX12 : String := "LiveIndexModel"
def TX12 : u_T := fun k => match k with
  | 0 => ("LiveIndexModel", "documents", "I", false)
  | 1 => ("LiveIndexModel", "keys", "[I", true)
  | 2 => ("LiveIndexModel", "sizes", "[I", true)
  | 3 => ("LiveIndexModel", "words", "[[I", true)
  | 4 => ("LiveIndexModel", "isDropped", "[Z", true)
  | 5 => ("LiveIndexModel", "segmentsEver", "I", false)
  | 6 => ("LiveIndexModel", "names", "[I", true)
  | 7 => ("LiveIndexModel", "lengths", "[I", true)
  | 8 => ("LiveIndexModel", "members", "[[I", true)
  | 9 => ("LiveIndexModel", "isThere", "[Z", true)
  | 10 => ("LiveIndexModel", "counts", "[I", true)
  | 11 => ("LiveIndexModel", "rows", "[[I", true)
  | 12 => ("LiveIndexModel", "wasDropped", "[[Z", true)
  | 13 => ("LiveIndexModel", "segments", "I", false)
  | 14 => ("LiveIndexModel", "standing", "[I", true)
  | 15 => ("LiveIndexModel", "buffered", "I", false)
  | 16 => ("LiveIndexModel", "buffer", "[I", true)
  | 17 => ("LiveIndexModel", "tape", "[I", true)
  | 18 => ("LiveIndexModel", "taped", "I", false)
  | 19 => ("LiveIndexModel", "newWords", "[I", true)
  | 20 => ("LiveIndexModel", "newMany", "I", false)
  | 21 => ("LiveIndexModel", "policy", "I", false)
  | 22 => ("LiveIndexModel", "number", "I", false)
  | 23 => ("LiveIndexModel", "limit", "I", false)
  | 24 => ("LiveIndexModel", "isBegun", "Z", false)
  | 25 => ("LiveIndexModel", "firstOfMerge", "I", false)
  | 26 => ("LiveIndexModel", "wideOfMerge", "I", false)
  | 27 => ("LiveIndexModel", "coming", "I", false)
  | 28 => ("LiveIndexModel", "come", "[I", true)
  | 29 => ("LiveIndexModel", "costs", "[[I", true)
  | 30 => ("LiveIndexModel", "queries", "I", false)
  | 31 => ("LiveIndexModel", "marks", "[[I", true)
  | 32 => ("LiveIndexModel", "markMany", "[I", true)
  | 33 => ("LiveIndexModel", "newMarks", "[I", true)
  | 34 => ("LiveIndexModel", "newSize", "I", false)
  | 35 => ("LiveIndexModel", "at", "I", false)
  | 36 => ("LiveIndexModel", "begin", "I", false)
  | 37 => ("LiveIndexModel", "token", "I", false)
  | 38 => ("LiveIndexModel", "value", "I", false)
  | 39 => ("LiveIndexModel", "opened", "I", false)
  | 40 => ("LiveIndexModel", "isWrong", "Z", false)
  | 41 => ("LiveIndexModel", "heap", "[I", true)
  | 42 => ("LiveIndexModel", "foundMany", "I", false)
  | 43 => ("LiveIndexModel", "foundSum", "I", false)
  | 44 => ("LiveIndexModel", "found", "[I", true)
  | 45 => ("LiveIndexModel", "foundWorth", "[I", true)
  | 46 => ("LiveIndexModel", "looks", "I", false)
  | 47 => ("LiveIndexModel", "logged", "I", false)
  | 48 => ("LiveIndexModel", "log", "[I", true)
  | 49 => ("LiveIndexModel", "foundAhead", "[I", true)
  | 50 => ("LiveIndexModel", "sorts", "[I", true)
  | 51 => ("LiveIndexModel", "sizesOfSheets", "[I", true)
  | 52 => ("LiveIndexModel", "items", "[[I", true)
  | _ => ("LiveIndexModel", "passed", "[I", true)
def tyX12 : Nat → FieldType := fun k => match k with
  | 0 => .int
  | 1 => .array .int
  | 2 => .array .int
  | 3 => .array (.array .int)
  | 4 => .array .boolean
  | 5 => .int
  | 6 => .array .int
  | 7 => .array .int
  | 8 => .array (.array .int)
  | 9 => .array .boolean
  | 10 => .array .int
  | 11 => .array (.array .int)
  | 12 => .array (.array .boolean)
  | 13 => .int
  | 14 => .array .int
  | 15 => .int
  | 16 => .array .int
  | 17 => .array .int
  | 18 => .int
  | 19 => .array .int
  | 20 => .int
  | 21 => .int
  | 22 => .int
  | 23 => .int
  | 24 => .boolean
  | 25 => .int
  | 26 => .int
  | 27 => .int
  | 28 => .array .int
  | 29 => .array (.array .int)
  | 30 => .int
  | 31 => .array (.array .int)
  | 32 => .array .int
  | 33 => .array .int
  | 34 => .int
  | 35 => .int
  | 36 => .int
  | 37 => .int
  | 38 => .int
  | 39 => .int
  | 40 => .boolean
  | 41 => .array .int
  | 42 => .int
  | 43 => .int
  | 44 => .array .int
  | 45 => .array .int
  | 46 => .int
  | 47 => .int
  | 48 => .array .int
  | 49 => .array .int
  | 50 => .array .int
  | 51 => .array .int
  | 52 => .array (.array .int)
  | _ => .array .int
abbrev wsX120 : List Cond := u_ws RX12 TX12 54
theorem nmX12 : ∀ a, a < 54 → ∀ b, b < 54 → a ≠ b → (TX12 a).2.1 ≠ (TX12 b).2.1 := by decide +kernel
theorem tyX12_ok : ∀ k, k < 54 → parseFieldDescriptor (TX12 k).2.2.1 = some (tyX12 k) := by decide +kernel
abbrev cX12_init : ByteArray := prog_14_method_1_code
def yX12_init : MethodName := ⟨RX12, "<init>", "()V"⟩
abbrev cX12_in : ByteArray := prog_14_method_2_code
def yX12_in : MethodName := ⟨RX12, "in", "(III)Z"⟩
abbrev cX12_isSegment : ByteArray := prog_14_method_3_code
def yX12_isSegment : MethodName := ⟨RX12, "isSegment", "(I)Z"⟩
abbrev cX12_isKey : ByteArray := prog_14_method_4_code
def yX12_isKey : MethodName := ⟨RX12, "isKey", "(I)Z"⟩
abbrev cX12_isView : ByteArray := prog_14_method_5_code
def yX12_isView : MethodName := ⟨RX12, "isView", "(I)Z"⟩
abbrev cX12_isQuery : ByteArray := prog_14_method_6_code
def yX12_isQuery : MethodName := ⟨RX12, "isQuery", "(I)Z"⟩
abbrev cX12_isByte : ByteArray := prog_14_method_7_code
def yX12_isByte : MethodName := ⟨RX12, "isByte", "(I)Z"⟩
abbrev cX12_feed : ByteArray := prog_14_method_8_code
def yX12_feed : MethodName := ⟨RX12, "feed", "(IIIIII)I"⟩
abbrev cX12_byteAt : ByteArray := prog_14_method_9_code
def yX12_byteAt : MethodName := ⟨RX12, "byteAt", "(I)I"⟩
abbrev cX12_isLetter : ByteArray := prog_14_method_10_code
def yX12_isLetter : MethodName := ⟨RX12, "isLetter", "(I)Z"⟩
abbrev cX12_isBlank : ByteArray := prog_14_method_11_code
def yX12_isBlank : MethodName := ⟨RX12, "isBlank", "(I)Z"⟩
abbrev cX12_wordFrom : ByteArray := prog_14_method_12_code
def yX12_wordFrom : MethodName := ⟨RX12, "wordFrom", "(II)I"⟩
abbrev cX12_document : ByteArray := prog_14_method_13_code
def yX12_document : MethodName := ⟨RX12, "document", "()I"⟩
abbrev cX12_bufferPlace : ByteArray := prog_14_method_14_code
def yX12_bufferPlace : MethodName := ⟨RX12, "bufferPlace", "(I)I"⟩
abbrev cX12_segmentPlace : ByteArray := prog_14_method_15_code
def yX12_segmentPlace : MethodName := ⟨RX12, "segmentPlace", "(I)I"⟩
abbrev cX12_drop : ByteArray := prog_14_method_16_code
def yX12_drop : MethodName := ⟨RX12, "drop", "(I)I"⟩
abbrev cX12_add : ByteArray := prog_14_method_17_code
def yX12_add : MethodName := ⟨RX12, "add", "(I)I"⟩
abbrev cX12_where : ByteArray := prog_14_method_18_code
def yX12_where : MethodName := ⟨RX12, "where", "(I)I"⟩
abbrev cX12_held : ByteArray := prog_14_method_19_code
def yX12_held : MethodName := ⟨RX12, "held", "()I"⟩
abbrev cX12_newSegment : ByteArray := prog_14_method_20_code
def yX12_newSegment : MethodName := ⟨RX12, "newSegment", "()I"⟩
abbrev cX12_joins : ByteArray := prog_14_method_21_code
def yX12_joins : MethodName := ⟨RX12, "joins", "(II)V"⟩
abbrev cX12_flush : ByteArray := prog_14_method_22_code
def yX12_flush : MethodName := ⟨RX12, "flush", "()I"⟩
abbrev cX12_liveOf : ByteArray := prog_14_method_23_code
def yX12_liveOf : MethodName := ⟨RX12, "liveOf", "(I)I"⟩
abbrev cX12_hasWord : ByteArray := prog_14_method_24_code
def yX12_hasWord : MethodName := ⟨RX12, "hasWord", "(II)Z"⟩
abbrev cX12_postings : ByteArray := prog_14_method_25_code
def yX12_postings : MethodName := ⟨RX12, "postings", "(II)I"⟩
abbrev cX12_wordAbove : ByteArray := prog_14_method_26_code
def yX12_wordAbove : MethodName := ⟨RX12, "wordAbove", "(II)I"⟩
abbrev cX12_dictionary : ByteArray := prog_14_method_27_code
def yX12_dictionary : MethodName := ⟨RX12, "dictionary", "(IZ)I"⟩
abbrev cX12_plainWord : ByteArray := prog_14_method_28_code
def yX12_plainWord : MethodName := ⟨RX12, "plainWord", "(I)I"⟩
abbrev cX12_word : ByteArray := prog_14_method_29_code
def yX12_word : MethodName := ⟨RX12, "word", "(III)I"⟩
abbrev cX12_size : ByteArray := prog_14_method_30_code
def yX12_size : MethodName := ⟨RX12, "size", "(I)I"⟩
abbrev cX12_tier : ByteArray := prog_14_method_31_code
def yX12_tier : MethodName := ⟨RX12, "tier", "(I)I"⟩
abbrev cX12_width : ByteArray := prog_14_method_32_code
def yX12_width : MethodName := ⟨RX12, "width", "()I"⟩
abbrev cX12_fits : ByteArray := prog_14_method_33_code
def yX12_fits : MethodName := ⟨RX12, "fits", "(II)Z"⟩
abbrev cX12_chosen : ByteArray := prog_14_method_34_code
def yX12_chosen : MethodName := ⟨RX12, "chosen", "()I"⟩
abbrev cX12_set : ByteArray := prog_14_method_35_code
def yX12_set : MethodName := ⟨RX12, "set", "(II)I"⟩
abbrev cX12_taken : ByteArray := prog_14_method_36_code
def yX12_taken : MethodName := ⟨RX12, "taken", "(I)I"⟩
abbrev cX12_liveIn : ByteArray := prog_14_method_37_code
def yX12_liveIn : MethodName := ⟨RX12, "liveIn", "(II)I"⟩
abbrev cX12_choice : ByteArray := prog_14_method_38_code
def yX12_choice : MethodName := ⟨RX12, "choice", "(I)I"⟩
abbrev cX12_begin : ByteArray := prog_14_method_39_code
def yX12_begin : MethodName := ⟨RX12, "begin", "()I"⟩
abbrev cX12_finish : ByteArray := prog_14_method_40_code
def yX12_finish : MethodName := ⟨RX12, "finish", "()I"⟩
abbrev cX12_leave : ByteArray := prog_14_method_41_code
def yX12_leave : MethodName := ⟨RX12, "leave", "()I"⟩
abbrev cX12_costOf : ByteArray := prog_14_method_42_code
def yX12_costOf : MethodName := ⟨RX12, "costOf", "(III)I"⟩
abbrev cX12_cheapest : ByteArray := prog_14_method_43_code
def yX12_cheapest : MethodName := ⟨RX12, "cheapest", "(I)I"⟩
abbrev cX12_lay : ByteArray := prog_14_method_44_code
def yX12_lay : MethodName := ⟨RX12, "lay", "(I)V"⟩
abbrev cX12_handOn : ByteArray := prog_14_method_45_code
def yX12_handOn : MethodName := ⟨RX12, "handOn", "(II)V"⟩
abbrev cX12_stands : ByteArray := prog_14_method_46_code
def yX12_stands : MethodName := ⟨RX12, "stands", "(II)Z"⟩
abbrev cX12_heldSegments : ByteArray := prog_14_method_47_code
def yX12_heldSegments : MethodName := ⟨RX12, "heldSegments", "()I"⟩
abbrev cX12_write : ByteArray := prog_14_method_48_code
def yX12_write : MethodName := ⟨RX12, "write", "()I"⟩
abbrev cX12_commit : ByteArray := prog_14_method_49_code
def yX12_commit : MethodName := ⟨RX12, "commit", "()I"⟩
abbrev cX12_crash : ByteArray := prog_14_method_50_code
def yX12_crash : MethodName := ⟨RX12, "crash", "()I"⟩
abbrev cX12_openViews : ByteArray := prog_14_method_51_code
def yX12_openViews : MethodName := ⟨RX12, "openViews", "(I)I"⟩
abbrev cX12_told : ByteArray := prog_14_method_52_code
def yX12_told : MethodName := ⟨RX12, "told", "(II)I"⟩
abbrev cX12_doc : ByteArray := prog_14_method_53_code
def yX12_doc : MethodName := ⟨RX12, "doc", "(III)I"⟩
abbrev cX12_open : ByteArray := prog_14_method_54_code
def yX12_open : MethodName := ⟨RX12, "open", "(I)I"⟩
abbrev cX12_shut : ByteArray := prog_14_method_55_code
def yX12_shut : MethodName := ⟨RX12, "shut", "(I)I"⟩
abbrev cX12_keyAt : ByteArray := prog_14_method_56_code
def yX12_keyAt : MethodName := ⟨RX12, "keyAt", "(II)I"⟩
abbrev cX12_wordOf : ByteArray := prog_14_method_57_code
def yX12_wordOf : MethodName := ⟨RX12, "wordOf", "(Ljava/lang/String;)I"⟩
abbrev cX12_next : ByteArray := prog_14_method_58_code
def yX12_next : MethodName := ⟨RX12, "next", "()V"⟩
abbrev cX12_is : ByteArray := prog_14_method_59_code
def yX12_is : MethodName := ⟨RX12, "is", "(II)Z"⟩
abbrev cX12_mark : ByteArray := prog_14_method_60_code
def yX12_mark : MethodName := ⟨RX12, "mark", "(I)V"⟩
abbrev cX12_either : ByteArray := prog_14_method_61_code
def yX12_either : MethodName := ⟨RX12, "either", "()V"⟩
abbrev cX12_both : ByteArray := prog_14_method_62_code
def yX12_both : MethodName := ⟨RX12, "both", "()V"⟩
abbrev cX12_opens : ByteArray := prog_14_method_63_code
def yX12_opens : MethodName := ⟨RX12, "opens", "()V"⟩
abbrev cX12_one : ByteArray := prog_14_method_64_code
def yX12_one : MethodName := ⟨RX12, "one", "()V"⟩
abbrev cX12_plain : ByteArray := prog_14_method_65_code
def yX12_plain : MethodName := ⟨RX12, "plain", "()V"⟩
abbrev cX12_phrase : ByteArray := prog_14_method_66_code
def yX12_phrase : MethodName := ⟨RX12, "phrase", "()V"⟩
abbrev cX12_query : ByteArray := prog_14_method_67_code
def yX12_query : MethodName := ⟨RX12, "query", "()I"⟩
abbrev cX12_power : ByteArray := prog_14_method_68_code
def yX12_power : MethodName := ⟨RX12, "power", "(I)I"⟩
abbrev cX12_begins : ByteArray := prog_14_method_69_code
def yX12_begins : MethodName := ⟨RX12, "begins", "(III)Z"⟩
abbrev cX12_timesBegun : ByteArray := prog_14_method_70_code
def yX12_timesBegun : MethodName := ⟨RX12, "timesBegun", "(III)I"⟩
abbrev cX12_near : ByteArray := prog_14_method_71_code
def yX12_near : MethodName := ⟨RX12, "near", "(III)I"⟩
abbrev cX12_phraseTimes : ByteArray := prog_14_method_72_code
def yX12_phraseTimes : MethodName := ⟨RX12, "phraseTimes", "(I[III)I"⟩
abbrev cX12_worth : ByteArray := prog_14_method_73_code
def yX12_worth : MethodName := ⟨RX12, "worth", "(II)I"⟩
abbrev cX12_postingsBegun : ByteArray := prog_14_method_74_code
def yX12_postingsBegun : MethodName := ⟨RX12, "postingsBegun", "(III)I"⟩
abbrev cX12_costOfWord : ByteArray := prog_14_method_75_code
def yX12_costOfWord : MethodName := ⟨RX12, "costOfWord", "(III)I"⟩
abbrev cX12_cost : ByteArray := prog_14_method_76_code
def yX12_cost : MethodName := ⟨RX12, "cost", "(II)I"⟩
abbrev cX12_find : ByteArray := prog_14_method_77_code
def yX12_find : MethodName := ⟨RX12, "find", "(II)V"⟩
abbrev cX12_comes : ByteArray := prog_14_method_78_code
def yX12_comes : MethodName := ⟨RX12, "comes", "(II)V"⟩
abbrev cX12_isAsked : ByteArray := prog_14_method_79_code
def yX12_isAsked : MethodName := ⟨RX12, "isAsked", "(I)Z"⟩
abbrev cX12_answer : ByteArray := prog_14_method_80_code
def yX12_answer : MethodName := ⟨RX12, "answer", "(III)I"⟩
abbrev cX12_found : ByteArray := prog_14_method_81_code
def yX12_found : MethodName := ⟨RX12, "found", "(III)I"⟩
abbrev cX12_dropBy : ByteArray := prog_14_method_82_code
def yX12_dropBy : MethodName := ⟨RX12, "dropBy", "(I)I"⟩
abbrev cX12_shutLook : ByteArray := prog_14_method_83_code
def yX12_shutLook : MethodName := ⟨RX12, "shutLook", "(I)V"⟩
abbrev cX12_look : ByteArray := prog_14_method_84_code
def yX12_look : MethodName := ⟨RX12, "look", "(II)I"⟩
abbrev cX12_wasFound : ByteArray := prog_14_method_85_code
def yX12_wasFound : MethodName := ⟨RX12, "wasFound", "(I[II)Z"⟩
abbrev cX12_both_ : ByteArray := prog_14_method_86_code
def yX12_both_ : MethodName := ⟨RX12, "both", "(III)I"⟩
abbrev cX12_silence : ByteArray := prog_14_method_87_code
def yX12_silence : MethodName := ⟨RX12, "silence", "(II)I"⟩
abbrev cX12_otherwise : ByteArray := prog_14_method_88_code
def yX12_otherwise : MethodName := ⟨RX12, "otherwise", "(III)I"⟩
abbrev cX12_tells : ByteArray := prog_14_method_89_code
def yX12_tells : MethodName := ⟨RX12, "tells", "(IIII)I"⟩
abbrev cX12_film : ByteArray := prog_14_method_90_code
def yX12_film : MethodName := ⟨RX12, "film", "(III)I"⟩
abbrev cX12_liveMany : ByteArray := prog_14_method_91_code
def yX12_liveMany : MethodName := ⟨RX12, "liveMany", "()I"⟩
abbrev cX12_viewsOpen : ByteArray := prog_14_method_92_code
def yX12_viewsOpen : MethodName := ⟨RX12, "viewsOpen", "()I"⟩
abbrev cX12_count : ByteArray := prog_14_method_93_code
def yX12_count : MethodName := ⟨RX12, "count", "(I)I"⟩
abbrev cX12_isSheet : ByteArray := prog_14_method_94_code
def yX12_isSheet : MethodName := ⟨RX12, "isSheet", "(I)Z"⟩
abbrev cX12_sheet : ByteArray := prog_14_method_95_code
def yX12_sheet : MethodName := ⟨RX12, "sheet", "(III)I"⟩
abbrev cX12_cell : ByteArray := prog_14_method_96_code
def yX12_cell : MethodName := ⟨RX12, "cell", "(III)I"⟩
abbrev cX12_copy : ByteArray := prog_14_method_97_code
def yX12_copy : MethodName := ⟨RX12, "copy", "(IIIII)I"⟩
def RJ13 : String := "java/lang/Long"
def TJ13 : u_T := fun k => match k with
  | _ => ("", "", "", false)
def tyJ13 : Nat → FieldType := fun k => match k with
  | _ => .int
abbrev wsJ130 : List Cond := u_ws RJ13 TJ13 0
theorem nmJ13 : ∀ a, a < 0 → ∀ b, b < 0 → a ≠ b → (TJ13 a).2.1 ≠ (TJ13 b).2.1 := by decide +kernel
theorem tyJ13_ok : ∀ k, k < 0 → parseFieldDescriptor (TJ13 k).2.2.1 = some (tyJ13 k) := by decide +kernel
abbrev cJ13_bitCount_95d88 : ByteArray := prog_15_method_50_code
def yJ13_bitCount_95d88 : MethodName := ⟨RJ13, "bitCount", "(J)I"⟩
def RJ9 : String := "java/lang/Math"
def TJ9 : u_T := fun k => match k with
  | _ => ("", "", "", false)
def tyJ9 : Nat → FieldType := fun k => match k with
  | _ => .int
abbrev wsJ90 : List Cond := u_ws RJ9 TJ9 0
theorem nmJ9 : ∀ a, a < 0 → ∀ b, b < 0 → a ≠ b → (TJ9 a).2.1 ≠ (TJ9 b).2.1 := by decide +kernel
theorem tyJ9_ok : ∀ k, k < 0 → parseFieldDescriptor (TJ9 k).2.2.1 = some (tyJ9 k) := by decide +kernel
abbrev cJ9_abs_0f7a4 : ByteArray := prog_16_method_59_code
def yJ9_abs_0f7a4 : MethodName := ⟨RJ9, "abs", "(I)I"⟩
abbrev cJ9_max_7cf53 : ByteArray := prog_16_method_65_code
def yJ9_max_7cf53 : MethodName := ⟨RJ9, "max", "(II)I"⟩
abbrev cJ9_min_7cf53 : ByteArray := prog_16_method_69_code
def yJ9_min_7cf53 : MethodName := ⟨RJ9, "min", "(II)I"⟩
def RJ0 : String := "java/lang/String"
def TJ0 : u_T := fun k => match k with
  | _ => ("", "", "", false)
def tyJ0 : Nat → FieldType := fun k => match k with
  | _ => .int
abbrev wsJ00 : List Cond := u_ws RJ0 TJ0 0
theorem nmJ0 : ∀ a, a < 0 → ∀ b, b < 0 → a ≠ b → (TJ0 a).2.1 ≠ (TJ0 b).2.1 := by decide +kernel
theorem tyJ0_ok : ∀ k, k < 0 → parseFieldDescriptor (TJ0 k).2.2.1 = some (tyJ0 k) := by decide +kernel
abbrev cJ0_length_8abf5 : ByteArray := prog_17_method_54_code
def yJ0_length_8abf5 : MethodName := ⟨RJ0, "length", "()I"⟩
abbrev cJ0_charAt_5068e : ByteArray := prog_17_method_56_code
def yJ0_charAt_5068e : MethodName := ⟨RJ0, "charAt", "(I)C"⟩
abbrev cJ0_coder_7d493 : ByteArray := prog_17_method_152_code
def yJ0_coder_7d493 : MethodName := ⟨RJ0, "coder", "()B"⟩
abbrev cJ0_isLatin1_aae02 : ByteArray := prog_17_method_154_code
def yJ0_isLatin1_aae02 : MethodName := ⟨RJ0, "isLatin1", "()Z"⟩
abbrev cJ0_checkIndex_df160 : ByteArray := prog_17_method_155_code
def yJ0_checkIndex_df160 : MethodName := ⟨RJ0, "checkIndex", "(II)V"⟩
def RJ1 : String := "java/lang/StringLatin1"
def TJ1 : u_T := fun k => match k with
  | _ => ("", "", "", false)
def tyJ1 : Nat → FieldType := fun k => match k with
  | _ => .int
abbrev wsJ10 : List Cond := u_ws RJ1 TJ1 0
theorem nmJ1 : ∀ a, a < 0 → ∀ b, b < 0 → a ≠ b → (TJ1 a).2.1 ≠ (TJ1 b).2.1 := by decide +kernel
theorem tyJ1_ok : ∀ k, k < 0 → parseFieldDescriptor (TJ1 k).2.2.1 = some (tyJ1 k) := by decide +kernel
abbrev cJ1_charAt_3b067 : ByteArray := prog_18_method_2_code
def yJ1_charAt_3b067 : MethodName := ⟨RJ1, "charAt", "([BI)C"⟩
def RJ2 : String := "java/lang/StringUTF16"
def TJ2 : u_T := fun k => match k with
  | _ => ("", "", "", false)
def tyJ2 : Nat → FieldType := fun k => match k with
  | _ => .int
abbrev wsJ20 : List Cond := u_ws RJ2 TJ2 0
theorem nmJ2 : ∀ a, a < 0 → ∀ b, b < 0 → a ≠ b → (TJ2 a).2.1 ≠ (TJ2 b).2.1 := by decide +kernel
theorem tyJ2_ok : ∀ k, k < 0 → parseFieldDescriptor (TJ2 k).2.2.1 = some (tyJ2 k) := by decide +kernel
abbrev cJ2_getChar_3b067 : ByteArray := prog_19_method_5_code
def yJ2_getChar_3b067 : MethodName := ⟨RJ2, "getChar", "([BI)C"⟩
abbrev cJ2_length_9d52b : ByteArray := prog_19_method_6_code
def yJ2_length_9d52b : MethodName := ⟨RJ2, "length", "([B)I"⟩
abbrev cJ2_charAt_3b067 : ByteArray := prog_19_method_83_code
def yJ2_charAt_3b067 : MethodName := ⟨RJ2, "charAt", "([BI)C"⟩
abbrev cJ2_checkIndex_2214a : ByteArray := prog_19_method_91_code
def yJ2_checkIndex_2214a : MethodName := ⟨RJ2, "checkIndex", "(I[B)V"⟩
def RJ10 : String := "java/lang/System"
def TJ10 : u_T := fun k => match k with
  | _ => ("", "", "", false)
def tyJ10 : Nat → FieldType := fun k => match k with
  | _ => .int
abbrev wsJ100 : List Cond := u_ws RJ10 TJ10 0
theorem nmJ10 : ∀ a, a < 0 → ∀ b, b < 0 → a ≠ b → (TJ10 a).2.1 ≠ (TJ10 b).2.1 := by decide +kernel
theorem tyJ10_ok : ∀ k, k < 0 → parseFieldDescriptor (TJ10 k).2.2.1 = some (tyJ10 k) := by decide +kernel
def RJ3 : String := "jdk/internal/util/Preconditions"
def TJ3 : u_T := fun k => match k with
  | _ => ("", "", "", false)
def tyJ3 : Nat → FieldType := fun k => match k with
  | _ => .int
abbrev wsJ30 : List Cond := u_ws RJ3 TJ3 0
theorem nmJ3 : ∀ a, a < 0 → ∀ b, b < 0 → a ≠ b → (TJ3 a).2.1 ≠ (TJ3 b).2.1 := by decide +kernel
theorem tyJ3_ok : ∀ k, k < 0 → parseFieldDescriptor (TJ3 k).2.2.1 = some (tyJ3 k) := by decide +kernel
abbrev cJ3_checkIndex_8e157 : ByteArray := prog_21_method_11_code
def yJ3_checkIndex_8e157 : MethodName := ⟨RJ3, "checkIndex", "(IILjava/util/function/BiFunction;)I"⟩
def RL : String := "LiveIndexLaw"
abbrev cL_law : ByteArray := code
def yL_law : MethodName := ⟨RL, "law", "([I)Z"⟩
end
section
/-! THE PURE HEAP: how many cells; each cell's kind (0 .. 12 objects by class, 13 int[], 14 long[], 15 boolean[], 16 .. 20 arrays of objects, 21 int[][], 22 boolean[][]) and length; three memories: ints (as whole numbers within the range of an int), longs, references -/
abbrev AH : Type := Nat × (Nat → Nat × Nat) × (Nat → Nat → Int) × (Nat → Nat → Int64) × (Nat → Nat → Option Nat)
def nH (h : AH) : Nat := h.1
def kH (h : AH) (a : Nat) : Nat × Nat := h.2.1 a
def iH (h : AH) (a k : Nat) : Int := h.2.2.1 a k
def jH (h : AH) (a k : Nat) : Int64 := h.2.2.2.1 a k
def rH (h : AH) (a k : Nat) : Option Nat := h.2.2.2.2 a k
def u2 {α : Type} (f : Nat → Nat → α) (a k : Nat) (v : α) : Nat → Nat → α := fun x y => if x = a then (if y = k then v else f x y) else f x y
def r2 {α : Type} (f : Nat → Nat → α) (a : Nat) (g : Nat → α) : Nat → Nat → α := fun x y => if x = a then g y else f x y
def sI (h : AH) (a k : Nat) (v : Int) : AH := (h.1, h.2.1, u2 h.2.2.1 a k v, h.2.2.2.1, h.2.2.2.2)
def sJ (h : AH) (a k : Nat) (v : Int64) : AH := (h.1, h.2.1, h.2.2.1, u2 h.2.2.2.1 a k v, h.2.2.2.2)
def sR (h : AH) (a k : Nat) (v : Option Nat) : AH := (h.1, h.2.1, h.2.2.1, h.2.2.2.1, u2 h.2.2.2.2 a k v)
def sW (h : AH) (a : Nat) (g : Nat → Int) : AH := (h.1, h.2.1, r2 h.2.2.1 a g, h.2.2.2.1, h.2.2.2.2)
def nw (h : AH) (t n : Nat) : AH := (h.1 + 1, (fun x => if x = h.1 then (t, n) else h.2.1 x), r2 h.2.2.1 h.1 (fun _ => 0), r2 h.2.2.2.1 h.1 (fun _ => 0), r2 h.2.2.2.2 h.1 (fun _ => none))
/-- which fields of a kind are references -/
def fR (t : Nat) : List Bool := match t with
  | 0 => [false, true]
  | 1 => [true, true, true, false, false]
  | 2 => [false, true, false]
  | 3 => [false, false, false, true]
  | 4 => [false, false]
  | 5 => [true, false, true]
  | 6 => [true, true, false, false, false, false, false, false]
  | 7 => [false, true, true, true, true, false, false]
  | 8 => [true, false, false]
  | 9 => [true, true, false, false]
  | 10 => [true, false, true, false]
  | 11 => [true, true, false, true, true, true, true, true, false, true, true, false, true, false, true, true, true, true, true, true]
  | 12 => [false, true, true, true, true, false, true, true, true, true, true, true, true, false, true, false, true, true, false, true, false, false, false, false, false, false, false, false, true, true, false, true, true, true, false, false, false, false, false, false, false, true, false, false, true, true, false, false, true, true, true, true, true, true]
  | _ => []
abbrev vwCl : List vw_C := [(RX0, TX0, 2), (RX1, TX1, 5), (RX2, TX2, 3), (RX3, TX3, 4), (RX4, TX4, 2), (RX5, TX5, 3), (RX6, TX6, 8), (RX7, TX7, 7), (RX8, TX8, 3), (RX9, TX9, 4), (RX10, TX10, 4), (RX11, TX11, 20), (RX12, TX12, 54)]
def ov (b : Nat) (h : AH) (a t k : Nat) : Value := if (fR t).getD k false = true then va_rf ((rH h a k).map (fun x => b + x)) else .int (Int32.ofInt (iH h a k))
def ovs (b : Nat) (h : AH) (a t : Nat) : List Value := (List.range (fR t).length).map (ov b h a t)
def cE (cy : Nat → ClassId) (b : Nat) (h : AH) (a : Nat) : va_E :=
  if (kH h a).1 < 13 then .inr ((kH h a).1, ovs b h a (kH h a).1)
  else if (kH h a).1 = 14 then .inl (cy (kH h a).1, (kH h a).2, .inr (.inl (jH h a)))
  else if (kH h a).1 < 16 then .inl (cy (kH h a).1, (kH h a).2, .inl (fun j => Int32.ofInt (iH h a j)))
  else .inl (cy (kH h a).1, (kH h a).2, .inr (.inr (.inr (.inr (fun j => (rH h a j).map (fun x => b + x))))))
/-- a value: a whole number (an int), a long, a reference -/
abbrev AV : Type := Int ⊕ (Int64 ⊕ Option Nat)
abbrev vi (x : Int) : AV := .inl x
abbrev vl (x : Int64) : AV := .inr (.inl x)
abbrev vq (r : Option Nat) : AV := .inr (.inr r)
abbrev vr (a : Nat) : AV := .inr (.inr (some a))
def inr (x : Int) : Prop := -2147483648 ≤ x ∧ x < 2147483648
def okV (v : AV) : Prop := match v with
  | .inl x => inr x
  | _ => True
/-- the world: the pure heap stands in the machine's heap from b on, and is all that stands there -/
def Wd (D : va_G) (cy : Nat → ClassId) (b : Nat) (h : AH) (H : Heap) : Prop := H.size = b + nH h ∧ (∀ a, a < nH h → va_at D vwCl (b + a, cE cy b h a) H) ∧ ∀ a k, inr (iH h a k)
def cv (b : Nat) (v : AV) : Value := match v with
  | .inl x => .int (Int32.ofInt x)
  | .inr (.inl x) => .long x
  | .inr (.inr r) => va_rf (r.map (fun x => b + x))
def cat (v : AV) : Nat := match v with
  | .inr (.inl _) => 2
  | _ => 1
def lg : List (Option AV) → Nat → Option AV
  | [], _ => none
  | x :: _, 0 => x
  | _ :: l, n + 1 => lg l n
def lst : List (Option AV) → Nat → Option AV → List (Option AV)
  | [], _, _ => []
  | _ :: l, 0, v => v :: l
  | x :: l, n + 1, v => x :: lst l n v
def lvs (b : Nat) (lo : List (Option AV)) : List (Nat × Value) := (List.range lo.length).filterMap (fun i => (lg lo i).map (fun v => (i, cv b v)))
abbrev Lc (b : Nat) (n : Nat) (ls : Array Slot) (lo : List (Option AV)) : Prop := lv_has ls n (lvs b lo)
def tyA (t : Nat) : FieldType := match t with
  | 13 => .int
  | 14 => .long
  | 15 => .boolean
  | 16 => .object RX0
  | 17 => .object RX5
  | 18 => .object RX7
  | 19 => .object RX8
  | 20 => .object RX9
  | 21 => .array .int
  | _ => .array .boolean
def tyL (cy : Nat → ClassId) : List (ClassId × FieldType) := (List.range 10).map (fun i => (cy (13 + i), tyA (13 + i)))
/-- the words of the tables that any method keeps -/
def gt : List Cond := lw_tbl.filter goodWord
theorem gt_ok {w : Cond} (h : w ∈ lw_tbl) (g : goodWord w = true) : w ∈ gt := List.mem_filter.mpr ⟨h, g⟩
abbrev MI : Type := MethodName × ByteArray × Nat × Option FieldType
abbrev cdw (y : MI) : Cond := Cond.code y.1 y.2.1 y.2.2.1 y.2.2.2
def wsM (y : MI) : List Cond := cdw y :: gt
theorem gt_good {y : MI} (h : cdw y ∈ gt) : GoodIn gt (wsM y) := fun w hw => by
  have hm : w ∈ gt := by
    rcases List.mem_cons.mp hw with e | e
    · rw [e]; exact h
    · exact e
  exact ⟨hm, good_of_word (List.mem_filter.mp hm).2⟩
end
section
theorem lg_len : ∀ (lo : List (Option AV)) (i : Nat) (v : AV), lg lo i = some v → i < lo.length
  | [], i, v, h => by simp [lg] at h
  | x :: l, 0, v, h => by simp
  | x :: l, n + 1, v, h => by
    have := lg_len l n v (by simpa [lg] using h)
    simp; omega
theorem lvs_mem {b : Nat} {lo : List (Option AV)} {q : Nat × Value} : q ∈ lvs b lo ↔ ∃ v, lg lo q.1 = some v ∧ q.2 = cv b v := by
  unfold lvs
  rw [List.mem_filterMap]
  constructor
  · rintro ⟨i, -, h⟩
    cases hg : lg lo i with
    | none => rw [hg] at h; cases h
    | some v => rw [hg] at h; cases h; exact ⟨v, hg, rfl⟩
  · rintro ⟨v, h1, h2⟩
    refine ⟨q.1, List.mem_range.mpr (lg_len _ _ _ h1), ?_⟩
    rw [h1]
    show some (q.1, cv b v) = some q
    rw [← h2]
theorem Lc.get {b n : Nat} {ls : Array Slot} {lo : List (Option AV)} (h : Lc b n ls lo) {i : Nat} {v : AV} (hi : lg lo i = some v) : ls[i]? = some (.val (cv b v)) := h.2.2 (i, cv b v) (lvs_mem.mpr ⟨v, hi, rfl⟩)
theorem lg_lst : ∀ (lo : List (Option AV)) (i j : Nat) (v : Option AV) (w : AV), lg (lst lo i v) j = some w → (j = i ∧ v = some w) ∨ (j ≠ i ∧ lg lo j = some w)
  | [], i, j, v, w, h => by simp [lst, lg] at h
  | x :: l, 0, 0, v, w, h => by simp [lst, lg] at h; exact Or.inl ⟨rfl, h⟩
  | x :: l, 0, j + 1, v, w, h => by simp [lst, lg] at h; exact Or.inr ⟨by omega, by simpa [lg] using h⟩
  | x :: l, i + 1, 0, v, w, h => by simp [lst, lg] at h; exact Or.inr ⟨by omega, by simpa [lg] using h⟩
  | x :: l, i + 1, j + 1, v, w, h => by
    simp [lst, lg] at h
    rcases lg_lst l i j v w h with ⟨e, h1⟩ | ⟨e, h1⟩
    · exact Or.inl ⟨by omega, h1⟩
    · exact Or.inr ⟨by omega, by simpa [lg] using h1⟩
/-- no long stands just ahead of a place -/
def noL (lo : List (Option AV)) : Nat → Bool
  | 0 => true
  | i + 1 => match lg lo i with
    | some v => cat v == 1
    | none => true
theorem cv_cat (b : Nat) (v : AV) : (cv b v).category = cat v := by
  rcases v with x | x | _ | x <;> rfl
theorem Lc.of1 {b n : Nat} {ls : Array Slot} {lo : List (Option AV)} {i : Nat} {v : AV} (hno : noL lo i = true) (h : lv_has ls n ((i, cv b v) :: (lvs b lo).filter (fun q => !(q.1 == i) && !(q.1 + 1 == i && q.2.category == 2)))) : Lc b n ls (lst lo i (some v)) := by
  refine ⟨h.1, h.2.1, fun q hq => h.2.2 q ?_⟩
  obtain ⟨w, h1, h2⟩ := lvs_mem.mp hq
  rcases lg_lst _ _ _ _ _ h1 with ⟨e, h3⟩ | ⟨e, h3⟩
  · cases h3
    refine List.mem_cons.mpr (Or.inl ?_)
    rw [← e, ← h2]
  · refine List.mem_cons.mpr (Or.inr (List.mem_filter.mpr ⟨lvs_mem.mpr ⟨w, h3, h2⟩, ?_⟩))
    have e1 : (q.1 == i) = false := by simpa using e
    rw [e1]
    by_cases e2 : q.1 + 1 = i
    · subst e2
      have : cat w = 1 := by simpa [noL, h3] using hno
      rw [h2, cv_cat, this]
      simp
    · have : (q.1 + 1 == i) = false := by simpa using e2
      rw [this]
      rfl
theorem Lc.of2 {b n : Nat} {ls : Array Slot} {lo : List (Option AV)} {i : Nat} {v : AV} (hno : noL lo i = true) (h : lv_has ls n ((i, cv b v) :: (lvs b lo).filter (fun q => !(q.1 == i) && (!(q.1 == i + 1) && !(q.1 + 1 == i && q.2.category == 2))))) : Lc b n ls (lst (lst lo (i + 1) none) i (some v)) := by
  refine ⟨h.1, h.2.1, fun q hq => h.2.2 q ?_⟩
  obtain ⟨w, h1, h2⟩ := lvs_mem.mp hq
  rcases lg_lst _ _ _ _ _ h1 with ⟨e, h3⟩ | ⟨e, h3⟩
  · cases h3
    refine List.mem_cons.mpr (Or.inl ?_)
    rw [← e, ← h2]
  · rcases lg_lst _ _ _ _ _ h3 with ⟨e', h3'⟩ | ⟨e', h3'⟩
    · cases h3'
    · refine List.mem_cons.mpr (Or.inr (List.mem_filter.mpr ⟨lvs_mem.mpr ⟨w, h3', h2⟩, ?_⟩))
      have e1 : (q.1 == i) = false := by simpa using e
      have e1' : (q.1 == i + 1) = false := by simpa using e'
      rw [e1, e1']
      by_cases e2 : q.1 + 1 = i
      · subst e2
        have : cat w = 1 := by simpa [noL, h3'] using hno
        rw [h2, cv_cat, this]
        simp
      · have : (q.1 + 1 == i) = false := by simpa using e2
        rw [this]
        rfl
theorem Wd.upd {D : va_G} {cy : Nat → ClassId} {b a : Nat} {h h' : AH} {H H' : Heap} (w : Wd D cy b h H) (hn : nH h' = nH h) (hr : ∀ a k, inr (iH h' a k)) (hz : H'.size = H.size) (he : va_at D vwCl (b + a, cE cy b h' a) H') (ho : ∀ q, q ≠ b + a → H'[q]? = H[q]?) (hc : ∀ x, x ≠ a → cE cy b h' x = cE cy b h x) : Wd D cy b h' H' := by
  refine ⟨by rw [hz, hn]; exact w.1, fun x hx => ?_, hr⟩
  by_cases e : x = a
  · subst e; exact he
  · rw [hc x e]
    exact (w.2.1 x (by rw [← hn]; exact hx)).kept (ho _ (by intro q; exact e (by simpa using q)))
theorem Wd.push {D : va_G} {cy : Nat → ClassId} {b : Nat} {h h' : AH} {H H' : Heap} (w : Wd D cy b h H) (hn : nH h' = nH h + 1) (hr : ∀ a k, inr (iH h' a k)) (hz : H'.size = H.size + 1) (he : va_at D vwCl (b + nH h, cE cy b h' (nH h)) H') (ho : ∀ q, q < H.size → H'[q]? = H[q]?) (hc : ∀ x, x < nH h → cE cy b h' x = cE cy b h x) : Wd D cy b h' H' := by
  refine ⟨by rw [hz, hn, w.1]; omega, fun x hx => ?_, hr⟩
  by_cases e : x = nH h
  · subst e; exact he
  · have hx' : x < nH h := by omega
    rw [hc x hx']
    exact (w.2.1 x hx').kept (ho _ (by rw [w.1]; show b + x < _; omega))
theorem cE_sI {cy : Nat → ClassId} {b : Nat} {h : AH} {a k : Nat} {v : Int} {x : Nat} (e : x ≠ a) : cE cy b (sI h a k v) x = cE cy b h x := by
  have h1 : iH (sI h a k v) x = iH h x := by funext y; simp [iH, sI, u2, e]
  have h2 : ∀ t, ovs b (sI h a k v) x t = ovs b h x t := fun t => by
    unfold ovs; congr 1; funext j; unfold ov; rw [h1]; rfl
  unfold cE
  rw [h1, h2]
  rfl
theorem cE_sW {cy : Nat → ClassId} {b : Nat} {h : AH} {a : Nat} {g : Nat → Int} {x : Nat} (e : x ≠ a) : cE cy b (sW h a g) x = cE cy b h x := by
  have h1 : iH (sW h a g) x = iH h x := by funext y; simp [iH, sW, r2, e]
  have h2 : ∀ t, ovs b (sW h a g) x t = ovs b h x t := fun t => by
    unfold ovs; congr 1; funext j; unfold ov; rw [h1]; rfl
  unfold cE
  rw [h1, h2]
  rfl
theorem cE_sJ {cy : Nat → ClassId} {b : Nat} {h : AH} {a k : Nat} {v : Int64} {x : Nat} (e : x ≠ a) : cE cy b (sJ h a k v) x = cE cy b h x := by
  have h1 : jH (sJ h a k v) x = jH h x := by funext y; simp [jH, sJ, u2, e]
  unfold cE
  rw [h1]
  rfl
theorem cE_sR {cy : Nat → ClassId} {b : Nat} {h : AH} {a k : Nat} {v : Option Nat} {x : Nat} (e : x ≠ a) : cE cy b (sR h a k v) x = cE cy b h x := by
  have h1 : rH (sR h a k v) x = rH h x := by funext y; simp [rH, sR, u2, e]
  have h2 : ∀ t, ovs b (sR h a k v) x t = ovs b h x t := fun t => by
    unfold ovs; congr 1; funext j; unfold ov; rw [h1]; rfl
  unfold cE
  rw [h1, h2]
  rfl
theorem cE_nw {cy : Nat → ClassId} {b : Nat} {h : AH} {t n : Nat} {x : Nat} (e : x < nH h) : cE cy b (nw h t n) x = cE cy b h x := by
  have e' : x ≠ h.1 := Nat.ne_of_lt e
  have h0 : kH (nw h t n) x = kH h x := by simp [kH, nw, e']
  have h1 : rH (nw h t n) x = rH h x := by funext y; simp [rH, nw, r2, e']
  have h3 : iH (nw h t n) x = iH h x := by funext y; simp [iH, nw, r2, e']
  have h4 : jH (nw h t n) x = jH h x := by funext y; simp [jH, nw, r2, e']
  have h2 : ∀ t', ovs b (nw h t n) x t' = ovs b h x t' := fun t' => by
    unfold ovs; congr 1; funext j; unfold ov; rw [h1, h3]
  unfold cE
  rw [h0, h1, h2, h3, h4]
end
section
/-! THE JUDGEMENT: the kit's W with all its context packed; what stays fixed below the base b -/
def undr (j : Nat) : Int32 := match j with
  | 0 => -1
  | 1 => 0
  | 2 => 0
  | 3 => 1
  | 4 => 2
  | _ => 0
def spn (j : Nat) : Int32 := match j with
  | 0 => 387420489
  | 1 => 14348907
  | 2 => 531441
  | 3 => 19683
  | 4 => 729
  | 5 => 27
  | _ => 1
abbrev ab (b : Nat) : Nat → Prop := fun q => b ≤ q
abbrev sLen : List Nat := [2, 3, 3]
abbrev sByt : List (List Int32) := [[111, 114], [97, 110, 100], [110, 111, 116]]
def StP (b : Nat) (U : State) (H : Heap) : Prop :=
  (∃ t, va_Z "LiveIndex$Policy" "UNDER" "[I" (.ref t) (ab b) U H ∧ va_T .int t 6 (fun j => .int (undr j)) (ab b) U H) ∧
  (∃ t, va_Z "LiveIndex" "SPANS" "[I" (.ref t) (ab b) U H ∧ va_T .int t 7 (fun j => .int (spn j)) (ab b) U H) ∧
  (∃ adK adV : Nat → Nat, vk_S 3 sLen sByt adK adV (ab b) U H ∧ vk_R "LiveIndexModel" 269 "or" (adK 0) U ∧ vk_R "LiveIndexModel" 275 "and" (adK 1) U ∧ vk_R "LiveIndexModel" 277 "not" (adK 2) U) ∧
  va_Z "java/lang/String" "COMPACT_STRINGS" "Z" (.int 1) (ab b) U H ∧ va_Zq "jdk/internal/util/Preconditions" "SIOOBE_FORMATTER" "Ljava/util/function/BiFunction;" (ab b) U H
theorem StP.go {b : Nat} {s U : State} {locs : List Loc} (h : StP b s s.heap) (hW : s.WarmedH U.vm) (hS : va_S (ab b) s.heap U.heap locs) : StP b U U.heap := by
  have hA := hW.alike
  have hq : ∀ a : Nat, a < s.heap.size → ¬ ab b a → U.heap[a]? = s.heap[a]? := hS.2.1
  obtain ⟨⟨t, h1, h2⟩, ⟨t', h3, h4⟩, ⟨adK, adV, h5, h6, h7, h8⟩, h9, h10⟩ := h
  exact ⟨⟨t, va_Z.moved hA (h1.kept hq), va_T.moved hA (h2.kept hq)⟩, ⟨t', va_Z.moved hA (h3.kept hq), va_T.moved hA (h4.kept hq)⟩, ⟨adK, adV, vk_S.moved hA (h5.kept hq), vk_R.warm hW h6, vk_R.warm hW h7, vk_R.warm hW h8⟩, va_Z.moved hA (h9.kept hq), va_Zq.moved hA (h10.kept hq)⟩
/-- the words of the nest and of arrays of objects -/
def nestM : List (Nat × MethodName) := [(9, yX10_init), (24, yX9_init), (44, yX4_init), (51, yX3_init), (77, yX2_init), (90, yX1_init), (106, yX5_init), (107, yX8_init)]
def aoL : List String := [RX0, RX5, RX7, RX8, RX9]
abbrev EN : Type := Nat × va_G × (Nat → ClassId)
def Gs (E : EN) (U : State) : Prop := va_K E.2.1 vwCl (tyL E.2.2) U ∧ (∀ q ∈ nestM, va_Nw (.methodLinkNest RX11 q.1 q.2 RX11) U) ∧ va_Nw (.fieldLinkNest RX6 95 RX11 "SPANS" "[I" RX11) U ∧ (∀ C ∈ aoL, va_AO C U) ∧ StP E.1 U U.heap
theorem Gs.go {E : EN} {s U : State} {locs : List Loc} (h : Gs E s) (hW : s.WarmedH U.vm) (hS : va_S (ab E.1) s.heap U.heap locs) : Gs E U :=
  ⟨va_K.moved hW.alike h.1, fun q hq => va_Nw.warmM hW (h.2.1 q hq), va_Nw.warmF hW h.2.2.1, fun C hC => va_AO.moved hW.alike (h.2.2.2.1 C hC), h.2.2.2.2.go hW hS⟩
def Cx (y : MI) (E : EN) (p : Program) (s : State) (m : MethodId) (args : Array Value) (meth : Method) (c : Code) : Prop :=
  p.tables.exec = Jvm.exec ∧ c.code = y.2.1 ∧ c.maxLocals = y.2.2.1 ∧ s.vm.findClass y.1.cls = some m.cls ∧ (∀ w ∈ gt, w.before args s = true) ∧ Gs E s ∧ (y.1.name = "<init>" → meth.name = "<init>")
/-- a return: the instruction, by the method's type -/
def rtI (y : MI) (v : Option AV) (pc : Nat) : Prop :=
  (∃ x, v = some (vi x) ∧ y.2.2.2 = some .int ∧ decode y.2.1 pc = .ok (.ireturn, 1)) ∨
  (∃ x, v = some (vi x) ∧ (x = 0 ∨ x = 1) ∧ y.2.2.2 = some .boolean ∧ decode y.2.1 pc = .ok (.ireturn, 1)) ∨
  (∃ x, v = some (vl x) ∧ y.2.2.2 = some .long ∧ decode y.2.1 pc = .ok (.lreturn, 1)) ∨
  (∃ x t, v = some (vr x) ∧ y.2.2.2 = some (.array t) ∧ decode y.2.1 pc = .ok (.areturn, 1)) ∨
  (v = none ∧ y.2.2.2 = none ∧ decode y.2.1 pc = .ok (.return_, 1))
def Rt (y : MI) (E : EN) (Q : Option AV → AH → Prop) (p : Program) (l : Launch) (e : Env) (R : Room) (s : State) (m : MethodId) (args : Array Value) (below : List Frame) (meth : Method) (c : Code) (Z : State → Prop) : Prop :=
  ∀ (v : Option AV) (h : AH) (pc : Nat) (ls : Array Slot) (H : Heap) (locs : List Loc) (cells slots : Nat), rtI y v pc → (∀ w, v = some w → okV w) → Q v h → Wd E.2.1 E.2.2 E.1 h H → va_S (ab E.1) s.heap H locs → cells ≤ R.cells → slots ≤ R.slots → W p l e R s m args below meth c H locs cells slots Z (F0 m pc ls (v.toList.map (cv E.1)))
def wp (y : MI) (d rc rs : Nat) (Q : Option AV → AH → Prop) (pc : Nat) (lo : List (Option AV)) (st : List AV) (h : AH) : Prop :=
  ∀ (E : EN) (p : Program) (l : Launch) (e : Env) (R : Room) (s : State) (m : MethodId) (args : Array Value) (below : List Frame) (meth : Method) (c : Code) (Z : State → Prop), Cx y E p s m args meth c → Rt y E Q p l e R s m args below meth c Z → d ≤ R.frames → 64 * d ≤ R.locals → E.1 ≤ s.heap.size →
  ∀ (H : Heap) (locs : List Loc) (ls : Array Slot) (cells slots : Nat), cells + rc ≤ R.cells → slots + rs ≤ R.slots → Wd E.2.1 E.2.2 E.1 h H → va_S (ab E.1) s.heap H locs → Lc E.1 y.2.2.1 ls lo → (∀ v ∈ st, okV v) → (∀ i v, lg lo i = some v → okV v) → W p l e R s m args below meth c H locs cells slots Z (F0 m pc ls (st.map (cv E.1)))
/-- a method's contract over the pure heap: depth of frames, new cells, new slots -/
def PcM (E : EN) (av : List AV) (h : AH) : Array Value → State → Prop := va_Pc (av.map (cv E.1)) (fun U => (∀ v ∈ av, okV v) ∧ Wd E.2.1 E.2.2 E.1 h U.heap ∧ Gs E U)
def QcM (E : EN) (Q : Option AV → AH → Prop) : Array Value → State → Outcome → State → Prop := fun _ st oc t => ∃ (v : Option AV) (h : AH), oc = .returned (v.map (cv E.1)) ∧ (∀ w, v = some w → okV w) ∧ Q v h ∧ Wd E.2.1 E.2.2 E.1 h t.heap ∧ va_F (ab E.1) st t
abbrev rmM (d mc ms : Nat) : Room := { frames := d, cells := mc, slots := ms, locals := 64 * d }
def Ct (d mc ms : Nat) (y : MI) (av : List AV) (h : AH) (Q : Option AV → AH → Prop) : Prop :=
  ∀ (l : Launch) (E : EN), Met l y.1 (wsM y) (rmM d mc ms) (PcM E av h) (QcM E Q) mc ms (ab E.1)
/-- locals at the entry -/
def enL : List AV → List (Option AV)
  | [] => []
  | v :: l => if cat v = 2 then some v :: none :: enL l else some v :: enL l
def lo0 (av : List AV) (n : Nat) : List (Option AV) := enL av ++ List.replicate (n - (enL av).length) none
theorem lg_app : ∀ (a : List (Option AV)) (k i : Nat), lg (a ++ List.replicate k none) i = lg a i
  | [], k, i => by
    have : ∀ (k i : Nat), lg (List.replicate k none) i = none := by
      intro k
      induction k with
      | zero => intro i; rfl
      | succ k ih => intro i; cases i with
        | zero => rfl
        | succ i => simpa [List.replicate_succ, lg] using ih i
    simpa [lg] using this k i
  | x :: a, k, 0 => rfl
  | x :: a, k, i + 1 => by simpa [lg] using lg_app a k i
theorem enL_args (b : Nat) : ∀ (av : List AV) (k i : Nat) (v : AV), lg (enL av) i = some v → (k + i, cv b v) ∈ lv_args k (av.map (cv b))
  | [], k, i, v, h => by simp [enL, lg] at h
  | x :: av, k, i, v, h => by
    by_cases hc : cat x = 2
    · rw [enL, if_pos hc] at h
      have hc' : (cv b x).category = 2 := by rw [cv_cat]; exact hc
      match i, h with
      | 0, h => cases h; simp [lv_args]
      | 1, h => cases h
      | i + 2, h =>
        have := enL_args b av (k + 2) i v (by simpa [lg] using h)
        simp [lv_args, hc']
        rw [show k + (i + 2) = k + 2 + i by omega]
        exact this
    · rw [enL, if_neg hc] at h
      have hc' : ¬ (cv b x).category = 2 := by rw [cv_cat]; exact hc
      match i, h with
      | 0, h => cases h; simp [lv_args]
      | i + 1, h =>
        have := enL_args b av (k + 1) i v (by simpa [lg] using h)
        simp [lv_args, hc']
        rw [show k + (i + 1) = k + 1 + i by omega]
        exact this
end
section
theorem enL_len (b : Nat) : ∀ av : List AV, (lg_sl (av.map (cv b))).length = (enL av).length
  | [] => rfl
  | x :: av => by
    have ih := enL_len b av
    by_cases hc : cat x = 2
    · have hc' : (cv b x).category = 2 := by rw [cv_cat]; exact hc
      simp [lg_sl, enL, hc, hc'] at ih ⊢
      omega
    · have hc' : ¬ (cv b x).category = 2 := by rw [cv_cat]; exact hc
      simp [lg_sl, enL, hc, hc'] at ih ⊢
      omega
theorem enL_mem : ∀ (av : List AV) (i : Nat) (v : AV), lg (enL av) i = some v → v ∈ av
  | [], i, v, h => by simp [enL, lg] at h
  | x :: av, i, v, h => by
    by_cases hc : cat x = 2
    · rw [enL, if_pos hc] at h
      match i, h with
      | 0, h => cases h; exact List.mem_cons_self
      | 1, h => cases h
      | i + 2, h => exact List.mem_cons_of_mem _ (enL_mem av i v (by simpa [lg] using h))
    · rw [enL, if_neg hc] at h
      match i, h with
      | 0, h => cases h; exact List.mem_cons_self
      | i + 1, h => exact List.mem_cons_of_mem _ (enL_mem av i v (by simpa [lg] using h))
theorem Lc_entry (b n : Nat) (av : List AV) {ls : Array Slot} (h : lv_has ls n (lv_args 0 (av.map (cv b)))) : Lc b n ls (lo0 av n) := by
  refine ⟨h.1, h.2.1, fun q hq => h.2.2 q ?_⟩
  obtain ⟨v, h1, h2⟩ := lvs_mem.mp hq
  unfold lo0 at h1
  rw [lg_app] at h1
  have := enL_args b av 0 q.1 v h1
  rw [Nat.zero_add, ← h2] at this
  exact this
theorem Ct.of {y : MI} {d mc ms : Nat} {av : List AV} {h : AH} {Q : Option AV → AH → Prop} (hy : plainName y.1.cls = true) (hlen : (enL av).length ≤ y.2.2.1) (hw : wp y d mc ms Q 0 (lo0 av y.2.2.1) [] h) : Ct d mc ms y av h Q := by
  intro l E
  refine Met.ofW (cc := y.2.1) (maxL := y.2.2.1) (ret := y.2.2.2) hy rfl ?_
  intro p e s m args below meth c s₁ B hml hv
  obtain ⟨rfl, hav, hWd, hG⟩ := hv
  have hts := atoms_spec (ws := wsM y) B.pre
  have hown : s.vm.findClass y.1.cls = some m.cls := findClass_of_methodNamed B.named
  have hlocks := B.notSynchronized
  have hx := B.exec
  have hb := B.bytes
  have hr := B.returns
  have hin : meth.name = y.1.name := (name_of_methodNamed B.named B.method).1
  have hl := lv_entry (av.map (cv E.1)) (n := y.2.2.1) (by rw [enL_len]; exact hlen)
  rw [lg_entry_eq]
  refine hw E p l e _ s m _ below meth c _ ⟨hx, hb, hml, hown, fun w h => hts w (List.mem_cons_of_mem _ h), hG, fun e => hin.trans e⟩ ?_ (Nat.le_refl _) (Nat.le_refl _) (by rw [hWd.1]; omega) s.heap [] _ 0 0 (Nat.le_of_eq (Nat.zero_add _)) (Nat.le_of_eq (Nat.zero_add _)) hWd va_S.rf (Lc_entry _ _ _ hl) (fun v h => by cases h) (fun i v h => hav v (enL_mem av i v (by rw [lo0, lg_app] at h; exact h)))
  intro v h' pc ls H locs cells slots hi hok hQ hWd' hS hc hs
  refine W.widen (k := mc) (n := ms) hc hs ?_
  have hq : ∀ t : State, t.heap = H → s.WarmedH t.vm → QcM E Q (List.map (cv E.1) av).toArray s (.returned (v.map (cv E.1))) t := fun t ht _ => ⟨v, h', rfl, hok, hQ, by rw [ht]; exact hWd', hS.F ht⟩
  rcases hi with ⟨x, rfl, e1, e2⟩ | ⟨x, rfl, e0, e1, e2⟩ | ⟨x, rfl, e1, e2⟩ | ⟨x, t, rfl, e1, e2⟩ | ⟨rfl, e1, e2⟩
  · exact W.iret (v := Int32.ofInt x) hx hb (hr.trans e1) hq hS.2.2 e2
  · exact W.zret (v := Int32.ofInt x) (ty := .boolean) hx hb (hr.trans e1) (by rcases e0 with rfl | rfl <;> decide +kernel) hq hS.2.2 e2
  · exact W.lret (v := x) hx hb (hr.trans e1) hq hS.2.2 e2
  · exact W.aret (v := .ref (E.1 + x)) (rt := .array t) hx hb (hr.trans e1) (Or.inr ⟨t, rfl⟩) (Or.inr ⟨_, rfl⟩) hq hS.2.2 e2
  · exact W.vret hx hb (hr.trans e1) hq hS.2.2 e2
end
section
section WROWS
variable {y : MI} {d rc rs : Nat} {Q : Option AV → AH → Prop} {pc q : Nat} {lo : List (Option AV)} {st st' : List AV} {h : AH}
/-- an instruction that changes the operand stack alone -/
theorem wp_pure (k : wp y d rc rs Q q lo st' h) (hstep : ∀ (b : Nat) (p : Program) (l : Launch) (e : Env) (R : Room) (s : State) (m : MethodId) (args : Array Value) (below : List Frame) (meth : Method) (c : Code) (Z : State → Prop) (H : Heap) (locs : List Loc) (ls : Array Slot) (cells slots : Nat), p.tables.exec = Jvm.exec → c.code = y.2.1 → Lc b y.2.2.1 ls lo → (∀ v ∈ st, okV v) → W p l e R s m args below meth c H locs cells slots Z (F0 m q ls (st'.map (cv b))) → W p l e R s m args below meth c H locs cells slots Z (F0 m pc ls (st.map (cv b))))
    (hok : (∀ v ∈ st, okV v) → (∀ i v, lg lo i = some v → okV v) → ∀ v ∈ st', okV v) : wp y d rc rs Q pc lo st h := by
  intro E p l e R s m args below meth c Z hC hR hd1 hd2 hb H locs ls cells slots hc hs hW hS hl hst hlo
  exact hstep E.1 p l e R s m args below meth c Z H locs ls cells slots hC.1 hC.2.1 hl hst (k E p l e R s m args below meth c Z hC hR hd1 hd2 hb H locs ls cells slots hc hs hW hS hl (hok hst hlo) hlo)
theorem ok_cons {v : AV} {st : List AV} : (∀ w ∈ v :: st, okV w) ↔ okV v ∧ ∀ w ∈ st, okV w := List.forall_mem_cons
theorem oi_add (x z : Int) : Int32.ofInt x + Int32.ofInt z = Int32.ofInt (x + z) := (Int32.ofInt_add x z).symm
theorem oi_sub (x z : Int) : Int32.ofInt x - Int32.ofInt z = Int32.ofInt (x - z) := (Int32.ofInt_sub x z).symm
theorem oi_mul (x z : Int) : Int32.ofInt x * Int32.ofInt z = Int32.ofInt (x * z) := (Int32.ofInt_mul x z).symm
theorem oi_back (x : Int32) : Int32.ofInt x.toInt = x := Int32.ofInt_toInt x
theorem oi_in (x : Int32) : inr x.toInt := ⟨Int32.le_toInt x, Int32.toInt_lt x⟩
theorem oi_to {x : Int} (h : inr x) : (Int32.ofInt x).toInt = x := Int32.toInt_ofInt_of_le h.1 h.2
theorem oi_lt {x z : Int} (hx : inr x) (hz : inr z) : Int32.ofInt x < Int32.ofInt z ↔ x < z := by rw [Int32.lt_iff_toInt_lt, oi_to hx, oi_to hz]
theorem oi_le {x z : Int} (hx : inr x) (hz : inr z) : Int32.ofInt x ≤ Int32.ofInt z ↔ x ≤ z := by rw [Int32.le_iff_toInt_le, oi_to hx, oi_to hz]
theorem oi_eq {x z : Int} (hx : inr x) (hz : inr z) : Int32.ofInt x = Int32.ofInt z ↔ x = z := ⟨fun e => by rw [← oi_to hx, ← oi_to hz, e], fun e => by rw [e]⟩
theorem oi_0 : (0 : Int32) = Int32.ofInt 0 := rfl
theorem in_0 : inr 0 := by unfold inr; omega
theorem oi_nat {x : Int} (hx : inr x) : (Int32.ofInt x).toNatClampNeg = x.toNat := by
  show (Int32.ofInt x).toInt.toNat = x.toNat
  rw [oi_to hx]
theorem w_push (v : Int) (hv : inr v) {i : Instr} {n : Nat} (hd : decode y.2.1 pc = .ok (i, n)) (hi : (i = .iconst v ∧ n = 1) ∨ (∃ u : Int, i = .bipush u ∧ n = 2 ∧ (Int8.ofInt u).toInt32 = Int32.ofInt v) ∨ (∃ u : Int, i = .sipush u ∧ n = 3 ∧ (Int16.ofInt u).toInt32 = Int32.ofInt v))
    (k : wp y d rc rs Q (pc + n) lo (vi v :: st) h) : wp y d rc rs Q pc lo st h := by
  refine wp_pure k ?_ (fun h1 _ => ok_cons.mpr ⟨hv, h1⟩)
  intro b p l e R s m args below meth c Z H locs ls cells slots hx hb hl hst kk
  rcases hi with ⟨rfl, rfl⟩ | ⟨u, rfl, rfl, hu⟩ | ⟨u, rfl, rfl, hu⟩
  · exact lv_iconst hx hb hd rfl kk
  · exact lv_bipush hx hb hd hu kk
  · exact lv_sipush hx hb hd hu kk
theorem w_lconst {f : Fin 2} {v : Int64} (hd : decode y.2.1 pc = .ok (.lconst f, 1)) (hv : Int64.ofNat (f : Nat) = v) (k : wp y d rc rs Q (pc + 1) lo (vl v :: st) h) : wp y d rc rs Q pc lo st h :=
  wp_pure k (fun b p l e R s m args below meth c Z H locs ls cells slots hx hb hl hst kk => lv_lconst hx hb hd hv kk) (fun h1 _ => ok_cons.mpr ⟨trivial, h1⟩)
theorem w_iload {i : Nat} {x : Int} {ins : Instr} {n : Nat} (hd : decode y.2.1 pc = .ok (ins, n)) (hi : (∃ k : Fin 4, ins = .iload_n k ∧ (k : Nat) = i ∧ n = 1) ∨ (ins = .iload i ∧ n = 2)) (hl : lg lo i = some (vi x)) (k : wp y d rc rs Q (pc + n) lo (vi x :: st) h) : wp y d rc rs Q pc lo st h := by
  refine wp_pure k ?_ (fun h1 h2 => ok_cons.mpr ⟨h2 i _ hl, h1⟩)
  intro b p l e R s m args below meth c Z H locs ls cells slots hx hb hL hst kk
  rcases hi with ⟨f, rfl, hf, rfl⟩ | ⟨rfl, rfl⟩
  · exact lv_iload_n hx hb hd hf (hL.get hl) kk
  · exact lv_iload hx hb hd (hL.get hl) kk
theorem w_aload {i : Nat} {x : Nat} {ins : Instr} {n : Nat} (hd : decode y.2.1 pc = .ok (ins, n)) (hi : (∃ k : Fin 4, ins = .aload_n k ∧ (k : Nat) = i ∧ n = 1) ∨ (ins = .aload i ∧ n = 2)) (hl : lg lo i = some (vr x)) (k : wp y d rc rs Q (pc + n) lo (vr x :: st) h) : wp y d rc rs Q pc lo st h := by
  refine wp_pure k ?_ (fun h1 h2 => ok_cons.mpr ⟨h2 i _ hl, h1⟩)
  intro b p l e R s m args below meth c Z H locs ls cells slots hx hb hL hst kk
  rcases hi with ⟨f, rfl, hf, rfl⟩ | ⟨rfl, rfl⟩
  · exact lv_aload_n hx hb hd hf (hL.get hl) kk
  · exact lv_aload hx hb hd (hL.get hl) kk
theorem w_lload {i : Nat} {x : Int64} {f : Fin 4} (hd : decode y.2.1 pc = .ok (.lload_n f, 1)) (hf : (f : Nat) = i) (hl : lg lo i = some (vl x)) (k : wp y d rc rs Q (pc + 1) lo (vl x :: st) h) : wp y d rc rs Q pc lo st h :=
  wp_pure k (fun b p l e R s m args below meth c Z H locs ls cells slots hx hb hL hst kk => lv_lload_n hx hb hd hf (hL.get hl) kk) (fun h1 _ => ok_cons.mpr ⟨trivial, h1⟩)
theorem lst_ok {i : Nat} {v : AV} (hv : okV v) (h : ∀ i v, lg lo i = some v → okV v) : ∀ j w, lg (lst lo i (some v)) j = some w → okV w := fun j w hw => by
  rcases lg_lst _ _ _ _ _ hw with ⟨-, e⟩ | ⟨-, e⟩
  · cases e; exact hv
  · exact h j w e
theorem w_istore {i : Nat} {x : Int} {ins : Instr} {n : Nat} (hd : decode y.2.1 pc = .ok (ins, n)) (hi : (∃ k : Fin 4, ins = .istore_n k ∧ (k : Nat) = i ∧ n = 1) ∨ (ins = .istore i ∧ n = 2)) (hn : i < y.2.2.1) (hno : noL lo i = true) (k : wp y d rc rs Q (pc + n) (lst lo i (some (vi x))) st h) : wp y d rc rs Q pc lo (vi x :: st) h := by
  intro E p l e R s m args below meth c Z hC hR hd1 hd2 hb H locs ls cells slots hc hs hW hS hl hst hlo
  rcases hi with ⟨f, rfl, hf, rfl⟩ | ⟨rfl, rfl⟩
  · exact lv_istore_n hC.1 hC.2.1 hd hf hl hn rfl (fun ls' hl' => k E p l e R s m args below meth c Z hC hR hd1 hd2 hb H locs ls' cells slots hc hs hW hS (Lc.of1 (v := vi x) hno hl') (ok_cons.mp hst).2 (lst_ok (ok_cons.mp hst).1 hlo))
  · exact lv_istore hC.1 hC.2.1 hd hl hn rfl (fun ls' hl' => k E p l e R s m args below meth c Z hC hR hd1 hd2 hb H locs ls' cells slots hc hs hW hS (Lc.of1 (v := vi x) hno hl') (ok_cons.mp hst).2 (lst_ok (ok_cons.mp hst).1 hlo))
theorem w_astore {i : Nat} {x : Nat} {ins : Instr} {n : Nat} (hd : decode y.2.1 pc = .ok (ins, n)) (hi : (∃ k : Fin 4, ins = .astore_n k ∧ (k : Nat) = i ∧ n = 1) ∨ (ins = .astore i ∧ n = 2)) (hn : i < y.2.2.1) (hno : noL lo i = true) (k : wp y d rc rs Q (pc + n) (lst lo i (some (vr x))) st h) : wp y d rc rs Q pc lo (vr x :: st) h := by
  intro E p l e R s m args below meth c Z hC hR hd1 hd2 hb H locs ls cells slots hc hs hW hS hl hst hlo
  rcases hi with ⟨f, rfl, hf, rfl⟩ | ⟨rfl, rfl⟩
  · exact lv_astore_n hC.1 hC.2.1 hd hf hl hn rfl (fun ls' hl' => k E p l e R s m args below meth c Z hC hR hd1 hd2 hb H locs ls' cells slots hc hs hW hS (Lc.of1 (v := vr x) hno hl') (ok_cons.mp hst).2 (lst_ok (ok_cons.mp hst).1 hlo))
  · exact lv_astore hC.1 hC.2.1 hd hl hn rfl (fun ls' hl' => k E p l e R s m args below meth c Z hC hR hd1 hd2 hb H locs ls' cells slots hc hs hW hS (Lc.of1 (v := vr x) hno hl') (ok_cons.mp hst).2 (lst_ok (ok_cons.mp hst).1 hlo))
theorem w_lstore {i : Nat} {x : Int64} {f : Fin 4} (hd : decode y.2.1 pc = .ok (.lstore_n f, 1)) (hf : (f : Nat) = i) (hn : i + 1 < y.2.2.1) (hno : noL lo i = true) (k : wp y d rc rs Q (pc + 1) (lst (lst lo (i + 1) none) i (some (vl x))) st h) : wp y d rc rs Q pc lo (vl x :: st) h := by
  intro E p l e R s m args below meth c Z hC hR hd1 hd2 hb H locs ls cells slots hc hs hW hS hl hst hlo
  refine lv_lstore_n hC.1 hC.2.1 hd hf hl hn rfl (fun ls' hl' => k E p l e R s m args below meth c Z hC hR hd1 hd2 hb H locs ls' cells slots hc hs hW hS (Lc.of2 (v := vl x) hno hl') (ok_cons.mp hst).2 (lst_ok (ok_cons.mp hst).1 ?_))
  intro j w hw
  rcases lg_lst _ _ _ _ _ hw with ⟨-, e⟩ | ⟨-, e⟩
  · cases e
  · exact hlo j w e
theorem w_iinc {i : Nat} {n x : Int} (hd : decode y.2.1 pc = .ok (.iinc i n, 3)) (hx : lg lo i = some (vi x)) (hr : inr (x + n)) (hn : i < y.2.2.1) (hno : noL lo i = true) (k : wp y d rc rs Q (pc + 3) (lst lo i (some (vi (x + n)))) st h) : wp y d rc rs Q pc lo st h := by
  intro E p l e R s m args below meth c Z hC hR hd1 hd2 hb H locs ls cells slots hc hs hW hS hl hst hlo
  have hm : (i, Value.int (Int32.ofInt x)) ∈ lvs E.1 lo := lvs_mem.mpr ⟨_, hx, rfl⟩
  obtain ⟨kk, hk⟩ := List.mem_iff_getElem?.mp hm
  exact lv_iinc hC.1 hC.2.1 hd hl hk (oi_add x n) hn rfl (fun ls' hl' => k E p l e R s m args below meth c Z hC hR hd1 hd2 hb H locs ls' cells slots hc hs hW hS (Lc.of1 (v := vi (x + n)) hno hl') hst (lst_ok hr hlo))
theorem w_bin {ins : Instr} {x z r : Int} (hr : inr r) (hrow : ∀ (p : Program) (l : Launch) (e : Env) (R : Room) (s : State) (m : MethodId) (args : Array Value) (below : List Frame) (meth : Method) (c : Code) (Z : State → Prop) (H : Heap) (locs : List Loc) (ls : Array Slot) (cells slots : Nat) (rest : List Value), p.tables.exec = Jvm.exec → c.code = y.2.1 → inr x → inr z → W p l e R s m args below meth c H locs cells slots Z (F0 m (pc + 1) ls (.int (Int32.ofInt r) :: rest)) → W p l e R s m args below meth c H locs cells slots Z (F0 m pc ls (.int (Int32.ofInt z) :: .int (Int32.ofInt x) :: rest)))
    (k : wp y d rc rs Q (pc + 1) lo (vi r :: st) h) : wp y d rc rs Q pc lo (vi z :: vi x :: st) h :=
  wp_pure k (fun b p l e R s m args below meth c Z H locs ls cells slots hx hb hL hst kk => hrow p l e R s m args below meth c Z H locs ls cells slots _ hx hb (ok_cons.mp (ok_cons.mp hst).2).1 (ok_cons.mp hst).1 kk) (fun h1 _ => ok_cons.mpr ⟨hr, (ok_cons.mp (ok_cons.mp h1).2).2⟩)
theorem w_iadd {x z : Int} (hd : decode y.2.1 pc = .ok (.iadd, 1)) (hr : inr (x + z)) (k : wp y d rc rs Q (pc + 1) lo (vi (x + z) :: st) h) : wp y d rc rs Q pc lo (vi z :: vi x :: st) h :=
  w_bin (ins := .iadd) hr (fun p l e R s m args below meth c Z H locs ls cells slots rest hx hb _ _ kk => lv_iadd hx hb hd (by rw [oi_add]; exact kk)) k
theorem w_isub {x z : Int} (hd : decode y.2.1 pc = .ok (.isub, 1)) (hr : inr (x - z)) (k : wp y d rc rs Q (pc + 1) lo (vi (x - z) :: st) h) : wp y d rc rs Q pc lo (vi z :: vi x :: st) h :=
  w_bin (ins := .isub) hr (fun p l e R s m args below meth c Z H locs ls cells slots rest hx hb _ _ kk => lv_isub hx hb hd (by rw [oi_sub]; exact kk)) k
theorem w_imul {x z : Int} (hd : decode y.2.1 pc = .ok (.imul, 1)) (hr : inr (x * z)) (k : wp y d rc rs Q (pc + 1) lo (vi (x * z) :: st) h) : wp y d rc rs Q pc lo (vi z :: vi x :: st) h :=
  w_bin (ins := .imul) hr (fun p l e R s m args below meth c Z H locs ls cells slots rest hx hb _ _ kk => lv_imul hx hb hd (by rw [oi_mul]; exact kk)) k
theorem oi_div {x z : Int} (hx : inr x) (hz : inr z) (h0 : 0 ≤ x) (h1 : 0 < z) : Int32.ofInt x / Int32.ofInt z = Int32.ofInt (x / z) := by
  have hle : x / z ≤ x := Int.ediv_le_self _ h0
  have hge : 0 ≤ x / z := Int.ediv_nonneg h0 (by omega)
  have hr : inr (x / z) := by unfold inr at *; omega
  have hn : ¬ ((Int32.ofInt x).toInt = -2147483648 ∧ (Int32.ofInt z).toInt = -1) := by rw [oi_to hx, oi_to hz]; omega
  have e : (Int32.ofInt x / Int32.ofInt z).toInt = (Int32.ofInt (x / z)).toInt := by
    rw [Int32.toInt_div, oi_to hx, oi_to hz, oi_to hr, Int.tdiv_eq_ediv_of_nonneg h0]
    rw [Int.bmod_eq_of_le] <;> (unfold inr at hr; simp [Int32.size]; omega)
  rw [← oi_back (Int32.ofInt x / Int32.ofInt z), e, oi_back]
theorem w_idiv {x z : Int} (hd : decode y.2.1 pc = .ok (.idiv, 1)) (h0 : 0 ≤ x) (h1 : 0 < z) (hr : inr (x / z)) (k : wp y d rc rs Q (pc + 1) lo (vi (x / z) :: st) h) : wp y d rc rs Q pc lo (vi z :: vi x :: st) h :=
  w_bin (ins := .idiv) hr (fun p l e R s m args below meth c Z H locs ls cells slots rest hx hb ix iz kk => lv_idiv hx hb hd (fun e0 => by rw [oi_0, oi_eq iz in_0] at e0; omega) (by rw [oi_div ix iz h0 h1]; exact kk)) k
theorem w_irem {x z : Int} (hd : decode y.2.1 pc = .ok (.irem, 1)) (h0 : 0 ≤ x) (h1 : 0 < z) (hr : inr (x % z)) (k : wp y d rc rs Q (pc + 1) lo (vi (x % z) :: st) h) : wp y d rc rs Q pc lo (vi z :: vi x :: st) h :=
  w_bin (ins := .irem) hr (fun p l e R s m args below meth c Z H locs ls cells slots rest hx hb ix iz kk => lv_irem hx hb hd (fun e0 => by rw [oi_0, oi_eq iz in_0] at e0; omega) (by rw [oi_div ix iz h0 h1, oi_mul, oi_sub, show x - x / z * z = x % z by rw [Int.emod_def, Int.mul_comm]]; exact kk)) k
theorem w_iand {x z : Int} (hd : decode y.2.1 pc = .ok (.iand, 1)) (k : wp y d rc rs Q (pc + 1) lo (vi (Int32.ofInt x &&& Int32.ofInt z).toInt :: st) h) : wp y d rc rs Q pc lo (vi z :: vi x :: st) h :=
  w_bin (ins := .iand) (oi_in _) (fun p l e R s m args below meth c Z H locs ls cells slots rest hx hb _ _ kk => lv_iand hx hb hd (by rw [oi_back] at kk; exact kk)) k
theorem w_ior {x z : Int} (hd : decode y.2.1 pc = .ok (.ior, 1)) (k : wp y d rc rs Q (pc + 1) lo (vi (Int32.ofInt x ||| Int32.ofInt z).toInt :: st) h) : wp y d rc rs Q pc lo (vi z :: vi x :: st) h :=
  w_bin (ins := .ior) (oi_in _) (fun p l e R s m args below meth c Z H locs ls cells slots rest hx hb _ _ kk => lv_ior hx hb hd (by rw [oi_back] at kk; exact kk)) k
theorem w_ishl {x z : Int} (hd : decode y.2.1 pc = .ok (.ishl, 1)) (k : wp y d rc rs Q (pc + 1) lo (vi (Int32.ofInt x <<< (Int32.ofInt z &&& 31)).toInt :: st) h) : wp y d rc rs Q pc lo (vi z :: vi x :: st) h :=
  w_bin (ins := .ishl) (oi_in _) (fun p l e R s m args below meth c Z H locs ls cells slots rest hx hb _ _ kk => lv_ishl hx hb hd (by rw [oi_back] at kk; exact kk)) k
theorem w_i2b {x : Int} (hd : decode y.2.1 pc = .ok (.i2b, 1)) (k : wp y d rc rs Q (pc + 1) lo (vi ((Int32.ofInt x).toInt8.toInt32).toInt :: st) h) : wp y d rc rs Q pc lo (vi x :: st) h :=
  wp_pure k (fun b p l e R s m args below meth c Z H locs ls cells slots hx hb hL hst kk => lv_i2b hx hb hd (oi_back _).symm kk) (fun h1 _ => ok_cons.mpr ⟨oi_in _, (ok_cons.mp h1).2⟩)
theorem oi_neg (x : Int) : -Int32.ofInt x = Int32.ofInt (-x) := (Int32.ofInt_neg x).symm
theorem w_ineg {x : Int} (hd : decode y.2.1 pc = .ok (.ineg, 1)) (hr : inr (-x)) (k : wp y d rc rs Q (pc + 1) lo (vi (-x) :: st) h) : wp y d rc rs Q pc lo (vi x :: st) h :=
  wp_pure k (fun b p l e R s m args below meth c Z H locs ls cells slots hx hb hL hst kk => lv_ineg hx hb hd (by rw [oi_neg]; exact kk)) (fun h1 _ => ok_cons.mpr ⟨hr, (ok_cons.mp h1).2⟩)
theorem w_l2i {x : Int64} (hd : decode y.2.1 pc = .ok (.l2i, 1)) (k : wp y d rc rs Q (pc + 1) lo (vi (x.toInt32).toInt :: st) h) : wp y d rc rs Q pc lo (vl x :: st) h :=
  wp_pure k (fun b p l e R s m args below meth c Z H locs ls cells slots hx hb hL hst kk => lv_l2i hx hb hd (oi_back _).symm kk) (fun h1 _ => ok_cons.mpr ⟨oi_in _, (ok_cons.mp h1).2⟩)
theorem w_ladd {x z : Int64} (hd : decode y.2.1 pc = .ok (.ladd, 1)) (k : wp y d rc rs Q (pc + 1) lo (vl (x + z) :: st) h) : wp y d rc rs Q pc lo (vl z :: vl x :: st) h :=
  wp_pure k (fun b p l e R s m args below meth c Z H locs ls cells slots hx hb hL hst kk => lv_ladd hx hb hd kk) (fun h1 _ => ok_cons.mpr ⟨trivial, (ok_cons.mp (ok_cons.mp h1).2).2⟩)
theorem w_lsub {x z : Int64} (hd : decode y.2.1 pc = .ok (.lsub, 1)) (k : wp y d rc rs Q (pc + 1) lo (vl (x - z) :: st) h) : wp y d rc rs Q pc lo (vl z :: vl x :: st) h :=
  wp_pure k (fun b p l e R s m args below meth c Z H locs ls cells slots hx hb hL hst kk => lv_lsub hx hb hd kk) (fun h1 _ => ok_cons.mpr ⟨trivial, (ok_cons.mp (ok_cons.mp h1).2).2⟩)
theorem w_land {x z : Int64} (hd : decode y.2.1 pc = .ok (.land, 1)) (k : wp y d rc rs Q (pc + 1) lo (vl (x &&& z) :: st) h) : wp y d rc rs Q pc lo (vl z :: vl x :: st) h :=
  wp_pure k (fun b p l e R s m args below meth c Z H locs ls cells slots hx hb hL hst kk => lv_land hx hb hd kk) (fun h1 _ => ok_cons.mpr ⟨trivial, (ok_cons.mp (ok_cons.mp h1).2).2⟩)
theorem w_lor {x z : Int64} (hd : decode y.2.1 pc = .ok (.lor, 1)) (k : wp y d rc rs Q (pc + 1) lo (vl (x ||| z) :: st) h) : wp y d rc rs Q pc lo (vl z :: vl x :: st) h :=
  wp_pure k (fun b p l e R s m args below meth c Z H locs ls cells slots hx hb hL hst kk => lv_lor hx hb hd kk) (fun h1 _ => ok_cons.mpr ⟨trivial, (ok_cons.mp (ok_cons.mp h1).2).2⟩)
def shl6 (x : Int64) (z : Int) : Int64 := x <<< ((Int32.ofInt z).toInt64 &&& 63)
def shr6 (x : Int64) (z : Int) : Int64 := (x.toUInt64 >>> ((Int32.ofInt z).toInt64.toUInt64 &&& Int64.toUInt64 63)).toInt64
theorem w_lshl {x : Int64} {z : Int} (hd : decode y.2.1 pc = .ok (.lshl, 1)) (k : wp y d rc rs Q (pc + 1) lo (vl (shl6 x z) :: st) h) : wp y d rc rs Q pc lo (vi z :: vl x :: st) h :=
  wp_pure k (fun b p l e R s m args below meth c Z H locs ls cells slots hx hb hL hst kk => lv_lshl hx hb hd rfl kk) (fun h1 _ => ok_cons.mpr ⟨trivial, (ok_cons.mp (ok_cons.mp h1).2).2⟩)
theorem w_lushr {x : Int64} {z : Int} (hd : decode y.2.1 pc = .ok (.lushr, 1)) (k : wp y d rc rs Q (pc + 1) lo (vl (shr6 x z) :: st) h) : wp y d rc rs Q pc lo (vi z :: vl x :: st) h :=
  wp_pure k (fun b p l e R s m args below meth c Z H locs ls cells slots hx hb hL hst kk => lv_lushr hx hb hd rfl kk) (fun h1 _ => ok_cons.mpr ⟨trivial, (ok_cons.mp (ok_cons.mp h1).2).2⟩)
theorem w_lcmp {x z : Int64} (hd : decode y.2.1 pc = .ok (.lcmp, 1)) (k : wp y d rc rs Q (pc + 1) lo (vi (lg_cmp x z).toInt :: st) h) : wp y d rc rs Q pc lo (vl z :: vl x :: st) h :=
  wp_pure k (fun b p l e R s m args below meth c Z H locs ls cells slots hx hb hL hst kk => W.lcmp hx hb hd (by rw [← oi_back (lg_cmp x z)]; exact kk)) (fun h1 _ => ok_cons.mpr ⟨oi_in _, (ok_cons.mp (ok_cons.mp h1).2).2⟩)
theorem w_dup {v : AV} (hd : decode y.2.1 pc = .ok (.dup, 1)) (hv : cat v = 1) (k : wp y d rc rs Q (pc + 1) lo (v :: v :: st) h) : wp y d rc rs Q pc lo (v :: st) h :=
  wp_pure k (fun b p l e R s m args below meth c Z H locs ls cells slots hx hb hL hst kk => lv_dup hx hb hd (by rw [cv_cat]; exact hv) kk) (fun h1 _ => ok_cons.mpr ⟨(ok_cons.mp h1).1, h1⟩)
theorem w_dup2 {v w : AV} (hd : decode y.2.1 pc = .ok (.dup2, 1)) (hv : cat v = 1) (hw : cat w = 1) (k : wp y d rc rs Q (pc + 1) lo (v :: w :: v :: w :: st) h) : wp y d rc rs Q pc lo (v :: w :: st) h :=
  wp_pure k (fun b p l e R s m args below meth c Z H locs ls cells slots hx hb hL hst kk => lv_dup2_11 hx hb hd (by rw [cv_cat]; exact hv) (by rw [cv_cat]; exact hw) kk) (fun h1 _ => ok_cons.mpr ⟨(ok_cons.mp h1).1, ok_cons.mpr ⟨(ok_cons.mp (ok_cons.mp h1).2).1, h1⟩⟩)
theorem w_pop {v : AV} (hd : decode y.2.1 pc = .ok (.pop, 1)) (hv : cat v = 1) (k : wp y d rc rs Q (pc + 1) lo st h) : wp y d rc rs Q pc lo (v :: st) h :=
  wp_pure k (fun b p l e R s m args below meth c Z H locs ls cells slots hx hb hL hst kk => lv_pop hx hb hd (by rw [cv_cat]; exact hv) kk) (fun h1 _ => (ok_cons.mp h1).2)
end WROWS
end
section
/-! the classes by number; which entry of a class file is which field (and where the table says so) -/
def rx : Nat → String := fun c => match c with
  | 0 => RX0
  | 1 => RX1
  | 2 => RX2
  | 3 => RX3
  | 4 => RX4
  | 5 => RX5
  | 6 => RX6
  | 7 => RX7
  | 8 => RX8
  | 9 => RX9
  | 10 => RX10
  | 11 => RX11
  | 12 => RX12
  | _ => RL
def tf : Nat → u_T := fun c => match c with
  | 0 => TX0
  | 1 => TX1
  | 2 => TX2
  | 3 => TX3
  | 4 => TX4
  | 5 => TX5
  | 6 => TX6
  | 7 => TX7
  | 8 => TX8
  | 9 => TX9
  | 10 => TX10
  | 11 => TX11
  | 12 => TX12
  | _ => TX0
def tyf : Nat → Nat → FieldType := fun c => match c with
  | 0 => tyX0
  | 1 => tyX1
  | 2 => tyX2
  | 3 => tyX3
  | 4 => tyX4
  | 5 => tyX5
  | 6 => tyX6
  | 7 => tyX7
  | 8 => tyX8
  | 9 => tyX9
  | 10 => tyX10
  | 11 => tyX11
  | 12 => tyX12
  | _ => tyX0
def nf (c : Nat) : Nat := (fR c).length
theorem lt13 {c : Nat} (h : c < 13) : c = 0 ∨ c = 1 ∨ c = 2 ∨ c = 3 ∨ c = 4 ∨ c = 5 ∨ c = 6 ∨ c = 7 ∨ c = 8 ∨ c = 9 ∨ c = 10 ∨ c = 11 ∨ c = 12 := by omega
theorem vwAt {c : Nat} (h : c < 13) : vwCl[c]? = some (rx c, tf c, nf c) := by
  rcases lt13 h with rfl | rfl | rfl | rfl | rfl | rfl | rfl | rfl | rfl | rfl | rfl | rfl | rfl <;> rfl
theorem tyAt {c : Nat} (h : c < 13) : ∀ k, k < nf c → parseFieldDescriptor (tf c k).2.2.1 = some (tyf c k) := by
  rcases lt13 h with rfl | rfl | rfl | rfl | rfl | rfl | rfl | rfl | rfl | rfl | rfl | rfl | rfl
  · exact tyX0_ok
  · exact tyX1_ok
  · exact tyX2_ok
  · exact tyX3_ok
  · exact tyX4_ok
  · exact tyX5_ok
  · exact tyX6_ok
  · exact tyX7_ok
  · exact tyX8_ok
  · exact tyX9_ok
  · exact tyX10_ok
  · exact tyX11_ok
  · exact tyX12_ok
theorem nmAt {c : Nat} (h : c < 13) : ∀ a, a < nf c → ∀ b, b < nf c → a ≠ b → (tf c a).2.1 ≠ (tf c b).2.1 := by
  rcases lt13 h with rfl | rfl | rfl | rfl | rfl | rfl | rfl | rfl | rfl | rfl | rfl | rfl | rfl
  · exact nmX0
  · exact nmX1
  · exact nmX2
  · exact nmX3
  · exact nmX4
  · exact nmX5
  · exact nmX6
  · exact nmX7
  · exact nmX8
  · exact nmX9
  · exact nmX10
  · exact nmX11
  · exact nmX12
theorem zipG : ∀ {l : List Cond} {n : List Nat}, (l.zip n).all (fun q => decide (lw_tbl[q.2]? = some q.1) && goodWord q.1) = true → l.length = n.length → ∀ w ∈ l, w ∈ gt
  | [], _, _, _, w, h => by cases h
  | x :: l, [], _, e, w, h => by simp at e
  | x :: l, k :: n, ha, e, w, h => by
    simp only [List.zip_cons_cons, List.all_cons, Bool.and_eq_true, decide_eq_true_eq] at ha
    rcases List.mem_cons.mp h with rfl | h
    · exact gt_ok (List.mem_of_getElem? ha.1.1) ha.1.2
    · exact zipG ha.2 (by simpa using e) w h
theorem inG0 : ∀ w ∈ u_ws RX0 TX0 2, w ∈ gt := by
  have h : ((u_ws RX0 TX0 2).zip [459, 461]).all (fun q => decide (lw_tbl[q.2]? = some q.1) && goodWord q.1) = true := by decide +kernel
  have e : (u_ws RX0 TX0 2).length = 2 := by decide +kernel
  exact zipG h (by rw [e]; rfl)
theorem inG1 : ∀ w ∈ u_ws RX1 TX1 5, w ∈ gt := by
  have h : ((u_ws RX1 TX1 5).zip [284, 286, 288, 290, 292]).all (fun q => decide (lw_tbl[q.2]? = some q.1) && goodWord q.1) = true := by decide +kernel
  have e : (u_ws RX1 TX1 5).length = 5 := by decide +kernel
  exact zipG h (by rw [e]; rfl)
theorem inG2 : ∀ w ∈ u_ws RX2 TX2 3, w ∈ gt := by
  have h : ((u_ws RX2 TX2 3).zip [259, 261, 263]).all (fun q => decide (lw_tbl[q.2]? = some q.1) && goodWord q.1) = true := by decide +kernel
  have e : (u_ws RX2 TX2 3).length = 3 := by decide +kernel
  exact zipG h (by rw [e]; rfl)
theorem inG3 : ∀ w ∈ u_ws RX3 TX3 4, w ∈ gt := by
  have h : ((u_ws RX3 TX3 4).zip [207, 209, 211, 213]).all (fun q => decide (lw_tbl[q.2]? = some q.1) && goodWord q.1) = true := by decide +kernel
  have e : (u_ws RX3 TX3 4).length = 4 := by decide +kernel
  exact zipG h (by rw [e]; rfl)
theorem inG4 : ∀ w ∈ u_ws RX4 TX4 2, w ∈ gt := by
  have h : ((u_ws RX4 TX4 2).zip [189, 191]).all (fun q => decide (lw_tbl[q.2]? = some q.1) && goodWord q.1) = true := by decide +kernel
  have e : (u_ws RX4 TX4 2).length = 2 := by decide +kernel
  exact zipG h (by rw [e]; rfl)
theorem inG5 : ∀ w ∈ u_ws RX5 TX5 3, w ∈ gt := by
  have h : ((u_ws RX5 TX5 3).zip [305, 307, 309]).all (fun q => decide (lw_tbl[q.2]? = some q.1) && goodWord q.1) = true := by decide +kernel
  have e : (u_ws RX5 TX5 3).length = 3 := by decide +kernel
  exact zipG h (by rw [e]; rfl)
theorem inG6 : ∀ w ∈ u_ws RX6 TX6 8, w ∈ gt := by
  have h : ((u_ws RX6 TX6 8).zip [232, 234, 236, 238, 240, 242, 244, 246]).all (fun q => decide (lw_tbl[q.2]? = some q.1) && goodWord q.1) = true := by decide +kernel
  have e : (u_ws RX6 TX6 8).length = 8 := by decide +kernel
  exact zipG h (by rw [e]; rfl)
theorem inG7 : ∀ w ∈ u_ws RX7 TX7 7, w ∈ gt := by
  have h : ((u_ws RX7 TX7 7).zip [559, 561, 563, 565, 567, 569, 571]).all (fun q => decide (lw_tbl[q.2]? = some q.1) && goodWord q.1) = true := by decide +kernel
  have e : (u_ws RX7 TX7 7).length = 7 := by decide +kernel
  exact zipG h (by rw [e]; rfl)
theorem inG8 : ∀ w ∈ u_ws RX8 TX8 3, w ∈ gt := by
  have h : ((u_ws RX8 TX8 3).zip [322, 324, 326]).all (fun q => decide (lw_tbl[q.2]? = some q.1) && goodWord q.1) = true := by decide +kernel
  have e : (u_ws RX8 TX8 3).length = 3 := by decide +kernel
  exact zipG h (by rw [e]; rfl)
theorem inG9 : ∀ w ∈ u_ws RX9 TX9 4, w ∈ gt := by
  have h : ((u_ws RX9 TX9 4).zip [168, 170, 172, 174]).all (fun q => decide (lw_tbl[q.2]? = some q.1) && goodWord q.1) = true := by decide +kernel
  have e : (u_ws RX9 TX9 4).length = 4 := by decide +kernel
  exact zipG h (by rw [e]; rfl)
theorem inG10 : ∀ w ∈ u_ws RX10 TX10 4, w ∈ gt := by
  have h : ((u_ws RX10 TX10 4).zip [132, 134, 136, 138]).all (fun q => decide (lw_tbl[q.2]? = some q.1) && goodWord q.1) = true := by decide +kernel
  have e : (u_ws RX10 TX10 4).length = 4 := by decide +kernel
  exact zipG h (by rw [e]; rfl)
theorem inG11 : ∀ w ∈ u_ws RX11 TX11 20, w ∈ gt := by
  have h : ((u_ws RX11 TX11 20).zip [349, 351, 353, 355, 357, 359, 361, 363, 365, 367, 369, 371, 373, 375, 377, 379, 381, 383, 385, 387]).all (fun q => decide (lw_tbl[q.2]? = some q.1) && goodWord q.1) = true := by decide +kernel
  have e : (u_ws RX11 TX11 20).length = 20 := by decide +kernel
  exact zipG h (by rw [e]; rfl)
theorem inG12 : ∀ w ∈ u_ws RX12 TX12 54, w ∈ gt := by
  have h : ((u_ws RX12 TX12 54).zip [1017, 1019, 1021, 1023, 1025, 1027, 1029, 1031, 1033, 1035, 1037, 1039, 1041, 1043, 1045, 1047, 1049, 1051, 1053, 1055, 1057, 1059, 1061, 1063, 1065, 1067, 1069, 1071, 1073, 1075, 1077, 1079, 1081, 1083, 1085, 1087, 1089, 1091, 1093, 1095, 1097, 1099, 1101, 1103, 1105, 1107, 1109, 1111, 1113, 1115, 1117, 1119, 1121, 1123]).all (fun q => decide (lw_tbl[q.2]? = some q.1) && goodWord q.1) = true := by decide +kernel
  have e : (u_ws RX12 TX12 54).length = 54 := by decide +kernel
  exact zipG h (by rw [e]; rfl)
theorem inG {c : Nat} (h : c < 13) : ∀ w ∈ u_ws (rx c) (tf c) (nf c), w ∈ gt := by
  rcases lt13 h with rfl | rfl | rfl | rfl | rfl | rfl | rfl | rfl | rfl | rfl | rfl | rfl | rfl
  · exact inG0
  · exact inG1
  · exact inG2
  · exact inG3
  · exact inG4
  · exact inG5
  · exact inG6
  · exact inG7
  · exact inG8
  · exact inG9
  · exact inG10
  · exact inG11
  · exact inG12
def flT : List (Nat × Nat × Nat × Nat × Nat) := [(10, 9, 10, 0, 125), (6, 69, 10, 0, 126), (10, 18, 10, 1, 127), (11, 112, 10, 1, 128), (6, 55, 10, 1, 129), (10, 15, 10, 2, 130), (10, 22, 10, 3, 131), (9, 11, 9, 0, 152), (1, 32, 9, 0, 153), (3, 31, 9, 0, 154), (4, 34, 9, 0, 155), (5, 43, 9, 0, 156), (11, 182, 9, 0, 157), (9, 17, 9, 1, 158), (3, 26, 9, 1, 159), (11, 154, 9, 1, 160), (4, 71, 9, 1, 161), (9, 21, 9, 2, 162), (1, 29, 9, 2, 163), (5, 40, 9, 2, 164), (11, 153, 9, 2, 165), (4, 52, 9, 2, 166), (11, 102, 9, 3, 167), (4, 9, 4, 0, 185), (11, 231, 4, 0, 186), (4, 25, 4, 1, 187), (11, 234, 4, 1, 188), (3, 15, 3, 0, 200), (11, 251, 3, 0, 201), (3, 19, 3, 1, 202), (11, 263, 3, 1, 203), (3, 23, 3, 2, 204), (11, 258, 3, 2, 205), (3, 9, 3, 3, 206), (6, 9, 6, 0, 224), (6, 15, 6, 1, 225), (6, 40, 6, 2, 226), (6, 46, 6, 3, 227), (6, 31, 6, 4, 228), (6, 63, 6, 5, 229), (6, 25, 6, 6, 230), (6, 28, 6, 7, 231), (2, 15, 2, 0, 255), (11, 354, 2, 0, 256), (2, 9, 2, 1, 257), (2, 19, 2, 2, 258), (1, 9, 1, 0, 274), (11, 345, 1, 0, 275), (1, 15, 1, 1, 276), (11, 319, 1, 1, 277), (1, 18, 1, 2, 278), (11, 158, 1, 2, 279), (1, 22, 1, 3, 280), (11, 161, 1, 3, 281), (1, 26, 1, 4, 282), (11, 316, 1, 4, 283), (5, 9, 5, 0, 300), (6, 101, 5, 0, 301), (5, 18, 5, 1, 302), (6, 19, 5, 1, 303), (5, 15, 5, 2, 304), (8, 9, 8, 0, 317), (11, 381, 8, 0, 318), (8, 15, 8, 1, 319), (11, 378, 8, 1, 320), (8, 19, 8, 2, 321), (11, 10, 11, 0, 329), (11, 18, 11, 1, 330), (11, 122, 11, 2, 331), (11, 25, 11, 3, 332), (11, 29, 11, 4, 333), (11, 32, 11, 5, 334), (11, 35, 11, 6, 335), (11, 39, 11, 7, 336), (11, 165, 11, 8, 337), (11, 45, 11, 9, 338), (11, 52, 11, 10, 339), (11, 56, 11, 11, 340), (11, 62, 11, 12, 341), (11, 285, 11, 13, 342), (11, 71, 11, 14, 343), (11, 78, 11, 15, 344), (11, 84, 11, 16, 345), (11, 91, 11, 17, 346), (11, 95, 11, 18, 347), (11, 98, 11, 19, 348), (0, 7, 0, 0, 452), (1, 57, 0, 0, 453), (11, 179, 0, 0, 454), (0, 13, 0, 1, 455), (7, 17, 0, 1, 456), (1, 46, 0, 1, 457), (11, 143, 0, 1, 458), (7, 7, 7, 0, 540), (9, 39, 7, 0, 541), (11, 212, 7, 0, 542), (7, 13, 7, 1, 543), (1, 36, 7, 1, 544), (3, 35, 7, 1, 545), (4, 38, 7, 1, 546), (9, 25, 7, 1, 547), (11, 186, 7, 1, 548), (7, 23, 7, 2, 549), (11, 221, 7, 2, 550), (7, 24, 7, 3, 551), (11, 225, 7, 3, 552), (7, 27, 7, 4, 553), (11, 228, 7, 4, 554), (7, 42, 7, 5, 555), (11, 199, 7, 5, 556), (7, 51, 7, 6, 557), (11, 202, 7, 6, 558), (12, 159, 12, 0, 963), (12, 9, 12, 1, 964), (12, 13, 12, 2, 965), (12, 18, 12, 3, 966), (12, 21, 12, 4, 967), (12, 168, 12, 5, 968), (12, 25, 12, 6, 969), (12, 28, 12, 7, 970), (12, 31, 12, 8, 971), (12, 34, 12, 9, 972), (12, 37, 12, 10, 973), (12, 40, 12, 11, 974), (12, 45, 12, 12, 975), (12, 106, 12, 13, 976), (12, 48, 12, 14, 977), (12, 140, 12, 15, 978), (12, 51, 12, 16, 979), (12, 54, 12, 17, 980), (12, 120, 12, 18, 981), (12, 57, 12, 19, 982), (12, 123, 12, 20, 983), (12, 197, 12, 21, 984), (12, 203, 12, 22, 985), (12, 60, 12, 23, 986), (12, 229, 12, 24, 987), (12, 233, 12, 25, 988), (12, 236, 12, 26, 989), (12, 239, 12, 27, 990), (12, 64, 12, 28, 991), (12, 67, 12, 29, 992), (12, 113, 12, 30, 993), (12, 70, 12, 31, 994), (12, 73, 12, 32, 995), (12, 76, 12, 33, 996), (12, 306, 12, 34, 997), (12, 291, 12, 35, 998), (12, 294, 12, 36, 999), (12, 297, 12, 37, 1000), (12, 303, 12, 38, 1001), (12, 324, 12, 39, 1002), (12, 288, 12, 40, 1003), (12, 79, 12, 41, 1004), (12, 367, 12, 42, 1005), (12, 370, 12, 43, 1006), (12, 82, 12, 44, 1007), (12, 85, 12, 45, 1008), (12, 397, 12, 46, 1009), (12, 394, 12, 47, 1010), (12, 88, 12, 48, 1011), (12, 91, 12, 49, 1012), (12, 94, 12, 50, 1013), (12, 97, 12, 51, 1014), (12, 100, 12, 52, 1015), (12, 103, 12, 53, 1016)]
theorem flT_ok : flT.all (fun q => decide (q.2.2.1 < 13) && decide (q.2.2.2.1 < nf q.2.2.1) && decide (lw_tbl[q.2.2.2.2]? = some (Cond.fieldLink (rx q.1) q.2.1 (tf q.2.2.1 q.2.2.2.1).1 (tf q.2.2.1 q.2.2.2.1).2.1 (tf q.2.2.1 q.2.2.2.1).2.2.1))) = true := by decide +kernel
def flq (o i c k : Nat) : Bool := flT.any (fun q => q.1 == o && q.2.1 == i && q.2.2.1 == c && q.2.2.2.1 == k)
theorem flq_ok {o i c k : Nat} (h : flq o i c k = true) : c < 13 ∧ k < nf c ∧ Cond.fieldLink (rx o) i (tf c k).1 (tf c k).2.1 (tf c k).2.2.1 ∈ gt := by
  obtain ⟨q, hq, h1⟩ := List.any_eq_true.mp h
  have h2 := List.all_eq_true.mp flT_ok q hq
  simp only [Bool.and_eq_true, beq_iff_eq, decide_eq_true_eq] at h1 h2
  obtain ⟨⟨⟨rfl, rfl⟩, rfl⟩, rfl⟩ := h1
  exact ⟨h2.1.1, h2.1.2, gt_ok (List.mem_of_getElem? h2.2) rfl⟩
end
section
section HROWS
variable {y : MI} {d rc rs : Nat} {Q : Option AV → AH → Prop} {pc q : Nat} {lo : List (Option AV)} {st st' : List AV} {h : AH}
theorem cE_o {cy : Nat → ClassId} {b : Nat} {h : AH} {a t n : Nat} (hk : kH h a = (t, n)) (ht : t < 13) : cE cy b h a = .inr (t, ovs b h a t) := by
  unfold cE; rw [hk]; simp [ht]
theorem cE_i {cy : Nat → ClassId} {b : Nat} {h : AH} {a t n : Nat} (hk : kH h a = (t, n)) (ht : t = 13 ∨ t = 15) : cE cy b h a = .inl (cy t, n, .inl (fun j => Int32.ofInt (iH h a j))) := by
  unfold cE; rw [hk]; rcases ht with rfl | rfl <;> simp
theorem cE_j {cy : Nat → ClassId} {b : Nat} {h : AH} {a n : Nat} (hk : kH h a = (14, n)) : cE cy b h a = .inl (cy 14, n, .inr (.inl (jH h a))) := by
  unfold cE; rw [hk]; simp
theorem cE_q {cy : Nat → ClassId} {b : Nat} {h : AH} {a t n : Nat} (hk : kH h a = (t, n)) (ht : 15 < t) : cE cy b h a = .inl (cy t, n, .inr (.inr (.inr (.inr (fun j => (rH h a j).map (fun x => b + x)))))) := by
  unfold cE; rw [hk]; simp [show ¬ t < 13 by omega, show ¬ t = 14 by omega, show ¬ t < 16 by omega]
theorem ovs_get {b : Nat} {h : AH} {a t k : Nat} (hk : k < nf t) : (ovs b h a t)[k]? = some (ov b h a t k) := by
  unfold nf at hk; unfold ovs; rw [List.getElem?_map, List.getElem?_range hk]; rfl
theorem vpV_ovs {b : Nat} {h : AH} {a t k : Nat} (hk : k < nf t) : vp_V (ovs b h a t) k = ov b h a t k := by
  unfold vp_V; rw [List.getD_eq_getElem?_getD, ovs_get hk]; rfl
theorem tyL_at (cy : Nat → ClassId) {t : Nat} (h1 : 13 ≤ t) (h2 : t < 23) : (tyL cy)[t - 13]? = some (cy t, tyA t) := by
  unfold tyL
  rw [List.getElem?_map, List.getElem?_range (by omega)]
  show some (cy (13 + (t - 13)), tyA (13 + (t - 13))) = _
  rw [show 13 + (t - 13) = t by omega]
theorem Wd.one {D : va_G} {cy : Nat → ClassId} {b a : Nat} {h : AH} {H : Heap} (w : Wd D cy b h H) (ha : a < nH h) {x : va_E} (hx : cE cy b h a = x) : va_P D vwCl [(b + a, x)] H := by
  intro k q hq
  match k, hq with
  | 0, hq => cases hq; rw [← hx]; exact w.2.1 a ha
theorem in_ix {x : Int} {n : Nat} (hx : inr x) (h0 : 0 ≤ x) (h1 : x < n) : vp_in (Int32.ofInt x) n := by
  unfold vp_in
  rw [oi_nat hx, oi_0, oi_lt hx in_0]
  omega
/-- a field is read -/
theorem w_get {o i c k a : Nat} (ho : y.1.cls = rx o) (hd : decode y.2.1 pc = .ok (.getfield i, 3)) (hf : flq o i c k = true) (ha : a < nH h) (hk : kH h a = (c, 0)) {v : AV} (hv : ∀ b, ov b h a c k = cv b v) (hok : (∀ a k, inr (iH h a k)) → okV v) (kk : wp y d rc rs Q (pc + 3) lo (v :: st) h) : wp y d rc rs Q pc lo (vr a :: st) h := by
  obtain ⟨hc13, hkn, hlk⟩ := flq_ok hf
  intro E p l e R s m args below meth c' Z hC hR hd1 hd2 hb H locs ls cells slots hc hs hW hS hl hst hlo
  have hP := hW.one ha (cE_o hk hc13)
  refine va_get (D := E.2.1) (ci := c) (C := rx c) (T := tf c) (N := nf c) (own := y.1.cls) (ref := (tf c k).1) hC.1 hC.2.1 hC.2.2.2.2.1 (inG hc13) hC.2.2.2.1 hC.2.2.2.2.2.1.1 hP 0 rfl (vwAt hc13) k hkn (hC.2.2.2.2.1 _ (by rw [ho]; exact hlk)) (fun _ z => z) (v := cv E.1 v) ?_ hd ?_
  · rw [ovs_get hkn, hv]
  · exact kk E p l e R s m args below meth c' Z hC hR hd1 hd2 hb H locs ls cells slots hc hs hW hS hl (ok_cons.mpr ⟨hok hW.2.2, (ok_cons.mp hst).2⟩) hlo
/-- what a store into a cell's field does to the world -/
theorem w_putx {o i c k a : Nat} (ho : y.1.cls = rx o) (hd : decode y.2.1 pc = .ok (.putfield i, 3)) (hf : flq o i c k = true) (hfin : (tf c k).2.2.2 = false ∨ ((tf c k).1 = y.1.cls ∧ (tf c k).1 = rx c ∧ y.1.name = "<init>")) (ha : a < nH h) (hk : kH h a = (c, 0)) {v : AV} {h' : AH} (hv : ∀ b, narrow (tyf c k) (cv b v) = cv b v ∧ fits (tyf c k) (cv b v) = true) (hn : nH h' = nH h) (hkk : kH h' = kH h) (hr : (∀ a k, inr (iH h a k)) → okV v → ∀ a k, inr (iH h' a k)) (hc : ∀ cy b x, x ≠ a → cE cy b h' x = cE cy b h x) (hov : ∀ b j, j < nf c → ov b h' a c j = if j = k then cv b v else ov b h a c j) (kk : wp y d rc rs Q (pc + 3) lo st h') : wp y d rc rs Q pc lo (v :: vr a :: st) h := by
  obtain ⟨hc13, hkn, hlk⟩ := flq_ok hf
  intro E p l e R s m args below meth c' Z hC hR hd1 hd2 hb H locs ls cells slots hcc hss hW hS hl hst hlo
  have hKall := hC.2.2.2.2.2.1.1
  have hcl := vwAt hc13
  have hts := hC.2.2.2.2.1
  have hap := va_apart (own := y.1.cls) hts (inG hc13) (tyf c) (tyAt hc13) (nmAt hc13) hKall hcl
  have hat := hW.2.1 a ha
  rw [cE_o hk hc13] at hat
  obtain ⟨r, h1, cell, q1, q2, q3, q4⟩ := hat
  have hr' : r = (rx c, tf c, nf c) := Option.some.inj (h1.symm.trans hcl)
  subst hr'
  obtain ⟨hSl, hfc, kC, hkC, hkind⟩ := hKall.1 c _ hcl
  obtain ⟨cf, kf, fi, f, hi, hsl⟩ := hSl k hkn
  have hst' := (u_facts hfc hkC (u_lays hts (inG hc13) hkn) hi).1
  have hlink := hts _ (show Cond.fieldLink y.1.cls i (tf c k).1 (tf c k).2.1 (tf c k).2.2.1 ∈ gt by rw [ho]; exact hlk)
  have hlay := hts _ (inG hc13 _ (u_in_lay hkn))
  have fin : ∀ H' : Heap, H'[E.1 + a]? = some (cell.setSlot f.slot (cv E.1 v)) → H'.size = H.size → (∀ q, q ≠ E.1 + a → H'[q]? = H[q]?) → W p l e R s m args below meth c' H' (locs ++ [⟨E.1 + a, f.slot⟩]) cells slots Z { (F0 m pc ls (List.map (cv E.1) (v :: vr a :: st))) with pc := pc + 3, stack := List.map (cv E.1) st } := by
    intro H' e1 e2 e3
    rw [hsl] at e1
    have hW' : Wd E.2.1 E.2.2 E.1 h' H' := by
      refine hW.upd hn (hr hW.2.2 (ok_cons.mp hst).1) e2 ?_ e3 (fun x hx => hc _ _ x hx)
      rw [cE_o (by rw [hkk]; exact hk) hc13]
      refine ⟨_, hcl, t_OB.to (V := updV (vp_V (ovs E.1 h a c)) k (cv E.1 v)) ⟨_, e1, q2, q3, t_set q4 hap hkn _⟩ (fun j hj => ?_)⟩
      rw [vpV_ovs hj, hov _ j hj]
      by_cases e : j = k
      · subst e; simp [updV]
      · simp [updV, e, vpV_ovs hj]
    exact kk E p l e R s m args below meth c' Z hC hR hd1 hd2 hb H' _ ls cells slots hcc hss hW' (hS.put e2 e3 (by show E.1 ≤ E.1 + a; omega)) hl (ok_cons.mp (ok_cons.mp hst).2).2 hlo
  rcases hfin with hfin | ⟨hdecl, hdecl2, hini⟩
  · by_cases hf2 : (tf c k).2.2.2 = true
    · rw [hfin] at hf2; cases hf2
    · unfold u_lay at hlay
      rw [if_neg hf2] at hlay
      have h6 := u_store hfc hkC hkind hlay hi (tyAt hc13 k hkn) (hv E.1).1 (hv E.1).2
      exact W.putK hC.1 hC.2.1 (f := f) ⟨hC.2.2.2.1, hlink, ⟨_, _, _, hi⟩, hst'⟩ (by rw [q2]; exact h6) q1 q3 (by rw [hsl]; exact k2_hasslot (q4 k hkn)) rfl rfl hd fin
  · by_cases hf2 : (tf c k).2.2.2 = true
    · unfold u_lay at hlay
      rw [if_pos hf2] at hlay
      have hcf : m.cls = cf := by
        obtain ⟨_, _, c'', _, _, _, -, -, hf', -, -, -, hown2, -⟩ := Cond.laysFinal_spec hlay
        have e1 : c'' = cf := by have := hi.symm.trans hf'; simp at this; exact this.1.symm
        rw [hdecl] at hown2
        rw [← e1]; exact Option.some.inj (hC.2.2.2.1.symm.trans hown2)
      have h6 := u_fits hfc hkC hkind (Or.inr hlay) hi (tyAt hc13 k hkn) (hv E.1).1 (hv E.1).2
      exact W.putFinK hC.1 hC.2.1 hC.2.2.2.1 hlink hi hst' hcf (hC.2.2.2.2.2.2 hini) (by rw [q2]; exact h6) q1 q3 (by rw [hsl]; exact k2_hasslot (q4 k hkn)) rfl rfl hd fin
    · unfold u_lay at hlay
      rw [if_neg hf2] at hlay
      have h6 := u_store hfc hkC hkind hlay hi (tyAt hc13 k hkn) (hv E.1).1 (hv E.1).2
      exact W.putK hC.1 hC.2.1 (f := f) ⟨hC.2.2.2.1, hlink, ⟨_, _, _, hi⟩, hst'⟩ (by rw [q2]; exact h6) q1 q3 (by rw [hsl]; exact k2_hasslot (q4 k hkn)) rfl rfl hd fin
theorem in_sI {h : AH} {a k : Nat} {v : Int} (hh : ∀ a k, inr (iH h a k)) (hv : inr v) : ∀ x j, inr (iH (sI h a k v) x j) := by
  intro x j
  show inr (u2 h.2.2.1 a k v x j)
  unfold u2
  by_cases e : x = a
  · rw [if_pos e]
    by_cases e2 : j = k
    · rw [if_pos e2]; exact hv
    · rw [if_neg e2]; exact hh x j
  · rw [if_neg e]; exact hh x j
/-- a whole number comes into a field -/
theorem w_putI {o i c k a : Nat} {x : Int} (ho : y.1.cls = rx o) (hd : decode y.2.1 pc = .ok (.putfield i, 3)) (hf : flq o i c k = true) (hfin : (tf c k).2.2.2 = false ∨ ((tf c k).1 = y.1.cls ∧ (tf c k).1 = rx c ∧ y.1.name = "<init>")) (ht : (fR c).getD k false = false ∧ (tyf c k = .int ∨ (tyf c k = .boolean ∧ (x = 0 ∨ x = 1)))) (ha : a < nH h) (hk : kH h a = (c, 0)) (kk : wp y d rc rs Q (pc + 3) lo st (sI h a k x)) : wp y d rc rs Q pc lo (vi x :: vr a :: st) h := by
  refine w_putx (v := vi x) (h' := sI h a k x) ho hd hf hfin ha hk (fun b => ?_) rfl rfl (fun h1 h2 => in_sI h1 h2) (fun cy b z hz => cE_sI hz) (fun b j hj => ?_) kk
  · rcases ht.2 with e | ⟨e, rfl | rfl⟩
    · rw [e]; exact ⟨rfl, rfl⟩
    · rw [e]; exact ⟨show narrow FieldType.boolean (.int (Int32.ofInt 0)) = .int (Int32.ofInt 0) by decide +kernel, show fits FieldType.boolean (.int (Int32.ofInt 0)) = true by decide +kernel⟩
    · rw [e]; exact ⟨show narrow FieldType.boolean (.int (Int32.ofInt 1)) = .int (Int32.ofInt 1) by decide +kernel, show fits FieldType.boolean (.int (Int32.ofInt 1)) = true by decide +kernel⟩
  · by_cases e : j = k
    · subst e
      rw [if_pos rfl]
      unfold ov
      rw [ht.1]
      simp [iH, sI, u2, cv]
    · rw [if_neg e]
      unfold ov
      simp [iH, rH, sI, u2, e]
/-- a reference comes into a field -/
theorem w_putR {o i c k a b0 : Nat} (ho : y.1.cls = rx o) (hd : decode y.2.1 pc = .ok (.putfield i, 3)) (hf : flq o i c k = true) (hfin : (tf c k).2.2.2 = false ∨ ((tf c k).1 = y.1.cls ∧ (tf c k).1 = rx c ∧ y.1.name = "<init>")) (ht : (fR c).getD k false = true ∧ ((∃ C, tyf c k = .object C) ∨ ∃ t, tyf c k = .array t)) (ha : a < nH h) (hk : kH h a = (c, 0)) (kk : wp y d rc rs Q (pc + 3) lo st (sR h a k (some b0))) : wp y d rc rs Q pc lo (vr b0 :: vr a :: st) h := by
  refine w_putx (v := vr b0) (h' := sR h a k (some b0)) ho hd hf hfin ha hk (fun b => ?_) rfl rfl (fun h1 _ => h1) (fun cy b z hz => cE_sR hz) (fun b j hj => ?_) kk
  · rcases ht.2 with ⟨C, e⟩ | ⟨t, e⟩ <;> (rw [e]; exact ⟨rfl, rfl⟩)
  · by_cases e : j = k
    · subst e
      rw [if_pos rfl]
      unfold ov
      rw [ht.1]
      simp [rH, sR, u2, cv]
    · rw [if_neg e]
      unfold ov
      simp [iH, rH, sR, u2, e]
end HROWS
end
section
section AROWS
variable {y : MI} {d rc rs : Nat} {Q : Option AV → AH → Prop} {pc q : Nat} {lo : List (Option AV)} {st st' : List AV} {h : AH}
theorem w_iald {a n : Nat} {x : Int} (hd : decode y.2.1 pc = .ok (.iaload, 1)) (ha : a < nH h) (hk : kH h a = (13, n)) (h0 : 0 ≤ x) (h1 : x < n) (kk : wp y d rc rs Q (pc + 1) lo (vi (iH h a x.toNat) :: st) h) : wp y d rc rs Q pc lo (vi x :: vr a :: st) h := by
  intro E p l e R s m args below meth c' Z hC hR hd1 hd2 hb H locs ls cells slots hc hs hW hS hl hst hlo
  have hx : inr x := (ok_cons.mp hst).1
  refine va_iald hC.1 hC.2.1 hC.2.2.2.2.2.1.1 (hW.one ha (cE_i hk (Or.inl rfl))) 0 0 rfl (tyL_at _ (t := 13) (by omega) (by omega)) (in_ix hx h0 h1) hd ?_
  rw [oi_nat hx]
  exact kk E p l e R s m args below meth c' Z hC hR hd1 hd2 hb H locs ls cells slots hc hs hW hS hl (ok_cons.mpr ⟨hW.2.2 _ _, (ok_cons.mp (ok_cons.mp hst).2).2⟩) hlo
theorem w_bald {a n : Nat} {x : Int} (hd : decode y.2.1 pc = .ok (.baload, 1)) (ha : a < nH h) (hk : kH h a = (15, n)) (h0 : 0 ≤ x) (h1 : x < n) (kk : wp y d rc rs Q (pc + 1) lo (vi (iH h a x.toNat) :: st) h) : wp y d rc rs Q pc lo (vi x :: vr a :: st) h := by
  intro E p l e R s m args below meth c' Z hC hR hd1 hd2 hb H locs ls cells slots hc hs hW hS hl hst hlo
  have hx : inr x := (ok_cons.mp hst).1
  refine va_zald hC.1 hC.2.1 hC.2.2.2.2.2.1.1 (hW.one ha (cE_i hk (Or.inr rfl))) 0 2 rfl (tyL_at _ (t := 15) (by omega) (by omega)) (in_ix hx h0 h1) hd ?_
  rw [oi_nat hx]
  exact kk E p l e R s m args below meth c' Z hC hR hd1 hd2 hb H locs ls cells slots hc hs hW hS hl (ok_cons.mpr ⟨hW.2.2 _ _, (ok_cons.mp (ok_cons.mp hst).2).2⟩) hlo
theorem w_lald {a n : Nat} {x : Int} (hd : decode y.2.1 pc = .ok (.laload, 1)) (ha : a < nH h) (hk : kH h a = (14, n)) (h0 : 0 ≤ x) (h1 : x < n) (kk : wp y d rc rs Q (pc + 1) lo (vl (jH h a x.toNat) :: st) h) : wp y d rc rs Q pc lo (vi x :: vr a :: st) h := by
  intro E p l e R s m args below meth c' Z hC hR hd1 hd2 hb H locs ls cells slots hc hs hW hS hl hst hlo
  have hx : inr x := (ok_cons.mp hst).1
  refine va_lald hC.1 hC.2.1 hC.2.2.2.2.2.1.1 (hW.one ha (cE_j hk)) 0 1 rfl (tyL_at _ (t := 14) (by omega) (by omega)) (in_ix hx h0 h1) hd ?_
  rw [oi_nat hx]
  exact kk E p l e R s m args below meth c' Z hC hR hd1 hd2 hb H locs ls cells slots hc hs hW hS hl (ok_cons.mpr ⟨trivial, (ok_cons.mp (ok_cons.mp hst).2).2⟩) hlo
theorem tyA_ref {t : Nat} (h1 : 15 < t) (h2 : t < 23) : (tyA t).isReference = true := by
  rcases (show t = 16 ∨ t = 17 ∨ t = 18 ∨ t = 19 ∨ t = 20 ∨ t = 21 ∨ t = 22 by omega) with rfl | rfl | rfl | rfl | rfl | rfl | rfl <;> rfl
theorem w_aald {a t n : Nat} {x : Int} (hd : decode y.2.1 pc = .ok (.aaload, 1)) (ha : a < nH h) (hk : kH h a = (t, n)) (ht : 15 < t ∧ t < 23) (h0 : 0 ≤ x) (h1 : x < n) (kk : wp y d rc rs Q (pc + 1) lo (vq (rH h a x.toNat) :: st) h) : wp y d rc rs Q pc lo (vi x :: vr a :: st) h := by
  intro E p l e R s m args below meth c' Z hC hR hd1 hd2 hb H locs ls cells slots hc hs hW hS hl hst hlo
  have hx : inr x := (ok_cons.mp hst).1
  have hi := in_ix hx h0 h1
  have hat := hW.2.1 a ha
  rw [cE_q hk ht.1] at hat
  have hlt : (Int32.ofInt x).toNatClampNeg < n := Nat.not_le.mp fun q => hi (Or.inr q)
  refine W.aald (v := cv E.1 (vq (rH h a x.toNat))) (ty := tyA t) hC.1 hC.2.1 hat ((hC.2.2.2.2.2.1.1.2 (t - 13) _ (tyL_at E.2.2 (t := t) (by omega) (by omega))).1 n _) (tyA_ref ht.1 ht.2) (fun q => by cases q) (by show ¬ (_ < 0 ∨ (arrV _ _ _).slots.size ≤ _); rw [arrV_size]; exact hi) (by show (arrV _ _ _).slots[_]? = _; rw [arrV_read _ _ hlt, oi_nat hx]; rfl) rfl rfl hd ?_
  exact kk E p l e R s m args below meth c' Z hC hR hd1 hd2 hb H locs ls cells slots hc hs hW hS hl (ok_cons.mpr ⟨trivial, (ok_cons.mp (ok_cons.mp hst).2).2⟩) hlo
theorem w_alen {a t n : Nat} (hd : decode y.2.1 pc = .ok (.arraylength, 1)) (ha : a < nH h) (hk : kH h a = (t, n)) (ht : 13 ≤ t ∧ t < 23) (hn : inr (n : Int)) (kk : wp y d rc rs Q (pc + 1) lo (vi (n : Int) :: st) h) : wp y d rc rs Q pc lo (vr a :: st) h := by
  intro E p l e R s m args below meth c' Z hC hR hd1 hd2 hb H locs ls cells slots hc hs hW hS hl hst hlo
  have hw : ∃ x : vp_A, x.1 = n ∧ cE E.2.2 E.1 h a = .inl (E.2.2 t, x) := by
    by_cases e : t = 14
    · subst e; exact ⟨_, rfl, cE_j hk⟩
    · by_cases e2 : 15 < t
      · exact ⟨_, rfl, cE_q hk e2⟩
      · exact ⟨_, rfl, cE_i hk (by omega)⟩
  obtain ⟨x, hx1, hx2⟩ := hw
  refine va_alen (v := Int32.ofInt (n : Int)) hC.1 hC.2.1 hC.2.2.2.2.2.1.1 (hW.one ha hx2) 0 (t - 13) rfl (tyL_at _ ht.1 ht.2) (by rw [hx1]; rfl) hd ?_
  exact kk E p l e R s m args below meth c' Z hC hR hd1 hd2 hb H locs ls cells slots hc hs hW hS hl (ok_cons.mpr ⟨hn, (ok_cons.mp hst).2⟩) hlo
theorem updI {f : Nat → Int} {k : Nat} {x : Int} : updV (fun j => Value.int (Int32.ofInt (f j))) k (.int (Int32.ofInt x)) = fun j => Value.int (Int32.ofInt (if j = k then x else f j)) := by
  funext j
  by_cases e : j = k <;> simp [updV, e]
theorem w_iast {a n : Nat} {x z : Int} (hd : decode y.2.1 pc = .ok (.iastore, 1)) (ha : a < nH h) (hk : kH h a = (13, n)) (h0 : 0 ≤ x) (h1 : x < n) (kk : wp y d rc rs Q (pc + 1) lo st (sI h a x.toNat z)) : wp y d rc rs Q pc lo (vi z :: vi x :: vr a :: st) h := by
  intro E p l e R s m args below meth c' Z hC hR hd1 hd2 hb H locs ls cells slots hc hs hW hS hl hst hlo
  have hz : inr z := (ok_cons.mp hst).1
  have hx : inr x := (ok_cons.mp (ok_cons.mp hst).2).1
  have hat := hW.2.1 a ha
  rw [cE_i hk (Or.inl rfl)] at hat
  refine W.iast hC.1 hC.2.1 hat ((hC.2.2.2.2.2.1.1.2 0 _ (tyL_at E.2.2 (t := 13) (by omega) (by omega))).1 n _) (fun q => by cases q) (by show ¬ (_ < 0 ∨ (arrV _ _ _).slots.size ≤ _); rw [arrV_size]; exact in_ix hx h0 h1) rfl rfl hd fun H1 e1 z1 oq => ?_
  refine kk E p l e R s m args below meth c' Z hC hR hd1 hd2 hb H1 _ ls cells slots hc hs (hW.upd rfl (in_sI hW.2.2 hz) z1 ?_ oq (fun x hx => cE_sI hx)) (hS.put z1 oq (by show E.1 ≤ E.1 + a; omega)) hl (ok_cons.mp (ok_cons.mp (ok_cons.mp hst).2).2).2 hlo
  rw [cE_i (h := sI h a x.toNat z) hk (Or.inl rfl)]
  show H1[E.1 + a]? = some (vp_cell _ _)
  rw [e1, vp_cell_i, vp_cell_i, arrV_store, oi_nat hx, updI]
  congr 2
  funext j
  simp [iH, sI, u2]
theorem w_bast {a n : Nat} {x z : Int} (hd : decode y.2.1 pc = .ok (.bastore, 1)) (ha : a < nH h) (hk : kH h a = (15, n)) (h0 : 0 ≤ x) (h1 : x < n) (hz1 : z = 0 ∨ z = 1) (kk : wp y d rc rs Q (pc + 1) lo st (sI h a x.toNat z)) : wp y d rc rs Q pc lo (vi z :: vi x :: vr a :: st) h := by
  intro E p l e R s m args below meth c' Z hC hR hd1 hd2 hb H locs ls cells slots hc hs hW hS hl hst hlo
  have hz : inr z := (ok_cons.mp hst).1
  have hx : inr x := (ok_cons.mp (ok_cons.mp hst).2).1
  have hat := hW.2.1 a ha
  rw [cE_i hk (Or.inr rfl)] at hat
  refine W.zast hC.1 hC.2.1 hat ((hC.2.2.2.2.2.1.1.2 2 _ (tyL_at E.2.2 (t := 15) (by omega) (by omega))).1 n _) (fun q => by cases q) (by show ¬ (_ < 0 ∨ (arrV _ _ _).slots.size ≤ _); rw [arrV_size]; exact in_ix hx h0 h1) rfl rfl hd fun H1 e1 z1 oq => ?_
  refine kk E p l e R s m args below meth c' Z hC hR hd1 hd2 hb H1 _ ls cells slots hc hs (hW.upd rfl (in_sI hW.2.2 hz) z1 ?_ oq (fun x hx => cE_sI hx)) (hS.put z1 oq (by show E.1 ≤ E.1 + a; omega)) hl (ok_cons.mp (ok_cons.mp (ok_cons.mp hst).2).2).2 hlo
  rw [cE_i (h := sI h a x.toNat z) hk (Or.inr rfl)]
  show H1[E.1 + a]? = some (vp_cell _ _)
  have en : narrow .boolean (.int (Int32.ofInt z)) = .int (Int32.ofInt z) := by rcases hz1 with rfl | rfl <;> decide +kernel
  rw [e1, en, vp_cell_i, vp_cell_i, arrV_store, oi_nat hx, updI]
  congr 2
  funext j
  simp [iH, sI, u2]
theorem w_last {a n : Nat} {x : Int} {z : Int64} (hd : decode y.2.1 pc = .ok (.lastore, 1)) (ha : a < nH h) (hk : kH h a = (14, n)) (h0 : 0 ≤ x) (h1 : x < n) (kk : wp y d rc rs Q (pc + 1) lo st (sJ h a x.toNat z)) : wp y d rc rs Q pc lo (vl z :: vi x :: vr a :: st) h := by
  intro E p l e R s m args below meth c' Z hC hR hd1 hd2 hb H locs ls cells slots hc hs hW hS hl hst hlo
  have hx : inr x := (ok_cons.mp (ok_cons.mp hst).2).1
  have hat := hW.2.1 a ha
  rw [cE_j hk] at hat
  refine W.last hC.1 hC.2.1 hat ((hC.2.2.2.2.2.1.1.2 1 _ (tyL_at E.2.2 (t := 14) (by omega) (by omega))).1 n _) (fun q => by cases q) (by show ¬ (_ < 0 ∨ (arrV _ _ _).slots.size ≤ _); rw [arrV_size]; exact in_ix hx h0 h1) rfl rfl hd fun H1 e1 z1 oq => ?_
  refine kk E p l e R s m args below meth c' Z hC hR hd1 hd2 hb H1 _ ls cells slots hc hs (hW.upd rfl hW.2.2 z1 ?_ oq (fun x hx => cE_sJ hx)) (hS.put z1 oq (by show E.1 ≤ E.1 + a; omega)) hl (ok_cons.mp (ok_cons.mp (ok_cons.mp hst).2).2).2 hlo
  rw [cE_j (h := sJ h a x.toNat z) hk]
  show H1[E.1 + a]? = some (vp_cell _ _)
  rw [e1, vp_cell_l, vp_cell_l, arrV_store, oi_nat hx]
  congr 2
  funext j
  by_cases e : j = x.toNat <;> simp [jH, sJ, u2, updV, e]
/-- which kind of object an array of objects holds -/
def elK (t : Nat) : Nat := match t with
  | 16 => 0
  | 17 => 5
  | 18 => 7
  | 19 => 8
  | _ => 9
theorem elK_ok {t : Nat} (h1 : 15 < t) (h2 : t < 21) : elK t < 13 ∧ tyA t = .object (rx (elK t)) := by
  rcases (show t = 16 ∨ t = 17 ∨ t = 18 ∨ t = 19 ∨ t = 20 by omega) with rfl | rfl | rfl | rfl | rfl <;> exact ⟨by decide, rfl⟩
theorem w_aast {a t n v nv : Nat} {x : Int} (hd : decode y.2.1 pc = .ok (.aastore, 1)) (ha : a < nH h) (hk : kH h a = (t, n)) (ht : 15 < t ∧ t < 21) (h0 : 0 ≤ x) (h1 : x < n) (hv : v < nH h) (hkv : kH h v = (elK t, nv)) (kk : wp y d rc rs Q (pc + 1) lo st (sR h a x.toNat (some v))) : wp y d rc rs Q pc lo (vr v :: vi x :: vr a :: st) h := by
  intro E p l e R s m args below meth c' Z hC hR hd1 hd2 hb H locs ls cells slots hc hs hW hS hl hst hlo
  have hx : inr x := (ok_cons.mp (ok_cons.mp hst).2).1
  have hi := in_ix hx h0 h1
  have hlt : (Int32.ofInt x).toNatClampNeg < n := Nat.not_le.mp fun q => hi (Or.inr q)
  have hneg : ¬ Int32.ofInt x < 0 := fun q => hi (Or.inl q)
  obtain ⟨hl13, hty⟩ := elK_ok ht.1 ht.2
  have hat := hW.2.1 a ha
  rw [cE_q hk ht.1] at hat
  have hatv := hW.2.1 v hv
  rw [cE_o hkv hl13] at hatv
  have hKall := hC.2.2.2.2.2.1.1
  obtain ⟨r', hr', cellV, g1, g2, g3, -⟩ := hatv
  have hcls := (hKall.1 (elK t) _ (vwAt hl13)).2
  have hRA := (hKall.2 (t - 13) _ (tyL_at E.2.2 (t := t) (by omega) (by omega))).2
  rw [hty] at hRA
  obtain ⟨kA, comp, k1, k2, k3, -⟩ := hRA
  have hcomp : comp = E.2.1.1 (elK t) := Option.some.inj (k3.symm.trans hcls.1)
  subst hcomp
  obtain ⟨kC, hkC, -⟩ := hcls.2
  refine W.aast hC.1 hC.2.1 hat (fun q h => by cases h) (fun h => by cases h) k1 k2 rfl hkC ⟨hneg, by show _ < (arrV _ _ _).slots.size; rw [arrV_size]; exact hlt⟩ g1 (fun q h => by rw [g3] at h; cases h) (by rw [g2]; exact hkC) (by rw [g2]; exact va_assign hcls) rfl rfl hd fun H1 e1 z1 oq => ?_
  refine kk E p l e R s m args below meth c' Z hC hR hd1 hd2 hb H1 _ ls cells slots hc hs (hW.upd rfl hW.2.2 z1 ?_ oq (fun x hx => cE_sR hx)) (hS.put z1 oq (by show E.1 ≤ E.1 + a; omega)) hl (ok_cons.mp (ok_cons.mp (ok_cons.mp hst).2).2).2 hlo
  rw [cE_q (h := sR h a x.toNat (some v)) hk ht.1]
  show H1[E.1 + a]? = some (vp_cell _ _)
  rw [e1, vp_cell_q, vp_cell_q, arrV_store, oi_nat hx]
  congr 2
  funext j
  by_cases e : j = x.toNat <;> simp [rH, sR, u2, updV, e, va_rf]
end AROWS
end
section
section FROWS
variable {y : MI} {d rc rs : Nat} {Q : Option AV → AH → Prop} {pc q : Nat} {lo : List (Option AV)} {st st' : List AV} {h : AH}
theorem w_goto {off : Int} {t : Nat} (hd : decode y.2.1 pc = .ok (.goto off, 3)) (ht : (pc : Int) + off = (t : Int)) (k : wp y d rc rs Q t lo st h) : wp y d rc rs Q pc lo st h :=
  wp_pure k (fun b p l e R s m args below meth c Z H locs ls cells slots hx hb hL hst kk => lv_goto hx hb hd ht kk) (fun h1 _ => h1)
theorem w_br {P : Prop} {t n : Nat} {w : List AV} (hrow : ∀ (b : Nat) (p : Program) (l : Launch) (e : Env) (R : Room) (s : State) (m : MethodId) (args : Array Value) (below : List Frame) (meth : Method) (c : Code) (Z : State → Prop) (H : Heap) (locs : List Loc) (ls : Array Slot) (cells slots : Nat) (rest : List Value), p.tables.exec = Jvm.exec → c.code = y.2.1 → (∀ v ∈ w, okV v) → (P → W p l e R s m args below meth c H locs cells slots Z (F0 m t ls rest)) → (¬ P → W p l e R s m args below meth c H locs cells slots Z (F0 m n ls rest)) → W p l e R s m args below meth c H locs cells slots Z (F0 m pc ls (w.map (cv b) ++ rest)))
    (kt : P → wp y d rc rs Q t lo st h) (kf : ¬ P → wp y d rc rs Q n lo st h) : wp y d rc rs Q pc lo (w ++ st) h := by
  intro E p l e R s m args below meth c Z hC hR hd1 hd2 hb H locs ls cells slots hc hs hW hS hl hst hlo
  rw [List.map_append]
  have h1 : ∀ v ∈ w, okV v := fun v hv => hst v (List.mem_append_left _ hv)
  have h2 : ∀ v ∈ st, okV v := fun v hv => hst v (List.mem_append_right _ hv)
  exact hrow E.1 p l e R s m args below meth c Z H locs ls cells slots _ hC.1 hC.2.1 h1 (fun hp => kt hp E p l e R s m args below meth c Z hC hR hd1 hd2 hb H locs ls cells slots hc hs hW hS hl h2 hlo) (fun hp => kf hp E p l e R s m args below meth c Z hC hR hd1 hd2 hb H locs ls cells slots hc hs hW hS hl h2 hlo)
/-- the condition of a comparison: 0 eq, 1 ne, 2 lt, 3 ge, 4 gt, 5 le -/
def cmp (o : Nat) (x z : Int) : Prop := match o with
  | 0 => x = z
  | 1 => x ≠ z
  | 2 => x < z
  | 3 => z ≤ x
  | 4 => z < x
  | _ => x ≤ z
def ifI (o : Nat) (off : Int) : Instr := match o with
  | 0 => .ifCond .eq off
  | 1 => .ifCond .ne off
  | 2 => .ifCond .lt off
  | 3 => .ifCond .ge off
  | 4 => .ifCond .gt off
  | _ => .ifCond .le off
def icI (o : Nat) (off : Int) : Instr := match o with
  | 0 => .if_icmp .eq off
  | 1 => .if_icmp .ne off
  | 2 => .if_icmp .lt off
  | 3 => .if_icmp .ge off
  | 4 => .if_icmp .gt off
  | _ => .if_icmp .le off
theorem w_if {o t : Nat} {off x : Int} (ho : o < 6) (hd : decode y.2.1 pc = .ok (ifI o off, 3)) (ht : (pc : Int) + off = (t : Int)) (kt : cmp o x 0 → wp y d rc rs Q t lo st h) (kf : ¬ cmp o x 0 → wp y d rc rs Q (pc + 3) lo st h) : wp y d rc rs Q pc lo (vi x :: st) h := by
  refine w_br (w := [vi x]) (P := cmp o x 0) ?_ kt kf
  intro b p l e R s m args below meth c Z H locs ls cells slots rest hx hb hok k1 k2
  have hi : inr x := (ok_cons.mp hok).1
  rcases (show o = 0 ∨ o = 1 ∨ o = 2 ∨ o = 3 ∨ o = 4 ∨ o = 5 by omega) with rfl | rfl | rfl | rfl | rfl | rfl
  · exact lv_if_eq hx hb hd ht (fun e => k1 ((oi_eq hi in_0).mp e)) (fun e => k2 (fun e' => e ((oi_eq hi in_0).mpr e')))
  · exact lv_if_ne hx hb hd ht (fun e => k1 (fun e' => e ((oi_eq hi in_0).mpr e'))) (fun e => k2 (fun e' => e' ((oi_eq hi in_0).mp e)))
  · exact lv_if_lt hx hb hd ht (fun e => k1 ((oi_lt hi in_0).mp e)) (fun e => k2 (fun e' => e ((oi_lt hi in_0).mpr e')))
  · exact lv_if_ge hx hb hd ht (fun e => k1 ((oi_le in_0 hi).mp e)) (fun e => k2 (fun e' => e ((oi_le in_0 hi).mpr e')))
  · exact lv_if_gt hx hb hd ht (fun e => k1 ((oi_lt in_0 hi).mp e)) (fun e => k2 (fun e' => e ((oi_lt in_0 hi).mpr e')))
  · exact lv_if_le hx hb hd ht (fun e => k1 ((oi_le hi in_0).mp e)) (fun e => k2 (fun e' => e ((oi_le hi in_0).mpr e')))
theorem w_ic {o t : Nat} {off x z : Int} (ho : o < 6) (hd : decode y.2.1 pc = .ok (icI o off, 3)) (ht : (pc : Int) + off = (t : Int)) (kt : cmp o x z → wp y d rc rs Q t lo st h) (kf : ¬ cmp o x z → wp y d rc rs Q (pc + 3) lo st h) : wp y d rc rs Q pc lo (vi z :: vi x :: st) h := by
  refine w_br (w := [vi z, vi x]) (P := cmp o x z) ?_ kt kf
  intro b p l e R s m args below meth c Z H locs ls cells slots rest hx hb hok k1 k2
  have hz : inr z := (ok_cons.mp hok).1
  have hi : inr x := (ok_cons.mp (ok_cons.mp hok).2).1
  rcases (show o = 0 ∨ o = 1 ∨ o = 2 ∨ o = 3 ∨ o = 4 ∨ o = 5 by omega) with rfl | rfl | rfl | rfl | rfl | rfl
  · exact lv_icmp_eq hx hb hd ht (fun e => k1 ((oi_eq hi hz).mp e)) (fun e => k2 (fun e' => e ((oi_eq hi hz).mpr e')))
  · exact lv_icmp_ne hx hb hd ht (fun e => k1 (fun e' => e ((oi_eq hi hz).mpr e'))) (fun e => k2 (fun e' => e' ((oi_eq hi hz).mp e)))
  · exact lv_icmp_lt hx hb hd ht (fun e => k1 ((oi_lt hi hz).mp e)) (fun e => k2 (fun e' => e ((oi_lt hi hz).mpr e')))
  · exact lv_icmp_ge hx hb hd ht (fun e => k1 ((oi_le hz hi).mp e)) (fun e => k2 (fun e' => e ((oi_le hz hi).mpr e')))
  · exact lv_icmp_gt hx hb hd ht (fun e => k1 ((oi_lt hz hi).mp e)) (fun e => k2 (fun e' => e ((oi_lt hz hi).mpr e')))
  · exact lv_icmp_le hx hb hd ht (fun e => k1 ((oi_le hi hz).mp e)) (fun e => k2 (fun e' => e ((oi_le hi hz).mpr e')))
/-- a switch: keys and places in order, else the last -/
def swK (x : Int) (K : Nat → Prop) (t0 : Nat) : List (Int × Nat) → Prop
  | [] => K t0
  | (k, t) :: r => (x = k → K t) ∧ (x ≠ k → swK x K t0 r)
def chkT (pc : Nat) : Int → List Int → List (Int × Nat) → Bool
  | _, [], [] => true
  | lo, o :: os, (k, t) :: r => decide (k = lo) && decide ((pc : Int) + o = (t : Int)) && chkT pc (lo + 1) os r
  | _, _, _ => false
def chkL (pc : Nat) : List (Int × Int) → List (Int × Nat) → Bool
  | [], [] => true
  | (a, o) :: os, (k, t) :: r => decide (k = a) && decide ((pc : Int) + o = (t : Int)) && chkL pc os r
  | _, _ => false
theorem swT {x : Int} {K : Nat → Prop} {t0 pc : Nat} : ∀ {os : List Int} {lo : Int} {r : List (Int × Nat)}, chkT pc lo os r = true → swK x K t0 r → (x < lo ∨ lo + os.length ≤ x → K t0) ∧ ∀ (i : Nat) (o : Int), os[i]? = some o → x = lo + i → ∃ t : Nat, (pc : Int) + o = (t : Int) ∧ K t
  | [], lo, [], h, hk => ⟨fun _ => hk, fun i o ho => by simp at ho⟩
  | [], lo, _ :: _, h, hk => by simp [chkT] at h
  | _ :: _, lo, [], h, hk => by simp [chkT] at h
  | o :: os, lo, (k, t) :: r, h, hk => by
    simp only [chkT, Bool.and_eq_true, decide_eq_true_eq] at h
    obtain ⟨⟨rfl, h2⟩, h3⟩ := h
    obtain ⟨k1, k2⟩ := hk
    by_cases e : x = k
    · subst e
      refine ⟨fun hh => by simp at hh; omega, fun i o' ho hx => ?_⟩
      have : i = 0 := by omega
      subst this
      simp at ho
      subst ho
      exact ⟨t, h2, k1 rfl⟩
    · obtain ⟨r1, r2⟩ := swT h3 (k2 e)
      refine ⟨fun hh => r1 (by simp at hh; omega), fun i o' ho hx => ?_⟩
      cases i with
      | zero => omega
      | succ i => exact r2 i o' (by simpa using ho) (by omega)
theorem w_ts {dflt lw hi : Int} {offs : Array Int} {len t0 : Nat} {x : Int} {r : List (Int × Nat)} (hd : decode y.2.1 pc = .ok (.tableswitch dflt lw hi offs, len)) (hn : lw + offs.toList.length = hi + 1) (h0 : (pc : Int) + dflt = (t0 : Int)) (hr : chkT pc lw offs.toList r = true) (k : swK x (fun t => wp y d rc rs Q t lo st h) t0 r) : wp y d rc rs Q pc lo (vi x :: st) h := by
  intro E p l e R s m args below meth c Z hC hR hd1 hd2 hb H locs ls cells slots hc hs hW hS hl hst hlo
  have hx : inr x := (ok_cons.mp hst).1
  obtain ⟨k1, k2⟩ := swT hr k
  have go : ∀ t, wp y d rc rs Q t lo st h → W p l e R s m args below meth c H locs cells slots Z (F0 m t ls (st.map (cv E.1))) := fun t kt => kt E p l e R s m args below meth c Z hC hR hd1 hd2 hb H locs ls cells slots hc hs hW hS hl (ok_cons.mp hst).2 hlo
  by_cases e : x < lw ∨ hi < x
  · refine lv_tableOut hC.1 hC.2.1 hd (by rw [oi_to hx]; exact e) h0 (go _ (k1 ?_))
    omega
  · have hlt : (x - lw).toNat < offs.toList.length := by omega
    obtain ⟨t, ht1, ht2⟩ := k2 (x - lw).toNat offs.toList[(x - lw).toNat] (List.getElem?_eq_getElem hlt) (by omega)
    refine lv_tableIn hC.1 hC.2.1 hd (by rw [oi_to hx]; omega) (by rw [oi_to hx]; omega) (off := offs.toList[(x - lw).toNat]) ?_ ht1 (go _ ht2)
    rw [oi_to hx, ← Array.getElem?_toList]
    exact List.getElem?_eq_getElem hlt
theorem swL {x : Int} {K : Nat → Prop} {t0 pc : Nat} {dflt : Int} (h0 : (pc : Int) + dflt = (t0 : Int)) : ∀ {os : List (Int × Int)} {r : List (Int × Nat)}, chkL pc os r = true → swK x K t0 r → ∃ t : Nat, (pc : Int) + Op.lookupswitch.offset os dflt x = (t : Int) ∧ K t
  | [], [], h, hk => ⟨t0, by rw [show Op.lookupswitch.offset [] dflt x = dflt from rfl]; exact h0, hk⟩
  | [], _ :: _, h, hk => by simp [chkL] at h
  | (_, _) :: _, [], h, hk => by simp [chkL] at h
  | (a, o) :: os, (k, t) :: r, h, hk => by
    simp only [chkL, Bool.and_eq_true, decide_eq_true_eq] at h
    obtain ⟨⟨rfl, h2⟩, h3⟩ := h
    obtain ⟨k1, k2⟩ := hk
    rw [Op.lookupswitch.offset_cons]
    by_cases e : x = k
    · subst e
      exact ⟨t, by simpa using h2, k1 rfl⟩
    · obtain ⟨t', r1, r2⟩ := swL h0 h3 (k2 e)
      refine ⟨t', ?_, r2⟩
      rw [if_neg]
      · exact r1
      · simpa using fun q => e q.symm
theorem w_lsw {dflt : Int} {ps : Array (Int × Int)} {len t0 : Nat} {x : Int} {r : List (Int × Nat)} (hd : decode y.2.1 pc = .ok (.lookupswitch dflt ps, len)) (hp : (ps.toList.zip (ps.toList.drop 1)).all (fun (a, next) => a.1 < next.1) = true) (h0 : (pc : Int) + dflt = (t0 : Int)) (hr : chkL pc ps.toList r = true) (k : swK x (fun t => wp y d rc rs Q t lo st h) t0 r) : wp y d rc rs Q pc lo (vi x :: st) h := by
  intro E p l e R s m args below meth c Z hC hR hd1 hd2 hb H locs ls cells slots hc hs hW hS hl hst hlo
  have hx : inr x := (ok_cons.mp hst).1
  obtain ⟨t, k1, k2⟩ := swL h0 hr k
  exact lv_lookup hC.1 hC.2.1 hd hp (by rw [oi_to hx]) k1 (k2 E p l e R s m args below meth c Z hC hR hd1 hd2 hb H locs ls cells slots hc hs hW hS hl (ok_cons.mp hst).2 hlo)
theorem w_ret {v : Option AV} (hi : rtI y v pc) (hq : Q v h) : wp y d rc rs Q pc lo v.toList h := by
  intro E p l e R s m args below meth c Z hC hR hd1 hd2 hb H locs ls cells slots hc hs hW hS hl hst hlo
  exact hR v h pc ls H locs cells slots hi (fun w hw => hst w (by rw [hw]; simp)) hq hW hS (by omega) (by omega)
theorem w_iret {x : Int} (hr : y.2.2.2 = some .int) (hd : decode y.2.1 pc = .ok (.ireturn, 1)) (hq : Q (some (vi x)) h) : wp y d rc rs Q pc lo [vi x] h := w_ret (v := some (vi x)) (Or.inl ⟨x, rfl, hr, hd⟩) hq
theorem w_zret {x : Int} (hr : y.2.2.2 = some .boolean) (hd : decode y.2.1 pc = .ok (.ireturn, 1)) (h01 : x = 0 ∨ x = 1) (hq : Q (some (vi x)) h) : wp y d rc rs Q pc lo [vi x] h := w_ret (v := some (vi x)) (Or.inr (Or.inl ⟨x, rfl, h01, hr, hd⟩)) hq
theorem w_lret {x : Int64} (hr : y.2.2.2 = some .long) (hd : decode y.2.1 pc = .ok (.lreturn, 1)) (hq : Q (some (vl x)) h) : wp y d rc rs Q pc lo [vl x] h := w_ret (v := some (vl x)) (Or.inr (Or.inr (Or.inl ⟨x, rfl, hr, hd⟩))) hq
theorem w_aret {x : Nat} {t : FieldType} (hr : y.2.2.2 = some (.array t)) (hd : decode y.2.1 pc = .ok (.areturn, 1)) (hq : Q (some (vr x)) h) : wp y d rc rs Q pc lo [vr x] h := w_ret (v := some (vr x)) (Or.inr (Or.inr (Or.inr (Or.inl ⟨x, t, rfl, hr, hd⟩)))) hq
theorem w_vret (hr : y.2.2.2 = none) (hd : decode y.2.1 pc = .ok (.return_, 1)) (hq : Q none h) : wp y d rc rs Q pc lo [] h := w_ret (v := none) (Or.inr (Or.inr (Or.inr (Or.inr ⟨rfl, hr, hd⟩)))) hq
end FROWS
end
section
theorem StP.same {b : Nat} {u U : State} (hv : u.vm = U.vm) (hh : U.heap = u.heap) (h : StP b u u.heap) : StP b U U.heap := by
  rw [hh]
  have hA : u.vm.Alike U.vm := by rw [← hv]; exact Vm.Alike.refl _
  obtain ⟨⟨t, h1, h2⟩, ⟨t', h3, h4⟩, ⟨adK, adV, h5, h6, h7, h8⟩, h9, h10⟩ := h
  exact ⟨⟨t, va_Z.moved hA h1, va_T.moved hA h2⟩, ⟨t', va_Z.moved hA h3, va_T.moved hA h4⟩, ⟨adK, adV, vk_S.moved hA h5, vk_R.same hv.symm h6, vk_R.same hv.symm h7, vk_R.same hv.symm h8⟩, va_Z.moved hA h9, va_Zq.moved hA h10⟩
theorem Gs.same {E : EN} {u U : State} (hv : u.vm = U.vm) (hh : U.heap = u.heap) (h : Gs E u) : Gs E U := by
  have hA : u.vm.Alike U.vm := by rw [← hv]; exact Vm.Alike.refl _
  exact ⟨va_K.moved hA h.1, fun q hq => va_Nw.same rfl hv (h.2.1 q hq), va_Nw.same rfl hv h.2.2.1, fun C hC => va_AO.moved hA (h.2.2.2.1 C hC), h.2.2.2.2.same hv hh⟩
theorem PcM_blind (E : EN) (av : List AV) (h : AH) : FrameBlind (PcM E av h) := fun a U g mk q => by
  obtain ⟨q0, q1, q2, q3⟩ := q
  exact ⟨q0, q1, q2, q3.same rfl rfl⟩
section CROWS
variable {y z : MI} {d d' rc rs mc ms : Nat} {Q Q' : Option AV → AH → Prop} {pc q : Nat} {lo : List (Option AV)} {st st' stk : List AV} {h : AH} {av : List AV}
/-- what the tables say of a method that is called -/
def ML (z : MI) (n : Nat) : Prop := cdw z ∈ gt ∧ Cond.initialized z.1.cls ∈ gt ∧ z.1.cls ≠ "java/lang/invoke/MethodHandle" ∧ z.1.cls ≠ "java/lang/invoke/VarHandle" ∧ (parseMethodDescriptor z.1.desc).map (fun d => d.parameters.length) = some n
def VL (y z : MI) (i n : Nat) : Prop := ML z n ∧ Cond.methodLink y.1.cls i z.1 ∈ gt ∧ Cond.instanceMethod z.1 ∈ gt ∧ Cond.selects z.1.cls z.1 z.1 ∈ gt
def SL (y z : MI) (i n : Nat) : Prop := ML z n ∧ Cond.methodLink y.1.cls i z.1 ∈ gt ∧ Cond.static z.1 ∈ gt
def IL (y z : MI) (i n : Nat) : Prop := ML z n ∧ Cond.methodLink y.1.cls i z.1 ∈ gt ∧ Cond.instanceMethod z.1 ∈ gt ∧ z.1.name = "<init>" ∧ z.2.2.2 = none
def NL (y z : MI) (i n : Nat) : Prop := ML z n ∧ y.1.cls = RX11 ∧ (i, z.1) ∈ nestM ∧ Cond.instanceMethod z.1 ∈ gt ∧ z.1.name = "<init>" ∧ z.2.2.2 = none
theorem w_fin {E : EN} {p : Program} {l : Launch} {e : Env} {R : Room} {s : State} {m : MethodId} {args : Array Value} {below : List Frame} {meth : Method} {c : Code} {Z : State → Prop} {H : Heap} {locs : List Loc} {ls : Array Slot} {cells slots : Nat} {st0 : List Value} {a : Array Value}
    (hr : va_Run p l e R s m args below meth c H locs cells slots mc ms (F0 m pc ls st0) (st.map (cv E.1)) (QcM E Q' a) (ab E.1)) (hS : va_S (ab E.1) s.heap H locs)
    (kk : ∀ (v : Option AV) (h' : AH) (H1 : Heap) (locs1 : List Loc), (∀ w, v = some w → okV w) → Q' v h' → Wd E.2.1 E.2.2 E.1 h' H1 → va_S (ab E.1) s.heap H1 locs1 → W p l e R s m args below meth c H1 locs1 (cells + mc) (slots + ms) Z (F0 m (pc + 3) ls ((v.toList ++ st).map (cv E.1)))) : W p l e R s m args below meth c H locs cells slots Z (F0 m pc ls st0) := by
  intro T hT X
  obtain ⟨v, st₀, t, T', L, h0, X', hL, e1, e2, ⟨v', h', ev, hok, hq, hWd, hz, hk⟩, stp⟩ := hr T hT X
  cases ev
  rw [h0] at hz hk
  obtain ⟨t2, a1, b1⟩ := kk v' h' T'.heap (locs ++ L) hok hq (by rw [e1]; exact hWd) ⟨Nat.le_trans hS.1 (by rw [e1]; exact hz), fun q h1 h2 => by rw [e1, hk q (Nat.lt_of_lt_of_le h1 hS.1) h2]; exact hS.2.1 q h1 h2, fun q hq => by
      rcases List.mem_append.mp hq with h | h
      · exact hS.2.2 q h
      · exact hL q h⟩ T' rfl X'
  refine ⟨t2, stp t2 ?_, b1⟩
  have : (v'.toList ++ st).map (cv E.1) = (v'.map (cv E.1)).toList ++ st.map (cv E.1) := by cases v' <;> rfl
  rw [this] at a1
  exact a1
theorem cat_sum (b : Nat) (st : List AV) : ((st.map (cv b)).map fun v => v.category).sum = (st.map cat).sum := by
  rw [List.map_map]
  congr 1
  exact List.map_congr_left (fun v _ => cv_cat b v)
theorem map_rev (b a : Nat) (av st : List AV) : (av.reverse ++ vr a :: st).map (cv b) = (av.map (cv b)).reverse ++ Value.ref (b + a) :: st.map (cv b) := by simp [cv, va_rf]
/-- a virtual call -/
theorem w_callV {i n c a : Nat} (hM : Ct d' mc ms z (vr a :: av) h Q') (hd : decode y.2.1 pc = .ok (.invokevirtual i, 3)) (hl : VL y z i n) (hs : stk = av.reverse ++ vr a :: st) (hn : av.length = n) (ha : a < nH h) (hk : kH h a = (c, 0)) (hc : c < 13 ∧ rx c = z.1.cls) (hdd : d' + 1 ≤ d) (hml : z.2.2.1 ≤ 45) (hmc : mc ≤ rc) (hms : ms ≤ rs) (h8 : (st.map cat).sum ≤ 8)
    (kk : ∀ (v : Option AV) (h' : AH), (∀ w, v = some w → okV w) → Q' v h' → wp y d (rc - mc) (rs - ms) Q (pc + 3) lo (v.toList ++ st) h') : wp y d rc rs Q pc lo stk h := by
  subst hs
  intro E p l e R s m args below meth c' Z hC hR hd1 hd2 hb H locs ls cells slots hcc hss hW hS hl' hst hlo
  obtain ⟨⟨l1, l2, l3, l4, l5⟩, l6, l7, l8⟩ := hl
  have hts := hC.2.2.2.2.1
  have hcb : CallB R s args y.1.cls i z.1 z.2.1 z.2.2.1 z.2.2.2 (wsM z) (rmM d' mc ms) mc ms n := callB_of n hts (gt_good l1) rfl rfl rfl (hts _ l2) (hts _ l6) ⟨l3, l4, l5⟩ ⟨by show d' + 1 ≤ R.frames; omega, by show 8 + (z.2.2.1 + 11) + 64 * d' ≤ R.locals; omega⟩
  have hat := hW.2.1 a ha
  rw [cE_o hk hc.1] at hat
  obtain ⟨r, h1, cell, q1, q2, q3, -⟩ := hat
  have hfc := (hC.2.2.2.2.2.1.1.1 c _ (vwAt hc.1)).2.1
  have hstv : ∀ v ∈ vr a :: av, okV v := fun v hv => by
    rcases List.mem_cons.mp hv with rfl | hv
    · trivial
    · exact hst v (List.mem_append_left _ (List.mem_reverse.mpr hv))
  rw [map_rev]
  refine w_fin (E := E) (va_runV (As := av.map (cv E.1)) (rest := st.map (cv E.1)) (b := E.1 + a) (C := z.1.cls) ⟨hC.1, hC.2.1, hC.2.2.1, hC.2.2.2.1, hts⟩ (hM l E) ⟨hcb, hts _ l7, hts _ l8⟩ ⟨PcM_blind E _ _, ⟨cell, q1, by rw [q3]; rfl, by rw [q2, ← hc.2]; exact hfc⟩, fun U hU hWm => ⟨rfl, hstv, by rw [hU]; exact hW, hC.2.2.2.2.2.1.go hWm (by rw [hU]; exact hS)⟩⟩ rfl (by rw [List.length_map]; exact hn) hl'.1 rfl (lv_room (by rw [cat_sum]; exact h8)) hd ⟨by omega, by omega⟩) hS ?_
  intro v h' H1 locs1 hok hq hW1 hS1
  exact kk v h' hok hq E p l e R s m args below meth c' Z hC hR hd1 hd2 hb H1 locs1 ls (cells + mc) (slots + ms) (by omega) (by omega) hW1 hS1 hl' (fun w hw => by
    rcases List.mem_append.mp hw with hw | hw
    · cases v with
      | none => simp at hw
      | some v => simp at hw; rw [hw]; exact hok v rfl
    · exact hst w (List.mem_append_right _ (List.mem_cons_of_mem _ hw))) hlo
/-- a static call -/
theorem w_callS {i n : Nat} (hM : Ct d' mc ms z av h Q') (hd : decode y.2.1 pc = .ok (.invokestatic i, 3)) (hl : SL y z i n) (hs : stk = av.reverse ++ st) (hn : av.length = n) (hdd : d' + 1 ≤ d) (hml : z.2.2.1 ≤ 45) (hmc : mc ≤ rc) (hms : ms ≤ rs) (h8 : (st.map cat).sum ≤ 8)
    (kk : ∀ (v : Option AV) (h' : AH), (∀ w, v = some w → okV w) → Q' v h' → wp y d (rc - mc) (rs - ms) Q (pc + 3) lo (v.toList ++ st) h') : wp y d rc rs Q pc lo stk h := by
  subst hs
  intro E p l e R s m args below meth c' Z hC hR hd1 hd2 hb H locs ls cells slots hcc hss hW hS hl' hst hlo
  obtain ⟨⟨l1, l2, l3, l4, l5⟩, l6, l7⟩ := hl
  have hts := hC.2.2.2.2.1
  have hcb : CallB R s args y.1.cls i z.1 z.2.1 z.2.2.1 z.2.2.2 (wsM z) (rmM d' mc ms) mc ms n := callB_of n hts (gt_good l1) rfl rfl rfl (hts _ l2) (hts _ l6) ⟨l3, l4, l5⟩ ⟨by show d' + 1 ≤ R.frames; omega, by show 8 + (z.2.2.1 + 11) + 64 * d' ≤ R.locals; omega⟩
  have hstv : ∀ v ∈ av, okV v := fun v hv => hst v (List.mem_append_left _ (List.mem_reverse.mpr hv))
  have em : (av.reverse ++ st).map (cv E.1) = (av.map (cv E.1)).reverse ++ st.map (cv E.1) := by simp
  rw [em]
  refine w_fin (E := E) (va_runS (As := av.map (cv E.1)) (rest := st.map (cv E.1)) ⟨hC.1, hC.2.1, hC.2.2.1, hC.2.2.2.1, hts⟩ (hM l E) ⟨hcb, hts _ l7⟩ ⟨PcM_blind E _ _, fun U hU hWm => ⟨rfl, hstv, by rw [hU]; exact hW, hC.2.2.2.2.2.1.go hWm (by rw [hU]; exact hS)⟩⟩ rfl (by rw [List.length_map]; exact hn) hl'.1 rfl (lv_room (by rw [cat_sum]; exact h8)) hd ⟨by omega, by omega⟩) hS ?_
  intro v h' H1 locs1 hok hq hW1 hS1
  exact kk v h' hok hq E p l e R s m args below meth c' Z hC hR hd1 hd2 hb H1 locs1 ls (cells + mc) (slots + ms) (by omega) (by omega) hW1 hS1 hl' (fun w hw => by
    rcases List.mem_append.mp hw with hw | hw
    · cases v with
      | none => simp at hw
      | some v => simp at hw; rw [hw]; exact hok v rfl
    · exact hst w (List.mem_append_right _ hw)) hlo
/-- a constructor -/
theorem w_callI {i n a : Nat} (hM : Ct d' mc ms z (vr a :: av) h Q') (hd : decode y.2.1 pc = .ok (.invokespecial i, 3)) (hl : IL y z i n ∨ NL y z i n) (hs : stk = av.reverse ++ vr a :: st) (hn : av.length = n) (hdd : d' + 1 ≤ d) (hml : z.2.2.1 ≤ 45) (hmc : mc ≤ rc) (hms : ms ≤ rs) (h8 : (st.map cat).sum ≤ 8)
    (kk : ∀ (v : Option AV) (h' : AH), (∀ w, v = some w → okV w) → Q' v h' → wp y d (rc - mc) (rs - ms) Q (pc + 3) lo (v.toList ++ st) h') : wp y d rc rs Q pc lo stk h := by
  subst hs
  intro E p l e R s m args below meth c' Z hC hR hd1 hd2 hb H locs ls cells slots hcc hss hW hS hl' hst hlo
  have hts := hC.2.2.2.2.1
  have hstv : ∀ v ∈ vr a :: av, okV v := fun v hv => by
    rcases List.mem_cons.mp hv with rfl | hv
    · trivial
    · exact hst v (List.mem_append_left _ (List.mem_reverse.mpr hv))
  rw [map_rev]
  have hrun : va_Run p l e R s m args below meth c' H locs cells slots mc ms (F0 m pc ls ((av.map (cv E.1)).reverse ++ Value.ref (E.1 + a) :: st.map (cv E.1))) (st.map (cv E.1)) (QcM E Q' (Value.ref (E.1 + a) :: av.map (cv E.1)).toArray) (ab E.1) := by
    have hpre : PreS s H (PcM E (vr a :: av) h) (Value.ref (E.1 + a) :: av.map (cv E.1)) := ⟨PcM_blind E _ _, fun U hU hWm => ⟨rfl, hstv, by rw [hU]; exact hW, hC.2.2.2.2.2.1.go hWm (by rw [hU]; exact hS)⟩⟩
    rcases hl with ⟨⟨l1, l2, l3, l4, l5⟩, l6, l7, l8, l9⟩ | ⟨⟨l1, l2, l3, l4, l5⟩, l6, l7, l8, l9, l10⟩
    · have hcb : CallB R s args y.1.cls i z.1 z.2.1 z.2.2.1 none (wsM z) (rmM d' mc ms) mc ms n := callB_of (ws' := gt) n hts (gt_good l1) (by rw [← l9]; rfl) rfl rfl (hts _ l2) (hts _ l6) ⟨l3, l4, l5⟩ ⟨by show d' + 1 ≤ R.frames; omega, by show 8 + (z.2.2.1 + 11) + 64 * d' ≤ R.locals; omega⟩
      exact va_runI (As := av.map (cv E.1)) (rest := st.map (cv E.1)) ⟨hC.1, hC.2.1, hC.2.2.1, hC.2.2.2.1, hts⟩ (hM l E) ⟨hcb, l8, hts _ l7⟩ hpre rfl (by rw [List.length_map]; exact hn) hl'.1 rfl (lv_room (by rw [cat_sum]; exact h8)) hd ⟨by omega, by omega⟩
    · have hcb : va_CN R s args y.1.cls i z.1 RX11 z.2.1 z.2.2.1 none (wsM z) (rmM d' mc ms) mc ms n := va_cnB (ws' := gt) n hts (gt_good l1) (by rw [← l10]; rfl) rfl rfl (by rw [l6]; exact hC.2.2.2.2.2.1.2.1 _ l7) (hts _ l2) ⟨l3, l4, l5⟩ ⟨by show d' + 1 ≤ R.frames; omega, by show 8 + (z.2.2.1 + 11) + 64 * d' ≤ R.locals; omega⟩
      exact va_runIN (As := av.map (cv E.1)) (rest := st.map (cv E.1)) ⟨hC.1, hC.2.1, hC.2.2.1, hC.2.2.2.1, hts⟩ (hM l E) ⟨hcb, l9, hts _ l8⟩ hpre rfl (by rw [List.length_map]; exact hn) hl'.1 rfl (lv_room (by rw [cat_sum]; exact h8)) hd ⟨by omega, by omega⟩
  refine w_fin (E := E) hrun hS ?_
  intro v h' H1 locs1 hok hq hW1 hS1
  exact kk v h' hok hq E p l e R s m args below meth c' Z hC hR hd1 hd2 hb H1 locs1 ls (cells + mc) (slots + ms) (by omega) (by omega) hW1 hS1 hl' (fun w hw => by
    rcases List.mem_append.mp hw with hw | hw
    · cases v with
      | none => simp at hw
      | some v => simp at hw; rw [hw]; exact hok v rfl
    · exact hst w (List.mem_append_right _ (List.mem_cons_of_mem _ hw))) hlo
/-- Object's own constructor -/
theorem w_obj {i a : Nat} (hd : decode y.2.1 pc = .ok (.invokespecial i, 3)) (hl : Cond.methodLink y.1.cls i objectInit ∈ gt ∧ Cond.instanceMethod objectInit ∈ gt ∧ Cond.code objectInit ⟨#[0xb1]⟩ 1 none ∈ gt) (hdd : 1 ≤ d) (h8 : (st.map cat).sum ≤ 8) (kk : wp y d rc rs Q (pc + 3) lo st h) : wp y d rc rs Q pc lo (vr a :: st) h := by
  intro E p l e R s m args below meth c' Z hC hR hd1 hd2 hb H locs ls cells slots hcc hss hW hS hl' hst hlo
  have hts := hC.2.2.2.2.1
  refine W.objInit hC.1 hC.2.1 hC.2.2.2.1 (hts _ hl.1) (hts _ hl.2.1) (hts _ hl.2.2) rfl (by rw [hC.2.2.1]; exact hl'.1) rfl hd (by omega) ?_ ?_
  · have := lv_room (m := m) (pc := pc) (ls := ls) (rest := (vr a :: st).map (cv E.1)) (st := st.map (cv E.1)) (by rw [cat_sum]; exact h8)
    exact Nat.le_trans (Nat.add_le_add_right this 12) (by omega)
  · exact kk E p l e R s m args below meth c' Z hC hR hd1 hd2 hb H locs ls cells slots hcc hss hW hS hl' (ok_cons.mp hst).2 hlo
end CROWS
end
section
section NROWS
variable {y : MI} {d rc rs : Nat} {Q : Option AV → AH → Prop} {pc q : Nat} {lo : List (Option AV)} {st st' : List AV} {h : AH}
theorem in_nw {h : AH} {t n : Nat} (hh : ∀ a k, inr (iH h a k)) : ∀ x j, inr (iH (nw h t n) x j) := by
  intro x j
  show inr (r2 h.2.2.1 h.1 (fun _ => 0) x j)
  unfold r2
  by_cases e : x = h.1
  · rw [if_pos e]; exact in_0
  · rw [if_neg e]; exact hh x j
theorem kH_nw (h : AH) (t n : Nat) : kH (nw h t n) (nH h) = (t, n) := by simp [kH, nw, nH]
theorem iH_nw (h : AH) (t n j : Nat) : iH (nw h t n) (nH h) j = 0 := by simp [iH, nw, nH, r2]
theorem jH_nw (h : AH) (t n j : Nat) : jH (nw h t n) (nH h) j = 0 := by simp [jH, nw, nH, r2]
theorem rH_nw (h : AH) (t n j : Nat) : rH (nw h t n) (nH h) j = none := by simp [rH, nw, nH, r2]
theorem dfl : ∀ c, c < 13 → ∀ k, k < nf c → defaultValue (tyf c k) = if (fR c).getD k false = true then Value.null else Value.int 0 := by decide +kernel
/-- a new object -/
theorem w_new {i c : Nat} (hc : c < 13) (hd : decode y.2.1 pc = .ok (.new i, 3)) (hl : Cond.classLink y.1.cls i (rx c) ∈ gt ∧ Cond.instantiable (rx c) (nf c) ∈ gt ∧ Cond.initialized (rx c) ∈ gt) (h1 : 1 ≤ rc) (h2 : nf c ≤ rs) (kk : wp y d (rc - 1) (rs - nf c) Q (pc + 3) lo (vr (nH h) :: st) (nw h c 0)) : wp y d rc rs Q pc lo st h := by
  intro E p l e R s m args below meth c' Z hC hR hd1 hd2 hb H locs ls cells slots hcc hss hW hS hl' hst hlo
  have hts := hC.2.2.2.2.1
  have hKn := hC.2.2.2.2.2.1.1.1 c _ (vwAt hc)
  refine W.newcK hC.1 hC.2.1 hC.2.2.2.1 (hts _ hl.1) (hts _ hl.2.1) (hts _ hl.2.2) rfl hd (by omega) (by omega) hKn.2.1 hW.1 fun H1 kC hkC e1 z1 o1 => ?_
  have hW1 : Wd E.2.1 E.2.2 E.1 (nw h c 0) H1 := by
    refine hW.push rfl (in_nw hW.2.2) (by rw [z1, hW.1]) ?_ (fun q hq => o1 q (by rw [← hW.1]; exact hq)) (fun x hx => cE_nw hx)
    rw [cE_o (kH_nw h c 0) hc]
    refine ⟨_, vwAt hc, (u_born (tyf c) hts (inG hc) hKn hkC e1 (tyAt hc)).to (fun j hj => ?_)⟩
    rw [vpV_ovs hj, dfl c hc j hj]
    unfold ov
    rw [rH_nw, iH_nw]
    rfl
  exact kk E p l e R s m args below meth c' Z hC hR hd1 hd2 hb H1 locs ls (cells + 1) (slots + nf c) (by omega) (by omega) hW1 ⟨Nat.le_trans hS.1 (by rw [z1, hW.1]; omega), fun x g1 g2 => (o1 x (by rw [← hW.1]; exact Nat.lt_of_lt_of_le g1 hS.1)).trans (hS.2.1 x g1 g2), hS.2.2⟩ hl' (ok_cons.mpr ⟨trivial, hst⟩) hlo
/-- a new array of whole numbers, longs, truths -/
theorem w_newa {t : Nat} {x : Int} {at' : ArrayType} (hd : decode y.2.1 pc = .ok (.newarray at', 2)) (ht : (t = 13 ∧ at' = .int) ∨ (t = 14 ∧ at' = .long) ∨ (t = 15 ∧ at' = .boolean)) (hl : Cond.arrayClass (newarray.typeOf at') ∈ gt) (h0 : 0 ≤ x) (hx1 : x ≤ 100000) (h1 : 1 ≤ rc) (h2 : x.toNat ≤ rs) (kk : wp y d (rc - 1) (rs - x.toNat) Q (pc + 2) lo (vr (nH h) :: st) (nw h t x.toNat)) : wp y d rc rs Q pc lo (vi x :: st) h := by
  intro E p l e R s m args below meth c' Z hC hR hd1 hd2 hb H locs ls cells slots hcc hss hW hS hl' hst hlo
  have hts := hC.2.2.2.2.1
  have hx : inr x := (ok_cons.mp hst).1
  refine va_newaK (N := x.toNat) hC.1 hC.2.1 (hts _ hl) rfl hd rfl (by rw [oi_0, oi_lt hx in_0]; omega) (oi_nat hx) ?_ (by omega) (by omega) hW.1 fun H1 cA e1 z1 o1 hAr hNm => ?_
  · rcases ht with ⟨-, rfl⟩ | ⟨-, rfl⟩ | ⟨-, rfl⟩
    · show x.toNat * 4 ≤ 536870912; omega
    · show x.toNat * 8 ≤ 536870912; omega
    · show x.toNat * 1 ≤ 536870912; omega
  · have hW1 : Wd E.2.1 E.2.2 E.1 (nw h t x.toNat) H1 := by
      refine hW.push rfl (in_nw hW.2.2) (by rw [z1, hW.1]) ?_ (fun q hq => o1 q (by rw [← hW.1]; exact hq)) (fun x hx => cE_nw hx)
      have hRA := fun t (g1 : 13 ≤ t) (g2 : t < 23) => (hC.2.2.2.2.2.1.1.2 (t - 13) _ (tyL_at E.2.2 (t := t) g1 g2)).2
      rcases ht with ⟨rfl, rfl⟩ | ⟨rfl, rfl⟩ | ⟨rfl, rfl⟩
      · rw [cE_i (kH_nw h 13 x.toNat) (Or.inl rfl)]
        have : E.2.2 13 = cA := Option.some.inj ((hRA 13 (by omega) (by omega)).symm.trans hNm)
        show H1[E.1 + nH h]? = some (vp_cell _ _)
        rw [e1, this, vp_cell_i]
        simp only [iH_nw]
        rfl
      · rw [cE_j (kH_nw h 14 x.toNat)]
        have : E.2.2 14 = cA := Option.some.inj ((hRA 14 (by omega) (by omega)).symm.trans hNm)
        show H1[E.1 + nH h]? = some (vp_cell _ _)
        rw [e1, this, vp_cell_l]
        simp only [jH_nw]
        rfl
      · rw [cE_i (kH_nw h 15 x.toNat) (Or.inr rfl)]
        have : E.2.2 15 = cA := Option.some.inj ((hRA 15 (by omega) (by omega)).symm.trans hNm)
        show H1[E.1 + nH h]? = some (vp_cell _ _)
        rw [e1, this, vp_cell_i]
        simp only [iH_nw]
        rfl
    have := kk E p l e R s m args below meth c' Z hC hR hd1 hd2 hb H1 locs ls (cells + 1) (slots + x.toNat) (by omega) (by omega) hW1 ⟨Nat.le_trans hS.1 (by rw [z1, hW.1]; omega), fun x g1 g2 => (o1 x (by rw [← hW.1]; exact Nat.lt_of_lt_of_le g1 hS.1)).trans (hS.2.1 x g1 g2), hS.2.2⟩ hl' (ok_cons.mpr ⟨trivial, (ok_cons.mp hst).2⟩) hlo
    exact this
/-- a new array of objects -/
theorem w_anew {i t : Nat} {x : Int} (ht : 15 < t ∧ t < 21) (hd : decode y.2.1 pc = .ok (.anewarray i, 3)) (hl : Cond.classLink y.1.cls i (rx (elK t)) ∈ gt) (hao : rx (elK t) ∈ aoL) (h0 : 0 ≤ x) (hx1 : x ≤ 100000) (h1 : 1 ≤ rc) (h2 : x.toNat ≤ rs) (kk : wp y d (rc - 1) (rs - x.toNat) Q (pc + 3) lo (vr (nH h) :: st) (nw h t x.toNat)) : wp y d rc rs Q pc lo (vi x :: st) h := by
  intro E p l e R s m args below meth c' Z hC hR hd1 hd2 hb H locs ls cells slots hcc hss hW hS hl' hst hlo
  have hts := hC.2.2.2.2.1
  have hx : inr x := (ok_cons.mp hst).1
  have hxn := oi_nat hx
  refine W.anew hC.1 hC.2.1 hC.2.2.2.1 (hts _ hl) (va_AO.use (hC.2.2.2.2.2.1.2.2.2.1 _ hao)) rfl hd rfl (by rw [oi_0, oi_lt hx in_0]; omega) (by rw [hxn]; omega) (by omega) (by rw [hxn]; omega) fun cA kA comp f1 f2 f3 f4 => ?_
  rw [hxn]
  generalize hH1 : H.push ({ cls := cA, slots := Array.replicate x.toNat .null, vm := .none } : Cell) = H1
  have z1 : H1.size = H.size + 1 := by rw [← hH1, Array.size_push]
  have e1 : H1[H.size]? = some (arrV cA x.toNat (fun _ => .null)) := by rw [← hH1, Array.getElem?_push_size, ← arrV_new]
  have o1 : ∀ q : Nat, q < H.size → H1[q]? = H[q]? := fun q hq => by rw [← hH1, Array.getElem?_push, if_neg (Nat.ne_of_lt hq)]
  obtain ⟨hl13, hty⟩ := elK_ok ht.1 ht.2
  have hRA := (hC.2.2.2.2.2.1.1.2 (t - 13) _ (tyL_at E.2.2 (t := t) (by omega) (by omega))).2
  rw [hty] at hRA
  obtain ⟨kA', comp', k1, k2, k3, k4⟩ := hRA
  have hcA : E.2.2 t = cA := Option.some.inj (k4.symm.trans f1)
  have hW1 : Wd E.2.1 E.2.2 E.1 (nw h t x.toNat) H1 := by
    refine hW.push rfl (in_nw hW.2.2) z1 ?_ o1 (fun x hx => cE_nw hx)
    rw [cE_q (kH_nw h t x.toNat) ht.1]
    show H1[E.1 + nH h]? = some (vp_cell _ _)
    rw [← hW.1, e1, hcA, vp_cell_q]
    simp only [rH_nw]
    rfl
  have := kk E p l e R s m args below meth c' Z hC hR hd1 hd2 hb H1 locs ls (cells + 1) (slots + x.toNat) (by omega) (by omega) hW1 ⟨Nat.le_trans hS.1 (by rw [z1]; omega), fun x g1 g2 => (o1 x (Nat.lt_of_lt_of_le g1 hS.1)).trans (hS.2.1 x g1 g2), hS.2.2⟩ hl' (ok_cons.mpr ⟨trivial, (ok_cons.mp hst).2⟩) hlo
  rw [hW.1]
  exact this
end NROWS
end
section
/-! STRAIGHT PIECES OF CODE, as one step: an entry is an instruction, its length, a constant, a kind, a place or field, a flag -/
abbrev IE : Type := Instr × Nat × Int × Nat × Nat × Nat
abbrev KT : Type := List (Option AV) → List AV → AH → Prop
def pI (st : List AV) (k : Int → List AV → Prop) : Prop := match st with
  | .inl x :: r => k x r
  | _ => False
def pL (st : List AV) (k : Int64 → List AV → Prop) : Prop := match st with
  | .inr (.inl x) :: r => k x r
  | _ => False
def pR (st : List AV) (k : Nat → List AV → Prop) : Prop := match st with
  | .inr (.inr (some x)) :: r => k x r
  | _ => False
def pV (st : List AV) (k : AV → List AV → Prop) : Prop := match st with
  | v :: r => cat v = 1 ∧ k v r
  | _ => False
def lI (lo : List (Option AV)) (i : Nat) (k : Int → Prop) : Prop := match lg lo i with
  | some (.inl x) => k x
  | _ => False
def lL (lo : List (Option AV)) (i : Nat) (k : Int64 → Prop) : Prop := match lg lo i with
  | some (.inr (.inl x)) => k x
  | _ => False
def lR (lo : List (Option AV)) (i : Nat) (k : Nat → Prop) : Prop := match lg lo i with
  | some (.inr (.inr (some x))) => k x
  | _ => False
theorem pI_e {st : List AV} {k : Int → List AV → Prop} (h : pI st k) : ∃ x r, st = vi x :: r ∧ k x r := by
  unfold pI at h; split at h
  · exact ⟨_, _, rfl, h⟩
  · exact h.elim
theorem pL_e {st : List AV} {k : Int64 → List AV → Prop} (h : pL st k) : ∃ x r, st = vl x :: r ∧ k x r := by
  unfold pL at h; split at h
  · exact ⟨_, _, rfl, h⟩
  · exact h.elim
theorem pR_e {st : List AV} {k : Nat → List AV → Prop} (h : pR st k) : ∃ x r, st = vr x :: r ∧ k x r := by
  unfold pR at h; split at h
  · exact ⟨_, _, rfl, h⟩
  · exact h.elim
theorem pV_e {st : List AV} {k : AV → List AV → Prop} (h : pV st k) : ∃ x r, st = x :: r ∧ cat x = 1 ∧ k x r := by
  unfold pV at h; split at h
  · exact ⟨_, _, rfl, h⟩
  · exact h.elim
theorem lI_e {lo : List (Option AV)} {i : Nat} {k : Int → Prop} (h : lI lo i k) : ∃ x, lg lo i = some (vi x) ∧ k x := by
  unfold lI at h; split at h
  · exact ⟨_, by assumption, h⟩
  · exact h.elim
theorem lL_e {lo : List (Option AV)} {i : Nat} {k : Int64 → Prop} (h : lL lo i k) : ∃ x, lg lo i = some (vl x) ∧ k x := by
  unfold lL at h; split at h
  · exact ⟨_, by assumption, h⟩
  · exact h.elim
theorem lR_e {lo : List (Option AV)} {i : Nat} {k : Nat → Prop} (h : lR lo i k) : ∃ x, lg lo i = some (vr x) ∧ k x := by
  unfold lR at h; split at h
  · exact ⟨_, by assumption, h⟩
  · exact h.elim
def lcs (k : Nat) : Int64 := match k with
  | 0 => 0
  | _ => 1
def andI (x z : Int) : Int := (Int32.ofInt x &&& Int32.ofInt z).toInt
def orI (x z : Int) : Int := (Int32.ofInt x ||| Int32.ofInt z).toInt
def shlI (x z : Int) : Int := (Int32.ofInt x <<< (Int32.ofInt z &&& 31)).toInt
def i2bI (x : Int) : Int := ((Int32.ofInt x).toInt8.toInt32).toInt
def lcI (x z : Int64) : Int := (lg_cmp x z).toInt
def fldK (f : Nat) (h : AH) (a k : Nat) (K : AV → Prop) : Prop := match f with
  | 0 => K (vi (iH h a k))
  | _ => ∃ b, rH h a k = some b ∧ K (vr b)
def putK (f : Nat) (st : List AV) (h : AH) (c k : Nat) (K : List AV → AH → Prop) : Prop := match f with
  | 0 => pI st fun x r => pR r fun a r => (a < nH h ∧ kH h a = (c, 0)) ∧ K r (sI h a k x)
  | 1 => pR st fun b r => pR r fun a r => (a < nH h ∧ kH h a = (c, 0)) ∧ K r (sR h a k (some b))
  | _ => pI st fun x r => pR r fun a r => (a < nH h ∧ kH h a = (c, 0)) ∧ (x = 0 ∨ x = 1) ∧ K r (sI h a k x)
def st1 (e : IE) (lo : List (Option AV)) (st : List AV) (h : AH) (K : KT) : Prop := match e with
  | (i, _, v, c, k, f) => match i with
    | .iconst _ => K lo (vi v :: st) h
    | .bipush _ => K lo (vi v :: st) h
    | .sipush _ => K lo (vi v :: st) h
    | .lconst _ => K lo (vl (lcs k) :: st) h
    | .iload_n _ => lI lo k fun x => K lo (vi x :: st) h
    | .iload _ => lI lo k fun x => K lo (vi x :: st) h
    | .aload_n _ => lR lo k fun x => K lo (vr x :: st) h
    | .aload _ => lR lo k fun x => K lo (vr x :: st) h
    | .lload_n _ => lL lo k fun x => K lo (vl x :: st) h
    | .istore_n _ => pI st fun x r => noL lo k = true ∧ K (lst lo k (some (vi x))) r h
    | .istore _ => pI st fun x r => noL lo k = true ∧ K (lst lo k (some (vi x))) r h
    | .astore_n _ => pR st fun x r => noL lo k = true ∧ K (lst lo k (some (vr x))) r h
    | .astore _ => pR st fun x r => noL lo k = true ∧ K (lst lo k (some (vr x))) r h
    | .lstore_n _ => pL st fun x r => noL lo k = true ∧ K (lst (lst lo (k + 1) none) k (some (vl x))) r h
    | .iinc _ _ => lI lo k fun x => inr (x + v) ∧ noL lo k = true ∧ K (lst lo k (some (vi (x + v)))) st h
    | .iadd => pI st fun z r => pI r fun x r => inr (x + z) ∧ K lo (vi (x + z) :: r) h
    | .isub => pI st fun z r => pI r fun x r => inr (x - z) ∧ K lo (vi (x - z) :: r) h
    | .imul => pI st fun z r => pI r fun x r => inr (x * z) ∧ K lo (vi (x * z) :: r) h
    | .idiv => pI st fun z r => pI r fun x r => (0 ≤ x ∧ 0 < z ∧ inr (x / z)) ∧ K lo (vi (x / z) :: r) h
    | .irem => pI st fun z r => pI r fun x r => (0 ≤ x ∧ 0 < z ∧ inr (x % z)) ∧ K lo (vi (x % z) :: r) h
    | .iand => pI st fun z r => pI r fun x r => K lo (vi (andI x z) :: r) h
    | .ior => pI st fun z r => pI r fun x r => K lo (vi (orI x z) :: r) h
    | .ishl => pI st fun z r => pI r fun x r => K lo (vi (shlI x z) :: r) h
    | .i2b => pI st fun x r => K lo (vi (i2bI x) :: r) h
    | .ineg => pI st fun x r => inr (-x) ∧ K lo (vi (-x) :: r) h
    | .l2i => pL st fun x r => K lo (vi (x.toInt32).toInt :: r) h
    | .ladd => pL st fun z r => pL r fun x r => K lo (vl (x + z) :: r) h
    | .lsub => pL st fun z r => pL r fun x r => K lo (vl (x - z) :: r) h
    | .land => pL st fun z r => pL r fun x r => K lo (vl (x &&& z) :: r) h
    | .lor => pL st fun z r => pL r fun x r => K lo (vl (x ||| z) :: r) h
    | .lshl => pI st fun z r => pL r fun x r => K lo (vl (shl6 x z) :: r) h
    | .lushr => pI st fun z r => pL r fun x r => K lo (vl (shr6 x z) :: r) h
    | .lcmp => pL st fun z r => pL r fun x r => K lo (vi (lcI x z) :: r) h
    | .dup => pV st fun v r => K lo (v :: v :: r) h
    | .dup2 => pV st fun v r => pV r fun w r => K lo (v :: w :: v :: w :: r) h
    | .pop => pV st fun _ r => K lo r h
    | .getfield _ => pR st fun a r => (a < nH h ∧ kH h a = (c, 0)) ∧ fldK f h a k (fun v => K lo (v :: r) h)
    | .putfield _ => putK f st h c k (fun r h' => K lo r h')
    | .iaload => pI st fun x r => pR r fun a r => (a < nH h ∧ (kH h a).1 = 13 ∧ 0 ≤ x ∧ x < ((kH h a).2 : Int)) ∧ K lo (vi (iH h a x.toNat) :: r) h
    | .baload => pI st fun x r => pR r fun a r => (a < nH h ∧ (kH h a).1 = 15 ∧ 0 ≤ x ∧ x < ((kH h a).2 : Int)) ∧ K lo (vi (iH h a x.toNat) :: r) h
    | .laload => pI st fun x r => pR r fun a r => (a < nH h ∧ (kH h a).1 = 14 ∧ 0 ≤ x ∧ x < ((kH h a).2 : Int)) ∧ K lo (vl (jH h a x.toNat) :: r) h
    | .aaload => pI st fun x r => pR r fun a r => (a < nH h ∧ 15 < (kH h a).1 ∧ (kH h a).1 < 23 ∧ 0 ≤ x ∧ x < ((kH h a).2 : Int)) ∧ ∃ b, rH h a x.toNat = some b ∧ K lo (vr b :: r) h
    | .arraylength => pR st fun a r => (a < nH h ∧ 13 ≤ (kH h a).1 ∧ (kH h a).1 < 23 ∧ inr ((kH h a).2 : Int)) ∧ K lo (vi ((kH h a).2 : Int) :: r) h
    | .iastore => pI st fun z r => pI r fun x r => pR r fun a r => (a < nH h ∧ (kH h a).1 = 13 ∧ 0 ≤ x ∧ x < ((kH h a).2 : Int)) ∧ K lo r (sI h a x.toNat z)
    | .bastore => pI st fun z r => pI r fun x r => pR r fun a r => (a < nH h ∧ (kH h a).1 = 15 ∧ 0 ≤ x ∧ x < ((kH h a).2 : Int) ∧ (z = 0 ∨ z = 1)) ∧ K lo r (sI h a x.toNat z)
    | .lastore => pL st fun z r => pI r fun x r => pR r fun a r => (a < nH h ∧ (kH h a).1 = 14 ∧ 0 ≤ x ∧ x < ((kH h a).2 : Int)) ∧ K lo r (sJ h a x.toNat z)
    | .aastore => pR st fun b r => pI r fun x r => pR r fun a r => (a < nH h ∧ 15 < (kH h a).1 ∧ (kH h a).1 < 21 ∧ 0 ≤ x ∧ x < ((kH h a).2 : Int) ∧ b < nH h ∧ (kH h b).1 = elK (kH h a).1) ∧ K lo r (sR h a x.toNat (some b))
    | _ => False
def isI (t : FieldType) : Bool := match t with
  | .int => true
  | _ => false
def isZ (t : FieldType) : Bool := match t with
  | .boolean => true
  | _ => false
def isQ (t : FieldType) : Bool := match t with
  | .object _ => true
  | .array _ => true
  | _ => false
def inb (v : Int) : Bool := decide (-2147483648 ≤ v) && decide (v < 2147483648)
def chkP (y : MI) (c k f : Nat) : Bool := ((!(tf c k).2.2.2) || (decide ((tf c k).1 = y.1.cls) && decide ((tf c k).1 = rx c) && decide (y.1.name = "<init>"))) && (match f with
  | 0 => isI (tyf c k) && !((fR c).getD k false)
  | 1 => isQ (tyf c k) && (fR c).getD k false
  | _ => isZ (tyf c k) && !((fR c).getD k false))
def chkE (y : MI) (o : Nat) (e : IE) : Bool := match e with
  | (i, n, v, c, k, f) => match i with
    | .iconst u => decide (n = 1) && decide (u = v) && inb v
    | .bipush u => decide (n = 2) && decide ((Int8.ofInt u).toInt32 = Int32.ofInt v) && inb v
    | .sipush u => decide (n = 3) && decide ((Int16.ofInt u).toInt32 = Int32.ofInt v) && inb v
    | .lconst w => decide (n = 1) && decide (Int64.ofNat (w : Nat) = lcs k)
    | .iload_n w => decide (n = 1) && decide ((w : Nat) = k)
    | .iload w => decide (n = 2) && decide (w = k)
    | .aload_n w => decide (n = 1) && decide ((w : Nat) = k)
    | .aload w => decide (n = 2) && decide (w = k)
    | .lload_n w => decide (n = 1) && decide ((w : Nat) = k)
    | .istore_n w => decide (n = 1) && decide ((w : Nat) = k) && decide (k < y.2.2.1)
    | .istore w => decide (n = 2) && decide (w = k) && decide (k < y.2.2.1)
    | .astore_n w => decide (n = 1) && decide ((w : Nat) = k) && decide (k < y.2.2.1)
    | .astore w => decide (n = 2) && decide (w = k) && decide (k < y.2.2.1)
    | .lstore_n w => decide (n = 1) && decide ((w : Nat) = k) && decide (k + 1 < y.2.2.1)
    | .iinc w u => decide (n = 3) && decide (w = k) && decide (u = v) && decide (k < y.2.2.1)
    | .getfield w => decide (n = 3) && flq o w c k && (match f with
      | 0 => !((fR c).getD k false)
      | _ => (fR c).getD k false)
    | .putfield w => decide (n = 3) && flq o w c k && chkP y c k f
    | _ => decide (n = 1)
def wpB : List IE → List (Option AV) → List AV → AH → KT → Prop
  | [], lo, st, h, K => K lo st h
  | e :: es, lo, st, h, K => st1 e lo st h (fun lo st h => wpB es lo st h K)
def chkB (y : MI) (o : Nat) : Nat → List IE → Nat → Bool
  | pc, [], q => decide (pc = q)
  | pc, e :: es, q => decide (decode y.2.1 pc = .ok (e.1, e.2.1)) && chkE y o e && chkB y o (pc + e.2.1) es q
end
section
section SOUND
variable {y : MI} {d rc rs : Nat} {Q : Option AV → AH → Prop} {pc q : Nat} {lo : List (Option AV)} {st st' : List AV} {h : AH}
theorem inb_ok {v : Int} (h : inb v = true) : inr v := by
  simp only [inb, Bool.and_eq_true, decide_eq_true_eq] at h
  exact h
theorem isI_e {t : FieldType} (h : isI t = true) : t = .int := by cases t <;> first | rfl | cases h
theorem isZ_e {t : FieldType} (h : isZ t = true) : t = .boolean := by cases t <;> first | rfl | cases h
theorem isQ_e {t : FieldType} (h : isQ t = true) : (∃ C, t = .object C) ∨ ∃ u, t = .array u := by
  cases t <;> first | exact Or.inl ⟨_, rfl⟩ | exact Or.inr ⟨_, rfl⟩ | cases h
theorem pair_e {h : AH} {a t : Nat} (e : (kH h a).1 = t) : kH h a = (t, (kH h a).2) := by rw [← e]
theorem fin_e {y : MI} {c k : Nat} (h : ((!(tf c k).2.2.2) || (decide ((tf c k).1 = y.1.cls) && decide ((tf c k).1 = rx c) && decide (y.1.name = "<init>"))) = true) : (tf c k).2.2.2 = false ∨ ((tf c k).1 = y.1.cls ∧ (tf c k).1 = rx c ∧ y.1.name = "<init>") := by
  simp only [Bool.or_eq_true, Bool.and_eq_true, decide_eq_true_eq, Bool.not_eq_true'] at h
  rcases h with h | h
  · exact Or.inl h
  · exact Or.inr ⟨h.1.1, h.1.2, h.2⟩
set_option maxHeartbeats 4000000 in
theorem st1_ok {o : Nat} {e : IE} (ho : y.1.cls = rx o) (hd : decode y.2.1 pc = .ok (e.1, e.2.1)) (hc : chkE y o e = true) (hk : st1 e lo st h (fun lo st h => wp y d rc rs Q (pc + e.2.1) lo st h)) : wp y d rc rs Q pc lo st h := by
  obtain ⟨i, n, v, c, k, f⟩ := e
  dsimp only at hd hk
  cases i
  case iconst u =>
    simp only [chkE, Bool.and_eq_true, decide_eq_true_eq] at hc
    obtain ⟨⟨rfl, rfl⟩, hv⟩ := hc
    exact w_push _ (inb_ok hv) hd (Or.inl ⟨rfl, rfl⟩) hk
  case bipush u =>
    simp only [chkE, Bool.and_eq_true, decide_eq_true_eq] at hc
    obtain ⟨⟨rfl, h2⟩, hv⟩ := hc
    exact w_push _ (inb_ok hv) hd (Or.inr (Or.inl ⟨_, rfl, rfl, h2⟩)) hk
  case sipush u =>
    simp only [chkE, Bool.and_eq_true, decide_eq_true_eq] at hc
    obtain ⟨⟨rfl, h2⟩, hv⟩ := hc
    exact w_push _ (inb_ok hv) hd (Or.inr (Or.inr ⟨_, rfl, rfl, h2⟩)) hk
  case lconst u =>
    simp only [chkE, Bool.and_eq_true, decide_eq_true_eq] at hc
    obtain ⟨rfl, h2⟩ := hc
    exact w_lconst hd h2 hk
  case iload_n u =>
    simp only [chkE, Bool.and_eq_true, decide_eq_true_eq] at hc
    obtain ⟨rfl, h2⟩ := hc
    obtain ⟨x, h3, h4⟩ := lI_e hk
    exact w_iload hd (Or.inl ⟨u, rfl, h2, rfl⟩) h3 h4
  case iload u =>
    simp only [chkE, Bool.and_eq_true, decide_eq_true_eq] at hc
    obtain ⟨rfl, rfl⟩ := hc
    obtain ⟨x, h3, h4⟩ := lI_e hk
    exact w_iload hd (Or.inr ⟨rfl, rfl⟩) h3 h4
  case aload_n u =>
    simp only [chkE, Bool.and_eq_true, decide_eq_true_eq] at hc
    obtain ⟨rfl, h2⟩ := hc
    obtain ⟨x, h3, h4⟩ := lR_e hk
    exact w_aload hd (Or.inl ⟨u, rfl, h2, rfl⟩) h3 h4
  case aload u =>
    simp only [chkE, Bool.and_eq_true, decide_eq_true_eq] at hc
    obtain ⟨rfl, rfl⟩ := hc
    obtain ⟨x, h3, h4⟩ := lR_e hk
    exact w_aload hd (Or.inr ⟨rfl, rfl⟩) h3 h4
  case lload_n u =>
    simp only [chkE, Bool.and_eq_true, decide_eq_true_eq] at hc
    obtain ⟨rfl, h2⟩ := hc
    obtain ⟨x, h3, h4⟩ := lL_e hk
    exact w_lload hd h2 h3 h4
  case istore_n u =>
    simp only [chkE, Bool.and_eq_true, decide_eq_true_eq] at hc
    obtain ⟨⟨rfl, h2⟩, h5⟩ := hc
    obtain ⟨x, r, rfl, h3, h4⟩ := pI_e hk
    exact w_istore hd (Or.inl ⟨u, rfl, h2, rfl⟩) h5 h3 h4
  case istore u =>
    simp only [chkE, Bool.and_eq_true, decide_eq_true_eq] at hc
    obtain ⟨⟨rfl, rfl⟩, h5⟩ := hc
    obtain ⟨x, r, rfl, h3, h4⟩ := pI_e hk
    exact w_istore hd (Or.inr ⟨rfl, rfl⟩) h5 h3 h4
  case astore_n u =>
    simp only [chkE, Bool.and_eq_true, decide_eq_true_eq] at hc
    obtain ⟨⟨rfl, h2⟩, h5⟩ := hc
    obtain ⟨x, r, rfl, h3, h4⟩ := pR_e hk
    exact w_astore hd (Or.inl ⟨u, rfl, h2, rfl⟩) h5 h3 h4
  case astore u =>
    simp only [chkE, Bool.and_eq_true, decide_eq_true_eq] at hc
    obtain ⟨⟨rfl, rfl⟩, h5⟩ := hc
    obtain ⟨x, r, rfl, h3, h4⟩ := pR_e hk
    exact w_astore hd (Or.inr ⟨rfl, rfl⟩) h5 h3 h4
  case lstore_n u =>
    simp only [chkE, Bool.and_eq_true, decide_eq_true_eq] at hc
    obtain ⟨⟨rfl, h2⟩, h5⟩ := hc
    obtain ⟨x, r, rfl, h3, h4⟩ := pL_e hk
    exact w_lstore hd h2 h5 h3 h4
  case iinc u w =>
    simp only [chkE, Bool.and_eq_true, decide_eq_true_eq] at hc
    obtain ⟨⟨⟨rfl, rfl⟩, rfl⟩, h5⟩ := hc
    obtain ⟨x, h3, h4, h6, h7⟩ := lI_e hk
    exact w_iinc hd h3 h4 h5 h6 h7
  case iadd =>
    simp only [chkE, decide_eq_true_eq] at hc
    subst hc
    obtain ⟨z, r, rfl, h1⟩ := pI_e hk
    obtain ⟨x, r, rfl, h2, h3⟩ := pI_e h1
    exact w_iadd hd h2 h3
  case isub =>
    simp only [chkE, decide_eq_true_eq] at hc
    subst hc
    obtain ⟨z, r, rfl, h1⟩ := pI_e hk
    obtain ⟨x, r, rfl, h2, h3⟩ := pI_e h1
    exact w_isub hd h2 h3
  case imul =>
    simp only [chkE, decide_eq_true_eq] at hc
    subst hc
    obtain ⟨z, r, rfl, h1⟩ := pI_e hk
    obtain ⟨x, r, rfl, h2, h3⟩ := pI_e h1
    exact w_imul hd h2 h3
  case idiv =>
    simp only [chkE, decide_eq_true_eq] at hc
    subst hc
    obtain ⟨z, r, rfl, h1⟩ := pI_e hk
    obtain ⟨x, r, rfl, ⟨h2, h3, h4⟩, h5⟩ := pI_e h1
    exact w_idiv hd h2 h3 h4 h5
  case irem =>
    simp only [chkE, decide_eq_true_eq] at hc
    subst hc
    obtain ⟨z, r, rfl, h1⟩ := pI_e hk
    obtain ⟨x, r, rfl, ⟨h2, h3, h4⟩, h5⟩ := pI_e h1
    exact w_irem hd h2 h3 h4 h5
  case iand =>
    simp only [chkE, decide_eq_true_eq] at hc
    subst hc
    obtain ⟨z, r, rfl, h1⟩ := pI_e hk
    obtain ⟨x, r, rfl, h2⟩ := pI_e h1
    exact w_iand hd h2
  case ior =>
    simp only [chkE, decide_eq_true_eq] at hc
    subst hc
    obtain ⟨z, r, rfl, h1⟩ := pI_e hk
    obtain ⟨x, r, rfl, h2⟩ := pI_e h1
    exact w_ior hd h2
  case ishl =>
    simp only [chkE, decide_eq_true_eq] at hc
    subst hc
    obtain ⟨z, r, rfl, h1⟩ := pI_e hk
    obtain ⟨x, r, rfl, h2⟩ := pI_e h1
    exact w_ishl hd h2
  case i2b =>
    simp only [chkE, decide_eq_true_eq] at hc
    subst hc
    obtain ⟨x, r, rfl, h2⟩ := pI_e hk
    exact w_i2b hd h2
  case ineg =>
    simp only [chkE, decide_eq_true_eq] at hc
    subst hc
    obtain ⟨x, r, rfl, h2, h3⟩ := pI_e hk
    exact w_ineg hd h2 h3
  case l2i =>
    simp only [chkE, decide_eq_true_eq] at hc
    subst hc
    obtain ⟨x, r, rfl, h2⟩ := pL_e hk
    exact w_l2i hd h2
  case ladd =>
    simp only [chkE, decide_eq_true_eq] at hc
    subst hc
    obtain ⟨z, r, rfl, h1⟩ := pL_e hk
    obtain ⟨x, r, rfl, h2⟩ := pL_e h1
    exact w_ladd hd h2
  case lsub =>
    simp only [chkE, decide_eq_true_eq] at hc
    subst hc
    obtain ⟨z, r, rfl, h1⟩ := pL_e hk
    obtain ⟨x, r, rfl, h2⟩ := pL_e h1
    exact w_lsub hd h2
  case land =>
    simp only [chkE, decide_eq_true_eq] at hc
    subst hc
    obtain ⟨z, r, rfl, h1⟩ := pL_e hk
    obtain ⟨x, r, rfl, h2⟩ := pL_e h1
    exact w_land hd h2
  case lor =>
    simp only [chkE, decide_eq_true_eq] at hc
    subst hc
    obtain ⟨z, r, rfl, h1⟩ := pL_e hk
    obtain ⟨x, r, rfl, h2⟩ := pL_e h1
    exact w_lor hd h2
  case lshl =>
    simp only [chkE, decide_eq_true_eq] at hc
    subst hc
    obtain ⟨z, r, rfl, h1⟩ := pI_e hk
    obtain ⟨x, r, rfl, h2⟩ := pL_e h1
    exact w_lshl hd h2
  case lushr =>
    simp only [chkE, decide_eq_true_eq] at hc
    subst hc
    obtain ⟨z, r, rfl, h1⟩ := pI_e hk
    obtain ⟨x, r, rfl, h2⟩ := pL_e h1
    exact w_lushr hd h2
  case lcmp =>
    simp only [chkE, decide_eq_true_eq] at hc
    subst hc
    obtain ⟨z, r, rfl, h1⟩ := pL_e hk
    obtain ⟨x, r, rfl, h2⟩ := pL_e h1
    exact w_lcmp hd h2
  case dup =>
    simp only [chkE, decide_eq_true_eq] at hc
    subst hc
    obtain ⟨x, r, rfl, h1, h2⟩ := pV_e hk
    exact w_dup hd h1 h2
  case dup2 =>
    simp only [chkE, decide_eq_true_eq] at hc
    subst hc
    obtain ⟨x, r, rfl, h1, h2⟩ := pV_e hk
    obtain ⟨w, r, rfl, h3, h4⟩ := pV_e h2
    exact w_dup2 hd h1 h3 h4
  case pop =>
    simp only [chkE, decide_eq_true_eq] at hc
    subst hc
    obtain ⟨x, r, rfl, h1, h2⟩ := pV_e hk
    exact w_pop hd h1 h2
  case getfield u =>
    simp only [chkE, Bool.and_eq_true, decide_eq_true_eq] at hc
    obtain ⟨⟨rfl, h2⟩, h3⟩ := hc
    obtain ⟨a, r, rfl, ⟨h4, h5⟩, h6⟩ := pR_e hk
    match f, h3, h6 with
    | 0, h3, h6 =>
      refine w_get ho hd h2 h4 h5 (v := vi (iH h a k)) (fun b => ?_) (fun hr => hr a k) h6
      have h3' : (fR c).getD k false = false := by simpa using h3
      unfold ov; rw [h3']; rfl
    | f + 1, h3, h6 =>
      obtain ⟨b0, hb0, h7⟩ := h6
      refine w_get ho hd h2 h4 h5 (v := vq (rH h a k)) (fun b => ?_) (fun hr => trivial) (by rw [hb0]; exact h7)
      have h3' : (fR c).getD k false = true := h3
      unfold ov; rw [h3']; rfl
  case putfield u =>
    simp only [chkE, chkP, Bool.and_eq_true, decide_eq_true_eq] at hc
    obtain ⟨⟨rfl, h2⟩, h3, h3'⟩ := hc
    have hfin := fin_e h3
    match f, h3', hk with
    | 0, h3', hk =>
      obtain ⟨x, r, rfl, h4⟩ := pI_e hk
      obtain ⟨a, r, rfl, ⟨h5, h6⟩, h7⟩ := pR_e h4
      simp only [Bool.and_eq_true, Bool.not_eq_true'] at h3'
      exact w_putI ho hd h2 hfin ⟨h3'.2, Or.inl (isI_e h3'.1)⟩ h5 h6 h7
    | 1, h3', hk =>
      obtain ⟨x, r, rfl, h4⟩ := pR_e hk
      obtain ⟨a, r, rfl, ⟨h5, h6⟩, h7⟩ := pR_e h4
      simp only [Bool.and_eq_true] at h3'
      exact w_putR ho hd h2 hfin ⟨h3'.2, isQ_e h3'.1⟩ h5 h6 h7
    | f + 2, h3', hk =>
      obtain ⟨x, r, rfl, h4⟩ := pI_e hk
      obtain ⟨a, r, rfl, ⟨h5, h6⟩, h8, h7⟩ := pR_e h4
      simp only [Bool.and_eq_true, Bool.not_eq_true'] at h3'
      exact w_putI ho hd h2 hfin ⟨h3'.2, Or.inr ⟨isZ_e h3'.1, h8⟩⟩ h5 h6 h7
  case iaload =>
    simp only [chkE, decide_eq_true_eq] at hc
    subst hc
    obtain ⟨x, r, rfl, h1⟩ := pI_e hk
    obtain ⟨a, r, rfl, ⟨h2, h3, h4, h5⟩, h6⟩ := pR_e h1
    exact w_iald hd h2 (pair_e h3) h4 h5 h6
  case baload =>
    simp only [chkE, decide_eq_true_eq] at hc
    subst hc
    obtain ⟨x, r, rfl, h1⟩ := pI_e hk
    obtain ⟨a, r, rfl, ⟨h2, h3, h4, h5⟩, h6⟩ := pR_e h1
    exact w_bald hd h2 (pair_e h3) h4 h5 h6
  case laload =>
    simp only [chkE, decide_eq_true_eq] at hc
    subst hc
    obtain ⟨x, r, rfl, h1⟩ := pI_e hk
    obtain ⟨a, r, rfl, ⟨h2, h3, h4, h5⟩, h6⟩ := pR_e h1
    exact w_lald hd h2 (pair_e h3) h4 h5 h6
  case aaload =>
    simp only [chkE, decide_eq_true_eq] at hc
    subst hc
    obtain ⟨x, r, rfl, h1⟩ := pI_e hk
    obtain ⟨a, r, rfl, ⟨h2, h3, h3', h4, h5⟩, b0, hb0, h6⟩ := pR_e h1
    exact w_aald hd h2 (pair_e rfl) ⟨h3, h3'⟩ h4 h5 (by rw [hb0]; exact h6)
  case arraylength =>
    simp only [chkE, decide_eq_true_eq] at hc
    subst hc
    obtain ⟨a, r, rfl, ⟨h2, h3, h4, h5⟩, h6⟩ := pR_e hk
    exact w_alen hd h2 (pair_e rfl) ⟨h3, h4⟩ h5 h6
  case iastore =>
    simp only [chkE, decide_eq_true_eq] at hc
    subst hc
    obtain ⟨z, r, rfl, h0⟩ := pI_e hk
    obtain ⟨x, r, rfl, h1⟩ := pI_e h0
    obtain ⟨a, r, rfl, ⟨h2, h3, h4, h5⟩, h6⟩ := pR_e h1
    exact w_iast hd h2 (pair_e h3) h4 h5 h6
  case bastore =>
    simp only [chkE, decide_eq_true_eq] at hc
    subst hc
    obtain ⟨z, r, rfl, h0⟩ := pI_e hk
    obtain ⟨x, r, rfl, h1⟩ := pI_e h0
    obtain ⟨a, r, rfl, ⟨h2, h3, h4, h5, h5'⟩, h6⟩ := pR_e h1
    exact w_bast hd h2 (pair_e h3) h4 h5 h5' h6
  case lastore =>
    simp only [chkE, decide_eq_true_eq] at hc
    subst hc
    obtain ⟨z, r, rfl, h0⟩ := pL_e hk
    obtain ⟨x, r, rfl, h1⟩ := pI_e h0
    obtain ⟨a, r, rfl, ⟨h2, h3, h4, h5⟩, h6⟩ := pR_e h1
    exact w_last hd h2 (pair_e h3) h4 h5 h6
  case aastore =>
    simp only [chkE, decide_eq_true_eq] at hc
    subst hc
    obtain ⟨b, r, rfl, h0⟩ := pR_e hk
    obtain ⟨x, r, rfl, h1⟩ := pI_e h0
    obtain ⟨a, r, rfl, ⟨h2, h3, h3', h4, h5, h7, h8⟩, h6⟩ := pR_e h1
    exact w_aast hd h2 (pair_e rfl) ⟨h3, h3'⟩ h4 h5 h7 (pair_e h8) h6
  all_goals exact False.elim hk
theorem pI_m {st : List AV} {k k' : Int → List AV → Prop} (m : ∀ x r, k x r → k' x r) (h : pI st k) : pI st k' := by
  obtain ⟨x, r, rfl, h⟩ := pI_e h; exact m x r h
theorem pL_m {st : List AV} {k k' : Int64 → List AV → Prop} (m : ∀ x r, k x r → k' x r) (h : pL st k) : pL st k' := by
  obtain ⟨x, r, rfl, h⟩ := pL_e h; exact m x r h
theorem pR_m {st : List AV} {k k' : Nat → List AV → Prop} (m : ∀ x r, k x r → k' x r) (h : pR st k) : pR st k' := by
  obtain ⟨x, r, rfl, h⟩ := pR_e h; exact m x r h
theorem pV_m {st : List AV} {k k' : AV → List AV → Prop} (m : ∀ x r, k x r → k' x r) (h : pV st k) : pV st k' := by
  obtain ⟨x, r, rfl, h1, h⟩ := pV_e h; exact ⟨h1, m x r h⟩
theorem lI_m {lo : List (Option AV)} {i : Nat} {k k' : Int → Prop} (m : ∀ x, k x → k' x) (h : lI lo i k) : lI lo i k' := by
  obtain ⟨x, h1, h2⟩ := lI_e h; unfold lI; rw [h1]; exact m x h2
theorem lL_m {lo : List (Option AV)} {i : Nat} {k k' : Int64 → Prop} (m : ∀ x, k x → k' x) (h : lL lo i k) : lL lo i k' := by
  obtain ⟨x, h1, h2⟩ := lL_e h; unfold lL; rw [h1]; exact m x h2
theorem lR_m {lo : List (Option AV)} {i : Nat} {k k' : Nat → Prop} (m : ∀ x, k x → k' x) (h : lR lo i k) : lR lo i k' := by
  obtain ⟨x, h1, h2⟩ := lR_e h; unfold lR; rw [h1]; exact m x h2
set_option maxHeartbeats 4000000 in
theorem st1_mono {e : IE} {K K' : KT} (m : ∀ lo st h, K lo st h → K' lo st h) (hk : st1 e lo st h K) : st1 e lo st h K' := by
  obtain ⟨i, n, v, c, k, f⟩ := e
  cases i
  case iconst => exact m _ _ _ hk
  case bipush => exact m _ _ _ hk
  case sipush => exact m _ _ _ hk
  case lconst => exact m _ _ _ hk
  case iload_n => exact lI_m (fun x => m _ _ _) hk
  case iload => exact lI_m (fun x => m _ _ _) hk
  case aload_n => exact lR_m (fun x => m _ _ _) hk
  case aload => exact lR_m (fun x => m _ _ _) hk
  case lload_n => exact lL_m (fun x => m _ _ _) hk
  case istore_n => exact pI_m (fun x r q => ⟨q.1, m _ _ _ q.2⟩) hk
  case istore => exact pI_m (fun x r q => ⟨q.1, m _ _ _ q.2⟩) hk
  case astore_n => exact pR_m (fun x r q => ⟨q.1, m _ _ _ q.2⟩) hk
  case astore => exact pR_m (fun x r q => ⟨q.1, m _ _ _ q.2⟩) hk
  case lstore_n => exact pL_m (fun x r q => ⟨q.1, m _ _ _ q.2⟩) hk
  case iinc => exact lI_m (fun x q => ⟨q.1, q.2.1, m _ _ _ q.2.2⟩) hk
  case iadd => exact pI_m (fun x r q => pI_m (fun x r q => ⟨q.1, m _ _ _ q.2⟩) q) hk
  case isub => exact pI_m (fun x r q => pI_m (fun x r q => ⟨q.1, m _ _ _ q.2⟩) q) hk
  case imul => exact pI_m (fun x r q => pI_m (fun x r q => ⟨q.1, m _ _ _ q.2⟩) q) hk
  case idiv => exact pI_m (fun x r q => pI_m (fun x r q => ⟨q.1, m _ _ _ q.2⟩) q) hk
  case irem => exact pI_m (fun x r q => pI_m (fun x r q => ⟨q.1, m _ _ _ q.2⟩) q) hk
  case iand => exact pI_m (fun x r q => pI_m (fun x r q => m _ _ _ q) q) hk
  case ior => exact pI_m (fun x r q => pI_m (fun x r q => m _ _ _ q) q) hk
  case ishl => exact pI_m (fun x r q => pI_m (fun x r q => m _ _ _ q) q) hk
  case i2b => exact pI_m (fun x r q => m _ _ _ q) hk
  case land => exact pL_m (fun x r q => pL_m (fun x r q => m _ _ _ q) q) hk
  case lor => exact pL_m (fun x r q => pL_m (fun x r q => m _ _ _ q) q) hk
  case lshl => exact pI_m (fun x r q => pL_m (fun x r q => m _ _ _ q) q) hk
  case lushr => exact pI_m (fun x r q => pL_m (fun x r q => m _ _ _ q) q) hk
  case lcmp => exact pL_m (fun x r q => pL_m (fun x r q => m _ _ _ q) q) hk
  case dup => exact pV_m (fun x r q => m _ _ _ q) hk
  case dup2 => exact pV_m (fun x r q => pV_m (fun x r q => m _ _ _ q) q) hk
  case pop => exact pV_m (fun x r q => m _ _ _ q) hk
  case getfield =>
    match f, hk with
    | 0, hk => exact pR_m (fun x r q => ⟨q.1, m _ _ _ q.2⟩) hk
    | f + 1, hk => exact pR_m (fun x r q => ⟨q.1, q.2.elim fun b q => ⟨b, q.1, m _ _ _ q.2⟩⟩) hk
  case putfield =>
    match f, hk with
    | 0, hk => exact pI_m (fun x r q => pR_m (fun x r q => ⟨q.1, m _ _ _ q.2⟩) q) hk
    | 1, hk => exact pR_m (fun x r q => pR_m (fun x r q => ⟨q.1, m _ _ _ q.2⟩) q) hk
    | f + 2, hk => exact pI_m (fun x r q => pR_m (fun x r q => ⟨q.1, q.2.1, m _ _ _ q.2.2⟩) q) hk
  case iaload => exact pI_m (fun x r q => pR_m (fun x r q => ⟨q.1, m _ _ _ q.2⟩) q) hk
  case baload => exact pI_m (fun x r q => pR_m (fun x r q => ⟨q.1, m _ _ _ q.2⟩) q) hk
  case laload => exact pI_m (fun x r q => pR_m (fun x r q => ⟨q.1, m _ _ _ q.2⟩) q) hk
  case aaload => exact pI_m (fun x r q => pR_m (fun x r q => ⟨q.1, q.2.elim fun b q => ⟨b, q.1, m _ _ _ q.2⟩⟩) q) hk
  case ineg => exact pI_m (fun x r q => ⟨q.1, m _ _ _ q.2⟩) hk
  case l2i => exact pL_m (fun x r q => m _ _ _ q) hk
  case ladd => exact pL_m (fun x r q => pL_m (fun x r q => m _ _ _ q) q) hk
  case lsub => exact pL_m (fun x r q => pL_m (fun x r q => m _ _ _ q) q) hk
  case arraylength => exact pR_m (fun x r q => ⟨q.1, m _ _ _ q.2⟩) hk
  case iastore => exact pI_m (fun x r q => pI_m (fun x r q => pR_m (fun x r q => ⟨q.1, m _ _ _ q.2⟩) q) q) hk
  case bastore => exact pI_m (fun x r q => pI_m (fun x r q => pR_m (fun x r q => ⟨q.1, m _ _ _ q.2⟩) q) q) hk
  case lastore => exact pL_m (fun x r q => pI_m (fun x r q => pR_m (fun x r q => ⟨q.1, m _ _ _ q.2⟩) q) q) hk
  case aastore => exact pR_m (fun x r q => pI_m (fun x r q => pR_m (fun x r q => ⟨q.1, m _ _ _ q.2⟩) q) q) hk
  all_goals exact False.elim hk
theorem wB {o : Nat} (ho : y.1.cls = rx o) : ∀ {es : List IE} {pc q : Nat} {lo : List (Option AV)} {st : List AV} {h : AH}, chkB y o pc es q = true → wpB es lo st h (fun lo st h => wp y d rc rs Q q lo st h) → wp y d rc rs Q pc lo st h
  | [], pc, q, lo, st, h, hc, hk => by
    simp only [chkB, decide_eq_true_eq] at hc
    subst hc
    exact hk
  | e :: es, pc, q, lo, st, h, hc, hk => by
    simp only [chkB, Bool.and_eq_true, decide_eq_true_eq] at hc
    refine st1_ok ho hc.1.1 hc.1.2 ?_
    refine st1_mono ?_ hk
    intro lo st h h2
    exact wB ho hc.2 h2
end SOUND
end
section
section EXITS
variable {y z : MI} {d d' rc rs mc ms : Nat} {Q Q' : Option AV → AH → Prop} {o pc q n t cnd i c a : Nat} {off : Int} {es : List IE} {lo : List (Option AV)} {st stk : List AV} {av : List AV} {h : AH}
def ckB (y : MI) (o pc : Nat) (es : List IE) (q : Nat) : Bool := decide (y.1.cls = rx o) && chkB y o pc es q
def ckIf (y : MI) (o pc : Nat) (es : List IE) (q cnd : Nat) (off : Int) (t n : Nat) : Bool := ckB y o pc es q && decide (decode y.2.1 q = .ok (ifI cnd off, 3)) && decide ((q : Int) + off = (t : Int)) && decide (cnd < 6) && decide (q + 3 = n)
def ckIc (y : MI) (o pc : Nat) (es : List IE) (q cnd : Nat) (off : Int) (t n : Nat) : Bool := ckB y o pc es q && decide (decode y.2.1 q = .ok (icI cnd off, 3)) && decide ((q : Int) + off = (t : Int)) && decide (cnd < 6) && decide (q + 3 = n)
def ckGo (y : MI) (o pc : Nat) (es : List IE) (q : Nat) (off : Int) (t : Nat) : Bool := ckB y o pc es q && decide (decode y.2.1 q = .ok (.goto off, 3)) && decide ((q : Int) + off = (t : Int))
def ckTs (y : MI) (o pc : Nat) (es : List IE) (q : Nat) (dflt lw hi : Int) (offs : Array Int) (len t0 : Nat) (r : List (Int × Nat)) : Bool := ckB y o pc es q && decide (decode y.2.1 q = .ok (.tableswitch dflt lw hi offs, len)) && decide (lw + offs.toList.length = hi + 1) && decide ((q : Int) + dflt = (t0 : Int)) && chkT q lw offs.toList r
def ckLs (y : MI) (o pc : Nat) (es : List IE) (q : Nat) (dflt : Int) (ps : Array (Int × Int)) (len t0 : Nat) (r : List (Int × Nat)) : Bool := ckB y o pc es q && decide (decode y.2.1 q = .ok (.lookupswitch dflt ps, len)) && (ps.toList.zip (ps.toList.drop 1)).all (fun (a, next) => a.1 < next.1) && decide ((q : Int) + dflt = (t0 : Int)) && chkL q ps.toList r
def ckI (y : MI) (o pc : Nat) (es : List IE) (q : Nat) : Bool := ckB y o pc es q && decide (decode y.2.1 q = .ok (.ireturn, 1)) && (match y.2.2.2 with
  | some .int => true
  | _ => false)
def ckZ (y : MI) (o pc : Nat) (es : List IE) (q : Nat) : Bool := ckB y o pc es q && decide (decode y.2.1 q = .ok (.ireturn, 1)) && (match y.2.2.2 with
  | some .boolean => true
  | _ => false)
def ckV (y : MI) (o pc : Nat) (es : List IE) (q : Nat) : Bool := ckB y o pc es q && decide (decode y.2.1 q = .ok (.return_, 1)) && (match y.2.2.2 with
  | none => true
  | _ => false)
theorem xB (hb : ckB y o pc es q = true) (k : wpB es lo st h (fun lo st h => wp y d rc rs Q q lo st h)) : wp y d rc rs Q pc lo st h := by
  simp only [ckB, Bool.and_eq_true, decide_eq_true_eq] at hb
  exact wB hb.1 hb.2 k
theorem wpB_mono {K K' : KT} (m : ∀ lo st h, K lo st h → K' lo st h) : ∀ {es : List IE} {lo : List (Option AV)} {st : List AV} {h : AH}, wpB es lo st h K → wpB es lo st h K'
  | [], _, _, _, hk => m _ _ _ hk
  | _ :: _, _, _, _, hk => st1_mono (fun _ _ _ q => wpB_mono m q) hk
theorem xIf (hb : ckIf y o pc es q cnd off t n = true) (k : wpB es lo st h (fun lo st h => pI st fun x r => (cmp cnd x 0 → wp y d rc rs Q t lo r h) ∧ (¬ cmp cnd x 0 → wp y d rc rs Q n lo r h))) : wp y d rc rs Q pc lo st h := by
  simp only [ckIf, Bool.and_eq_true, decide_eq_true_eq] at hb
  obtain ⟨⟨⟨⟨h1, h2⟩, h3⟩, h4⟩, rfl⟩ := hb
  refine xB h1 (wpB_mono ?_ k)
  intro lo st h hk
  obtain ⟨x, r, rfl, h5, h6⟩ := pI_e hk
  exact w_if h4 h2 h3 h5 h6
theorem xIc (hb : ckIc y o pc es q cnd off t n = true) (k : wpB es lo st h (fun lo st h => pI st fun z r => pI r fun x r => (cmp cnd x z → wp y d rc rs Q t lo r h) ∧ (¬ cmp cnd x z → wp y d rc rs Q n lo r h))) : wp y d rc rs Q pc lo st h := by
  simp only [ckIc, Bool.and_eq_true, decide_eq_true_eq] at hb
  obtain ⟨⟨⟨⟨h1, h2⟩, h3⟩, h4⟩, rfl⟩ := hb
  refine xB h1 (wpB_mono ?_ k)
  intro lo st h hk
  obtain ⟨z, r, rfl, hk2⟩ := pI_e hk
  obtain ⟨x, r, rfl, h5, h6⟩ := pI_e hk2
  exact w_ic h4 h2 h3 h5 h6
theorem xGo (hb : ckGo y o pc es q off t = true) (k : wpB es lo st h (fun lo st h => wp y d rc rs Q t lo st h)) : wp y d rc rs Q pc lo st h := by
  simp only [ckGo, Bool.and_eq_true, decide_eq_true_eq] at hb
  obtain ⟨⟨h1, h2⟩, h3⟩ := hb
  refine xB h1 (wpB_mono ?_ k)
  intro lo st h hk
  exact w_goto h2 h3 hk
theorem xTs {dflt lw hi : Int} {offs : Array Int} {len t0 : Nat} {r : List (Int × Nat)} (hb : ckTs y o pc es q dflt lw hi offs len t0 r = true) (k : wpB es lo st h (fun lo st h => pI st fun x s => swK x (fun t => wp y d rc rs Q t lo s h) t0 r)) : wp y d rc rs Q pc lo st h := by
  simp only [ckTs, Bool.and_eq_true, decide_eq_true_eq] at hb
  obtain ⟨⟨⟨⟨h1, h2⟩, h3⟩, h4⟩, h5⟩ := hb
  refine xB h1 (wpB_mono ?_ k)
  intro lo st h hk
  obtain ⟨x, r, rfl, hk2⟩ := pI_e hk
  exact w_ts h2 h3 h4 h5 hk2
theorem xLs {dflt : Int} {ps : Array (Int × Int)} {len t0 : Nat} {r : List (Int × Nat)} (hb : ckLs y o pc es q dflt ps len t0 r = true) (k : wpB es lo st h (fun lo st h => pI st fun x s => swK x (fun t => wp y d rc rs Q t lo s h) t0 r)) : wp y d rc rs Q pc lo st h := by
  simp only [ckLs, Bool.and_eq_true, decide_eq_true_eq] at hb
  obtain ⟨⟨⟨⟨h1, h2⟩, h3⟩, h4⟩, h5⟩ := hb
  refine xB h1 (wpB_mono ?_ k)
  intro lo st h hk
  obtain ⟨x, r, rfl, hk2⟩ := pI_e hk
  exact w_lsw h2 h3 h4 h5 hk2
theorem xI (hb : ckI y o pc es q = true) (k : wpB es lo st h (fun _ st h => pI st fun x r => r = [] ∧ Q (some (vi x)) h)) : wp y d rc rs Q pc lo st h := by
  simp only [ckI, Bool.and_eq_true, decide_eq_true_eq] at hb
  obtain ⟨⟨h1, h2⟩, h3⟩ := hb
  refine xB h1 (wpB_mono ?_ k)
  intro lo st h hk
  obtain ⟨x, r, rfl, rfl, hq⟩ := pI_e hk
  refine w_iret ?_ h2 hq
  split at h3
  · assumption
  · cases h3
theorem xZ (hb : ckZ y o pc es q = true) (k : wpB es lo st h (fun _ st h => pI st fun x r => r = [] ∧ (x = 0 ∨ x = 1) ∧ Q (some (vi x)) h)) : wp y d rc rs Q pc lo st h := by
  simp only [ckZ, Bool.and_eq_true, decide_eq_true_eq] at hb
  obtain ⟨⟨h1, h2⟩, h3⟩ := hb
  refine xB h1 (wpB_mono ?_ k)
  intro lo st h hk
  obtain ⟨x, r, rfl, rfl, h01, hq⟩ := pI_e hk
  refine w_zret ?_ h2 h01 hq
  split at h3
  · assumption
  · cases h3
theorem xV (hb : ckV y o pc es q = true) (k : wpB es lo st h (fun _ st h => st = [] ∧ Q none h)) : wp y d rc rs Q pc lo st h := by
  simp only [ckV, Bool.and_eq_true, decide_eq_true_eq] at hb
  obtain ⟨⟨h1, h2⟩, h3⟩ := hb
  refine xB h1 (wpB_mono ?_ k)
  intro lo st h hk
  obtain ⟨rfl, hq⟩ := hk
  refine w_vret ?_ h2 hq
  split at h3
  · assumption
  · cases h3
/-- a place of a call: the instruction, what is called, how many arguments, the kind of the receiver -/
def cV (y : MI) (pc : Nat) (z : MI) (i n c : Nat) : Prop := decode y.2.1 pc = .ok (.invokevirtual i, 3) ∧ VL y z i n ∧ (c < 13 ∧ rx c = z.1.cls) ∧ z.2.2.1 ≤ 45
def cS (y : MI) (pc : Nat) (z : MI) (i n : Nat) : Prop := decode y.2.1 pc = .ok (.invokestatic i, 3) ∧ SL y z i n ∧ z.2.2.1 ≤ 45
def cI (y : MI) (pc : Nat) (z : MI) (i n : Nat) : Prop := decode y.2.1 pc = .ok (.invokespecial i, 3) ∧ (IL y z i n ∨ NL y z i n) ∧ z.2.2.1 ≤ 45
/-- what a call leaves, by the kind of the answer -/
def QI (P : Int → AH → Prop) : Option AV → AH → Prop := fun v h => ∃ x, v = some (vi x) ∧ P x h
def QJ (P : Int64 → AH → Prop) : Option AV → AH → Prop := fun v h => ∃ x, v = some (vl x) ∧ P x h
def QR (P : Nat → AH → Prop) : Option AV → AH → Prop := fun v h => ∃ x, v = some (vr x) ∧ P x h
def QV (P : AH → Prop) : Option AV → AH → Prop := fun v h => v = none ∧ P h
theorem eQI {P : Int → AH → Prop} {K : Option AV → AH → Prop} (k : ∀ x h, inr x → P x h → K (some (vi x)) h) : ∀ v h, (∀ w, v = some w → okV w) → QI P v h → K v h := by
  rintro v h ok ⟨x, rfl, hp⟩
  exact k x h (ok _ rfl) hp
theorem eQJ {P : Int64 → AH → Prop} {K : Option AV → AH → Prop} (k : ∀ x h, P x h → K (some (vl x)) h) : ∀ v h, (∀ w, v = some w → okV w) → QJ P v h → K v h := by
  rintro v h ok ⟨x, rfl, hp⟩
  exact k x h hp
theorem eQR {P : Nat → AH → Prop} {K : Option AV → AH → Prop} (k : ∀ x h, P x h → K (some (vr x)) h) : ∀ v h, (∀ w, v = some w → okV w) → QR P v h → K v h := by
  rintro v h ok ⟨x, rfl, hp⟩
  exact k x h hp
theorem eQV {P : AH → Prop} {K : Option AV → AH → Prop} (k : ∀ h, P h → K none h) : ∀ v h, (∀ w, v = some w → okV w) → QV P v h → K v h := by
  rintro v h ok ⟨rfl, hp⟩
  exact k h hp
/-- behind a call -/
def aft (y z : MI) (d rc rs : Nat) (Q : Option AV → AH → Prop) (q : Nat) (lo : List (Option AV)) (st : List AV) (ar : List AV) (h : AH) : Prop := ∃ (d' mc ms : Nat) (R : Option AV → AH → Prop), Ct d' mc ms z ar h R ∧ (d' + 1 ≤ d ∧ mc ≤ rc ∧ ms ≤ rs) ∧ ∀ v h', (∀ w, v = some w → okV w) → R v h' → wp y d (rc - mc) (rs - ms) Q q lo (v.toList ++ st) h'
theorem xcV (hb : ckB y o pc es q = true) (s : cV y q z i n c) (k : wpB es lo st h (fun lo stk h => ∃ (av : List AV) (a : Nat) (st : List AV), (stk = av.reverse ++ vr a :: st ∧ av.length = n ∧ (st.map cat).sum ≤ 8) ∧ (a < nH h ∧ kH h a = (c, 0)) ∧ aft y z d rc rs Q (q + 3) lo st (vr a :: av) h)) : wp y d rc rs Q pc lo st h := by
  refine xB hb (wpB_mono ?_ k)
  rintro lo stk h ⟨av, a, st, ⟨rfl, h2, h3⟩, ⟨h4, h5⟩, d', mc, ms, R, h6, ⟨h7, h8, h9⟩, h10⟩
  exact w_callV h6 s.1 s.2.1 rfl h2 h4 h5 s.2.2.1 h7 s.2.2.2 h8 h9 h3 h10
theorem xcS (hb : ckB y o pc es q = true) (s : cS y q z i n) (k : wpB es lo st h (fun lo stk h => ∃ (av : List AV) (st : List AV), (stk = av.reverse ++ st ∧ av.length = n ∧ (st.map cat).sum ≤ 8) ∧ aft y z d rc rs Q (q + 3) lo st av h)) : wp y d rc rs Q pc lo st h := by
  refine xB hb (wpB_mono ?_ k)
  rintro lo stk h ⟨av, st, ⟨rfl, h2, h3⟩, d', mc, ms, R, h6, ⟨h7, h8, h9⟩, h10⟩
  exact w_callS h6 s.1 s.2.1 rfl h2 h7 s.2.2 h8 h9 h3 h10
theorem xcI (hb : ckB y o pc es q = true) (s : cI y q z i n) (k : wpB es lo st h (fun lo stk h => ∃ (av : List AV) (a : Nat) (st : List AV), (stk = av.reverse ++ vr a :: st ∧ av.length = n ∧ (st.map cat).sum ≤ 8) ∧ a < nH h ∧ aft y z d rc rs Q (q + 3) lo st (vr a :: av) h)) : wp y d rc rs Q pc lo st h := by
  refine xB hb (wpB_mono ?_ k)
  rintro lo stk h ⟨av, a, st, ⟨rfl, h2, h3⟩, h4, d', mc, ms, R, h6, ⟨h7, h8, h9⟩, h10⟩
  exact w_callI h6 s.1 s.2.1 rfl h2 h7 s.2.2 h8 h9 h3 h10
def ckJ (y : MI) (o pc : Nat) (es : List IE) (q : Nat) : Bool := ckB y o pc es q && decide (decode y.2.1 q = .ok (.lreturn, 1)) && (match y.2.2.2 with
  | some .long => true
  | _ => false)
def ckA (y : MI) (o pc : Nat) (es : List IE) (q : Nat) : Bool := ckB y o pc es q && decide (decode y.2.1 q = .ok (.areturn, 1)) && (match y.2.2.2 with
  | some (.array _) => true
  | _ => false)
theorem xJ (hb : ckJ y o pc es q = true) (k : wpB es lo st h (fun _ st h => pL st fun x r => r = [] ∧ Q (some (vl x)) h)) : wp y d rc rs Q pc lo st h := by
  simp only [ckJ, Bool.and_eq_true, decide_eq_true_eq] at hb
  obtain ⟨⟨h1, h2⟩, h3⟩ := hb
  refine xB h1 (wpB_mono ?_ k)
  intro lo st h hk
  obtain ⟨x, r, rfl, rfl, hq⟩ := pL_e hk
  refine w_lret ?_ h2 hq
  split at h3
  · assumption
  · cases h3
theorem xA (hb : ckA y o pc es q = true) (k : wpB es lo st h (fun _ st h => pR st fun x r => r = [] ∧ Q (some (vr x)) h)) : wp y d rc rs Q pc lo st h := by
  simp only [ckA, Bool.and_eq_true, decide_eq_true_eq] at hb
  obtain ⟨⟨h1, h2⟩, h3⟩ := hb
  refine xB h1 (wpB_mono ?_ k)
  intro lo st h hk
  obtain ⟨x, r, rfl, rfl, hq⟩ := pR_e hk
  split at h3
  · rename_i t e
    exact w_aret e h2 hq
  · cases h3
/-- what is not used any more is left out -/
def mk : List Bool → List (Option AV) → List (Option AV)
  | [], lo => lo
  | _, [] => []
  | true :: ms, x :: lo => x :: mk ms lo
  | false :: ms, _ :: lo => none :: mk ms lo
theorem lg_mk : ∀ (ms : List Bool) (lo : List (Option AV)) (i : Nat) (v : AV), lg (mk ms lo) i = some v → lg lo i = some v
  | [], lo, i, v, h => by simpa [mk] using h
  | _ :: _, [], i, v, h => by simp [mk, lg] at h
  | true :: ms, x :: lo, 0, v, h => h
  | true :: ms, x :: lo, i + 1, v, h => lg_mk ms lo i v h
  | false :: ms, x :: lo, 0, v, h => by cases h
  | false :: ms, x :: lo, i + 1, v, h => lg_mk ms lo i v h
theorem w_fg (ms : List Bool) (k : wp y d rc rs Q q (mk ms lo) st h) : wp y d rc rs Q q lo st h := by
  intro E p l e R s m args below meth c Z hC hR hd1 hd2 hb H locs ls cells slots hc hs hW hS hl hst hlo
  refine k E p l e R s m args below meth c Z hC hR hd1 hd2 hb H locs ls cells slots hc hs hW hS ⟨hl.1, hl.2.1, fun r hr => ?_⟩ hst (fun i v hi => hlo i v (lg_mk _ _ _ _ hi))
  obtain ⟨v, h1, h2⟩ := lvs_mem.mp hr
  exact hl.2.2 r (lvs_mem.mpr ⟨v, lg_mk _ _ _ _ h1, h2⟩)
/-- from the end of a row of states back to its first -/
theorem up {P : Nat → Prop} (n : Nat) (e : P n) (s : ∀ k, k < n → P (k + 1) → P k) : P 0 := by
  have : ∀ j, j ≤ n → P (n - j) := by
    intro j
    induction j with
    | zero => intro _; exact e
    | succ j ih =>
      intro hj
      refine s _ (by omega) ?_
      rw [show n - (j + 1) + 1 = n - j by omega]
      exact ih (by omega)
  simpa using this n (Nat.le_refl n)
theorem tnl {x : Int} {n : Nat} (c : 0 ≤ x ∧ x < (n : Int)) : x.toNat < n := by omega
theorem sdI {a n : Nat} {x : Int} (hk : a < nH h ∧ kH h a = (13, n)) (c : 0 ≤ x ∧ x < (n : Int)) : a < nH h ∧ (kH h a).1 = 13 ∧ 0 ≤ x ∧ x < ((kH h a).2 : Int) := by rw [hk.2]; exact ⟨hk.1, rfl, c.1, c.2⟩
theorem sdJ {a n : Nat} {x : Int} (hk : a < nH h ∧ kH h a = (14, n)) (c : 0 ≤ x ∧ x < (n : Int)) : a < nH h ∧ (kH h a).1 = 14 ∧ 0 ≤ x ∧ x < ((kH h a).2 : Int) := by rw [hk.2]; exact ⟨hk.1, rfl, c.1, c.2⟩
theorem sdZ {a n : Nat} {x : Int} (hk : a < nH h ∧ kH h a = (15, n)) (c : 0 ≤ x ∧ x < (n : Int)) : a < nH h ∧ (kH h a).1 = 15 ∧ 0 ≤ x ∧ x < ((kH h a).2 : Int) := by rw [hk.2]; exact ⟨hk.1, rfl, c.1, c.2⟩
theorem sdZs {a n : Nat} {x z : Int} (hk : a < nH h ∧ kH h a = (15, n)) (c : 0 ≤ x ∧ x < (n : Int)) (b : z = 0 ∨ z = 1) : a < nH h ∧ (kH h a).1 = 15 ∧ 0 ≤ x ∧ x < ((kH h a).2 : Int) ∧ (z = 0 ∨ z = 1) := by rw [hk.2]; exact ⟨hk.1, rfl, c.1, c.2, b⟩
theorem sdQt {t : Nat} (h1 : Nat.blt 15 t = true) (h2 : Nat.blt t 23 = true) : 15 < t ∧ t < 23 := ⟨Nat.le_of_ble_eq_true h1, Nat.le_of_ble_eq_true h2⟩
theorem sdQ {a t n : Nat} {x : Int} (hk : a < nH h ∧ kH h a = (t, n)) (c : 0 ≤ x ∧ x < (n : Int)) (ht : 15 < t ∧ t < 23 := by exact sdQt rfl rfl) : a < nH h ∧ 15 < (kH h a).1 ∧ (kH h a).1 < 23 ∧ 0 ≤ x ∧ x < ((kH h a).2 : Int) := by rw [hk.2]; exact ⟨hk.1, ht.1, ht.2, c.1, c.2⟩
theorem sdL {a t n : Nat} (hk : a < nH h ∧ kH h a = (t, n)) (c : 13 ≤ t ∧ t < 23 ∧ n < 2147483648) : a < nH h ∧ 13 ≤ (kH h a).1 ∧ (kH h a).1 < 23 ∧ inr ((kH h a).2 : Int) := by rw [hk.2]; exact ⟨hk.1, c.1, c.2.1, by unfold inr; dsimp only; omega⟩
theorem sd_idiv {x z : Int} (hz : 0 < z) (c : 0 ≤ x ∧ x < 2147483648) : 0 ≤ x ∧ 0 < z ∧ inr (x / z) := by
  have h1 : x / z ≤ x := Int.ediv_le_self _ c.1
  have h2 : 0 ≤ x / z := Int.ediv_nonneg c.1 (by omega)
  exact ⟨c.1, hz, by unfold inr; omega⟩
theorem sd_irem {x z : Int} (hz : 0 < z) (c : 0 ≤ x ∧ x < 2147483648) : 0 ≤ x ∧ 0 < z ∧ inr (x % z) := by
  have h1 : x % z ≤ x := by
    have := Int.emod_add_mul_ediv x z
    have h3 : 0 ≤ z * (x / z) := Int.mul_nonneg (by omega) (Int.ediv_nonneg c.1 (by omega))
    omega
  have h2 : 0 ≤ x % z := Int.emod_nonneg _ (by omega)
  exact ⟨c.1, hz, by unfold inr; omega⟩
theorem Ct.mono {Q1 Q2 : Option AV → AH → Prop} (hm : ∀ v h, Q1 v h → Q2 v h) (hc : Ct d mc ms y av h Q1) : Ct d mc ms y av h Q2 := by
  intro l E
  have := hc l E
  intro p e ha hcc hk s m args below hf happ hP hr
  obtain ⟨t, oc, h1, h2, h3, ⟨v, h', e1, e2, e3, e4⟩, L, h5⟩ := this p e ha hcc hk s m args below hf happ hP hr
  exact ⟨t, oc, h1, h2, h3, ⟨v, h', e1, e2, hm v h' e3, e4⟩, L, h5⟩
end EXITS
end
section
section
section COPY
variable {y z : MI} {d rc rs : Nat} {Q : Option AV → AH → Prop} {o pc q : Nat} {es : List IE} {lo : List (Option AV)} {st : List AV} {h : AH}
/-- System.arraycopy of whole numbers (or truths) -/
def cpI (h : AH) (a i b j n : Nat) : AH := sW h b (fun k => if j ≤ k ∧ k < j + n then iH h a (i + (k - j)) else iH h b k)
theorem in_cpI {h : AH} {a i b j n : Nat} (hh : ∀ a k, inr (iH h a k)) : ∀ x k, inr (iH (cpI h a i b j n) x k) := by
  intro x k
  show inr (if x = b then (fun k => if j ≤ k ∧ k < j + n then iH h a (i + (k - j)) else iH h b k) k else iH h x k)
  split
  · dsimp only
    split
    · exact hh _ _
    · exact hh _ _
  · exact hh x k
def cCp (y : MI) (q i : Nat) : Prop := decode y.2.1 q = .ok (.invokestatic i, 3) ∧ Cond.methodLink y.1.cls i arraycopyName ∈ gt ∧ Cond.native arraycopyName ∈ gt ∧ Cond.static arraycopyName ∈ gt ∧ Cond.initialized "java/lang/System" ∈ gt
theorem w_copy {a i b na nb t : Nat} {sp dp n : Int} (s : cCp y pc i) (hd1 : 1 ≤ d) (h8 : (st.map cat).sum ≤ 8) (ha : a < nH h ∧ kH h a = (t, na)) (hb' : b < nH h ∧ kH h b = (t, nb)) (ht : t = 13 ∨ (t = 15 ∧ ∀ i, i < n.toNat → iH h a (sp.toNat + i) = 0 ∨ iH h a (sp.toNat + i) = 1)) (c : 0 ≤ sp ∧ 0 ≤ dp ∧ 0 ≤ n ∧ sp + n ≤ (na : Int) ∧ dp + n ≤ (nb : Int)) (kk : wp y d rc rs Q (pc + 3) lo st (cpI h a sp.toNat b dp.toNat n.toNat)) : wp y d rc rs Q pc lo (vi n :: vi dp :: vr b :: vi sp :: vr a :: st) h := by
  intro E p l e R s' m args below meth c' Z hC hR hdd1 hdd2 hb H locs ls cells slots hc hs hW hS hl hst hlo
  have hts := hC.2.2.2.2.1
  have hn : inr n := (ok_cons.mp hst).1
  have hdp : inr dp := (ok_cons.mp (ok_cons.mp hst).2).1
  have hsp : inr sp := (ok_cons.mp (ok_cons.mp (ok_cons.mp (ok_cons.mp hst).2).2).2).1
  have hst5 : ∀ v ∈ st, okV v := (ok_cons.mp (ok_cons.mp (ok_cons.mp (ok_cons.mp (ok_cons.mp hst).2).2).2).2).2
  have hneg : ∀ {z : Int}, inr z → 0 ≤ z → ¬ Int32.ofInt z < 0 := fun hz h0 => by rw [oi_0, oi_lt hz in_0]; omega
  have ht13 : 13 ≤ t ∧ t < 23 := by rcases ht with e | ⟨e, -⟩ <;> omega
  have h1315 : t = 13 ∨ t = 15 := by rcases ht with e | ⟨e, -⟩ <;> omega
  have hpr : refKind (tyA t) = false := by rcases h1315 with rfl | rfl <;> rfl
  have hfit : ∀ i : Nat, i < (Int32.ofInt n).toNatClampNeg → fits (tyA t) (.int ((fun j => Int32.ofInt (iH h a j)) ((Int32.ofInt sp).toNatClampNeg + i))) = true := by
    intro i hi
    rw [oi_nat hn] at hi
    rw [oi_nat hsp]
    rcases ht with rfl | ⟨rfl, hz⟩
    · rfl
    · rcases hz i hi with e | e <;> (dsimp only; rw [e]; decide +kernel)
  have hloc : (((st.map (cv E.1)).map fun v => v.category).sum) + (nativeFrameWords "java/lang/System" "arraycopy" 5 + 11) ≤ R.locals := by
    rw [cat_sum]
    have : nativeFrameWords "java/lang/System" "arraycopy" 5 + 11 ≤ 40 := by decide +kernel
    omega
  have nn : ∀ {z : Int}, inr z → 0 ≤ z → (Int32.ofInt z).toInt = (((Int32.ofInt z).toNatClampNeg : Nat) : Int) := fun hz h0 => by
    rw [oi_nat hz, oi_to hz]; omega
  have hca := hW.2.1 a ha.1
  rw [cE_i ha.2 h1315] at hca
  have hcb := hW.2.1 b hb'.1
  rw [cE_i hb'.2 h1315] at hcb
  have hca' : H[E.1 + a]? = some (vp_cell (E.2.2 t) (na, .inl (fun j => Int32.ofInt (iH h a j)))) := hca
  have hcb' : H[E.1 + b]? = some (vp_cell (E.2.2 t) (nb, .inl (fun j => Int32.ofInt (iH h b j)))) := hcb
  intro T hT X
  have hK := hC.2.2.2.2.2.1.1
  obtain ⟨-, k0, hk0, cm0, hkk0⟩ := (hK.2 _ _ (tyL_at E.2.2 ht13.1 ht13.2)).1 na (fun j => .int (Int32.ofInt (iH h a j)))
  obtain ⟨-, k1, hk1, cm1, hkk1⟩ := (hK.2 _ _ (tyL_at E.2.2 ht13.1 ht13.2)).1 nb (fun j => .int (Int32.ofInt (iH h b j)))
  obtain ⟨vm', X', step⟩ := X.arraycopy hC.1 hC.2.2.2.1 (hts _ s.2.1) (hts _ s.2.2.1) (hts _ s.2.2.2.1) (hts _ s.2.2.2.2) (src := E.1 + a) (dst := E.1 + b) (cs := vp_cell (E.2.2 t) (na, .inl (fun j => Int32.ofInt (iH h a j)))) (cd := vp_cell (E.2.2 t) (nb, .inl (fun j => Int32.ofInt (iH h b j)))) (srcPos := Int32.ofInt sp) (destPos := Int32.ofInt dp) (n := Int32.ofInt n) (by rw [hT]; exact hca') (by rw [hT]; exact hcb')
    (fun _ h => by cases h) (fun _ h => by cases h) (fun h => by cases h) (fun h => by cases h) hk0 hk1 hkk0 hkk1 (by simp [hpr]) (hneg hsp c.1) (hneg hdp c.2.1) (hneg hn c.2.2.1)
    (by rw [nn hsp c.1, nn hn c.2.2.1, oi_nat hsp, oi_nat hn]; show ¬ _ > ((arrV _ na _).slots.size : Int); rw [arrV_size]; omega)
    (by rw [nn hdp c.2.1, nn hn c.2.2.1, oi_nat hdp, oi_nat hn]; show ¬ _ > ((arrV _ nb _).slots.size : Int); rw [arrV_size]; omega)
    (fun vm₁ _ i hi => by
      have e : (vp_cell (E.2.2 t) (na, .inl (fun j => Int32.ofInt (iH h a j)))).slots.getD ((Int32.ofInt sp).toNatClampNeg + i) .null = .int (Int32.ofInt (iH h a ((Int32.ofInt sp).toNatClampNeg + i))) := by
        show (arrV _ na _).slots.getD _ _ = _
        rw [Array.getD_eq_getD_getElem?, arrV_read _ _ (by rw [oi_nat hsp]; rw [oi_nat hn] at hi; omega)]
        rfl
      rw [e]
      exact ⟨hfit i hi, trivial⟩)
    (g := F0 m pc ls ((vi n :: vi dp :: vr b :: vi sp :: vr a :: st).map (cv E.1))) rfl (by show ls.size = c'.maxLocals; exact hl.1.trans hC.2.2.1.symm) (rest := st.map (cv E.1)) rfl (by rw [hC.2.1]; exact s.1) (by omega) (by show 2 * 0 + _ + _ ≤ _; omega)
  have e1 : copied (vp_cell (E.2.2 t) (na, .inl (fun j => Int32.ofInt (iH h a j)))) (vp_cell (E.2.2 t) (nb, .inl (fun j => Int32.ofInt (iH h b j)))) (Int32.ofInt sp) (Int32.ofInt dp) (Int32.ofInt n) = vp_cell (E.2.2 t) (nb, .inl (va_cpy (fun j => Int32.ofInt (iH h a j)) (fun j => Int32.ofInt (iH h b j)) (Int32.ofInt sp).toNatClampNeg (Int32.ofInt dp).toNatClampNeg (Int32.ofInt n).toNatClampNeg)) := va_copied (n0 := na) (n1 := nb) (sp := (Int32.ofInt sp).toNatClampNeg) (dp := (Int32.ofInt dp).toNatClampNeg) (n := (Int32.ofInt n).toNatClampNeg) (fun z => .int z) (E.2.2 t) (E.2.2 t) (fun j => Int32.ofInt (iH h a j)) (fun j => Int32.ofInt (iH h b j)) (by rw [oi_nat hsp, oi_nat hn]; omega)
  have e2 : vp_cell (E.2.2 t) (nb, .inl (va_cpy (fun j => Int32.ofInt (iH h a j)) (fun j => Int32.ofInt (iH h b j)) (Int32.ofInt sp).toNatClampNeg (Int32.ofInt dp).toNatClampNeg (Int32.ofInt n).toNatClampNeg)) = vp_cell (E.2.2 t) (nb, .inl (fun j => Int32.ofInt (iH (cpI h a sp.toNat b dp.toNat n.toNat) b j))) := by
    congr 3
    funext j
    rw [oi_nat hsp, oi_nat hdp, oi_nat hn]
    show _ = Int32.ofInt ((if b = b then (fun k => if dp.toNat ≤ k ∧ k < dp.toNat + n.toNat then iH h a (sp.toNat + (k - dp.toNat)) else iH h b k) j else iH h b j))
    rw [if_pos rfl]
    unfold va_cpy
    dsimp only
    by_cases hq : dp.toNat ≤ j ∧ j < dp.toNat + n.toNat
    · rw [if_pos hq, if_pos hq]
    · rw [if_neg hq, if_neg hq]
  rw [e1, e2] at X' step
  have hlb : E.1 + b < H.size := (Array.getElem?_eq_some_iff.mp hcb').1
  generalize hcell : vp_cell (E.2.2 t) (nb, .inl (fun j => Int32.ofInt (iH (cpI h a sp.toNat b dp.toNat n.toNat) b j))) = cell at X' step
  have hheap : ((T.setVm vm').setCell (E.1 + b) cell).heap = H.setIfInBounds (E.1 + b) cell := by rw [← hT]; rfl
  have oq : ∀ q : Nat, q ≠ E.1 + b → (H.setIfInBounds (E.1 + b) cell)[q]? = H[q]? := fun q hq => by simp [Array.getElem?_setIfInBounds, Ne.symm hq]
  have hz : (H.setIfInBounds (E.1 + b) cell).size = H.size := by simp
  have hWd : Wd E.2.1 E.2.2 E.1 (cpI h a sp.toNat b dp.toNat n.toNat) (H.setIfInBounds (E.1 + b) cell) := by
    refine hW.upd rfl (in_cpI hW.2.2) hz ?_ oq (fun x hx => cE_sW hx)
    rw [cE_i (h := cpI h a sp.toNat b dp.toNat n.toNat) hb'.2 h1315]
    show (H.setIfInBounds (E.1 + b) cell)[E.1 + b]? = some (vp_cell _ _)
    rw [hcell]
    simp [Array.getElem?_setIfInBounds, hlb]
  obtain ⟨t', a1, b1⟩ := kk E p l e R s' m args below meth c' Z hC hR hdd1 hdd2 hb _ _ ls cells slots hc hs hWd ⟨by rw [hz]; exact hS.1, fun q g1 g2 => by
      rw [oq q (fun e => g2 (by rw [e]; show E.1 ≤ E.1 + b; omega))]
      exact hS.2.1 q g1 g2, fun q hq => by
      rcases List.mem_append.mp hq with h | h
      · exact hS.2.2 q h
      · obtain ⟨z, -, hz⟩ := List.mem_map.mp h
        rw [← hz]
        show E.1 ≤ E.1 + b; omega⟩ hl hst5 hlo _ hheap X'
  exact ⟨t', step t' a1, b1⟩
theorem xcp {i : Nat} (hb : ckB y o pc es q = true) (s : cCp y q i) (k : wpB es lo st h (fun lo stk h => pI stk fun n r => pI r fun dp r => pR r fun b r => pI r fun sp r => pR r fun a r => ∃ na nb t, (a < nH h ∧ kH h a = (t, na)) ∧ (b < nH h ∧ kH h b = (t, nb)) ∧ (t = 13 ∨ (t = 15 ∧ ∀ i, i < n.toNat → iH h a (sp.toNat + i) = 0 ∨ iH h a (sp.toNat + i) = 1)) ∧ (0 ≤ sp ∧ 0 ≤ dp ∧ 0 ≤ n ∧ sp + n ≤ (na : Int) ∧ dp + n ≤ (nb : Int)) ∧ (1 ≤ d ∧ (r.map cat).sum ≤ 8) ∧ wp y d rc rs Q (q + 3) lo r (cpI h a sp.toNat b dp.toNat n.toNat))) : wp y d rc rs Q pc lo st h := by
  refine xB hb (wpB_mono ?_ k)
  intro lo st h hk
  obtain ⟨n, r1, rfl, k1⟩ := pI_e hk
  obtain ⟨dp, r2, rfl, k2⟩ := pI_e k1
  obtain ⟨b, r3, rfl, k3⟩ := pR_e k2
  obtain ⟨sp, r4, rfl, k4⟩ := pI_e k3
  obtain ⟨a, r5, rfl, na, nb, t, h1, h2, h3, h4, h5, h6⟩ := pR_e k4
  exact w_copy s h5.1 h5.2 h1 h2 h3 h4 h6
end COPY
end
end
section
/-! METHODS: name, code, room, type; what the tables say (by gen17.py) -/
abbrev mX11_init : MI := (yX11_init, prog_1_method_1_code, 2, none)
abbrev mX11_feed : MI := (yX11_feed, prog_1_method_2_code, 7, some .int)
abbrev mX11_add : MI := (yX11_add, prog_1_method_3_code, 4, some .int)
abbrev mX11_drop : MI := (yX11_drop, prog_1_method_4_code, 2, some .int)
abbrev mX11_dropBy : MI := (yX11_dropBy, prog_1_method_5_code, 3, some .int)
abbrev mX11_flush : MI := (yX11_flush, prog_1_method_6_code, 3, some .int)
abbrev mX11_where : MI := (yX11_where, prog_1_method_7_code, 3, some .int)
abbrev mX11_isByte : MI := (yX11_isByte, prog_1_method_8_code, 1, some .boolean)
theorem ml_X11_isByte : ML mX11_isByte 1 := ⟨gt_ok (List.mem_of_getElem? (i := 396) (by decide +kernel)) (by decide +kernel), gt_ok (List.mem_of_getElem? (i := 91) (by decide +kernel)) (by decide +kernel), by decide +kernel, by decide +kernel, by decide +kernel⟩
theorem st_X11_isByte : Cond.static mX11_isByte.1 ∈ gt := gt_ok (List.mem_of_getElem? (i := 395) (by decide +kernel)) (by decide +kernel)
theorem li_RX11_108 : Cond.methodLink RX11 108 mX11_isByte.1 ∈ gt := gt_ok (List.mem_of_getElem? (i := 394) (by decide +kernel)) (by decide +kernel)
abbrev mX11_isKey : MI := (yX11_isKey, prog_1_method_9_code, 1, some .boolean)
theorem ml_X11_isKey : ML mX11_isKey 1 := ⟨gt_ok (List.mem_of_getElem? (i := 407) (by decide +kernel)) (by decide +kernel), gt_ok (List.mem_of_getElem? (i := 91) (by decide +kernel)) (by decide +kernel), by decide +kernel, by decide +kernel, by decide +kernel⟩
theorem st_X11_isKey : Cond.static mX11_isKey.1 ∈ gt := gt_ok (List.mem_of_getElem? (i := 406) (by decide +kernel)) (by decide +kernel)
theorem li_RX11_119 : Cond.methodLink RX11 119 mX11_isKey.1 ∈ gt := gt_ok (List.mem_of_getElem? (i := 405) (by decide +kernel)) (by decide +kernel)
abbrev mX11_placeInBuffer : MI := (yX11_placeInBuffer, prog_1_method_10_code, 3, some .int)
theorem ml_X11_placeInBuffer : ML mX11_placeInBuffer 1 := ⟨gt_ok (List.mem_of_getElem? (i := 411) (by decide +kernel)) (by decide +kernel), gt_ok (List.mem_of_getElem? (i := 91) (by decide +kernel)) (by decide +kernel), by decide +kernel, by decide +kernel, by decide +kernel⟩
theorem im_X11_placeInBuffer : Cond.instanceMethod mX11_placeInBuffer.1 ∈ gt := gt_ok (List.mem_of_getElem? (i := 410) (by decide +kernel)) (by decide +kernel)
theorem se_X11_placeInBuffer : Cond.selects mX11_placeInBuffer.1.cls mX11_placeInBuffer.1 mX11_placeInBuffer.1 ∈ gt := gt_ok (List.mem_of_getElem? (i := 0) (by decide +kernel)) (by decide +kernel)
theorem li_RX11_125 : Cond.methodLink RX11 125 mX11_placeInBuffer.1 ∈ gt := gt_ok (List.mem_of_getElem? (i := 408) (by decide +kernel)) (by decide +kernel)
abbrev mX11_placeInSegments : MI := (yX11_placeInSegments, prog_1_method_11_code, 5, some .int)
theorem ml_X11_placeInSegments : ML mX11_placeInSegments 1 := ⟨gt_ok (List.mem_of_getElem? (i := 435) (by decide +kernel)) (by decide +kernel), gt_ok (List.mem_of_getElem? (i := 91) (by decide +kernel)) (by decide +kernel), by decide +kernel, by decide +kernel, by decide +kernel⟩
theorem im_X11_placeInSegments : Cond.instanceMethod mX11_placeInSegments.1 ∈ gt := gt_ok (List.mem_of_getElem? (i := 434) (by decide +kernel)) (by decide +kernel)
theorem se_X11_placeInSegments : Cond.selects mX11_placeInSegments.1.cls mX11_placeInSegments.1 mX11_placeInSegments.1 ∈ gt := gt_ok (List.mem_of_getElem? (i := 2) (by decide +kernel)) (by decide +kernel)
theorem li_RX11_176 : Cond.methodLink RX11 176 mX11_placeInSegments.1 ∈ gt := gt_ok (List.mem_of_getElem? (i := 432) (by decide +kernel)) (by decide +kernel)
abbrev mX11_dropLive : MI := (yX11_dropLive, prog_1_method_12_code, 4, some .int)
theorem ml_X11_dropLive : ML mX11_dropLive 1 := ⟨gt_ok (List.mem_of_getElem? (i := 431) (by decide +kernel)) (by decide +kernel), gt_ok (List.mem_of_getElem? (i := 91) (by decide +kernel)) (by decide +kernel), by decide +kernel, by decide +kernel, by decide +kernel⟩
theorem im_X11_dropLive : Cond.instanceMethod mX11_dropLive.1 ∈ gt := gt_ok (List.mem_of_getElem? (i := 430) (by decide +kernel)) (by decide +kernel)
theorem se_X11_dropLive : Cond.selects mX11_dropLive.1.cls mX11_dropLive.1 mX11_dropLive.1 ∈ gt := gt_ok (List.mem_of_getElem? (i := 1) (by decide +kernel)) (by decide +kernel)
theorem li_RX11_133 : Cond.methodLink RX11 133 mX11_dropLive.1 ∈ gt := gt_ok (List.mem_of_getElem? (i := 428) (by decide +kernel)) (by decide +kernel)
abbrev mX11_told : MI := (yX11_told, prog_1_method_13_code, 4, some .int)
abbrev mX11_doc : MI := (yX11_doc, prog_1_method_14_code, 5, some .int)
abbrev mX11_word : MI := (yX11_word, prog_1_method_15_code, 5, some .int)
abbrev mX11_set : MI := (yX11_set, prog_1_method_16_code, 4, some .int)
abbrev mX11_taken : MI := (yX11_taken, prog_1_method_17_code, 2, some .int)
abbrev mX11_choice : MI := (yX11_choice, prog_1_method_18_code, 3, some .int)
abbrev mX11_begin : MI := (yX11_begin, prog_1_method_19_code, 2, some .int)
abbrev mX11_finish : MI := (yX11_finish, prog_1_method_20_code, 5, some .int)
abbrev mX11_leave : MI := (yX11_leave, prog_1_method_21_code, 1, some .int)
abbrev mX11_cheapest : MI := (yX11_cheapest, prog_1_method_22_code, 6, some .int)
abbrev mX11_isSegment : MI := (yX11_isSegment, prog_1_method_23_code, 2, some .boolean)
theorem ml_X11_isSegment : ML mX11_isSegment 1 := ⟨gt_ok (List.mem_of_getElem? (i := 589) (by decide +kernel)) (by decide +kernel), gt_ok (List.mem_of_getElem? (i := 91) (by decide +kernel)) (by decide +kernel), by decide +kernel, by decide +kernel, by decide +kernel⟩
theorem im_X11_isSegment : Cond.instanceMethod mX11_isSegment.1 ∈ gt := gt_ok (List.mem_of_getElem? (i := 588) (by decide +kernel)) (by decide +kernel)
theorem se_X11_isSegment : Cond.selects mX11_isSegment.1.cls mX11_isSegment.1 mX11_isSegment.1 ∈ gt := gt_ok (List.mem_of_getElem? (i := 10) (by decide +kernel)) (by decide +kernel)
theorem li_RX11_193 : Cond.methodLink RX11 193 mX11_isSegment.1 ∈ gt := gt_ok (List.mem_of_getElem? (i := 586) (by decide +kernel)) (by decide +kernel)
abbrev mX11_viewsWith : MI := (yX11_viewsWith, prog_1_method_24_code, 4, some .int)
theorem ml_X11_viewsWith : ML mX11_viewsWith 1 := ⟨gt_ok (List.mem_of_getElem? (i := 614) (by decide +kernel)) (by decide +kernel), gt_ok (List.mem_of_getElem? (i := 91) (by decide +kernel)) (by decide +kernel), by decide +kernel, by decide +kernel, by decide +kernel⟩
theorem im_X11_viewsWith : Cond.instanceMethod mX11_viewsWith.1 ∈ gt := gt_ok (List.mem_of_getElem? (i := 613) (by decide +kernel)) (by decide +kernel)
theorem se_X11_viewsWith : Cond.selects mX11_viewsWith.1.cls mX11_viewsWith.1 mX11_viewsWith.1 ∈ gt := gt_ok (List.mem_of_getElem? (i := 11) (by decide +kernel)) (by decide +kernel)
theorem li_RX11_215 : Cond.methodLink RX11 215 mX11_viewsWith.1 ∈ gt := gt_ok (List.mem_of_getElem? (i := 611) (by decide +kernel)) (by decide +kernel)
abbrev mX11_splitCost : MI := (yX11_splitCost, prog_1_method_25_code, 4, some .int)
theorem ml_X11_splitCost : ML mX11_splitCost 3 := ⟨gt_ok (List.mem_of_getElem? (i := 720) (by decide +kernel)) (by decide +kernel), gt_ok (List.mem_of_getElem? (i := 91) (by decide +kernel)) (by decide +kernel), by decide +kernel, by decide +kernel, by decide +kernel⟩
theorem im_X11_splitCost : Cond.instanceMethod mX11_splitCost.1 ∈ gt := gt_ok (List.mem_of_getElem? (i := 719) (by decide +kernel)) (by decide +kernel)
theorem se_X11_splitCost : Cond.selects mX11_splitCost.1.cls mX11_splitCost.1 mX11_splitCost.1 ∈ gt := gt_ok (List.mem_of_getElem? (i := 17) (by decide +kernel)) (by decide +kernel)
theorem li_RX11_277 : Cond.methodLink RX11 277 mX11_splitCost.1 ∈ gt := gt_ok (List.mem_of_getElem? (i := 717) (by decide +kernel)) (by decide +kernel)
abbrev mX11_leastSplit : MI := (yX11_leastSplit, prog_1_method_26_code, 5, some .int)
theorem ml_X11_leastSplit : ML mX11_leastSplit 2 := ⟨gt_ok (List.mem_of_getElem? (i := 716) (by decide +kernel)) (by decide +kernel), gt_ok (List.mem_of_getElem? (i := 91) (by decide +kernel)) (by decide +kernel), by decide +kernel, by decide +kernel, by decide +kernel⟩
theorem im_X11_leastSplit : Cond.instanceMethod mX11_leastSplit.1 ∈ gt := gt_ok (List.mem_of_getElem? (i := 715) (by decide +kernel)) (by decide +kernel)
theorem se_X11_leastSplit : Cond.selects mX11_leastSplit.1.cls mX11_leastSplit.1 mX11_leastSplit.1 ∈ gt := gt_ok (List.mem_of_getElem? (i := 16) (by decide +kernel)) (by decide +kernel)
theorem li_RX11_274 : Cond.methodLink RX11 274 mX11_leastSplit.1 ∈ gt := gt_ok (List.mem_of_getElem? (i := 713) (by decide +kernel)) (by decide +kernel)
abbrev mX11_write : MI := (yX11_write, prog_1_method_27_code, 1, some .int)
abbrev mX11_commit : MI := (yX11_commit, prog_1_method_28_code, 1, some .int)
abbrev mX11_crash : MI := (yX11_crash, prog_1_method_29_code, 2, some .int)
abbrev mX11_query : MI := (yX11_query, prog_1_method_30_code, 2, some .int)
abbrev mX11_open : MI := (yX11_open, prog_1_method_31_code, 2, some .int)
abbrev mX11_shut : MI := (yX11_shut, prog_1_method_32_code, 2, some .int)
abbrev mX11_found : MI := (yX11_found, prog_1_method_33_code, 4, some .int)
abbrev mX11_look : MI := (yX11_look, prog_1_method_34_code, 5, some .int)
abbrev mX11_both : MI := (yX11_both, prog_1_method_35_code, 6, some .int)
abbrev mX11_silence : MI := (yX11_silence, prog_1_method_36_code, 5, some .int)
abbrev mX11_tells : MI := (yX11_tells, prog_1_method_37_code, 5, some .int)
abbrev mX11_film : MI := (yX11_film, prog_1_method_38_code, 6, some .int)
abbrev mX11_count : MI := (yX11_count, prog_1_method_39_code, 2, some .int)
abbrev mX11_isQuery : MI := (yX11_isQuery, prog_1_method_40_code, 2, some .boolean)
theorem ml_X11_isQuery : ML mX11_isQuery 1 := ⟨gt_ok (List.mem_of_getElem? (i := 475) (by decide +kernel)) (by decide +kernel), gt_ok (List.mem_of_getElem? (i := 91) (by decide +kernel)) (by decide +kernel), by decide +kernel, by decide +kernel, by decide +kernel⟩
theorem im_X11_isQuery : Cond.instanceMethod mX11_isQuery.1 ∈ gt := gt_ok (List.mem_of_getElem? (i := 474) (by decide +kernel)) (by decide +kernel)
theorem se_X11_isQuery : Cond.selects mX11_isQuery.1.cls mX11_isQuery.1 mX11_isQuery.1 ∈ gt := gt_ok (List.mem_of_getElem? (i := 3) (by decide +kernel)) (by decide +kernel)
theorem li_RX11_146 : Cond.methodLink RX11 146 mX11_isQuery.1 ∈ gt := gt_ok (List.mem_of_getElem? (i := 472) (by decide +kernel)) (by decide +kernel)
abbrev mX11_isView : MI := (yX11_isView, prog_1_method_41_code, 1, some .boolean)
theorem ml_X11_isView : ML mX11_isView 1 := ⟨gt_ok (List.mem_of_getElem? (i := 804) (by decide +kernel)) (by decide +kernel), gt_ok (List.mem_of_getElem? (i := 91) (by decide +kernel)) (by decide +kernel), by decide +kernel, by decide +kernel, by decide +kernel⟩
theorem st_X11_isView : Cond.static mX11_isView.1 ∈ gt := gt_ok (List.mem_of_getElem? (i := 803) (by decide +kernel)) (by decide +kernel)
theorem li_RX11_292 : Cond.methodLink RX11 292 mX11_isView.1 ∈ gt := gt_ok (List.mem_of_getElem? (i := 802) (by decide +kernel)) (by decide +kernel)
abbrev mX11_isDear : MI := (yX11_isDear, prog_1_method_42_code, 2, some .boolean)
theorem ml_X11_isDear : ML mX11_isDear 1 := ⟨gt_ok (List.mem_of_getElem? (i := 859) (by decide +kernel)) (by decide +kernel), gt_ok (List.mem_of_getElem? (i := 91) (by decide +kernel)) (by decide +kernel), by decide +kernel, by decide +kernel, by decide +kernel⟩
theorem im_X11_isDear : Cond.instanceMethod mX11_isDear.1 ∈ gt := gt_ok (List.mem_of_getElem? (i := 858) (by decide +kernel)) (by decide +kernel)
theorem se_X11_isDear : Cond.selects mX11_isDear.1.cls mX11_isDear.1 mX11_isDear.1 ∈ gt := gt_ok (List.mem_of_getElem? (i := 32) (by decide +kernel)) (by decide +kernel)
theorem li_RX11_307 : Cond.methodLink RX11 307 mX11_isDear.1 ∈ gt := gt_ok (List.mem_of_getElem? (i := 856) (by decide +kernel)) (by decide +kernel)
abbrev mX11_answer : MI := (yX11_answer, prog_1_method_43_code, 4, some .int)
theorem ml_X11_answer : ML mX11_answer 3 := ⟨gt_ok (List.mem_of_getElem? (i := 827) (by decide +kernel)) (by decide +kernel), gt_ok (List.mem_of_getElem? (i := 91) (by decide +kernel)) (by decide +kernel), by decide +kernel, by decide +kernel, by decide +kernel⟩
theorem im_X11_answer : Cond.instanceMethod mX11_answer.1 ∈ gt := gt_ok (List.mem_of_getElem? (i := 826) (by decide +kernel)) (by decide +kernel)
theorem se_X11_answer : Cond.selects mX11_answer.1.cls mX11_answer.1 mX11_answer.1 ∈ gt := gt_ok (List.mem_of_getElem? (i := 29) (by decide +kernel)) (by decide +kernel)
theorem li_RX11_301 : Cond.methodLink RX11 301 mX11_answer.1 ∈ gt := gt_ok (List.mem_of_getElem? (i := 824) (by decide +kernel)) (by decide +kernel)
abbrev mX11_foundByOther : MI := (yX11_foundByOther, prog_1_method_44_code, 5, some .int)
theorem ml_X11_foundByOther : ML mX11_foundByOther 2 := ⟨gt_ok (List.mem_of_getElem? (i := 872) (by decide +kernel)) (by decide +kernel), gt_ok (List.mem_of_getElem? (i := 91) (by decide +kernel)) (by decide +kernel), by decide +kernel, by decide +kernel, by decide +kernel⟩
theorem im_X11_foundByOther : Cond.instanceMethod mX11_foundByOther.1 ∈ gt := gt_ok (List.mem_of_getElem? (i := 871) (by decide +kernel)) (by decide +kernel)
theorem se_X11_foundByOther : Cond.selects mX11_foundByOther.1.cls mX11_foundByOther.1 mX11_foundByOther.1 ∈ gt := gt_ok (List.mem_of_getElem? (i := 33) (by decide +kernel)) (by decide +kernel)
theorem li_RX11_313 : Cond.methodLink RX11 313 mX11_foundByOther.1 ∈ gt := gt_ok (List.mem_of_getElem? (i := 869) (by decide +kernel)) (by decide +kernel)
abbrev mX11_firstOtherwise : MI := (yX11_firstOtherwise, prog_1_method_45_code, 4, some .int)
theorem ml_X11_firstOtherwise : ML mX11_firstOtherwise 3 := ⟨gt_ok (List.mem_of_getElem? (i := 896) (by decide +kernel)) (by decide +kernel), gt_ok (List.mem_of_getElem? (i := 91) (by decide +kernel)) (by decide +kernel), by decide +kernel, by decide +kernel, by decide +kernel⟩
theorem im_X11_firstOtherwise : Cond.instanceMethod mX11_firstOtherwise.1 ∈ gt := gt_ok (List.mem_of_getElem? (i := 895) (by decide +kernel)) (by decide +kernel)
theorem se_X11_firstOtherwise : Cond.selects mX11_firstOtherwise.1.cls mX11_firstOtherwise.1 mX11_firstOtherwise.1 ∈ gt := gt_ok (List.mem_of_getElem? (i := 34) (by decide +kernel)) (by decide +kernel)
theorem li_RX11_329 : Cond.methodLink RX11 329 mX11_firstOtherwise.1 ∈ gt := gt_ok (List.mem_of_getElem? (i := 893) (by decide +kernel)) (by decide +kernel)
abbrev mX11_queriesToldBy : MI := (yX11_queriesToldBy, prog_1_method_46_code, 5, some .int)
theorem ml_X11_queriesToldBy : ML mX11_queriesToldBy 2 := ⟨gt_ok (List.mem_of_getElem? (i := 905) (by decide +kernel)) (by decide +kernel), gt_ok (List.mem_of_getElem? (i := 91) (by decide +kernel)) (by decide +kernel), by decide +kernel, by decide +kernel, by decide +kernel⟩
theorem im_X11_queriesToldBy : Cond.instanceMethod mX11_queriesToldBy.1 ∈ gt := gt_ok (List.mem_of_getElem? (i := 904) (by decide +kernel)) (by decide +kernel)
theorem se_X11_queriesToldBy : Cond.selects mX11_queriesToldBy.1.cls mX11_queriesToldBy.1 mX11_queriesToldBy.1 ∈ gt := gt_ok (List.mem_of_getElem? (i := 35) (by decide +kernel)) (by decide +kernel)
theorem li_RX11_332 : Cond.methodLink RX11 332 mX11_queriesToldBy.1 ∈ gt := gt_ok (List.mem_of_getElem? (i := 902) (by decide +kernel)) (by decide +kernel)
abbrev mX11_viewsToldBy : MI := (yX11_viewsToldBy, prog_1_method_47_code, 5, some .int)
theorem ml_X11_viewsToldBy : ML mX11_viewsToldBy 2 := ⟨gt_ok (List.mem_of_getElem? (i := 909) (by decide +kernel)) (by decide +kernel), gt_ok (List.mem_of_getElem? (i := 91) (by decide +kernel)) (by decide +kernel), by decide +kernel, by decide +kernel, by decide +kernel⟩
theorem im_X11_viewsToldBy : Cond.instanceMethod mX11_viewsToldBy.1 ∈ gt := gt_ok (List.mem_of_getElem? (i := 908) (by decide +kernel)) (by decide +kernel)
theorem se_X11_viewsToldBy : Cond.selects mX11_viewsToldBy.1.cls mX11_viewsToldBy.1 mX11_viewsToldBy.1 ∈ gt := gt_ok (List.mem_of_getElem? (i := 36) (by decide +kernel)) (by decide +kernel)
theorem li_RX11_335 : Cond.methodLink RX11 335 mX11_viewsToldBy.1 ∈ gt := gt_ok (List.mem_of_getElem? (i := 906) (by decide +kernel)) (by decide +kernel)
abbrev mX11_openViews : MI := (yX11_openViews, prog_1_method_48_code, 3, some .int)
theorem ml_X11_openViews : ML mX11_openViews 0 := ⟨gt_ok (List.mem_of_getElem? (i := 934) (by decide +kernel)) (by decide +kernel), gt_ok (List.mem_of_getElem? (i := 91) (by decide +kernel)) (by decide +kernel), by decide +kernel, by decide +kernel, by decide +kernel⟩
theorem im_X11_openViews : Cond.instanceMethod mX11_openViews.1 ∈ gt := gt_ok (List.mem_of_getElem? (i := 933) (by decide +kernel)) (by decide +kernel)
theorem se_X11_openViews : Cond.selects mX11_openViews.1.cls mX11_openViews.1 mX11_openViews.1 ∈ gt := gt_ok (List.mem_of_getElem? (i := 37) (by decide +kernel)) (by decide +kernel)
theorem li_RX11_351 : Cond.methodLink RX11 351 mX11_openViews.1 ∈ gt := gt_ok (List.mem_of_getElem? (i := 931) (by decide +kernel)) (by decide +kernel)
abbrev mX11_heldSegments : MI := (yX11_heldSegments, prog_1_method_49_code, 5, some .int)
theorem ml_X11_heldSegments : ML mX11_heldSegments 0 := ⟨gt_ok (List.mem_of_getElem? (i := 812) (by decide +kernel)) (by decide +kernel), gt_ok (List.mem_of_getElem? (i := 91) (by decide +kernel)) (by decide +kernel), by decide +kernel, by decide +kernel, by decide +kernel⟩
theorem im_X11_heldSegments : Cond.instanceMethod mX11_heldSegments.1 ∈ gt := gt_ok (List.mem_of_getElem? (i := 811) (by decide +kernel)) (by decide +kernel)
theorem se_X11_heldSegments : Cond.selects mX11_heldSegments.1.cls mX11_heldSegments.1 mX11_heldSegments.1 ∈ gt := gt_ok (List.mem_of_getElem? (i := 27) (by decide +kernel)) (by decide +kernel)
theorem li_RX11_295 : Cond.methodLink RX11 295 mX11_heldSegments.1 ∈ gt := gt_ok (List.mem_of_getElem? (i := 809) (by decide +kernel)) (by decide +kernel)
abbrev mX11_isHeldBefore : MI := (yX11_isHeldBefore, prog_1_method_50_code, 4, some .boolean)
theorem ml_X11_isHeldBefore : ML mX11_isHeldBefore 2 := ⟨gt_ok (List.mem_of_getElem? (i := 816) (by decide +kernel)) (by decide +kernel), gt_ok (List.mem_of_getElem? (i := 91) (by decide +kernel)) (by decide +kernel), by decide +kernel, by decide +kernel, by decide +kernel⟩
theorem im_X11_isHeldBefore : Cond.instanceMethod mX11_isHeldBefore.1 ∈ gt := gt_ok (List.mem_of_getElem? (i := 815) (by decide +kernel)) (by decide +kernel)
theorem se_X11_isHeldBefore : Cond.selects mX11_isHeldBefore.1.cls mX11_isHeldBefore.1 mX11_isHeldBefore.1 ∈ gt := gt_ok (List.mem_of_getElem? (i := 28) (by decide +kernel)) (by decide +kernel)
theorem li_RX11_372 : Cond.methodLink RX11 372 mX11_isHeldBefore.1 ∈ gt := gt_ok (List.mem_of_getElem? (i := 813) (by decide +kernel)) (by decide +kernel)
abbrev mX11_sheet : MI := (yX11_sheet, prog_1_method_51_code, 4, some .int)
abbrev mX11_cell : MI := (yX11_cell, prog_1_method_52_code, 4, some .int)
abbrev mX11_copy : MI := (yX11_copy, prog_1_method_53_code, 8, some .int)
abbrev mX11_isSheet : MI := (yX11_isSheet, prog_1_method_54_code, 1, some .boolean)
theorem ml_X11_isSheet : ML mX11_isSheet 1 := ⟨gt_ok (List.mem_of_getElem? (i := 888) (by decide +kernel)) (by decide +kernel), gt_ok (List.mem_of_getElem? (i := 91) (by decide +kernel)) (by decide +kernel), by decide +kernel, by decide +kernel, by decide +kernel⟩
theorem st_X11_isSheet : Cond.static mX11_isSheet.1 ∈ gt := gt_ok (List.mem_of_getElem? (i := 887) (by decide +kernel)) (by decide +kernel)
theorem li_RX11_322 : Cond.methodLink RX11 322 mX11_isSheet.1 ∈ gt := gt_ok (List.mem_of_getElem? (i := 886) (by decide +kernel)) (by decide +kernel)
abbrev mX12_init : MI := (yX12_init, prog_14_method_1_code, 1, none)
abbrev mX12_in : MI := (yX12_in, prog_14_method_2_code, 3, some .boolean)
theorem ml_X12_in : ML mX12_in 3 := ⟨gt_ok (List.mem_of_getElem? (i := 1133) (by decide +kernel)) (by decide +kernel), gt_ok (List.mem_of_getElem? (i := 101) (by decide +kernel)) (by decide +kernel), by decide +kernel, by decide +kernel, by decide +kernel⟩
theorem st_X12_in : Cond.static mX12_in.1 ∈ gt := gt_ok (List.mem_of_getElem? (i := 1132) (by decide +kernel)) (by decide +kernel)
theorem li_RX12_109 : Cond.methodLink RX12 109 mX12_in.1 ∈ gt := gt_ok (List.mem_of_getElem? (i := 1131) (by decide +kernel)) (by decide +kernel)
abbrev mX12_isSegment : MI := (yX12_isSegment, prog_14_method_3_code, 2, some .boolean)
theorem ml_X12_isSegment : ML mX12_isSegment 1 := ⟨gt_ok (List.mem_of_getElem? (i := 1203) (by decide +kernel)) (by decide +kernel), gt_ok (List.mem_of_getElem? (i := 101) (by decide +kernel)) (by decide +kernel), by decide +kernel, by decide +kernel, by decide +kernel⟩
theorem im_X12_isSegment : Cond.instanceMethod mX12_isSegment.1 ∈ gt := gt_ok (List.mem_of_getElem? (i := 1202) (by decide +kernel)) (by decide +kernel)
theorem se_X12_isSegment : Cond.selects mX12_isSegment.1.cls mX12_isSegment.1 mX12_isSegment.1 ∈ gt := gt_ok (List.mem_of_getElem? (i := 46) (by decide +kernel)) (by decide +kernel)
theorem li_RX12_191 : Cond.methodLink RX12 191 mX12_isSegment.1 ∈ gt := gt_ok (List.mem_of_getElem? (i := 1200) (by decide +kernel)) (by decide +kernel)
abbrev mX12_isKey : MI := (yX12_isKey, prog_14_method_4_code, 1, some .boolean)
theorem ml_X12_isKey : ML mX12_isKey 1 := ⟨gt_ok (List.mem_of_getElem? (i := 1143) (by decide +kernel)) (by decide +kernel), gt_ok (List.mem_of_getElem? (i := 101) (by decide +kernel)) (by decide +kernel), by decide +kernel, by decide +kernel, by decide +kernel⟩
theorem st_X12_isKey : Cond.static mX12_isKey.1 ∈ gt := gt_ok (List.mem_of_getElem? (i := 1142) (by decide +kernel)) (by decide +kernel)
theorem li_RX12_143 : Cond.methodLink RX12 143 mX12_isKey.1 ∈ gt := gt_ok (List.mem_of_getElem? (i := 1141) (by decide +kernel)) (by decide +kernel)
abbrev mX12_isView : MI := (yX12_isView, prog_14_method_5_code, 1, some .boolean)
theorem ml_X12_isView : ML mX12_isView 1 := ⟨gt_ok (List.mem_of_getElem? (i := 1326) (by decide +kernel)) (by decide +kernel), gt_ok (List.mem_of_getElem? (i := 101) (by decide +kernel)) (by decide +kernel), by decide +kernel, by decide +kernel, by decide +kernel⟩
theorem st_X12_isView : Cond.static mX12_isView.1 ∈ gt := gt_ok (List.mem_of_getElem? (i := 1325) (by decide +kernel)) (by decide +kernel)
theorem li_RX12_263 : Cond.methodLink RX12 263 mX12_isView.1 ∈ gt := gt_ok (List.mem_of_getElem? (i := 1324) (by decide +kernel)) (by decide +kernel)
abbrev mX12_isQuery : MI := (yX12_isQuery, prog_14_method_6_code, 2, some .boolean)
theorem ml_X12_isQuery : ML mX12_isQuery 1 := ⟨gt_ok (List.mem_of_getElem? (i := 1441) (by decide +kernel)) (by decide +kernel), gt_ok (List.mem_of_getElem? (i := 101) (by decide +kernel)) (by decide +kernel), by decide +kernel, by decide +kernel, by decide +kernel⟩
theorem im_X12_isQuery : Cond.instanceMethod mX12_isQuery.1 ∈ gt := gt_ok (List.mem_of_getElem? (i := 1440) (by decide +kernel)) (by decide +kernel)
theorem se_X12_isQuery : Cond.selects mX12_isQuery.1.cls mX12_isQuery.1 mX12_isQuery.1 ∈ gt := gt_ok (List.mem_of_getElem? (i := 74) (by decide +kernel)) (by decide +kernel)
theorem li_RX12_385 : Cond.methodLink RX12 385 mX12_isQuery.1 ∈ gt := gt_ok (List.mem_of_getElem? (i := 1438) (by decide +kernel)) (by decide +kernel)
abbrev mX12_isByte : MI := (yX12_isByte, prog_14_method_7_code, 1, some .boolean)
theorem ml_X12_isByte : ML mX12_isByte 1 := ⟨gt_ok (List.mem_of_getElem? (i := 1136) (by decide +kernel)) (by decide +kernel), gt_ok (List.mem_of_getElem? (i := 101) (by decide +kernel)) (by decide +kernel), by decide +kernel, by decide +kernel, by decide +kernel⟩
theorem st_X12_isByte : Cond.static mX12_isByte.1 ∈ gt := gt_ok (List.mem_of_getElem? (i := 1135) (by decide +kernel)) (by decide +kernel)
theorem li_RX12_116 : Cond.methodLink RX12 116 mX12_isByte.1 ∈ gt := gt_ok (List.mem_of_getElem? (i := 1134) (by decide +kernel)) (by decide +kernel)
abbrev mX12_feed : MI := (yX12_feed, prog_14_method_8_code, 8, some .int)
abbrev mX12_byteAt : MI := (yX12_byteAt, prog_14_method_9_code, 2, some .int)
theorem ml_X12_byteAt : ML mX12_byteAt 1 := ⟨gt_ok (List.mem_of_getElem? (i := 1166) (by decide +kernel)) (by decide +kernel), gt_ok (List.mem_of_getElem? (i := 101) (by decide +kernel)) (by decide +kernel), by decide +kernel, by decide +kernel, by decide +kernel⟩
theorem im_X12_byteAt : Cond.instanceMethod mX12_byteAt.1 ∈ gt := gt_ok (List.mem_of_getElem? (i := 1165) (by decide +kernel)) (by decide +kernel)
theorem se_X12_byteAt : Cond.selects mX12_byteAt.1.cls mX12_byteAt.1 mX12_byteAt.1 ∈ gt := gt_ok (List.mem_of_getElem? (i := 41) (by decide +kernel)) (by decide +kernel)
theorem li_RX12_129 : Cond.methodLink RX12 129 mX12_byteAt.1 ∈ gt := gt_ok (List.mem_of_getElem? (i := 1163) (by decide +kernel)) (by decide +kernel)
abbrev mX12_isLetter : MI := (yX12_isLetter, prog_14_method_10_code, 1, some .boolean)
theorem ml_X12_isLetter : ML mX12_isLetter 1 := ⟨gt_ok (List.mem_of_getElem? (i := 1169) (by decide +kernel)) (by decide +kernel), gt_ok (List.mem_of_getElem? (i := 101) (by decide +kernel)) (by decide +kernel), by decide +kernel, by decide +kernel, by decide +kernel⟩
theorem st_X12_isLetter : Cond.static mX12_isLetter.1 ∈ gt := gt_ok (List.mem_of_getElem? (i := 1168) (by decide +kernel)) (by decide +kernel)
theorem li_RX12_133 : Cond.methodLink RX12 133 mX12_isLetter.1 ∈ gt := gt_ok (List.mem_of_getElem? (i := 1167) (by decide +kernel)) (by decide +kernel)
abbrev mX12_isBlank : MI := (yX12_isBlank, prog_14_method_11_code, 1, some .boolean)
theorem ml_X12_isBlank : ML mX12_isBlank 1 := ⟨gt_ok (List.mem_of_getElem? (i := 1162) (by decide +kernel)) (by decide +kernel), gt_ok (List.mem_of_getElem? (i := 101) (by decide +kernel)) (by decide +kernel), by decide +kernel, by decide +kernel, by decide +kernel⟩
theorem st_X12_isBlank : Cond.static mX12_isBlank.1 ∈ gt := gt_ok (List.mem_of_getElem? (i := 1161) (by decide +kernel)) (by decide +kernel)
theorem li_RX12_126 : Cond.methodLink RX12 126 mX12_isBlank.1 ∈ gt := gt_ok (List.mem_of_getElem? (i := 1160) (by decide +kernel)) (by decide +kernel)
abbrev mX12_wordFrom : MI := (yX12_wordFrom, prog_14_method_12_code, 5, some .int)
theorem ml_X12_wordFrom : ML mX12_wordFrom 2 := ⟨gt_ok (List.mem_of_getElem? (i := 1173) (by decide +kernel)) (by decide +kernel), gt_ok (List.mem_of_getElem? (i := 101) (by decide +kernel)) (by decide +kernel), by decide +kernel, by decide +kernel, by decide +kernel⟩
theorem im_X12_wordFrom : Cond.instanceMethod mX12_wordFrom.1 ∈ gt := gt_ok (List.mem_of_getElem? (i := 1172) (by decide +kernel)) (by decide +kernel)
theorem se_X12_wordFrom : Cond.selects mX12_wordFrom.1.cls mX12_wordFrom.1 mX12_wordFrom.1 ∈ gt := gt_ok (List.mem_of_getElem? (i := 42) (by decide +kernel)) (by decide +kernel)
theorem li_RX12_136 : Cond.methodLink RX12 136 mX12_wordFrom.1 ∈ gt := gt_ok (List.mem_of_getElem? (i := 1170) (by decide +kernel)) (by decide +kernel)
abbrev mX12_document : MI := (yX12_document, prog_14_method_13_code, 3, some .int)
theorem ml_X12_document : ML mX12_document 0 := ⟨gt_ok (List.mem_of_getElem? (i := 1159) (by decide +kernel)) (by decide +kernel), gt_ok (List.mem_of_getElem? (i := 101) (by decide +kernel)) (by decide +kernel), by decide +kernel, by decide +kernel, by decide +kernel⟩
theorem im_X12_document : Cond.instanceMethod mX12_document.1 ∈ gt := gt_ok (List.mem_of_getElem? (i := 1158) (by decide +kernel)) (by decide +kernel)
theorem se_X12_document : Cond.selects mX12_document.1.cls mX12_document.1 mX12_document.1 ∈ gt := gt_ok (List.mem_of_getElem? (i := 40) (by decide +kernel)) (by decide +kernel)
theorem li_RX12_152 : Cond.methodLink RX12 152 mX12_document.1 ∈ gt := gt_ok (List.mem_of_getElem? (i := 1156) (by decide +kernel)) (by decide +kernel)
abbrev mX12_bufferPlace : MI := (yX12_bufferPlace, prog_14_method_14_code, 3, some .int)
theorem ml_X12_bufferPlace : ML mX12_bufferPlace 1 := ⟨gt_ok (List.mem_of_getElem? (i := 1147) (by decide +kernel)) (by decide +kernel), gt_ok (List.mem_of_getElem? (i := 101) (by decide +kernel)) (by decide +kernel), by decide +kernel, by decide +kernel, by decide +kernel⟩
theorem im_X12_bufferPlace : Cond.instanceMethod mX12_bufferPlace.1 ∈ gt := gt_ok (List.mem_of_getElem? (i := 1146) (by decide +kernel)) (by decide +kernel)
theorem se_X12_bufferPlace : Cond.selects mX12_bufferPlace.1.cls mX12_bufferPlace.1 mX12_bufferPlace.1 ∈ gt := gt_ok (List.mem_of_getElem? (i := 38) (by decide +kernel)) (by decide +kernel)
theorem li_RX12_146 : Cond.methodLink RX12 146 mX12_bufferPlace.1 ∈ gt := gt_ok (List.mem_of_getElem? (i := 1144) (by decide +kernel)) (by decide +kernel)
abbrev mX12_segmentPlace : MI := (yX12_segmentPlace, prog_14_method_15_code, 5, some .int)
theorem ml_X12_segmentPlace : ML mX12_segmentPlace 1 := ⟨gt_ok (List.mem_of_getElem? (i := 1151) (by decide +kernel)) (by decide +kernel), gt_ok (List.mem_of_getElem? (i := 101) (by decide +kernel)) (by decide +kernel), by decide +kernel, by decide +kernel, by decide +kernel⟩
theorem im_X12_segmentPlace : Cond.instanceMethod mX12_segmentPlace.1 ∈ gt := gt_ok (List.mem_of_getElem? (i := 1150) (by decide +kernel)) (by decide +kernel)
theorem se_X12_segmentPlace : Cond.selects mX12_segmentPlace.1.cls mX12_segmentPlace.1 mX12_segmentPlace.1 ∈ gt := gt_ok (List.mem_of_getElem? (i := 39) (by decide +kernel)) (by decide +kernel)
theorem li_RX12_149 : Cond.methodLink RX12 149 mX12_segmentPlace.1 ∈ gt := gt_ok (List.mem_of_getElem? (i := 1148) (by decide +kernel)) (by decide +kernel)
abbrev mX12_drop : MI := (yX12_drop, prog_14_method_16_code, 4, some .int)
theorem ml_X12_drop : ML mX12_drop 1 := ⟨gt_ok (List.mem_of_getElem? (i := 1140) (by decide +kernel)) (by decide +kernel), gt_ok (List.mem_of_getElem? (i := 101) (by decide +kernel)) (by decide +kernel), by decide +kernel, by decide +kernel, by decide +kernel⟩
theorem im_X12_drop : Cond.instanceMethod mX12_drop.1 ∈ gt := gt_ok (List.mem_of_getElem? (i := 1138) (by decide +kernel)) (by decide +kernel)
theorem se_X12_drop : Cond.selects mX12_drop.1.cls mX12_drop.1 mX12_drop.1 ∈ gt := gt_ok (List.mem_of_getElem? (i := 1139) (by decide +kernel)) (by decide +kernel)
theorem li_RX12_156 : Cond.methodLink RX12 156 mX12_drop.1 ∈ gt := gt_ok (List.mem_of_getElem? (i := 1174) (by decide +kernel)) (by decide +kernel)
abbrev mX12_add : MI := (yX12_add, prog_14_method_17_code, 3, some .int)
abbrev mX12_where : MI := (yX12_where, prog_14_method_18_code, 3, some .int)
abbrev mX12_held : MI := (yX12_held, prog_14_method_19_code, 3, some .int)
theorem ml_X12_held : ML mX12_held 0 := ⟨gt_ok (List.mem_of_getElem? (i := 1187) (by decide +kernel)) (by decide +kernel), gt_ok (List.mem_of_getElem? (i := 101) (by decide +kernel)) (by decide +kernel), by decide +kernel, by decide +kernel, by decide +kernel⟩
theorem im_X12_held : Cond.instanceMethod mX12_held.1 ∈ gt := gt_ok (List.mem_of_getElem? (i := 1186) (by decide +kernel)) (by decide +kernel)
theorem se_X12_held : Cond.selects mX12_held.1.cls mX12_held.1 mX12_held.1 ∈ gt := gt_ok (List.mem_of_getElem? (i := 43) (by decide +kernel)) (by decide +kernel)
theorem li_RX12_171 : Cond.methodLink RX12 171 mX12_held.1 ∈ gt := gt_ok (List.mem_of_getElem? (i := 1184) (by decide +kernel)) (by decide +kernel)
abbrev mX12_newSegment : MI := (yX12_newSegment, prog_14_method_20_code, 1, some .int)
theorem ml_X12_newSegment : ML mX12_newSegment 0 := ⟨gt_ok (List.mem_of_getElem? (i := 1191) (by decide +kernel)) (by decide +kernel), gt_ok (List.mem_of_getElem? (i := 101) (by decide +kernel)) (by decide +kernel), by decide +kernel, by decide +kernel, by decide +kernel⟩
theorem im_X12_newSegment : Cond.instanceMethod mX12_newSegment.1 ∈ gt := gt_ok (List.mem_of_getElem? (i := 1190) (by decide +kernel)) (by decide +kernel)
theorem se_X12_newSegment : Cond.selects mX12_newSegment.1.cls mX12_newSegment.1 mX12_newSegment.1 ∈ gt := gt_ok (List.mem_of_getElem? (i := 44) (by decide +kernel)) (by decide +kernel)
theorem li_RX12_174 : Cond.methodLink RX12 174 mX12_newSegment.1 ∈ gt := gt_ok (List.mem_of_getElem? (i := 1188) (by decide +kernel)) (by decide +kernel)
abbrev mX12_joins : MI := (yX12_joins, prog_14_method_21_code, 3, none)
theorem ml_X12_joins : ML mX12_joins 2 := ⟨gt_ok (List.mem_of_getElem? (i := 1195) (by decide +kernel)) (by decide +kernel), gt_ok (List.mem_of_getElem? (i := 101) (by decide +kernel)) (by decide +kernel), by decide +kernel, by decide +kernel, by decide +kernel⟩
theorem im_X12_joins : Cond.instanceMethod mX12_joins.1 ∈ gt := gt_ok (List.mem_of_getElem? (i := 1194) (by decide +kernel)) (by decide +kernel)
theorem se_X12_joins : Cond.selects mX12_joins.1.cls mX12_joins.1 mX12_joins.1 ∈ gt := gt_ok (List.mem_of_getElem? (i := 45) (by decide +kernel)) (by decide +kernel)
theorem li_RX12_177 : Cond.methodLink RX12 177 mX12_joins.1 ∈ gt := gt_ok (List.mem_of_getElem? (i := 1192) (by decide +kernel)) (by decide +kernel)
abbrev mX12_flush : MI := (yX12_flush, prog_14_method_22_code, 3, some .int)
abbrev mX12_liveOf : MI := (yX12_liveOf, prog_14_method_23_code, 4, some .int)
theorem ml_X12_liveOf : ML mX12_liveOf 1 := ⟨gt_ok (List.mem_of_getElem? (i := 1254) (by decide +kernel)) (by decide +kernel), gt_ok (List.mem_of_getElem? (i := 101) (by decide +kernel)) (by decide +kernel), by decide +kernel, by decide +kernel, by decide +kernel⟩
theorem im_X12_liveOf : Cond.instanceMethod mX12_liveOf.1 ∈ gt := gt_ok (List.mem_of_getElem? (i := 1253) (by decide +kernel)) (by decide +kernel)
theorem se_X12_liveOf : Cond.selects mX12_liveOf.1.cls mX12_liveOf.1 mX12_liveOf.1 ∈ gt := gt_ok (List.mem_of_getElem? (i := 55) (by decide +kernel)) (by decide +kernel)
theorem li_RX12_200 : Cond.methodLink RX12 200 mX12_liveOf.1 ∈ gt := gt_ok (List.mem_of_getElem? (i := 1251) (by decide +kernel)) (by decide +kernel)
abbrev mX12_hasWord : MI := (yX12_hasWord, prog_14_method_24_code, 4, some .boolean)
theorem ml_X12_hasWord : ML mX12_hasWord 2 := ⟨gt_ok (List.mem_of_getElem? (i := 1218) (by decide +kernel)) (by decide +kernel), gt_ok (List.mem_of_getElem? (i := 101) (by decide +kernel)) (by decide +kernel), by decide +kernel, by decide +kernel, by decide +kernel⟩
theorem im_X12_hasWord : Cond.instanceMethod mX12_hasWord.1 ∈ gt := gt_ok (List.mem_of_getElem? (i := 1217) (by decide +kernel)) (by decide +kernel)
theorem se_X12_hasWord : Cond.selects mX12_hasWord.1.cls mX12_hasWord.1 mX12_hasWord.1 ∈ gt := gt_ok (List.mem_of_getElem? (i := 49) (by decide +kernel)) (by decide +kernel)
theorem li_RX12_181 : Cond.methodLink RX12 181 mX12_hasWord.1 ∈ gt := gt_ok (List.mem_of_getElem? (i := 1215) (by decide +kernel)) (by decide +kernel)
abbrev mX12_postings : MI := (yX12_postings, prog_14_method_25_code, 5, some .int)
theorem ml_X12_postings : ML mX12_postings 2 := ⟨gt_ok (List.mem_of_getElem? (i := 1214) (by decide +kernel)) (by decide +kernel), gt_ok (List.mem_of_getElem? (i := 101) (by decide +kernel)) (by decide +kernel), by decide +kernel, by decide +kernel, by decide +kernel⟩
theorem im_X12_postings : Cond.instanceMethod mX12_postings.1 ∈ gt := gt_ok (List.mem_of_getElem? (i := 1213) (by decide +kernel)) (by decide +kernel)
theorem se_X12_postings : Cond.selects mX12_postings.1.cls mX12_postings.1 mX12_postings.1 ∈ gt := gt_ok (List.mem_of_getElem? (i := 48) (by decide +kernel)) (by decide +kernel)
theorem li_RX12_188 : Cond.methodLink RX12 188 mX12_postings.1 ∈ gt := gt_ok (List.mem_of_getElem? (i := 1211) (by decide +kernel)) (by decide +kernel)
abbrev mX12_wordAbove : MI := (yX12_wordAbove, prog_14_method_26_code, 7, some .int)
theorem ml_X12_wordAbove : ML mX12_wordAbove 2 := ⟨gt_ok (List.mem_of_getElem? (i := 1207) (by decide +kernel)) (by decide +kernel), gt_ok (List.mem_of_getElem? (i := 101) (by decide +kernel)) (by decide +kernel), by decide +kernel, by decide +kernel, by decide +kernel⟩
theorem im_X12_wordAbove : Cond.instanceMethod mX12_wordAbove.1 ∈ gt := gt_ok (List.mem_of_getElem? (i := 1206) (by decide +kernel)) (by decide +kernel)
theorem se_X12_wordAbove : Cond.selects mX12_wordAbove.1.cls mX12_wordAbove.1 mX12_wordAbove.1 ∈ gt := gt_ok (List.mem_of_getElem? (i := 47) (by decide +kernel)) (by decide +kernel)
theorem li_RX12_185 : Cond.methodLink RX12 185 mX12_wordAbove.1 ∈ gt := gt_ok (List.mem_of_getElem? (i := 1204) (by decide +kernel)) (by decide +kernel)
abbrev mX12_dictionary : MI := (yX12_dictionary, prog_14_method_27_code, 5, some .int)
theorem ml_X12_dictionary : ML mX12_dictionary 2 := ⟨gt_ok (List.mem_of_getElem? (i := 1307) (by decide +kernel)) (by decide +kernel), gt_ok (List.mem_of_getElem? (i := 101) (by decide +kernel)) (by decide +kernel), by decide +kernel, by decide +kernel, by decide +kernel⟩
theorem im_X12_dictionary : Cond.instanceMethod mX12_dictionary.1 ∈ gt := gt_ok (List.mem_of_getElem? (i := 1306) (by decide +kernel)) (by decide +kernel)
theorem se_X12_dictionary : Cond.selects mX12_dictionary.1.cls mX12_dictionary.1 mX12_dictionary.1 ∈ gt := gt_ok (List.mem_of_getElem? (i := 60) (by decide +kernel)) (by decide +kernel)
theorem li_RX12_256 : Cond.methodLink RX12 256 mX12_dictionary.1 ∈ gt := gt_ok (List.mem_of_getElem? (i := 1304) (by decide +kernel)) (by decide +kernel)
abbrev mX12_plainWord : MI := (yX12_plainWord, prog_14_method_28_code, 2, some .int)
theorem ml_X12_plainWord : ML mX12_plainWord 1 := ⟨gt_ok (List.mem_of_getElem? (i := 1210) (by decide +kernel)) (by decide +kernel), gt_ok (List.mem_of_getElem? (i := 101) (by decide +kernel)) (by decide +kernel), by decide +kernel, by decide +kernel, by decide +kernel⟩
theorem st_X12_plainWord : Cond.static mX12_plainWord.1 ∈ gt := gt_ok (List.mem_of_getElem? (i := 1209) (by decide +kernel)) (by decide +kernel)
theorem li_RX12_194 : Cond.methodLink RX12 194 mX12_plainWord.1 ∈ gt := gt_ok (List.mem_of_getElem? (i := 1208) (by decide +kernel)) (by decide +kernel)
abbrev mX12_word : MI := (yX12_word, prog_14_method_29_code, 8, some .int)
abbrev mX12_size : MI := (yX12_size, prog_14_method_30_code, 3, some .int)
theorem ml_X12_size : ML mX12_size 1 := ⟨gt_ok (List.mem_of_getElem? (i := 1250) (by decide +kernel)) (by decide +kernel), gt_ok (List.mem_of_getElem? (i := 101) (by decide +kernel)) (by decide +kernel), by decide +kernel, by decide +kernel, by decide +kernel⟩
theorem im_X12_size : Cond.instanceMethod mX12_size.1 ∈ gt := gt_ok (List.mem_of_getElem? (i := 1249) (by decide +kernel)) (by decide +kernel)
theorem se_X12_size : Cond.selects mX12_size.1.cls mX12_size.1 mX12_size.1 ∈ gt := gt_ok (List.mem_of_getElem? (i := 54) (by decide +kernel)) (by decide +kernel)
theorem li_RX12_211 : Cond.methodLink RX12 211 mX12_size.1 ∈ gt := gt_ok (List.mem_of_getElem? (i := 1247) (by decide +kernel)) (by decide +kernel)
abbrev mX12_tier : MI := (yX12_tier, prog_14_method_31_code, 3, some .int)
theorem ml_X12_tier : ML mX12_tier 1 := ⟨gt_ok (List.mem_of_getElem? (i := 1246) (by decide +kernel)) (by decide +kernel), gt_ok (List.mem_of_getElem? (i := 101) (by decide +kernel)) (by decide +kernel), by decide +kernel, by decide +kernel, by decide +kernel⟩
theorem im_X12_tier : Cond.instanceMethod mX12_tier.1 ∈ gt := gt_ok (List.mem_of_getElem? (i := 1245) (by decide +kernel)) (by decide +kernel)
theorem se_X12_tier : Cond.selects mX12_tier.1.cls mX12_tier.1 mX12_tier.1 ∈ gt := gt_ok (List.mem_of_getElem? (i := 53) (by decide +kernel)) (by decide +kernel)
theorem li_RX12_214 : Cond.methodLink RX12 214 mX12_tier.1 ∈ gt := gt_ok (List.mem_of_getElem? (i := 1243) (by decide +kernel)) (by decide +kernel)
abbrev mX12_width : MI := (yX12_width, prog_14_method_32_code, 1, some .int)
theorem ml_X12_width : ML mX12_width 0 := ⟨gt_ok (List.mem_of_getElem? (i := 1238) (by decide +kernel)) (by decide +kernel), gt_ok (List.mem_of_getElem? (i := 101) (by decide +kernel)) (by decide +kernel), by decide +kernel, by decide +kernel, by decide +kernel⟩
theorem im_X12_width : Cond.instanceMethod mX12_width.1 ∈ gt := gt_ok (List.mem_of_getElem? (i := 1237) (by decide +kernel)) (by decide +kernel)
theorem se_X12_width : Cond.selects mX12_width.1.cls mX12_width.1 mX12_width.1 ∈ gt := gt_ok (List.mem_of_getElem? (i := 51) (by decide +kernel)) (by decide +kernel)
theorem li_RX12_217 : Cond.methodLink RX12 217 mX12_width.1 ∈ gt := gt_ok (List.mem_of_getElem? (i := 1235) (by decide +kernel)) (by decide +kernel)
abbrev mX12_fits : MI := (yX12_fits, prog_14_method_33_code, 7, some .boolean)
theorem ml_X12_fits : ML mX12_fits 2 := ⟨gt_ok (List.mem_of_getElem? (i := 1242) (by decide +kernel)) (by decide +kernel), gt_ok (List.mem_of_getElem? (i := 101) (by decide +kernel)) (by decide +kernel), by decide +kernel, by decide +kernel, by decide +kernel⟩
theorem im_X12_fits : Cond.instanceMethod mX12_fits.1 ∈ gt := gt_ok (List.mem_of_getElem? (i := 1241) (by decide +kernel)) (by decide +kernel)
theorem se_X12_fits : Cond.selects mX12_fits.1.cls mX12_fits.1 mX12_fits.1 ∈ gt := gt_ok (List.mem_of_getElem? (i := 52) (by decide +kernel)) (by decide +kernel)
theorem li_RX12_220 : Cond.methodLink RX12 220 mX12_fits.1 ∈ gt := gt_ok (List.mem_of_getElem? (i := 1239) (by decide +kernel)) (by decide +kernel)
abbrev mX12_chosen : MI := (yX12_chosen, prog_14_method_34_code, 4, some .int)
theorem ml_X12_chosen : ML mX12_chosen 0 := ⟨gt_ok (List.mem_of_getElem? (i := 1234) (by decide +kernel)) (by decide +kernel), gt_ok (List.mem_of_getElem? (i := 101) (by decide +kernel)) (by decide +kernel), by decide +kernel, by decide +kernel, by decide +kernel⟩
theorem im_X12_chosen : Cond.instanceMethod mX12_chosen.1 ∈ gt := gt_ok (List.mem_of_getElem? (i := 1233) (by decide +kernel)) (by decide +kernel)
theorem se_X12_chosen : Cond.selects mX12_chosen.1.cls mX12_chosen.1 mX12_chosen.1 ∈ gt := gt_ok (List.mem_of_getElem? (i := 50) (by decide +kernel)) (by decide +kernel)
theorem li_RX12_223 : Cond.methodLink RX12 223 mX12_chosen.1 ∈ gt := gt_ok (List.mem_of_getElem? (i := 1231) (by decide +kernel)) (by decide +kernel)
abbrev mX12_set : MI := (yX12_set, prog_14_method_35_code, 4, some .int)
abbrev mX12_taken : MI := (yX12_taken, prog_14_method_36_code, 3, some .int)
abbrev mX12_liveIn : MI := (yX12_liveIn, prog_14_method_37_code, 5, some .int)
theorem ml_X12_liveIn : ML mX12_liveIn 2 := ⟨gt_ok (List.mem_of_getElem? (i := 1259) (by decide +kernel)) (by decide +kernel), gt_ok (List.mem_of_getElem? (i := 101) (by decide +kernel)) (by decide +kernel), by decide +kernel, by decide +kernel, by decide +kernel⟩
theorem im_X12_liveIn : Cond.instanceMethod mX12_liveIn.1 ∈ gt := gt_ok (List.mem_of_getElem? (i := 1258) (by decide +kernel)) (by decide +kernel)
theorem se_X12_liveIn : Cond.selects mX12_liveIn.1.cls mX12_liveIn.1 mX12_liveIn.1 ∈ gt := gt_ok (List.mem_of_getElem? (i := 56) (by decide +kernel)) (by decide +kernel)
theorem li_RX12_226 : Cond.methodLink RX12 226 mX12_liveIn.1 ∈ gt := gt_ok (List.mem_of_getElem? (i := 1256) (by decide +kernel)) (by decide +kernel)
abbrev mX12_choice : MI := (yX12_choice, prog_14_method_38_code, 3, some .int)
abbrev mX12_begin : MI := (yX12_begin, prog_14_method_39_code, 5, some .int)
abbrev mX12_finish : MI := (yX12_finish, prog_14_method_40_code, 6, some .int)
abbrev mX12_leave : MI := (yX12_leave, prog_14_method_41_code, 1, some .int)
abbrev mX12_costOf : MI := (yX12_costOf, prog_14_method_42_code, 8, some .int)
theorem ml_X12_costOf : ML mX12_costOf 3 := ⟨gt_ok (List.mem_of_getElem? (i := 1279) (by decide +kernel)) (by decide +kernel), gt_ok (List.mem_of_getElem? (i := 101) (by decide +kernel)) (by decide +kernel), by decide +kernel, by decide +kernel, by decide +kernel⟩
theorem im_X12_costOf : Cond.instanceMethod mX12_costOf.1 ∈ gt := gt_ok (List.mem_of_getElem? (i := 1278) (by decide +kernel)) (by decide +kernel)
theorem se_X12_costOf : Cond.selects mX12_costOf.1.cls mX12_costOf.1 mX12_costOf.1 ∈ gt := gt_ok (List.mem_of_getElem? (i := 57) (by decide +kernel)) (by decide +kernel)
theorem li_RX12_242 : Cond.methodLink RX12 242 mX12_costOf.1 ∈ gt := gt_ok (List.mem_of_getElem? (i := 1276) (by decide +kernel)) (by decide +kernel)
abbrev mX12_cheapest : MI := (yX12_cheapest, prog_14_method_43_code, 4, some .int)
abbrev mX12_lay : MI := (yX12_lay, prog_14_method_44_code, 5, none)
theorem ml_X12_lay : ML mX12_lay 1 := ⟨gt_ok (List.mem_of_getElem? (i := 1287) (by decide +kernel)) (by decide +kernel), gt_ok (List.mem_of_getElem? (i := 101) (by decide +kernel)) (by decide +kernel), by decide +kernel, by decide +kernel, by decide +kernel⟩
theorem im_X12_lay : Cond.instanceMethod mX12_lay.1 ∈ gt := gt_ok (List.mem_of_getElem? (i := 1286) (by decide +kernel)) (by decide +kernel)
theorem se_X12_lay : Cond.selects mX12_lay.1.cls mX12_lay.1 mX12_lay.1 ∈ gt := gt_ok (List.mem_of_getElem? (i := 58) (by decide +kernel)) (by decide +kernel)
theorem li_RX12_246 : Cond.methodLink RX12 246 mX12_lay.1 ∈ gt := gt_ok (List.mem_of_getElem? (i := 1284) (by decide +kernel)) (by decide +kernel)
abbrev mX12_handOn : MI := (yX12_handOn, prog_14_method_45_code, 3, none)
theorem ml_X12_handOn : ML mX12_handOn 2 := ⟨gt_ok (List.mem_of_getElem? (i := 1295) (by decide +kernel)) (by decide +kernel), gt_ok (List.mem_of_getElem? (i := 101) (by decide +kernel)) (by decide +kernel), by decide +kernel, by decide +kernel, by decide +kernel⟩
theorem im_X12_handOn : Cond.instanceMethod mX12_handOn.1 ∈ gt := gt_ok (List.mem_of_getElem? (i := 1294) (by decide +kernel)) (by decide +kernel)
theorem se_X12_handOn : Cond.selects mX12_handOn.1.cls mX12_handOn.1 mX12_handOn.1 ∈ gt := gt_ok (List.mem_of_getElem? (i := 59) (by decide +kernel)) (by decide +kernel)
theorem li_RX12_253 : Cond.methodLink RX12 253 mX12_handOn.1 ∈ gt := gt_ok (List.mem_of_getElem? (i := 1292) (by decide +kernel)) (by decide +kernel)
abbrev mX12_stands : MI := (yX12_stands, prog_14_method_46_code, 4, some .boolean)
theorem ml_X12_stands : ML mX12_stands 2 := ⟨gt_ok (List.mem_of_getElem? (i := 1315) (by decide +kernel)) (by decide +kernel), gt_ok (List.mem_of_getElem? (i := 101) (by decide +kernel)) (by decide +kernel), by decide +kernel, by decide +kernel, by decide +kernel⟩
theorem im_X12_stands : Cond.instanceMethod mX12_stands.1 ∈ gt := gt_ok (List.mem_of_getElem? (i := 1314) (by decide +kernel)) (by decide +kernel)
theorem se_X12_stands : Cond.selects mX12_stands.1.cls mX12_stands.1 mX12_stands.1 ∈ gt := gt_ok (List.mem_of_getElem? (i := 62) (by decide +kernel)) (by decide +kernel)
theorem li_RX12_250 : Cond.methodLink RX12 250 mX12_stands.1 ∈ gt := gt_ok (List.mem_of_getElem? (i := 1312) (by decide +kernel)) (by decide +kernel)
abbrev mX12_heldSegments : MI := (yX12_heldSegments, prog_14_method_47_code, 5, some .int)
theorem ml_X12_heldSegments : ML mX12_heldSegments 0 := ⟨gt_ok (List.mem_of_getElem? (i := 1334) (by decide +kernel)) (by decide +kernel), gt_ok (List.mem_of_getElem? (i := 101) (by decide +kernel)) (by decide +kernel), by decide +kernel, by decide +kernel, by decide +kernel⟩
theorem im_X12_heldSegments : Cond.instanceMethod mX12_heldSegments.1 ∈ gt := gt_ok (List.mem_of_getElem? (i := 1333) (by decide +kernel)) (by decide +kernel)
theorem se_X12_heldSegments : Cond.selects mX12_heldSegments.1.cls mX12_heldSegments.1 mX12_heldSegments.1 ∈ gt := gt_ok (List.mem_of_getElem? (i := 63) (by decide +kernel)) (by decide +kernel)
theorem li_RX12_266 : Cond.methodLink RX12 266 mX12_heldSegments.1 ∈ gt := gt_ok (List.mem_of_getElem? (i := 1331) (by decide +kernel)) (by decide +kernel)
abbrev mX12_write : MI := (yX12_write, prog_14_method_48_code, 1, some .int)
abbrev mX12_commit : MI := (yX12_commit, prog_14_method_49_code, 1, some .int)
abbrev mX12_crash : MI := (yX12_crash, prog_14_method_50_code, 5, some .int)
abbrev mX12_openViews : MI := (yX12_openViews, prog_14_method_51_code, 4, some .int)
theorem ml_X12_openViews : ML mX12_openViews 1 := ⟨gt_ok (List.mem_of_getElem? (i := 1311) (by decide +kernel)) (by decide +kernel), gt_ok (List.mem_of_getElem? (i := 101) (by decide +kernel)) (by decide +kernel), by decide +kernel, by decide +kernel, by decide +kernel⟩
theorem im_X12_openViews : Cond.instanceMethod mX12_openViews.1 ∈ gt := gt_ok (List.mem_of_getElem? (i := 1310) (by decide +kernel)) (by decide +kernel)
theorem se_X12_openViews : Cond.selects mX12_openViews.1.cls mX12_openViews.1 mX12_openViews.1 ∈ gt := gt_ok (List.mem_of_getElem? (i := 61) (by decide +kernel)) (by decide +kernel)
theorem li_RX12_260 : Cond.methodLink RX12 260 mX12_openViews.1 ∈ gt := gt_ok (List.mem_of_getElem? (i := 1308) (by decide +kernel)) (by decide +kernel)
abbrev mX12_told : MI := (yX12_told, prog_14_method_52_code, 4, some .int)
abbrev mX12_doc : MI := (yX12_doc, prog_14_method_53_code, 6, some .int)
abbrev mX12_open : MI := (yX12_open, prog_14_method_54_code, 2, some .int)
abbrev mX12_shut : MI := (yX12_shut, prog_14_method_55_code, 2, some .int)
abbrev mX12_keyAt : MI := (yX12_keyAt, prog_14_method_56_code, 4, some .int)
theorem ml_X12_keyAt : ML mX12_keyAt 2 := ⟨gt_ok (List.mem_of_getElem? (i := 1346) (by decide +kernel)) (by decide +kernel), gt_ok (List.mem_of_getElem? (i := 101) (by decide +kernel)) (by decide +kernel), by decide +kernel, by decide +kernel, by decide +kernel⟩
theorem im_X12_keyAt : Cond.instanceMethod mX12_keyAt.1 ∈ gt := gt_ok (List.mem_of_getElem? (i := 1345) (by decide +kernel)) (by decide +kernel)
theorem se_X12_keyAt : Cond.selects mX12_keyAt.1.cls mX12_keyAt.1 mX12_keyAt.1 ∈ gt := gt_ok (List.mem_of_getElem? (i := 65) (by decide +kernel)) (by decide +kernel)
theorem li_RX12_300 : Cond.methodLink RX12 300 mX12_keyAt.1 ∈ gt := gt_ok (List.mem_of_getElem? (i := 1343) (by decide +kernel)) (by decide +kernel)
abbrev mX12_wordOf : MI := (yX12_wordOf, prog_14_method_57_code, 3, some .int)
theorem ml_X12_wordOf : ML mX12_wordOf 1 := ⟨gt_ok (List.mem_of_getElem? (i := 1350) (by decide +kernel)) (by decide +kernel), gt_ok (List.mem_of_getElem? (i := 101) (by decide +kernel)) (by decide +kernel), by decide +kernel, by decide +kernel, by decide +kernel⟩
theorem st_X12_wordOf : Cond.static mX12_wordOf.1 ∈ gt := gt_ok (List.mem_of_getElem? (i := 1349) (by decide +kernel)) (by decide +kernel)
theorem li_RX12_271 : Cond.methodLink RX12 271 mX12_wordOf.1 ∈ gt := gt_ok (List.mem_of_getElem? (i := 1348) (by decide +kernel)) (by decide +kernel)
abbrev mX12_next : MI := (yX12_next, prog_14_method_58_code, 3, none)
theorem ml_X12_next : ML mX12_next 0 := ⟨gt_ok (List.mem_of_getElem? (i := 1342) (by decide +kernel)) (by decide +kernel), gt_ok (List.mem_of_getElem? (i := 101) (by decide +kernel)) (by decide +kernel), by decide +kernel, by decide +kernel, by decide +kernel⟩
theorem im_X12_next : Cond.instanceMethod mX12_next.1 ∈ gt := gt_ok (List.mem_of_getElem? (i := 1341) (by decide +kernel)) (by decide +kernel)
theorem se_X12_next : Cond.selects mX12_next.1.cls mX12_next.1 mX12_next.1 ∈ gt := gt_ok (List.mem_of_getElem? (i := 64) (by decide +kernel)) (by decide +kernel)
theorem li_RX12_315 : Cond.methodLink RX12 315 mX12_next.1 ∈ gt := gt_ok (List.mem_of_getElem? (i := 1339) (by decide +kernel)) (by decide +kernel)
abbrev mX12_is : MI := (yX12_is, prog_14_method_59_code, 3, some .boolean)
theorem ml_X12_is : ML mX12_is 2 := ⟨gt_ok (List.mem_of_getElem? (i := 1416) (by decide +kernel)) (by decide +kernel), gt_ok (List.mem_of_getElem? (i := 101) (by decide +kernel)) (by decide +kernel), by decide +kernel, by decide +kernel, by decide +kernel⟩
theorem im_X12_is : Cond.instanceMethod mX12_is.1 ∈ gt := gt_ok (List.mem_of_getElem? (i := 1415) (by decide +kernel)) (by decide +kernel)
theorem se_X12_is : Cond.selects mX12_is.1.cls mX12_is.1 mX12_is.1 ∈ gt := gt_ok (List.mem_of_getElem? (i := 69) (by decide +kernel)) (by decide +kernel)
theorem li_RX12_312 : Cond.methodLink RX12 312 mX12_is.1 ∈ gt := gt_ok (List.mem_of_getElem? (i := 1413) (by decide +kernel)) (by decide +kernel)
abbrev mX12_mark : MI := (yX12_mark, prog_14_method_60_code, 2, none)
theorem ml_X12_mark : ML mX12_mark 1 := ⟨gt_ok (List.mem_of_getElem? (i := 1424) (by decide +kernel)) (by decide +kernel), gt_ok (List.mem_of_getElem? (i := 101) (by decide +kernel)) (by decide +kernel), by decide +kernel, by decide +kernel, by decide +kernel⟩
theorem im_X12_mark : Cond.instanceMethod mX12_mark.1 ∈ gt := gt_ok (List.mem_of_getElem? (i := 1423) (by decide +kernel)) (by decide +kernel)
theorem se_X12_mark : Cond.selects mX12_mark.1.cls mX12_mark.1 mX12_mark.1 ∈ gt := gt_ok (List.mem_of_getElem? (i := 71) (by decide +kernel)) (by decide +kernel)
theorem li_RX12_318 : Cond.methodLink RX12 318 mX12_mark.1 ∈ gt := gt_ok (List.mem_of_getElem? (i := 1421) (by decide +kernel)) (by decide +kernel)
abbrev mX12_either : MI := (yX12_either, prog_14_method_61_code, 1, none)
theorem ml_X12_either : ML mX12_either 0 := ⟨gt_ok (List.mem_of_getElem? (i := 1404) (by decide +kernel)) (by decide +kernel), gt_ok (List.mem_of_getElem? (i := 101) (by decide +kernel)) (by decide +kernel), by decide +kernel, by decide +kernel, by decide +kernel⟩
theorem im_X12_either : Cond.instanceMethod mX12_either.1 ∈ gt := gt_ok (List.mem_of_getElem? (i := 1403) (by decide +kernel)) (by decide +kernel)
theorem se_X12_either : Cond.selects mX12_either.1.cls mX12_either.1 mX12_either.1 ∈ gt := gt_ok (List.mem_of_getElem? (i := 66) (by decide +kernel)) (by decide +kernel)
theorem li_RX12_330 : Cond.methodLink RX12 330 mX12_either.1 ∈ gt := gt_ok (List.mem_of_getElem? (i := 1401) (by decide +kernel)) (by decide +kernel)
abbrev mX12_both : MI := (yX12_both, prog_14_method_62_code, 1, none)
theorem ml_X12_both : ML mX12_both 0 := ⟨gt_ok (List.mem_of_getElem? (i := 1408) (by decide +kernel)) (by decide +kernel), gt_ok (List.mem_of_getElem? (i := 101) (by decide +kernel)) (by decide +kernel), by decide +kernel, by decide +kernel, by decide +kernel⟩
theorem im_X12_both : Cond.instanceMethod mX12_both.1 ∈ gt := gt_ok (List.mem_of_getElem? (i := 1407) (by decide +kernel)) (by decide +kernel)
theorem se_X12_both : Cond.selects mX12_both.1.cls mX12_both.1 mX12_both.1 ∈ gt := gt_ok (List.mem_of_getElem? (i := 67) (by decide +kernel)) (by decide +kernel)
theorem li_RX12_309 : Cond.methodLink RX12 309 mX12_both.1 ∈ gt := gt_ok (List.mem_of_getElem? (i := 1405) (by decide +kernel)) (by decide +kernel)
abbrev mX12_opens : MI := (yX12_opens, prog_14_method_63_code, 1, none)
theorem ml_X12_opens : ML mX12_opens 0 := ⟨gt_ok (List.mem_of_getElem? (i := 1420) (by decide +kernel)) (by decide +kernel), gt_ok (List.mem_of_getElem? (i := 101) (by decide +kernel)) (by decide +kernel), by decide +kernel, by decide +kernel, by decide +kernel⟩
theorem im_X12_opens : Cond.instanceMethod mX12_opens.1 ∈ gt := gt_ok (List.mem_of_getElem? (i := 1419) (by decide +kernel)) (by decide +kernel)
theorem se_X12_opens : Cond.selects mX12_opens.1.cls mX12_opens.1 mX12_opens.1 ∈ gt := gt_ok (List.mem_of_getElem? (i := 70) (by decide +kernel)) (by decide +kernel)
theorem li_RX12_327 : Cond.methodLink RX12 327 mX12_opens.1 ∈ gt := gt_ok (List.mem_of_getElem? (i := 1417) (by decide +kernel)) (by decide +kernel)
abbrev mX12_one : MI := (yX12_one, prog_14_method_64_code, 1, none)
theorem ml_X12_one : ML mX12_one 0 := ⟨gt_ok (List.mem_of_getElem? (i := 1412) (by decide +kernel)) (by decide +kernel), gt_ok (List.mem_of_getElem? (i := 101) (by decide +kernel)) (by decide +kernel), by decide +kernel, by decide +kernel, by decide +kernel⟩
theorem im_X12_one : Cond.instanceMethod mX12_one.1 ∈ gt := gt_ok (List.mem_of_getElem? (i := 1411) (by decide +kernel)) (by decide +kernel)
theorem se_X12_one : Cond.selects mX12_one.1.cls mX12_one.1 mX12_one.1 ∈ gt := gt_ok (List.mem_of_getElem? (i := 68) (by decide +kernel)) (by decide +kernel)
theorem li_RX12_321 : Cond.methodLink RX12 321 mX12_one.1 ∈ gt := gt_ok (List.mem_of_getElem? (i := 1409) (by decide +kernel)) (by decide +kernel)
abbrev mX12_plain : MI := (yX12_plain, prog_14_method_65_code, 3, none)
theorem ml_X12_plain : ML mX12_plain 0 := ⟨gt_ok (List.mem_of_getElem? (i := 1432) (by decide +kernel)) (by decide +kernel), gt_ok (List.mem_of_getElem? (i := 101) (by decide +kernel)) (by decide +kernel), by decide +kernel, by decide +kernel, by decide +kernel⟩
theorem im_X12_plain : Cond.instanceMethod mX12_plain.1 ∈ gt := gt_ok (List.mem_of_getElem? (i := 1431) (by decide +kernel)) (by decide +kernel)
theorem se_X12_plain : Cond.selects mX12_plain.1.cls mX12_plain.1 mX12_plain.1 ∈ gt := gt_ok (List.mem_of_getElem? (i := 73) (by decide +kernel)) (by decide +kernel)
theorem li_RX12_336 : Cond.methodLink RX12 336 mX12_plain.1 ∈ gt := gt_ok (List.mem_of_getElem? (i := 1429) (by decide +kernel)) (by decide +kernel)
abbrev mX12_phrase : MI := (yX12_phrase, prog_14_method_66_code, 3, none)
theorem ml_X12_phrase : ML mX12_phrase 0 := ⟨gt_ok (List.mem_of_getElem? (i := 1428) (by decide +kernel)) (by decide +kernel), gt_ok (List.mem_of_getElem? (i := 101) (by decide +kernel)) (by decide +kernel), by decide +kernel, by decide +kernel, by decide +kernel⟩
theorem im_X12_phrase : Cond.instanceMethod mX12_phrase.1 ∈ gt := gt_ok (List.mem_of_getElem? (i := 1427) (by decide +kernel)) (by decide +kernel)
theorem se_X12_phrase : Cond.selects mX12_phrase.1.cls mX12_phrase.1 mX12_phrase.1 ∈ gt := gt_ok (List.mem_of_getElem? (i := 72) (by decide +kernel)) (by decide +kernel)
theorem li_RX12_333 : Cond.methodLink RX12 333 mX12_phrase.1 ∈ gt := gt_ok (List.mem_of_getElem? (i := 1425) (by decide +kernel)) (by decide +kernel)
abbrev mX12_query : MI := (yX12_query, prog_14_method_67_code, 1, some .int)
abbrev mX12_power : MI := (yX12_power, prog_14_method_68_code, 3, some .int)
theorem ml_X12_power : ML mX12_power 1 := ⟨gt_ok (List.mem_of_getElem? (i := 1466) (by decide +kernel)) (by decide +kernel), gt_ok (List.mem_of_getElem? (i := 101) (by decide +kernel)) (by decide +kernel), by decide +kernel, by decide +kernel, by decide +kernel⟩
theorem st_X12_power : Cond.static mX12_power.1 ∈ gt := gt_ok (List.mem_of_getElem? (i := 1465) (by decide +kernel)) (by decide +kernel)
theorem li_RX12_339 : Cond.methodLink RX12 339 mX12_power.1 ∈ gt := gt_ok (List.mem_of_getElem? (i := 1464) (by decide +kernel)) (by decide +kernel)
abbrev mX12_begins : MI := (yX12_begins, prog_14_method_69_code, 4, some .boolean)
theorem ml_X12_begins : ML mX12_begins 3 := ⟨gt_ok (List.mem_of_getElem? (i := 1463) (by decide +kernel)) (by decide +kernel), gt_ok (List.mem_of_getElem? (i := 101) (by decide +kernel)) (by decide +kernel), by decide +kernel, by decide +kernel, by decide +kernel⟩
theorem st_X12_begins : Cond.static mX12_begins.1 ∈ gt := gt_ok (List.mem_of_getElem? (i := 1462) (by decide +kernel)) (by decide +kernel)
theorem li_RX12_342 : Cond.methodLink RX12 342 mX12_begins.1 ∈ gt := gt_ok (List.mem_of_getElem? (i := 1461) (by decide +kernel)) (by decide +kernel)
abbrev mX12_timesBegun : MI := (yX12_timesBegun, prog_14_method_70_code, 6, some .int)
theorem ml_X12_timesBegun : ML mX12_timesBegun 3 := ⟨gt_ok (List.mem_of_getElem? (i := 1478) (by decide +kernel)) (by decide +kernel), gt_ok (List.mem_of_getElem? (i := 101) (by decide +kernel)) (by decide +kernel), by decide +kernel, by decide +kernel, by decide +kernel⟩
theorem im_X12_timesBegun : Cond.instanceMethod mX12_timesBegun.1 ∈ gt := gt_ok (List.mem_of_getElem? (i := 1477) (by decide +kernel)) (by decide +kernel)
theorem se_X12_timesBegun : Cond.selects mX12_timesBegun.1.cls mX12_timesBegun.1 mX12_timesBegun.1 ∈ gt := gt_ok (List.mem_of_getElem? (i := 81) (by decide +kernel)) (by decide +kernel)
theorem li_RX12_348 : Cond.methodLink RX12 348 mX12_timesBegun.1 ∈ gt := gt_ok (List.mem_of_getElem? (i := 1475) (by decide +kernel)) (by decide +kernel)
abbrev mX12_near : MI := (yX12_near, prog_14_method_71_code, 7, some .int)
theorem ml_X12_near : ML mX12_near 3 := ⟨gt_ok (List.mem_of_getElem? (i := 1482) (by decide +kernel)) (by decide +kernel), gt_ok (List.mem_of_getElem? (i := 101) (by decide +kernel)) (by decide +kernel), by decide +kernel, by decide +kernel, by decide +kernel⟩
theorem im_X12_near : Cond.instanceMethod mX12_near.1 ∈ gt := gt_ok (List.mem_of_getElem? (i := 1481) (by decide +kernel)) (by decide +kernel)
theorem se_X12_near : Cond.selects mX12_near.1.cls mX12_near.1 mX12_near.1 ∈ gt := gt_ok (List.mem_of_getElem? (i := 82) (by decide +kernel)) (by decide +kernel)
theorem li_RX12_351 : Cond.methodLink RX12 351 mX12_near.1 ∈ gt := gt_ok (List.mem_of_getElem? (i := 1479) (by decide +kernel)) (by decide +kernel)
abbrev mX12_phraseTimes : MI := (yX12_phraseTimes, prog_14_method_72_code, 9, some .int)
theorem ml_X12_phraseTimes : ML mX12_phraseTimes 4 := ⟨gt_ok (List.mem_of_getElem? (i := 1489) (by decide +kernel)) (by decide +kernel), gt_ok (List.mem_of_getElem? (i := 101) (by decide +kernel)) (by decide +kernel), by decide +kernel, by decide +kernel, by decide +kernel⟩
theorem im_X12_phraseTimes : Cond.instanceMethod mX12_phraseTimes.1 ∈ gt := gt_ok (List.mem_of_getElem? (i := 1488) (by decide +kernel)) (by decide +kernel)
theorem se_X12_phraseTimes : Cond.selects mX12_phraseTimes.1.cls mX12_phraseTimes.1 mX12_phraseTimes.1 ∈ gt := gt_ok (List.mem_of_getElem? (i := 83) (by decide +kernel)) (by decide +kernel)
theorem li_RX12_354 : Cond.methodLink RX12 354 mX12_phraseTimes.1 ∈ gt := gt_ok (List.mem_of_getElem? (i := 1486) (by decide +kernel)) (by decide +kernel)
abbrev mX12_worth : MI := (yX12_worth, prog_14_method_73_code, 6, some .int)
theorem ml_X12_worth : ML mX12_worth 2 := ⟨gt_ok (List.mem_of_getElem? (i := 1474) (by decide +kernel)) (by decide +kernel), gt_ok (List.mem_of_getElem? (i := 101) (by decide +kernel)) (by decide +kernel), by decide +kernel, by decide +kernel, by decide +kernel⟩
theorem im_X12_worth : Cond.instanceMethod mX12_worth.1 ∈ gt := gt_ok (List.mem_of_getElem? (i := 1473) (by decide +kernel)) (by decide +kernel)
theorem se_X12_worth : Cond.selects mX12_worth.1.cls mX12_worth.1 mX12_worth.1 ∈ gt := gt_ok (List.mem_of_getElem? (i := 80) (by decide +kernel)) (by decide +kernel)
theorem li_RX12_373 : Cond.methodLink RX12 373 mX12_worth.1 ∈ gt := gt_ok (List.mem_of_getElem? (i := 1471) (by decide +kernel)) (by decide +kernel)
abbrev mX12_postingsBegun : MI := (yX12_postingsBegun, prog_14_method_74_code, 6, some .int)
theorem ml_X12_postingsBegun : ML mX12_postingsBegun 3 := ⟨gt_ok (List.mem_of_getElem? (i := 1460) (by decide +kernel)) (by decide +kernel), gt_ok (List.mem_of_getElem? (i := 101) (by decide +kernel)) (by decide +kernel), by decide +kernel, by decide +kernel, by decide +kernel⟩
theorem im_X12_postingsBegun : Cond.instanceMethod mX12_postingsBegun.1 ∈ gt := gt_ok (List.mem_of_getElem? (i := 1459) (by decide +kernel)) (by decide +kernel)
theorem se_X12_postingsBegun : Cond.selects mX12_postingsBegun.1.cls mX12_postingsBegun.1 mX12_postingsBegun.1 ∈ gt := gt_ok (List.mem_of_getElem? (i := 78) (by decide +kernel)) (by decide +kernel)
theorem li_RX12_361 : Cond.methodLink RX12 361 mX12_postingsBegun.1 ∈ gt := gt_ok (List.mem_of_getElem? (i := 1457) (by decide +kernel)) (by decide +kernel)
abbrev mX12_costOfWord : MI := (yX12_costOfWord, prog_14_method_75_code, 6, some .int)
theorem ml_X12_costOfWord : ML mX12_costOfWord 3 := ⟨gt_ok (List.mem_of_getElem? (i := 1456) (by decide +kernel)) (by decide +kernel), gt_ok (List.mem_of_getElem? (i := 101) (by decide +kernel)) (by decide +kernel), by decide +kernel, by decide +kernel, by decide +kernel⟩
theorem im_X12_costOfWord : Cond.instanceMethod mX12_costOfWord.1 ∈ gt := gt_ok (List.mem_of_getElem? (i := 1455) (by decide +kernel)) (by decide +kernel)
theorem se_X12_costOfWord : Cond.selects mX12_costOfWord.1.cls mX12_costOfWord.1 mX12_costOfWord.1 ∈ gt := gt_ok (List.mem_of_getElem? (i := 77) (by decide +kernel)) (by decide +kernel)
theorem li_RX12_364 : Cond.methodLink RX12 364 mX12_costOfWord.1 ∈ gt := gt_ok (List.mem_of_getElem? (i := 1453) (by decide +kernel)) (by decide +kernel)
abbrev mX12_cost : MI := (yX12_cost, prog_14_method_76_code, 10, some .int)
theorem ml_X12_cost : ML mX12_cost 2 := ⟨gt_ok (List.mem_of_getElem? (i := 1452) (by decide +kernel)) (by decide +kernel), gt_ok (List.mem_of_getElem? (i := 101) (by decide +kernel)) (by decide +kernel), by decide +kernel, by decide +kernel, by decide +kernel⟩
theorem im_X12_cost : Cond.instanceMethod mX12_cost.1 ∈ gt := gt_ok (List.mem_of_getElem? (i := 1451) (by decide +kernel)) (by decide +kernel)
theorem se_X12_cost : Cond.selects mX12_cost.1.cls mX12_cost.1 mX12_cost.1 ∈ gt := gt_ok (List.mem_of_getElem? (i := 76) (by decide +kernel)) (by decide +kernel)
theorem li_RX12_379 : Cond.methodLink RX12 379 mX12_cost.1 ∈ gt := gt_ok (List.mem_of_getElem? (i := 1449) (by decide +kernel)) (by decide +kernel)
abbrev mX12_find : MI := (yX12_find, prog_14_method_77_code, 8, none)
theorem ml_X12_find : ML mX12_find 2 := ⟨gt_ok (List.mem_of_getElem? (i := 1470) (by decide +kernel)) (by decide +kernel), gt_ok (List.mem_of_getElem? (i := 101) (by decide +kernel)) (by decide +kernel), by decide +kernel, by decide +kernel, by decide +kernel⟩
theorem im_X12_find : Cond.instanceMethod mX12_find.1 ∈ gt := gt_ok (List.mem_of_getElem? (i := 1469) (by decide +kernel)) (by decide +kernel)
theorem se_X12_find : Cond.selects mX12_find.1.cls mX12_find.1 mX12_find.1 ∈ gt := gt_ok (List.mem_of_getElem? (i := 79) (by decide +kernel)) (by decide +kernel)
theorem li_RX12_382 : Cond.methodLink RX12 382 mX12_find.1 ∈ gt := gt_ok (List.mem_of_getElem? (i := 1467) (by decide +kernel)) (by decide +kernel)
abbrev mX12_comes : MI := (yX12_comes, prog_14_method_78_code, 4, none)
theorem ml_X12_comes : ML mX12_comes 2 := ⟨gt_ok (List.mem_of_getElem? (i := 1494) (by decide +kernel)) (by decide +kernel), gt_ok (List.mem_of_getElem? (i := 101) (by decide +kernel)) (by decide +kernel), by decide +kernel, by decide +kernel, by decide +kernel⟩
theorem im_X12_comes : Cond.instanceMethod mX12_comes.1 ∈ gt := gt_ok (List.mem_of_getElem? (i := 1493) (by decide +kernel)) (by decide +kernel)
theorem se_X12_comes : Cond.selects mX12_comes.1.cls mX12_comes.1 mX12_comes.1 ∈ gt := gt_ok (List.mem_of_getElem? (i := 84) (by decide +kernel)) (by decide +kernel)
theorem li_RX12_376 : Cond.methodLink RX12 376 mX12_comes.1 ∈ gt := gt_ok (List.mem_of_getElem? (i := 1491) (by decide +kernel)) (by decide +kernel)
abbrev mX12_isAsked : MI := (yX12_isAsked, prog_14_method_79_code, 1, some .boolean)
theorem ml_X12_isAsked : ML mX12_isAsked 1 := ⟨gt_ok (List.mem_of_getElem? (i := 1444) (by decide +kernel)) (by decide +kernel), gt_ok (List.mem_of_getElem? (i := 101) (by decide +kernel)) (by decide +kernel), by decide +kernel, by decide +kernel, by decide +kernel⟩
theorem st_X12_isAsked : Cond.static mX12_isAsked.1 ∈ gt := gt_ok (List.mem_of_getElem? (i := 1443) (by decide +kernel)) (by decide +kernel)
theorem li_RX12_388 : Cond.methodLink RX12 388 mX12_isAsked.1 ∈ gt := gt_ok (List.mem_of_getElem? (i := 1442) (by decide +kernel)) (by decide +kernel)
abbrev mX12_answer : MI := (yX12_answer, prog_14_method_80_code, 5, some .int)
theorem ml_X12_answer : ML mX12_answer 3 := ⟨gt_ok (List.mem_of_getElem? (i := 1448) (by decide +kernel)) (by decide +kernel), gt_ok (List.mem_of_getElem? (i := 101) (by decide +kernel)) (by decide +kernel), by decide +kernel, by decide +kernel, by decide +kernel⟩
theorem im_X12_answer : Cond.instanceMethod mX12_answer.1 ∈ gt := gt_ok (List.mem_of_getElem? (i := 1447) (by decide +kernel)) (by decide +kernel)
theorem se_X12_answer : Cond.selects mX12_answer.1.cls mX12_answer.1 mX12_answer.1 ∈ gt := gt_ok (List.mem_of_getElem? (i := 75) (by decide +kernel)) (by decide +kernel)
theorem li_RX12_391 : Cond.methodLink RX12 391 mX12_answer.1 ∈ gt := gt_ok (List.mem_of_getElem? (i := 1445) (by decide +kernel)) (by decide +kernel)
abbrev mX12_found : MI := (yX12_found, prog_14_method_81_code, 4, some .int)
abbrev mX12_dropBy : MI := (yX12_dropBy, prog_14_method_82_code, 3, some .int)
abbrev mX12_shutLook : MI := (yX12_shutLook, prog_14_method_83_code, 2, none)
theorem ml_X12_shutLook : ML mX12_shutLook 1 := ⟨gt_ok (List.mem_of_getElem? (i := 1506) (by decide +kernel)) (by decide +kernel), gt_ok (List.mem_of_getElem? (i := 101) (by decide +kernel)) (by decide +kernel), by decide +kernel, by decide +kernel, by decide +kernel⟩
theorem im_X12_shutLook : Cond.instanceMethod mX12_shutLook.1 ∈ gt := gt_ok (List.mem_of_getElem? (i := 1505) (by decide +kernel)) (by decide +kernel)
theorem se_X12_shutLook : Cond.selects mX12_shutLook.1.cls mX12_shutLook.1 mX12_shutLook.1 ∈ gt := gt_ok (List.mem_of_getElem? (i := 85) (by decide +kernel)) (by decide +kernel)
theorem li_RX12_400 : Cond.methodLink RX12 400 mX12_shutLook.1 ∈ gt := gt_ok (List.mem_of_getElem? (i := 1503) (by decide +kernel)) (by decide +kernel)
abbrev mX12_look : MI := (yX12_look, prog_14_method_84_code, 3, some .int)
abbrev mX12_wasFound : MI := (yX12_wasFound, prog_14_method_85_code, 5, some .boolean)
theorem ml_X12_wasFound : ML mX12_wasFound 3 := ⟨gt_ok (List.mem_of_getElem? (i := 1514) (by decide +kernel)) (by decide +kernel), gt_ok (List.mem_of_getElem? (i := 101) (by decide +kernel)) (by decide +kernel), by decide +kernel, by decide +kernel, by decide +kernel⟩
theorem im_X12_wasFound : Cond.instanceMethod mX12_wasFound.1 ∈ gt := gt_ok (List.mem_of_getElem? (i := 1513) (by decide +kernel)) (by decide +kernel)
theorem se_X12_wasFound : Cond.selects mX12_wasFound.1.cls mX12_wasFound.1 mX12_wasFound.1 ∈ gt := gt_ok (List.mem_of_getElem? (i := 86) (by decide +kernel)) (by decide +kernel)
theorem li_RX12_403 : Cond.methodLink RX12 403 mX12_wasFound.1 ∈ gt := gt_ok (List.mem_of_getElem? (i := 1511) (by decide +kernel)) (by decide +kernel)
abbrev mX12_both_ : MI := (yX12_both_, prog_14_method_86_code, 7, some .int)
abbrev mX12_silence : MI := (yX12_silence, prog_14_method_87_code, 5, some .int)
abbrev mX12_otherwise : MI := (yX12_otherwise, prog_14_method_88_code, 5, some .int)
theorem ml_X12_otherwise : ML mX12_otherwise 3 := ⟨gt_ok (List.mem_of_getElem? (i := 1529) (by decide +kernel)) (by decide +kernel), gt_ok (List.mem_of_getElem? (i := 101) (by decide +kernel)) (by decide +kernel), by decide +kernel, by decide +kernel, by decide +kernel⟩
theorem im_X12_otherwise : Cond.instanceMethod mX12_otherwise.1 ∈ gt := gt_ok (List.mem_of_getElem? (i := 1528) (by decide +kernel)) (by decide +kernel)
theorem se_X12_otherwise : Cond.selects mX12_otherwise.1.cls mX12_otherwise.1 mX12_otherwise.1 ∈ gt := gt_ok (List.mem_of_getElem? (i := 87) (by decide +kernel)) (by decide +kernel)
theorem li_RX12_410 : Cond.methodLink RX12 410 mX12_otherwise.1 ∈ gt := gt_ok (List.mem_of_getElem? (i := 1526) (by decide +kernel)) (by decide +kernel)
abbrev mX12_tells : MI := (yX12_tells, prog_14_method_89_code, 7, some .int)
abbrev mX12_film : MI := (yX12_film, prog_14_method_90_code, 5, some .int)
abbrev mX12_liveMany : MI := (yX12_liveMany, prog_14_method_91_code, 1, some .int)
theorem ml_X12_liveMany : ML mX12_liveMany 0 := ⟨gt_ok (List.mem_of_getElem? (i := 1541) (by decide +kernel)) (by decide +kernel), gt_ok (List.mem_of_getElem? (i := 101) (by decide +kernel)) (by decide +kernel), by decide +kernel, by decide +kernel, by decide +kernel⟩
theorem im_X12_liveMany : Cond.instanceMethod mX12_liveMany.1 ∈ gt := gt_ok (List.mem_of_getElem? (i := 1540) (by decide +kernel)) (by decide +kernel)
theorem se_X12_liveMany : Cond.selects mX12_liveMany.1.cls mX12_liveMany.1 mX12_liveMany.1 ∈ gt := gt_ok (List.mem_of_getElem? (i := 88) (by decide +kernel)) (by decide +kernel)
theorem li_RX12_413 : Cond.methodLink RX12 413 mX12_liveMany.1 ∈ gt := gt_ok (List.mem_of_getElem? (i := 1538) (by decide +kernel)) (by decide +kernel)
abbrev mX12_viewsOpen : MI := (yX12_viewsOpen, prog_14_method_92_code, 3, some .int)
theorem ml_X12_viewsOpen : ML mX12_viewsOpen 0 := ⟨gt_ok (List.mem_of_getElem? (i := 1545) (by decide +kernel)) (by decide +kernel), gt_ok (List.mem_of_getElem? (i := 101) (by decide +kernel)) (by decide +kernel), by decide +kernel, by decide +kernel, by decide +kernel⟩
theorem im_X12_viewsOpen : Cond.instanceMethod mX12_viewsOpen.1 ∈ gt := gt_ok (List.mem_of_getElem? (i := 1544) (by decide +kernel)) (by decide +kernel)
theorem se_X12_viewsOpen : Cond.selects mX12_viewsOpen.1.cls mX12_viewsOpen.1 mX12_viewsOpen.1 ∈ gt := gt_ok (List.mem_of_getElem? (i := 89) (by decide +kernel)) (by decide +kernel)
theorem li_RX12_416 : Cond.methodLink RX12 416 mX12_viewsOpen.1 ∈ gt := gt_ok (List.mem_of_getElem? (i := 1542) (by decide +kernel)) (by decide +kernel)
abbrev mX12_count : MI := (yX12_count, prog_14_method_93_code, 2, some .int)
abbrev mX12_isSheet : MI := (yX12_isSheet, prog_14_method_94_code, 1, some .boolean)
theorem ml_X12_isSheet : ML mX12_isSheet 1 := ⟨gt_ok (List.mem_of_getElem? (i := 1525) (by decide +kernel)) (by decide +kernel), gt_ok (List.mem_of_getElem? (i := 101) (by decide +kernel)) (by decide +kernel), by decide +kernel, by decide +kernel, by decide +kernel⟩
theorem st_X12_isSheet : Cond.static mX12_isSheet.1 ∈ gt := gt_ok (List.mem_of_getElem? (i := 1524) (by decide +kernel)) (by decide +kernel)
theorem li_RX12_407 : Cond.methodLink RX12 407 mX12_isSheet.1 ∈ gt := gt_ok (List.mem_of_getElem? (i := 1523) (by decide +kernel)) (by decide +kernel)
abbrev mX12_sheet : MI := (yX12_sheet, prog_14_method_95_code, 5, some .int)
abbrev mX12_cell : MI := (yX12_cell, prog_14_method_96_code, 4, some .int)
abbrev mX12_copy : MI := (yX12_copy, prog_14_method_97_code, 6, some .int)
abbrev mX0_init : MI := (yX0_init, prog_2_method_1_code, 3, none)
theorem ml_X0_init : ML mX0_init 2 := ⟨gt_ok (List.mem_of_getElem? (i := 450) (by decide +kernel)) (by decide +kernel), gt_ok (List.mem_of_getElem? (i := 102) (by decide +kernel)) (by decide +kernel), by decide +kernel, by decide +kernel, by decide +kernel⟩
theorem im_X0_init : Cond.instanceMethod mX0_init.1 ∈ gt := gt_ok (List.mem_of_getElem? (i := 449) (by decide +kernel)) (by decide +kernel)
theorem li_RX11_140 : Cond.methodLink RX11 140 mX0_init.1 ∈ gt := gt_ok (List.mem_of_getElem? (i := 448) (by decide +kernel)) (by decide +kernel)
abbrev mX0_hasBefore : MI := (yX0_hasBefore, prog_2_method_2_code, 3, some .boolean)
theorem ml_X0_hasBefore : ML mX0_hasBefore 1 := ⟨gt_ok (List.mem_of_getElem? (i := 530) (by decide +kernel)) (by decide +kernel), gt_ok (List.mem_of_getElem? (i := 102) (by decide +kernel)) (by decide +kernel), by decide +kernel, by decide +kernel, by decide +kernel⟩
theorem im_X0_hasBefore : Cond.instanceMethod mX0_hasBefore.1 ∈ gt := gt_ok (List.mem_of_getElem? (i := 528) (by decide +kernel)) (by decide +kernel)
theorem se_X0_hasBefore : Cond.selects mX0_hasBefore.1.cls mX0_hasBefore.1 mX0_hasBefore.1 ∈ gt := gt_ok (List.mem_of_getElem? (i := 529) (by decide +kernel)) (by decide +kernel)
theorem li_RX7_30 : Cond.methodLink RX7 30 mX0_hasBefore.1 ∈ gt := gt_ok (List.mem_of_getElem? (i := 527) (by decide +kernel)) (by decide +kernel)
abbrev mX1_init : MI := (yX1_init, prog_3_method_1_code, 1, none)
theorem ml_X1_init : ML mX1_init 0 := ⟨gt_ok (List.mem_of_getElem? (i := 272) (by decide +kernel)) (by decide +kernel), gt_ok (List.mem_of_getElem? (i := 98) (by decide +kernel)) (by decide +kernel), by decide +kernel, by decide +kernel, by decide +kernel⟩
theorem im_X1_init : Cond.instanceMethod mX1_init.1 ∈ gt := gt_ok (List.mem_of_getElem? (i := 271) (by decide +kernel)) (by decide +kernel)
abbrev mX1_search : MI := (yX1_search, prog_3_method_2_code, 7, none)
theorem ml_X1_search : ML mX1_search 2 := ⟨gt_ok (List.mem_of_getElem? (i := 479) (by decide +kernel)) (by decide +kernel), gt_ok (List.mem_of_getElem? (i := 98) (by decide +kernel)) (by decide +kernel), by decide +kernel, by decide +kernel, by decide +kernel⟩
theorem im_X1_search : Cond.instanceMethod mX1_search.1 ∈ gt := gt_ok (List.mem_of_getElem? (i := 477) (by decide +kernel)) (by decide +kernel)
theorem se_X1_search : Cond.selects mX1_search.1.cls mX1_search.1 mX1_search.1 ∈ gt := gt_ok (List.mem_of_getElem? (i := 478) (by decide +kernel)) (by decide +kernel)
theorem li_RX11_149 : Cond.methodLink RX11 149 mX1_search.1 ∈ gt := gt_ok (List.mem_of_getElem? (i := 476) (by decide +kernel)) (by decide +kernel)
abbrev mX1_insert : MI := (yX1_insert, prog_3_method_3_code, 4, none)
theorem ml_X1_insert : ML mX1_insert 2 := ⟨gt_ok (List.mem_of_getElem? (i := 512) (by decide +kernel)) (by decide +kernel), gt_ok (List.mem_of_getElem? (i := 98) (by decide +kernel)) (by decide +kernel), by decide +kernel, by decide +kernel, by decide +kernel⟩
theorem im_X1_insert : Cond.instanceMethod mX1_insert.1 ∈ gt := gt_ok (List.mem_of_getElem? (i := 511) (by decide +kernel)) (by decide +kernel)
theorem se_X1_insert : Cond.selects mX1_insert.1.cls mX1_insert.1 mX1_insert.1 ∈ gt := gt_ok (List.mem_of_getElem? (i := 7) (by decide +kernel)) (by decide +kernel)
theorem li_RX1_60 : Cond.methodLink RX1 60 mX1_insert.1 ∈ gt := gt_ok (List.mem_of_getElem? (i := 509) (by decide +kernel)) (by decide +kernel)
abbrev mX1_isAnswer : MI := (yX1_isAnswer, prog_3_method_4_code, 1, some .boolean)
theorem ml_X1_isAnswer : ML mX1_isAnswer 1 := ⟨gt_ok (List.mem_of_getElem? (i := 823) (by decide +kernel)) (by decide +kernel), gt_ok (List.mem_of_getElem? (i := 98) (by decide +kernel)) (by decide +kernel), by decide +kernel, by decide +kernel, by decide +kernel⟩
theorem st_X1_isAnswer : Cond.static mX1_isAnswer.1 ∈ gt := gt_ok (List.mem_of_getElem? (i := 822) (by decide +kernel)) (by decide +kernel)
theorem li_RX11_298 : Cond.methodLink RX11 298 mX1_isAnswer.1 ∈ gt := gt_ok (List.mem_of_getElem? (i := 821) (by decide +kernel)) (by decide +kernel)
abbrev mX1_answer : MI := (yX1_answer, prog_3_method_5_code, 3, some .int)
theorem ml_X1_answer : ML mX1_answer 1 := ⟨gt_ok (List.mem_of_getElem? (i := 847) (by decide +kernel)) (by decide +kernel), gt_ok (List.mem_of_getElem? (i := 98) (by decide +kernel)) (by decide +kernel), by decide +kernel, by decide +kernel, by decide +kernel⟩
theorem im_X1_answer : Cond.instanceMethod mX1_answer.1 ∈ gt := gt_ok (List.mem_of_getElem? (i := 845) (by decide +kernel)) (by decide +kernel)
theorem se_X1_answer : Cond.selects mX1_answer.1.cls mX1_answer.1 mX1_answer.1 ∈ gt := gt_ok (List.mem_of_getElem? (i := 846) (by decide +kernel)) (by decide +kernel)
theorem li_RX11_363 : Cond.methodLink RX11 363 mX1_answer.1 ∈ gt := gt_ok (List.mem_of_getElem? (i := 844) (by decide +kernel)) (by decide +kernel)
abbrev mX1_alsoIn : MI := (yX1_alsoIn, prog_3_method_6_code, 4, some .int)
theorem ml_X1_alsoIn : ML mX1_alsoIn 1 := ⟨gt_ok (List.mem_of_getElem? (i := 876) (by decide +kernel)) (by decide +kernel), gt_ok (List.mem_of_getElem? (i := 98) (by decide +kernel)) (by decide +kernel), by decide +kernel, by decide +kernel, by decide +kernel⟩
theorem im_X1_alsoIn : Cond.instanceMethod mX1_alsoIn.1 ∈ gt := gt_ok (List.mem_of_getElem? (i := 874) (by decide +kernel)) (by decide +kernel)
theorem se_X1_alsoIn : Cond.selects mX1_alsoIn.1.cls mX1_alsoIn.1 mX1_alsoIn.1 ∈ gt := gt_ok (List.mem_of_getElem? (i := 875) (by decide +kernel)) (by decide +kernel)
theorem li_RX11_365 : Cond.methodLink RX11 365 mX1_alsoIn.1 ∈ gt := gt_ok (List.mem_of_getElem? (i := 873) (by decide +kernel)) (by decide +kernel)
abbrev mX2_init : MI := (yX2_init, prog_4_method_1_code, 1, none)
theorem ml_X2_init : ML mX2_init 0 := ⟨gt_ok (List.mem_of_getElem? (i := 253) (by decide +kernel)) (by decide +kernel), gt_ok (List.mem_of_getElem? (i := 97) (by decide +kernel)) (by decide +kernel), by decide +kernel, by decide +kernel, by decide +kernel⟩
theorem im_X2_init : Cond.instanceMethod mX2_init.1 ∈ gt := gt_ok (List.mem_of_getElem? (i := 252) (by decide +kernel)) (by decide +kernel)
abbrev mX2_start : MI := (yX2_start, prog_4_method_2_code, 1, some .int)
theorem ml_X2_start : ML mX2_start 0 := ⟨gt_ok (List.mem_of_getElem? (i := 855) (by decide +kernel)) (by decide +kernel), gt_ok (List.mem_of_getElem? (i := 97) (by decide +kernel)) (by decide +kernel), by decide +kernel, by decide +kernel, by decide +kernel⟩
theorem im_X2_start : Cond.instanceMethod mX2_start.1 ∈ gt := gt_ok (List.mem_of_getElem? (i := 853) (by decide +kernel)) (by decide +kernel)
theorem se_X2_start : Cond.selects mX2_start.1.cls mX2_start.1 mX2_start.1 ∈ gt := gt_ok (List.mem_of_getElem? (i := 854) (by decide +kernel)) (by decide +kernel)
theorem li_RX11_305 : Cond.methodLink RX11 305 mX2_start.1 ∈ gt := gt_ok (List.mem_of_getElem? (i := 852) (by decide +kernel)) (by decide +kernel)
abbrev mX2_end : MI := (yX2_end, prog_4_method_3_code, 3, none)
theorem ml_X2_end : ML mX2_end 1 := ⟨gt_ok (List.mem_of_getElem? (i := 863) (by decide +kernel)) (by decide +kernel), gt_ok (List.mem_of_getElem? (i := 97) (by decide +kernel)) (by decide +kernel), by decide +kernel, by decide +kernel, by decide +kernel⟩
theorem im_X2_end : Cond.instanceMethod mX2_end.1 ∈ gt := gt_ok (List.mem_of_getElem? (i := 861) (by decide +kernel)) (by decide +kernel)
theorem se_X2_end : Cond.selects mX2_end.1.cls mX2_end.1 mX2_end.1 ∈ gt := gt_ok (List.mem_of_getElem? (i := 862) (by decide +kernel)) (by decide +kernel)
theorem li_RX11_310 : Cond.methodLink RX11 310 mX2_end.1 ∈ gt := gt_ok (List.mem_of_getElem? (i := 860) (by decide +kernel)) (by decide +kernel)
abbrev mX2_ended : MI := (yX2_ended, prog_4_method_4_code, 2, some .int)
theorem ml_X2_ended : ML mX2_ended 1 := ⟨gt_ok (List.mem_of_getElem? (i := 938) (by decide +kernel)) (by decide +kernel), gt_ok (List.mem_of_getElem? (i := 97) (by decide +kernel)) (by decide +kernel), by decide +kernel, by decide +kernel, by decide +kernel⟩
theorem im_X2_ended : Cond.instanceMethod mX2_ended.1 ∈ gt := gt_ok (List.mem_of_getElem? (i := 936) (by decide +kernel)) (by decide +kernel)
theorem se_X2_ended : Cond.selects mX2_ended.1.cls mX2_ended.1 mX2_ended.1 ∈ gt := gt_ok (List.mem_of_getElem? (i := 937) (by decide +kernel)) (by decide +kernel)
theorem li_RX11_357 : Cond.methodLink RX11 357 mX2_ended.1 ∈ gt := gt_ok (List.mem_of_getElem? (i := 935) (by decide +kernel)) (by decide +kernel)
abbrev mX3_init : MI := (yX3_init, prog_5_method_1_code, 1, none)
theorem ml_X3_init : ML mX3_init 0 := ⟨gt_ok (List.mem_of_getElem? (i := 198) (by decide +kernel)) (by decide +kernel), gt_ok (List.mem_of_getElem? (i := 95) (by decide +kernel)) (by decide +kernel), by decide +kernel, by decide +kernel, by decide +kernel⟩
theorem im_X3_init : Cond.instanceMethod mX3_init.1 ∈ gt := gt_ok (List.mem_of_getElem? (i := 197) (by decide +kernel)) (by decide +kernel)
abbrev mX3_start : MI := (yX3_start, prog_5_method_2_code, 5, none)
theorem ml_X3_start : ML mX3_start 3 := ⟨gt_ok (List.mem_of_getElem? (i := 686) (by decide +kernel)) (by decide +kernel), gt_ok (List.mem_of_getElem? (i := 95) (by decide +kernel)) (by decide +kernel), by decide +kernel, by decide +kernel, by decide +kernel⟩
theorem im_X3_start : Cond.instanceMethod mX3_start.1 ∈ gt := gt_ok (List.mem_of_getElem? (i := 684) (by decide +kernel)) (by decide +kernel)
theorem se_X3_start : Cond.selects mX3_start.1.cls mX3_start.1 mX3_start.1 ∈ gt := gt_ok (List.mem_of_getElem? (i := 685) (by decide +kernel)) (by decide +kernel)
theorem li_RX11_254 : Cond.methodLink RX11 254 mX3_start.1 ∈ gt := gt_ok (List.mem_of_getElem? (i := 683) (by decide +kernel)) (by decide +kernel)
abbrev mX3_howManyCome : MI := (yX3_howManyCome, prog_5_method_3_code, 4, some .int)
theorem ml_X3_howManyCome : ML mX3_howManyCome 1 := ⟨gt_ok (List.mem_of_getElem? (i := 694) (by decide +kernel)) (by decide +kernel), gt_ok (List.mem_of_getElem? (i := 95) (by decide +kernel)) (by decide +kernel), by decide +kernel, by decide +kernel, by decide +kernel⟩
theorem im_X3_howManyCome : Cond.instanceMethod mX3_howManyCome.1 ∈ gt := gt_ok (List.mem_of_getElem? (i := 692) (by decide +kernel)) (by decide +kernel)
theorem se_X3_howManyCome : Cond.selects mX3_howManyCome.1.cls mX3_howManyCome.1 mX3_howManyCome.1 ∈ gt := gt_ok (List.mem_of_getElem? (i := 693) (by decide +kernel)) (by decide +kernel)
theorem li_RX11_260 : Cond.methodLink RX11 260 mX3_howManyCome.1 ∈ gt := gt_ok (List.mem_of_getElem? (i := 691) (by decide +kernel)) (by decide +kernel)
abbrev mX3_bring : MI := (yX3_bring, prog_5_method_4_code, 9, some .long)
theorem ml_X3_bring : ML mX3_bring 2 := ⟨gt_ok (List.mem_of_getElem? (i := 703) (by decide +kernel)) (by decide +kernel), gt_ok (List.mem_of_getElem? (i := 95) (by decide +kernel)) (by decide +kernel), by decide +kernel, by decide +kernel, by decide +kernel⟩
theorem im_X3_bring : Cond.instanceMethod mX3_bring.1 ∈ gt := gt_ok (List.mem_of_getElem? (i := 701) (by decide +kernel)) (by decide +kernel)
theorem se_X3_bring : Cond.selects mX3_bring.1.cls mX3_bring.1 mX3_bring.1 ∈ gt := gt_ok (List.mem_of_getElem? (i := 702) (by decide +kernel)) (by decide +kernel)
theorem li_RX11_270 : Cond.methodLink RX11 270 mX3_bring.1 ∈ gt := gt_ok (List.mem_of_getElem? (i := 700) (by decide +kernel)) (by decide +kernel)
abbrev mX4_init : MI := (yX4_init, prog_6_method_1_code, 1, none)
theorem ml_X4_init : ML mX4_init 0 := ⟨gt_ok (List.mem_of_getElem? (i := 183) (by decide +kernel)) (by decide +kernel), gt_ok (List.mem_of_getElem? (i := 94) (by decide +kernel)) (by decide +kernel), by decide +kernel, by decide +kernel, by decide +kernel⟩
theorem im_X4_init : Cond.instanceMethod mX4_init.1 ∈ gt := gt_ok (List.mem_of_getElem? (i := 182) (by decide +kernel)) (by decide +kernel)
abbrev mX4_isUnder : MI := (yX4_isUnder, prog_6_method_2_code, 4, some .boolean)
theorem ml_X4_isUnder : ML mX4_isUnder 1 := ⟨gt_ok (List.mem_of_getElem? (i := 641) (by decide +kernel)) (by decide +kernel), gt_ok (List.mem_of_getElem? (i := 94) (by decide +kernel)) (by decide +kernel), by decide +kernel, by decide +kernel, by decide +kernel⟩
theorem im_X4_isUnder : Cond.instanceMethod mX4_isUnder.1 ∈ gt := gt_ok (List.mem_of_getElem? (i := 639) (by decide +kernel)) (by decide +kernel)
theorem se_X4_isUnder : Cond.selects mX4_isUnder.1.cls mX4_isUnder.1 mX4_isUnder.1 ∈ gt := gt_ok (List.mem_of_getElem? (i := 640) (by decide +kernel)) (by decide +kernel)
theorem li_RX11_237 : Cond.methodLink RX11 237 mX4_isUnder.1 ∈ gt := gt_ok (List.mem_of_getElem? (i := 638) (by decide +kernel)) (by decide +kernel)
abbrev mX4_sizeOf : MI := (yX4_sizeOf, prog_6_method_3_code, 3, some .int)
theorem ml_X4_sizeOf : ML mX4_sizeOf 2 := ⟨gt_ok (List.mem_of_getElem? (i := 603) (by decide +kernel)) (by decide +kernel), gt_ok (List.mem_of_getElem? (i := 94) (by decide +kernel)) (by decide +kernel), by decide +kernel, by decide +kernel, by decide +kernel⟩
theorem im_X4_sizeOf : Cond.instanceMethod mX4_sizeOf.1 ∈ gt := gt_ok (List.mem_of_getElem? (i := 601) (by decide +kernel)) (by decide +kernel)
theorem se_X4_sizeOf : Cond.selects mX4_sizeOf.1.cls mX4_sizeOf.1 mX4_sizeOf.1 ∈ gt := gt_ok (List.mem_of_getElem? (i := 602) (by decide +kernel)) (by decide +kernel)
theorem li_RX11_205 : Cond.methodLink RX11 205 mX4_sizeOf.1 ∈ gt := gt_ok (List.mem_of_getElem? (i := 600) (by decide +kernel)) (by decide +kernel)
theorem li_RX4_44 : Cond.methodLink RX4 44 mX4_sizeOf.1 ∈ gt := gt_ok (List.mem_of_getElem? (i := 610) (by decide +kernel)) (by decide +kernel)
abbrev mX4_tierOf : MI := (yX4_tierOf, prog_6_method_4_code, 4, some .int)
theorem ml_X4_tierOf : ML mX4_tierOf 2 := ⟨gt_ok (List.mem_of_getElem? (i := 609) (by decide +kernel)) (by decide +kernel), gt_ok (List.mem_of_getElem? (i := 94) (by decide +kernel)) (by decide +kernel), by decide +kernel, by decide +kernel, by decide +kernel⟩
theorem im_X4_tierOf : Cond.instanceMethod mX4_tierOf.1 ∈ gt := gt_ok (List.mem_of_getElem? (i := 607) (by decide +kernel)) (by decide +kernel)
theorem se_X4_tierOf : Cond.selects mX4_tierOf.1.cls mX4_tierOf.1 mX4_tierOf.1 ∈ gt := gt_ok (List.mem_of_getElem? (i := 608) (by decide +kernel)) (by decide +kernel)
theorem li_RX11_209 : Cond.methodLink RX11 209 mX4_tierOf.1 ∈ gt := gt_ok (List.mem_of_getElem? (i := 606) (by decide +kernel)) (by decide +kernel)
theorem li_RX4_55 : Cond.methodLink RX4 55 mX4_tierOf.1 ∈ gt := gt_ok (List.mem_of_getElem? (i := 656) (by decide +kernel)) (by decide +kernel)
abbrev mX4_width : MI := (yX4_width, prog_6_method_5_code, 1, some .int)
theorem ml_X4_width : ML mX4_width 0 := ⟨gt_ok (List.mem_of_getElem? (i := 655) (by decide +kernel)) (by decide +kernel), gt_ok (List.mem_of_getElem? (i := 94) (by decide +kernel)) (by decide +kernel), by decide +kernel, by decide +kernel, by decide +kernel⟩
theorem im_X4_width : Cond.instanceMethod mX4_width.1 ∈ gt := gt_ok (List.mem_of_getElem? (i := 653) (by decide +kernel)) (by decide +kernel)
theorem se_X4_width : Cond.selects mX4_width.1.cls mX4_width.1 mX4_width.1 ∈ gt := gt_ok (List.mem_of_getElem? (i := 654) (by decide +kernel)) (by decide +kernel)
theorem li_RX11_244 : Cond.methodLink RX11 244 mX4_width.1 ∈ gt := gt_ok (List.mem_of_getElem? (i := 673) (by decide +kernel)) (by decide +kernel)
theorem li_RX4_48 : Cond.methodLink RX4 48 mX4_width.1 ∈ gt := gt_ok (List.mem_of_getElem? (i := 652) (by decide +kernel)) (by decide +kernel)
abbrev mX4_choose : MI := (yX4_choose, prog_6_method_6_code, 6, some .int)
theorem ml_X4_choose : ML mX4_choose 1 := ⟨gt_ok (List.mem_of_getElem? (i := 651) (by decide +kernel)) (by decide +kernel), gt_ok (List.mem_of_getElem? (i := 94) (by decide +kernel)) (by decide +kernel), by decide +kernel, by decide +kernel, by decide +kernel⟩
theorem im_X4_choose : Cond.instanceMethod mX4_choose.1 ∈ gt := gt_ok (List.mem_of_getElem? (i := 649) (by decide +kernel)) (by decide +kernel)
theorem se_X4_choose : Cond.selects mX4_choose.1.cls mX4_choose.1 mX4_choose.1 ∈ gt := gt_ok (List.mem_of_getElem? (i := 650) (by decide +kernel)) (by decide +kernel)
theorem li_RX11_240 : Cond.methodLink RX11 240 mX4_choose.1 ∈ gt := gt_ok (List.mem_of_getElem? (i := 648) (by decide +kernel)) (by decide +kernel)
abbrev mX4_isFit : MI := (yX4_isFit, prog_6_method_7_code, 3, some .boolean)
theorem ml_X4_isFit : ML mX4_isFit 2 := ⟨gt_ok (List.mem_of_getElem? (i := 660) (by decide +kernel)) (by decide +kernel), gt_ok (List.mem_of_getElem? (i := 94) (by decide +kernel)) (by decide +kernel), by decide +kernel, by decide +kernel, by decide +kernel⟩
theorem im_X4_isFit : Cond.instanceMethod mX4_isFit.1 ∈ gt := gt_ok (List.mem_of_getElem? (i := 659) (by decide +kernel)) (by decide +kernel)
theorem se_X4_isFit : Cond.selects mX4_isFit.1.cls mX4_isFit.1 mX4_isFit.1 ∈ gt := gt_ok (List.mem_of_getElem? (i := 12) (by decide +kernel)) (by decide +kernel)
theorem li_RX4_58 : Cond.methodLink RX4 58 mX4_isFit.1 ∈ gt := gt_ok (List.mem_of_getElem? (i := 657) (by decide +kernel)) (by decide +kernel)
abbrev mX4_areOfOneTier : MI := (yX4_areOfOneTier, prog_6_method_8_code, 5, some .boolean)
theorem ml_X4_areOfOneTier : ML mX4_areOfOneTier 2 := ⟨gt_ok (List.mem_of_getElem? (i := 664) (by decide +kernel)) (by decide +kernel), gt_ok (List.mem_of_getElem? (i := 94) (by decide +kernel)) (by decide +kernel), by decide +kernel, by decide +kernel, by decide +kernel⟩
theorem im_X4_areOfOneTier : Cond.instanceMethod mX4_areOfOneTier.1 ∈ gt := gt_ok (List.mem_of_getElem? (i := 663) (by decide +kernel)) (by decide +kernel)
theorem se_X4_areOfOneTier : Cond.selects mX4_areOfOneTier.1.cls mX4_areOfOneTier.1 mX4_areOfOneTier.1 ∈ gt := gt_ok (List.mem_of_getElem? (i := 13) (by decide +kernel)) (by decide +kernel)
theorem li_RX4_62 : Cond.methodLink RX4 62 mX4_areOfOneTier.1 ∈ gt := gt_ok (List.mem_of_getElem? (i := 661) (by decide +kernel)) (by decide +kernel)
abbrev mX4_areSmallTogether : MI := (yX4_areSmallTogether, prog_6_method_9_code, 5, some .boolean)
theorem ml_X4_areSmallTogether : ML mX4_areSmallTogether 2 := ⟨gt_ok (List.mem_of_getElem? (i := 668) (by decide +kernel)) (by decide +kernel), gt_ok (List.mem_of_getElem? (i := 94) (by decide +kernel)) (by decide +kernel), by decide +kernel, by decide +kernel, by decide +kernel⟩
theorem im_X4_areSmallTogether : Cond.instanceMethod mX4_areSmallTogether.1 ∈ gt := gt_ok (List.mem_of_getElem? (i := 667) (by decide +kernel)) (by decide +kernel)
theorem se_X4_areSmallTogether : Cond.selects mX4_areSmallTogether.1.cls mX4_areSmallTogether.1 mX4_areSmallTogether.1 ∈ gt := gt_ok (List.mem_of_getElem? (i := 14) (by decide +kernel)) (by decide +kernel)
theorem li_RX4_65 : Cond.methodLink RX4 65 mX4_areSmallTogether.1 ∈ gt := gt_ok (List.mem_of_getElem? (i := 665) (by decide +kernel)) (by decide +kernel)
abbrev mX4_hasDropped : MI := (yX4_hasDropped, prog_6_method_10_code, 4, some .boolean)
theorem ml_X4_hasDropped : ML mX4_hasDropped 2 := ⟨gt_ok (List.mem_of_getElem? (i := 672) (by decide +kernel)) (by decide +kernel), gt_ok (List.mem_of_getElem? (i := 94) (by decide +kernel)) (by decide +kernel), by decide +kernel, by decide +kernel, by decide +kernel⟩
theorem im_X4_hasDropped : Cond.instanceMethod mX4_hasDropped.1 ∈ gt := gt_ok (List.mem_of_getElem? (i := 671) (by decide +kernel)) (by decide +kernel)
theorem se_X4_hasDropped : Cond.selects mX4_hasDropped.1.cls mX4_hasDropped.1 mX4_hasDropped.1 ∈ gt := gt_ok (List.mem_of_getElem? (i := 15) (by decide +kernel)) (by decide +kernel)
theorem li_RX4_68 : Cond.methodLink RX4 68 mX4_hasDropped.1 ∈ gt := gt_ok (List.mem_of_getElem? (i := 669) (by decide +kernel)) (by decide +kernel)
abbrev mX5_init : MI := (yX5_init, prog_7_method_1_code, 1, none)
theorem ml_X5_init : ML mX5_init 0 := ⟨gt_ok (List.mem_of_getElem? (i := 298) (by decide +kernel)) (by decide +kernel), gt_ok (List.mem_of_getElem? (i := 99) (by decide +kernel)) (by decide +kernel), by decide +kernel, by decide +kernel, by decide +kernel⟩
theorem im_X5_init : Cond.instanceMethod mX5_init.1 ∈ gt := gt_ok (List.mem_of_getElem? (i := 297) (by decide +kernel)) (by decide +kernel)
abbrev mX5_put : MI := (yX5_put, prog_7_method_2_code, 2, none)
theorem ml_X5_put : ML mX5_put 1 := ⟨gt_ok (List.mem_of_getElem? (i := 778) (by decide +kernel)) (by decide +kernel), gt_ok (List.mem_of_getElem? (i := 99) (by decide +kernel)) (by decide +kernel), by decide +kernel, by decide +kernel, by decide +kernel⟩
theorem im_X5_put : Cond.instanceMethod mX5_put.1 ∈ gt := gt_ok (List.mem_of_getElem? (i := 776) (by decide +kernel)) (by decide +kernel)
theorem se_X5_put : Cond.selects mX5_put.1.cls mX5_put.1 mX5_put.1 ∈ gt := gt_ok (List.mem_of_getElem? (i := 777) (by decide +kernel)) (by decide +kernel)
theorem li_RX5_22 : Cond.methodLink RX5 22 mX5_put.1 ∈ gt := gt_ok (List.mem_of_getElem? (i := 793) (by decide +kernel)) (by decide +kernel)
theorem li_RX6_76 : Cond.methodLink RX6 76 mX5_put.1 ∈ gt := gt_ok (List.mem_of_getElem? (i := 775) (by decide +kernel)) (by decide +kernel)
abbrev mX5_put_ : MI := (yX5_put_, prog_7_method_3_code, 4, none)
theorem ml_X5_put_ : ML mX5_put_ 3 := ⟨gt_ok (List.mem_of_getElem? (i := 792) (by decide +kernel)) (by decide +kernel), gt_ok (List.mem_of_getElem? (i := 99) (by decide +kernel)) (by decide +kernel), by decide +kernel, by decide +kernel, by decide +kernel⟩
theorem im_X5_put_ : Cond.instanceMethod mX5_put_.1 ∈ gt := gt_ok (List.mem_of_getElem? (i := 790) (by decide +kernel)) (by decide +kernel)
theorem se_X5_put_ : Cond.selects mX5_put_.1.cls mX5_put_.1 mX5_put_.1 ∈ gt := gt_ok (List.mem_of_getElem? (i := 791) (by decide +kernel)) (by decide +kernel)
theorem li_RX6_98 : Cond.methodLink RX6 98 mX5_put_.1 ∈ gt := gt_ok (List.mem_of_getElem? (i := 789) (by decide +kernel)) (by decide +kernel)
abbrev mX5_worthIn : MI := (yX5_worthIn, prog_7_method_4_code, 6, some .int)
theorem ml_X5_worthIn : ML mX5_worthIn 1 := ⟨gt_ok (List.mem_of_getElem? (i := 484) (by decide +kernel)) (by decide +kernel), gt_ok (List.mem_of_getElem? (i := 99) (by decide +kernel)) (by decide +kernel), by decide +kernel, by decide +kernel, by decide +kernel⟩
theorem im_X5_worthIn : Cond.instanceMethod mX5_worthIn.1 ∈ gt := gt_ok (List.mem_of_getElem? (i := 482) (by decide +kernel)) (by decide +kernel)
theorem se_X5_worthIn : Cond.selects mX5_worthIn.1.cls mX5_worthIn.1 mX5_worthIn.1 ∈ gt := gt_ok (List.mem_of_getElem? (i := 483) (by decide +kernel)) (by decide +kernel)
theorem li_RX1_51 : Cond.methodLink RX1 51 mX5_worthIn.1 ∈ gt := gt_ok (List.mem_of_getElem? (i := 481) (by decide +kernel)) (by decide +kernel)
abbrev mX5_costIn : MI := (yX5_costIn, prog_7_method_5_code, 5, some .int)
theorem ml_X5_costIn : ML mX5_costIn 1 := ⟨gt_ok (List.mem_of_getElem? (i := 831) (by decide +kernel)) (by decide +kernel), gt_ok (List.mem_of_getElem? (i := 99) (by decide +kernel)) (by decide +kernel), by decide +kernel, by decide +kernel, by decide +kernel⟩
theorem im_X5_costIn : Cond.instanceMethod mX5_costIn.1 ∈ gt := gt_ok (List.mem_of_getElem? (i := 829) (by decide +kernel)) (by decide +kernel)
theorem se_X5_costIn : Cond.selects mX5_costIn.1.cls mX5_costIn.1 mX5_costIn.1 ∈ gt := gt_ok (List.mem_of_getElem? (i := 830) (by decide +kernel)) (by decide +kernel)
theorem li_RX11_360 : Cond.methodLink RX11 360 mX5_costIn.1 ∈ gt := gt_ok (List.mem_of_getElem? (i := 828) (by decide +kernel)) (by decide +kernel)
abbrev mX5_length : MI := (yX5_length, prog_7_method_6_code, 2, some .int)
theorem ml_X5_length : ML mX5_length 1 := ⟨gt_ok (List.mem_of_getElem? (i := 508) (by decide +kernel)) (by decide +kernel), gt_ok (List.mem_of_getElem? (i := 99) (by decide +kernel)) (by decide +kernel), by decide +kernel, by decide +kernel, by decide +kernel⟩
theorem im_X5_length : Cond.instanceMethod mX5_length.1 ∈ gt := gt_ok (List.mem_of_getElem? (i := 507) (by decide +kernel)) (by decide +kernel)
theorem se_X5_length : Cond.selects mX5_length.1.cls mX5_length.1 mX5_length.1 ∈ gt := gt_ok (List.mem_of_getElem? (i := 6) (by decide +kernel)) (by decide +kernel)
theorem li_RX5_30 : Cond.methodLink RX5 30 mX5_length.1 ∈ gt := gt_ok (List.mem_of_getElem? (i := 505) (by decide +kernel)) (by decide +kernel)
abbrev mX5_leafWorth : MI := (yX5_leafWorth, prog_7_method_7_code, 3, some .int)
theorem ml_X5_leafWorth : ML mX5_leafWorth 2 := ⟨gt_ok (List.mem_of_getElem? (i := 488) (by decide +kernel)) (by decide +kernel), gt_ok (List.mem_of_getElem? (i := 99) (by decide +kernel)) (by decide +kernel), by decide +kernel, by decide +kernel, by decide +kernel⟩
theorem im_X5_leafWorth : Cond.instanceMethod mX5_leafWorth.1 ∈ gt := gt_ok (List.mem_of_getElem? (i := 487) (by decide +kernel)) (by decide +kernel)
theorem se_X5_leafWorth : Cond.selects mX5_leafWorth.1.cls mX5_leafWorth.1 mX5_leafWorth.1 ∈ gt := gt_ok (List.mem_of_getElem? (i := 4) (by decide +kernel)) (by decide +kernel)
theorem li_RX5_26 : Cond.methodLink RX5 26 mX5_leafWorth.1 ∈ gt := gt_ok (List.mem_of_getElem? (i := 485) (by decide +kernel)) (by decide +kernel)
abbrev mX5_leafCost : MI := (yX5_leafCost, prog_7_method_8_code, 3, some .int)
theorem ml_X5_leafCost : ML mX5_leafCost 2 := ⟨gt_ok (List.mem_of_getElem? (i := 835) (by decide +kernel)) (by decide +kernel), gt_ok (List.mem_of_getElem? (i := 99) (by decide +kernel)) (by decide +kernel), by decide +kernel, by decide +kernel, by decide +kernel⟩
theorem im_X5_leafCost : Cond.instanceMethod mX5_leafCost.1 ∈ gt := gt_ok (List.mem_of_getElem? (i := 834) (by decide +kernel)) (by decide +kernel)
theorem se_X5_leafCost : Cond.selects mX5_leafCost.1.cls mX5_leafCost.1 mX5_leafCost.1 ∈ gt := gt_ok (List.mem_of_getElem? (i := 30) (by decide +kernel)) (by decide +kernel)
theorem li_RX5_47 : Cond.methodLink RX5 47 mX5_leafCost.1 ∈ gt := gt_ok (List.mem_of_getElem? (i := 832) (by decide +kernel)) (by decide +kernel)
abbrev mX5_wordCosts : MI := (yX5_wordCosts, prog_7_method_9_code, 6, some .int)
theorem ml_X5_wordCosts : ML mX5_wordCosts 3 := ⟨gt_ok (List.mem_of_getElem? (i := 843) (by decide +kernel)) (by decide +kernel), gt_ok (List.mem_of_getElem? (i := 99) (by decide +kernel)) (by decide +kernel), by decide +kernel, by decide +kernel, by decide +kernel⟩
theorem im_X5_wordCosts : Cond.instanceMethod mX5_wordCosts.1 ∈ gt := gt_ok (List.mem_of_getElem? (i := 842) (by decide +kernel)) (by decide +kernel)
theorem se_X5_wordCosts : Cond.selects mX5_wordCosts.1.cls mX5_wordCosts.1 mX5_wordCosts.1 ∈ gt := gt_ok (List.mem_of_getElem? (i := 31) (by decide +kernel)) (by decide +kernel)
theorem li_RX5_66 : Cond.methodLink RX5 66 mX5_wordCosts.1 ∈ gt := gt_ok (List.mem_of_getElem? (i := 840) (by decide +kernel)) (by decide +kernel)
abbrev mX5_placesBetween : MI := (yX5_placesBetween, prog_7_method_10_code, 5, some .int)
theorem ml_X5_placesBetween : ML mX5_placesBetween 3 := ⟨gt_ok (List.mem_of_getElem? (i := 491) (by decide +kernel)) (by decide +kernel), gt_ok (List.mem_of_getElem? (i := 99) (by decide +kernel)) (by decide +kernel), by decide +kernel, by decide +kernel, by decide +kernel⟩
theorem st_X5_placesBetween : Cond.static mX5_placesBetween.1 ∈ gt := gt_ok (List.mem_of_getElem? (i := 490) (by decide +kernel)) (by decide +kernel)
theorem li_RX5_51 : Cond.methodLink RX5 51 mX5_placesBetween.1 ∈ gt := gt_ok (List.mem_of_getElem? (i := 489) (by decide +kernel)) (by decide +kernel)
abbrev mX5_nearTwos : MI := (yX5_nearTwos, prog_7_method_11_code, 7, some .int)
theorem ml_X5_nearTwos : ML mX5_nearTwos 3 := ⟨gt_ok (List.mem_of_getElem? (i := 494) (by decide +kernel)) (by decide +kernel), gt_ok (List.mem_of_getElem? (i := 99) (by decide +kernel)) (by decide +kernel), by decide +kernel, by decide +kernel, by decide +kernel⟩
theorem st_X5_nearTwos : Cond.static mX5_nearTwos.1 ∈ gt := gt_ok (List.mem_of_getElem? (i := 493) (by decide +kernel)) (by decide +kernel)
theorem li_RX5_55 : Cond.methodLink RX5 55 mX5_nearTwos.1 ∈ gt := gt_ok (List.mem_of_getElem? (i := 492) (by decide +kernel)) (by decide +kernel)
abbrev mX5_phrasesIn : MI := (yX5_phrasesIn, prog_7_method_12_code, 7, some .int)
theorem ml_X5_phrasesIn : ML mX5_phrasesIn 3 := ⟨gt_ok (List.mem_of_getElem? (i := 504) (by decide +kernel)) (by decide +kernel), gt_ok (List.mem_of_getElem? (i := 99) (by decide +kernel)) (by decide +kernel), by decide +kernel, by decide +kernel, by decide +kernel⟩
theorem im_X5_phrasesIn : Cond.instanceMethod mX5_phrasesIn.1 ∈ gt := gt_ok (List.mem_of_getElem? (i := 503) (by decide +kernel)) (by decide +kernel)
theorem se_X5_phrasesIn : Cond.selects mX5_phrasesIn.1.cls mX5_phrasesIn.1 mX5_phrasesIn.1 ∈ gt := gt_ok (List.mem_of_getElem? (i := 5) (by decide +kernel)) (by decide +kernel)
theorem li_RX5_58 : Cond.methodLink RX5 58 mX5_phrasesIn.1 ∈ gt := gt_ok (List.mem_of_getElem? (i := 501) (by decide +kernel)) (by decide +kernel)
abbrev mX6_init : MI := (yX6_init, prog_8_method_1_code, 2, none)
theorem ml_X6_init : ML mX6_init 1 := ⟨gt_ok (List.mem_of_getElem? (i := 222) (by decide +kernel)) (by decide +kernel), gt_ok (List.mem_of_getElem? (i := 96) (by decide +kernel)) (by decide +kernel), by decide +kernel, by decide +kernel, by decide +kernel⟩
theorem im_X6_init : Cond.instanceMethod mX6_init.1 ∈ gt := gt_ok (List.mem_of_getElem? (i := 221) (by decide +kernel)) (by decide +kernel)
theorem li_RX11_68 : Cond.methodLink RX11 68 mX6_init.1 ∈ gt := gt_ok (List.mem_of_getElem? (i := 220) (by decide +kernel)) (by decide +kernel)
abbrev mX6_read : MI := (yX6_read, prog_8_method_2_code, 2, some .int)
theorem ml_X6_read : ML mX6_read 1 := ⟨gt_ok (List.mem_of_getElem? (i := 744) (by decide +kernel)) (by decide +kernel), gt_ok (List.mem_of_getElem? (i := 96) (by decide +kernel)) (by decide +kernel), by decide +kernel, by decide +kernel, by decide +kernel⟩
theorem im_X6_read : Cond.instanceMethod mX6_read.1 ∈ gt := gt_ok (List.mem_of_getElem? (i := 742) (by decide +kernel)) (by decide +kernel)
theorem se_X6_read : Cond.selects mX6_read.1.cls mX6_read.1 mX6_read.1 ∈ gt := gt_ok (List.mem_of_getElem? (i := 743) (by decide +kernel)) (by decide +kernel)
theorem li_RX11_288 : Cond.methodLink RX11 288 mX6_read.1 ∈ gt := gt_ok (List.mem_of_getElem? (i := 741) (by decide +kernel)) (by decide +kernel)
abbrev mX6_refuse : MI := (yX6_refuse, prog_8_method_3_code, 1, none)
theorem ml_X6_refuse : ML mX6_refuse 0 := ⟨gt_ok (List.mem_of_getElem? (i := 774) (by decide +kernel)) (by decide +kernel), gt_ok (List.mem_of_getElem? (i := 96) (by decide +kernel)) (by decide +kernel), by decide +kernel, by decide +kernel, by decide +kernel⟩
theorem im_X6_refuse : Cond.instanceMethod mX6_refuse.1 ∈ gt := gt_ok (List.mem_of_getElem? (i := 773) (by decide +kernel)) (by decide +kernel)
theorem se_X6_refuse : Cond.selects mX6_refuse.1.cls mX6_refuse.1 mX6_refuse.1 ∈ gt := gt_ok (List.mem_of_getElem? (i := 23) (by decide +kernel)) (by decide +kernel)
theorem li_RX6_43 : Cond.methodLink RX6 43 mX6_refuse.1 ∈ gt := gt_ok (List.mem_of_getElem? (i := 771) (by decide +kernel)) (by decide +kernel)
abbrev mX6_next : MI := (yX6_next, prog_8_method_4_code, 1, none)
theorem ml_X6_next : ML mX6_next 0 := ⟨gt_ok (List.mem_of_getElem? (i := 748) (by decide +kernel)) (by decide +kernel), gt_ok (List.mem_of_getElem? (i := 96) (by decide +kernel)) (by decide +kernel), by decide +kernel, by decide +kernel, by decide +kernel⟩
theorem im_X6_next : Cond.instanceMethod mX6_next.1 ∈ gt := gt_ok (List.mem_of_getElem? (i := 747) (by decide +kernel)) (by decide +kernel)
theorem se_X6_next : Cond.selects mX6_next.1.cls mX6_next.1 mX6_next.1 ∈ gt := gt_ok (List.mem_of_getElem? (i := 18) (by decide +kernel)) (by decide +kernel)
theorem li_RX6_34 : Cond.methodLink RX6 34 mX6_next.1 ∈ gt := gt_ok (List.mem_of_getElem? (i := 745) (by decide +kernel)) (by decide +kernel)
abbrev mX6_wordToken : MI := (yX6_wordToken, prog_8_method_5_code, 1, some .int)
theorem ml_X6_wordToken : ML mX6_wordToken 1 := ⟨gt_ok (List.mem_of_getElem? (i := 754) (by decide +kernel)) (by decide +kernel), gt_ok (List.mem_of_getElem? (i := 96) (by decide +kernel)) (by decide +kernel), by decide +kernel, by decide +kernel, by decide +kernel⟩
theorem st_X6_wordToken : Cond.static mX6_wordToken.1 ∈ gt := gt_ok (List.mem_of_getElem? (i := 753) (by decide +kernel)) (by decide +kernel)
theorem li_RX6_66 : Cond.methodLink RX6 66 mX6_wordToken.1 ∈ gt := gt_ok (List.mem_of_getElem? (i := 752) (by decide +kernel)) (by decide +kernel)
abbrev mX6_readEither : MI := (yX6_readEither, prog_8_method_6_code, 2, none)
theorem ml_X6_readEither : ML mX6_readEither 0 := ⟨gt_ok (List.mem_of_getElem? (i := 758) (by decide +kernel)) (by decide +kernel), gt_ok (List.mem_of_getElem? (i := 96) (by decide +kernel)) (by decide +kernel), by decide +kernel, by decide +kernel, by decide +kernel⟩
theorem im_X6_readEither : Cond.instanceMethod mX6_readEither.1 ∈ gt := gt_ok (List.mem_of_getElem? (i := 757) (by decide +kernel)) (by decide +kernel)
theorem se_X6_readEither : Cond.selects mX6_readEither.1.cls mX6_readEither.1 mX6_readEither.1 ∈ gt := gt_ok (List.mem_of_getElem? (i := 19) (by decide +kernel)) (by decide +kernel)
theorem li_RX6_37 : Cond.methodLink RX6 37 mX6_readEither.1 ∈ gt := gt_ok (List.mem_of_getElem? (i := 755) (by decide +kernel)) (by decide +kernel)
abbrev mX6_readBoth : MI := (yX6_readBoth, prog_8_method_7_code, 2, none)
theorem ml_X6_readBoth : ML mX6_readBoth 0 := ⟨gt_ok (List.mem_of_getElem? (i := 762) (by decide +kernel)) (by decide +kernel), gt_ok (List.mem_of_getElem? (i := 96) (by decide +kernel)) (by decide +kernel), by decide +kernel, by decide +kernel, by decide +kernel⟩
theorem im_X6_readBoth : Cond.instanceMethod mX6_readBoth.1 ∈ gt := gt_ok (List.mem_of_getElem? (i := 761) (by decide +kernel)) (by decide +kernel)
theorem se_X6_readBoth : Cond.selects mX6_readBoth.1.cls mX6_readBoth.1 mX6_readBoth.1 ∈ gt := gt_ok (List.mem_of_getElem? (i := 20) (by decide +kernel)) (by decide +kernel)
theorem li_RX6_73 : Cond.methodLink RX6 73 mX6_readBoth.1 ∈ gt := gt_ok (List.mem_of_getElem? (i := 759) (by decide +kernel)) (by decide +kernel)
abbrev mX6_readOne : MI := (yX6_readOne, prog_8_method_8_code, 1, none)
theorem ml_X6_readOne : ML mX6_readOne 0 := ⟨gt_ok (List.mem_of_getElem? (i := 766) (by decide +kernel)) (by decide +kernel), gt_ok (List.mem_of_getElem? (i := 96) (by decide +kernel)) (by decide +kernel), by decide +kernel, by decide +kernel, by decide +kernel⟩
theorem im_X6_readOne : Cond.instanceMethod mX6_readOne.1 ∈ gt := gt_ok (List.mem_of_getElem? (i := 765) (by decide +kernel)) (by decide +kernel)
theorem se_X6_readOne : Cond.selects mX6_readOne.1.cls mX6_readOne.1 mX6_readOne.1 ∈ gt := gt_ok (List.mem_of_getElem? (i := 21) (by decide +kernel)) (by decide +kernel)
theorem li_RX6_80 : Cond.methodLink RX6 80 mX6_readOne.1 ∈ gt := gt_ok (List.mem_of_getElem? (i := 763) (by decide +kernel)) (by decide +kernel)
abbrev mX6_readNot : MI := (yX6_readNot, prog_8_method_9_code, 1, none)
theorem ml_X6_readNot : ML mX6_readNot 0 := ⟨gt_ok (List.mem_of_getElem? (i := 770) (by decide +kernel)) (by decide +kernel), gt_ok (List.mem_of_getElem? (i := 96) (by decide +kernel)) (by decide +kernel), by decide +kernel, by decide +kernel, by decide +kernel⟩
theorem im_X6_readNot : Cond.instanceMethod mX6_readNot.1 ∈ gt := gt_ok (List.mem_of_getElem? (i := 769) (by decide +kernel)) (by decide +kernel)
theorem se_X6_readNot : Cond.selects mX6_readNot.1.cls mX6_readNot.1 mX6_readNot.1 ∈ gt := gt_ok (List.mem_of_getElem? (i := 22) (by decide +kernel)) (by decide +kernel)
theorem li_RX6_83 : Cond.methodLink RX6 83 mX6_readNot.1 ∈ gt := gt_ok (List.mem_of_getElem? (i := 767) (by decide +kernel)) (by decide +kernel)
abbrev mX6_readBrackets : MI := (yX6_readBrackets, prog_8_method_10_code, 1, none)
theorem ml_X6_readBrackets : ML mX6_readBrackets 0 := ⟨gt_ok (List.mem_of_getElem? (i := 782) (by decide +kernel)) (by decide +kernel), gt_ok (List.mem_of_getElem? (i := 96) (by decide +kernel)) (by decide +kernel), by decide +kernel, by decide +kernel, by decide +kernel⟩
theorem im_X6_readBrackets : Cond.instanceMethod mX6_readBrackets.1 ∈ gt := gt_ok (List.mem_of_getElem? (i := 781) (by decide +kernel)) (by decide +kernel)
theorem se_X6_readBrackets : Cond.selects mX6_readBrackets.1.cls mX6_readBrackets.1 mX6_readBrackets.1 ∈ gt := gt_ok (List.mem_of_getElem? (i := 24) (by decide +kernel)) (by decide +kernel)
theorem li_RX6_86 : Cond.methodLink RX6 86 mX6_readBrackets.1 ∈ gt := gt_ok (List.mem_of_getElem? (i := 779) (by decide +kernel)) (by decide +kernel)
abbrev mX6_readWord : MI := (yX6_readWord, prog_8_method_11_code, 3, none)
theorem ml_X6_readWord : ML mX6_readWord 0 := ⟨gt_ok (List.mem_of_getElem? (i := 786) (by decide +kernel)) (by decide +kernel), gt_ok (List.mem_of_getElem? (i := 96) (by decide +kernel)) (by decide +kernel), by decide +kernel, by decide +kernel, by decide +kernel⟩
theorem im_X6_readWord : Cond.instanceMethod mX6_readWord.1 ∈ gt := gt_ok (List.mem_of_getElem? (i := 785) (by decide +kernel)) (by decide +kernel)
theorem se_X6_readWord : Cond.selects mX6_readWord.1.cls mX6_readWord.1 mX6_readWord.1 ∈ gt := gt_ok (List.mem_of_getElem? (i := 25) (by decide +kernel)) (by decide +kernel)
theorem li_RX6_89 : Cond.methodLink RX6 89 mX6_readWord.1 ∈ gt := gt_ok (List.mem_of_getElem? (i := 783) (by decide +kernel)) (by decide +kernel)
abbrev mX6_readPhrase : MI := (yX6_readPhrase, prog_8_method_12_code, 3, none)
theorem ml_X6_readPhrase : ML mX6_readPhrase 0 := ⟨gt_ok (List.mem_of_getElem? (i := 797) (by decide +kernel)) (by decide +kernel), gt_ok (List.mem_of_getElem? (i := 96) (by decide +kernel)) (by decide +kernel), by decide +kernel, by decide +kernel, by decide +kernel⟩
theorem im_X6_readPhrase : Cond.instanceMethod mX6_readPhrase.1 ∈ gt := gt_ok (List.mem_of_getElem? (i := 796) (by decide +kernel)) (by decide +kernel)
theorem se_X6_readPhrase : Cond.selects mX6_readPhrase.1.cls mX6_readPhrase.1 mX6_readPhrase.1 ∈ gt := gt_ok (List.mem_of_getElem? (i := 26) (by decide +kernel)) (by decide +kernel)
theorem li_RX6_92 : Cond.methodLink RX6 92 mX6_readPhrase.1 ∈ gt := gt_ok (List.mem_of_getElem? (i := 794) (by decide +kernel)) (by decide +kernel)
abbrev mX7_init : MI := (yX7_init, prog_9_method_1_code, 6, none)
theorem ml_X7_init : ML mX7_init 2 := ⟨gt_ok (List.mem_of_getElem? (i := 525) (by decide +kernel)) (by decide +kernel), gt_ok (List.mem_of_getElem? (i := 105) (by decide +kernel)) (by decide +kernel), by decide +kernel, by decide +kernel, by decide +kernel⟩
theorem im_X7_init : Cond.instanceMethod mX7_init.1 ∈ gt := gt_ok (List.mem_of_getElem? (i := 524) (by decide +kernel)) (by decide +kernel)
theorem li_RX11_170 : Cond.methodLink RX11 170 mX7_init.1 ∈ gt := gt_ok (List.mem_of_getElem? (i := 523) (by decide +kernel)) (by decide +kernel)
abbrev mX7_notePosting : MI := (yX7_notePosting, prog_9_method_2_code, 5, none)
theorem ml_X7_notePosting : ML mX7_notePosting 2 := ⟨gt_ok (List.mem_of_getElem? (i := 534) (by decide +kernel)) (by decide +kernel), gt_ok (List.mem_of_getElem? (i := 105) (by decide +kernel)) (by decide +kernel), by decide +kernel, by decide +kernel, by decide +kernel⟩
theorem im_X7_notePosting : Cond.instanceMethod mX7_notePosting.1 ∈ gt := gt_ok (List.mem_of_getElem? (i := 533) (by decide +kernel)) (by decide +kernel)
theorem se_X7_notePosting : Cond.selects mX7_notePosting.1.cls mX7_notePosting.1 mX7_notePosting.1 ∈ gt := gt_ok (List.mem_of_getElem? (i := 8) (by decide +kernel)) (by decide +kernel)
theorem li_RX7_34 : Cond.methodLink RX7 34 mX7_notePosting.1 ∈ gt := gt_ok (List.mem_of_getElem? (i := 531) (by decide +kernel)) (by decide +kernel)
abbrev mX7_firstNotBelow : MI := (yX7_firstNotBelow, prog_9_method_3_code, 5, some .int)
theorem ml_X7_firstNotBelow : ML mX7_firstNotBelow 1 := ⟨gt_ok (List.mem_of_getElem? (i := 538) (by decide +kernel)) (by decide +kernel), gt_ok (List.mem_of_getElem? (i := 105) (by decide +kernel)) (by decide +kernel), by decide +kernel, by decide +kernel, by decide +kernel⟩
theorem im_X7_firstNotBelow : Cond.instanceMethod mX7_firstNotBelow.1 ∈ gt := gt_ok (List.mem_of_getElem? (i := 537) (by decide +kernel)) (by decide +kernel)
theorem se_X7_firstNotBelow : Cond.selects mX7_firstNotBelow.1.cls mX7_firstNotBelow.1 mX7_firstNotBelow.1 ∈ gt := gt_ok (List.mem_of_getElem? (i := 9) (by decide +kernel)) (by decide +kernel)
theorem li_RX7_38 : Cond.methodLink RX7 38 mX7_firstNotBelow.1 ∈ gt := gt_ok (List.mem_of_getElem? (i := 535) (by decide +kernel)) (by decide +kernel)
abbrev mX7_postingsBetween : MI := (yX7_postingsBetween, prog_9_method_4_code, 5, some .int)
theorem ml_X7_postingsBetween : ML mX7_postingsBetween 2 := ⟨gt_ok (List.mem_of_getElem? (i := 839) (by decide +kernel)) (by decide +kernel), gt_ok (List.mem_of_getElem? (i := 105) (by decide +kernel)) (by decide +kernel), by decide +kernel, by decide +kernel, by decide +kernel⟩
theorem im_X7_postingsBetween : Cond.instanceMethod mX7_postingsBetween.1 ∈ gt := gt_ok (List.mem_of_getElem? (i := 837) (by decide +kernel)) (by decide +kernel)
theorem se_X7_postingsBetween : Cond.selects mX7_postingsBetween.1.cls mX7_postingsBetween.1 mX7_postingsBetween.1 ∈ gt := gt_ok (List.mem_of_getElem? (i := 838) (by decide +kernel)) (by decide +kernel)
theorem li_RX5_61 : Cond.methodLink RX5 61 mX7_postingsBetween.1 ∈ gt := gt_ok (List.mem_of_getElem? (i := 836) (by decide +kernel)) (by decide +kernel)
abbrev mX8_init : MI := (yX8_init, prog_10_method_1_code, 1, none)
theorem ml_X8_init : ML mX8_init 0 := ⟨gt_ok (List.mem_of_getElem? (i := 315) (by decide +kernel)) (by decide +kernel), gt_ok (List.mem_of_getElem? (i := 100) (by decide +kernel)) (by decide +kernel), by decide +kernel, by decide +kernel, by decide +kernel⟩
theorem im_X8_init : Cond.instanceMethod mX8_init.1 ∈ gt := gt_ok (List.mem_of_getElem? (i := 314) (by decide +kernel)) (by decide +kernel)
abbrev mX8_isMissing : MI := (yX8_isMissing, prog_10_method_2_code, 1, some .boolean)
theorem ml_X8_isMissing : ML mX8_isMissing 0 := ⟨gt_ok (List.mem_of_getElem? (i := 892) (by decide +kernel)) (by decide +kernel), gt_ok (List.mem_of_getElem? (i := 100) (by decide +kernel)) (by decide +kernel), by decide +kernel, by decide +kernel, by decide +kernel⟩
theorem im_X8_isMissing : Cond.instanceMethod mX8_isMissing.1 ∈ gt := gt_ok (List.mem_of_getElem? (i := 890) (by decide +kernel)) (by decide +kernel)
theorem se_X8_isMissing : Cond.selects mX8_isMissing.1.cls mX8_isMissing.1 mX8_isMissing.1 ∈ gt := gt_ok (List.mem_of_getElem? (i := 891) (by decide +kernel)) (by decide +kernel)
theorem li_RX11_325 : Cond.methodLink RX11 325 mX8_isMissing.1 ∈ gt := gt_ok (List.mem_of_getElem? (i := 889) (by decide +kernel)) (by decide +kernel)
abbrev mX8_become : MI := (yX8_become, prog_10_method_3_code, 4, none)
theorem ml_X8_become : ML mX8_become 2 := ⟨gt_ok (List.mem_of_getElem? (i := 918) (by decide +kernel)) (by decide +kernel), gt_ok (List.mem_of_getElem? (i := 100) (by decide +kernel)) (by decide +kernel), by decide +kernel, by decide +kernel, by decide +kernel⟩
theorem im_X8_become : Cond.instanceMethod mX8_become.1 ∈ gt := gt_ok (List.mem_of_getElem? (i := 916) (by decide +kernel)) (by decide +kernel)
theorem se_X8_become : Cond.selects mX8_become.1.cls mX8_become.1 mX8_become.1 ∈ gt := gt_ok (List.mem_of_getElem? (i := 917) (by decide +kernel)) (by decide +kernel)
theorem li_RX11_343 : Cond.methodLink RX11 343 mX8_become.1 ∈ gt := gt_ok (List.mem_of_getElem? (i := 915) (by decide +kernel)) (by decide +kernel)
abbrev mX8_hasItems : MI := (yX8_hasItems, prog_10_method_4_code, 3, some .boolean)
theorem ml_X8_hasItems : ML mX8_hasItems 2 := ⟨gt_ok (List.mem_of_getElem? (i := 926) (by decide +kernel)) (by decide +kernel), gt_ok (List.mem_of_getElem? (i := 100) (by decide +kernel)) (by decide +kernel), by decide +kernel, by decide +kernel, by decide +kernel⟩
theorem im_X8_hasItems : Cond.instanceMethod mX8_hasItems.1 ∈ gt := gt_ok (List.mem_of_getElem? (i := 924) (by decide +kernel)) (by decide +kernel)
theorem se_X8_hasItems : Cond.selects mX8_hasItems.1.cls mX8_hasItems.1 mX8_hasItems.1 ∈ gt := gt_ok (List.mem_of_getElem? (i := 925) (by decide +kernel)) (by decide +kernel)
theorem li_RX11_375 : Cond.methodLink RX11 375 mX8_hasItems.1 ∈ gt := gt_ok (List.mem_of_getElem? (i := 947) (by decide +kernel)) (by decide +kernel)
theorem li_RX8_22 : Cond.methodLink RX8 22 mX8_hasItems.1 ∈ gt := gt_ok (List.mem_of_getElem? (i := 923) (by decide +kernel)) (by decide +kernel)
abbrev mX8_put : MI := (yX8_put, prog_10_method_5_code, 3, none)
theorem ml_X8_put : ML mX8_put 2 := ⟨gt_ok (List.mem_of_getElem? (i := 922) (by decide +kernel)) (by decide +kernel), gt_ok (List.mem_of_getElem? (i := 100) (by decide +kernel)) (by decide +kernel), by decide +kernel, by decide +kernel, by decide +kernel⟩
theorem im_X8_put : Cond.instanceMethod mX8_put.1 ∈ gt := gt_ok (List.mem_of_getElem? (i := 920) (by decide +kernel)) (by decide +kernel)
theorem se_X8_put : Cond.selects mX8_put.1.cls mX8_put.1 mX8_put.1 ∈ gt := gt_ok (List.mem_of_getElem? (i := 921) (by decide +kernel)) (by decide +kernel)
theorem li_RX11_348 : Cond.methodLink RX11 348 mX8_put.1 ∈ gt := gt_ok (List.mem_of_getElem? (i := 919) (by decide +kernel)) (by decide +kernel)
abbrev mX8_firstOtherwise : MI := (yX8_firstOtherwise, prog_10_method_6_code, 5, some .int)
theorem ml_X8_firstOtherwise : ML mX8_firstOtherwise 2 := ⟨gt_ok (List.mem_of_getElem? (i := 900) (by decide +kernel)) (by decide +kernel), gt_ok (List.mem_of_getElem? (i := 100) (by decide +kernel)) (by decide +kernel), by decide +kernel, by decide +kernel, by decide +kernel⟩
theorem im_X8_firstOtherwise : Cond.instanceMethod mX8_firstOtherwise.1 ∈ gt := gt_ok (List.mem_of_getElem? (i := 898) (by decide +kernel)) (by decide +kernel)
theorem se_X8_firstOtherwise : Cond.selects mX8_firstOtherwise.1.cls mX8_firstOtherwise.1 mX8_firstOtherwise.1 ∈ gt := gt_ok (List.mem_of_getElem? (i := 899) (by decide +kernel)) (by decide +kernel)
theorem li_RX11_369 : Cond.methodLink RX11 369 mX8_firstOtherwise.1 ∈ gt := gt_ok (List.mem_of_getElem? (i := 897) (by decide +kernel)) (by decide +kernel)
abbrev mX9_init : MI := (yX9_init, prog_11_method_1_code, 1, none)
theorem ml_X9_init : ML mX9_init 0 := ⟨gt_ok (List.mem_of_getElem? (i := 148) (by decide +kernel)) (by decide +kernel), gt_ok (List.mem_of_getElem? (i := 93) (by decide +kernel)) (by decide +kernel), by decide +kernel, by decide +kernel, by decide +kernel⟩
theorem im_X9_init : Cond.instanceMethod mX9_init.1 ∈ gt := gt_ok (List.mem_of_getElem? (i := 147) (by decide +kernel)) (by decide +kernel)
abbrev mX9_become : MI := (yX9_become, prog_11_method_2_code, 3, none)
theorem ml_X9_become : ML mX9_become 1 := ⟨gt_ok (List.mem_of_getElem? (i := 728) (by decide +kernel)) (by decide +kernel), gt_ok (List.mem_of_getElem? (i := 93) (by decide +kernel)) (by decide +kernel), by decide +kernel, by decide +kernel, by decide +kernel⟩
theorem im_X9_become : Cond.instanceMethod mX9_become.1 ∈ gt := gt_ok (List.mem_of_getElem? (i := 726) (by decide +kernel)) (by decide +kernel)
theorem se_X9_become : Cond.selects mX9_become.1.cls mX9_become.1 mX9_become.1 ∈ gt := gt_ok (List.mem_of_getElem? (i := 727) (by decide +kernel)) (by decide +kernel)
theorem li_RX11_281 : Cond.methodLink RX11 281 mX9_become.1 ∈ gt := gt_ok (List.mem_of_getElem? (i := 725) (by decide +kernel)) (by decide +kernel)
abbrev mX9_append : MI := (yX9_append, prog_11_method_3_code, 2, none)
theorem ml_X9_append : ML mX9_append 1 := ⟨gt_ok (List.mem_of_getElem? (i := 577) (by decide +kernel)) (by decide +kernel), gt_ok (List.mem_of_getElem? (i := 93) (by decide +kernel)) (by decide +kernel), by decide +kernel, by decide +kernel, by decide +kernel⟩
theorem im_X9_append : Cond.instanceMethod mX9_append.1 ∈ gt := gt_ok (List.mem_of_getElem? (i := 575) (by decide +kernel)) (by decide +kernel)
theorem se_X9_append : Cond.selects mX9_append.1.cls mX9_append.1 mX9_append.1 ∈ gt := gt_ok (List.mem_of_getElem? (i := 576) (by decide +kernel)) (by decide +kernel)
theorem li_RX11_173 : Cond.methodLink RX11 173 mX9_append.1 ∈ gt := gt_ok (List.mem_of_getElem? (i := 574) (by decide +kernel)) (by decide +kernel)
abbrev mX9_remove : MI := (yX9_remove, prog_11_method_4_code, 4, none)
theorem ml_X9_remove : ML mX9_remove 2 := ⟨gt_ok (List.mem_of_getElem? (i := 699) (by decide +kernel)) (by decide +kernel), gt_ok (List.mem_of_getElem? (i := 93) (by decide +kernel)) (by decide +kernel), by decide +kernel, by decide +kernel, by decide +kernel⟩
theorem im_X9_remove : Cond.instanceMethod mX9_remove.1 ∈ gt := gt_ok (List.mem_of_getElem? (i := 697) (by decide +kernel)) (by decide +kernel)
theorem se_X9_remove : Cond.selects mX9_remove.1.cls mX9_remove.1 mX9_remove.1 ∈ gt := gt_ok (List.mem_of_getElem? (i := 698) (by decide +kernel)) (by decide +kernel)
theorem li_RX11_266 : Cond.methodLink RX11 266 mX9_remove.1 ∈ gt := gt_ok (List.mem_of_getElem? (i := 696) (by decide +kernel)) (by decide +kernel)
abbrev mX9_isDropped : MI := (yX9_isDropped, prog_11_method_5_code, 3, some .boolean)
theorem ml_X9_isDropped : ML mX9_isDropped 2 := ⟨gt_ok (List.mem_of_getElem? (i := 439) (by decide +kernel)) (by decide +kernel), gt_ok (List.mem_of_getElem? (i := 93) (by decide +kernel)) (by decide +kernel), by decide +kernel, by decide +kernel, by decide +kernel⟩
theorem im_X9_isDropped : Cond.instanceMethod mX9_isDropped.1 ∈ gt := gt_ok (List.mem_of_getElem? (i := 437) (by decide +kernel)) (by decide +kernel)
theorem se_X9_isDropped : Cond.selects mX9_isDropped.1.cls mX9_isDropped.1 mX9_isDropped.1 ∈ gt := gt_ok (List.mem_of_getElem? (i := 438) (by decide +kernel)) (by decide +kernel)
theorem li_RX11_189 : Cond.methodLink RX11 189 mX9_isDropped.1 ∈ gt := gt_ok (List.mem_of_getElem? (i := 436) (by decide +kernel)) (by decide +kernel)
theorem li_RX1_42 : Cond.methodLink RX1 42 mX9_isDropped.1 ∈ gt := gt_ok (List.mem_of_getElem? (i := 480) (by decide +kernel)) (by decide +kernel)
theorem li_RX3_47 : Cond.methodLink RX3 47 mX9_isDropped.1 ∈ gt := gt_ok (List.mem_of_getElem? (i := 704) (by decide +kernel)) (by decide +kernel)
abbrev mX9_liveIn : MI := (yX9_liveIn, prog_11_method_6_code, 2, some .int)
theorem ml_X9_liveIn : ML mX9_liveIn 1 := ⟨gt_ok (List.mem_of_getElem? (i := 593) (by decide +kernel)) (by decide +kernel), gt_ok (List.mem_of_getElem? (i := 93) (by decide +kernel)) (by decide +kernel), by decide +kernel, by decide +kernel, by decide +kernel⟩
theorem im_X9_liveIn : Cond.instanceMethod mX9_liveIn.1 ∈ gt := gt_ok (List.mem_of_getElem? (i := 591) (by decide +kernel)) (by decide +kernel)
theorem se_X9_liveIn : Cond.selects mX9_liveIn.1.cls mX9_liveIn.1 mX9_liveIn.1 ∈ gt := gt_ok (List.mem_of_getElem? (i := 592) (by decide +kernel)) (by decide +kernel)
theorem li_RX11_196 : Cond.methodLink RX11 196 mX9_liveIn.1 ∈ gt := gt_ok (List.mem_of_getElem? (i := 590) (by decide +kernel)) (by decide +kernel)
theorem li_RX4_19 : Cond.methodLink RX4 19 mX9_liveIn.1 ∈ gt := gt_ok (List.mem_of_getElem? (i := 604) (by decide +kernel)) (by decide +kernel)
theorem li_RX9_35 : Cond.methodLink RX9 35 mX9_liveIn.1 ∈ gt := gt_ok (List.mem_of_getElem? (i := 678) (by decide +kernel)) (by decide +kernel)
abbrev mX9_liveBetween : MI := (yX9_liveBetween, prog_11_method_7_code, 5, some .int)
theorem ml_X9_liveBetween : ML mX9_liveBetween 2 := ⟨gt_ok (List.mem_of_getElem? (i := 677) (by decide +kernel)) (by decide +kernel), gt_ok (List.mem_of_getElem? (i := 93) (by decide +kernel)) (by decide +kernel), by decide +kernel, by decide +kernel, by decide +kernel⟩
theorem im_X9_liveBetween : Cond.instanceMethod mX9_liveBetween.1 ∈ gt := gt_ok (List.mem_of_getElem? (i := 675) (by decide +kernel)) (by decide +kernel)
theorem se_X9_liveBetween : Cond.selects mX9_liveBetween.1.cls mX9_liveBetween.1 mX9_liveBetween.1 ∈ gt := gt_ok (List.mem_of_getElem? (i := 676) (by decide +kernel)) (by decide +kernel)
theorem li_RX11_247 : Cond.methodLink RX11 247 mX9_liveBetween.1 ∈ gt := gt_ok (List.mem_of_getElem? (i := 674) (by decide +kernel)) (by decide +kernel)
abbrev mX9_allDocs : MI := (yX9_allDocs, prog_11_method_8_code, 3, some .int)
theorem ml_X9_allDocs : ML mX9_allDocs 0 := ⟨gt_ok (List.mem_of_getElem? (i := 520) (by decide +kernel)) (by decide +kernel), gt_ok (List.mem_of_getElem? (i := 93) (by decide +kernel)) (by decide +kernel), by decide +kernel, by decide +kernel, by decide +kernel⟩
theorem im_X9_allDocs : Cond.instanceMethod mX9_allDocs.1 ∈ gt := gt_ok (List.mem_of_getElem? (i := 518) (by decide +kernel)) (by decide +kernel)
theorem se_X9_allDocs : Cond.selects mX9_allDocs.1.cls mX9_allDocs.1 mX9_allDocs.1 ∈ gt := gt_ok (List.mem_of_getElem? (i := 519) (by decide +kernel)) (by decide +kernel)
theorem li_RX11_162 : Cond.methodLink RX11 162 mX9_allDocs.1 ∈ gt := gt_ok (List.mem_of_getElem? (i := 517) (by decide +kernel)) (by decide +kernel)
abbrev mX9_hasName : MI := (yX9_hasName, prog_11_method_9_code, 3, some .boolean)
theorem ml_X9_hasName : ML mX9_hasName 1 := ⟨gt_ok (List.mem_of_getElem? (i := 618) (by decide +kernel)) (by decide +kernel), gt_ok (List.mem_of_getElem? (i := 93) (by decide +kernel)) (by decide +kernel), by decide +kernel, by decide +kernel, by decide +kernel⟩
theorem im_X9_hasName : Cond.instanceMethod mX9_hasName.1 ∈ gt := gt_ok (List.mem_of_getElem? (i := 616) (by decide +kernel)) (by decide +kernel)
theorem se_X9_hasName : Cond.selects mX9_hasName.1.cls mX9_hasName.1 mX9_hasName.1 ∈ gt := gt_ok (List.mem_of_getElem? (i := 617) (by decide +kernel)) (by decide +kernel)
theorem li_RX11_218 : Cond.methodLink RX11 218 mX9_hasName.1 ∈ gt := gt_ok (List.mem_of_getElem? (i := 615) (by decide +kernel)) (by decide +kernel)
abbrev mX10_init : MI := (yX10_init, prog_12_method_1_code, 1, none)
theorem ml_X10_init : ML mX10_init 0 := ⟨gt_ok (List.mem_of_getElem? (i := 123) (by decide +kernel)) (by decide +kernel), gt_ok (List.mem_of_getElem? (i := 92) (by decide +kernel)) (by decide +kernel), by decide +kernel, by decide +kernel, by decide +kernel⟩
theorem im_X10_init : Cond.instanceMethod mX10_init.1 ∈ gt := gt_ok (List.mem_of_getElem? (i := 122) (by decide +kernel)) (by decide +kernel)
abbrev mX10_append : MI := (yX10_append, prog_12_method_2_code, 2, none)
theorem ml_X10_append : ML mX10_append 1 := ⟨gt_ok (List.mem_of_getElem? (i := 400) (by decide +kernel)) (by decide +kernel), gt_ok (List.mem_of_getElem? (i := 92) (by decide +kernel)) (by decide +kernel), by decide +kernel, by decide +kernel, by decide +kernel⟩
theorem im_X10_append : Cond.instanceMethod mX10_append.1 ∈ gt := gt_ok (List.mem_of_getElem? (i := 398) (by decide +kernel)) (by decide +kernel)
theorem se_X10_append : Cond.selects mX10_append.1.cls mX10_append.1 mX10_append.1 ∈ gt := gt_ok (List.mem_of_getElem? (i := 399) (by decide +kernel)) (by decide +kernel)
theorem li_RX11_115 : Cond.methodLink RX11 115 mX10_append.1 ∈ gt := gt_ok (List.mem_of_getElem? (i := 397) (by decide +kernel)) (by decide +kernel)
abbrev mX10_readDocument : MI := (yX10_readDocument, prog_12_method_3_code, 3, some .int)
theorem ml_X10_readDocument : ML mX10_readDocument 0 := ⟨gt_ok (List.mem_of_getElem? (i := 415) (by decide +kernel)) (by decide +kernel), gt_ok (List.mem_of_getElem? (i := 92) (by decide +kernel)) (by decide +kernel), by decide +kernel, by decide +kernel, by decide +kernel⟩
theorem im_X10_readDocument : Cond.instanceMethod mX10_readDocument.1 ∈ gt := gt_ok (List.mem_of_getElem? (i := 413) (by decide +kernel)) (by decide +kernel)
theorem se_X10_readDocument : Cond.selects mX10_readDocument.1.cls mX10_readDocument.1 mX10_readDocument.1 ∈ gt := gt_ok (List.mem_of_getElem? (i := 414) (by decide +kernel)) (by decide +kernel)
theorem li_RX11_129 : Cond.methodLink RX11 129 mX10_readDocument.1 ∈ gt := gt_ok (List.mem_of_getElem? (i := 412) (by decide +kernel)) (by decide +kernel)
abbrev mX10_wordsRead : MI := (yX10_wordsRead, prog_12_method_4_code, 2, some (.array .int))
theorem ml_X10_wordsRead : ML mX10_wordsRead 0 := ⟨gt_ok (List.mem_of_getElem? (i := 444) (by decide +kernel)) (by decide +kernel), gt_ok (List.mem_of_getElem? (i := 92) (by decide +kernel)) (by decide +kernel), by decide +kernel, by decide +kernel, by decide +kernel⟩
theorem im_X10_wordsRead : Cond.instanceMethod mX10_wordsRead.1 ∈ gt := gt_ok (List.mem_of_getElem? (i := 442) (by decide +kernel)) (by decide +kernel)
theorem se_X10_wordsRead : Cond.selects mX10_wordsRead.1.cls mX10_wordsRead.1 mX10_wordsRead.1 ∈ gt := gt_ok (List.mem_of_getElem? (i := 443) (by decide +kernel)) (by decide +kernel)
theorem li_RX11_136 : Cond.methodLink RX11 136 mX10_wordsRead.1 ∈ gt := gt_ok (List.mem_of_getElem? (i := 441) (by decide +kernel)) (by decide +kernel)
abbrev mX10_behindBlanks : MI := (yX10_behindBlanks, prog_12_method_5_code, 3, some .int)
theorem ml_X10_behindBlanks : ML mX10_behindBlanks 1 := ⟨gt_ok (List.mem_of_getElem? (i := 419) (by decide +kernel)) (by decide +kernel), gt_ok (List.mem_of_getElem? (i := 92) (by decide +kernel)) (by decide +kernel), by decide +kernel, by decide +kernel, by decide +kernel⟩
theorem im_X10_behindBlanks : Cond.instanceMethod mX10_behindBlanks.1 ∈ gt := gt_ok (List.mem_of_getElem? (i := 417) (by decide +kernel)) (by decide +kernel)
theorem se_X10_behindBlanks : Cond.selects mX10_behindBlanks.1.cls mX10_behindBlanks.1 mX10_behindBlanks.1 ∈ gt := gt_ok (List.mem_of_getElem? (i := 418) (by decide +kernel)) (by decide +kernel)
theorem li_RX6_49 : Cond.methodLink RX6 49 mX10_behindBlanks.1 ∈ gt := gt_ok (List.mem_of_getElem? (i := 749) (by decide +kernel)) (by decide +kernel)
theorem li_RX10_25 : Cond.methodLink RX10 25 mX10_behindBlanks.1 ∈ gt := gt_ok (List.mem_of_getElem? (i := 416) (by decide +kernel)) (by decide +kernel)
abbrev mX10_wordEnd : MI := (yX10_wordEnd, prog_12_method_6_code, 3, some .int)
theorem ml_X10_wordEnd : ML mX10_wordEnd 1 := ⟨gt_ok (List.mem_of_getElem? (i := 423) (by decide +kernel)) (by decide +kernel), gt_ok (List.mem_of_getElem? (i := 92) (by decide +kernel)) (by decide +kernel), by decide +kernel, by decide +kernel, by decide +kernel⟩
theorem im_X10_wordEnd : Cond.instanceMethod mX10_wordEnd.1 ∈ gt := gt_ok (List.mem_of_getElem? (i := 421) (by decide +kernel)) (by decide +kernel)
theorem se_X10_wordEnd : Cond.selects mX10_wordEnd.1.cls mX10_wordEnd.1 mX10_wordEnd.1 ∈ gt := gt_ok (List.mem_of_getElem? (i := 422) (by decide +kernel)) (by decide +kernel)
theorem li_RX6_56 : Cond.methodLink RX6 56 mX10_wordEnd.1 ∈ gt := gt_ok (List.mem_of_getElem? (i := 750) (by decide +kernel)) (by decide +kernel)
theorem li_RX10_29 : Cond.methodLink RX10 29 mX10_wordEnd.1 ∈ gt := gt_ok (List.mem_of_getElem? (i := 420) (by decide +kernel)) (by decide +kernel)
abbrev mX10_wordBetween : MI := (yX10_wordBetween, prog_12_method_7_code, 5, some .int)
theorem ml_X10_wordBetween : ML mX10_wordBetween 2 := ⟨gt_ok (List.mem_of_getElem? (i := 427) (by decide +kernel)) (by decide +kernel), gt_ok (List.mem_of_getElem? (i := 92) (by decide +kernel)) (by decide +kernel), by decide +kernel, by decide +kernel, by decide +kernel⟩
theorem im_X10_wordBetween : Cond.instanceMethod mX10_wordBetween.1 ∈ gt := gt_ok (List.mem_of_getElem? (i := 425) (by decide +kernel)) (by decide +kernel)
theorem se_X10_wordBetween : Cond.selects mX10_wordBetween.1.cls mX10_wordBetween.1 mX10_wordBetween.1 ∈ gt := gt_ok (List.mem_of_getElem? (i := 426) (by decide +kernel)) (by decide +kernel)
theorem li_RX6_59 : Cond.methodLink RX6 59 mX10_wordBetween.1 ∈ gt := gt_ok (List.mem_of_getElem? (i := 751) (by decide +kernel)) (by decide +kernel)
theorem li_RX10_32 : Cond.methodLink RX10 32 mX10_wordBetween.1 ∈ gt := gt_ok (List.mem_of_getElem? (i := 424) (by decide +kernel)) (by decide +kernel)
abbrev mX10_lettersAlone : MI := (yX10_lettersAlone, prog_12_method_8_code, 3, some .int)
theorem ml_X10_lettersAlone : ML mX10_lettersAlone 1 := ⟨gt_ok (List.mem_of_getElem? (i := 629) (by decide +kernel)) (by decide +kernel), gt_ok (List.mem_of_getElem? (i := 92) (by decide +kernel)) (by decide +kernel), by decide +kernel, by decide +kernel, by decide +kernel⟩
theorem st_X10_lettersAlone : Cond.static mX10_lettersAlone.1 ∈ gt := gt_ok (List.mem_of_getElem? (i := 628) (by decide +kernel)) (by decide +kernel)
theorem li_RX11_222 : Cond.methodLink RX11 222 mX10_lettersAlone.1 ∈ gt := gt_ok (List.mem_of_getElem? (i := 627) (by decide +kernel)) (by decide +kernel)
abbrev mJ13_bitCount_95d88 : MI := (yJ13_bitCount_95d88, prog_15_method_50_code, 2, some .int)
theorem ml_J13_bitCount_95d88 : ML mJ13_bitCount_95d88 1 := ⟨gt_ok (List.mem_of_getElem? (i := 596) (by decide +kernel)) (by decide +kernel), gt_ok (List.mem_of_getElem? (i := 106) (by decide +kernel)) (by decide +kernel), by decide +kernel, by decide +kernel, by decide +kernel⟩
theorem st_J13_bitCount_95d88 : Cond.static mJ13_bitCount_95d88.1 ∈ gt := gt_ok (List.mem_of_getElem? (i := 595) (by decide +kernel)) (by decide +kernel)
theorem li_RX1_64 : Cond.methodLink RX1 64 mJ13_bitCount_95d88.1 ∈ gt := gt_ok (List.mem_of_getElem? (i := 877) (by decide +kernel)) (by decide +kernel)
theorem li_RX3_41 : Cond.methodLink RX3 41 mJ13_bitCount_95d88.1 ∈ gt := gt_ok (List.mem_of_getElem? (i := 695) (by decide +kernel)) (by decide +kernel)
theorem li_RX9_29 : Cond.methodLink RX9 29 mJ13_bitCount_95d88.1 ∈ gt := gt_ok (List.mem_of_getElem? (i := 594) (by decide +kernel)) (by decide +kernel)
abbrev mJ9_abs_0f7a4 : MI := (yJ9_abs_0f7a4, prog_16_method_59_code, 1, some .int)
theorem ml_J9_abs_0f7a4 : ML mJ9_abs_0f7a4 1 := ⟨gt_ok (List.mem_of_getElem? (i := 1485) (by decide +kernel)) (by decide +kernel), gt_ok (List.mem_of_getElem? (i := 104) (by decide +kernel)) (by decide +kernel), by decide +kernel, by decide +kernel, by decide +kernel⟩
theorem st_J9_abs_0f7a4 : Cond.static mJ9_abs_0f7a4.1 ∈ gt := gt_ok (List.mem_of_getElem? (i := 1484) (by decide +kernel)) (by decide +kernel)
theorem li_RX12_345 : Cond.methodLink RX12 345 mJ9_abs_0f7a4.1 ∈ gt := gt_ok (List.mem_of_getElem? (i := 1483) (by decide +kernel)) (by decide +kernel)
abbrev mJ9_max_7cf53 : MI := (yJ9_max_7cf53, prog_16_method_65_code, 2, some .int)
theorem ml_J9_max_7cf53 : ML mJ9_max_7cf53 2 := ⟨gt_ok (List.mem_of_getElem? (i := 500) (by decide +kernel)) (by decide +kernel), gt_ok (List.mem_of_getElem? (i := 104) (by decide +kernel)) (by decide +kernel), by decide +kernel, by decide +kernel, by decide +kernel⟩
theorem st_J9_max_7cf53 : Cond.static mJ9_max_7cf53.1 ∈ gt := gt_ok (List.mem_of_getElem? (i := 499) (by decide +kernel)) (by decide +kernel)
theorem li_RX4_28 : Cond.methodLink RX4 28 mJ9_max_7cf53.1 ∈ gt := gt_ok (List.mem_of_getElem? (i := 605) (by decide +kernel)) (by decide +kernel)
theorem li_RX5_70 : Cond.methodLink RX5 70 mJ9_max_7cf53.1 ∈ gt := gt_ok (List.mem_of_getElem? (i := 498) (by decide +kernel)) (by decide +kernel)
theorem li_RX12_206 : Cond.methodLink RX12 206 mJ9_max_7cf53.1 ∈ gt := gt_ok (List.mem_of_getElem? (i := 1255) (by decide +kernel)) (by decide +kernel)
abbrev mJ9_min_7cf53 : MI := (yJ9_min_7cf53, prog_16_method_69_code, 2, some .int)
theorem ml_J9_min_7cf53 : ML mJ9_min_7cf53 2 := ⟨gt_ok (List.mem_of_getElem? (i := 497) (by decide +kernel)) (by decide +kernel), gt_ok (List.mem_of_getElem? (i := 104) (by decide +kernel)) (by decide +kernel), by decide +kernel, by decide +kernel, by decide +kernel⟩
theorem st_J9_min_7cf53 : Cond.static mJ9_min_7cf53.1 ∈ gt := gt_ok (List.mem_of_getElem? (i := 496) (by decide +kernel)) (by decide +kernel)
theorem li_RX11_338 : Cond.methodLink RX11 338 mJ9_min_7cf53.1 ∈ gt := gt_ok (List.mem_of_getElem? (i := 914) (by decide +kernel)) (by decide +kernel)
theorem li_RX2_22 : Cond.methodLink RX2 22 mJ9_min_7cf53.1 ∈ gt := gt_ok (List.mem_of_getElem? (i := 864) (by decide +kernel)) (by decide +kernel)
theorem li_RX5_34 : Cond.methodLink RX5 34 mJ9_min_7cf53.1 ∈ gt := gt_ok (List.mem_of_getElem? (i := 495) (by decide +kernel)) (by decide +kernel)
theorem li_RX8_26 : Cond.methodLink RX8 26 mJ9_min_7cf53.1 ∈ gt := gt_ok (List.mem_of_getElem? (i := 901) (by decide +kernel)) (by decide +kernel)
theorem li_RX12_358 : Cond.methodLink RX12 358 mJ9_min_7cf53.1 ∈ gt := gt_ok (List.mem_of_getElem? (i := 1490) (by decide +kernel)) (by decide +kernel)
end
section
/-! THE REFERENCE: where its cells stand, what kinds they are (by gen_m.py) -/
def tabM : List (Nat × Nat × Nat) := [(71, 12, 0), (72, 13, 520), (73, 13, 520), (74, 21, 520), (595, 15, 520), (596, 13, 520), (597, 13, 520), (598, 21, 520), (1119, 15, 7), (1120, 13, 7), (1121, 21, 7), (1129, 22, 7), (1137, 13, 8), (1138, 13, 4), (1139, 13, 64), (1140, 13, 12), (1141, 13, 64), (1142, 21, 8), (1151, 21, 6), (1158, 13, 6), (1159, 13, 128), (1160, 13, 64), (1161, 13, 64), (1162, 13, 64), (1163, 13, 1040), (1164, 13, 64), (1165, 13, 4), (1166, 13, 4), (1167, 21, 4), (1172, 13, 40)]
def refM : List (Nat × Nat) := [(1, 72), (2, 73), (3, 74), (4, 595), (6, 596), (7, 597), (8, 598), (9, 1119), (10, 1120), (11, 1121), (12, 1129), (14, 1137), (16, 1138), (17, 1139), (19, 1140), (28, 1141), (29, 1142), (31, 1151), (32, 1158), (33, 1159), (41, 1160), (44, 1161), (45, 1162), (48, 1163), (49, 1164), (50, 1165), (51, 1166), (52, 1167), (53, 1172)]
def rowM : List (Nat × Nat × Nat × Nat × Nat) := [(74, 75, 520, 13, 12), (598, 599, 520, 13, 64), (1121, 1122, 7, 13, 8), (1129, 1130, 7, 15, 64), (1142, 1143, 8, 13, 8), (1151, 1152, 6, 13, 128), (1167, 1168, 4, 13, 40)]
def LayM (h : AH) : Prop := (∀ q ∈ tabM, q.1 < nH h ∧ kH h q.1 = q.2) ∧ (∀ q ∈ refM, rH h 71 q.1 = some q.2) ∧ (∀ q ∈ rowM, ∀ i, i < q.2.2.1 → (q.2.1 + i < nH h ∧ kH h (q.2.1 + i) = (q.2.2.2.1, q.2.2.2.2)) ∧ rH h q.1 i = some (q.2.1 + i))
theorem lm_71 {h : AH} (hL : LayM h) : 71 < nH h ∧ kH h 71 = (12, 0) := hL.1 _ (List.mem_of_getElem? (i := 0) (a := (71, 12, 0)) rfl)
theorem lm_72 {h : AH} (hL : LayM h) : 72 < nH h ∧ kH h 72 = (13, 520) := hL.1 _ (List.mem_of_getElem? (i := 1) (a := (72, 13, 520)) rfl)
theorem lm_73 {h : AH} (hL : LayM h) : 73 < nH h ∧ kH h 73 = (13, 520) := hL.1 _ (List.mem_of_getElem? (i := 2) (a := (73, 13, 520)) rfl)
theorem lm_74 {h : AH} (hL : LayM h) : 74 < nH h ∧ kH h 74 = (21, 520) := hL.1 _ (List.mem_of_getElem? (i := 3) (a := (74, 21, 520)) rfl)
theorem lm_595 {h : AH} (hL : LayM h) : 595 < nH h ∧ kH h 595 = (15, 520) := hL.1 _ (List.mem_of_getElem? (i := 4) (a := (595, 15, 520)) rfl)
theorem lm_596 {h : AH} (hL : LayM h) : 596 < nH h ∧ kH h 596 = (13, 520) := hL.1 _ (List.mem_of_getElem? (i := 5) (a := (596, 13, 520)) rfl)
theorem lm_597 {h : AH} (hL : LayM h) : 597 < nH h ∧ kH h 597 = (13, 520) := hL.1 _ (List.mem_of_getElem? (i := 6) (a := (597, 13, 520)) rfl)
theorem lm_598 {h : AH} (hL : LayM h) : 598 < nH h ∧ kH h 598 = (21, 520) := hL.1 _ (List.mem_of_getElem? (i := 7) (a := (598, 21, 520)) rfl)
theorem lm_1119 {h : AH} (hL : LayM h) : 1119 < nH h ∧ kH h 1119 = (15, 7) := hL.1 _ (List.mem_of_getElem? (i := 8) (a := (1119, 15, 7)) rfl)
theorem lm_1120 {h : AH} (hL : LayM h) : 1120 < nH h ∧ kH h 1120 = (13, 7) := hL.1 _ (List.mem_of_getElem? (i := 9) (a := (1120, 13, 7)) rfl)
theorem lm_1121 {h : AH} (hL : LayM h) : 1121 < nH h ∧ kH h 1121 = (21, 7) := hL.1 _ (List.mem_of_getElem? (i := 10) (a := (1121, 21, 7)) rfl)
theorem lm_1129 {h : AH} (hL : LayM h) : 1129 < nH h ∧ kH h 1129 = (22, 7) := hL.1 _ (List.mem_of_getElem? (i := 11) (a := (1129, 22, 7)) rfl)
theorem lm_1137 {h : AH} (hL : LayM h) : 1137 < nH h ∧ kH h 1137 = (13, 8) := hL.1 _ (List.mem_of_getElem? (i := 12) (a := (1137, 13, 8)) rfl)
theorem lm_1138 {h : AH} (hL : LayM h) : 1138 < nH h ∧ kH h 1138 = (13, 4) := hL.1 _ (List.mem_of_getElem? (i := 13) (a := (1138, 13, 4)) rfl)
theorem lm_1139 {h : AH} (hL : LayM h) : 1139 < nH h ∧ kH h 1139 = (13, 64) := hL.1 _ (List.mem_of_getElem? (i := 14) (a := (1139, 13, 64)) rfl)
theorem lm_1140 {h : AH} (hL : LayM h) : 1140 < nH h ∧ kH h 1140 = (13, 12) := hL.1 _ (List.mem_of_getElem? (i := 15) (a := (1140, 13, 12)) rfl)
theorem lm_1141 {h : AH} (hL : LayM h) : 1141 < nH h ∧ kH h 1141 = (13, 64) := hL.1 _ (List.mem_of_getElem? (i := 16) (a := (1141, 13, 64)) rfl)
theorem lm_1142 {h : AH} (hL : LayM h) : 1142 < nH h ∧ kH h 1142 = (21, 8) := hL.1 _ (List.mem_of_getElem? (i := 17) (a := (1142, 21, 8)) rfl)
theorem lm_1151 {h : AH} (hL : LayM h) : 1151 < nH h ∧ kH h 1151 = (21, 6) := hL.1 _ (List.mem_of_getElem? (i := 18) (a := (1151, 21, 6)) rfl)
theorem lm_1158 {h : AH} (hL : LayM h) : 1158 < nH h ∧ kH h 1158 = (13, 6) := hL.1 _ (List.mem_of_getElem? (i := 19) (a := (1158, 13, 6)) rfl)
theorem lm_1159 {h : AH} (hL : LayM h) : 1159 < nH h ∧ kH h 1159 = (13, 128) := hL.1 _ (List.mem_of_getElem? (i := 20) (a := (1159, 13, 128)) rfl)
theorem lm_1160 {h : AH} (hL : LayM h) : 1160 < nH h ∧ kH h 1160 = (13, 64) := hL.1 _ (List.mem_of_getElem? (i := 21) (a := (1160, 13, 64)) rfl)
theorem lm_1161 {h : AH} (hL : LayM h) : 1161 < nH h ∧ kH h 1161 = (13, 64) := hL.1 _ (List.mem_of_getElem? (i := 22) (a := (1161, 13, 64)) rfl)
theorem lm_1162 {h : AH} (hL : LayM h) : 1162 < nH h ∧ kH h 1162 = (13, 64) := hL.1 _ (List.mem_of_getElem? (i := 23) (a := (1162, 13, 64)) rfl)
theorem lm_1163 {h : AH} (hL : LayM h) : 1163 < nH h ∧ kH h 1163 = (13, 1040) := hL.1 _ (List.mem_of_getElem? (i := 24) (a := (1163, 13, 1040)) rfl)
theorem lm_1164 {h : AH} (hL : LayM h) : 1164 < nH h ∧ kH h 1164 = (13, 64) := hL.1 _ (List.mem_of_getElem? (i := 25) (a := (1164, 13, 64)) rfl)
theorem lm_1165 {h : AH} (hL : LayM h) : 1165 < nH h ∧ kH h 1165 = (13, 4) := hL.1 _ (List.mem_of_getElem? (i := 26) (a := (1165, 13, 4)) rfl)
theorem lm_1166 {h : AH} (hL : LayM h) : 1166 < nH h ∧ kH h 1166 = (13, 4) := hL.1 _ (List.mem_of_getElem? (i := 27) (a := (1166, 13, 4)) rfl)
theorem lm_1167 {h : AH} (hL : LayM h) : 1167 < nH h ∧ kH h 1167 = (21, 4) := hL.1 _ (List.mem_of_getElem? (i := 28) (a := (1167, 21, 4)) rfl)
theorem lm_1172 {h : AH} (hL : LayM h) : 1172 < nH h ∧ kH h 1172 = (13, 40) := hL.1 _ (List.mem_of_getElem? (i := 29) (a := (1172, 13, 40)) rfl)
theorem lf_71_1 {h : AH} (hL : LayM h) : rH h 71 1 = some 72 := hL.2.1 _ (List.mem_of_getElem? (i := 0) (a := (1, 72)) rfl)
theorem lf_71_2 {h : AH} (hL : LayM h) : rH h 71 2 = some 73 := hL.2.1 _ (List.mem_of_getElem? (i := 1) (a := (2, 73)) rfl)
theorem lf_71_3 {h : AH} (hL : LayM h) : rH h 71 3 = some 74 := hL.2.1 _ (List.mem_of_getElem? (i := 2) (a := (3, 74)) rfl)
theorem lf_71_4 {h : AH} (hL : LayM h) : rH h 71 4 = some 595 := hL.2.1 _ (List.mem_of_getElem? (i := 3) (a := (4, 595)) rfl)
theorem lf_71_6 {h : AH} (hL : LayM h) : rH h 71 6 = some 596 := hL.2.1 _ (List.mem_of_getElem? (i := 4) (a := (6, 596)) rfl)
theorem lf_71_7 {h : AH} (hL : LayM h) : rH h 71 7 = some 597 := hL.2.1 _ (List.mem_of_getElem? (i := 5) (a := (7, 597)) rfl)
theorem lf_71_8 {h : AH} (hL : LayM h) : rH h 71 8 = some 598 := hL.2.1 _ (List.mem_of_getElem? (i := 6) (a := (8, 598)) rfl)
theorem lf_71_9 {h : AH} (hL : LayM h) : rH h 71 9 = some 1119 := hL.2.1 _ (List.mem_of_getElem? (i := 7) (a := (9, 1119)) rfl)
theorem lf_71_10 {h : AH} (hL : LayM h) : rH h 71 10 = some 1120 := hL.2.1 _ (List.mem_of_getElem? (i := 8) (a := (10, 1120)) rfl)
theorem lf_71_11 {h : AH} (hL : LayM h) : rH h 71 11 = some 1121 := hL.2.1 _ (List.mem_of_getElem? (i := 9) (a := (11, 1121)) rfl)
theorem lf_71_12 {h : AH} (hL : LayM h) : rH h 71 12 = some 1129 := hL.2.1 _ (List.mem_of_getElem? (i := 10) (a := (12, 1129)) rfl)
theorem lf_71_14 {h : AH} (hL : LayM h) : rH h 71 14 = some 1137 := hL.2.1 _ (List.mem_of_getElem? (i := 11) (a := (14, 1137)) rfl)
theorem lf_71_16 {h : AH} (hL : LayM h) : rH h 71 16 = some 1138 := hL.2.1 _ (List.mem_of_getElem? (i := 12) (a := (16, 1138)) rfl)
theorem lf_71_17 {h : AH} (hL : LayM h) : rH h 71 17 = some 1139 := hL.2.1 _ (List.mem_of_getElem? (i := 13) (a := (17, 1139)) rfl)
theorem lf_71_19 {h : AH} (hL : LayM h) : rH h 71 19 = some 1140 := hL.2.1 _ (List.mem_of_getElem? (i := 14) (a := (19, 1140)) rfl)
theorem lf_71_28 {h : AH} (hL : LayM h) : rH h 71 28 = some 1141 := hL.2.1 _ (List.mem_of_getElem? (i := 15) (a := (28, 1141)) rfl)
theorem lf_71_29 {h : AH} (hL : LayM h) : rH h 71 29 = some 1142 := hL.2.1 _ (List.mem_of_getElem? (i := 16) (a := (29, 1142)) rfl)
theorem lf_71_31 {h : AH} (hL : LayM h) : rH h 71 31 = some 1151 := hL.2.1 _ (List.mem_of_getElem? (i := 17) (a := (31, 1151)) rfl)
theorem lf_71_32 {h : AH} (hL : LayM h) : rH h 71 32 = some 1158 := hL.2.1 _ (List.mem_of_getElem? (i := 18) (a := (32, 1158)) rfl)
theorem lf_71_33 {h : AH} (hL : LayM h) : rH h 71 33 = some 1159 := hL.2.1 _ (List.mem_of_getElem? (i := 19) (a := (33, 1159)) rfl)
theorem lf_71_41 {h : AH} (hL : LayM h) : rH h 71 41 = some 1160 := hL.2.1 _ (List.mem_of_getElem? (i := 20) (a := (41, 1160)) rfl)
theorem lf_71_44 {h : AH} (hL : LayM h) : rH h 71 44 = some 1161 := hL.2.1 _ (List.mem_of_getElem? (i := 21) (a := (44, 1161)) rfl)
theorem lf_71_45 {h : AH} (hL : LayM h) : rH h 71 45 = some 1162 := hL.2.1 _ (List.mem_of_getElem? (i := 22) (a := (45, 1162)) rfl)
theorem lf_71_48 {h : AH} (hL : LayM h) : rH h 71 48 = some 1163 := hL.2.1 _ (List.mem_of_getElem? (i := 23) (a := (48, 1163)) rfl)
theorem lf_71_49 {h : AH} (hL : LayM h) : rH h 71 49 = some 1164 := hL.2.1 _ (List.mem_of_getElem? (i := 24) (a := (49, 1164)) rfl)
theorem lf_71_50 {h : AH} (hL : LayM h) : rH h 71 50 = some 1165 := hL.2.1 _ (List.mem_of_getElem? (i := 25) (a := (50, 1165)) rfl)
theorem lf_71_51 {h : AH} (hL : LayM h) : rH h 71 51 = some 1166 := hL.2.1 _ (List.mem_of_getElem? (i := 26) (a := (51, 1166)) rfl)
theorem lf_71_52 {h : AH} (hL : LayM h) : rH h 71 52 = some 1167 := hL.2.1 _ (List.mem_of_getElem? (i := 27) (a := (52, 1167)) rfl)
theorem lf_71_53 {h : AH} (hL : LayM h) : rH h 71 53 = some 1172 := hL.2.1 _ (List.mem_of_getElem? (i := 28) (a := (53, 1172)) rfl)
theorem lk_words {h : AH} (hL : LayM h) {i : Nat} (hi : i < 520) : 75 + i < nH h ∧ kH h (75 + i) = (13, 12) := (hL.2.2 _ (List.mem_of_getElem? (i := 0) (a := (74, 75, 520, 13, 12)) rfl) i hi).1
theorem lr_words {h : AH} (hL : LayM h) {i : Nat} (hi : i < 520) : rH h 74 i = some (75 + i) := (hL.2.2 _ (List.mem_of_getElem? (i := 0) (a := (74, 75, 520, 13, 12)) rfl) i hi).2
theorem lk_members {h : AH} (hL : LayM h) {i : Nat} (hi : i < 520) : 599 + i < nH h ∧ kH h (599 + i) = (13, 64) := (hL.2.2 _ (List.mem_of_getElem? (i := 1) (a := (598, 599, 520, 13, 64)) rfl) i hi).1
theorem lr_members {h : AH} (hL : LayM h) {i : Nat} (hi : i < 520) : rH h 598 i = some (599 + i) := (hL.2.2 _ (List.mem_of_getElem? (i := 1) (a := (598, 599, 520, 13, 64)) rfl) i hi).2
theorem lk_rows {h : AH} (hL : LayM h) {i : Nat} (hi : i < 7) : 1122 + i < nH h ∧ kH h (1122 + i) = (13, 8) := (hL.2.2 _ (List.mem_of_getElem? (i := 2) (a := (1121, 1122, 7, 13, 8)) rfl) i hi).1
theorem lr_rows {h : AH} (hL : LayM h) {i : Nat} (hi : i < 7) : rH h 1121 i = some (1122 + i) := (hL.2.2 _ (List.mem_of_getElem? (i := 2) (a := (1121, 1122, 7, 13, 8)) rfl) i hi).2
theorem lk_wasDropped {h : AH} (hL : LayM h) {i : Nat} (hi : i < 7) : 1130 + i < nH h ∧ kH h (1130 + i) = (15, 64) := (hL.2.2 _ (List.mem_of_getElem? (i := 3) (a := (1129, 1130, 7, 15, 64)) rfl) i hi).1
theorem lr_wasDropped {h : AH} (hL : LayM h) {i : Nat} (hi : i < 7) : rH h 1129 i = some (1130 + i) := (hL.2.2 _ (List.mem_of_getElem? (i := 3) (a := (1129, 1130, 7, 15, 64)) rfl) i hi).2
theorem lk_costs {h : AH} (hL : LayM h) {i : Nat} (hi : i < 8) : 1143 + i < nH h ∧ kH h (1143 + i) = (13, 8) := (hL.2.2 _ (List.mem_of_getElem? (i := 4) (a := (1142, 1143, 8, 13, 8)) rfl) i hi).1
theorem lr_costs {h : AH} (hL : LayM h) {i : Nat} (hi : i < 8) : rH h 1142 i = some (1143 + i) := (hL.2.2 _ (List.mem_of_getElem? (i := 4) (a := (1142, 1143, 8, 13, 8)) rfl) i hi).2
theorem lk_marks {h : AH} (hL : LayM h) {i : Nat} (hi : i < 6) : 1152 + i < nH h ∧ kH h (1152 + i) = (13, 128) := (hL.2.2 _ (List.mem_of_getElem? (i := 5) (a := (1151, 1152, 6, 13, 128)) rfl) i hi).1
theorem lr_marks {h : AH} (hL : LayM h) {i : Nat} (hi : i < 6) : rH h 1151 i = some (1152 + i) := (hL.2.2 _ (List.mem_of_getElem? (i := 5) (a := (1151, 1152, 6, 13, 128)) rfl) i hi).2
theorem lk_items {h : AH} (hL : LayM h) {i : Nat} (hi : i < 4) : 1168 + i < nH h ∧ kH h (1168 + i) = (13, 40) := (hL.2.2 _ (List.mem_of_getElem? (i := 6) (a := (1167, 1168, 4, 13, 40)) rfl) i hi).1
theorem lr_items {h : AH} (hL : LayM h) {i : Nat} (hi : i < 4) : rH h 1167 i = some (1168 + i) := (hL.2.2 _ (List.mem_of_getElem? (i := 6) (a := (1167, 1168, 4, 13, 40)) rfl) i hi).2
end
section
/-! TRUTHS AS NUMBERS, COUNTS, SUMS, FIRST PLACES -/
section
/-- a truth as a number -/
noncomputable def b01 (p : Prop) : Int := @ite _ p (Classical.propDecidable p) 1 0
theorem b01_t {p : Prop} (hp : p) : b01 p = 1 := by unfold b01; rw [if_pos hp]
theorem b01_f {p : Prop} (hp : ¬ p) : b01 p = 0 := by unfold b01; rw [if_neg hp]
theorem b01_01 (p : Prop) : b01 p = 0 ∨ b01 p = 1 := by
  by_cases hp : p
  · exact Or.inr (b01_t hp)
  · exact Or.inl (b01_f hp)
theorem b01_n {p : Prop} : b01 p = 0 ↔ ¬ p := ⟨fun e hp => by rw [b01_t hp] at e; omega, b01_f⟩
theorem b01_p {p : Prop} : ¬ b01 p = 0 ↔ p := ⟨fun e => Classical.byContradiction fun hp => e (b01_f hp), fun hp e => by rw [b01_t hp] at e; omega⟩
theorem b01_nn {p : Prop} : ¬ ¬ b01 p = 0 ↔ ¬ p := ⟨fun e hp => e (b01_p.mpr hp), fun hp e => hp (b01_p.mp e)⟩
theorem eQP {K : Option AV → AH → Prop} {x0 : Int} {h0 : AH} (k : K (some (vi x0)) h0) : ∀ v h, (∀ w, v = some w → okV w) → QI (fun x h' => x = x0 ∧ h' = h0) v h → K v h := by
  rintro v h ok ⟨x, rfl, rfl, rfl⟩
  exact k
noncomputable def cnt (p : Nat → Prop) : Nat → Int
  | 0 => 0
  | n + 1 => cnt p n + b01 (p n)
def sumN (f : Nat → Int) : Nat → Int
  | 0 => 0
  | n + 1 => sumN f n + f n
theorem cnt_bd (p : Nat → Prop) : ∀ n : Nat, 0 ≤ cnt p n ∧ cnt p n ≤ (n : Int)
  | 0 => ⟨Int.le_refl 0, Int.le_refl 0⟩
  | n + 1 => by
    have h1 := cnt_bd p n
    have h2 : cnt p (n + 1) = cnt p n + b01 (p n) := rfl
    rcases b01_01 (p n) with e | e <;> omega
theorem cnt_s {p : Nat → Prop} {n : Nat} (hp : p n) : cnt p (n + 1) = cnt p n + 1 := by show cnt p n + b01 (p n) = _; rw [b01_t hp]
theorem cnt_n {p : Nat → Prop} {n : Nat} (hp : ¬ p n) : cnt p (n + 1) = cnt p n := by show cnt p n + b01 (p n) = _; rw [b01_f hp]; omega
theorem cnt_cg {p q : Nat → Prop} : ∀ {n : Nat}, (∀ k, k < n → (p k ↔ q k)) → cnt p n = cnt q n
  | 0, _ => rfl
  | n + 1, h => by
    show cnt p n + b01 (p n) = cnt q n + b01 (q n)
    rw [cnt_cg (fun k hk => h k (by omega)), propext (h n (by omega))]
theorem sumN_bd (f : Nat → Int) (m : Int) (h0 : 0 ≤ m) : ∀ n : Nat, (∀ k, k < n → 0 ≤ f k ∧ f k ≤ m) → 0 ≤ sumN f n ∧ sumN f n ≤ (n : Int) * m
  | 0, _ => by simp [sumN]
  | n + 1, h => by
    have h1 := sumN_bd f m h0 n (fun k hk => h k (by omega))
    have h2 : sumN f (n + 1) = sumN f n + f n := rfl
    have h3 := h n (by omega)
    have h4 : ((n + 1 : Nat) : Int) * m = (n : Int) * m + m := by rw [Int.natCast_add, Int.add_mul]; simp
    omega
theorem sumN_cg {f g : Nat → Int} : ∀ {n : Nat}, (∀ k, k < n → f k = g k) → sumN f n = sumN g n
  | 0, _ => rfl
  | n + 1, h => by
    show sumN f n + f n = sumN g n + g n
    rw [sumN_cg (fun k hk => h k (by omega)), h n (by omega)]
/-- the first place that is so, or -1 -/
noncomputable def fst (p : Nat → Prop) : Nat → Int
  | 0 => -1
  | n + 1 => @ite _ (0 ≤ fst p n) (Classical.propDecidable _) (fst p n) (@ite _ (p n) (Classical.propDecidable _) (n : Int) (-1))
theorem fst_no {p : Nat → Prop} : ∀ {n : Nat}, (∀ k, k < n → ¬ p k) → fst p n = -1
  | 0, _ => rfl
  | n + 1, h => by
    unfold fst
    rw [fst_no (fun k hk => h k (by omega)), if_neg (by omega), if_neg (h n (by omega))]
theorem fst_at {p : Nat → Prop} : ∀ {n k : Nat}, k < n → (∀ j, j < k → ¬ p j) → p k → fst p n = k
  | 0, k, h, _, _ => by omega
  | n + 1, k, h, h1, h2 => by
    unfold fst
    by_cases e : k = n
    · subst e
      rw [fst_no h1, if_neg (by omega), if_pos h2]
    · rw [fst_at (by omega) h1 h2, if_pos (by omega)]
theorem fst_cs (p : Nat → Prop) : ∀ n : Nat, (fst p n = -1 ∧ ∀ k, k < n → ¬ p k) ∨ ∃ k, k < n ∧ fst p n = (k : Int) ∧ p k ∧ ∀ j, j < k → ¬ p j
  | 0 => Or.inl ⟨rfl, fun k hk => by omega⟩
  | n + 1 => by
    rcases fst_cs p n with ⟨e, h⟩ | ⟨k, hk, e, h1, h2⟩
    · by_cases hp : p n
      · exact Or.inr ⟨n, by omega, fst_at (by omega) h hp, hp, h⟩
      · refine Or.inl ⟨fst_no ?_, ?_⟩ <;>
        · intro k hk
          by_cases e2 : k = n
          · subst e2; exact hp
          · exact h k (by omega)
    · exact Or.inr ⟨k, by omega, fst_at (by omega) h2 h1, h1, h2⟩
theorem fst_bd (p : Nat → Prop) (n : Nat) : -1 ≤ fst p n ∧ fst p n < (n : Int) := by
  rcases fst_cs p n with ⟨e, -⟩ | ⟨k, hk, e, -⟩ <;> omega
theorem fst_cg {p q : Nat → Prop} : ∀ {n : Nat}, (∀ k, k < n → (p k ↔ q k)) → fst p n = fst q n
  | 0, _ => rfl
  | n + 1, h => by
    unfold fst
    rw [fst_cg (fun k hk => h k (by omega)), propext (h n (by omega))]
end
section
section MATH
variable {y z : MI} {d rc rs : Nat} {Q : Option AV → AH → Prop} {o pc q i : Nat} {es : List IE} {lo : List (Option AV)} {st : List AV} {h : AH}
def cMx (y : MI) (q i : Nat) (m : MethodName) (c : ByteArray) (n : Nat) : Prop := decode y.2.1 q = .ok (.invokestatic i, 3) ∧ Cond.methodLink y.1.cls i m ∈ gt ∧ Cond.static m ∈ gt ∧ Cond.initialized "java/lang/Math" ∈ gt ∧ Cond.code m c n (some .int) ∈ gt
theorem xMax (hb : ckB y o pc es q = true) (s : cMx y q i Lib.Math.max.name Lib.Math.max.code 2) (k : wpB es lo st h (fun lo stk h => pI stk fun z r => pI r fun x r => (1 ≤ d ∧ (r.map cat).sum ≤ 8) ∧ wp y d rc rs Q (q + 3) lo (vi (max x z) :: r) h)) : wp y d rc rs Q pc lo st h := by
  refine xB hb (wpB_mono ?_ k)
  intro lo st h hk
  obtain ⟨z, r1, rfl, k1⟩ := pI_e hk
  obtain ⟨x, r2, rfl, k2, k3⟩ := pI_e k1
  intro E p l e R s' m args below meth c' Z hC hR hdd1 hdd2 hb H locs ls cells slots hc hs hW hS hl hst hlo
  have hts := hC.2.2.2.2.1
  have hz : inr z := (ok_cons.mp hst).1
  have hx : inr x := (ok_cons.mp (ok_cons.mp hst).2).1
  have hm : inr (max x z) := by unfold inr at *; omega
  have e1 : (if Int32.ofInt x < Int32.ofInt z then Int32.ofInt z else Int32.ofInt x) = Int32.ofInt (max x z) := by
    by_cases c : x < z
    · rw [if_pos ((oi_lt hx hz).mpr c)]; congr 1; omega
    · rw [if_neg (fun q => c ((oi_lt hx hz).mp q))]; congr 1; omega
  refine va_mmax hC.1 hC.2.1 (hC.2.2.1.trans hl.1.symm) hC.2.2.2.1 (hts _ s.2.1) (hts _ s.2.2.1) (hts _ s.2.2.2.1) (hts _ s.2.2.2.2) (by omega) (by rw [cat_sum]; omega) (by omega) (by omega) s.1 ?_
  rw [e1]
  exact k3 E p l e R s' m args below meth c' Z hC hR hdd1 hdd2 hb H locs ls cells slots hc hs hW hS hl (ok_cons.mpr ⟨hm, (ok_cons.mp (ok_cons.mp hst).2).2⟩) hlo
theorem xMin (hb : ckB y o pc es q = true) (s : cMx y q i Lib.Math.min.name Lib.Math.min.code 2) (k : wpB es lo st h (fun lo stk h => pI stk fun z r => pI r fun x r => (1 ≤ d ∧ (r.map cat).sum ≤ 8) ∧ wp y d rc rs Q (q + 3) lo (vi (min x z) :: r) h)) : wp y d rc rs Q pc lo st h := by
  refine xB hb (wpB_mono ?_ k)
  intro lo st h hk
  obtain ⟨z, r1, rfl, k1⟩ := pI_e hk
  obtain ⟨x, r2, rfl, k2, k3⟩ := pI_e k1
  intro E p l e R s' m args below meth c' Z hC hR hdd1 hdd2 hb H locs ls cells slots hc hs hW hS hl hst hlo
  have hts := hC.2.2.2.2.1
  have hz : inr z := (ok_cons.mp hst).1
  have hx : inr x := (ok_cons.mp (ok_cons.mp hst).2).1
  have hm : inr (min x z) := by unfold inr at *; omega
  have e1 : (if Int32.ofInt z < Int32.ofInt x then Int32.ofInt z else Int32.ofInt x) = Int32.ofInt (min x z) := by
    by_cases c : z < x
    · rw [if_pos ((oi_lt hz hx).mpr c)]; congr 1; omega
    · rw [if_neg (fun q => c ((oi_lt hz hx).mp q))]; congr 1; omega
  refine va_mmin hC.1 hC.2.1 (hC.2.2.1.trans hl.1.symm) hC.2.2.2.1 (hts _ s.2.1) (hts _ s.2.2.1) (hts _ s.2.2.2.1) (hts _ s.2.2.2.2) (by omega) (by rw [cat_sum]; omega) (by omega) (by omega) s.1 ?_
  rw [e1]
  exact k3 E p l e R s' m args below meth c' Z hC hR hdd1 hdd2 hb H locs ls cells slots hc hs hW hS hl (ok_cons.mpr ⟨hm, (ok_cons.mp (ok_cons.mp hst).2).2⟩) hlo
theorem xAbs (hb : ckB y o pc es q = true) (s : cMx y q i Lib.Math.abs.name Lib.Math.abs.code 1) (k : wpB es lo st h (fun lo stk h => pI stk fun x r => (1 ≤ d ∧ (r.map cat).sum ≤ 8) ∧ inr (-x) ∧ wp y d rc rs Q (q + 3) lo (vi (max x (-x)) :: r) h)) : wp y d rc rs Q pc lo st h := by
  refine xB hb (wpB_mono ?_ k)
  intro lo st h hk
  obtain ⟨x, r2, rfl, k2, hn, k3⟩ := pI_e hk
  intro E p l e R s' m args below meth c' Z hC hR hdd1 hdd2 hb H locs ls cells slots hc hs hW hS hl hst hlo
  have hts := hC.2.2.2.2.1
  have hx : inr x := (ok_cons.mp hst).1
  have hm : inr (max x (-x)) := by unfold inr at *; omega
  have e1 : (if 0 ≤ Int32.ofInt x then Int32.ofInt x else 0 - Int32.ofInt x) = Int32.ofInt (max x (-x)) := by
    rw [oi_0]
    by_cases c : 0 ≤ x
    · rw [if_pos ((oi_le in_0 hx).mpr c)]; congr 1; omega
    · rw [if_neg (fun q => c ((oi_le in_0 hx).mp q)), oi_sub]; congr 1; omega
  refine va_mabs hC.1 hC.2.1 (hC.2.2.1.trans hl.1.symm) hC.2.2.2.1 (hts _ s.2.1) (hts _ s.2.2.1) (hts _ s.2.2.2.1) (hts _ s.2.2.2.2) (by omega) (by rw [cat_sum]; omega) (by omega) (by omega) s.1 ?_
  rw [e1]
  exact k3 E p l e R s' m args below meth c' Z hC hR hdd1 hdd2 hb H locs ls cells slots hc hs hW hS hl (ok_cons.mpr ⟨hm, (ok_cons.mp hst).2⟩) hlo
end MATH
end
end
section
/-! THE REFERENCE'S SMALL METHODS -/
def b_X12_in_0 : List IE := [(.iload_n 0, 1, 0, 0, 0, 0), (.iload_n 1, 1, 0, 0, 1, 0)]
theorem k_X12_in_0 : ckIc mX12_in 12 0 b_X12_in_0 2 2 12 14 5 = true := by decide +kernel
def b_X12_in_5 : List IE := [(.iload_n 0, 1, 0, 0, 0, 0), (.iload_n 2, 1, 0, 0, 2, 0)]
theorem k_X12_in_5 : ckIc mX12_in 12 5 b_X12_in_5 7 4 7 14 10 = true := by decide +kernel
def b_X12_in_10 : List IE := [(.iconst 1, 1, 1, 0, 0, 0)]
theorem k_X12_in_10 : ckGo mX12_in 12 10 b_X12_in_10 11 4 15 = true := by decide +kernel
def b_X12_in_14 : List IE := [(.iconst 0, 1, 0, 0, 0, 0)]
theorem k_X12_in_14 : ckZ mX12_in 12 14 b_X12_in_14 15 = true := by decide +kernel
def b_X12_in_15 : List IE := []
theorem k_X12_in_15 : ckZ mX12_in 12 15 b_X12_in_15 15 = true := by decide +kernel
theorem t_X12_in_0 {rc rs : Nat} {Q : Option AV → AH → Prop} {h : AH} {x0 x1 x2 : Int} (hv : ((x0 < x1 → Q (some (vi 0)) h) ∧ (x1 ≤ x0 → ((x2 < x0 → Q (some (vi 0)) h) ∧ (x0 ≤ x2 → Q (some (vi 1)) h))))) : wp mX12_in 0 rc rs Q 0 [some (vi x0), some (vi x1), some (vi x2)] [] h :=
  (show wp mX12_in 0 rc rs Q 0 [some (vi x0), some (vi x1), some (vi x2)] [] h from xIc k_X12_in_0 (And.intro (fun c1 => have v3 := hv.1 c1; (show wp mX12_in 0 rc rs Q 14 [some (vi x0), some (vi x1), some (vi x2)] [] h from xZ k_X12_in_14 (And.intro rfl (And.intro (Or.inl rfl) v3)))) (fun c2 => have v4 := hv.2 (Int.not_lt.mp c2); (show wp mX12_in 0 rc rs Q 5 [some (vi x0), some (vi x1), some (vi x2)] [] h from xIc k_X12_in_5 (And.intro (fun c5 => have v7 := v4.1 c5; (show wp mX12_in 0 rc rs Q 14 [some (vi x0), some (vi x1), some (vi x2)] [] h from xZ k_X12_in_14 (And.intro rfl (And.intro (Or.inl rfl) v7)))) (fun c6 => have v8 := v4.2 (Int.not_lt.mp c6); (show wp mX12_in 0 rc rs Q 10 [some (vi x0), some (vi x1), some (vi x2)] [] h from xGo k_X12_in_10 (show wp mX12_in 0 rc rs Q 15 [some (vi x0), some (vi x1), some (vi x2)] [vi 1] h from xZ k_X12_in_15 (And.intro rfl (And.intro (Or.inr rfl) v8))))))))))
theorem e_X12_in {mc ms : Nat} {Q : Option AV → AH → Prop} {h : AH} {x0 x1 x2 : Int} (hv : ((x0 < x1 → Q (some (vi 0)) h) ∧ (x1 ≤ x0 → ((x2 < x0 → Q (some (vi 0)) h) ∧ (x0 ≤ x2 → Q (some (vi 1)) h))))) : Ct 0 mc ms mX12_in [vi x0, vi x1, vi x2] h Q := Ct.of (by decide +kernel) (Nat.le_of_ble_eq_true rfl) (t_X12_in_0 hv)
theorem c_in {h : AH} {a b c : Int} : Ct 0 0 0 mX12_in [vi a, vi b, vi c] h (QI fun x h' => x = b01 (b ≤ a ∧ a ≤ c) ∧ h' = h) :=
  e_X12_in ⟨fun _ => ⟨_, rfl, (b01_f (by omega)).symm, rfl⟩, fun _ => ⟨fun _ => ⟨_, rfl, (b01_f (by omega)).symm, rfl⟩, fun _ => ⟨_, rfl, (b01_t (by omega)).symm, rfl⟩⟩⟩
def b_X12_isKey_0 : List IE := [(.iload_n 0, 1, 0, 0, 0, 0), (.iconst 0, 1, 0, 0, 0, 0), (.bipush 99, 2, 99, 0, 0, 0)]
theorem k_X12_isKey_0 : ckB mX12_isKey 12 0 b_X12_isKey_0 4 = true := by decide +kernel
def b_X12_isKey_7 : List IE := []
theorem k_X12_isKey_7 : ckZ mX12_isKey 12 7 b_X12_isKey_7 7 = true := by decide +kernel
theorem s_X12_isKey_4 : cS mX12_isKey 4 mX12_in 109 3 := ⟨by decide +kernel, ⟨ml_X12_in, li_RX12_109, st_X12_in⟩, by decide +kernel⟩
theorem t_X12_isKey_0 {rc rs : Nat} {Q : Option AV → AH → Prop} {h : AH} {x0 : Int} (hv : Q (some (vi (b01 ((0 : Int) ≤ x0 ∧ x0 ≤ (99 : Int))))) h) : wp mX12_isKey 1 rc rs Q 0 [some (vi x0)] [] h :=
  (show wp mX12_isKey 1 rc rs Q 0 [some (vi x0)] [] h from xcS k_X12_isKey_0 s_X12_isKey_4 ((Exists.intro [vi x0, vi 0, vi 99] (Exists.intro [] (And.intro (And.intro rfl (And.intro rfl (Nat.le_of_ble_eq_true rfl))) (Exists.intro 0 (Exists.intro 0 (Exists.intro 0 (Exists.intro _ (And.intro c_in (And.intro (And.intro (by decide) (And.intro (Nat.zero_le _) (Nat.zero_le _))) (eQP (show wp mX12_isKey 1 rc rs Q 7 [some (vi x0)] [vi (b01 ((0 : Int) ≤ x0 ∧ x0 ≤ (99 : Int)))] h from xZ k_X12_isKey_7 (And.intro rfl (And.intro (b01_01 _) hv)))))))))))))))
theorem e_X12_isKey {mc ms : Nat} {Q : Option AV → AH → Prop} {h : AH} {x0 : Int} (hv : Q (some (vi (b01 ((0 : Int) ≤ x0 ∧ x0 ≤ (99 : Int))))) h) : Ct 1 mc ms mX12_isKey [vi x0] h Q := Ct.of (by decide +kernel) (Nat.le_of_ble_eq_true rfl) (t_X12_isKey_0 hv)
def b_X12_isView_0 : List IE := [(.iload_n 0, 1, 0, 0, 0, 0), (.iconst 0, 1, 0, 0, 0, 0), (.iconst 3, 1, 3, 0, 0, 0)]
theorem k_X12_isView_0 : ckB mX12_isView 12 0 b_X12_isView_0 3 = true := by decide +kernel
def b_X12_isView_6 : List IE := []
theorem k_X12_isView_6 : ckZ mX12_isView 12 6 b_X12_isView_6 6 = true := by decide +kernel
theorem s_X12_isView_3 : cS mX12_isView 3 mX12_in 109 3 := ⟨by decide +kernel, ⟨ml_X12_in, li_RX12_109, st_X12_in⟩, by decide +kernel⟩
theorem t_X12_isView_0 {rc rs : Nat} {Q : Option AV → AH → Prop} {h : AH} {x0 : Int} (hv : Q (some (vi (b01 ((0 : Int) ≤ x0 ∧ x0 ≤ (3 : Int))))) h) : wp mX12_isView 1 rc rs Q 0 [some (vi x0)] [] h :=
  (show wp mX12_isView 1 rc rs Q 0 [some (vi x0)] [] h from xcS k_X12_isView_0 s_X12_isView_3 ((Exists.intro [vi x0, vi 0, vi 3] (Exists.intro [] (And.intro (And.intro rfl (And.intro rfl (Nat.le_of_ble_eq_true rfl))) (Exists.intro 0 (Exists.intro 0 (Exists.intro 0 (Exists.intro _ (And.intro c_in (And.intro (And.intro (by decide) (And.intro (Nat.zero_le _) (Nat.zero_le _))) (eQP (show wp mX12_isView 1 rc rs Q 6 [some (vi x0)] [vi (b01 ((0 : Int) ≤ x0 ∧ x0 ≤ (3 : Int)))] h from xZ k_X12_isView_6 (And.intro rfl (And.intro (b01_01 _) hv)))))))))))))))
theorem e_X12_isView {mc ms : Nat} {Q : Option AV → AH → Prop} {h : AH} {x0 : Int} (hv : Q (some (vi (b01 ((0 : Int) ≤ x0 ∧ x0 ≤ (3 : Int))))) h) : Ct 1 mc ms mX12_isView [vi x0] h Q := Ct.of (by decide +kernel) (Nat.le_of_ble_eq_true rfl) (t_X12_isView_0 hv)
def b_X12_isByte_0 : List IE := [(.iload_n 0, 1, 0, 0, 0, 0), (.iconst 0, 1, 0, 0, 0, 0), (.sipush 255, 3, 255, 0, 0, 0)]
theorem k_X12_isByte_0 : ckB mX12_isByte 12 0 b_X12_isByte_0 5 = true := by decide +kernel
def b_X12_isByte_8 : List IE := []
theorem k_X12_isByte_8 : ckZ mX12_isByte 12 8 b_X12_isByte_8 8 = true := by decide +kernel
theorem s_X12_isByte_5 : cS mX12_isByte 5 mX12_in 109 3 := ⟨by decide +kernel, ⟨ml_X12_in, li_RX12_109, st_X12_in⟩, by decide +kernel⟩
theorem t_X12_isByte_0 {rc rs : Nat} {Q : Option AV → AH → Prop} {h : AH} {x0 : Int} (hv : Q (some (vi (b01 ((0 : Int) ≤ x0 ∧ x0 ≤ (255 : Int))))) h) : wp mX12_isByte 1 rc rs Q 0 [some (vi x0)] [] h :=
  (show wp mX12_isByte 1 rc rs Q 0 [some (vi x0)] [] h from xcS k_X12_isByte_0 s_X12_isByte_5 ((Exists.intro [vi x0, vi 0, vi 255] (Exists.intro [] (And.intro (And.intro rfl (And.intro rfl (Nat.le_of_ble_eq_true rfl))) (Exists.intro 0 (Exists.intro 0 (Exists.intro 0 (Exists.intro _ (And.intro c_in (And.intro (And.intro (by decide) (And.intro (Nat.zero_le _) (Nat.zero_le _))) (eQP (show wp mX12_isByte 1 rc rs Q 8 [some (vi x0)] [vi (b01 ((0 : Int) ≤ x0 ∧ x0 ≤ (255 : Int)))] h from xZ k_X12_isByte_8 (And.intro rfl (And.intro (b01_01 _) hv)))))))))))))))
theorem e_X12_isByte {mc ms : Nat} {Q : Option AV → AH → Prop} {h : AH} {x0 : Int} (hv : Q (some (vi (b01 ((0 : Int) ≤ x0 ∧ x0 ≤ (255 : Int))))) h) : Ct 1 mc ms mX12_isByte [vi x0] h Q := Ct.of (by decide +kernel) (Nat.le_of_ble_eq_true rfl) (t_X12_isByte_0 hv)
def b_X12_isSheet_0 : List IE := [(.iload_n 0, 1, 0, 0, 0, 0), (.iconst 0, 1, 0, 0, 0, 0), (.iconst 3, 1, 3, 0, 0, 0)]
theorem k_X12_isSheet_0 : ckB mX12_isSheet 12 0 b_X12_isSheet_0 3 = true := by decide +kernel
def b_X12_isSheet_6 : List IE := []
theorem k_X12_isSheet_6 : ckZ mX12_isSheet 12 6 b_X12_isSheet_6 6 = true := by decide +kernel
theorem s_X12_isSheet_3 : cS mX12_isSheet 3 mX12_in 109 3 := ⟨by decide +kernel, ⟨ml_X12_in, li_RX12_109, st_X12_in⟩, by decide +kernel⟩
theorem t_X12_isSheet_0 {rc rs : Nat} {Q : Option AV → AH → Prop} {h : AH} {x0 : Int} (hv : Q (some (vi (b01 ((0 : Int) ≤ x0 ∧ x0 ≤ (3 : Int))))) h) : wp mX12_isSheet 1 rc rs Q 0 [some (vi x0)] [] h :=
  (show wp mX12_isSheet 1 rc rs Q 0 [some (vi x0)] [] h from xcS k_X12_isSheet_0 s_X12_isSheet_3 ((Exists.intro [vi x0, vi 0, vi 3] (Exists.intro [] (And.intro (And.intro rfl (And.intro rfl (Nat.le_of_ble_eq_true rfl))) (Exists.intro 0 (Exists.intro 0 (Exists.intro 0 (Exists.intro _ (And.intro c_in (And.intro (And.intro (by decide) (And.intro (Nat.zero_le _) (Nat.zero_le _))) (eQP (show wp mX12_isSheet 1 rc rs Q 6 [some (vi x0)] [vi (b01 ((0 : Int) ≤ x0 ∧ x0 ≤ (3 : Int)))] h from xZ k_X12_isSheet_6 (And.intro rfl (And.intro (b01_01 _) hv)))))))))))))))
theorem e_X12_isSheet {mc ms : Nat} {Q : Option AV → AH → Prop} {h : AH} {x0 : Int} (hv : Q (some (vi (b01 ((0 : Int) ≤ x0 ∧ x0 ≤ (3 : Int))))) h) : Ct 1 mc ms mX12_isSheet [vi x0] h Q := Ct.of (by decide +kernel) (Nat.le_of_ble_eq_true rfl) (t_X12_isSheet_0 hv)
def b_X12_isLetter_0 : List IE := [(.iload_n 0, 1, 0, 0, 0, 0), (.bipush 97, 2, 97, 0, 0, 0), (.bipush 122, 2, 122, 0, 0, 0)]
theorem k_X12_isLetter_0 : ckB mX12_isLetter 12 0 b_X12_isLetter_0 5 = true := by decide +kernel
def b_X12_isLetter_8 : List IE := []
theorem k_X12_isLetter_8 : ckZ mX12_isLetter 12 8 b_X12_isLetter_8 8 = true := by decide +kernel
theorem s_X12_isLetter_5 : cS mX12_isLetter 5 mX12_in 109 3 := ⟨by decide +kernel, ⟨ml_X12_in, li_RX12_109, st_X12_in⟩, by decide +kernel⟩
theorem t_X12_isLetter_0 {rc rs : Nat} {Q : Option AV → AH → Prop} {h : AH} {x0 : Int} (hv : Q (some (vi (b01 ((97 : Int) ≤ x0 ∧ x0 ≤ (122 : Int))))) h) : wp mX12_isLetter 1 rc rs Q 0 [some (vi x0)] [] h :=
  (show wp mX12_isLetter 1 rc rs Q 0 [some (vi x0)] [] h from xcS k_X12_isLetter_0 s_X12_isLetter_5 ((Exists.intro [vi x0, vi 97, vi 122] (Exists.intro [] (And.intro (And.intro rfl (And.intro rfl (Nat.le_of_ble_eq_true rfl))) (Exists.intro 0 (Exists.intro 0 (Exists.intro 0 (Exists.intro _ (And.intro c_in (And.intro (And.intro (by decide) (And.intro (Nat.zero_le _) (Nat.zero_le _))) (eQP (show wp mX12_isLetter 1 rc rs Q 8 [some (vi x0)] [vi (b01 ((97 : Int) ≤ x0 ∧ x0 ≤ (122 : Int)))] h from xZ k_X12_isLetter_8 (And.intro rfl (And.intro (b01_01 _) hv)))))))))))))))
theorem e_X12_isLetter {mc ms : Nat} {Q : Option AV → AH → Prop} {h : AH} {x0 : Int} (hv : Q (some (vi (b01 ((97 : Int) ≤ x0 ∧ x0 ≤ (122 : Int))))) h) : Ct 1 mc ms mX12_isLetter [vi x0] h Q := Ct.of (by decide +kernel) (Nat.le_of_ble_eq_true rfl) (t_X12_isLetter_0 hv)
def b_X12_isBlank_0 : List IE := [(.iload_n 0, 1, 0, 0, 0, 0), (.bipush 32, 2, 32, 0, 0, 0)]
theorem k_X12_isBlank_0 : ckIc mX12_isBlank 12 0 b_X12_isBlank_0 3 0 9 12 6 = true := by decide +kernel
def b_X12_isBlank_6 : List IE := [(.iload_n 0, 1, 0, 0, 0, 0), (.bipush 10, 2, 10, 0, 0, 0)]
theorem k_X12_isBlank_6 : ckIc mX12_isBlank 12 6 b_X12_isBlank_6 9 1 7 16 12 = true := by decide +kernel
def b_X12_isBlank_12 : List IE := [(.iconst 1, 1, 1, 0, 0, 0)]
theorem k_X12_isBlank_12 : ckGo mX12_isBlank 12 12 b_X12_isBlank_12 13 4 17 = true := by decide +kernel
def b_X12_isBlank_16 : List IE := [(.iconst 0, 1, 0, 0, 0, 0)]
theorem k_X12_isBlank_16 : ckZ mX12_isBlank 12 16 b_X12_isBlank_16 17 = true := by decide +kernel
def b_X12_isBlank_17 : List IE := []
theorem k_X12_isBlank_17 : ckZ mX12_isBlank 12 17 b_X12_isBlank_17 17 = true := by decide +kernel
theorem t_X12_isBlank_0 {rc rs : Nat} {Q : Option AV → AH → Prop} {h : AH} {x0 : Int} (hv : ((x0 = 32 → Q (some (vi 1)) h) ∧ (x0 ≠ 32 → ((x0 ≠ 10 → Q (some (vi 0)) h) ∧ (x0 = 10 → Q (some (vi 1)) h))))) : wp mX12_isBlank 0 rc rs Q 0 [some (vi x0)] [] h :=
  (show wp mX12_isBlank 0 rc rs Q 0 [some (vi x0)] [] h from xIc k_X12_isBlank_0 (And.intro (fun c1 => have v3 := hv.1 c1; (show wp mX12_isBlank 0 rc rs Q 12 [some (vi x0)] [] h from xGo k_X12_isBlank_12 (show wp mX12_isBlank 0 rc rs Q 17 [some (vi x0)] [vi 1] h from xZ k_X12_isBlank_17 (And.intro rfl (And.intro (Or.inr rfl) v3))))) (fun c2 => have v4 := hv.2 c2; (show wp mX12_isBlank 0 rc rs Q 6 [some (vi x0)] [] h from xIc k_X12_isBlank_6 (And.intro (fun c5 => have v7 := v4.1 c5; (show wp mX12_isBlank 0 rc rs Q 16 [some (vi x0)] [] h from xZ k_X12_isBlank_16 (And.intro rfl (And.intro (Or.inl rfl) v7)))) (fun c6 => have v8 := v4.2 (Decidable.not_not.mp c6); (show wp mX12_isBlank 0 rc rs Q 12 [some (vi x0)] [] h from xGo k_X12_isBlank_12 (show wp mX12_isBlank 0 rc rs Q 17 [some (vi x0)] [vi 1] h from xZ k_X12_isBlank_17 (And.intro rfl (And.intro (Or.inr rfl) v8))))))))))
theorem e_X12_isBlank {mc ms : Nat} {Q : Option AV → AH → Prop} {h : AH} {x0 : Int} (hv : ((x0 = 32 → Q (some (vi 1)) h) ∧ (x0 ≠ 32 → ((x0 ≠ 10 → Q (some (vi 0)) h) ∧ (x0 = 10 → Q (some (vi 1)) h))))) : Ct 0 mc ms mX12_isBlank [vi x0] h Q := Ct.of (by decide +kernel) (Nat.le_of_ble_eq_true rfl) (t_X12_isBlank_0 hv)
def b_X12_isSegment_0 : List IE := [(.iload_n 1, 1, 0, 0, 1, 0), (.iconst 0, 1, 0, 0, 0, 0), (.aload_n 0, 1, 0, 0, 0, 0), (.getfield 106, 3, 0, 12, 13, 0), (.iconst 1, 1, 1, 0, 0, 0), (.isub, 1, 0, 0, 0, 0)]
theorem k_X12_isSegment_0 : ckB mX12_isSegment 12 0 b_X12_isSegment_0 8 = true := by decide +kernel
def b_X12_isSegment_11 : List IE := []
theorem k_X12_isSegment_11 : ckZ mX12_isSegment 12 11 b_X12_isSegment_11 11 = true := by decide +kernel
theorem s_X12_isSegment_8 : cS mX12_isSegment 8 mX12_in 109 3 := ⟨by decide +kernel, ⟨ml_X12_in, li_RX12_109, st_X12_in⟩, by decide +kernel⟩
theorem t_X12_isSegment_0 {rc rs : Nat} {Q : Option AV → AH → Prop} {h : AH} {x1 : Int} (hL : LayM h) (hv : (-2147483648 ≤ (iH h 71 13 - 1) ∧ (iH h 71 13 - 1) < 2147483648) ∧ Q (some (vi (b01 ((0 : Int) ≤ x1 ∧ x1 ≤ (iH h 71 13 - 1))))) h) : wp mX12_isSegment 1 rc rs Q 0 [some (vr 71), some (vi x1)] [] h :=
  (show wp mX12_isSegment 1 rc rs Q 0 [some (vr 71), some (vi x1)] [] h from xcS k_X12_isSegment_0 s_X12_isSegment_8 (And.intro (lm_71 hL) (have c1 := hv.1; have v5 := hv.2; (And.intro c1 ((Exists.intro [vi x1, vi 0, vi (iH h 71 13 - 1)] (Exists.intro [] (And.intro (And.intro rfl (And.intro rfl (Nat.le_of_ble_eq_true rfl))) (Exists.intro 0 (Exists.intro 0 (Exists.intro 0 (Exists.intro _ (And.intro c_in (And.intro (And.intro (by decide) (And.intro (Nat.zero_le _) (Nat.zero_le _))) (eQP (show wp mX12_isSegment 1 rc rs Q 11 [some (vr 71), some (vi x1)] [vi (b01 ((0 : Int) ≤ x1 ∧ x1 ≤ (iH h 71 13 - 1)))] h from xZ k_X12_isSegment_11 (And.intro rfl (And.intro (b01_01 _) v5))))))))))))))))))
theorem e_X12_isSegment {mc ms : Nat} {Q : Option AV → AH → Prop} {h : AH} {x1 : Int} (hL : LayM h) (hv : (-2147483648 ≤ (iH h 71 13 - 1) ∧ (iH h 71 13 - 1) < 2147483648) ∧ Q (some (vi (b01 ((0 : Int) ≤ x1 ∧ x1 ≤ (iH h 71 13 - 1))))) h) : Ct 1 mc ms mX12_isSegment [vr 71, vi x1] h Q := Ct.of (by decide +kernel) (Nat.le_of_ble_eq_true rfl) (t_X12_isSegment_0 hL hv)
def b_X12_isQuery_0 : List IE := [(.iload_n 1, 1, 0, 0, 1, 0), (.iconst 0, 1, 0, 0, 0, 0), (.aload_n 0, 1, 0, 0, 0, 0), (.getfield 113, 3, 0, 12, 30, 0), (.iconst 1, 1, 1, 0, 0, 0), (.isub, 1, 0, 0, 0, 0)]
theorem k_X12_isQuery_0 : ckB mX12_isQuery 12 0 b_X12_isQuery_0 8 = true := by decide +kernel
def b_X12_isQuery_11 : List IE := []
theorem k_X12_isQuery_11 : ckZ mX12_isQuery 12 11 b_X12_isQuery_11 11 = true := by decide +kernel
theorem s_X12_isQuery_8 : cS mX12_isQuery 8 mX12_in 109 3 := ⟨by decide +kernel, ⟨ml_X12_in, li_RX12_109, st_X12_in⟩, by decide +kernel⟩
theorem t_X12_isQuery_0 {rc rs : Nat} {Q : Option AV → AH → Prop} {h : AH} {x1 : Int} (hL : LayM h) (hv : (-2147483648 ≤ (iH h 71 30 - 1) ∧ (iH h 71 30 - 1) < 2147483648) ∧ Q (some (vi (b01 ((0 : Int) ≤ x1 ∧ x1 ≤ (iH h 71 30 - 1))))) h) : wp mX12_isQuery 1 rc rs Q 0 [some (vr 71), some (vi x1)] [] h :=
  (show wp mX12_isQuery 1 rc rs Q 0 [some (vr 71), some (vi x1)] [] h from xcS k_X12_isQuery_0 s_X12_isQuery_8 (And.intro (lm_71 hL) (have c1 := hv.1; have v5 := hv.2; (And.intro c1 ((Exists.intro [vi x1, vi 0, vi (iH h 71 30 - 1)] (Exists.intro [] (And.intro (And.intro rfl (And.intro rfl (Nat.le_of_ble_eq_true rfl))) (Exists.intro 0 (Exists.intro 0 (Exists.intro 0 (Exists.intro _ (And.intro c_in (And.intro (And.intro (by decide) (And.intro (Nat.zero_le _) (Nat.zero_le _))) (eQP (show wp mX12_isQuery 1 rc rs Q 11 [some (vr 71), some (vi x1)] [vi (b01 ((0 : Int) ≤ x1 ∧ x1 ≤ (iH h 71 30 - 1)))] h from xZ k_X12_isQuery_11 (And.intro rfl (And.intro (b01_01 _) v5))))))))))))))))))
theorem e_X12_isQuery {mc ms : Nat} {Q : Option AV → AH → Prop} {h : AH} {x1 : Int} (hL : LayM h) (hv : (-2147483648 ≤ (iH h 71 30 - 1) ∧ (iH h 71 30 - 1) < 2147483648) ∧ Q (some (vi (b01 ((0 : Int) ≤ x1 ∧ x1 ≤ (iH h 71 30 - 1))))) h) : Ct 1 mc ms mX12_isQuery [vr 71, vi x1] h Q := Ct.of (by decide +kernel) (Nat.le_of_ble_eq_true rfl) (t_X12_isQuery_0 hL hv)
def b_X12_isAsked_0 : List IE := [(.iload_n 0, 1, 0, 0, 0, 0), (.iconst 0, 1, 0, 0, 0, 0), (.iconst 2, 1, 2, 0, 0, 0)]
theorem k_X12_isAsked_0 : ckB mX12_isAsked 12 0 b_X12_isAsked_0 3 = true := by decide +kernel
def b_X12_isAsked_6 : List IE := []
theorem k_X12_isAsked_6 : ckIf mX12_isAsked 12 6 b_X12_isAsked_6 6 1 26 32 9 = true := by decide +kernel
def b_X12_isAsked_9 : List IE := [(.iload_n 0, 1, 0, 0, 0, 0), (.bipush 10, 2, 10, 0, 0, 0), (.bipush 73, 2, 73, 0, 0, 0)]
theorem k_X12_isAsked_9 : ckB mX12_isAsked 12 9 b_X12_isAsked_9 14 = true := by decide +kernel
def b_X12_isAsked_17 : List IE := []
theorem k_X12_isAsked_17 : ckIf mX12_isAsked 12 17 b_X12_isAsked_17 17 1 15 32 20 = true := by decide +kernel
def b_X12_isAsked_20 : List IE := [(.iload_n 0, 1, 0, 0, 0, 0), (.bipush 100, 2, 100, 0, 0, 0), (.sipush 163, 3, 163, 0, 0, 0)]
theorem k_X12_isAsked_20 : ckB mX12_isAsked 12 20 b_X12_isAsked_20 26 = true := by decide +kernel
def b_X12_isAsked_29 : List IE := []
theorem k_X12_isAsked_29 : ckIf mX12_isAsked 12 29 b_X12_isAsked_29 29 0 7 36 32 = true := by decide +kernel
def b_X12_isAsked_32 : List IE := [(.iconst 1, 1, 1, 0, 0, 0)]
theorem k_X12_isAsked_32 : ckGo mX12_isAsked 12 32 b_X12_isAsked_32 33 4 37 = true := by decide +kernel
def b_X12_isAsked_36 : List IE := [(.iconst 0, 1, 0, 0, 0, 0)]
theorem k_X12_isAsked_36 : ckZ mX12_isAsked 12 36 b_X12_isAsked_36 37 = true := by decide +kernel
def b_X12_isAsked_37 : List IE := []
theorem k_X12_isAsked_37 : ckZ mX12_isAsked 12 37 b_X12_isAsked_37 37 = true := by decide +kernel
theorem s_X12_isAsked_3 : cS mX12_isAsked 3 mX12_in 109 3 := ⟨by decide +kernel, ⟨ml_X12_in, li_RX12_109, st_X12_in⟩, by decide +kernel⟩
theorem s_X12_isAsked_14 : cS mX12_isAsked 14 mX12_in 109 3 := ⟨by decide +kernel, ⟨ml_X12_in, li_RX12_109, st_X12_in⟩, by decide +kernel⟩
theorem s_X12_isAsked_26 : cS mX12_isAsked 26 mX12_in 109 3 := ⟨by decide +kernel, ⟨ml_X12_in, li_RX12_109, st_X12_in⟩, by decide +kernel⟩
theorem t_X12_isAsked_0 {rc rs : Nat} {Q : Option AV → AH → Prop} {h : AH} {x0 : Int} (hv : ((((0 : Int) ≤ x0 ∧ x0 ≤ (2 : Int)) → Q (some (vi 1)) h) ∧ (¬ ((0 : Int) ≤ x0 ∧ x0 ≤ (2 : Int)) → ((((10 : Int) ≤ x0 ∧ x0 ≤ (73 : Int)) → Q (some (vi 1)) h) ∧ (¬ ((10 : Int) ≤ x0 ∧ x0 ≤ (73 : Int)) → ((¬ ((100 : Int) ≤ x0 ∧ x0 ≤ (163 : Int)) → Q (some (vi 0)) h) ∧ (((100 : Int) ≤ x0 ∧ x0 ≤ (163 : Int)) → Q (some (vi 1)) h))))))) : wp mX12_isAsked 1 rc rs Q 0 [some (vi x0)] [] h :=
  (show wp mX12_isAsked 1 rc rs Q 0 [some (vi x0)] [] h from xcS k_X12_isAsked_0 s_X12_isAsked_3 ((Exists.intro [vi x0, vi 0, vi 2] (Exists.intro [] (And.intro (And.intro rfl (And.intro rfl (Nat.le_of_ble_eq_true rfl))) (Exists.intro 0 (Exists.intro 0 (Exists.intro 0 (Exists.intro _ (And.intro c_in (And.intro (And.intro (by decide) (And.intro (Nat.zero_le _) (Nat.zero_le _))) (eQP (show wp mX12_isAsked 1 rc rs Q 6 [some (vi x0)] [vi (b01 ((0 : Int) ≤ x0 ∧ x0 ≤ (2 : Int)))] h from xIf k_X12_isAsked_6 (And.intro (fun c1 => have v3 := hv.1 (b01_p.mp c1); (show wp mX12_isAsked 1 rc rs Q 32 [some (vi x0)] [] h from xGo k_X12_isAsked_32 (show wp mX12_isAsked 1 rc rs Q 37 [some (vi x0)] [vi 1] h from xZ k_X12_isAsked_37 (And.intro rfl (And.intro (Or.inr rfl) v3))))) (fun c2 => have v4 := hv.2 (b01_nn.mp c2); (show wp mX12_isAsked 1 rc rs Q 9 [some (vi x0)] [] h from xcS k_X12_isAsked_9 s_X12_isAsked_14 ((Exists.intro [vi x0, vi 10, vi 73] (Exists.intro [] (And.intro (And.intro rfl (And.intro rfl (Nat.le_of_ble_eq_true rfl))) (Exists.intro 0 (Exists.intro 0 (Exists.intro 0 (Exists.intro _ (And.intro c_in (And.intro (And.intro (by decide) (And.intro (Nat.zero_le _) (Nat.zero_le _))) (eQP (show wp mX12_isAsked 1 rc rs Q 17 [some (vi x0)] [vi (b01 ((10 : Int) ≤ x0 ∧ x0 ≤ (73 : Int)))] h from xIf k_X12_isAsked_17 (And.intro (fun c5 => have v7 := v4.1 (b01_p.mp c5); (show wp mX12_isAsked 1 rc rs Q 32 [some (vi x0)] [] h from xGo k_X12_isAsked_32 (show wp mX12_isAsked 1 rc rs Q 37 [some (vi x0)] [vi 1] h from xZ k_X12_isAsked_37 (And.intro rfl (And.intro (Or.inr rfl) v7))))) (fun c6 => have v8 := v4.2 (b01_nn.mp c6); (show wp mX12_isAsked 1 rc rs Q 20 [some (vi x0)] [] h from xcS k_X12_isAsked_20 s_X12_isAsked_26 ((Exists.intro [vi x0, vi 100, vi 163] (Exists.intro [] (And.intro (And.intro rfl (And.intro rfl (Nat.le_of_ble_eq_true rfl))) (Exists.intro 0 (Exists.intro 0 (Exists.intro 0 (Exists.intro _ (And.intro c_in (And.intro (And.intro (by decide) (And.intro (Nat.zero_le _) (Nat.zero_le _))) (eQP (show wp mX12_isAsked 1 rc rs Q 29 [some (vi x0)] [vi (b01 ((100 : Int) ≤ x0 ∧ x0 ≤ (163 : Int)))] h from xIf k_X12_isAsked_29 (And.intro (fun c9 => have v11 := v8.1 (b01_n.mp c9); (show wp mX12_isAsked 1 rc rs Q 36 [some (vi x0)] [] h from xZ k_X12_isAsked_36 (And.intro rfl (And.intro (Or.inl rfl) v11)))) (fun c10 => have v12 := v8.2 (b01_p.mp c10); (show wp mX12_isAsked 1 rc rs Q 32 [some (vi x0)] [] h from xGo k_X12_isAsked_32 (show wp mX12_isAsked 1 rc rs Q 37 [some (vi x0)] [vi 1] h from xZ k_X12_isAsked_37 (And.intro rfl (And.intro (Or.inr rfl) v12)))))))))))))))))))))))))))))))))))))))))))))))))
theorem e_X12_isAsked {mc ms : Nat} {Q : Option AV → AH → Prop} {h : AH} {x0 : Int} (hv : ((((0 : Int) ≤ x0 ∧ x0 ≤ (2 : Int)) → Q (some (vi 1)) h) ∧ (¬ ((0 : Int) ≤ x0 ∧ x0 ≤ (2 : Int)) → ((((10 : Int) ≤ x0 ∧ x0 ≤ (73 : Int)) → Q (some (vi 1)) h) ∧ (¬ ((10 : Int) ≤ x0 ∧ x0 ≤ (73 : Int)) → ((¬ ((100 : Int) ≤ x0 ∧ x0 ≤ (163 : Int)) → Q (some (vi 0)) h) ∧ (((100 : Int) ≤ x0 ∧ x0 ≤ (163 : Int)) → Q (some (vi 1)) h))))))) : Ct 1 mc ms mX12_isAsked [vi x0] h Q := Ct.of (by decide +kernel) (Nat.le_of_ble_eq_true rfl) (t_X12_isAsked_0 hv)
def b_X12_byteAt_0 : List IE := [(.iload_n 1, 1, 0, 0, 1, 0), (.aload_n 0, 1, 0, 0, 0, 0), (.getfield 120, 3, 0, 12, 18, 0)]
theorem k_X12_byteAt_0 : ckIc mX12_byteAt 12 0 b_X12_byteAt_0 5 3 12 17 8 = true := by decide +kernel
def b_X12_byteAt_8 : List IE := [(.aload_n 0, 1, 0, 0, 0, 0), (.getfield 54, 3, 0, 12, 17, 1), (.iload_n 1, 1, 0, 0, 1, 0), (.iaload, 1, 0, 0, 0, 0)]
theorem k_X12_byteAt_8 : ckGo mX12_byteAt 12 8 b_X12_byteAt_8 14 4 18 = true := by decide +kernel
def b_X12_byteAt_17 : List IE := [(.iconst (-1), 1, (-1), 0, 0, 0)]
theorem k_X12_byteAt_17 : ckI mX12_byteAt 12 17 b_X12_byteAt_17 18 = true := by decide +kernel
def b_X12_byteAt_18 : List IE := []
theorem k_X12_byteAt_18 : ckI mX12_byteAt 12 18 b_X12_byteAt_18 18 = true := by decide +kernel
theorem t_X12_byteAt_0 {rc rs : Nat} {Q : Option AV → AH → Prop} {h : AH} {x1 : Int} (hL : LayM h) (hv : (((iH h 71 18) ≤ x1 → Q (some (vi (-1))) h) ∧ (x1 < (iH h 71 18) → (0 ≤ x1 ∧ x1 < 64) ∧ Q (some (vi (iH h 1139 x1.toNat))) h))) : wp mX12_byteAt 0 rc rs Q 0 [some (vr 71), some (vi x1)] [] h :=
  (show wp mX12_byteAt 0 rc rs Q 0 [some (vr 71), some (vi x1)] [] h from xIc k_X12_byteAt_0 (And.intro (lm_71 hL) (And.intro (fun c1 => have v3 := hv.1 c1; (show wp mX12_byteAt 0 rc rs Q 17 [some (vr 71), some (vi x1)] [] h from xI k_X12_byteAt_17 (And.intro rfl v3))) (fun c2 => have v4 := hv.2 (Int.not_le.mp c2); (show wp mX12_byteAt 0 rc rs Q 8 [some (vr 71), some (vi x1)] [] h from xGo k_X12_byteAt_8 (And.intro (lm_71 hL) (Exists.intro 1139 (And.intro (lf_71_17 hL) (have c5 := v4.1; have v6 := v4.2; (And.intro (sdI (lm_1139 hL) c5) (show wp mX12_byteAt 0 rc rs Q 18 [some (vr 71), some (vi x1)] [vi (iH h 1139 x1.toNat)] h from xI k_X12_byteAt_18 (And.intro rfl v6))))))))))))
theorem e_X12_byteAt {mc ms : Nat} {Q : Option AV → AH → Prop} {h : AH} {x1 : Int} (hL : LayM h) (hv : (((iH h 71 18) ≤ x1 → Q (some (vi (-1))) h) ∧ (x1 < (iH h 71 18) → (0 ≤ x1 ∧ x1 < 64) ∧ Q (some (vi (iH h 1139 x1.toNat))) h))) : Ct 0 mc ms mX12_byteAt [vr 71, vi x1] h Q := Ct.of (by decide +kernel) (Nat.le_of_ble_eq_true rfl) (t_X12_byteAt_0 hL hv)
def b_X12_width_0 : List IE := [(.aload_n 0, 1, 0, 0, 0, 0), (.getfield 197, 3, 0, 12, 21, 0)]
theorem k_X12_width_0 : ckIf mX12_width 12 0 b_X12_width_0 4 0 11 15 7 = true := by decide +kernel
def b_X12_width_7 : List IE := [(.aload_n 0, 1, 0, 0, 0, 0), (.getfield 197, 3, 0, 12, 21, 0), (.iconst 2, 1, 2, 0, 0, 0)]
theorem k_X12_width_7 : ckIc mX12_width 12 7 b_X12_width_7 12 1 7 19 15 = true := by decide +kernel
def b_X12_width_15 : List IE := [(.iconst 3, 1, 3, 0, 0, 0)]
theorem k_X12_width_15 : ckGo mX12_width 12 15 b_X12_width_15 16 17 33 = true := by decide +kernel
def b_X12_width_19 : List IE := [(.aload_n 0, 1, 0, 0, 0, 0), (.getfield 197, 3, 0, 12, 21, 0), (.iconst 5, 1, 5, 0, 0, 0)]
theorem k_X12_width_19 : ckIc mX12_width 12 19 b_X12_width_19 24 1 8 32 27 = true := by decide +kernel
def b_X12_width_27 : List IE := [(.bipush 9, 2, 9, 0, 0, 0)]
theorem k_X12_width_27 : ckGo mX12_width 12 27 b_X12_width_27 29 4 33 = true := by decide +kernel
def b_X12_width_32 : List IE := [(.iconst 2, 1, 2, 0, 0, 0)]
theorem k_X12_width_32 : ckI mX12_width 12 32 b_X12_width_32 33 = true := by decide +kernel
def b_X12_width_33 : List IE := []
theorem k_X12_width_33 : ckI mX12_width 12 33 b_X12_width_33 33 = true := by decide +kernel
theorem t_X12_width_0 {rc rs : Nat} {Q : Option AV → AH → Prop} {h : AH}  (hL : LayM h) (hv : (((iH h 71 21) = 0 → Q (some (vi 3)) h) ∧ ((iH h 71 21) ≠ 0 → (((iH h 71 21) ≠ 2 → (((iH h 71 21) ≠ 5 → Q (some (vi 2)) h) ∧ ((iH h 71 21) = 5 → Q (some (vi 9)) h))) ∧ ((iH h 71 21) = 2 → Q (some (vi 3)) h))))) : wp mX12_width 0 rc rs Q 0 [some (vr 71)] [] h :=
  (show wp mX12_width 0 rc rs Q 0 [some (vr 71)] [] h from xIf k_X12_width_0 (And.intro (lm_71 hL) (And.intro (fun c1 => have v3 := hv.1 c1; (show wp mX12_width 0 rc rs Q 15 [some (vr 71)] [] h from xGo k_X12_width_15 (show wp mX12_width 0 rc rs Q 33 [some (vr 71)] [vi 3] h from xI k_X12_width_33 (And.intro rfl v3)))) (fun c2 => have v4 := hv.2 c2; (show wp mX12_width 0 rc rs Q 7 [some (vr 71)] [] h from xIc k_X12_width_7 (And.intro (lm_71 hL) (And.intro (fun c5 => have v7 := v4.1 c5; (show wp mX12_width 0 rc rs Q 19 [some (vr 71)] [] h from xIc k_X12_width_19 (And.intro (lm_71 hL) (And.intro (fun c9 => have v11 := v7.1 c9; (show wp mX12_width 0 rc rs Q 32 [some (vr 71)] [] h from xI k_X12_width_32 (And.intro rfl v11))) (fun c10 => have v12 := v7.2 (Decidable.not_not.mp c10); (show wp mX12_width 0 rc rs Q 27 [some (vr 71)] [] h from xGo k_X12_width_27 (show wp mX12_width 0 rc rs Q 33 [some (vr 71)] [vi 9] h from xI k_X12_width_33 (And.intro rfl v12)))))))) (fun c6 => have v8 := v4.2 (Decidable.not_not.mp c6); (show wp mX12_width 0 rc rs Q 15 [some (vr 71)] [] h from xGo k_X12_width_15 (show wp mX12_width 0 rc rs Q 33 [some (vr 71)] [vi 3] h from xI k_X12_width_33 (And.intro rfl v8)))))))))))
theorem e_X12_width {mc ms : Nat} {Q : Option AV → AH → Prop} {h : AH}  (hL : LayM h) (hv : (((iH h 71 21) = 0 → Q (some (vi 3)) h) ∧ ((iH h 71 21) ≠ 0 → (((iH h 71 21) ≠ 2 → (((iH h 71 21) ≠ 5 → Q (some (vi 2)) h) ∧ ((iH h 71 21) = 5 → Q (some (vi 9)) h))) ∧ ((iH h 71 21) = 2 → Q (some (vi 3)) h))))) : Ct 0 mc ms mX12_width [vr 71] h Q := Ct.of (by decide +kernel) (Nat.le_of_ble_eq_true rfl) (t_X12_width_0 hL hv)
def b_X12_is_0 : List IE := [(.aload_n 0, 1, 0, 0, 0, 0), (.getfield 288, 3, 0, 12, 40, 0)]
theorem k_X12_is_0 : ckIf mX12_is 12 0 b_X12_is_0 4 1 23 27 7 = true := by decide +kernel
def b_X12_is_7 : List IE := [(.aload_n 0, 1, 0, 0, 0, 0), (.getfield 297, 3, 0, 12, 37, 0), (.iload_n 1, 1, 0, 0, 1, 0)]
theorem k_X12_is_7 : ckIc mX12_is 12 7 b_X12_is_7 12 1 15 27 15 = true := by decide +kernel
def b_X12_is_15 : List IE := [(.aload_n 0, 1, 0, 0, 0, 0), (.getfield 303, 3, 0, 12, 38, 0), (.iload_n 2, 1, 0, 0, 2, 0)]
theorem k_X12_is_15 : ckIc mX12_is 12 15 b_X12_is_15 20 1 7 27 23 = true := by decide +kernel
def b_X12_is_23 : List IE := [(.iconst 1, 1, 1, 0, 0, 0)]
theorem k_X12_is_23 : ckGo mX12_is 12 23 b_X12_is_23 24 4 28 = true := by decide +kernel
def b_X12_is_27 : List IE := [(.iconst 0, 1, 0, 0, 0, 0)]
theorem k_X12_is_27 : ckZ mX12_is 12 27 b_X12_is_27 28 = true := by decide +kernel
def b_X12_is_28 : List IE := []
theorem k_X12_is_28 : ckZ mX12_is 12 28 b_X12_is_28 28 = true := by decide +kernel
theorem t_X12_is_0 {rc rs : Nat} {Q : Option AV → AH → Prop} {h : AH} {x1 x2 : Int} (hL : LayM h) (hv : (((iH h 71 40) ≠ 0 → Q (some (vi 0)) h) ∧ ((iH h 71 40) = 0 → (((iH h 71 37) ≠ x1 → Q (some (vi 0)) h) ∧ ((iH h 71 37) = x1 → (((iH h 71 38) ≠ x2 → Q (some (vi 0)) h) ∧ ((iH h 71 38) = x2 → Q (some (vi 1)) h))))))) : wp mX12_is 0 rc rs Q 0 [some (vr 71), some (vi x1), some (vi x2)] [] h :=
  (show wp mX12_is 0 rc rs Q 0 [some (vr 71), some (vi x1), some (vi x2)] [] h from xIf k_X12_is_0 (And.intro (lm_71 hL) (And.intro (fun c1 => have v3 := hv.1 c1; (show wp mX12_is 0 rc rs Q 27 [some (vr 71), some (vi x1), some (vi x2)] [] h from xZ k_X12_is_27 (And.intro rfl (And.intro (Or.inl rfl) v3)))) (fun c2 => have v4 := hv.2 (Decidable.not_not.mp c2); (show wp mX12_is 0 rc rs Q 7 [some (vr 71), some (vi x1), some (vi x2)] [] h from xIc k_X12_is_7 (And.intro (lm_71 hL) (And.intro (fun c5 => have v7 := v4.1 c5; (show wp mX12_is 0 rc rs Q 27 [some (vr 71), some (vi x1), some (vi x2)] [] h from xZ k_X12_is_27 (And.intro rfl (And.intro (Or.inl rfl) v7)))) (fun c6 => have v8 := v4.2 (Decidable.not_not.mp c6); (show wp mX12_is 0 rc rs Q 15 [some (vr 71), some (vi x1), some (vi x2)] [] h from xIc k_X12_is_15 (And.intro (lm_71 hL) (And.intro (fun c9 => have v11 := v8.1 c9; (show wp mX12_is 0 rc rs Q 27 [some (vr 71), some (vi x1), some (vi x2)] [] h from xZ k_X12_is_27 (And.intro rfl (And.intro (Or.inl rfl) v11)))) (fun c10 => have v12 := v8.2 (Decidable.not_not.mp c10); (show wp mX12_is 0 rc rs Q 23 [some (vr 71), some (vi x1), some (vi x2)] [] h from xGo k_X12_is_23 (show wp mX12_is 0 rc rs Q 28 [some (vr 71), some (vi x1), some (vi x2)] [vi 1] h from xZ k_X12_is_28 (And.intro rfl (And.intro (Or.inr rfl) v12))))))))))))))))
theorem e_X12_is {mc ms : Nat} {Q : Option AV → AH → Prop} {h : AH} {x1 x2 : Int} (hL : LayM h) (hv : (((iH h 71 40) ≠ 0 → Q (some (vi 0)) h) ∧ ((iH h 71 40) = 0 → (((iH h 71 37) ≠ x1 → Q (some (vi 0)) h) ∧ ((iH h 71 37) = x1 → (((iH h 71 38) ≠ x2 → Q (some (vi 0)) h) ∧ ((iH h 71 38) = x2 → Q (some (vi 1)) h))))))) : Ct 0 mc ms mX12_is [vr 71, vi x1, vi x2] h Q := Ct.of (by decide +kernel) (Nat.le_of_ble_eq_true rfl) (t_X12_is_0 hL hv)
theorem c_isKey {h : AH} {a : Int} : Ct 1 0 0 mX12_isKey [vi a] h (QI fun x h' => x = b01 (0 ≤ a ∧ a ≤ 99) ∧ h' = h) := e_X12_isKey ⟨_, rfl, rfl, rfl⟩
theorem c_isView {h : AH} {a : Int} : Ct 1 0 0 mX12_isView [vi a] h (QI fun x h' => x = b01 (0 ≤ a ∧ a ≤ 3) ∧ h' = h) := e_X12_isView ⟨_, rfl, rfl, rfl⟩
theorem c_isByte {h : AH} {a : Int} : Ct 1 0 0 mX12_isByte [vi a] h (QI fun x h' => x = b01 (0 ≤ a ∧ a ≤ 255) ∧ h' = h) := e_X12_isByte ⟨_, rfl, rfl, rfl⟩
theorem c_isSheet {h : AH} {a : Int} : Ct 1 0 0 mX12_isSheet [vi a] h (QI fun x h' => x = b01 (0 ≤ a ∧ a ≤ 3) ∧ h' = h) := e_X12_isSheet ⟨_, rfl, rfl, rfl⟩
theorem c_isLetter {h : AH} {a : Int} : Ct 1 0 0 mX12_isLetter [vi a] h (QI fun x h' => x = b01 (97 ≤ a ∧ a ≤ 122) ∧ h' = h) := e_X12_isLetter ⟨_, rfl, rfl, rfl⟩
theorem c_isBlank {h : AH} {a : Int} : Ct 0 0 0 mX12_isBlank [vi a] h (QI fun x h' => x = b01 (a = 32 ∨ a = 10) ∧ h' = h) :=
  e_X12_isBlank ⟨fun _ => ⟨_, rfl, (b01_t (by omega)).symm, rfl⟩, fun _ => ⟨fun _ => ⟨_, rfl, (b01_f (by omega)).symm, rfl⟩, fun _ => ⟨_, rfl, (b01_t (by omega)).symm, rfl⟩⟩⟩
theorem c_isSegment {h : AH} (hL : LayM h) {a : Int} (hp : 0 ≤ iH h 71 13 ∧ iH h 71 13 ≤ 8) : Ct 1 0 0 mX12_isSegment [vr 71, vi a] h (QI fun x h' => x = b01 (0 ≤ a ∧ a ≤ (iH h 71 13 - 1)) ∧ h' = h) := e_X12_isSegment hL ⟨by omega, _, rfl, rfl, rfl⟩
theorem c_isQuery {h : AH} (hL : LayM h) {a : Int} (hp : 0 ≤ iH h 71 30 ∧ iH h 71 30 ≤ 6) : Ct 1 0 0 mX12_isQuery [vr 71, vi a] h (QI fun x h' => x = b01 (0 ≤ a ∧ a ≤ (iH h 71 30 - 1)) ∧ h' = h) := e_X12_isQuery hL ⟨by omega, _, rfl, rfl, rfl⟩
theorem c_isAsked {h : AH} {a : Int} : Ct 1 0 0 mX12_isAsked [vi a] h (QI fun x h' => x = b01 ((0 ≤ a ∧ a ≤ 2) ∨ (10 ≤ a ∧ a ≤ 73) ∨ (100 ≤ a ∧ a ≤ 163)) ∧ h' = h) :=
  e_X12_isAsked ⟨fun c => ⟨_, rfl, (b01_t (Or.inl c)).symm, rfl⟩, fun c => ⟨fun c1 => ⟨_, rfl, (b01_t (Or.inr (Or.inl c1))).symm, rfl⟩, fun c1 => ⟨fun c2 => ⟨_, rfl, (b01_f (by omega)).symm, rfl⟩, fun c2 => ⟨_, rfl, (b01_t (Or.inr (Or.inr c2))).symm, rfl⟩⟩⟩⟩
def m_byteAt (h : AH) (k : Int) : Int := if k < iH h 71 18 then iH h 1139 k.toNat else -1
theorem c_byteAt {h : AH} (hL : LayM h) {k : Int} (hp : 0 ≤ k ∧ iH h 71 18 ≤ 64) : Ct 0 0 0 mX12_byteAt [vr 71, vi k] h (QI fun x h' => x = m_byteAt h k ∧ h' = h) :=
  e_X12_byteAt hL ⟨fun c => ⟨_, rfl, (if_neg (by omega)).symm, rfl⟩, fun c => ⟨by omega, _, rfl, (if_pos (by omega)).symm, rfl⟩⟩
def m_width (h : AH) : Int := if iH h 71 21 = 0 ∨ iH h 71 21 = 2 then 3 else if iH h 71 21 = 5 then 9 else 2
theorem c_width {h : AH} (hL : LayM h) : Ct 0 0 0 mX12_width [vr 71] h (QI fun x h' => x = m_width h ∧ h' = h) :=
  e_X12_width hL ⟨fun c => ⟨_, rfl, (if_pos (Or.inl c)).symm, rfl⟩, fun c => ⟨fun c2 => ⟨fun c3 => ⟨_, rfl, by unfold m_width; rw [if_neg (by omega), if_neg c3], rfl⟩, fun c3 => ⟨_, rfl, by unfold m_width; rw [if_neg (by omega), if_pos c3], rfl⟩⟩, fun c2 => ⟨_, rfl, (if_pos (Or.inr c2)).symm, rfl⟩⟩⟩
def m_is (h : AH) (t v : Int) : Prop := iH h 71 40 = 0 ∧ iH h 71 37 = t ∧ iH h 71 38 = v
theorem c_is {h : AH} (hL : LayM h) {t v : Int} : Ct 0 0 0 mX12_is [vr 71, vi t, vi v] h (QI fun x h' => x = b01 (m_is h t v) ∧ h' = h) :=
  e_X12_is hL ⟨fun c => ⟨_, rfl, (b01_f (fun q => c q.1)).symm, rfl⟩, fun c => ⟨fun c2 => ⟨_, rfl, (b01_f (fun q => c2 q.2.1)).symm, rfl⟩, fun c2 => ⟨fun c3 => ⟨_, rfl, (b01_f (fun q => c3 q.2.2)).symm, rfl⟩, fun c3 => ⟨_, rfl, (b01_t ⟨c, c2, c3⟩).symm, rfl⟩⟩⟩⟩
def b_X12_liveOf_0 : List IE := [(.iconst 0, 1, 0, 0, 0, 0), (.istore_n 2, 1, 0, 0, 2, 0), (.iconst 0, 1, 0, 0, 0, 0), (.istore_n 3, 1, 0, 0, 3, 0)]
theorem k_X12_liveOf_0 : ckB mX12_liveOf 12 0 b_X12_liveOf_0 4 = true := by decide +kernel
def b_X12_liveOf_4 : List IE := [(.iload_n 3, 1, 0, 0, 3, 0), (.aload_n 0, 1, 0, 0, 0, 0), (.getfield 28, 3, 0, 12, 7, 1), (.iload_n 1, 1, 0, 0, 1, 0), (.iaload, 1, 0, 0, 0, 0)]
theorem k_X12_liveOf_4 : ckIc mX12_liveOf 12 4 b_X12_liveOf_4 11 3 28 39 14 = true := by decide +kernel
def b_X12_liveOf_14 : List IE := [(.aload_n 0, 1, 0, 0, 0, 0), (.getfield 21, 3, 0, 12, 4, 1), (.aload_n 0, 1, 0, 0, 0, 0), (.getfield 31, 3, 0, 12, 8, 1), (.iload_n 1, 1, 0, 0, 1, 0), (.aaload, 1, 0, 0, 0, 0), (.iload_n 3, 1, 0, 0, 3, 0), (.iaload, 1, 0, 0, 0, 0), (.baload, 1, 0, 0, 0, 0)]
theorem k_X12_liveOf_14 : ckIf mX12_liveOf 12 14 b_X12_liveOf_14 27 1 6 33 30 = true := by decide +kernel
def b_X12_liveOf_30 : List IE := [(.iinc 2 1, 3, 1, 0, 2, 0), (.iinc 3 1, 3, 1, 0, 3, 0)]
theorem k_X12_liveOf_30 : ckGo mX12_liveOf 12 30 b_X12_liveOf_30 36 (-32) 4 = true := by decide +kernel
def b_X12_liveOf_33 : List IE := [(.iinc 3 1, 3, 1, 0, 3, 0)]
theorem k_X12_liveOf_33 : ckGo mX12_liveOf 12 33 b_X12_liveOf_33 36 (-32) 4 = true := by decide +kernel
def b_X12_liveOf_39 : List IE := [(.iload_n 2, 1, 0, 0, 2, 0)]
theorem k_X12_liveOf_39 : ckI mX12_liveOf 12 39 b_X12_liveOf_39 40 = true := by decide +kernel
theorem t_X12_liveOf_0 {rc rs : Nat} {Q : Option AV → AH → Prop} {h : AH} {x1 : Int} (hL : LayM h) (hv : wp mX12_liveOf 0 rc rs Q 4 [some (vr 71), some (vi x1), some (vi 0), some (vi 0)] [] h) : wp mX12_liveOf 0 rc rs Q 0 [some (vr 71), some (vi x1), none, none] [] h :=
  (show wp mX12_liveOf 0 rc rs Q 0 [some (vr 71), some (vi x1), none, none] [] h from xB k_X12_liveOf_0 (And.intro rfl (And.intro rfl hv)))
theorem e_X12_liveOf {mc ms : Nat} {Q : Option AV → AH → Prop} {h : AH} {x1 : Int} (hL : LayM h) (hv : wp mX12_liveOf 0 mc ms Q 4 [some (vr 71), some (vi x1), some (vi 0), some (vi 0)] [] h) : Ct 0 mc ms mX12_liveOf [vr 71, vi x1] h Q := Ct.of (by decide +kernel) (Nat.le_of_ble_eq_true rfl) (t_X12_liveOf_0 hL hv)
theorem t_X12_liveOf_4 {rc rs : Nat} {Q : Option AV → AH → Prop} {h : AH} {x1 x2 x3 : Int} (hL : LayM h) (hv : (0 ≤ x1 ∧ x1 < 520) ∧ (((iH h 597 x1.toNat) ≤ x3 → Q (some (vi x2)) h) ∧ (x3 < (iH h 597 x1.toNat) → (0 ≤ x3 ∧ x3 < 64) ∧ (0 ≤ iH h (599 + x1.toNat) x3.toNat ∧ iH h (599 + x1.toNat) x3.toNat < 520) ∧ (((iH h 595 ((iH h (599 + x1.toNat) x3.toNat).toNat)) ≠ 0 → (-2147483648 ≤ (x3 + 1) ∧ (x3 + 1) < 2147483648) ∧ wp mX12_liveOf 0 rc rs Q 4 [some (vr 71), some (vi x1), some (vi x2), some (vi (x3 + 1))] [] h) ∧ ((iH h 595 ((iH h (599 + x1.toNat) x3.toNat).toNat)) = 0 → (-2147483648 ≤ (x2 + 1) ∧ (x2 + 1) < 2147483648) ∧ (-2147483648 ≤ (x3 + 1) ∧ (x3 + 1) < 2147483648) ∧ wp mX12_liveOf 0 rc rs Q 4 [some (vr 71), some (vi x1), some (vi (x2 + 1)), some (vi (x3 + 1))] [] h))))) : wp mX12_liveOf 0 rc rs Q 4 [some (vr 71), some (vi x1), some (vi x2), some (vi x3)] [] h :=
  (show wp mX12_liveOf 0 rc rs Q 4 [some (vr 71), some (vi x1), some (vi x2), some (vi x3)] [] h from xIc k_X12_liveOf_4 (And.intro (lm_71 hL) (Exists.intro 597 (And.intro (lf_71_7 hL) (have c1 := hv.1; have v21 := hv.2; (And.intro (sdI (lm_597 hL) c1) (And.intro (fun c2 => have v4 := v21.1 c2; (show wp mX12_liveOf 0 rc rs Q 39 [some (vr 71), some (vi x1), some (vi x2), some (vi x3)] [] h from xI k_X12_liveOf_39 (And.intro rfl v4))) (fun c3 => have v5 := v21.2 (Int.not_le.mp c3); (show wp mX12_liveOf 0 rc rs Q 14 [some (vr 71), some (vi x1), some (vi x2), some (vi x3)] [] h from xIf k_X12_liveOf_14 (And.intro (lm_71 hL) (Exists.intro 595 (And.intro (lf_71_4 hL) (And.intro (lm_71 hL) (Exists.intro 598 (And.intro (lf_71_8 hL) (And.intro (sdQ (lm_598 hL) c1) (Exists.intro (599 + x1.toNat) (And.intro (lr_members hL (tnl c1)) (have c7 := v5.1; have v20 := v5.2; (And.intro (sdI (lk_members hL (tnl c1)) c7) (have c8 := v20.1; have v19 := v20.2; (And.intro (sdZ (lm_595 hL) c8) (And.intro (fun c9 => have v11 := v19.1 c9; (show wp mX12_liveOf 0 rc rs Q 33 [some (vr 71), some (vi x1), some (vi x2), some (vi x3)] [] h from xGo k_X12_liveOf_33 (have c13 := v11.1; have v14 := v11.2; (And.intro c13 (And.intro rfl v14))))) (fun c10 => have v12 := v19.2 (Decidable.not_not.mp c10); (show wp mX12_liveOf 0 rc rs Q 30 [some (vr 71), some (vi x1), some (vi x2), some (vi x3)] [] h from xGo k_X12_liveOf_30 (have c15 := v12.1; have v18 := v12.2; (And.intro c15 (And.intro rfl (have c16 := v18.1; have v17 := v18.2; (And.intro c16 (And.intro rfl v17)))))))))))))))))))))))))))))))
def b_X12_hasWord_0 : List IE := [(.iconst 0, 1, 0, 0, 0, 0), (.istore_n 3, 1, 0, 0, 3, 0)]
theorem k_X12_hasWord_0 : ckB mX12_hasWord 12 0 b_X12_hasWord_0 2 = true := by decide +kernel
def b_X12_hasWord_2 : List IE := [(.iload_n 3, 1, 0, 0, 3, 0), (.aload_n 0, 1, 0, 0, 0, 0), (.getfield 13, 3, 0, 12, 2, 1), (.iload_n 1, 1, 0, 0, 1, 0), (.iaload, 1, 0, 0, 0, 0)]
theorem k_X12_hasWord_2 : ckIc mX12_hasWord 12 2 b_X12_hasWord_2 9 3 23 32 12 = true := by decide +kernel
def b_X12_hasWord_12 : List IE := [(.aload_n 0, 1, 0, 0, 0, 0), (.getfield 18, 3, 0, 12, 3, 1), (.iload_n 1, 1, 0, 0, 1, 0), (.aaload, 1, 0, 0, 0, 0), (.iload_n 3, 1, 0, 0, 3, 0), (.iaload, 1, 0, 0, 0, 0), (.iload_n 2, 1, 0, 0, 2, 0)]
theorem k_X12_hasWord_12 : ckIc mX12_hasWord 12 12 b_X12_hasWord_12 21 1 5 26 24 = true := by decide +kernel
def b_X12_hasWord_24 : List IE := [(.iconst 1, 1, 1, 0, 0, 0)]
theorem k_X12_hasWord_24 : ckZ mX12_hasWord 12 24 b_X12_hasWord_24 25 = true := by decide +kernel
def b_X12_hasWord_26 : List IE := [(.iinc 3 1, 3, 1, 0, 3, 0)]
theorem k_X12_hasWord_26 : ckGo mX12_hasWord 12 26 b_X12_hasWord_26 29 (-27) 2 = true := by decide +kernel
def b_X12_hasWord_32 : List IE := [(.iconst 0, 1, 0, 0, 0, 0)]
theorem k_X12_hasWord_32 : ckZ mX12_hasWord 12 32 b_X12_hasWord_32 33 = true := by decide +kernel
theorem t_X12_hasWord_0 {rc rs : Nat} {Q : Option AV → AH → Prop} {h : AH} {x1 x2 : Int} (hL : LayM h) (hv : wp mX12_hasWord 0 rc rs Q 2 [some (vr 71), some (vi x1), some (vi x2), some (vi 0)] [] h) : wp mX12_hasWord 0 rc rs Q 0 [some (vr 71), some (vi x1), some (vi x2), none] [] h :=
  (show wp mX12_hasWord 0 rc rs Q 0 [some (vr 71), some (vi x1), some (vi x2), none] [] h from xB k_X12_hasWord_0 (And.intro rfl hv))
theorem e_X12_hasWord {mc ms : Nat} {Q : Option AV → AH → Prop} {h : AH} {x1 x2 : Int} (hL : LayM h) (hv : wp mX12_hasWord 0 mc ms Q 2 [some (vr 71), some (vi x1), some (vi x2), some (vi 0)] [] h) : Ct 0 mc ms mX12_hasWord [vr 71, vi x1, vi x2] h Q := Ct.of (by decide +kernel) (Nat.le_of_ble_eq_true rfl) (t_X12_hasWord_0 hL hv)
theorem t_X12_hasWord_2 {rc rs : Nat} {Q : Option AV → AH → Prop} {h : AH} {x1 x2 x3 : Int} (hL : LayM h) (hv : (0 ≤ x1 ∧ x1 < 520) ∧ (((iH h 73 x1.toNat) ≤ x3 → Q (some (vi 0)) h) ∧ (x3 < (iH h 73 x1.toNat) → (0 ≤ x3 ∧ x3 < 12) ∧ (((iH h (75 + x1.toNat) x3.toNat) ≠ x2 → (-2147483648 ≤ (x3 + 1) ∧ (x3 + 1) < 2147483648) ∧ wp mX12_hasWord 0 rc rs Q 2 [some (vr 71), some (vi x1), some (vi x2), some (vi (x3 + 1))] [] h) ∧ ((iH h (75 + x1.toNat) x3.toNat) = x2 → Q (some (vi 1)) h))))) : wp mX12_hasWord 0 rc rs Q 2 [some (vr 71), some (vi x1), some (vi x2), some (vi x3)] [] h :=
  (show wp mX12_hasWord 0 rc rs Q 2 [some (vr 71), some (vi x1), some (vi x2), some (vi x3)] [] h from xIc k_X12_hasWord_2 (And.intro (lm_71 hL) (Exists.intro 73 (And.intro (lf_71_2 hL) (have c1 := hv.1; have v15 := hv.2; (And.intro (sdI (lm_73 hL) c1) (And.intro (fun c2 => have v4 := v15.1 c2; (show wp mX12_hasWord 0 rc rs Q 32 [some (vr 71), some (vi x1), some (vi x2), some (vi x3)] [] h from xZ k_X12_hasWord_32 (And.intro rfl (And.intro (Or.inl rfl) v4)))) (fun c3 => have v5 := v15.2 (Int.not_le.mp c3); (show wp mX12_hasWord 0 rc rs Q 12 [some (vr 71), some (vi x1), some (vi x2), some (vi x3)] [] h from xIc k_X12_hasWord_12 (And.intro (lm_71 hL) (Exists.intro 74 (And.intro (lf_71_3 hL) (And.intro (sdQ (lm_74 hL) c1) (Exists.intro (75 + x1.toNat) (And.intro (lr_words hL (tnl c1)) (have c7 := v5.1; have v14 := v5.2; (And.intro (sdI (lk_words hL (tnl c1)) c7) (And.intro (fun c8 => have v10 := v14.1 c8; (show wp mX12_hasWord 0 rc rs Q 26 [some (vr 71), some (vi x1), some (vi x2), some (vi x3)] [] h from xGo k_X12_hasWord_26 (have c12 := v10.1; have v13 := v10.2; (And.intro c12 (And.intro rfl v13))))) (fun c9 => have v11 := v14.2 (Decidable.not_not.mp c9); (show wp mX12_hasWord 0 rc rs Q 24 [some (vr 71), some (vi x1), some (vi x2), some (vi x3)] [] h from xZ k_X12_hasWord_24 (And.intro rfl (And.intro (Or.inr rfl) v11))))))))))))))))))))))
def b_X12_bufferPlace_0 : List IE := [(.iconst 0, 1, 0, 0, 0, 0), (.istore_n 2, 1, 0, 0, 2, 0)]
theorem k_X12_bufferPlace_0 : ckB mX12_bufferPlace 12 0 b_X12_bufferPlace_0 2 = true := by decide +kernel
def b_X12_bufferPlace_2 : List IE := [(.iload_n 2, 1, 0, 0, 2, 0), (.aload_n 0, 1, 0, 0, 0, 0), (.getfield 140, 3, 0, 12, 15, 0)]
theorem k_X12_bufferPlace_2 : ckIc mX12_bufferPlace 12 2 b_X12_bufferPlace_2 7 3 26 33 10 = true := by decide +kernel
def b_X12_bufferPlace_10 : List IE := [(.aload_n 0, 1, 0, 0, 0, 0), (.getfield 9, 3, 0, 12, 1, 1), (.aload_n 0, 1, 0, 0, 0, 0), (.getfield 51, 3, 0, 12, 16, 1), (.iload_n 2, 1, 0, 0, 2, 0), (.iaload, 1, 0, 0, 0, 0), (.iaload, 1, 0, 0, 0, 0), (.iload_n 1, 1, 0, 0, 1, 0)]
theorem k_X12_bufferPlace_10 : ckIc mX12_bufferPlace 12 10 b_X12_bufferPlace_10 22 1 5 27 25 = true := by decide +kernel
def b_X12_bufferPlace_25 : List IE := [(.iload_n 2, 1, 0, 0, 2, 0)]
theorem k_X12_bufferPlace_25 : ckI mX12_bufferPlace 12 25 b_X12_bufferPlace_25 26 = true := by decide +kernel
def b_X12_bufferPlace_27 : List IE := [(.iinc 2 1, 3, 1, 0, 2, 0)]
theorem k_X12_bufferPlace_27 : ckGo mX12_bufferPlace 12 27 b_X12_bufferPlace_27 30 (-28) 2 = true := by decide +kernel
def b_X12_bufferPlace_33 : List IE := [(.iconst (-1), 1, (-1), 0, 0, 0)]
theorem k_X12_bufferPlace_33 : ckI mX12_bufferPlace 12 33 b_X12_bufferPlace_33 34 = true := by decide +kernel
theorem t_X12_bufferPlace_0 {rc rs : Nat} {Q : Option AV → AH → Prop} {h : AH} {x1 : Int} (hL : LayM h) (hv : wp mX12_bufferPlace 0 rc rs Q 2 [some (vr 71), some (vi x1), some (vi 0)] [] h) : wp mX12_bufferPlace 0 rc rs Q 0 [some (vr 71), some (vi x1), none] [] h :=
  (show wp mX12_bufferPlace 0 rc rs Q 0 [some (vr 71), some (vi x1), none] [] h from xB k_X12_bufferPlace_0 (And.intro rfl hv))
theorem e_X12_bufferPlace {mc ms : Nat} {Q : Option AV → AH → Prop} {h : AH} {x1 : Int} (hL : LayM h) (hv : wp mX12_bufferPlace 0 mc ms Q 2 [some (vr 71), some (vi x1), some (vi 0)] [] h) : Ct 0 mc ms mX12_bufferPlace [vr 71, vi x1] h Q := Ct.of (by decide +kernel) (Nat.le_of_ble_eq_true rfl) (t_X12_bufferPlace_0 hL hv)
theorem t_X12_bufferPlace_2 {rc rs : Nat} {Q : Option AV → AH → Prop} {h : AH} {x1 x2 : Int} (hL : LayM h) (hv : (((iH h 71 15) ≤ x2 → Q (some (vi (-1))) h) ∧ (x2 < (iH h 71 15) → (0 ≤ x2 ∧ x2 < 4) ∧ (0 ≤ iH h 1138 x2.toNat ∧ iH h 1138 x2.toNat < 520) ∧ (((iH h 72 ((iH h 1138 x2.toNat).toNat)) ≠ x1 → (-2147483648 ≤ (x2 + 1) ∧ (x2 + 1) < 2147483648) ∧ wp mX12_bufferPlace 0 rc rs Q 2 [some (vr 71), some (vi x1), some (vi (x2 + 1))] [] h) ∧ ((iH h 72 ((iH h 1138 x2.toNat).toNat)) = x1 → Q (some (vi x2)) h))))) : wp mX12_bufferPlace 0 rc rs Q 2 [some (vr 71), some (vi x1), some (vi x2)] [] h :=
  (show wp mX12_bufferPlace 0 rc rs Q 2 [some (vr 71), some (vi x1), some (vi x2)] [] h from xIc k_X12_bufferPlace_2 (And.intro (lm_71 hL) (And.intro (fun c1 => have v3 := hv.1 c1; (show wp mX12_bufferPlace 0 rc rs Q 33 [some (vr 71), some (vi x1), some (vi x2)] [] h from xI k_X12_bufferPlace_33 (And.intro rfl v3))) (fun c2 => have v4 := hv.2 (Int.not_le.mp c2); (show wp mX12_bufferPlace 0 rc rs Q 10 [some (vr 71), some (vi x1), some (vi x2)] [] h from xIc k_X12_bufferPlace_10 (And.intro (lm_71 hL) (Exists.intro 72 (And.intro (lf_71_1 hL) (And.intro (lm_71 hL) (Exists.intro 1138 (And.intro (lf_71_16 hL) (have c5 := v4.1; have v14 := v4.2; (And.intro (sdI (lm_1138 hL) c5) (have c6 := v14.1; have v13 := v14.2; (And.intro (sdI (lm_72 hL) c6) (And.intro (fun c7 => have v9 := v13.1 c7; (show wp mX12_bufferPlace 0 rc rs Q 27 [some (vr 71), some (vi x1), some (vi x2)] [] h from xGo k_X12_bufferPlace_27 (have c11 := v9.1; have v12 := v9.2; (And.intro c11 (And.intro rfl v12))))) (fun c8 => have v10 := v13.2 (Decidable.not_not.mp c8); (show wp mX12_bufferPlace 0 rc rs Q 25 [some (vr 71), some (vi x1), some (vi x2)] [] h from xI k_X12_bufferPlace_25 (And.intro rfl v10)))))))))))))))))))
def b_X12_stands_0 : List IE := [(.aload_n 0, 1, 0, 0, 0, 0), (.getfield 34, 3, 0, 12, 9, 1), (.iload_n 1, 1, 0, 0, 1, 0), (.baload, 1, 0, 0, 0, 0)]
theorem k_X12_stands_0 : ckIf mX12_stands 12 0 b_X12_stands_0 6 1 5 11 9 = true := by decide +kernel
def b_X12_stands_9 : List IE := [(.iconst 0, 1, 0, 0, 0, 0)]
theorem k_X12_stands_9 : ckZ mX12_stands 12 9 b_X12_stands_9 10 = true := by decide +kernel
def b_X12_stands_11 : List IE := [(.iconst 0, 1, 0, 0, 0, 0), (.istore_n 3, 1, 0, 0, 3, 0)]
theorem k_X12_stands_11 : ckB mX12_stands 12 11 b_X12_stands_11 13 = true := by decide +kernel
def b_X12_stands_13 : List IE := [(.iload_n 3, 1, 0, 0, 3, 0), (.aload_n 0, 1, 0, 0, 0, 0), (.getfield 37, 3, 0, 12, 10, 1), (.iload_n 1, 1, 0, 0, 1, 0), (.iaload, 1, 0, 0, 0, 0)]
theorem k_X12_stands_13 : ckIc mX12_stands 12 13 b_X12_stands_13 20 3 23 43 23 = true := by decide +kernel
def b_X12_stands_23 : List IE := [(.aload_n 0, 1, 0, 0, 0, 0), (.getfield 40, 3, 0, 12, 11, 1), (.iload_n 1, 1, 0, 0, 1, 0), (.aaload, 1, 0, 0, 0, 0), (.iload_n 3, 1, 0, 0, 3, 0), (.iaload, 1, 0, 0, 0, 0), (.iload_n 2, 1, 0, 0, 2, 0)]
theorem k_X12_stands_23 : ckIc mX12_stands 12 23 b_X12_stands_23 32 1 5 37 35 = true := by decide +kernel
def b_X12_stands_35 : List IE := [(.iconst 1, 1, 1, 0, 0, 0)]
theorem k_X12_stands_35 : ckZ mX12_stands 12 35 b_X12_stands_35 36 = true := by decide +kernel
def b_X12_stands_37 : List IE := [(.iinc 3 1, 3, 1, 0, 3, 0)]
theorem k_X12_stands_37 : ckGo mX12_stands 12 37 b_X12_stands_37 40 (-27) 13 = true := by decide +kernel
def b_X12_stands_43 : List IE := [(.iconst 0, 1, 0, 0, 0, 0)]
theorem k_X12_stands_43 : ckZ mX12_stands 12 43 b_X12_stands_43 44 = true := by decide +kernel
theorem t_X12_stands_0 {rc rs : Nat} {Q : Option AV → AH → Prop} {h : AH} {x1 x2 : Int} (hL : LayM h) (hv : (0 ≤ x1 ∧ x1 < 7) ∧ (((iH h 1119 x1.toNat) ≠ 0 → wp mX12_stands 0 rc rs Q 13 [some (vr 71), some (vi x1), some (vi x2), some (vi 0)] [] h) ∧ ((iH h 1119 x1.toNat) = 0 → Q (some (vi 0)) h))) : wp mX12_stands 0 rc rs Q 0 [some (vr 71), some (vi x1), some (vi x2), none] [] h :=
  (show wp mX12_stands 0 rc rs Q 0 [some (vr 71), some (vi x1), some (vi x2), none] [] h from xIf k_X12_stands_0 (And.intro (lm_71 hL) (Exists.intro 1119 (And.intro (lf_71_9 hL) (have c1 := hv.1; have v6 := hv.2; (And.intro (sdZ (lm_1119 hL) c1) (And.intro (fun c2 => have v4 := v6.1 c2; (show wp mX12_stands 0 rc rs Q 11 [some (vr 71), some (vi x1), some (vi x2), none] [] h from xB k_X12_stands_11 (And.intro rfl v4))) (fun c3 => have v5 := v6.2 (Decidable.not_not.mp c3); (show wp mX12_stands 0 rc rs Q 9 [some (vr 71), some (vi x1), some (vi x2), none] [] h from xZ k_X12_stands_9 (And.intro rfl (And.intro (Or.inl rfl) v5)))))))))))
theorem e_X12_stands {mc ms : Nat} {Q : Option AV → AH → Prop} {h : AH} {x1 x2 : Int} (hL : LayM h) (hv : (0 ≤ x1 ∧ x1 < 7) ∧ (((iH h 1119 x1.toNat) ≠ 0 → wp mX12_stands 0 mc ms Q 13 [some (vr 71), some (vi x1), some (vi x2), some (vi 0)] [] h) ∧ ((iH h 1119 x1.toNat) = 0 → Q (some (vi 0)) h))) : Ct 0 mc ms mX12_stands [vr 71, vi x1, vi x2] h Q := Ct.of (by decide +kernel) (Nat.le_of_ble_eq_true rfl) (t_X12_stands_0 hL hv)
theorem t_X12_stands_13 {rc rs : Nat} {Q : Option AV → AH → Prop} {h : AH} {x1 x2 x3 : Int} (hL : LayM h) (hv : (0 ≤ x1 ∧ x1 < 7) ∧ (((iH h 1120 x1.toNat) ≤ x3 → Q (some (vi 0)) h) ∧ (x3 < (iH h 1120 x1.toNat) → (0 ≤ x3 ∧ x3 < 8) ∧ (((iH h (1122 + x1.toNat) x3.toNat) ≠ x2 → (-2147483648 ≤ (x3 + 1) ∧ (x3 + 1) < 2147483648) ∧ wp mX12_stands 0 rc rs Q 13 [some (vr 71), some (vi x1), some (vi x2), some (vi (x3 + 1))] [] h) ∧ ((iH h (1122 + x1.toNat) x3.toNat) = x2 → Q (some (vi 1)) h))))) : wp mX12_stands 0 rc rs Q 13 [some (vr 71), some (vi x1), some (vi x2), some (vi x3)] [] h :=
  (show wp mX12_stands 0 rc rs Q 13 [some (vr 71), some (vi x1), some (vi x2), some (vi x3)] [] h from xIc k_X12_stands_13 (And.intro (lm_71 hL) (Exists.intro 1120 (And.intro (lf_71_10 hL) (have c1 := hv.1; have v15 := hv.2; (And.intro (sdI (lm_1120 hL) c1) (And.intro (fun c2 => have v4 := v15.1 c2; (show wp mX12_stands 0 rc rs Q 43 [some (vr 71), some (vi x1), some (vi x2), some (vi x3)] [] h from xZ k_X12_stands_43 (And.intro rfl (And.intro (Or.inl rfl) v4)))) (fun c3 => have v5 := v15.2 (Int.not_le.mp c3); (show wp mX12_stands 0 rc rs Q 23 [some (vr 71), some (vi x1), some (vi x2), some (vi x3)] [] h from xIc k_X12_stands_23 (And.intro (lm_71 hL) (Exists.intro 1121 (And.intro (lf_71_11 hL) (And.intro (sdQ (lm_1121 hL) c1) (Exists.intro (1122 + x1.toNat) (And.intro (lr_rows hL (tnl c1)) (have c7 := v5.1; have v14 := v5.2; (And.intro (sdI (lk_rows hL (tnl c1)) c7) (And.intro (fun c8 => have v10 := v14.1 c8; (show wp mX12_stands 0 rc rs Q 37 [some (vr 71), some (vi x1), some (vi x2), some (vi x3)] [] h from xGo k_X12_stands_37 (have c12 := v10.1; have v13 := v10.2; (And.intro c12 (And.intro rfl v13))))) (fun c9 => have v11 := v14.2 (Decidable.not_not.mp c9); (show wp mX12_stands 0 rc rs Q 35 [some (vr 71), some (vi x1), some (vi x2), some (vi x3)] [] h from xZ k_X12_stands_35 (And.intro rfl (And.intro (Or.inr rfl) v11))))))))))))))))))))))
def b_X12_power_0 : List IE := [(.iconst 1, 1, 1, 0, 0, 0), (.istore_n 1, 1, 0, 0, 1, 0), (.iconst 0, 1, 0, 0, 0, 0), (.istore_n 2, 1, 0, 0, 2, 0)]
theorem k_X12_power_0 : ckB mX12_power 12 0 b_X12_power_0 4 = true := by decide +kernel
def b_X12_power_4 : List IE := [(.iload_n 2, 1, 0, 0, 2, 0), (.iload_n 0, 1, 0, 0, 0, 0)]
theorem k_X12_power_4 : ckIc mX12_power 12 4 b_X12_power_4 6 3 14 20 9 = true := by decide +kernel
def b_X12_power_9 : List IE := [(.iload_n 1, 1, 0, 0, 1, 0), (.bipush 27, 2, 27, 0, 0, 0), (.imul, 1, 0, 0, 0, 0), (.istore_n 1, 1, 0, 0, 1, 0), (.iinc 2 1, 3, 1, 0, 2, 0)]
theorem k_X12_power_9 : ckGo mX12_power 12 9 b_X12_power_9 17 (-13) 4 = true := by decide +kernel
def b_X12_power_20 : List IE := [(.iload_n 1, 1, 0, 0, 1, 0)]
theorem k_X12_power_20 : ckI mX12_power 12 20 b_X12_power_20 21 = true := by decide +kernel
theorem t_X12_power_0 {rc rs : Nat} {Q : Option AV → AH → Prop} {h : AH} {x0 : Int} (hv : wp mX12_power 0 rc rs Q 4 [some (vi x0), some (vi 1), some (vi 0)] [] h) : wp mX12_power 0 rc rs Q 0 [some (vi x0), none, none] [] h :=
  (show wp mX12_power 0 rc rs Q 0 [some (vi x0), none, none] [] h from xB k_X12_power_0 (And.intro rfl (And.intro rfl hv)))
theorem e_X12_power {mc ms : Nat} {Q : Option AV → AH → Prop} {h : AH} {x0 : Int} (hv : wp mX12_power 0 mc ms Q 4 [some (vi x0), some (vi 1), some (vi 0)] [] h) : Ct 0 mc ms mX12_power [vi x0] h Q := Ct.of (by decide +kernel) (Nat.le_of_ble_eq_true rfl) (t_X12_power_0 hv)
theorem t_X12_power_4 {rc rs : Nat} {Q : Option AV → AH → Prop} {h : AH} {x0 x1 x2 : Int} (hv : ((x0 ≤ x2 → Q (some (vi x1)) h) ∧ (x2 < x0 → (-2147483648 ≤ (x1 * 27) ∧ (x1 * 27) < 2147483648) ∧ (-2147483648 ≤ (x2 + 1) ∧ (x2 + 1) < 2147483648) ∧ wp mX12_power 0 rc rs Q 4 [some (vi x0), some (vi (x1 * 27)), some (vi (x2 + 1))] [] h))) : wp mX12_power 0 rc rs Q 4 [some (vi x0), some (vi x1), some (vi x2)] [] h :=
  (show wp mX12_power 0 rc rs Q 4 [some (vi x0), some (vi x1), some (vi x2)] [] h from xIc k_X12_power_4 (And.intro (fun c1 => have v3 := hv.1 c1; (show wp mX12_power 0 rc rs Q 20 [some (vi x0), some (vi x1), some (vi x2)] [] h from xI k_X12_power_20 (And.intro rfl v3))) (fun c2 => have v4 := hv.2 (Int.not_le.mp c2); (show wp mX12_power 0 rc rs Q 9 [some (vi x0), some (vi x1), some (vi x2)] [] h from xGo k_X12_power_9 (have c5 := v4.1; have v8 := v4.2; (And.intro c5 (And.intro rfl (have c6 := v8.1; have v7 := v8.2; (And.intro c6 (And.intro rfl v7))))))))))
def b_X12_plainWord_0 : List IE := [(.iload_n 0, 1, 0, 0, 0, 0), (.istore_n 1, 1, 0, 0, 1, 0)]
theorem k_X12_plainWord_0 : ckB mX12_plainWord 12 0 b_X12_plainWord_0 2 = true := by decide +kernel
def b_X12_plainWord_2 : List IE := [(.iload_n 1, 1, 0, 0, 1, 0), (.bipush 27, 2, 27, 0, 0, 0), (.irem, 1, 0, 0, 0, 0)]
theorem k_X12_plainWord_2 : ckIf mX12_plainWord 12 2 b_X12_plainWord_2 6 1 11 17 9 = true := by decide +kernel
def b_X12_plainWord_9 : List IE := [(.iload_n 1, 1, 0, 0, 1, 0), (.bipush 27, 2, 27, 0, 0, 0), (.idiv, 1, 0, 0, 0, 0), (.istore_n 1, 1, 0, 0, 1, 0)]
theorem k_X12_plainWord_9 : ckGo mX12_plainWord 12 9 b_X12_plainWord_9 14 (-12) 2 = true := by decide +kernel
def b_X12_plainWord_17 : List IE := [(.iload_n 1, 1, 0, 0, 1, 0)]
theorem k_X12_plainWord_17 : ckI mX12_plainWord 12 17 b_X12_plainWord_17 18 = true := by decide +kernel
theorem t_X12_plainWord_0 {rc rs : Nat} {Q : Option AV → AH → Prop} {h : AH} {x0 : Int} (hv : wp mX12_plainWord 0 rc rs Q 2 [none, some (vi x0)] [] h) : wp mX12_plainWord 0 rc rs Q 0 [some (vi x0), none] [] h :=
  (show wp mX12_plainWord 0 rc rs Q 0 [some (vi x0), none] [] h from xB k_X12_plainWord_0 (And.intro rfl (w_fg [false, true] hv)))
theorem e_X12_plainWord {mc ms : Nat} {Q : Option AV → AH → Prop} {h : AH} {x0 : Int} (hv : wp mX12_plainWord 0 mc ms Q 2 [none, some (vi x0)] [] h) : Ct 0 mc ms mX12_plainWord [vi x0] h Q := Ct.of (by decide +kernel) (Nat.le_of_ble_eq_true rfl) (t_X12_plainWord_0 hv)
theorem t_X12_plainWord_2 {rc rs : Nat} {Q : Option AV → AH → Prop} {h : AH} {x1 : Int} (hv : (0 ≤ x1 ∧ x1 < 2147483648) ∧ (((x1 % 27) ≠ 0 → Q (some (vi x1)) h) ∧ ((x1 % 27) = 0 → wp mX12_plainWord 0 rc rs Q 2 [none, some (vi (x1 / 27))] [] h))) : wp mX12_plainWord 0 rc rs Q 2 [none, some (vi x1)] [] h :=
  (show wp mX12_plainWord 0 rc rs Q 2 [none, some (vi x1)] [] h from xIf k_X12_plainWord_2 (have c1 := hv.1; have v7 := hv.2; (And.intro (sd_irem (z := 27) (by decide) c1) (And.intro (fun c2 => have v4 := v7.1 c2; (show wp mX12_plainWord 0 rc rs Q 17 [none, some (vi x1)] [] h from xI k_X12_plainWord_17 (And.intro rfl v4))) (fun c3 => have v5 := v7.2 (Decidable.not_not.mp c3); (show wp mX12_plainWord 0 rc rs Q 9 [none, some (vi x1)] [] h from xGo k_X12_plainWord_9 (And.intro (sd_idiv (z := 27) (by decide) c1) (And.intro rfl v5))))))))
def b_X12_wordFrom_0 : List IE := [(.iconst 0, 1, 0, 0, 0, 0), (.istore_n 3, 1, 0, 0, 3, 0), (.iconst 0, 1, 0, 0, 0, 0), (.istore 4, 2, 0, 0, 4, 0)]
theorem k_X12_wordFrom_0 : ckB mX12_wordFrom 12 0 b_X12_wordFrom_0 5 = true := by decide +kernel
def b_X12_wordFrom_5 : List IE := [(.iload 4, 2, 0, 0, 4, 0), (.bipush 6, 2, 6, 0, 0, 0)]
theorem k_X12_wordFrom_5 : ckIc mX12_wordFrom 12 5 b_X12_wordFrom_5 9 3 41 50 12 = true := by decide +kernel
def b_X12_wordFrom_12 : List IE := [(.bipush 27, 2, 27, 0, 0, 0), (.iload_n 3, 1, 0, 0, 3, 0), (.imul, 1, 0, 0, 0, 0), (.iload_n 1, 1, 0, 0, 1, 0), (.iload 4, 2, 0, 0, 4, 0), (.iadd, 1, 0, 0, 0, 0), (.iload_n 2, 1, 0, 0, 2, 0)]
theorem k_X12_wordFrom_12 : ckIc mX12_wordFrom 12 12 b_X12_wordFrom_12 21 3 20 41 24 = true := by decide +kernel
def b_X12_wordFrom_24 : List IE := [(.aload_n 0, 1, 0, 0, 0, 0), (.getfield 54, 3, 0, 12, 17, 1), (.iload_n 1, 1, 0, 0, 1, 0), (.iload 4, 2, 0, 0, 4, 0), (.iadd, 1, 0, 0, 0, 0), (.iaload, 1, 0, 0, 0, 0), (.bipush 97, 2, 97, 0, 0, 0), (.isub, 1, 0, 0, 0, 0), (.iconst 1, 1, 1, 0, 0, 0), (.iadd, 1, 0, 0, 0, 0)]
theorem k_X12_wordFrom_24 : ckGo mX12_wordFrom 12 24 b_X12_wordFrom_24 38 4 42 = true := by decide +kernel
def b_X12_wordFrom_41 : List IE := [(.iconst 0, 1, 0, 0, 0, 0), (.iadd, 1, 0, 0, 0, 0), (.istore_n 3, 1, 0, 0, 3, 0), (.iinc 4 1, 3, 1, 0, 4, 0)]
theorem k_X12_wordFrom_41 : ckGo mX12_wordFrom 12 41 b_X12_wordFrom_41 47 (-42) 5 = true := by decide +kernel
def b_X12_wordFrom_42 : List IE := [(.iadd, 1, 0, 0, 0, 0), (.istore_n 3, 1, 0, 0, 3, 0), (.iinc 4 1, 3, 1, 0, 4, 0)]
theorem k_X12_wordFrom_42 : ckGo mX12_wordFrom 12 42 b_X12_wordFrom_42 47 (-42) 5 = true := by decide +kernel
def b_X12_wordFrom_50 : List IE := [(.iload_n 3, 1, 0, 0, 3, 0)]
theorem k_X12_wordFrom_50 : ckI mX12_wordFrom 12 50 b_X12_wordFrom_50 51 = true := by decide +kernel
theorem t_X12_wordFrom_0 {rc rs : Nat} {Q : Option AV → AH → Prop} {h : AH} {x1 x2 : Int} (hL : LayM h) (hv : wp mX12_wordFrom 0 rc rs Q 5 [some (vr 71), some (vi x1), some (vi x2), some (vi 0), some (vi 0)] [] h) : wp mX12_wordFrom 0 rc rs Q 0 [some (vr 71), some (vi x1), some (vi x2), none, none] [] h :=
  (show wp mX12_wordFrom 0 rc rs Q 0 [some (vr 71), some (vi x1), some (vi x2), none, none] [] h from xB k_X12_wordFrom_0 (And.intro rfl (And.intro rfl hv)))
theorem e_X12_wordFrom {mc ms : Nat} {Q : Option AV → AH → Prop} {h : AH} {x1 x2 : Int} (hL : LayM h) (hv : wp mX12_wordFrom 0 mc ms Q 5 [some (vr 71), some (vi x1), some (vi x2), some (vi 0), some (vi 0)] [] h) : Ct 0 mc ms mX12_wordFrom [vr 71, vi x1, vi x2] h Q := Ct.of (by decide +kernel) (Nat.le_of_ble_eq_true rfl) (t_X12_wordFrom_0 hL hv)
theorem t_X12_wordFrom_5 {rc rs : Nat} {Q : Option AV → AH → Prop} {h : AH} {x1 x2 x3 x4 : Int} (hL : LayM h) (hv : ((6 ≤ x4 → Q (some (vi x3)) h) ∧ (x4 < 6 → (-2147483648 ≤ (27 * x3) ∧ (27 * x3) < 2147483648) ∧ (-2147483648 ≤ (x1 + x4) ∧ (x1 + x4) < 2147483648) ∧ ((x2 ≤ (x1 + x4) → (-2147483648 ≤ ((27 * x3) + 0) ∧ ((27 * x3) + 0) < 2147483648) ∧ (-2147483648 ≤ (x4 + 1) ∧ (x4 + 1) < 2147483648) ∧ wp mX12_wordFrom 0 rc rs Q 5 [some (vr 71), some (vi x1), some (vi x2), some (vi ((27 * x3) + 0)), some (vi (x4 + 1))] [] h) ∧ ((x1 + x4) < x2 → (0 ≤ (x1 + x4) ∧ (x1 + x4) < 64) ∧ (-2147483648 ≤ (iH h 1139 ((x1 + x4).toNat) - 97) ∧ (iH h 1139 ((x1 + x4).toNat) - 97) < 2147483648) ∧ (-2147483648 ≤ ((iH h 1139 ((x1 + x4).toNat) - 97) + 1) ∧ ((iH h 1139 ((x1 + x4).toNat) - 97) + 1) < 2147483648) ∧ (-2147483648 ≤ ((27 * x3) + ((iH h 1139 ((x1 + x4).toNat) - 97) + 1)) ∧ ((27 * x3) + ((iH h 1139 ((x1 + x4).toNat) - 97) + 1)) < 2147483648) ∧ (-2147483648 ≤ (x4 + 1) ∧ (x4 + 1) < 2147483648) ∧ wp mX12_wordFrom 0 rc rs Q 5 [some (vr 71), some (vi x1), some (vi x2), some (vi ((27 * x3) + ((iH h 1139 ((x1 + x4).toNat) - 97) + 1))), some (vi (x4 + 1))] [] h))))) : wp mX12_wordFrom 0 rc rs Q 5 [some (vr 71), some (vi x1), some (vi x2), some (vi x3), some (vi x4)] [] h :=
  (show wp mX12_wordFrom 0 rc rs Q 5 [some (vr 71), some (vi x1), some (vi x2), some (vi x3), some (vi x4)] [] h from xIc k_X12_wordFrom_5 (And.intro (fun c1 => have v3 := hv.1 c1; (show wp mX12_wordFrom 0 rc rs Q 50 [some (vr 71), some (vi x1), some (vi x2), some (vi x3), some (vi x4)] [] h from xI k_X12_wordFrom_50 (And.intro rfl v3))) (fun c2 => have v4 := hv.2 (Int.not_le.mp c2); (show wp mX12_wordFrom 0 rc rs Q 12 [some (vr 71), some (vi x1), some (vi x2), some (vi x3), some (vi x4)] [] h from xIc k_X12_wordFrom_12 (have c5 := v4.1; have v27 := v4.2; (And.intro c5 (have c6 := v27.1; have v26 := v27.2; (And.intro c6 (And.intro (fun c7 => have v9 := v26.1 c7; (show wp mX12_wordFrom 0 rc rs Q 41 [some (vr 71), some (vi x1), some (vi x2), some (vi x3), some (vi x4)] [vi (27 * x3)] h from xGo k_X12_wordFrom_41 (have c11 := v9.1; have v14 := v9.2; (And.intro c11 (And.intro rfl (have c12 := v14.1; have v13 := v14.2; (And.intro c12 (And.intro rfl v13)))))))) (fun c8 => have v10 := v26.2 (Int.not_le.mp c8); (show wp mX12_wordFrom 0 rc rs Q 24 [some (vr 71), some (vi x1), some (vi x2), some (vi x3), some (vi x4)] [vi (27 * x3)] h from xGo k_X12_wordFrom_24 (And.intro (lm_71 hL) (Exists.intro 1139 (And.intro (lf_71_17 hL) (And.intro c6 (have c16 := v10.1; have v25 := v10.2; (And.intro (sdI (lm_1139 hL) c16) (have c17 := v25.1; have v24 := v25.2; (And.intro c17 (have c18 := v24.1; have v23 := v24.2; (And.intro c18 (show wp mX12_wordFrom 0 rc rs Q 42 [some (vr 71), some (vi x1), some (vi x2), some (vi x3), some (vi x4)] [vi ((iH h 1139 ((x1 + x4).toNat) - 97) + 1), vi (27 * x3)] h from xGo k_X12_wordFrom_42 (have c19 := v23.1; have v22 := v23.2; (And.intro c19 (And.intro rfl (have c20 := v22.1; have v21 := v22.2; (And.intro c20 (And.intro rfl v21))))))))))))))))))))))))))))
def b_X12_wasFound_0 : List IE := [(.iconst 0, 1, 0, 0, 0, 0), (.istore 4, 2, 0, 0, 4, 0)]
theorem k_X12_wasFound_0 : ckB mX12_wasFound 12 0 b_X12_wasFound_0 3 = true := by decide +kernel
def b_X12_wasFound_3 : List IE := [(.iload 4, 2, 0, 0, 4, 0), (.iload_n 3, 1, 0, 0, 3, 0)]
theorem k_X12_wasFound_3 : ckIc mX12_wasFound 12 3 b_X12_wasFound_3 6 3 19 25 9 = true := by decide +kernel
def b_X12_wasFound_9 : List IE := [(.aload_n 2, 1, 0, 0, 2, 0), (.iload 4, 2, 0, 0, 4, 0), (.iaload, 1, 0, 0, 0, 0), (.iload_n 1, 1, 0, 0, 1, 0)]
theorem k_X12_wasFound_9 : ckIc mX12_wasFound 12 9 b_X12_wasFound_9 14 1 5 19 17 = true := by decide +kernel
def b_X12_wasFound_17 : List IE := [(.iconst 1, 1, 1, 0, 0, 0)]
theorem k_X12_wasFound_17 : ckZ mX12_wasFound 12 17 b_X12_wasFound_17 18 = true := by decide +kernel
def b_X12_wasFound_19 : List IE := [(.iinc 4 1, 3, 1, 0, 4, 0)]
theorem k_X12_wasFound_19 : ckGo mX12_wasFound 12 19 b_X12_wasFound_19 22 (-19) 3 = true := by decide +kernel
def b_X12_wasFound_25 : List IE := [(.iconst 0, 1, 0, 0, 0, 0)]
theorem k_X12_wasFound_25 : ckZ mX12_wasFound 12 25 b_X12_wasFound_25 26 = true := by decide +kernel
theorem t_X12_wasFound_0 {rc rs : Nat} {Q : Option AV → AH → Prop} {h : AH} {x1 x3 : Int} {a2 n2 : Nat} (hL : LayM h) (hA2 : a2 < nH h ∧ kH h a2 = (13, n2)) (hv : wp mX12_wasFound 0 rc rs Q 3 [none, some (vi x1), some (vr a2), some (vi x3), some (vi 0)] [] h) : wp mX12_wasFound 0 rc rs Q 0 [some (vr 71), some (vi x1), some (vr a2), some (vi x3), none] [] h :=
  (show wp mX12_wasFound 0 rc rs Q 0 [some (vr 71), some (vi x1), some (vr a2), some (vi x3), none] [] h from xB k_X12_wasFound_0 (And.intro rfl (w_fg [false, true, true, true, true] hv)))
theorem e_X12_wasFound {mc ms : Nat} {Q : Option AV → AH → Prop} {h : AH} {x1 x3 : Int} {a2 n2 : Nat} (hL : LayM h) (hA2 : a2 < nH h ∧ kH h a2 = (13, n2)) (hv : wp mX12_wasFound 0 mc ms Q 3 [none, some (vi x1), some (vr a2), some (vi x3), some (vi 0)] [] h) : Ct 0 mc ms mX12_wasFound [vr 71, vi x1, vr a2, vi x3] h Q := Ct.of (by decide +kernel) (Nat.le_of_ble_eq_true rfl) (t_X12_wasFound_0 hL hA2 hv)
theorem t_X12_wasFound_3 {rc rs : Nat} {Q : Option AV → AH → Prop} {h : AH} {x1 x3 x4 : Int} {a2 n2 : Nat} (hL : LayM h) (hA2 : a2 < nH h ∧ kH h a2 = (13, n2)) (hv : ((x3 ≤ x4 → Q (some (vi 0)) h) ∧ (x4 < x3 → (0 ≤ x4 ∧ x4 < n2) ∧ (((iH h a2 x4.toNat) ≠ x1 → (-2147483648 ≤ (x4 + 1) ∧ (x4 + 1) < 2147483648) ∧ wp mX12_wasFound 0 rc rs Q 3 [none, some (vi x1), some (vr a2), some (vi x3), some (vi (x4 + 1))] [] h) ∧ ((iH h a2 x4.toNat) = x1 → Q (some (vi 1)) h))))) : wp mX12_wasFound 0 rc rs Q 3 [none, some (vi x1), some (vr a2), some (vi x3), some (vi x4)] [] h :=
  (show wp mX12_wasFound 0 rc rs Q 3 [none, some (vi x1), some (vr a2), some (vi x3), some (vi x4)] [] h from xIc k_X12_wasFound_3 (And.intro (fun c1 => have v3 := hv.1 c1; (show wp mX12_wasFound 0 rc rs Q 25 [none, some (vi x1), some (vr a2), some (vi x3), some (vi x4)] [] h from xZ k_X12_wasFound_25 (And.intro rfl (And.intro (Or.inl rfl) v3)))) (fun c2 => have v4 := hv.2 (Int.not_le.mp c2); (show wp mX12_wasFound 0 rc rs Q 9 [none, some (vi x1), some (vr a2), some (vi x3), some (vi x4)] [] h from xIc k_X12_wasFound_9 (have c5 := v4.1; have v12 := v4.2; (And.intro (sdI hA2 c5) (And.intro (fun c6 => have v8 := v12.1 c6; (show wp mX12_wasFound 0 rc rs Q 19 [none, some (vi x1), some (vr a2), some (vi x3), some (vi x4)] [] h from xGo k_X12_wasFound_19 (have c10 := v8.1; have v11 := v8.2; (And.intro c10 (And.intro rfl v11))))) (fun c7 => have v9 := v12.2 (Decidable.not_not.mp c7); (show wp mX12_wasFound 0 rc rs Q 17 [none, some (vi x1), some (vr a2), some (vi x3), some (vi x4)] [] h from xZ k_X12_wasFound_17 (And.intro rfl (And.intro (Or.inr rfl) v9)))))))))))
def b_X12_viewsOpen_0 : List IE := [(.iconst 0, 1, 0, 0, 0, 0), (.istore_n 1, 1, 0, 0, 1, 0), (.iconst 0, 1, 0, 0, 0, 0), (.istore_n 2, 1, 0, 0, 2, 0)]
theorem k_X12_viewsOpen_0 : ckB mX12_viewsOpen 12 0 b_X12_viewsOpen_0 4 = true := by decide +kernel
def b_X12_viewsOpen_4 : List IE := [(.iload_n 2, 1, 0, 0, 2, 0), (.iconst 4, 1, 4, 0, 0, 0)]
theorem k_X12_viewsOpen_4 : ckIc mX12_viewsOpen 12 4 b_X12_viewsOpen_4 6 3 21 27 9 = true := by decide +kernel
def b_X12_viewsOpen_9 : List IE := [(.aload_n 0, 1, 0, 0, 0, 0), (.getfield 34, 3, 0, 12, 9, 1), (.iload_n 2, 1, 0, 0, 2, 0), (.baload, 1, 0, 0, 0, 0)]
theorem k_X12_viewsOpen_9 : ckIf mX12_viewsOpen 12 9 b_X12_viewsOpen_9 15 0 6 21 18 = true := by decide +kernel
def b_X12_viewsOpen_18 : List IE := [(.iinc 1 1, 3, 1, 0, 1, 0), (.iinc 2 1, 3, 1, 0, 2, 0)]
theorem k_X12_viewsOpen_18 : ckGo mX12_viewsOpen 12 18 b_X12_viewsOpen_18 24 (-20) 4 = true := by decide +kernel
def b_X12_viewsOpen_21 : List IE := [(.iinc 2 1, 3, 1, 0, 2, 0)]
theorem k_X12_viewsOpen_21 : ckGo mX12_viewsOpen 12 21 b_X12_viewsOpen_21 24 (-20) 4 = true := by decide +kernel
def b_X12_viewsOpen_27 : List IE := [(.iload_n 1, 1, 0, 0, 1, 0)]
theorem k_X12_viewsOpen_27 : ckI mX12_viewsOpen 12 27 b_X12_viewsOpen_27 28 = true := by decide +kernel
theorem t_X12_viewsOpen_0 {rc rs : Nat} {Q : Option AV → AH → Prop} {h : AH}  (hL : LayM h) (hv : wp mX12_viewsOpen 0 rc rs Q 4 [some (vr 71), some (vi 0), some (vi 0)] [] h) : wp mX12_viewsOpen 0 rc rs Q 0 [some (vr 71), none, none] [] h :=
  (show wp mX12_viewsOpen 0 rc rs Q 0 [some (vr 71), none, none] [] h from xB k_X12_viewsOpen_0 (And.intro rfl (And.intro rfl hv)))
theorem e_X12_viewsOpen {mc ms : Nat} {Q : Option AV → AH → Prop} {h : AH}  (hL : LayM h) (hv : wp mX12_viewsOpen 0 mc ms Q 4 [some (vr 71), some (vi 0), some (vi 0)] [] h) : Ct 0 mc ms mX12_viewsOpen [vr 71] h Q := Ct.of (by decide +kernel) (Nat.le_of_ble_eq_true rfl) (t_X12_viewsOpen_0 hL hv)
theorem t_X12_viewsOpen_4 {rc rs : Nat} {Q : Option AV → AH → Prop} {h : AH} {x1 x2 : Int} (hL : LayM h) (hv : ((4 ≤ x2 → Q (some (vi x1)) h) ∧ (x2 < 4 → (0 ≤ x2 ∧ x2 < 7) ∧ (((iH h 1119 x2.toNat) = 0 → (-2147483648 ≤ (x2 + 1) ∧ (x2 + 1) < 2147483648) ∧ wp mX12_viewsOpen 0 rc rs Q 4 [some (vr 71), some (vi x1), some (vi (x2 + 1))] [] h) ∧ ((iH h 1119 x2.toNat) ≠ 0 → (-2147483648 ≤ (x1 + 1) ∧ (x1 + 1) < 2147483648) ∧ (-2147483648 ≤ (x2 + 1) ∧ (x2 + 1) < 2147483648) ∧ wp mX12_viewsOpen 0 rc rs Q 4 [some (vr 71), some (vi (x1 + 1)), some (vi (x2 + 1))] [] h))))) : wp mX12_viewsOpen 0 rc rs Q 4 [some (vr 71), some (vi x1), some (vi x2)] [] h :=
  (show wp mX12_viewsOpen 0 rc rs Q 4 [some (vr 71), some (vi x1), some (vi x2)] [] h from xIc k_X12_viewsOpen_4 (And.intro (fun c1 => have v3 := hv.1 c1; (show wp mX12_viewsOpen 0 rc rs Q 27 [some (vr 71), some (vi x1), some (vi x2)] [] h from xI k_X12_viewsOpen_27 (And.intro rfl v3))) (fun c2 => have v4 := hv.2 (Int.not_le.mp c2); (show wp mX12_viewsOpen 0 rc rs Q 9 [some (vr 71), some (vi x1), some (vi x2)] [] h from xIf k_X12_viewsOpen_9 (And.intro (lm_71 hL) (Exists.intro 1119 (And.intro (lf_71_9 hL) (have c5 := v4.1; have v16 := v4.2; (And.intro (sdZ (lm_1119 hL) c5) (And.intro (fun c6 => have v8 := v16.1 c6; (show wp mX12_viewsOpen 0 rc rs Q 21 [some (vr 71), some (vi x1), some (vi x2)] [] h from xGo k_X12_viewsOpen_21 (have c10 := v8.1; have v11 := v8.2; (And.intro c10 (And.intro rfl v11))))) (fun c7 => have v9 := v16.2 c7; (show wp mX12_viewsOpen 0 rc rs Q 18 [some (vr 71), some (vi x1), some (vi x2)] [] h from xGo k_X12_viewsOpen_18 (have c12 := v9.1; have v15 := v9.2; (And.intro c12 (And.intro rfl (have c13 := v15.1; have v14 := v15.2; (And.intro c13 (And.intro rfl v14))))))))))))))))))
def b_X12_held_0 : List IE := [(.iconst 0, 1, 0, 0, 0, 0), (.istore_n 1, 1, 0, 0, 1, 0), (.iconst 0, 1, 0, 0, 0, 0), (.istore_n 2, 1, 0, 0, 2, 0)]
theorem k_X12_held_0 : ckB mX12_held 12 0 b_X12_held_0 4 = true := by decide +kernel
def b_X12_held_4 : List IE := [(.iload_n 2, 1, 0, 0, 2, 0), (.aload_n 0, 1, 0, 0, 0, 0), (.getfield 106, 3, 0, 12, 13, 0)]
theorem k_X12_held_4 : ckIc mX12_held 12 4 b_X12_held_4 9 3 23 32 12 = true := by decide +kernel
def b_X12_held_12 : List IE := [(.iload_n 1, 1, 0, 0, 1, 0), (.aload_n 0, 1, 0, 0, 0, 0), (.getfield 28, 3, 0, 12, 7, 1), (.aload_n 0, 1, 0, 0, 0, 0), (.getfield 48, 3, 0, 12, 14, 1), (.iload_n 2, 1, 0, 0, 2, 0), (.iaload, 1, 0, 0, 0, 0), (.iaload, 1, 0, 0, 0, 0), (.iadd, 1, 0, 0, 0, 0), (.istore_n 1, 1, 0, 0, 1, 0), (.iinc 2 1, 3, 1, 0, 2, 0)]
theorem k_X12_held_12 : ckGo mX12_held 12 12 b_X12_held_12 29 (-25) 4 = true := by decide +kernel
def b_X12_held_32 : List IE := [(.iload_n 1, 1, 0, 0, 1, 0)]
theorem k_X12_held_32 : ckI mX12_held 12 32 b_X12_held_32 33 = true := by decide +kernel
theorem t_X12_held_0 {rc rs : Nat} {Q : Option AV → AH → Prop} {h : AH}  (hL : LayM h) (hv : wp mX12_held 0 rc rs Q 4 [some (vr 71), some (vi 0), some (vi 0)] [] h) : wp mX12_held 0 rc rs Q 0 [some (vr 71), none, none] [] h :=
  (show wp mX12_held 0 rc rs Q 0 [some (vr 71), none, none] [] h from xB k_X12_held_0 (And.intro rfl (And.intro rfl hv)))
theorem e_X12_held {mc ms : Nat} {Q : Option AV → AH → Prop} {h : AH}  (hL : LayM h) (hv : wp mX12_held 0 mc ms Q 4 [some (vr 71), some (vi 0), some (vi 0)] [] h) : Ct 0 mc ms mX12_held [vr 71] h Q := Ct.of (by decide +kernel) (Nat.le_of_ble_eq_true rfl) (t_X12_held_0 hL hv)
theorem t_X12_held_4 {rc rs : Nat} {Q : Option AV → AH → Prop} {h : AH} {x1 x2 : Int} (hL : LayM h) (hv : (((iH h 71 13) ≤ x2 → Q (some (vi x1)) h) ∧ (x2 < (iH h 71 13) → (0 ≤ x2 ∧ x2 < 8) ∧ (0 ≤ iH h 1137 x2.toNat ∧ iH h 1137 x2.toNat < 520) ∧ (-2147483648 ≤ (x1 + iH h 597 ((iH h 1137 x2.toNat).toNat)) ∧ (x1 + iH h 597 ((iH h 1137 x2.toNat).toNat)) < 2147483648) ∧ (-2147483648 ≤ (x2 + 1) ∧ (x2 + 1) < 2147483648) ∧ wp mX12_held 0 rc rs Q 4 [some (vr 71), some (vi (x1 + iH h 597 ((iH h 1137 x2.toNat).toNat))), some (vi (x2 + 1))] [] h))) : wp mX12_held 0 rc rs Q 4 [some (vr 71), some (vi x1), some (vi x2)] [] h :=
  (show wp mX12_held 0 rc rs Q 4 [some (vr 71), some (vi x1), some (vi x2)] [] h from xIc k_X12_held_4 (And.intro (lm_71 hL) (And.intro (fun c1 => have v3 := hv.1 c1; (show wp mX12_held 0 rc rs Q 32 [some (vr 71), some (vi x1), some (vi x2)] [] h from xI k_X12_held_32 (And.intro rfl v3))) (fun c2 => have v4 := hv.2 (Int.not_le.mp c2); (show wp mX12_held 0 rc rs Q 12 [some (vr 71), some (vi x1), some (vi x2)] [] h from xGo k_X12_held_12 (And.intro (lm_71 hL) (Exists.intro 597 (And.intro (lf_71_7 hL) (And.intro (lm_71 hL) (Exists.intro 1137 (And.intro (lf_71_14 hL) (have c5 := v4.1; have v12 := v4.2; (And.intro (sdI (lm_1137 hL) c5) (have c6 := v12.1; have v11 := v12.2; (And.intro (sdI (lm_597 hL) c6) (have c7 := v11.1; have v10 := v11.2; (And.intro c7 (And.intro rfl (have c8 := v10.1; have v9 := v10.2; (And.intro c8 (And.intro rfl v9)))))))))))))))))))))
/-- a segment's documents are some; a document's words are some -/
def m_seg (h : AH) (g : Int) : Prop := (0 ≤ g ∧ g < 520) ∧ (0 ≤ iH h 597 g.toNat ∧ iH h 597 g.toNat ≤ 64) ∧ ∀ k : Nat, (k : Int) < iH h 597 g.toNat → 0 ≤ iH h (599 + g.toNat) k ∧ iH h (599 + g.toNat) k < 520
def m_doc (h : AH) (d : Int) : Prop := (0 ≤ d ∧ d < 520) ∧ (0 ≤ iH h 73 d.toNat ∧ iH h 73 d.toNat ≤ 12) ∧ ∀ i : Nat, (i : Int) < iH h 73 d.toNat → 0 < iH h (75 + d.toNat) i ∧ iH h (75 + d.toNat) i < 387420489
def m_liveP (h : AH) (g : Int) (k : Nat) : Prop := iH h 595 (iH h (599 + g.toNat) k).toNat = 0
noncomputable def m_live (h : AH) (g : Int) : Int := cnt (m_liveP h g) (iH h 597 g.toNat).toNat
theorem m_live_bd {h : AH} {g : Int} (hg : m_seg h g) : 0 ≤ m_live h g ∧ m_live h g ≤ iH h 597 g.toNat := by
  have h1 := cnt_bd (m_liveP h g) (iH h 597 g.toNat).toNat
  have h2 := hg.2.1
  unfold m_live; omega
theorem c_liveOf {h : AH} (hL : LayM h) {g : Int} (hg : m_seg h g) : Ct 0 0 0 mX12_liveOf [vr 71, vi g] h (QI fun x h' => x = m_live h g ∧ h' = h) := by
  have hl := hg.2.1
  refine e_X12_liveOf hL (up (P := fun k => wp mX12_liveOf 0 _ _ _ 4 [some (vr 71), some (vi g), some (vi (cnt (m_liveP h g) k)), some (vi k)] [] h) (iH h 597 g.toNat).toNat ?_ ?_)
  · exact t_X12_liveOf_4 hL ⟨hg.1, fun _ => ⟨_, rfl, rfl, rfl⟩, fun c => absurd c (by omega)⟩
  · intro k hk ih
    have hb := cnt_bd (m_liveP h g) k
    refine t_X12_liveOf_4 hL ⟨hg.1, fun c => absurd c (by omega), fun c => ⟨by omega, hg.2.2 k c, fun c2 => ⟨by omega, ?_⟩, fun c2 => ⟨by omega, by omega, ?_⟩⟩⟩
    · rw [← cnt_n (p := m_liveP h g) (n := k) c2]; exact ih
    · rw [← cnt_s (p := m_liveP h g) (n := k) c2]; exact ih
def m_hasP (h : AH) (d w : Int) (k : Nat) : Prop := iH h (75 + d.toNat) k = w
def m_has (h : AH) (d w : Int) : Prop := ∃ k : Nat, (k : Int) < iH h 73 d.toNat ∧ m_hasP h d w k
theorem c_hasWord {h : AH} (hL : LayM h) {d w : Int} (hd : m_doc h d) : Ct 0 0 0 mX12_hasWord [vr 71, vi d, vi w] h (QI fun x h' => x = b01 (m_has h d w) ∧ h' = h) := by
  have hl := hd.2.1
  refine e_X12_hasWord hL (up (P := fun k => (∀ j, j < k → ¬ m_hasP h d w j) → wp mX12_hasWord 0 _ _ _ 2 [some (vr 71), some (vi d), some (vi w), some (vi k)] [] h) (iH h 73 d.toNat).toNat ?_ ?_ (fun j hj => by omega))
  · intro hn
    refine t_X12_hasWord_2 hL ⟨hd.1, fun _ => ⟨_, rfl, (b01_f ?_).symm, rfl⟩, fun c => absurd c (by omega)⟩
    rintro ⟨k, hk, hp⟩
    exact hn k (by omega) hp
  · intro k hk ih hn
    refine t_X12_hasWord_2 hL ⟨hd.1, fun c => absurd c (by omega), fun c => ⟨by omega, fun c2 => ⟨by omega, ih fun j hj => ?_⟩, fun c2 => ⟨_, rfl, (b01_t ⟨k, by omega, c2⟩).symm, rfl⟩⟩⟩
    by_cases e : j = k
    · subst e; exact c2
    · exact hn j (by omega)
def m_bufP (h : AH) (key : Int) (k : Nat) : Prop := iH h 72 (iH h 1138 k).toNat = key
def m_buf (h : AH) : Prop := (0 ≤ iH h 71 15 ∧ iH h 71 15 ≤ 4) ∧ ∀ k : Nat, (k : Int) < iH h 71 15 → 0 ≤ iH h 1138 k ∧ iH h 1138 k < 520
noncomputable def m_bp (h : AH) (key : Int) : Int := fst (m_bufP h key) (iH h 71 15).toNat
theorem c_bufferPlace {h : AH} (hL : LayM h) {key : Int} (hb : m_buf h) : Ct 0 0 0 mX12_bufferPlace [vr 71, vi key] h (QI fun x h' => x = m_bp h key ∧ h' = h) := by
  have hl := hb.1
  refine e_X12_bufferPlace hL (up (P := fun k => (∀ j, j < k → ¬ m_bufP h key j) → wp mX12_bufferPlace 0 _ _ _ 2 [some (vr 71), some (vi key), some (vi k)] [] h) (iH h 71 15).toNat ?_ ?_ (fun j hj => by omega))
  · intro hn
    exact t_X12_bufferPlace_2 hL ⟨fun _ => ⟨_, rfl, (fst_no hn).symm, rfl⟩, fun c => absurd c (by omega)⟩
  · intro k hk ih hn
    refine t_X12_bufferPlace_2 hL ⟨fun c => absurd c (by omega), fun c => ⟨by omega, hb.2 k c, fun c2 => ⟨by omega, ih fun j hj => ?_⟩, fun c2 => ⟨_, rfl, (fst_at hk hn c2).symm, rfl⟩⟩⟩
    by_cases e : j = k
    · subst e; exact c2
    · exact hn j (by omega)
def m_std (h : AH) (t : Int) : Prop := (0 ≤ t ∧ t < 7) ∧ (0 ≤ iH h 1120 t.toNat ∧ iH h 1120 t.toNat ≤ 8)
def m_stands (h : AH) (t g : Int) : Prop := iH h 1119 t.toNat ≠ 0 ∧ ∃ k : Nat, (k : Int) < iH h 1120 t.toNat ∧ iH h (1122 + t.toNat) k = g
theorem c_stands {h : AH} (hL : LayM h) {t g : Int} (ht : m_std h t) : Ct 0 0 0 mX12_stands [vr 71, vi t, vi g] h (QI fun x h' => x = b01 (m_stands h t g) ∧ h' = h) := by
  have hl := ht.2
  refine e_X12_stands hL ⟨ht.1, fun c0 => ?_, fun c0 => ⟨_, rfl, (b01_f (fun q => q.1 c0)).symm, rfl⟩⟩
  refine up (P := fun k => (∀ j, j < k → ¬ iH h (1122 + t.toNat) j = g) → wp mX12_stands 0 _ _ _ 13 [some (vr 71), some (vi t), some (vi g), some (vi k)] [] h) (iH h 1120 t.toNat).toNat ?_ ?_ (fun j hj => by omega)
  · intro hn
    refine t_X12_stands_13 hL ⟨ht.1, fun _ => ⟨_, rfl, (b01_f ?_).symm, rfl⟩, fun c => absurd c (by omega)⟩
    rintro ⟨-, k, hk, hp⟩
    exact hn k (by omega) hp
  · intro k hk ih hn
    refine t_X12_stands_13 hL ⟨ht.1, fun c => absurd c (by omega), fun c => ⟨by omega, fun c2 => ⟨by omega, ih fun j hj => ?_⟩, fun c2 => ⟨_, rfl, (b01_t ⟨c0, k, by omega, c2⟩).symm, rfl⟩⟩⟩
    by_cases e : j = k
    · subst e; exact c2
    · exact hn j (by omega)
theorem p27 : ∀ k, k < 6 → 0 < (27 : Int) ^ k ∧ (27 : Int) ^ k ≤ 14348907 := by decide
theorem c_power {h : AH} {n : Int} (hn : 0 ≤ n ∧ n ≤ 6) : Ct 0 0 0 mX12_power [vi n] h (QI fun x h' => x = (27 : Int) ^ n.toNat ∧ h' = h) := by
  refine e_X12_power (up (P := fun k => wp mX12_power 0 _ _ _ 4 [some (vi n), some (vi ((27 : Int) ^ k)), some (vi k)] [] h) n.toNat ?_ ?_)
  · exact t_X12_power_4 ⟨fun _ => ⟨_, rfl, rfl, rfl⟩, fun c => absurd c (by omega)⟩
  · intro k hk ih
    have h1 := p27 k (by omega)
    refine t_X12_power_4 ⟨fun c => absurd c (by omega), fun c => ⟨by omega, by omega, ?_⟩⟩
    rw [← Int.pow_succ]; exact ih
def b_X12_begins_0 : List IE := [(.bipush 6, 2, 6, 0, 0, 0), (.iload_n 2, 1, 0, 0, 2, 0), (.isub, 1, 0, 0, 0, 0)]
theorem k_X12_begins_0 : ckB mX12_begins 12 0 b_X12_begins_0 4 = true := by decide +kernel
def b_X12_begins_7 : List IE := [(.istore_n 3, 1, 0, 0, 3, 0), (.iload_n 0, 1, 0, 0, 0, 0), (.iload_n 3, 1, 0, 0, 3, 0), (.idiv, 1, 0, 0, 0, 0), (.iload_n 1, 1, 0, 0, 1, 0), (.iload_n 3, 1, 0, 0, 3, 0), (.idiv, 1, 0, 0, 0, 0)]
theorem k_X12_begins_7 : ckIc mX12_begins 12 7 b_X12_begins_7 14 1 7 21 17 = true := by decide +kernel
def b_X12_begins_17 : List IE := [(.iconst 1, 1, 1, 0, 0, 0)]
theorem k_X12_begins_17 : ckGo mX12_begins 12 17 b_X12_begins_17 18 4 22 = true := by decide +kernel
def b_X12_begins_21 : List IE := [(.iconst 0, 1, 0, 0, 0, 0)]
theorem k_X12_begins_21 : ckZ mX12_begins 12 21 b_X12_begins_21 22 = true := by decide +kernel
def b_X12_begins_22 : List IE := []
theorem k_X12_begins_22 : ckZ mX12_begins 12 22 b_X12_begins_22 22 = true := by decide +kernel
theorem s_X12_begins_4 : cS mX12_begins 4 mX12_power 339 1 := ⟨by decide +kernel, ⟨ml_X12_power, li_RX12_339, st_X12_power⟩, by decide +kernel⟩
theorem t_X12_begins_0 {rc rs : Nat} {Q : Option AV → AH → Prop} {h : AH} {x0 x1 x2 : Int} (hv : (-2147483648 ≤ (6 - x2) ∧ (6 - x2) < 2147483648) ∧ (0 ≤ (6 - x2) ∧ (6 - x2) ≤ 6) ∧ (0 ≤ x0 ∧ 0 < ((27 : Int) ^ ((6 - x2)).toNat) ∧ x0 < 2147483648) ∧ (0 ≤ x1 ∧ 0 < ((27 : Int) ^ ((6 - x2)).toNat) ∧ x1 < 2147483648) ∧ (((x0 / ((27 : Int) ^ ((6 - x2)).toNat)) ≠ (x1 / ((27 : Int) ^ ((6 - x2)).toNat)) → Q (some (vi 0)) h) ∧ ((x0 / ((27 : Int) ^ ((6 - x2)).toNat)) = (x1 / ((27 : Int) ^ ((6 - x2)).toNat)) → Q (some (vi 1)) h))) : wp mX12_begins 1 rc rs Q 0 [some (vi x0), some (vi x1), some (vi x2), none] [] h :=
  (show wp mX12_begins 1 rc rs Q 0 [some (vi x0), some (vi x1), some (vi x2), none] [] h from xcS k_X12_begins_0 s_X12_begins_4 (have c1 := hv.1; have v13 := hv.2; (And.intro c1 (have c10 := v13.1; have v11 := v13.2; (Exists.intro [vi (6 - x2)] (Exists.intro [] (And.intro (And.intro rfl (And.intro rfl (Nat.le_of_ble_eq_true rfl))) (Exists.intro 0 (Exists.intro 0 (Exists.intro 0 (Exists.intro _ (And.intro (c_power c10) (And.intro (And.intro (by decide) (And.intro (Nat.zero_le _) (Nat.zero_le _))) (eQP (show wp mX12_begins 1 rc rs Q 7 [some (vi x0), some (vi x1), some (vi x2), none] [vi ((27 : Int) ^ ((6 - x2)).toNat)] h from xIc k_X12_begins_7 (And.intro rfl (have c2 := v11.1; have v9 := v11.2; (And.intro (sd_idiv c2.2.1 (And.intro c2.1 c2.2.2)) (have c3 := v9.1; have v8 := v9.2; (And.intro (sd_idiv c3.2.1 (And.intro c3.1 c3.2.2)) (And.intro (fun c4 => have v6 := v8.1 c4; (show wp mX12_begins 1 rc rs Q 21 [some (vi x0), some (vi x1), some (vi x2), some (vi ((27 : Int) ^ ((6 - x2)).toNat))] [] h from xZ k_X12_begins_21 (And.intro rfl (And.intro (Or.inl rfl) v6)))) (fun c5 => have v7 := v8.2 (Decidable.not_not.mp c5); (show wp mX12_begins 1 rc rs Q 17 [some (vi x0), some (vi x1), some (vi x2), some (vi ((27 : Int) ^ ((6 - x2)).toNat))] [] h from xGo k_X12_begins_17 (show wp mX12_begins 1 rc rs Q 22 [some (vi x0), some (vi x1), some (vi x2), some (vi ((27 : Int) ^ ((6 - x2)).toNat))] [vi 1] h from xZ k_X12_begins_22 (And.intro rfl (And.intro (Or.inr rfl) v7))))))))))))))))))))))))))
theorem e_X12_begins {mc ms : Nat} {Q : Option AV → AH → Prop} {h : AH} {x0 x1 x2 : Int} (hv : (-2147483648 ≤ (6 - x2) ∧ (6 - x2) < 2147483648) ∧ (0 ≤ (6 - x2) ∧ (6 - x2) ≤ 6) ∧ (0 ≤ x0 ∧ 0 < ((27 : Int) ^ ((6 - x2)).toNat) ∧ x0 < 2147483648) ∧ (0 ≤ x1 ∧ 0 < ((27 : Int) ^ ((6 - x2)).toNat) ∧ x1 < 2147483648) ∧ (((x0 / ((27 : Int) ^ ((6 - x2)).toNat)) ≠ (x1 / ((27 : Int) ^ ((6 - x2)).toNat)) → Q (some (vi 0)) h) ∧ ((x0 / ((27 : Int) ^ ((6 - x2)).toNat)) = (x1 / ((27 : Int) ^ ((6 - x2)).toNat)) → Q (some (vi 1)) h))) : Ct 1 mc ms mX12_begins [vi x0, vi x1, vi x2] h Q := Ct.of (by decide +kernel) (Nat.le_of_ble_eq_true rfl) (t_X12_begins_0 hv)
def m_beg (w b l : Int) : Prop := w / 27 ^ (6 - l).toNat = b / 27 ^ (6 - l).toNat
theorem c_begins {h : AH} {w b l : Int} (hp : (0 ≤ w ∧ w < 2147483648) ∧ (0 ≤ b ∧ b < 2147483648) ∧ (0 ≤ l ∧ l ≤ 6)) : Ct 1 0 0 mX12_begins [vi w, vi b, vi l] h (QI fun x h' => x = b01 (m_beg w b l) ∧ h' = h) := by
  have h0 : 0 < (27 : Int) ^ (6 - l).toNat := Int.pow_pos (by decide)
  refine e_X12_begins ⟨by omega, by omega, ⟨hp.1.1, h0, hp.1.2⟩, ⟨hp.2.1.1, h0, hp.2.1.2⟩, fun c => ⟨_, rfl, (b01_f c).symm, rfl⟩, fun c => ⟨_, rfl, (b01_t c).symm, rfl⟩⟩
def m_pl : Nat → Int → Int
  | 0, v => v
  | n + 1, v => if v % 27 = 0 then m_pl n (v / 27) else v
theorem c_plainWord {h : AH} {w : Int} (hw : 0 < w ∧ w < 387420489) : Ct 0 0 0 mX12_plainWord [vi w] h (QI fun x h' => x = m_pl 6 w ∧ h' = h) := by
  refine e_X12_plainWord ?_
  have : ∀ (n : Nat) (v : Int), 0 < v → v < 27 ^ n → v < 2147483648 → m_pl n v = m_pl 6 w → wp mX12_plainWord 0 0 0 (QI fun x h' => x = m_pl 6 w ∧ h' = h) 2 [none, some (vi v)] [] h := by
    intro n
    induction n with
    | zero => intro v h1 h2; simp at h2; omega
    | succ n ih =>
      intro v h1 h2 h3 h4
      rw [Int.pow_succ] at h2
      unfold m_pl at h4
      refine t_X12_plainWord_2 ⟨by omega, fun c => ⟨_, rfl, by rw [if_neg c] at h4; exact h4, rfl⟩, fun c => ?_⟩
      rw [if_pos c] at h4
      exact ih _ (by omega) (by omega) (by omega) h4
  exact this 6 w hw.1 (by omega) (by omega) rfl
def m_wf (h : AH) (a b : Int) : Nat → Int
  | 0 => 0
  | k + 1 => 27 * m_wf h a b k + (if a + k < b then iH h 1139 (a + k).toNat - 96 else 0)
def m_let (h : AH) (a b : Int) : Prop := 0 ≤ a ∧ b ≤ 64 ∧ ∀ j : Nat, j < 6 → a + j < b → 97 ≤ iH h 1139 (a + j).toNat ∧ iH h 1139 (a + j).toNat ≤ 122
theorem m_wf_bd {h : AH} {a b : Int} (hl : m_let h a b) : ∀ k : Nat, k ≤ 6 → 0 ≤ m_wf h a b k ∧ m_wf h a b k < 27 ^ k
  | 0, _ => by simp [m_wf]
  | k + 1, hk => by
    have h1 := m_wf_bd hl k (by omega)
    unfold m_wf
    rw [Int.pow_succ]
    split
    · have h2 := hl.2.2 k (by omega) (by assumption)
      omega
    · omega
theorem c_wordFrom {h : AH} (hL : LayM h) {a b : Int} (hl : m_let h a b ∧ a ≤ 64) : Ct 0 0 0 mX12_wordFrom [vr 71, vi a, vi b] h (QI fun x h' => x = m_wf h a b 6 ∧ h' = h) := by
  refine e_X12_wordFrom hL (up (P := fun k => wp mX12_wordFrom 0 _ _ _ 5 [some (vr 71), some (vi a), some (vi b), some (vi (m_wf h a b k)), some (vi k)] [] h) 6 ?_ ?_)
  · exact t_X12_wordFrom_5 hL ⟨fun _ => ⟨_, rfl, rfl, rfl⟩, fun c => absurd c (by omega)⟩
  · intro k hk ih
    have h1 := m_wf_bd hl.1 k (by omega)
    have h3 := p27 k hk
    have h4 := hl.1.1
    have h5 := hl.1.2.1
    refine t_X12_wordFrom_5 hL ⟨fun c => absurd c (by omega), fun c => ⟨by omega, by omega, fun c2 => ⟨by omega, by omega, ?_⟩, fun c2 => ?_⟩⟩
    · have e : m_wf h a b (k + 1) = 27 * m_wf h a b k + 0 := by show 27 * m_wf h a b k + (if a + (k : Int) < b then _ else 0) = _; rw [if_neg (by omega)]
      rw [← e]; exact ih
    · have h2 := hl.1.2.2 k hk c2
      refine ⟨by omega, by omega, by omega, by omega, by omega, ?_⟩
      have e : m_wf h a b (k + 1) = 27 * m_wf h a b k + ((iH h 1139 (a + k).toNat - 97) + 1) := by show 27 * m_wf h a b k + (if a + (k : Int) < b then iH h 1139 (a + k).toNat - 96 else 0) = _; rw [if_pos c2]; omega
      rw [← e]; exact ih
def m_inRow (h : AH) (a : Nat) (d n : Int) : Prop := ∃ k : Nat, (k : Int) < n ∧ iH h a k = d
theorem c_wasFound {h : AH} (hL : LayM h) {a na : Nat} {d n : Int} (ha : a < nH h ∧ kH h a = (13, na)) (hn : n ≤ na ∧ na ≤ 520) : Ct 0 0 0 mX12_wasFound [vr 71, vi d, vr a, vi n] h (QI fun x h' => x = b01 (m_inRow h a d n) ∧ h' = h) := by
  refine e_X12_wasFound hL ha (up (P := fun k => (∀ j, j < k → ¬ iH h a j = d) → wp mX12_wasFound 0 _ _ _ 3 [none, some (vi d), some (vr a), some (vi n), some (vi k)] [] h) n.toNat ?_ ?_ (fun j hj => by omega))
  · intro hn
    refine t_X12_wasFound_3 hL ha ⟨fun _ => ⟨_, rfl, (b01_f ?_).symm, rfl⟩, fun c => absurd c (by omega)⟩
    rintro ⟨k, hk, hp⟩
    exact hn k (by omega) hp
  · intro k hk ih hnn
    refine t_X12_wasFound_3 hL ha ⟨fun c => absurd c (by omega), fun c => ⟨by omega, fun c2 => ⟨by omega, ih fun j hj => ?_⟩, fun c2 => ⟨_, rfl, (b01_t ⟨k, by omega, c2⟩).symm, rfl⟩⟩⟩
    by_cases e : j = k
    · subst e; exact c2
    · exact hnn j (by omega)
noncomputable def m_views (h : AH) : Int := cnt (fun v => ¬ iH h 1119 v = 0) 4
theorem c_viewsOpen {h : AH} (hL : LayM h) : Ct 0 0 0 mX12_viewsOpen [vr 71] h (QI fun x h' => x = m_views h ∧ h' = h) := by
  refine e_X12_viewsOpen hL (up (P := fun k => wp mX12_viewsOpen 0 _ _ _ 4 [some (vr 71), some (vi (cnt (fun v => ¬ iH h 1119 v = 0) k)), some (vi k)] [] h) 4 ?_ ?_)
  · exact t_X12_viewsOpen_4 hL ⟨fun _ => ⟨_, rfl, rfl, rfl⟩, fun c => absurd c (by omega)⟩
  · intro k hk ih
    have hb := cnt_bd (fun v => ¬ iH h 1119 v = 0) k
    refine t_X12_viewsOpen_4 hL ⟨fun c => absurd c (by omega), fun c => ⟨by omega, fun c2 => ⟨by omega, ?_⟩, fun c2 => ⟨by omega, by omega, ?_⟩⟩⟩
    · rw [← cnt_n (p := fun v => ¬ iH h 1119 v = 0) (n := k) (fun q => q c2)]; exact ih
    · rw [← cnt_s (p := fun v => ¬ iH h 1119 v = 0) (n := k) c2]; exact ih
def m_now (h : AH) : Prop := (0 ≤ iH h 71 13 ∧ iH h 71 13 ≤ 8) ∧ ∀ s : Nat, (s : Int) < iH h 71 13 → m_seg h (iH h 1137 s)
def m_held (h : AH) : Int := sumN (fun s => iH h 597 (iH h 1137 s).toNat) (iH h 71 13).toNat
theorem c_held {h : AH} (hL : LayM h) (hn : m_now h) : Ct 0 0 0 mX12_held [vr 71] h (QI fun x h' => x = m_held h ∧ h' = h) := by
  have hl := hn.1
  refine e_X12_held hL (up (P := fun k => wp mX12_held 0 _ _ _ 4 [some (vr 71), some (vi (sumN (fun s => iH h 597 (iH h 1137 s).toNat) k)), some (vi k)] [] h) (iH h 71 13).toNat ?_ ?_)
  · exact t_X12_held_4 hL ⟨fun _ => ⟨_, rfl, rfl, rfl⟩, fun c => absurd c (by omega)⟩
  · intro k hk ih
    have h1 := hn.2 k (by omega)
    have hb := sumN_bd (fun s => iH h 597 (iH h 1137 s).toNat) 64 (by omega) k (fun j hj => (hn.2 j (by omega)).2.1)
    have h2 := h1.2.1
    refine t_X12_held_4 hL ?_
    simp only [Int.toNat_natCast]
    exact ⟨fun c => absurd c (by omega), fun c => ⟨by omega, h1.1, by omega, by omega, ih⟩⟩
end
section
/-! THE REFERENCE: WORDS, POSTINGS, SIZES, PLACES -/
def b_X12_postings_0 : List IE := [(.iconst 0, 1, 0, 0, 0, 0), (.istore_n 3, 1, 0, 0, 3, 0), (.iconst 0, 1, 0, 0, 0, 0), (.istore 4, 2, 0, 0, 4, 0)]
theorem k_X12_postings_0 : ckB mX12_postings 12 0 b_X12_postings_0 5 = true := by decide +kernel
def b_X12_postings_5 : List IE := [(.iload 4, 2, 0, 0, 4, 0), (.aload_n 0, 1, 0, 0, 0, 0), (.getfield 28, 3, 0, 12, 7, 1), (.iload_n 1, 1, 0, 0, 1, 0), (.iaload, 1, 0, 0, 0, 0)]
theorem k_X12_postings_5 : ckIc mX12_postings 12 5 b_X12_postings_5 13 3 29 42 16 = true := by decide +kernel
def b_X12_postings_16 : List IE := [(.aload_n 0, 1, 0, 0, 0, 0), (.aload_n 0, 1, 0, 0, 0, 0), (.getfield 31, 3, 0, 12, 8, 1), (.iload_n 1, 1, 0, 0, 1, 0), (.aaload, 1, 0, 0, 0, 0), (.iload 4, 2, 0, 0, 4, 0), (.iaload, 1, 0, 0, 0, 0), (.iload_n 2, 1, 0, 0, 2, 0)]
theorem k_X12_postings_16 : ckB mX12_postings 12 16 b_X12_postings_16 27 = true := by decide +kernel
def b_X12_postings_30 : List IE := []
theorem k_X12_postings_30 : ckIf mX12_postings 12 30 b_X12_postings_30 30 0 6 36 33 = true := by decide +kernel
def b_X12_postings_33 : List IE := [(.iinc 3 1, 3, 1, 0, 3, 0), (.iinc 4 1, 3, 1, 0, 4, 0)]
theorem k_X12_postings_33 : ckGo mX12_postings 12 33 b_X12_postings_33 39 (-34) 5 = true := by decide +kernel
def b_X12_postings_36 : List IE := [(.iinc 4 1, 3, 1, 0, 4, 0)]
theorem k_X12_postings_36 : ckGo mX12_postings 12 36 b_X12_postings_36 39 (-34) 5 = true := by decide +kernel
def b_X12_postings_42 : List IE := [(.iload_n 3, 1, 0, 0, 3, 0)]
theorem k_X12_postings_42 : ckI mX12_postings 12 42 b_X12_postings_42 43 = true := by decide +kernel
theorem s_X12_postings_27 : cV mX12_postings 27 mX12_hasWord 181 2 12 := ⟨by decide +kernel, ⟨ml_X12_hasWord, li_RX12_181, im_X12_hasWord, se_X12_hasWord⟩, ⟨by decide +kernel, by decide +kernel⟩, by decide +kernel⟩
theorem t_X12_postings_0 {rc rs : Nat} {Q : Option AV → AH → Prop} {h : AH} {x1 x2 : Int} (hL : LayM h) (hv : wp mX12_postings 1 rc rs Q 5 [some (vr 71), some (vi x1), some (vi x2), some (vi 0), some (vi 0)] [] h) : wp mX12_postings 1 rc rs Q 0 [some (vr 71), some (vi x1), some (vi x2), none, none] [] h :=
  (show wp mX12_postings 1 rc rs Q 0 [some (vr 71), some (vi x1), some (vi x2), none, none] [] h from xB k_X12_postings_0 (And.intro rfl (And.intro rfl hv)))
theorem e_X12_postings {mc ms : Nat} {Q : Option AV → AH → Prop} {h : AH} {x1 x2 : Int} (hL : LayM h) (hv : wp mX12_postings 1 mc ms Q 5 [some (vr 71), some (vi x1), some (vi x2), some (vi 0), some (vi 0)] [] h) : Ct 1 mc ms mX12_postings [vr 71, vi x1, vi x2] h Q := Ct.of (by decide +kernel) (Nat.le_of_ble_eq_true rfl) (t_X12_postings_0 hL hv)
theorem t_X12_postings_5 {rc rs : Nat} {Q : Option AV → AH → Prop} {h : AH} {x1 x2 x3 x4 : Int} (hL : LayM h) (hv : (0 ≤ x1 ∧ x1 < 520) ∧ (((iH h 597 x1.toNat) ≤ x4 → Q (some (vi x3)) h) ∧ (x4 < (iH h 597 x1.toNat) → (0 ≤ x4 ∧ x4 < 64) ∧ (m_doc h (iH h (599 + x1.toNat) x4.toNat)) ∧ ((¬ (m_has h (iH h (599 + x1.toNat) x4.toNat) x2) → (-2147483648 ≤ (x4 + 1) ∧ (x4 + 1) < 2147483648) ∧ wp mX12_postings 1 rc rs Q 5 [some (vr 71), some (vi x1), some (vi x2), some (vi x3), some (vi (x4 + 1))] [] h) ∧ ((m_has h (iH h (599 + x1.toNat) x4.toNat) x2) → (-2147483648 ≤ (x3 + 1) ∧ (x3 + 1) < 2147483648) ∧ (-2147483648 ≤ (x4 + 1) ∧ (x4 + 1) < 2147483648) ∧ wp mX12_postings 1 rc rs Q 5 [some (vr 71), some (vi x1), some (vi x2), some (vi (x3 + 1)), some (vi (x4 + 1))] [] h))))) : wp mX12_postings 1 rc rs Q 5 [some (vr 71), some (vi x1), some (vi x2), some (vi x3), some (vi x4)] [] h :=
  (show wp mX12_postings 1 rc rs Q 5 [some (vr 71), some (vi x1), some (vi x2), some (vi x3), some (vi x4)] [] h from xIc k_X12_postings_5 (And.intro (lm_71 hL) (Exists.intro 597 (And.intro (lf_71_7 hL) (have c1 := hv.1; have v22 := hv.2; (And.intro (sdI (lm_597 hL) c1) (And.intro (fun c2 => have v4 := v22.1 c2; (show wp mX12_postings 1 rc rs Q 42 [some (vr 71), some (vi x1), some (vi x2), some (vi x3), some (vi x4)] [] h from xI k_X12_postings_42 (And.intro rfl v4))) (fun c3 => have v5 := v22.2 (Int.not_le.mp c3); (show wp mX12_postings 1 rc rs Q 16 [some (vr 71), some (vi x1), some (vi x2), some (vi x3), some (vi x4)] [] h from xcV k_X12_postings_16 s_X12_postings_27 (And.intro (lm_71 hL) (Exists.intro 598 (And.intro (lf_71_8 hL) (And.intro (sdQ (lm_598 hL) c1) (Exists.intro (599 + x1.toNat) (And.intro (lr_members hL (tnl c1)) (have c7 := v5.1; have v21 := v5.2; (And.intro (sdI (lk_members hL (tnl c1)) c7) (have c18 := v21.1; have v19 := v21.2; (Exists.intro [vi (iH h (599 + x1.toNat) x4.toNat), vi x2] (Exists.intro 71 (Exists.intro [] (And.intro (And.intro rfl (And.intro rfl (Nat.le_of_ble_eq_true rfl))) (And.intro (lm_71 hL) (Exists.intro 0 (Exists.intro 0 (Exists.intro 0 (Exists.intro _ (And.intro (c_hasWord hL c18) (And.intro (And.intro (by decide) (And.intro (Nat.zero_le _) (Nat.zero_le _))) (eQP (show wp mX12_postings 1 rc rs Q 30 [some (vr 71), some (vi x1), some (vi x2), some (vi x3), some (vi x4)] [vi (b01 (m_has h (iH h (599 + x1.toNat) x4.toNat) x2))] h from xIf k_X12_postings_30 (And.intro (fun c8 => have v10 := v19.1 (b01_n.mp c8); (show wp mX12_postings 1 rc rs Q 36 [some (vr 71), some (vi x1), some (vi x2), some (vi x3), some (vi x4)] [] h from xGo k_X12_postings_36 (have c12 := v10.1; have v13 := v10.2; (And.intro c12 (And.intro rfl v13))))) (fun c9 => have v11 := v19.2 (b01_p.mp c9); (show wp mX12_postings 1 rc rs Q 33 [some (vr 71), some (vi x1), some (vi x2), some (vi x3), some (vi x4)] [] h from xGo k_X12_postings_33 (have c14 := v11.1; have v17 := v11.2; (And.intro c14 (And.intro rfl (have c15 := v17.1; have v16 := v17.2; (And.intro c15 (And.intro rfl v16))))))))))))))))))))))))))))))))))))))))
def m_segd (h : AH) (g : Int) : Prop := m_seg h g ∧ ∀ k : Nat, (k : Int) < iH h 597 g.toNat → m_doc h (iH h (599 + g.toNat) k)
def m_postP (h : AH) (g w : Int) (k : Nat) : Prop := m_has h (iH h (599 + g.toNat) k) w
noncomputable def m_post (h : AH) (g w : Int) : Int := cnt (m_postP h g w) (iH h 597 g.toNat).toNat
theorem m_post_bd {h : AH} {g w : Int} (hg : m_segd h g) : 0 ≤ m_post h g w ∧ m_post h g w ≤ 64 := by
  have h1 := cnt_bd (m_postP h g w) (iH h 597 g.toNat).toNat
  have h2 := hg.1.2.1
  unfold m_post; omega
theorem c_postings {h : AH} (hL : LayM h) {g w : Int} (hg : m_segd h g) : Ct 1 0 0 mX12_postings [vr 71, vi g, vi w] h (QI fun x h' => x = m_post h g w ∧ h' = h) := by
  have hl := hg.1.2.1
  refine e_X12_postings hL (up (P := fun k => wp mX12_postings 1 _ _ _ 5 [some (vr 71), some (vi g), some (vi w), some (vi (cnt (m_postP h g w) k)), some (vi k)] [] h) (iH h 597 g.toNat).toNat ?_ ?_)
  · exact t_X12_postings_5 hL ⟨hg.1.1, fun _ => ⟨_, rfl, rfl, rfl⟩, fun c => absurd c (by omega)⟩
  · intro k hk ih
    have hb := cnt_bd (m_postP h g w) k
    refine t_X12_postings_5 hL ⟨hg.1.1, fun c => absurd c (by omega), fun c => ⟨by omega, hg.2 k c, fun c2 => ⟨by omega, ?_⟩, fun c2 => ⟨by omega, by omega, ?_⟩⟩⟩
    · rw [← cnt_n (p := m_postP h g w) (n := k) c2]; exact ih
    · rw [← cnt_s (p := m_postP h g w) (n := k) c2]; exact ih
/-- the least that is above w among those of S, or -1 -/
def Abv (f : Nat → Nat → Int) (w : Int) (S : Nat → Nat → Prop) (x : Int) : Prop := (x = -1 ∧ ∀ k i, S k i → f k i ≤ w) ∨ (w < x ∧ (∃ k i, S k i ∧ f k i = x) ∧ ∀ k i, S k i → w < f k i → x ≤ f k i)
theorem Abv.cg {f : Nat → Nat → Int} {w x : Int} {S T : Nat → Nat → Prop} (e : ∀ k i, S k i ↔ T k i) (h : Abv f w S x) : Abv f w T x := by
  have : S = T := by funext k i; exact propext (e k i)
  rw [← this]; exact h
theorem Abv.old {f : Nat → Nat → Int} {w x : Int} {S T : Nat → Nat → Prop} {k i : Nat} (e : ∀ a b, T a b ↔ S a b ∨ (a = k ∧ b = i)) (h : Abv f w S x) (hc : f k i ≤ w ∨ (x ≠ -1 ∧ x ≤ f k i)) : Abv f w T x := by
  rcases h with ⟨rfl, h⟩ | ⟨h1, ⟨a, b, h2, h3⟩, h4⟩
  · refine Or.inl ⟨rfl, fun a b hab => ?_⟩
    rcases (e a b).mp hab with q | ⟨rfl, rfl⟩
    · exact h a b q
    · omega
  · refine Or.inr ⟨h1, ⟨a, b, (e a b).mpr (Or.inl h2), h3⟩, fun a b hab hw => ?_⟩
    rcases (e a b).mp hab with q | ⟨rfl, rfl⟩
    · exact h4 a b q hw
    · omega
theorem Abv.new {f : Nat → Nat → Int} {w x : Int} {S T : Nat → Nat → Prop} {k i : Nat} (h : Abv f w S x) (h0 : 0 ≤ w) (e : ∀ a b, T a b ↔ S a b ∨ (a = k ∧ b = i)) (hw : w < f k i) (hc : x = -1 ∨ f k i < x) : Abv f w T (f k i) := by
  refine Or.inr ⟨hw, ⟨k, i, (e k i).mpr (Or.inr ⟨rfl, rfl⟩), rfl⟩, fun a b hab hw2 => ?_⟩
  rcases (e a b).mp hab with q | ⟨rfl, rfl⟩
  · rcases h with ⟨-, h⟩ | ⟨h1, -, h4⟩
    · have := h a b q; omega
    · have := h4 a b q hw2; omega
  · omega
theorem Abv.un {f : Nat → Nat → Int} {w x z : Int} {S : Nat → Nat → Prop} (hx : Abv f w S x) (hz : Abv f w S z) : x = z := by
  rcases hx with ⟨rfl, h⟩ | ⟨h1, ⟨a, b, h2, h3⟩, h4⟩
  · rcases hz with ⟨rfl, -⟩ | ⟨g1, ⟨a, b, g2, g3⟩, g4⟩
    · rfl
    · have := h a b g2; omega
  · rcases hz with ⟨rfl, g⟩ | ⟨g1, ⟨c, d, g2, g3⟩, g4⟩
    · have := g a b h2; omega
    · have q1 := h4 c d g2 (by omega)
      have q2 := g4 a b h2 (by omega)
      omega
def m_wd (h : AH) (g : Int) (k i : Nat) : Int := iH h (75 + (iH h (599 + g.toNat) k).toNat) i
def m_wi (h : AH) (g : Int) (k i : Nat) : Prop := (k : Int) < iH h 597 g.toNat ∧ (i : Int) < iH h 73 (iH h (599 + g.toNat) k).toNat
noncomputable def m_nx (h : AH) (g w : Int) : Int := Classical.epsilon (fun x => Abv (m_wd h g) w (m_wi h g) x)
theorem m_nx_e {h : AH} {g w x : Int} (hx : Abv (m_wd h g) w (m_wi h g) x) : m_nx h g w = x := Abv.un (Classical.epsilon_spec (p := fun x => Abv (m_wd h g) w (m_wi h g) x) ⟨x, hx⟩) hx
def b_X12_wordAbove_0 : List IE := [(.iconst (-1), 1, (-1), 0, 0, 0), (.istore_n 3, 1, 0, 0, 3, 0), (.iconst 0, 1, 0, 0, 0, 0), (.istore 4, 2, 0, 0, 4, 0)]
theorem k_X12_wordAbove_0 : ckB mX12_wordAbove 12 0 b_X12_wordAbove_0 5 = true := by decide +kernel
def b_X12_wordAbove_5 : List IE := [(.iload 4, 2, 0, 0, 4, 0), (.aload_n 0, 1, 0, 0, 0, 0), (.getfield 28, 3, 0, 12, 7, 1), (.iload_n 1, 1, 0, 0, 1, 0), (.iaload, 1, 0, 0, 0, 0)]
theorem k_X12_wordAbove_5 : ckIc mX12_wordAbove 12 5 b_X12_wordAbove_5 13 3 85 98 16 = true := by decide +kernel
def b_X12_wordAbove_16 : List IE := [(.aload_n 0, 1, 0, 0, 0, 0), (.getfield 31, 3, 0, 12, 8, 1), (.iload_n 1, 1, 0, 0, 1, 0), (.aaload, 1, 0, 0, 0, 0), (.iload 4, 2, 0, 0, 4, 0), (.iaload, 1, 0, 0, 0, 0), (.istore 5, 2, 0, 0, 5, 0), (.iconst 0, 1, 0, 0, 0, 0), (.istore 6, 2, 0, 0, 6, 0)]
theorem k_X12_wordAbove_16 : ckB mX12_wordAbove 12 16 b_X12_wordAbove_16 30 = true := by decide +kernel
def b_X12_wordAbove_30 : List IE := [(.iload 6, 2, 0, 0, 6, 0), (.aload_n 0, 1, 0, 0, 0, 0), (.getfield 13, 3, 0, 12, 2, 1), (.iload 5, 2, 0, 0, 5, 0), (.iaload, 1, 0, 0, 0, 0)]
theorem k_X12_wordAbove_30 : ckIc mX12_wordAbove 12 30 b_X12_wordAbove_30 39 3 53 92 42 = true := by decide +kernel
def b_X12_wordAbove_42 : List IE := [(.aload_n 0, 1, 0, 0, 0, 0), (.getfield 18, 3, 0, 12, 3, 1), (.iload 5, 2, 0, 0, 5, 0), (.aaload, 1, 0, 0, 0, 0), (.iload 6, 2, 0, 0, 6, 0), (.iaload, 1, 0, 0, 0, 0), (.iload_n 2, 1, 0, 0, 2, 0)]
theorem k_X12_wordAbove_42 : ckIc mX12_wordAbove 12 42 b_X12_wordAbove_42 53 5 33 86 56 = true := by decide +kernel
def b_X12_wordAbove_56 : List IE := [(.iload_n 3, 1, 0, 0, 3, 0), (.iconst (-1), 1, (-1), 0, 0, 0)]
theorem k_X12_wordAbove_56 : ckIc mX12_wordAbove 12 56 b_X12_wordAbove_56 58 0 17 75 61 = true := by decide +kernel
def b_X12_wordAbove_61 : List IE := [(.aload_n 0, 1, 0, 0, 0, 0), (.getfield 18, 3, 0, 12, 3, 1), (.iload 5, 2, 0, 0, 5, 0), (.aaload, 1, 0, 0, 0, 0), (.iload 6, 2, 0, 0, 6, 0), (.iaload, 1, 0, 0, 0, 0), (.iload_n 3, 1, 0, 0, 3, 0)]
theorem k_X12_wordAbove_61 : ckIc mX12_wordAbove 12 61 b_X12_wordAbove_61 72 3 14 86 75 = true := by decide +kernel
def b_X12_wordAbove_75 : List IE := [(.aload_n 0, 1, 0, 0, 0, 0), (.getfield 18, 3, 0, 12, 3, 1), (.iload 5, 2, 0, 0, 5, 0), (.aaload, 1, 0, 0, 0, 0), (.iload 6, 2, 0, 0, 6, 0), (.iaload, 1, 0, 0, 0, 0), (.istore_n 3, 1, 0, 0, 3, 0), (.iinc 6 1, 3, 1, 0, 6, 0)]
theorem k_X12_wordAbove_75 : ckGo mX12_wordAbove 12 75 b_X12_wordAbove_75 89 (-59) 30 = true := by decide +kernel
def b_X12_wordAbove_86 : List IE := [(.iinc 6 1, 3, 1, 0, 6, 0)]
theorem k_X12_wordAbove_86 : ckGo mX12_wordAbove 12 86 b_X12_wordAbove_86 89 (-59) 30 = true := by decide +kernel
def b_X12_wordAbove_92 : List IE := [(.iinc 4 1, 3, 1, 0, 4, 0)]
theorem k_X12_wordAbove_92 : ckGo mX12_wordAbove 12 92 b_X12_wordAbove_92 95 (-90) 5 = true := by decide +kernel
def b_X12_wordAbove_98 : List IE := [(.iload_n 3, 1, 0, 0, 3, 0)]
theorem k_X12_wordAbove_98 : ckI mX12_wordAbove 12 98 b_X12_wordAbove_98 99 = true := by decide +kernel
theorem t_X12_wordAbove_0 {rc rs : Nat} {Q : Option AV → AH → Prop} {h : AH} {x1 x2 : Int} (hL : LayM h) (hv : wp mX12_wordAbove 0 rc rs Q 5 [some (vr 71), some (vi x1), some (vi x2), some (vi (-1)), some (vi 0), none, none] [] h) : wp mX12_wordAbove 0 rc rs Q 0 [some (vr 71), some (vi x1), some (vi x2), none, none, none, none] [] h :=
  (show wp mX12_wordAbove 0 rc rs Q 0 [some (vr 71), some (vi x1), some (vi x2), none, none, none, none] [] h from xB k_X12_wordAbove_0 (And.intro rfl (And.intro rfl hv)))
theorem e_X12_wordAbove {mc ms : Nat} {Q : Option AV → AH → Prop} {h : AH} {x1 x2 : Int} (hL : LayM h) (hv : wp mX12_wordAbove 0 mc ms Q 5 [some (vr 71), some (vi x1), some (vi x2), some (vi (-1)), some (vi 0), none, none] [] h) : Ct 0 mc ms mX12_wordAbove [vr 71, vi x1, vi x2] h Q := Ct.of (by decide +kernel) (Nat.le_of_ble_eq_true rfl) (t_X12_wordAbove_0 hL hv)
theorem t_X12_wordAbove_5 {rc rs : Nat} {Q : Option AV → AH → Prop} {h : AH} {x1 x2 x3 x4 : Int} (hL : LayM h) (hv : (0 ≤ x1 ∧ x1 < 520) ∧ (((iH h 597 x1.toNat) ≤ x4 → Q (some (vi x3)) h) ∧ (x4 < (iH h 597 x1.toNat) → (0 ≤ x4 ∧ x4 < 64) ∧ wp mX12_wordAbove 0 rc rs Q 30 [some (vr 71), some (vi x1), some (vi x2), some (vi x3), some (vi x4), some (vi (iH h (599 + x1.toNat) x4.toNat)), some (vi 0)] [] h))) : wp mX12_wordAbove 0 rc rs Q 5 [some (vr 71), some (vi x1), some (vi x2), some (vi x3), some (vi x4), none, none] [] h :=
  (show wp mX12_wordAbove 0 rc rs Q 5 [some (vr 71), some (vi x1), some (vi x2), some (vi x3), some (vi x4), none, none] [] h from xIc k_X12_wordAbove_5 (And.intro (lm_71 hL) (Exists.intro 597 (And.intro (lf_71_7 hL) (have c1 := hv.1; have v9 := hv.2; (And.intro (sdI (lm_597 hL) c1) (And.intro (fun c2 => have v4 := v9.1 c2; (show wp mX12_wordAbove 0 rc rs Q 98 [some (vr 71), some (vi x1), some (vi x2), some (vi x3), some (vi x4), none, none] [] h from xI k_X12_wordAbove_98 (And.intro rfl v4))) (fun c3 => have v5 := v9.2 (Int.not_le.mp c3); (show wp mX12_wordAbove 0 rc rs Q 16 [some (vr 71), some (vi x1), some (vi x2), some (vi x3), some (vi x4), none, none] [] h from xB k_X12_wordAbove_16 (And.intro (lm_71 hL) (Exists.intro 598 (And.intro (lf_71_8 hL) (And.intro (sdQ (lm_598 hL) c1) (Exists.intro (599 + x1.toNat) (And.intro (lr_members hL (tnl c1)) (have c7 := v5.1; have v8 := v5.2; (And.intro (sdI (lk_members hL (tnl c1)) c7) (And.intro rfl (And.intro rfl v8)))))))))))))))))))
theorem t_X12_wordAbove_30 {rc rs : Nat} {Q : Option AV → AH → Prop} {h : AH} {x1 x2 x3 x4 x5 x6 : Int} (hL : LayM h) (hv : (0 ≤ x5 ∧ x5 < 520) ∧ (((iH h 73 x5.toNat) ≤ x6 → (-2147483648 ≤ (x4 + 1) ∧ (x4 + 1) < 2147483648) ∧ wp mX12_wordAbove 0 rc rs Q 5 [some (vr 71), some (vi x1), some (vi x2), some (vi x3), some (vi (x4 + 1)), none, none] [] h) ∧ (x6 < (iH h 73 x5.toNat) → (0 ≤ x6 ∧ x6 < 12) ∧ (((iH h (75 + x5.toNat) x6.toNat) ≤ x2 → (-2147483648 ≤ (x6 + 1) ∧ (x6 + 1) < 2147483648) ∧ wp mX12_wordAbove 0 rc rs Q 30 [some (vr 71), some (vi x1), some (vi x2), some (vi x3), some (vi x4), some (vi x5), some (vi (x6 + 1))] [] h) ∧ (x2 < (iH h (75 + x5.toNat) x6.toNat) → ((x3 = (-1) → (-2147483648 ≤ (x6 + 1) ∧ (x6 + 1) < 2147483648) ∧ wp mX12_wordAbove 0 rc rs Q 30 [some (vr 71), some (vi x1), some (vi x2), some (vi (iH h (75 + x5.toNat) x6.toNat)), some (vi x4), some (vi x5), some (vi (x6 + 1))] [] h) ∧ (x3 ≠ (-1) → ((x3 ≤ (iH h (75 + x5.toNat) x6.toNat) → (-2147483648 ≤ (x6 + 1) ∧ (x6 + 1) < 2147483648) ∧ wp mX12_wordAbove 0 rc rs Q 30 [some (vr 71), some (vi x1), some (vi x2), some (vi x3), some (vi x4), some (vi x5), some (vi (x6 + 1))] [] h) ∧ ((iH h (75 + x5.toNat) x6.toNat) < x3 → (-2147483648 ≤ (x6 + 1) ∧ (x6 + 1) < 2147483648) ∧ wp mX12_wordAbove 0 rc rs Q 30 [some (vr 71), some (vi x1), some (vi x2), some (vi (iH h (75 + x5.toNat) x6.toNat)), some (vi x4), some (vi x5), some (vi (x6 + 1))] [] h))))))))) : wp mX12_wordAbove 0 rc rs Q 30 [some (vr 71), some (vi x1), some (vi x2), some (vi x3), some (vi x4), some (vi x5), some (vi x6)] [] h :=
  (show wp mX12_wordAbove 0 rc rs Q 30 [some (vr 71), some (vi x1), some (vi x2), some (vi x3), some (vi x4), some (vi x5), some (vi x6)] [] h from xIc k_X12_wordAbove_30 (And.intro (lm_71 hL) (Exists.intro 73 (And.intro (lf_71_2 hL) (have c1 := hv.1; have v37 := hv.2; (And.intro (sdI (lm_73 hL) c1) (And.intro (fun c2 => have v4 := v37.1 c2; (show wp mX12_wordAbove 0 rc rs Q 92 [some (vr 71), some (vi x1), some (vi x2), some (vi x3), some (vi x4), some (vi x5), some (vi x6)] [] h from xGo k_X12_wordAbove_92 (have c6 := v4.1; have v7 := v4.2; (And.intro c6 (And.intro rfl (w_fg [true, true, true, true, true, false, false] v7)))))) (fun c3 => have v5 := v37.2 (Int.not_le.mp c3); (show wp mX12_wordAbove 0 rc rs Q 42 [some (vr 71), some (vi x1), some (vi x2), some (vi x3), some (vi x4), some (vi x5), some (vi x6)] [] h from xIc k_X12_wordAbove_42 (And.intro (lm_71 hL) (Exists.intro 74 (And.intro (lf_71_3 hL) (And.intro (sdQ (lm_74 hL) c1) (Exists.intro (75 + x5.toNat) (And.intro (lr_words hL (tnl c1)) (have c9 := v5.1; have v36 := v5.2; (And.intro (sdI (lk_words hL (tnl c1)) c9) (And.intro (fun c10 => have v12 := v36.1 c10; (show wp mX12_wordAbove 0 rc rs Q 86 [some (vr 71), some (vi x1), some (vi x2), some (vi x3), some (vi x4), some (vi x5), some (vi x6)] [] h from xGo k_X12_wordAbove_86 (have c14 := v12.1; have v15 := v12.2; (And.intro c14 (And.intro rfl v15))))) (fun c11 => have v13 := v36.2 (Int.not_le.mp c11); (show wp mX12_wordAbove 0 rc rs Q 56 [some (vr 71), some (vi x1), some (vi x2), some (vi x3), some (vi x4), some (vi x5), some (vi x6)] [] h from xIc k_X12_wordAbove_56 (And.intro (fun c16 => have v18 := v13.1 c16; (show wp mX12_wordAbove 0 rc rs Q 75 [some (vr 71), some (vi x1), some (vi x2), some (vi x3), some (vi x4), some (vi x5), some (vi x6)] [] h from xGo k_X12_wordAbove_75 (And.intro (lm_71 hL) (Exists.intro 74 (And.intro (lf_71_3 hL) (And.intro (sdQ (lm_74 hL) c1) (Exists.intro (75 + x5.toNat) (And.intro (lr_words hL (tnl c1)) (And.intro (sdI (lk_words hL (tnl c1)) c9) (And.intro rfl (have c22 := v18.1; have v23 := v18.2; (And.intro c22 (And.intro rfl v23))))))))))))) (fun c17 => have v19 := v13.2 c17; (show wp mX12_wordAbove 0 rc rs Q 61 [some (vr 71), some (vi x1), some (vi x2), some (vi x3), some (vi x4), some (vi x5), some (vi x6)] [] h from xIc k_X12_wordAbove_61 (And.intro (lm_71 hL) (Exists.intro 74 (And.intro (lf_71_3 hL) (And.intro (sdQ (lm_74 hL) c1) (Exists.intro (75 + x5.toNat) (And.intro (lr_words hL (tnl c1)) (And.intro (sdI (lk_words hL (tnl c1)) c9) (And.intro (fun c26 => have v28 := v19.1 c26; (show wp mX12_wordAbove 0 rc rs Q 86 [some (vr 71), some (vi x1), some (vi x2), some (vi x3), some (vi x4), some (vi x5), some (vi x6)] [] h from xGo k_X12_wordAbove_86 (have c30 := v28.1; have v31 := v28.2; (And.intro c30 (And.intro rfl v31))))) (fun c27 => have v29 := v19.2 (Int.not_le.mp c27); (show wp mX12_wordAbove 0 rc rs Q 75 [some (vr 71), some (vi x1), some (vi x2), some (vi x3), some (vi x4), some (vi x5), some (vi x6)] [] h from xGo k_X12_wordAbove_75 (And.intro (lm_71 hL) (Exists.intro 74 (And.intro (lf_71_3 hL) (And.intro (sdQ (lm_74 hL) c1) (Exists.intro (75 + x5.toNat) (And.intro (lr_words hL (tnl c1)) (And.intro (sdI (lk_words hL (tnl c1)) c9) (And.intro rfl (have c34 := v29.1; have v35 := v29.2; (And.intro c34 (And.intro rfl v35))))))))))))))))))))))))))))))))))))))))))))
theorem c_wordAbove {h : AH} (hL : LayM h) {g w : Int} (hg' : m_segd h g ∧ 0 ≤ w) : Ct 0 0 0 mX12_wordAbove [vr 71, vi g, vi w] h (QI fun x h' => x = m_nx h g w ∧ h' = h) := by
  obtain ⟨hg, h0⟩ := hg'
  have hl := hg.1.2.1
  refine e_X12_wordAbove hL (up (P := fun k => ∀ x, Abv (m_wd h g) w (fun a b => m_wi h g a b ∧ a < k) x → wp mX12_wordAbove 0 _ _ _ 5 [some (vr 71), some (vi g), some (vi w), some (vi x), some (vi k), none, none] [] h) (iH h 597 g.toNat).toNat ?_ ?_ (-1) (Or.inl ⟨rfl, fun k i q => by omega⟩))
  · intro x hx
    refine t_X12_wordAbove_5 hL ⟨hg.1.1, fun _ => ⟨_, rfl, (m_nx_e (hx.cg fun a b => ⟨fun q => q.1, fun q => ⟨q, by have := q.1; omega⟩⟩)).symm, rfl⟩, fun c => absurd c (by omega)⟩
  · intro k hk ih x hx
    refine t_X12_wordAbove_5 hL ⟨hg.1.1, fun c => absurd c (by omega), fun c => ⟨by omega, ?_⟩⟩
    have hd := hg.2 k c
    have hs := hd.2.1
    refine up (P := fun i => ∀ x, Abv (m_wd h g) w (fun a b => m_wi h g a b ∧ (a < k ∨ (a = k ∧ b < i))) x → wp mX12_wordAbove 0 _ _ _ 30 [some (vr 71), some (vi g), some (vi w), some (vi x), some (vi k), some (vi (iH h (599 + g.toNat) k)), some (vi i)] [] h) (iH h 73 (iH h (599 + g.toNat) k).toNat).toNat ?_ ?_ x (hx.cg fun a b => ⟨fun q => ⟨q.1, Or.inl q.2⟩, fun q => ⟨q.1, by omega⟩⟩)
    · intro x hx
      refine t_X12_wordAbove_30 hL ⟨hd.1, fun _ => ⟨by omega, ih x (hx.cg fun a b => ⟨fun q => ⟨q.1, by omega⟩, fun q => ⟨q.1, ?_⟩⟩)⟩, fun c => absurd c (by omega)⟩
      have h1 := q.1.2
      by_cases e : a = k
      · subst e; exact Or.inr ⟨rfl, by omega⟩
      · exact Or.inl (by omega)
    · intro i hi ih2 x hx
      have e : ∀ a b, (m_wi h g a b ∧ (a < k ∨ (a = k ∧ b < i + 1))) ↔ (m_wi h g a b ∧ (a < k ∨ (a = k ∧ b < i))) ∨ (a = k ∧ b = i) := by
        intro a b
        constructor
        · rintro ⟨q1, q2⟩
          by_cases e : a = k ∧ b = i
          · exact Or.inr e
          · exact Or.inl ⟨q1, by omega⟩
        · rintro (⟨q1, q2⟩ | ⟨rfl, rfl⟩)
          · exact ⟨q1, by omega⟩
          · exact ⟨⟨c, by omega⟩, by omega⟩
      refine t_X12_wordAbove_30 hL ⟨hd.1, fun c => absurd c (by omega), fun c => ⟨by omega, fun c2 => ⟨by omega, ih2 x (hx.old e (Or.inl c2))⟩, fun c2 => ⟨fun c3 => ⟨by omega, ih2 _ (hx.new h0 e c2 (Or.inl c3))⟩, fun c3 => ⟨fun c4 => ⟨by omega, ih2 x (hx.old e (Or.inr ⟨c3, c4⟩))⟩, fun c4 => ⟨by omega, ih2 _ (hx.new h0 e c2 (Or.inr c4))⟩⟩⟩⟩⟩
def b_X12_size_0 : List IE := [(.aload_n 0, 1, 0, 0, 0, 0), (.getfield 48, 3, 0, 12, 14, 1), (.iload_n 1, 1, 0, 0, 1, 0), (.iaload, 1, 0, 0, 0, 0), (.istore_n 2, 1, 0, 0, 2, 0), (.aload_n 0, 1, 0, 0, 0, 0), (.getfield 197, 3, 0, 12, 21, 0), (.iconst 2, 1, 2, 0, 0, 0)]
theorem k_X12_size_0 : ckIc mX12_size 12 0 b_X12_size_0 12 1 9 21 15 = true := by decide +kernel
def b_X12_size_15 : List IE := [(.aload_n 0, 1, 0, 0, 0, 0), (.iload_n 2, 1, 0, 0, 2, 0)]
theorem k_X12_size_15 : ckB mX12_size 12 15 b_X12_size_15 17 = true := by decide +kernel
def b_X12_size_20 : List IE := []
theorem k_X12_size_20 : ckI mX12_size 12 20 b_X12_size_20 20 = true := by decide +kernel
def b_X12_size_21 : List IE := [(.aload_n 0, 1, 0, 0, 0, 0), (.getfield 197, 3, 0, 12, 21, 0), (.iconst 4, 1, 4, 0, 0, 0)]
theorem k_X12_size_21 : ckIc mX12_size 12 21 b_X12_size_21 26 1 20 46 29 = true := by decide +kernel
def b_X12_size_29 : List IE := [(.iconst 0, 1, 0, 0, 0, 0), (.aload_n 0, 1, 0, 0, 0, 0), (.iload_n 2, 1, 0, 0, 2, 0)]
theorem k_X12_size_29 : ckB mX12_size 12 29 b_X12_size_29 32 = true := by decide +kernel
def b_X12_size_35 : List IE := [(.aload_n 0, 1, 0, 0, 0, 0), (.getfield 203, 3, 0, 12, 22, 0), (.isub, 1, 0, 0, 0, 0)]
theorem k_X12_size_35 : ckB mX12_size 12 35 b_X12_size_35 40 = true := by decide +kernel
def b_X12_size_43 : List IE := []
theorem k_X12_size_43 : ckGo mX12_size 12 43 b_X12_size_43 43 9 52 = true := by decide +kernel
def b_X12_size_46 : List IE := [(.aload_n 0, 1, 0, 0, 0, 0), (.getfield 28, 3, 0, 12, 7, 1), (.iload_n 2, 1, 0, 0, 2, 0), (.iaload, 1, 0, 0, 0, 0)]
theorem k_X12_size_46 : ckI mX12_size 12 46 b_X12_size_46 52 = true := by decide +kernel
def b_X12_size_52 : List IE := []
theorem k_X12_size_52 : ckI mX12_size 12 52 b_X12_size_52 52 = true := by decide +kernel
theorem s_X12_size_17 : cV mX12_size 17 mX12_liveOf 200 1 12 := ⟨by decide +kernel, ⟨ml_X12_liveOf, li_RX12_200, im_X12_liveOf, se_X12_liveOf⟩, ⟨by decide +kernel, by decide +kernel⟩, by decide +kernel⟩
theorem s_X12_size_32 : cV mX12_size 32 mX12_liveOf 200 1 12 := ⟨by decide +kernel, ⟨ml_X12_liveOf, li_RX12_200, im_X12_liveOf, se_X12_liveOf⟩, ⟨by decide +kernel, by decide +kernel⟩, by decide +kernel⟩
theorem s_X12_size_40 : cMx mX12_size 40 206 Lib.Math.max.name Lib.Math.max.code 2 := ⟨by decide +kernel, gt_ok (List.mem_of_getElem? (i := 1255) (by decide +kernel)) (by decide +kernel), gt_ok (List.mem_of_getElem? (i := 499) (by decide +kernel)) (by decide +kernel), gt_ok (List.mem_of_getElem? (i := 104) (by decide +kernel)) (by decide +kernel), gt_ok (List.mem_of_getElem? (i := 500) (by decide +kernel)) (by decide +kernel)⟩
theorem t_X12_size_0 {rc rs : Nat} {Q : Option AV → AH → Prop} {h : AH} {x1 : Int} (hL : LayM h) (hv : (0 ≤ x1 ∧ x1 < 8) ∧ (((iH h 71 21) ≠ 2 → (((iH h 71 21) ≠ 4 → (0 ≤ iH h 1137 x1.toNat ∧ iH h 1137 x1.toNat < 520) ∧ Q (some (vi (iH h 597 ((iH h 1137 x1.toNat).toNat)))) h) ∧ ((iH h 71 21) = 4 → (m_seg h (iH h 1137 x1.toNat)) ∧ (-2147483648 ≤ ((m_live h (iH h 1137 x1.toNat)) - iH h 71 22) ∧ ((m_live h (iH h 1137 x1.toNat)) - iH h 71 22) < 2147483648) ∧ Q (some (vi (max 0 ((m_live h (iH h 1137 x1.toNat)) - iH h 71 22)))) h))) ∧ ((iH h 71 21) = 2 → (m_seg h (iH h 1137 x1.toNat)) ∧ Q (some (vi (m_live h (iH h 1137 x1.toNat)))) h))) : wp mX12_size 1 rc rs Q 0 [some (vr 71), some (vi x1), none] [] h :=
  (show wp mX12_size 1 rc rs Q 0 [some (vr 71), some (vi x1), none] [] h from xIc k_X12_size_0 (And.intro (lm_71 hL) (Exists.intro 1137 (And.intro (lf_71_14 hL) (have c1 := hv.1; have v20 := hv.2; (And.intro (sdI (lm_1137 hL) c1) (And.intro rfl (And.intro (lm_71 hL) (And.intro (fun c2 => have v4 := v20.1 c2; (show wp mX12_size 1 rc rs Q 21 [some (vr 71), some (vi x1), some (vi (iH h 1137 x1.toNat))] [] h from xIc k_X12_size_21 (And.intro (lm_71 hL) (And.intro (fun c6 => have v8 := v4.1 c6; (show wp mX12_size 1 rc rs Q 46 [some (vr 71), some (vi x1), some (vi (iH h 1137 x1.toNat))] [] h from xI k_X12_size_46 (And.intro (lm_71 hL) (Exists.intro 597 (And.intro (lf_71_7 hL) (have c10 := v8.1; have v11 := v8.2; (And.intro (sdI (lm_597 hL) c10) (And.intro rfl v11)))))))) (fun c7 => have v9 := v4.2 (Decidable.not_not.mp c7); (show wp mX12_size 1 rc rs Q 29 [some (vr 71), some (vi x1), some (vi (iH h 1137 x1.toNat))] [] h from xcV k_X12_size_29 s_X12_size_32 (have c14 := v9.1; have v15 := v9.2; (Exists.intro [vi (iH h 1137 x1.toNat)] (Exists.intro 71 (Exists.intro [vi 0] (And.intro (And.intro rfl (And.intro rfl (Nat.le_of_ble_eq_true rfl))) (And.intro (lm_71 hL) (Exists.intro 0 (Exists.intro 0 (Exists.intro 0 (Exists.intro _ (And.intro (c_liveOf hL c14) (And.intro (And.intro (by decide) (And.intro (Nat.zero_le _) (Nat.zero_le _))) (eQP (show wp mX12_size 1 rc rs Q 35 [some (vr 71), some (vi x1), some (vi (iH h 1137 x1.toNat))] [vi (m_live h (iH h 1137 x1.toNat)), vi 0] h from xMax k_X12_size_35 s_X12_size_40 (And.intro (lm_71 hL) (have c12 := v15.1; have v13 := v15.2; (And.intro c12 (And.intro (And.intro (Nat.le_of_ble_eq_true rfl) (Nat.le_of_ble_eq_true rfl)) (show wp mX12_size 1 rc rs Q 43 [some (vr 71), some (vi x1), some (vi (iH h 1137 x1.toNat))] [vi (max 0 ((m_live h (iH h 1137 x1.toNat)) - iH h 71 22))] h from xGo k_X12_size_43 (show wp mX12_size 1 rc rs Q 52 [some (vr 71), some (vi x1), some (vi (iH h 1137 x1.toNat))] [vi (max 0 ((m_live h (iH h 1137 x1.toNat)) - iH h 71 22))] h from xI k_X12_size_52 (And.intro rfl v13))))))))))))))))))))))))))) (fun c3 => have v5 := v20.2 (Decidable.not_not.mp c3); (show wp mX12_size 1 rc rs Q 15 [some (vr 71), some (vi x1), some (vi (iH h 1137 x1.toNat))] [] h from xcV k_X12_size_15 s_X12_size_17 (have c17 := v5.1; have v18 := v5.2; (Exists.intro [vi (iH h 1137 x1.toNat)] (Exists.intro 71 (Exists.intro [] (And.intro (And.intro rfl (And.intro rfl (Nat.le_of_ble_eq_true rfl))) (And.intro (lm_71 hL) (Exists.intro 0 (Exists.intro 0 (Exists.intro 0 (Exists.intro _ (And.intro (c_liveOf hL c17) (And.intro (And.intro (by decide) (And.intro (Nat.zero_le _) (Nat.zero_le _))) (eQP (show wp mX12_size 1 rc rs Q 20 [some (vr 71), some (vi x1), some (vi (iH h 1137 x1.toNat))] [vi (m_live h (iH h 1137 x1.toNat))] h from xI k_X12_size_20 (And.intro rfl v18))))))))))))))))))))))))))
theorem e_X12_size {mc ms : Nat} {Q : Option AV → AH → Prop} {h : AH} {x1 : Int} (hL : LayM h) (hv : (0 ≤ x1 ∧ x1 < 8) ∧ (((iH h 71 21) ≠ 2 → (((iH h 71 21) ≠ 4 → (0 ≤ iH h 1137 x1.toNat ∧ iH h 1137 x1.toNat < 520) ∧ Q (some (vi (iH h 597 ((iH h 1137 x1.toNat).toNat)))) h) ∧ ((iH h 71 21) = 4 → (m_seg h (iH h 1137 x1.toNat)) ∧ (-2147483648 ≤ ((m_live h (iH h 1137 x1.toNat)) - iH h 71 22) ∧ ((m_live h (iH h 1137 x1.toNat)) - iH h 71 22) < 2147483648) ∧ Q (some (vi (max 0 ((m_live h (iH h 1137 x1.toNat)) - iH h 71 22)))) h))) ∧ ((iH h 71 21) = 2 → (m_seg h (iH h 1137 x1.toNat)) ∧ Q (some (vi (m_live h (iH h 1137 x1.toNat)))) h))) : Ct 1 mc ms mX12_size [vr 71, vi x1] h Q := Ct.of (by decide +kernel) (Nat.le_of_ble_eq_true rfl) (t_X12_size_0 hL hv)
noncomputable def m_size (h : AH) (s : Int) : Int := if iH h 71 21 = 2 then m_live h (iH h 1137 s.toNat) else if iH h 71 21 = 4 then max 0 (m_live h (iH h 1137 s.toNat) - iH h 71 22) else iH h 597 (iH h 1137 s.toNat).toNat
def m_sz (h : AH) (s : Int) : Prop := (0 ≤ s ∧ s < 8) ∧ m_seg h (iH h 1137 s.toNat) ∧ (0 ≤ iH h 71 22 ∧ iH h 71 22 ≤ 9)
theorem m_size_bd {h : AH} {s : Int} (hs : m_sz h s) : 0 ≤ m_size h s ∧ m_size h s ≤ 64 := by
  have h1 := m_live_bd hs.2.1
  have h2 := hs.2.1.2.1
  have h3 := hs.2.2
  unfold m_size
  split
  · omega
  · split <;> omega
theorem c_size {h : AH} (hL : LayM h) {s : Int} (hs : m_sz h s) : Ct 1 0 0 mX12_size [vr 71, vi s] h (QI fun x h' => x = m_size h s ∧ h' = h) := by
  have h1 := m_live_bd hs.2.1
  have h2 := hs.2.1.2.1
  have h3 := hs.2.2
  refine e_X12_size hL ⟨hs.1, fun c => ⟨fun c2 => ⟨hs.2.1.1, _, rfl, ?_, rfl⟩, fun c2 => ⟨hs.2.1, by omega, _, rfl, ?_, rfl⟩⟩, fun c => ⟨hs.2.1, _, rfl, ?_, rfl⟩⟩
  · unfold m_size; rw [if_neg c, if_neg c2]
  · unfold m_size; rw [if_neg c, if_pos c2]
  · unfold m_size; rw [if_pos c]
def b_X12_tier_0 : List IE := [(.aload_n 0, 1, 0, 0, 0, 0), (.iload_n 1, 1, 0, 0, 1, 0)]
theorem k_X12_tier_0 : ckB mX12_tier 12 0 b_X12_tier_0 2 = true := by decide +kernel
def b_X12_tier_5 : List IE := [(.istore_n 2, 1, 0, 0, 2, 0), (.iload_n 2, 1, 0, 0, 2, 0), (.iconst 2, 1, 2, 0, 0, 0)]
theorem k_X12_tier_5 : ckIc mX12_tier 12 5 b_X12_tier_5 8 4 7 15 11 = true := by decide +kernel
def b_X12_tier_11 : List IE := [(.iconst 0, 1, 0, 0, 0, 0)]
theorem k_X12_tier_11 : ckGo mX12_tier 12 11 b_X12_tier_11 12 24 36 = true := by decide +kernel
def b_X12_tier_15 : List IE := [(.iload_n 2, 1, 0, 0, 2, 0), (.bipush 6, 2, 6, 0, 0, 0)]
theorem k_X12_tier_15 : ckIc mX12_tier 12 15 b_X12_tier_15 18 4 7 25 21 = true := by decide +kernel
def b_X12_tier_21 : List IE := [(.iconst 1, 1, 1, 0, 0, 0)]
theorem k_X12_tier_21 : ckGo mX12_tier 12 21 b_X12_tier_21 22 14 36 = true := by decide +kernel
def b_X12_tier_25 : List IE := [(.iload_n 2, 1, 0, 0, 2, 0), (.bipush 14, 2, 14, 0, 0, 0)]
theorem k_X12_tier_25 : ckIc mX12_tier 12 25 b_X12_tier_25 28 4 7 35 31 = true := by decide +kernel
def b_X12_tier_31 : List IE := [(.iconst 2, 1, 2, 0, 0, 0)]
theorem k_X12_tier_31 : ckGo mX12_tier 12 31 b_X12_tier_31 32 4 36 = true := by decide +kernel
def b_X12_tier_35 : List IE := [(.iconst 3, 1, 3, 0, 0, 0)]
theorem k_X12_tier_35 : ckI mX12_tier 12 35 b_X12_tier_35 36 = true := by decide +kernel
def b_X12_tier_36 : List IE := []
theorem k_X12_tier_36 : ckI mX12_tier 12 36 b_X12_tier_36 36 = true := by decide +kernel
theorem s_X12_tier_2 : cV mX12_tier 2 mX12_size 211 1 12 := ⟨by decide +kernel, ⟨ml_X12_size, li_RX12_211, im_X12_size, se_X12_size⟩, ⟨by decide +kernel, by decide +kernel⟩, by decide +kernel⟩
theorem t_X12_tier_0 {rc rs : Nat} {Q : Option AV → AH → Prop} {h : AH} {x1 : Int} (hL : LayM h) (hv : (m_sz h x1) ∧ ((2 < (m_size h x1) → ((6 < (m_size h x1) → ((14 < (m_size h x1) → Q (some (vi 3)) h) ∧ ((m_size h x1) ≤ 14 → Q (some (vi 2)) h))) ∧ ((m_size h x1) ≤ 6 → Q (some (vi 1)) h))) ∧ ((m_size h x1) ≤ 2 → Q (some (vi 0)) h))) : wp mX12_tier 2 rc rs Q 0 [some (vr 71), some (vi x1), none] [] h :=
  (show wp mX12_tier 2 rc rs Q 0 [some (vr 71), some (vi x1), none] [] h from xcV k_X12_tier_0 s_X12_tier_2 (have c13 := hv.1; have v14 := hv.2; (Exists.intro [vi x1] (Exists.intro 71 (Exists.intro [] (And.intro (And.intro rfl (And.intro rfl (Nat.le_of_ble_eq_true rfl))) (And.intro (lm_71 hL) (Exists.intro 1 (Exists.intro 0 (Exists.intro 0 (Exists.intro _ (And.intro (c_size hL c13) (And.intro (And.intro (by decide) (And.intro (Nat.zero_le _) (Nat.zero_le _))) (eQP (show wp mX12_tier 2 rc rs Q 5 [some (vr 71), some (vi x1), none] [vi (m_size h x1)] h from xIc k_X12_tier_5 (And.intro rfl (And.intro (fun c1 => have v3 := v14.1 c1; (show wp mX12_tier 2 rc rs Q 15 [some (vr 71), some (vi x1), some (vi (m_size h x1))] [] h from xIc k_X12_tier_15 (And.intro (fun c5 => have v7 := v3.1 c5; (show wp mX12_tier 2 rc rs Q 25 [some (vr 71), some (vi x1), some (vi (m_size h x1))] [] h from xIc k_X12_tier_25 (And.intro (fun c9 => have v11 := v7.1 c9; (show wp mX12_tier 2 rc rs Q 35 [some (vr 71), some (vi x1), some (vi (m_size h x1))] [] h from xI k_X12_tier_35 (And.intro rfl v11))) (fun c10 => have v12 := v7.2 (Int.not_lt.mp c10); (show wp mX12_tier 2 rc rs Q 31 [some (vr 71), some (vi x1), some (vi (m_size h x1))] [] h from xGo k_X12_tier_31 (show wp mX12_tier 2 rc rs Q 36 [some (vr 71), some (vi x1), some (vi (m_size h x1))] [vi 2] h from xI k_X12_tier_36 (And.intro rfl v12))))))) (fun c6 => have v8 := v3.2 (Int.not_lt.mp c6); (show wp mX12_tier 2 rc rs Q 21 [some (vr 71), some (vi x1), some (vi (m_size h x1))] [] h from xGo k_X12_tier_21 (show wp mX12_tier 2 rc rs Q 36 [some (vr 71), some (vi x1), some (vi (m_size h x1))] [vi 1] h from xI k_X12_tier_36 (And.intro rfl v8))))))) (fun c2 => have v4 := v14.2 (Int.not_lt.mp c2); (show wp mX12_tier 2 rc rs Q 11 [some (vr 71), some (vi x1), some (vi (m_size h x1))] [] h from xGo k_X12_tier_11 (show wp mX12_tier 2 rc rs Q 36 [some (vr 71), some (vi x1), some (vi (m_size h x1))] [vi 0] h from xI k_X12_tier_36 (And.intro rfl v4)))))))))))))))))))))
theorem e_X12_tier {mc ms : Nat} {Q : Option AV → AH → Prop} {h : AH} {x1 : Int} (hL : LayM h) (hv : (m_sz h x1) ∧ ((2 < (m_size h x1) → ((6 < (m_size h x1) → ((14 < (m_size h x1) → Q (some (vi 3)) h) ∧ ((m_size h x1) ≤ 14 → Q (some (vi 2)) h))) ∧ ((m_size h x1) ≤ 6 → Q (some (vi 1)) h))) ∧ ((m_size h x1) ≤ 2 → Q (some (vi 0)) h))) : Ct 2 mc ms mX12_tier [vr 71, vi x1] h Q := Ct.of (by decide +kernel) (Nat.le_of_ble_eq_true rfl) (t_X12_tier_0 hL hv)
def b_X12_liveIn_0 : List IE := [(.iconst 0, 1, 0, 0, 0, 0), (.istore_n 3, 1, 0, 0, 3, 0), (.iload_n 1, 1, 0, 0, 1, 0), (.istore 4, 2, 0, 0, 4, 0)]
theorem k_X12_liveIn_0 : ckB mX12_liveIn 12 0 b_X12_liveIn_0 5 = true := by decide +kernel
def b_X12_liveIn_5 : List IE := [(.iload 4, 2, 0, 0, 4, 0), (.iload_n 1, 1, 0, 0, 1, 0), (.iload_n 2, 1, 0, 0, 2, 0), (.iadd, 1, 0, 0, 0, 0)]
theorem k_X12_liveIn_5 : ckIc mX12_liveIn 12 5 b_X12_liveIn_5 10 3 23 33 13 = true := by decide +kernel
def b_X12_liveIn_13 : List IE := [(.iload_n 3, 1, 0, 0, 3, 0), (.aload_n 0, 1, 0, 0, 0, 0), (.aload_n 0, 1, 0, 0, 0, 0), (.getfield 48, 3, 0, 12, 14, 1), (.iload 4, 2, 0, 0, 4, 0), (.iaload, 1, 0, 0, 0, 0)]
theorem k_X12_liveIn_13 : ckB mX12_liveIn 12 13 b_X12_liveIn_13 22 = true := by decide +kernel
def b_X12_liveIn_25 : List IE := [(.iadd, 1, 0, 0, 0, 0), (.istore_n 3, 1, 0, 0, 3, 0), (.iinc 4 1, 3, 1, 0, 4, 0)]
theorem k_X12_liveIn_25 : ckGo mX12_liveIn 12 25 b_X12_liveIn_25 30 (-25) 5 = true := by decide +kernel
def b_X12_liveIn_33 : List IE := [(.iload_n 3, 1, 0, 0, 3, 0)]
theorem k_X12_liveIn_33 : ckI mX12_liveIn 12 33 b_X12_liveIn_33 34 = true := by decide +kernel
theorem s_X12_liveIn_22 : cV mX12_liveIn 22 mX12_liveOf 200 1 12 := ⟨by decide +kernel, ⟨ml_X12_liveOf, li_RX12_200, im_X12_liveOf, se_X12_liveOf⟩, ⟨by decide +kernel, by decide +kernel⟩, by decide +kernel⟩
theorem t_X12_liveIn_0 {rc rs : Nat} {Q : Option AV → AH → Prop} {h : AH} {x1 x2 : Int} (hL : LayM h) (hv : wp mX12_liveIn 1 rc rs Q 5 [some (vr 71), some (vi x1), some (vi x2), some (vi 0), some (vi x1)] [] h) : wp mX12_liveIn 1 rc rs Q 0 [some (vr 71), some (vi x1), some (vi x2), none, none] [] h :=
  (show wp mX12_liveIn 1 rc rs Q 0 [some (vr 71), some (vi x1), some (vi x2), none, none] [] h from xB k_X12_liveIn_0 (And.intro rfl (And.intro rfl hv)))
theorem e_X12_liveIn {mc ms : Nat} {Q : Option AV → AH → Prop} {h : AH} {x1 x2 : Int} (hL : LayM h) (hv : wp mX12_liveIn 1 mc ms Q 5 [some (vr 71), some (vi x1), some (vi x2), some (vi 0), some (vi x1)] [] h) : Ct 1 mc ms mX12_liveIn [vr 71, vi x1, vi x2] h Q := Ct.of (by decide +kernel) (Nat.le_of_ble_eq_true rfl) (t_X12_liveIn_0 hL hv)
theorem t_X12_liveIn_5 {rc rs : Nat} {Q : Option AV → AH → Prop} {h : AH} {x1 x2 x3 x4 : Int} (hL : LayM h) (hv : (-2147483648 ≤ (x1 + x2) ∧ (x1 + x2) < 2147483648) ∧ (((x1 + x2) ≤ x4 → Q (some (vi x3)) h) ∧ (x4 < (x1 + x2) → (0 ≤ x4 ∧ x4 < 8) ∧ (m_seg h (iH h 1137 x4.toNat)) ∧ (-2147483648 ≤ (x3 + (m_live h (iH h 1137 x4.toNat))) ∧ (x3 + (m_live h (iH h 1137 x4.toNat))) < 2147483648) ∧ (-2147483648 ≤ (x4 + 1) ∧ (x4 + 1) < 2147483648) ∧ wp mX12_liveIn 1 rc rs Q 5 [some (vr 71), some (vi x1), some (vi x2), some (vi (x3 + (m_live h (iH h 1137 x4.toNat)))), some (vi (x4 + 1))] [] h))) : wp mX12_liveIn 1 rc rs Q 5 [some (vr 71), some (vi x1), some (vi x2), some (vi x3), some (vi x4)] [] h :=
  (show wp mX12_liveIn 1 rc rs Q 5 [some (vr 71), some (vi x1), some (vi x2), some (vi x3), some (vi x4)] [] h from xIc k_X12_liveIn_5 (have c1 := hv.1; have v15 := hv.2; (And.intro c1 (And.intro (fun c2 => have v4 := v15.1 c2; (show wp mX12_liveIn 1 rc rs Q 33 [some (vr 71), some (vi x1), some (vi x2), some (vi x3), some (vi x4)] [] h from xI k_X12_liveIn_33 (And.intro rfl v4))) (fun c3 => have v5 := v15.2 (Int.not_le.mp c3); (show wp mX12_liveIn 1 rc rs Q 13 [some (vr 71), some (vi x1), some (vi x2), some (vi x3), some (vi x4)] [] h from xcV k_X12_liveIn_13 s_X12_liveIn_22 (And.intro (lm_71 hL) (Exists.intro 1137 (And.intro (lf_71_14 hL) (have c6 := v5.1; have v14 := v5.2; (And.intro (sdI (lm_1137 hL) c6) (have c11 := v14.1; have v12 := v14.2; (Exists.intro [vi (iH h 1137 x4.toNat)] (Exists.intro 71 (Exists.intro [vi x3] (And.intro (And.intro rfl (And.intro rfl (Nat.le_of_ble_eq_true rfl))) (And.intro (lm_71 hL) (Exists.intro 0 (Exists.intro 0 (Exists.intro 0 (Exists.intro _ (And.intro (c_liveOf hL c11) (And.intro (And.intro (by decide) (And.intro (Nat.zero_le _) (Nat.zero_le _))) (eQP (show wp mX12_liveIn 1 rc rs Q 25 [some (vr 71), some (vi x1), some (vi x2), some (vi x3), some (vi x4)] [vi (m_live h (iH h 1137 x4.toNat)), vi x3] h from xGo k_X12_liveIn_25 (have c7 := v12.1; have v10 := v12.2; (And.intro c7 (And.intro rfl (have c8 := v10.1; have v9 := v10.2; (And.intro c8 (And.intro rfl v9)))))))))))))))))))))))))))))))
noncomputable def m_tier (h : AH) (s : Int) : Int := if m_size h s ≤ 2 then 0 else if m_size h s ≤ 6 then 1 else if m_size h s ≤ 14 then 2 else 3
theorem c_tier {h : AH} (hL : LayM h) {s : Int} (hs : m_sz h s) : Ct 2 0 0 mX12_tier [vr 71, vi s] h (QI fun x h' => x = m_tier h s ∧ h' = h) := by
  refine e_X12_tier hL ⟨hs, fun c => ⟨fun c2 => ⟨fun c3 => ⟨_, rfl, ?_, rfl⟩, fun c3 => ⟨_, rfl, ?_, rfl⟩⟩, fun c2 => ⟨_, rfl, ?_, rfl⟩⟩, fun c => ⟨_, rfl, ?_, rfl⟩⟩
  · unfold m_tier; rw [if_neg (by omega), if_neg (by omega), if_neg (by omega)]
  · unfold m_tier; rw [if_neg (by omega), if_neg (by omega), if_pos (by omega)]
  · unfold m_tier; rw [if_neg (by omega), if_pos (by omega)]
  · unfold m_tier; rw [if_pos (by omega)]
theorem m_tier_bd (h : AH) (s : Int) : 0 ≤ m_tier h s ∧ m_tier h s ≤ 3 := by
  unfold m_tier
  split
  · omega
  · split
    · omega
    · split <;> omega
def m_rng (h : AH) (a n : Int) : Prop := 0 ≤ a ∧ 0 ≤ n ∧ a + n ≤ 8 ∧ ∀ s : Nat, a ≤ (s : Int) → (s : Int) < a + n → m_seg h (iH h 1137 s)
noncomputable def m_liveIn (h : AH) (a n : Int) : Int := sumN (fun i => m_live h (iH h 1137 (a.toNat + i))) n.toNat
theorem m_liveIn_bd' {h : AH} {a n : Int} (hr : m_rng h a n) (k : Nat) (hk : (k : Int) ≤ n) : 0 ≤ sumN (fun i => m_live h (iH h 1137 (a.toNat + i))) k ∧ sumN (fun i => m_live h (iH h 1137 (a.toNat + i))) k ≤ (k : Int) * 64 := by
  have h1 := hr.1
  refine sumN_bd _ 64 (by omega) k fun j hj => ?_
  have hs := hr.2.2.2 (a.toNat + j) (by omega) (by omega)
  have := m_live_bd hs
  have := hs.2.1
  omega
theorem m_liveIn_bd {h : AH} {a n : Int} (hr : m_rng h a n) : 0 ≤ m_liveIn h a n ∧ m_liveIn h a n ≤ 512 := by
  have h1 := m_liveIn_bd' hr n.toNat (by have := hr.2.1; omega)
  have h2 := hr.2.2.1
  have h3 := hr.1
  unfold m_liveIn; omega
theorem c_liveIn {h : AH} (hL : LayM h) {a n : Int} (hr : m_rng h a n) : Ct 1 0 0 mX12_liveIn [vr 71, vi a, vi n] h (QI fun x h' => x = m_liveIn h a n ∧ h' = h) := by
  have h1 := hr.1
  have h2 := hr.2.1
  have h3 := hr.2.2.1
  have e0 : a = a + ((0 : Nat) : Int) := by omega
  have key : ∀ k : Nat, (k : Int) < n → (a + (k : Int)).toNat = a.toNat + k := fun k hk => by omega
  refine e_X12_liveIn hL ?_
  have := up (P := fun k => wp mX12_liveIn 1 0 0 (QI fun x h' => x = m_liveIn h a n ∧ h' = h) 5 [some (vr 71), some (vi a), some (vi n), some (vi (sumN (fun i => m_live h (iH h 1137 (a.toNat + i))) k)), some (vi (a + (k : Int)))] [] h) n.toNat ?_ ?_
  · rw [← e0] at this; exact this
  · exact t_X12_liveIn_5 hL ⟨by omega, fun _ => ⟨_, rfl, rfl, rfl⟩, fun c => absurd c (by omega)⟩
  · intro k hk ih
    have hs := hr.2.2.2 (a.toNat + k) (by omega) (by omega)
    have hb := m_liveIn_bd' hr k (by omega)
    have hm := m_live_bd hs
    have hm2 := hs.2.1
    refine t_X12_liveIn_5 hL ?_
    rw [key k (by omega)]
    refine ⟨by omega, fun c => absurd c (by omega), fun c => ⟨by omega, hs, by omega, by omega, ?_⟩⟩
    rw [show a + (k : Int) + 1 = a + ((k + 1 : Nat) : Int) by omega]
    exact ih
def b_X12_near_0 : List IE := [(.iconst 0, 1, 0, 0, 0, 0), (.istore 4, 2, 0, 0, 4, 0), (.iconst 0, 1, 0, 0, 0, 0), (.istore 5, 2, 0, 0, 5, 0)]
theorem k_X12_near_0 : ckB mX12_near 12 0 b_X12_near_0 6 = true := by decide +kernel
def b_X12_near_6 : List IE := [(.iload 5, 2, 0, 0, 5, 0), (.aload_n 0, 1, 0, 0, 0, 0), (.getfield 13, 3, 0, 12, 2, 1), (.iload_n 1, 1, 0, 0, 1, 0), (.iaload, 1, 0, 0, 0, 0)]
theorem k_X12_near_6 : ckIc mX12_near 12 6 b_X12_near_6 14 3 77 91 17 = true := by decide +kernel
def b_X12_near_17 : List IE := [(.iconst 0, 1, 0, 0, 0, 0), (.istore 6, 2, 0, 0, 6, 0)]
theorem k_X12_near_17 : ckB mX12_near 12 17 b_X12_near_17 20 = true := by decide +kernel
def b_X12_near_20 : List IE := [(.iload 6, 2, 0, 0, 6, 0), (.aload_n 0, 1, 0, 0, 0, 0), (.getfield 13, 3, 0, 12, 2, 1), (.iload_n 1, 1, 0, 0, 1, 0), (.iaload, 1, 0, 0, 0, 0)]
theorem k_X12_near_20 : ckIc mX12_near 12 20 b_X12_near_20 28 3 57 85 31 = true := by decide +kernel
def b_X12_near_31 : List IE := [(.iload 5, 2, 0, 0, 5, 0), (.iload 6, 2, 0, 0, 6, 0)]
theorem k_X12_near_31 : ckIc mX12_near 12 31 b_X12_near_31 35 0 44 79 38 = true := by decide +kernel
def b_X12_near_38 : List IE := [(.iload 5, 2, 0, 0, 5, 0), (.iload 6, 2, 0, 0, 6, 0), (.isub, 1, 0, 0, 0, 0)]
theorem k_X12_near_38 : ckB mX12_near 12 38 b_X12_near_38 43 = true := by decide +kernel
def b_X12_near_46 : List IE := [(.iconst 3, 1, 3, 0, 0, 0)]
theorem k_X12_near_46 : ckIc mX12_near 12 46 b_X12_near_46 47 4 32 79 50 = true := by decide +kernel
def b_X12_near_50 : List IE := [(.aload_n 0, 1, 0, 0, 0, 0), (.getfield 18, 3, 0, 12, 3, 1), (.iload_n 1, 1, 0, 0, 1, 0), (.aaload, 1, 0, 0, 0, 0), (.iload 5, 2, 0, 0, 5, 0), (.iaload, 1, 0, 0, 0, 0), (.iload_n 2, 1, 0, 0, 2, 0)]
theorem k_X12_near_50 : ckIc mX12_near 12 50 b_X12_near_50 60 1 19 79 63 = true := by decide +kernel
def b_X12_near_63 : List IE := [(.aload_n 0, 1, 0, 0, 0, 0), (.getfield 18, 3, 0, 12, 3, 1), (.iload_n 1, 1, 0, 0, 1, 0), (.aaload, 1, 0, 0, 0, 0), (.iload 6, 2, 0, 0, 6, 0), (.iaload, 1, 0, 0, 0, 0), (.iload_n 3, 1, 0, 0, 3, 0)]
theorem k_X12_near_63 : ckIc mX12_near 12 63 b_X12_near_63 73 1 6 79 76 = true := by decide +kernel
def b_X12_near_76 : List IE := [(.iinc 4 1, 3, 1, 0, 4, 0), (.iinc 6 1, 3, 1, 0, 6, 0)]
theorem k_X12_near_76 : ckGo mX12_near 12 76 b_X12_near_76 82 (-62) 20 = true := by decide +kernel
def b_X12_near_79 : List IE := [(.iinc 6 1, 3, 1, 0, 6, 0)]
theorem k_X12_near_79 : ckGo mX12_near 12 79 b_X12_near_79 82 (-62) 20 = true := by decide +kernel
def b_X12_near_85 : List IE := [(.iinc 5 1, 3, 1, 0, 5, 0)]
theorem k_X12_near_85 : ckGo mX12_near 12 85 b_X12_near_85 88 (-82) 6 = true := by decide +kernel
def b_X12_near_91 : List IE := [(.iload 4, 2, 0, 0, 4, 0)]
theorem k_X12_near_91 : ckI mX12_near 12 91 b_X12_near_91 93 = true := by decide +kernel
theorem s_X12_near_43 : cMx mX12_near 43 345 Lib.Math.abs.name Lib.Math.abs.code 1 := ⟨by decide +kernel, gt_ok (List.mem_of_getElem? (i := 1483) (by decide +kernel)) (by decide +kernel), gt_ok (List.mem_of_getElem? (i := 1484) (by decide +kernel)) (by decide +kernel), gt_ok (List.mem_of_getElem? (i := 104) (by decide +kernel)) (by decide +kernel), gt_ok (List.mem_of_getElem? (i := 1485) (by decide +kernel)) (by decide +kernel)⟩
theorem t_X12_near_0 {rc rs : Nat} {Q : Option AV → AH → Prop} {h : AH} {x1 x2 x3 : Int} (hL : LayM h) (hv : wp mX12_near 1 rc rs Q 6 [some (vr 71), some (vi x1), some (vi x2), some (vi x3), some (vi 0), some (vi 0), none] [] h) : wp mX12_near 1 rc rs Q 0 [some (vr 71), some (vi x1), some (vi x2), some (vi x3), none, none, none] [] h :=
  (show wp mX12_near 1 rc rs Q 0 [some (vr 71), some (vi x1), some (vi x2), some (vi x3), none, none, none] [] h from xB k_X12_near_0 (And.intro rfl (And.intro rfl hv)))
theorem e_X12_near {mc ms : Nat} {Q : Option AV → AH → Prop} {h : AH} {x1 x2 x3 : Int} (hL : LayM h) (hv : wp mX12_near 1 mc ms Q 6 [some (vr 71), some (vi x1), some (vi x2), some (vi x3), some (vi 0), some (vi 0), none] [] h) : Ct 1 mc ms mX12_near [vr 71, vi x1, vi x2, vi x3] h Q := Ct.of (by decide +kernel) (Nat.le_of_ble_eq_true rfl) (t_X12_near_0 hL hv)
theorem t_X12_near_6 {rc rs : Nat} {Q : Option AV → AH → Prop} {h : AH} {x1 x2 x3 x4 x5 : Int} (hL : LayM h) (hv : (0 ≤ x1 ∧ x1 < 520) ∧ (((iH h 73 x1.toNat) ≤ x5 → Q (some (vi x4)) h) ∧ (x5 < (iH h 73 x1.toNat) → wp mX12_near 1 rc rs Q 20 [some (vr 71), some (vi x1), some (vi x2), some (vi x3), some (vi x4), some (vi x5), some (vi 0)] [] h))) : wp mX12_near 1 rc rs Q 6 [some (vr 71), some (vi x1), some (vi x2), some (vi x3), some (vi x4), some (vi x5), none] [] h :=
  (show wp mX12_near 1 rc rs Q 6 [some (vr 71), some (vi x1), some (vi x2), some (vi x3), some (vi x4), some (vi x5), none] [] h from xIc k_X12_near_6 (And.intro (lm_71 hL) (Exists.intro 73 (And.intro (lf_71_2 hL) (have c1 := hv.1; have v6 := hv.2; (And.intro (sdI (lm_73 hL) c1) (And.intro (fun c2 => have v4 := v6.1 c2; (show wp mX12_near 1 rc rs Q 91 [some (vr 71), some (vi x1), some (vi x2), some (vi x3), some (vi x4), some (vi x5), none] [] h from xI k_X12_near_91 (And.intro rfl v4))) (fun c3 => have v5 := v6.2 (Int.not_le.mp c3); (show wp mX12_near 1 rc rs Q 17 [some (vr 71), some (vi x1), some (vi x2), some (vi x3), some (vi x4), some (vi x5), none] [] h from xB k_X12_near_17 (And.intro rfl v5))))))))))
theorem t_X12_near_20 {rc rs : Nat} {Q : Option AV → AH → Prop} {h : AH} {x1 x2 x3 x4 x5 x6 : Int} (hL : LayM h) (hv : (0 ≤ x1 ∧ x1 < 520) ∧ (((iH h 73 x1.toNat) ≤ x6 → (-2147483648 ≤ (x5 + 1) ∧ (x5 + 1) < 2147483648) ∧ wp mX12_near 1 rc rs Q 6 [some (vr 71), some (vi x1), some (vi x2), some (vi x3), some (vi x4), some (vi (x5 + 1)), none] [] h) ∧ (x6 < (iH h 73 x1.toNat) → ((x5 = x6 → (-2147483648 ≤ (x6 + 1) ∧ (x6 + 1) < 2147483648) ∧ wp mX12_near 1 rc rs Q 20 [some (vr 71), some (vi x1), some (vi x2), some (vi x3), some (vi x4), some (vi x5), some (vi (x6 + 1))] [] h) ∧ (x5 ≠ x6 → (-2147483648 ≤ (x5 - x6) ∧ (x5 - x6) < 2147483648) ∧ ((-2147483648 ≤ (-(x5 - x6)) ∧ (-(x5 - x6)) < 2147483648) ∧ ((3 < (max (x5 - x6) (-(x5 - x6))) → (-2147483648 ≤ (x6 + 1) ∧ (x6 + 1) < 2147483648) ∧ wp mX12_near 1 rc rs Q 20 [some (vr 71), some (vi x1), some (vi x2), some (vi x3), some (vi x4), some (vi x5), some (vi (x6 + 1))] [] h) ∧ ((max (x5 - x6) (-(x5 - x6))) ≤ 3 → (0 ≤ x5 ∧ x5 < 12) ∧ (((iH h (75 + x1.toNat) x5.toNat) ≠ x2 → (-2147483648 ≤ (x6 + 1) ∧ (x6 + 1) < 2147483648) ∧ wp mX12_near 1 rc rs Q 20 [some (vr 71), some (vi x1), some (vi x2), some (vi x3), some (vi x4), some (vi x5), some (vi (x6 + 1))] [] h) ∧ ((iH h (75 + x1.toNat) x5.toNat) = x2 → (0 ≤ x6 ∧ x6 < 12) ∧ (((iH h (75 + x1.toNat) x6.toNat) ≠ x3 → (-2147483648 ≤ (x6 + 1) ∧ (x6 + 1) < 2147483648) ∧ wp mX12_near 1 rc rs Q 20 [some (vr 71), some (vi x1), some (vi x2), some (vi x3), some (vi x4), some (vi x5), some (vi (x6 + 1))] [] h) ∧ ((iH h (75 + x1.toNat) x6.toNat) = x3 → (-2147483648 ≤ (x4 + 1) ∧ (x4 + 1) < 2147483648) ∧ (-2147483648 ≤ (x6 + 1) ∧ (x6 + 1) < 2147483648) ∧ wp mX12_near 1 rc rs Q 20 [some (vr 71), some (vi x1), some (vi x2), some (vi x3), some (vi (x4 + 1)), some (vi x5), some (vi (x6 + 1))] [] h)))))))))))) : wp mX12_near 1 rc rs Q 20 [some (vr 71), some (vi x1), some (vi x2), some (vi x3), some (vi x4), some (vi x5), some (vi x6)] [] h :=
  (show wp mX12_near 1 rc rs Q 20 [some (vr 71), some (vi x1), some (vi x2), some (vi x3), some (vi x4), some (vi x5), some (vi x6)] [] h from xIc k_X12_near_20 (And.intro (lm_71 hL) (Exists.intro 73 (And.intro (lf_71_2 hL) (have c1 := hv.1; have v45 := hv.2; (And.intro (sdI (lm_73 hL) c1) (And.intro (fun c2 => have v4 := v45.1 c2; (show wp mX12_near 1 rc rs Q 85 [some (vr 71), some (vi x1), some (vi x2), some (vi x3), some (vi x4), some (vi x5), some (vi x6)] [] h from xGo k_X12_near_85 (have c6 := v4.1; have v7 := v4.2; (And.intro c6 (And.intro rfl (w_fg [true, true, true, true, true, true, false] v7)))))) (fun c3 => have v5 := v45.2 (Int.not_le.mp c3); (show wp mX12_near 1 rc rs Q 31 [some (vr 71), some (vi x1), some (vi x2), some (vi x3), some (vi x4), some (vi x5), some (vi x6)] [] h from xIc k_X12_near_31 (And.intro (fun c8 => have v10 := v5.1 c8; (show wp mX12_near 1 rc rs Q 79 [some (vr 71), some (vi x1), some (vi x2), some (vi x3), some (vi x4), some (vi x5), some (vi x6)] [] h from xGo k_X12_near_79 (have c12 := v10.1; have v13 := v10.2; (And.intro c12 (And.intro rfl v13))))) (fun c9 => have v11 := v5.2 c9; (show wp mX12_near 1 rc rs Q 38 [some (vr 71), some (vi x1), some (vi x2), some (vi x3), some (vi x4), some (vi x5), some (vi x6)] [] h from xAbs k_X12_near_38 s_X12_near_43 (have c14 := v11.1; have v44 := v11.2; (And.intro c14 (have v43 := v44.2; And.intro (And.intro (Nat.le_of_ble_eq_true rfl) (Nat.le_of_ble_eq_true rfl)) (And.intro v44.1 (show wp mX12_near 1 rc rs Q 46 [some (vr 71), some (vi x1), some (vi x2), some (vi x3), some (vi x4), some (vi x5), some (vi x6)] [vi (max (x5 - x6) (-(x5 - x6)))] h from xIc k_X12_near_46 (And.intro (fun c15 => have v17 := v43.1 c15; (show wp mX12_near 1 rc rs Q 79 [some (vr 71), some (vi x1), some (vi x2), some (vi x3), some (vi x4), some (vi x5), some (vi x6)] [] h from xGo k_X12_near_79 (have c19 := v17.1; have v20 := v17.2; (And.intro c19 (And.intro rfl v20))))) (fun c16 => have v18 := v43.2 (Int.not_lt.mp c16); (show wp mX12_near 1 rc rs Q 50 [some (vr 71), some (vi x1), some (vi x2), some (vi x3), some (vi x4), some (vi x5), some (vi x6)] [] h from xIc k_X12_near_50 (And.intro (lm_71 hL) (Exists.intro 74 (And.intro (lf_71_3 hL) (And.intro (sdQ (lm_74 hL) c1) (Exists.intro (75 + x1.toNat) (And.intro (lr_words hL (tnl c1)) (have c22 := v18.1; have v42 := v18.2; (And.intro (sdI (lk_words hL (tnl c1)) c22) (And.intro (fun c23 => have v25 := v42.1 c23; (show wp mX12_near 1 rc rs Q 79 [some (vr 71), some (vi x1), some (vi x2), some (vi x3), some (vi x4), some (vi x5), some (vi x6)] [] h from xGo k_X12_near_79 (have c27 := v25.1; have v28 := v25.2; (And.intro c27 (And.intro rfl v28))))) (fun c24 => have v26 := v42.2 (Decidable.not_not.mp c24); (show wp mX12_near 1 rc rs Q 63 [some (vr 71), some (vi x1), some (vi x2), some (vi x3), some (vi x4), some (vi x5), some (vi x6)] [] h from xIc k_X12_near_63 (And.intro (lm_71 hL) (Exists.intro 74 (And.intro (lf_71_3 hL) (And.intro (sdQ (lm_74 hL) c1) (Exists.intro (75 + x1.toNat) (And.intro (lr_words hL (tnl c1)) (have c30 := v26.1; have v41 := v26.2; (And.intro (sdI (lk_words hL (tnl c1)) c30) (And.intro (fun c31 => have v33 := v41.1 c31; (show wp mX12_near 1 rc rs Q 79 [some (vr 71), some (vi x1), some (vi x2), some (vi x3), some (vi x4), some (vi x5), some (vi x6)] [] h from xGo k_X12_near_79 (have c35 := v33.1; have v36 := v33.2; (And.intro c35 (And.intro rfl v36))))) (fun c32 => have v34 := v41.2 (Decidable.not_not.mp c32); (show wp mX12_near 1 rc rs Q 76 [some (vr 71), some (vi x1), some (vi x2), some (vi x3), some (vi x4), some (vi x5), some (vi x6)] [] h from xGo k_X12_near_76 (have c37 := v34.1; have v40 := v34.2; (And.intro c37 (And.intro rfl (have c38 := v40.1; have v39 := v40.2; (And.intro c38 (And.intro rfl v39))))))))))))))))))))))))))))))))))))))))))))))))
def b_X12_timesBegun_0 : List IE := [(.iconst 0, 1, 0, 0, 0, 0), (.istore 4, 2, 0, 0, 4, 0), (.iconst 0, 1, 0, 0, 0, 0), (.istore 5, 2, 0, 0, 5, 0)]
theorem k_X12_timesBegun_0 : ckB mX12_timesBegun 12 0 b_X12_timesBegun_0 6 = true := by decide +kernel
def b_X12_timesBegun_6 : List IE := [(.iload 5, 2, 0, 0, 5, 0), (.aload_n 0, 1, 0, 0, 0, 0), (.getfield 13, 3, 0, 12, 2, 1), (.iload_n 1, 1, 0, 0, 1, 0), (.iaload, 1, 0, 0, 0, 0)]
theorem k_X12_timesBegun_6 : ckIc mX12_timesBegun 12 6 b_X12_timesBegun_6 14 3 29 43 17 = true := by decide +kernel
def b_X12_timesBegun_17 : List IE := [(.aload_n 0, 1, 0, 0, 0, 0), (.getfield 18, 3, 0, 12, 3, 1), (.iload_n 1, 1, 0, 0, 1, 0), (.aaload, 1, 0, 0, 0, 0), (.iload 5, 2, 0, 0, 5, 0), (.iaload, 1, 0, 0, 0, 0), (.iload_n 2, 1, 0, 0, 2, 0), (.iload_n 3, 1, 0, 0, 3, 0)]
theorem k_X12_timesBegun_17 : ckB mX12_timesBegun 12 17 b_X12_timesBegun_17 28 = true := by decide +kernel
def b_X12_timesBegun_31 : List IE := []
theorem k_X12_timesBegun_31 : ckIf mX12_timesBegun 12 31 b_X12_timesBegun_31 31 0 6 37 34 = true := by decide +kernel
def b_X12_timesBegun_34 : List IE := [(.iinc 4 1, 3, 1, 0, 4, 0), (.iinc 5 1, 3, 1, 0, 5, 0)]
theorem k_X12_timesBegun_34 : ckGo mX12_timesBegun 12 34 b_X12_timesBegun_34 40 (-34) 6 = true := by decide +kernel
def b_X12_timesBegun_37 : List IE := [(.iinc 5 1, 3, 1, 0, 5, 0)]
theorem k_X12_timesBegun_37 : ckGo mX12_timesBegun 12 37 b_X12_timesBegun_37 40 (-34) 6 = true := by decide +kernel
def b_X12_timesBegun_43 : List IE := [(.iload 4, 2, 0, 0, 4, 0)]
theorem k_X12_timesBegun_43 : ckI mX12_timesBegun 12 43 b_X12_timesBegun_43 45 = true := by decide +kernel
theorem s_X12_timesBegun_28 : cS mX12_timesBegun 28 mX12_begins 342 3 := ⟨by decide +kernel, ⟨ml_X12_begins, li_RX12_342, st_X12_begins⟩, by decide +kernel⟩
theorem t_X12_timesBegun_0 {rc rs : Nat} {Q : Option AV → AH → Prop} {h : AH} {x1 x2 x3 : Int} (hL : LayM h) (hv : wp mX12_timesBegun 2 rc rs Q 6 [some (vr 71), some (vi x1), some (vi x2), some (vi x3), some (vi 0), some (vi 0)] [] h) : wp mX12_timesBegun 2 rc rs Q 0 [some (vr 71), some (vi x1), some (vi x2), some (vi x3), none, none] [] h :=
  (show wp mX12_timesBegun 2 rc rs Q 0 [some (vr 71), some (vi x1), some (vi x2), some (vi x3), none, none] [] h from xB k_X12_timesBegun_0 (And.intro rfl (And.intro rfl hv)))
theorem e_X12_timesBegun {mc ms : Nat} {Q : Option AV → AH → Prop} {h : AH} {x1 x2 x3 : Int} (hL : LayM h) (hv : wp mX12_timesBegun 2 mc ms Q 6 [some (vr 71), some (vi x1), some (vi x2), some (vi x3), some (vi 0), some (vi 0)] [] h) : Ct 2 mc ms mX12_timesBegun [vr 71, vi x1, vi x2, vi x3] h Q := Ct.of (by decide +kernel) (Nat.le_of_ble_eq_true rfl) (t_X12_timesBegun_0 hL hv)
theorem t_X12_timesBegun_6 {rc rs : Nat} {Q : Option AV → AH → Prop} {h : AH} {x1 x2 x3 x4 x5 : Int} (hL : LayM h) (hv : (0 ≤ x1 ∧ x1 < 520) ∧ (((iH h 73 x1.toNat) ≤ x5 → Q (some (vi x4)) h) ∧ (x5 < (iH h 73 x1.toNat) → (0 ≤ x5 ∧ x5 < 12) ∧ ((0 ≤ (iH h (75 + x1.toNat) x5.toNat) ∧ (iH h (75 + x1.toNat) x5.toNat) < 2147483648) ∧ (0 ≤ x2 ∧ x2 < 2147483648) ∧ (0 ≤ x3 ∧ x3 ≤ 6)) ∧ ((¬ (m_beg (iH h (75 + x1.toNat) x5.toNat) x2 x3) → (-2147483648 ≤ (x5 + 1) ∧ (x5 + 1) < 2147483648) ∧ wp mX12_timesBegun 2 rc rs Q 6 [some (vr 71), some (vi x1), some (vi x2), some (vi x3), some (vi x4), some (vi (x5 + 1))] [] h) ∧ ((m_beg (iH h (75 + x1.toNat) x5.toNat) x2 x3) → (-2147483648 ≤ (x4 + 1) ∧ (x4 + 1) < 2147483648) ∧ (-2147483648 ≤ (x5 + 1) ∧ (x5 + 1) < 2147483648) ∧ wp mX12_timesBegun 2 rc rs Q 6 [some (vr 71), some (vi x1), some (vi x2), some (vi x3), some (vi (x4 + 1)), some (vi (x5 + 1))] [] h))))) : wp mX12_timesBegun 2 rc rs Q 6 [some (vr 71), some (vi x1), some (vi x2), some (vi x3), some (vi x4), some (vi x5)] [] h :=
  (show wp mX12_timesBegun 2 rc rs Q 6 [some (vr 71), some (vi x1), some (vi x2), some (vi x3), some (vi x4), some (vi x5)] [] h from xIc k_X12_timesBegun_6 (And.intro (lm_71 hL) (Exists.intro 73 (And.intro (lf_71_2 hL) (have c1 := hv.1; have v22 := hv.2; (And.intro (sdI (lm_73 hL) c1) (And.intro (fun c2 => have v4 := v22.1 c2; (show wp mX12_timesBegun 2 rc rs Q 43 [some (vr 71), some (vi x1), some (vi x2), some (vi x3), some (vi x4), some (vi x5)] [] h from xI k_X12_timesBegun_43 (And.intro rfl v4))) (fun c3 => have v5 := v22.2 (Int.not_le.mp c3); (show wp mX12_timesBegun 2 rc rs Q 17 [some (vr 71), some (vi x1), some (vi x2), some (vi x3), some (vi x4), some (vi x5)] [] h from xcS k_X12_timesBegun_17 s_X12_timesBegun_28 (And.intro (lm_71 hL) (Exists.intro 74 (And.intro (lf_71_3 hL) (And.intro (sdQ (lm_74 hL) c1) (Exists.intro (75 + x1.toNat) (And.intro (lr_words hL (tnl c1)) (have c7 := v5.1; have v21 := v5.2; (And.intro (sdI (lk_words hL (tnl c1)) c7) (have c18 := v21.1; have v19 := v21.2; (Exists.intro [vi (iH h (75 + x1.toNat) x5.toNat), vi x2, vi x3] (Exists.intro [] (And.intro (And.intro rfl (And.intro rfl (Nat.le_of_ble_eq_true rfl))) (Exists.intro 1 (Exists.intro 0 (Exists.intro 0 (Exists.intro _ (And.intro (c_begins c18) (And.intro (And.intro (by decide) (And.intro (Nat.zero_le _) (Nat.zero_le _))) (eQP (show wp mX12_timesBegun 2 rc rs Q 31 [some (vr 71), some (vi x1), some (vi x2), some (vi x3), some (vi x4), some (vi x5)] [vi (b01 (m_beg (iH h (75 + x1.toNat) x5.toNat) x2 x3))] h from xIf k_X12_timesBegun_31 (And.intro (fun c8 => have v10 := v19.1 (b01_n.mp c8); (show wp mX12_timesBegun 2 rc rs Q 37 [some (vr 71), some (vi x1), some (vi x2), some (vi x3), some (vi x4), some (vi x5)] [] h from xGo k_X12_timesBegun_37 (have c12 := v10.1; have v13 := v10.2; (And.intro c12 (And.intro rfl v13))))) (fun c9 => have v11 := v19.2 (b01_p.mp c9); (show wp mX12_timesBegun 2 rc rs Q 34 [some (vr 71), some (vi x1), some (vi x2), some (vi x3), some (vi x4), some (vi x5)] [] h from xGo k_X12_timesBegun_34 (have c14 := v11.1; have v17 := v11.2; (And.intro c14 (And.intro rfl (have c15 := v17.1; have v16 := v17.2; (And.intro c15 (And.intro rfl v16))))))))))))))))))))))))))))))))))))))
def b_X12_phraseTimes_0 : List IE := [(.iconst 0, 1, 0, 0, 0, 0), (.istore 5, 2, 0, 0, 5, 0), (.iconst 0, 1, 0, 0, 0, 0), (.istore 6, 2, 0, 0, 6, 0)]
theorem k_X12_phraseTimes_0 : ckB mX12_phraseTimes 12 0 b_X12_phraseTimes_0 6 = true := by decide +kernel
def b_X12_phraseTimes_6 : List IE := [(.iload 6, 2, 0, 0, 6, 0), (.iload 4, 2, 0, 0, 4, 0), (.iadd, 1, 0, 0, 0, 0), (.aload_n 0, 1, 0, 0, 0, 0), (.getfield 13, 3, 0, 12, 2, 1), (.iload_n 1, 1, 0, 0, 1, 0), (.iaload, 1, 0, 0, 0, 0)]
theorem k_X12_phraseTimes_6 : ckIc mX12_phraseTimes 12 6 b_X12_phraseTimes_6 17 4 67 84 20 = true := by decide +kernel
def b_X12_phraseTimes_20 : List IE := [(.iconst 1, 1, 1, 0, 0, 0), (.istore 7, 2, 0, 0, 7, 0), (.iconst 0, 1, 0, 0, 0, 0), (.istore 8, 2, 0, 0, 8, 0)]
theorem k_X12_phraseTimes_20 : ckB mX12_phraseTimes 12 20 b_X12_phraseTimes_20 26 = true := by decide +kernel
def b_X12_phraseTimes_26 : List IE := [(.iload 8, 2, 0, 0, 8, 0), (.iload 4, 2, 0, 0, 4, 0)]
theorem k_X12_phraseTimes_26 : ckIc mX12_phraseTimes 12 26 b_X12_phraseTimes_26 30 3 40 70 33 = true := by decide +kernel
def b_X12_phraseTimes_33 : List IE := [(.iload 7, 2, 0, 0, 7, 0), (.aload_n 0, 1, 0, 0, 0, 0), (.getfield 18, 3, 0, 12, 3, 1), (.iload_n 1, 1, 0, 0, 1, 0), (.aaload, 1, 0, 0, 0, 0), (.iload 6, 2, 0, 0, 6, 0), (.iload 8, 2, 0, 0, 8, 0), (.iadd, 1, 0, 0, 0, 0), (.iaload, 1, 0, 0, 0, 0), (.aload_n 2, 1, 0, 0, 2, 0), (.iload_n 3, 1, 0, 0, 3, 0), (.iload 8, 2, 0, 0, 8, 0), (.iadd, 1, 0, 0, 0, 0), (.iaload, 1, 0, 0, 0, 0)]
theorem k_X12_phraseTimes_33 : ckIc mX12_phraseTimes 12 33 b_X12_phraseTimes_33 53 1 7 60 56 = true := by decide +kernel
def b_X12_phraseTimes_56 : List IE := [(.iconst 1, 1, 1, 0, 0, 0)]
theorem k_X12_phraseTimes_56 : ckGo mX12_phraseTimes 12 56 b_X12_phraseTimes_56 57 4 61 = true := by decide +kernel
def b_X12_phraseTimes_60 : List IE := [(.iconst 0, 1, 0, 0, 0, 0), (.iand, 1, 0, 0, 0, 0), (.istore 7, 2, 0, 0, 7, 0), (.iinc 8 1, 3, 1, 0, 8, 0)]
theorem k_X12_phraseTimes_60 : ckGo mX12_phraseTimes 12 60 b_X12_phraseTimes_60 67 (-41) 26 = true := by decide +kernel
def b_X12_phraseTimes_61 : List IE := [(.iand, 1, 0, 0, 0, 0), (.istore 7, 2, 0, 0, 7, 0), (.iinc 8 1, 3, 1, 0, 8, 0)]
theorem k_X12_phraseTimes_61 : ckGo mX12_phraseTimes 12 61 b_X12_phraseTimes_61 67 (-41) 26 = true := by decide +kernel
def b_X12_phraseTimes_70 : List IE := [(.iload 7, 2, 0, 0, 7, 0)]
theorem k_X12_phraseTimes_70 : ckIf mX12_phraseTimes 12 70 b_X12_phraseTimes_70 72 0 6 78 75 = true := by decide +kernel
def b_X12_phraseTimes_75 : List IE := [(.iinc 5 1, 3, 1, 0, 5, 0), (.iinc 6 1, 3, 1, 0, 6, 0)]
theorem k_X12_phraseTimes_75 : ckGo mX12_phraseTimes 12 75 b_X12_phraseTimes_75 81 (-75) 6 = true := by decide +kernel
def b_X12_phraseTimes_78 : List IE := [(.iinc 6 1, 3, 1, 0, 6, 0)]
theorem k_X12_phraseTimes_78 : ckGo mX12_phraseTimes 12 78 b_X12_phraseTimes_78 81 (-75) 6 = true := by decide +kernel
def b_X12_phraseTimes_84 : List IE := [(.iload 5, 2, 0, 0, 5, 0)]
theorem k_X12_phraseTimes_84 : ckI mX12_phraseTimes 12 84 b_X12_phraseTimes_84 86 = true := by decide +kernel
theorem t_X12_phraseTimes_0 {rc rs : Nat} {Q : Option AV → AH → Prop} {h : AH} {x1 x3 x4 : Int} {a2 n2 : Nat} (hL : LayM h) (hA2 : a2 < nH h ∧ kH h a2 = (13, n2)) (hv : wp mX12_phraseTimes 0 rc rs Q 6 [some (vr 71), some (vi x1), some (vr a2), some (vi x3), some (vi x4), some (vi 0), some (vi 0), none, none] [] h) : wp mX12_phraseTimes 0 rc rs Q 0 [some (vr 71), some (vi x1), some (vr a2), some (vi x3), some (vi x4), none, none, none, none] [] h :=
  (show wp mX12_phraseTimes 0 rc rs Q 0 [some (vr 71), some (vi x1), some (vr a2), some (vi x3), some (vi x4), none, none, none, none] [] h from xB k_X12_phraseTimes_0 (And.intro rfl (And.intro rfl hv)))
theorem e_X12_phraseTimes {mc ms : Nat} {Q : Option AV → AH → Prop} {h : AH} {x1 x3 x4 : Int} {a2 n2 : Nat} (hL : LayM h) (hA2 : a2 < nH h ∧ kH h a2 = (13, n2)) (hv : wp mX12_phraseTimes 0 mc ms Q 6 [some (vr 71), some (vi x1), some (vr a2), some (vi x3), some (vi x4), some (vi 0), some (vi 0), none, none] [] h) : Ct 0 mc ms mX12_phraseTimes [vr 71, vi x1, vr a2, vi x3, vi x4] h Q := Ct.of (by decide +kernel) (Nat.le_of_ble_eq_true rfl) (t_X12_phraseTimes_0 hL hA2 hv)
theorem t_X12_phraseTimes_6 {rc rs : Nat} {Q : Option AV → AH → Prop} {h : AH} {x1 x3 x4 x5 x6 : Int} {a2 n2 : Nat} (hL : LayM h) (hA2 : a2 < nH h ∧ kH h a2 = (13, n2)) (hv : (-2147483648 ≤ (x6 + x4) ∧ (x6 + x4) < 2147483648) ∧ (0 ≤ x1 ∧ x1 < 520) ∧ (((iH h 73 x1.toNat) < (x6 + x4) → Q (some (vi x5)) h) ∧ ((x6 + x4) ≤ (iH h 73 x1.toNat) → wp mX12_phraseTimes 0 rc rs Q 26 [some (vr 71), some (vi x1), some (vr a2), some (vi x3), some (vi x4), some (vi x5), some (vi x6), some (vi 1), some (vi 0)] [] h))) : wp mX12_phraseTimes 0 rc rs Q 6 [some (vr 71), some (vi x1), some (vr a2), some (vi x3), some (vi x4), some (vi x5), some (vi x6), none, none] [] h :=
  (show wp mX12_phraseTimes 0 rc rs Q 6 [some (vr 71), some (vi x1), some (vr a2), some (vi x3), some (vi x4), some (vi x5), some (vi x6), none, none] [] h from xIc k_X12_phraseTimes_6 (have c1 := hv.1; have v8 := hv.2; (And.intro c1 (And.intro (lm_71 hL) (Exists.intro 73 (And.intro (lf_71_2 hL) (have c2 := v8.1; have v7 := v8.2; (And.intro (sdI (lm_73 hL) c2) (And.intro (fun c3 => have v5 := v7.1 c3; (show wp mX12_phraseTimes 0 rc rs Q 84 [some (vr 71), some (vi x1), some (vr a2), some (vi x3), some (vi x4), some (vi x5), some (vi x6), none, none] [] h from xI k_X12_phraseTimes_84 (And.intro rfl v5))) (fun c4 => have v6 := v7.2 (Int.not_lt.mp c4); (show wp mX12_phraseTimes 0 rc rs Q 20 [some (vr 71), some (vi x1), some (vr a2), some (vi x3), some (vi x4), some (vi x5), some (vi x6), none, none] [] h from xB k_X12_phraseTimes_20 (And.intro rfl (And.intro rfl v6)))))))))))))
theorem t_X12_phraseTimes_26 {rc rs : Nat} {Q : Option AV → AH → Prop} {h : AH} {x1 x3 x4 x5 x6 x7 x8 : Int} {a2 n2 : Nat} (hL : LayM h) (hA2 : a2 < nH h ∧ kH h a2 = (13, n2)) (hv : ((x4 ≤ x8 → ((x7 = 0 → (-2147483648 ≤ (x6 + 1) ∧ (x6 + 1) < 2147483648) ∧ wp mX12_phraseTimes 0 rc rs Q 6 [some (vr 71), some (vi x1), some (vr a2), some (vi x3), some (vi x4), some (vi x5), some (vi (x6 + 1)), none, none] [] h) ∧ (x7 ≠ 0 → (-2147483648 ≤ (x5 + 1) ∧ (x5 + 1) < 2147483648) ∧ (-2147483648 ≤ (x6 + 1) ∧ (x6 + 1) < 2147483648) ∧ wp mX12_phraseTimes 0 rc rs Q 6 [some (vr 71), some (vi x1), some (vr a2), some (vi x3), some (vi x4), some (vi (x5 + 1)), some (vi (x6 + 1)), none, none] [] h))) ∧ (x8 < x4 → (0 ≤ x1 ∧ x1 < 520) ∧ (-2147483648 ≤ (x6 + x8) ∧ (x6 + x8) < 2147483648) ∧ (0 ≤ (x6 + x8) ∧ (x6 + x8) < 12) ∧ (-2147483648 ≤ (x3 + x8) ∧ (x3 + x8) < 2147483648) ∧ (0 ≤ (x3 + x8) ∧ (x3 + x8) < n2) ∧ (((iH h (75 + x1.toNat) ((x6 + x8).toNat)) ≠ (iH h a2 ((x3 + x8).toNat)) → (-2147483648 ≤ (x8 + 1) ∧ (x8 + 1) < 2147483648) ∧ wp mX12_phraseTimes 0 rc rs Q 26 [some (vr 71), some (vi x1), some (vr a2), some (vi x3), some (vi x4), some (vi x5), some (vi x6), some (vi (andI x7 0)), some (vi (x8 + 1))] [] h) ∧ ((iH h (75 + x1.toNat) ((x6 + x8).toNat)) = (iH h a2 ((x3 + x8).toNat)) → (-2147483648 ≤ (x8 + 1) ∧ (x8 + 1) < 2147483648) ∧ wp mX12_phraseTimes 0 rc rs Q 26 [some (vr 71), some (vi x1), some (vr a2), some (vi x3), some (vi x4), some (vi x5), some (vi x6), some (vi (andI x7 1)), some (vi (x8 + 1))] [] h))))) : wp mX12_phraseTimes 0 rc rs Q 26 [some (vr 71), some (vi x1), some (vr a2), some (vi x3), some (vi x4), some (vi x5), some (vi x6), some (vi x7), some (vi x8)] [] h :=
  (show wp mX12_phraseTimes 0 rc rs Q 26 [some (vr 71), some (vi x1), some (vr a2), some (vi x3), some (vi x4), some (vi x5), some (vi x6), some (vi x7), some (vi x8)] [] h from xIc k_X12_phraseTimes_26 (And.intro (fun c1 => have v3 := hv.1 c1; (show wp mX12_phraseTimes 0 rc rs Q 70 [some (vr 71), some (vi x1), some (vr a2), some (vi x3), some (vi x4), some (vi x5), some (vi x6), some (vi x7), some (vi x8)] [] h from xIf k_X12_phraseTimes_70 (And.intro (fun c5 => have v7 := v3.1 c5; (show wp mX12_phraseTimes 0 rc rs Q 78 [some (vr 71), some (vi x1), some (vr a2), some (vi x3), some (vi x4), some (vi x5), some (vi x6), some (vi x7), some (vi x8)] [] h from xGo k_X12_phraseTimes_78 (have c9 := v7.1; have v10 := v7.2; (And.intro c9 (And.intro rfl (w_fg [true, true, true, true, true, true, true, false, false] v10)))))) (fun c6 => have v8 := v3.2 c6; (show wp mX12_phraseTimes 0 rc rs Q 75 [some (vr 71), some (vi x1), some (vr a2), some (vi x3), some (vi x4), some (vi x5), some (vi x6), some (vi x7), some (vi x8)] [] h from xGo k_X12_phraseTimes_75 (have c11 := v8.1; have v14 := v8.2; (And.intro c11 (And.intro rfl (have c12 := v14.1; have v13 := v14.2; (And.intro c12 (And.intro rfl (w_fg [true, true, true, true, true, true, true, false, false] v13)))))))))))) (fun c2 => have v4 := hv.2 (Int.not_le.mp c2); (show wp mX12_phraseTimes 0 rc rs Q 33 [some (vr 71), some (vi x1), some (vr a2), some (vi x3), some (vi x4), some (vi x5), some (vi x6), some (vi x7), some (vi x8)] [] h from xIc k_X12_phraseTimes_33 (And.intro (lm_71 hL) (Exists.intro 74 (And.intro (lf_71_3 hL) (have c15 := v4.1; have v32 := v4.2; (And.intro (sdQ (lm_74 hL) c15) (Exists.intro (75 + x1.toNat) (And.intro (lr_words hL (tnl c15)) (have c16 := v32.1; have v31 := v32.2; (And.intro c16 (have c17 := v31.1; have v30 := v31.2; (And.intro (sdI (lk_words hL (tnl c15)) c17) (have c18 := v30.1; have v29 := v30.2; (And.intro c18 (have c19 := v29.1; have v28 := v29.2; (And.intro (sdI hA2 c19) (And.intro (fun c20 => have v22 := v28.1 c20; (show wp mX12_phraseTimes 0 rc rs Q 60 [some (vr 71), some (vi x1), some (vr a2), some (vi x3), some (vi x4), some (vi x5), some (vi x6), some (vi x7), some (vi x8)] [vi x7] h from xGo k_X12_phraseTimes_60 (And.intro rfl (have c24 := v22.1; have v25 := v22.2; (And.intro c24 (And.intro rfl v25)))))) (fun c21 => have v23 := v28.2 (Decidable.not_not.mp c21); (show wp mX12_phraseTimes 0 rc rs Q 56 [some (vr 71), some (vi x1), some (vr a2), some (vi x3), some (vi x4), some (vi x5), some (vi x6), some (vi x7), some (vi x8)] [vi x7] h from xGo k_X12_phraseTimes_56 (show wp mX12_phraseTimes 0 rc rs Q 61 [some (vr 71), some (vi x1), some (vr a2), some (vi x3), some (vi x4), some (vi x5), some (vi x6), some (vi x7), some (vi x8)] [vi 1, vi x7] h from xGo k_X12_phraseTimes_61 (And.intro rfl (have c26 := v23.1; have v27 := v23.2; (And.intro c26 (And.intro rfl v27)))))))))))))))))))))))))))
def b_X12_openViews_0 : List IE := [(.iconst 0, 1, 0, 0, 0, 0), (.istore_n 2, 1, 0, 0, 2, 0), (.iconst 0, 1, 0, 0, 0, 0), (.istore_n 3, 1, 0, 0, 3, 0)]
theorem k_X12_openViews_0 : ckB mX12_openViews 12 0 b_X12_openViews_0 4 = true := by decide +kernel
def b_X12_openViews_4 : List IE := [(.iload_n 3, 1, 0, 0, 3, 0), (.iconst 4, 1, 4, 0, 0, 0)]
theorem k_X12_openViews_4 : ckIc mX12_openViews 12 4 b_X12_openViews_4 6 3 21 27 9 = true := by decide +kernel
def b_X12_openViews_9 : List IE := [(.aload_n 0, 1, 0, 0, 0, 0), (.iload_n 3, 1, 0, 0, 3, 0), (.iload_n 1, 1, 0, 0, 1, 0)]
theorem k_X12_openViews_9 : ckB mX12_openViews 12 9 b_X12_openViews_9 12 = true := by decide +kernel
def b_X12_openViews_15 : List IE := []
theorem k_X12_openViews_15 : ckIf mX12_openViews 12 15 b_X12_openViews_15 15 0 6 21 18 = true := by decide +kernel
def b_X12_openViews_18 : List IE := [(.iinc 2 1, 3, 1, 0, 2, 0), (.iinc 3 1, 3, 1, 0, 3, 0)]
theorem k_X12_openViews_18 : ckGo mX12_openViews 12 18 b_X12_openViews_18 24 (-20) 4 = true := by decide +kernel
def b_X12_openViews_21 : List IE := [(.iinc 3 1, 3, 1, 0, 3, 0)]
theorem k_X12_openViews_21 : ckGo mX12_openViews 12 21 b_X12_openViews_21 24 (-20) 4 = true := by decide +kernel
def b_X12_openViews_27 : List IE := [(.iload_n 2, 1, 0, 0, 2, 0)]
theorem k_X12_openViews_27 : ckI mX12_openViews 12 27 b_X12_openViews_27 28 = true := by decide +kernel
theorem s_X12_openViews_12 : cV mX12_openViews 12 mX12_stands 250 2 12 := ⟨by decide +kernel, ⟨ml_X12_stands, li_RX12_250, im_X12_stands, se_X12_stands⟩, ⟨by decide +kernel, by decide +kernel⟩, by decide +kernel⟩
theorem t_X12_openViews_0 {rc rs : Nat} {Q : Option AV → AH → Prop} {h : AH} {x1 : Int} (hL : LayM h) (hv : wp mX12_openViews 1 rc rs Q 4 [some (vr 71), some (vi x1), some (vi 0), some (vi 0)] [] h) : wp mX12_openViews 1 rc rs Q 0 [some (vr 71), some (vi x1), none, none] [] h :=
  (show wp mX12_openViews 1 rc rs Q 0 [some (vr 71), some (vi x1), none, none] [] h from xB k_X12_openViews_0 (And.intro rfl (And.intro rfl hv)))
theorem e_X12_openViews {mc ms : Nat} {Q : Option AV → AH → Prop} {h : AH} {x1 : Int} (hL : LayM h) (hv : wp mX12_openViews 1 mc ms Q 4 [some (vr 71), some (vi x1), some (vi 0), some (vi 0)] [] h) : Ct 1 mc ms mX12_openViews [vr 71, vi x1] h Q := Ct.of (by decide +kernel) (Nat.le_of_ble_eq_true rfl) (t_X12_openViews_0 hL hv)
theorem t_X12_openViews_4 {rc rs : Nat} {Q : Option AV → AH → Prop} {h : AH} {x1 x2 x3 : Int} (hL : LayM h) (hv : ((4 ≤ x3 → Q (some (vi x2)) h) ∧ (x3 < 4 → (m_std h x3) ∧ ((¬ (m_stands h x3 x1) → (-2147483648 ≤ (x3 + 1) ∧ (x3 + 1) < 2147483648) ∧ wp mX12_openViews 1 rc rs Q 4 [some (vr 71), some (vi x1), some (vi x2), some (vi (x3 + 1))] [] h) ∧ ((m_stands h x3 x1) → (-2147483648 ≤ (x2 + 1) ∧ (x2 + 1) < 2147483648) ∧ (-2147483648 ≤ (x3 + 1) ∧ (x3 + 1) < 2147483648) ∧ wp mX12_openViews 1 rc rs Q 4 [some (vr 71), some (vi x1), some (vi (x2 + 1)), some (vi (x3 + 1))] [] h))))) : wp mX12_openViews 1 rc rs Q 4 [some (vr 71), some (vi x1), some (vi x2), some (vi x3)] [] h :=
  (show wp mX12_openViews 1 rc rs Q 4 [some (vr 71), some (vi x1), some (vi x2), some (vi x3)] [] h from xIc k_X12_openViews_4 (And.intro (fun c1 => have v3 := hv.1 c1; (show wp mX12_openViews 1 rc rs Q 27 [some (vr 71), some (vi x1), some (vi x2), some (vi x3)] [] h from xI k_X12_openViews_27 (And.intro rfl v3))) (fun c2 => have v4 := hv.2 (Int.not_le.mp c2); (show wp mX12_openViews 1 rc rs Q 9 [some (vr 71), some (vi x1), some (vi x2), some (vi x3)] [] h from xcV k_X12_openViews_9 s_X12_openViews_12 (have c15 := v4.1; have v16 := v4.2; (Exists.intro [vi x3, vi x1] (Exists.intro 71 (Exists.intro [] (And.intro (And.intro rfl (And.intro rfl (Nat.le_of_ble_eq_true rfl))) (And.intro (lm_71 hL) (Exists.intro 0 (Exists.intro 0 (Exists.intro 0 (Exists.intro _ (And.intro (c_stands hL c15) (And.intro (And.intro (by decide) (And.intro (Nat.zero_le _) (Nat.zero_le _))) (eQP (show wp mX12_openViews 1 rc rs Q 15 [some (vr 71), some (vi x1), some (vi x2), some (vi x3)] [vi (b01 (m_stands h x3 x1))] h from xIf k_X12_openViews_15 (And.intro (fun c5 => have v7 := v16.1 (b01_n.mp c5); (show wp mX12_openViews 1 rc rs Q 21 [some (vr 71), some (vi x1), some (vi x2), some (vi x3)] [] h from xGo k_X12_openViews_21 (have c9 := v7.1; have v10 := v7.2; (And.intro c9 (And.intro rfl v10))))) (fun c6 => have v8 := v16.2 (b01_p.mp c6); (show wp mX12_openViews 1 rc rs Q 18 [some (vr 71), some (vi x1), some (vi x2), some (vi x3)] [] h from xGo k_X12_openViews_18 (have c11 := v8.1; have v14 := v8.2; (And.intro c11 (And.intro rfl (have c12 := v14.1; have v13 := v14.2; (And.intro c12 (And.intro rfl v13)))))))))))))))))))))))))))
def b_X12_segmentPlace_0 : List IE := [(.iconst 0, 1, 0, 0, 0, 0), (.istore_n 2, 1, 0, 0, 2, 0)]
theorem k_X12_segmentPlace_0 : ckB mX12_segmentPlace 12 0 b_X12_segmentPlace_0 2 = true := by decide +kernel
def b_X12_segmentPlace_2 : List IE := [(.iload_n 2, 1, 0, 0, 2, 0), (.aload_n 0, 1, 0, 0, 0, 0), (.getfield 106, 3, 0, 12, 13, 0)]
theorem k_X12_segmentPlace_2 : ckIc mX12_segmentPlace 12 2 b_X12_segmentPlace_2 7 3 79 86 10 = true := by decide +kernel
def b_X12_segmentPlace_10 : List IE := [(.aload_n 0, 1, 0, 0, 0, 0), (.getfield 48, 3, 0, 12, 14, 1), (.iload_n 2, 1, 0, 0, 2, 0), (.iaload, 1, 0, 0, 0, 0), (.istore_n 3, 1, 0, 0, 3, 0), (.iconst 0, 1, 0, 0, 0, 0), (.istore 4, 2, 0, 0, 4, 0)]
theorem k_X12_segmentPlace_10 : ckB mX12_segmentPlace 12 10 b_X12_segmentPlace_10 20 = true := by decide +kernel
def b_X12_segmentPlace_20 : List IE := [(.iload 4, 2, 0, 0, 4, 0), (.aload_n 0, 1, 0, 0, 0, 0), (.getfield 28, 3, 0, 12, 7, 1), (.iload_n 3, 1, 0, 0, 3, 0), (.iaload, 1, 0, 0, 0, 0)]
theorem k_X12_segmentPlace_20 : ckIc mX12_segmentPlace 12 20 b_X12_segmentPlace_20 28 3 52 80 31 = true := by decide +kernel
def b_X12_segmentPlace_31 : List IE := [(.aload_n 0, 1, 0, 0, 0, 0), (.getfield 9, 3, 0, 12, 1, 1), (.aload_n 0, 1, 0, 0, 0, 0), (.getfield 31, 3, 0, 12, 8, 1), (.iload_n 3, 1, 0, 0, 3, 0), (.aaload, 1, 0, 0, 0, 0), (.iload 4, 2, 0, 0, 4, 0), (.iaload, 1, 0, 0, 0, 0), (.iaload, 1, 0, 0, 0, 0), (.iload_n 1, 1, 0, 0, 1, 0)]
theorem k_X12_segmentPlace_31 : ckIc mX12_segmentPlace 12 31 b_X12_segmentPlace_31 46 1 28 74 49 = true := by decide +kernel
def b_X12_segmentPlace_49 : List IE := [(.aload_n 0, 1, 0, 0, 0, 0), (.getfield 21, 3, 0, 12, 4, 1), (.aload_n 0, 1, 0, 0, 0, 0), (.getfield 31, 3, 0, 12, 8, 1), (.iload_n 3, 1, 0, 0, 3, 0), (.aaload, 1, 0, 0, 0, 0), (.iload 4, 2, 0, 0, 4, 0), (.iaload, 1, 0, 0, 0, 0), (.baload, 1, 0, 0, 0, 0)]
theorem k_X12_segmentPlace_49 : ckIf mX12_segmentPlace 12 49 b_X12_segmentPlace_49 63 1 11 74 66 = true := by decide +kernel
def b_X12_segmentPlace_66 : List IE := [(.bipush 100, 2, 100, 0, 0, 0), (.iload_n 2, 1, 0, 0, 2, 0), (.imul, 1, 0, 0, 0, 0), (.iload 4, 2, 0, 0, 4, 0), (.iadd, 1, 0, 0, 0, 0)]
theorem k_X12_segmentPlace_66 : ckI mX12_segmentPlace 12 66 b_X12_segmentPlace_66 73 = true := by decide +kernel
def b_X12_segmentPlace_74 : List IE := [(.iinc 4 1, 3, 1, 0, 4, 0)]
theorem k_X12_segmentPlace_74 : ckGo mX12_segmentPlace 12 74 b_X12_segmentPlace_74 77 (-57) 20 = true := by decide +kernel
def b_X12_segmentPlace_80 : List IE := [(.iinc 2 1, 3, 1, 0, 2, 0)]
theorem k_X12_segmentPlace_80 : ckGo mX12_segmentPlace 12 80 b_X12_segmentPlace_80 83 (-81) 2 = true := by decide +kernel
def b_X12_segmentPlace_86 : List IE := [(.iconst (-1), 1, (-1), 0, 0, 0)]
theorem k_X12_segmentPlace_86 : ckI mX12_segmentPlace 12 86 b_X12_segmentPlace_86 87 = true := by decide +kernel
theorem t_X12_segmentPlace_0 {rc rs : Nat} {Q : Option AV → AH → Prop} {h : AH} {x1 : Int} (hL : LayM h) (hv : wp mX12_segmentPlace 0 rc rs Q 2 [some (vr 71), some (vi x1), some (vi 0), none, none] [] h) : wp mX12_segmentPlace 0 rc rs Q 0 [some (vr 71), some (vi x1), none, none, none] [] h :=
  (show wp mX12_segmentPlace 0 rc rs Q 0 [some (vr 71), some (vi x1), none, none, none] [] h from xB k_X12_segmentPlace_0 (And.intro rfl hv))
theorem e_X12_segmentPlace {mc ms : Nat} {Q : Option AV → AH → Prop} {h : AH} {x1 : Int} (hL : LayM h) (hv : wp mX12_segmentPlace 0 mc ms Q 2 [some (vr 71), some (vi x1), some (vi 0), none, none] [] h) : Ct 0 mc ms mX12_segmentPlace [vr 71, vi x1] h Q := Ct.of (by decide +kernel) (Nat.le_of_ble_eq_true rfl) (t_X12_segmentPlace_0 hL hv)
theorem t_X12_segmentPlace_2 {rc rs : Nat} {Q : Option AV → AH → Prop} {h : AH} {x1 x2 : Int} (hL : LayM h) (hv : (((iH h 71 13) ≤ x2 → Q (some (vi (-1))) h) ∧ (x2 < (iH h 71 13) → (0 ≤ x2 ∧ x2 < 8) ∧ wp mX12_segmentPlace 0 rc rs Q 20 [some (vr 71), some (vi x1), some (vi x2), some (vi (iH h 1137 x2.toNat)), some (vi 0)] [] h))) : wp mX12_segmentPlace 0 rc rs Q 2 [some (vr 71), some (vi x1), some (vi x2), none, none] [] h :=
  (show wp mX12_segmentPlace 0 rc rs Q 2 [some (vr 71), some (vi x1), some (vi x2), none, none] [] h from xIc k_X12_segmentPlace_2 (And.intro (lm_71 hL) (And.intro (fun c1 => have v3 := hv.1 c1; (show wp mX12_segmentPlace 0 rc rs Q 86 [some (vr 71), some (vi x1), some (vi x2), none, none] [] h from xI k_X12_segmentPlace_86 (And.intro rfl v3))) (fun c2 => have v4 := hv.2 (Int.not_le.mp c2); (show wp mX12_segmentPlace 0 rc rs Q 10 [some (vr 71), some (vi x1), some (vi x2), none, none] [] h from xB k_X12_segmentPlace_10 (And.intro (lm_71 hL) (Exists.intro 1137 (And.intro (lf_71_14 hL) (have c5 := v4.1; have v6 := v4.2; (And.intro (sdI (lm_1137 hL) c5) (And.intro rfl (And.intro rfl v6))))))))))))
theorem t_X12_segmentPlace_20 {rc rs : Nat} {Q : Option AV → AH → Prop} {h : AH} {x1 x2 x3 x4 : Int} (hL : LayM h) (hv : (0 ≤ x3 ∧ x3 < 520) ∧ (((iH h 597 x3.toNat) ≤ x4 → (-2147483648 ≤ (x2 + 1) ∧ (x2 + 1) < 2147483648) ∧ wp mX12_segmentPlace 0 rc rs Q 2 [some (vr 71), some (vi x1), some (vi (x2 + 1)), none, none] [] h) ∧ (x4 < (iH h 597 x3.toNat) → (0 ≤ x4 ∧ x4 < 64) ∧ (0 ≤ iH h (599 + x3.toNat) x4.toNat ∧ iH h (599 + x3.toNat) x4.toNat < 520) ∧ (((iH h 72 ((iH h (599 + x3.toNat) x4.toNat).toNat)) ≠ x1 → (-2147483648 ≤ (x4 + 1) ∧ (x4 + 1) < 2147483648) ∧ wp mX12_segmentPlace 0 rc rs Q 20 [some (vr 71), some (vi x1), some (vi x2), some (vi x3), some (vi (x4 + 1))] [] h) ∧ ((iH h 72 ((iH h (599 + x3.toNat) x4.toNat).toNat)) = x1 → (((iH h 595 ((iH h (599 + x3.toNat) x4.toNat).toNat)) ≠ 0 → (-2147483648 ≤ (x4 + 1) ∧ (x4 + 1) < 2147483648) ∧ wp mX12_segmentPlace 0 rc rs Q 20 [some (vr 71), some (vi x1), some (vi x2), some (vi x3), some (vi (x4 + 1))] [] h) ∧ ((iH h 595 ((iH h (599 + x3.toNat) x4.toNat).toNat)) = 0 → (-2147483648 ≤ (100 * x2) ∧ (100 * x2) < 2147483648) ∧ (-2147483648 ≤ ((100 * x2) + x4) ∧ ((100 * x2) + x4) < 2147483648) ∧ Q (some (vi ((100 * x2) + x4))) h))))))) : wp mX12_segmentPlace 0 rc rs Q 20 [some (vr 71), some (vi x1), some (vi x2), some (vi x3), some (vi x4)] [] h :=
  (show wp mX12_segmentPlace 0 rc rs Q 20 [some (vr 71), some (vi x1), some (vi x2), some (vi x3), some (vi x4)] [] h from xIc k_X12_segmentPlace_20 (And.intro (lm_71 hL) (Exists.intro 597 (And.intro (lf_71_7 hL) (have c1 := hv.1; have v32 := hv.2; (And.intro (sdI (lm_597 hL) c1) (And.intro (fun c2 => have v4 := v32.1 c2; (show wp mX12_segmentPlace 0 rc rs Q 80 [some (vr 71), some (vi x1), some (vi x2), some (vi x3), some (vi x4)] [] h from xGo k_X12_segmentPlace_80 (have c6 := v4.1; have v7 := v4.2; (And.intro c6 (And.intro rfl (w_fg [true, true, true, false, false] v7)))))) (fun c3 => have v5 := v32.2 (Int.not_le.mp c3); (show wp mX12_segmentPlace 0 rc rs Q 31 [some (vr 71), some (vi x1), some (vi x2), some (vi x3), some (vi x4)] [] h from xIc k_X12_segmentPlace_31 (And.intro (lm_71 hL) (Exists.intro 72 (And.intro (lf_71_1 hL) (And.intro (lm_71 hL) (Exists.intro 598 (And.intro (lf_71_8 hL) (And.intro (sdQ (lm_598 hL) c1) (Exists.intro (599 + x3.toNat) (And.intro (lr_members hL (tnl c1)) (have c9 := v5.1; have v31 := v5.2; (And.intro (sdI (lk_members hL (tnl c1)) c9) (have c10 := v31.1; have v30 := v31.2; (And.intro (sdI (lm_72 hL) c10) (And.intro (fun c11 => have v13 := v30.1 c11; (show wp mX12_segmentPlace 0 rc rs Q 74 [some (vr 71), some (vi x1), some (vi x2), some (vi x3), some (vi x4)] [] h from xGo k_X12_segmentPlace_74 (have c15 := v13.1; have v16 := v13.2; (And.intro c15 (And.intro rfl v16))))) (fun c12 => have v14 := v30.2 (Decidable.not_not.mp c12); (show wp mX12_segmentPlace 0 rc rs Q 49 [some (vr 71), some (vi x1), some (vi x2), some (vi x3), some (vi x4)] [] h from xIf k_X12_segmentPlace_49 (And.intro (lm_71 hL) (Exists.intro 595 (And.intro (lf_71_4 hL) (And.intro (lm_71 hL) (Exists.intro 598 (And.intro (lf_71_8 hL) (And.intro (sdQ (lm_598 hL) c1) (Exists.intro (599 + x3.toNat) (And.intro (lr_members hL (tnl c1)) (And.intro (sdI (lk_members hL (tnl c1)) c9) (And.intro (sdZ (lm_595 hL) c10) (And.intro (fun c20 => have v22 := v14.1 c20; (show wp mX12_segmentPlace 0 rc rs Q 74 [some (vr 71), some (vi x1), some (vi x2), some (vi x3), some (vi x4)] [] h from xGo k_X12_segmentPlace_74 (have c24 := v22.1; have v25 := v22.2; (And.intro c24 (And.intro rfl v25))))) (fun c21 => have v23 := v14.2 (Decidable.not_not.mp c21); (show wp mX12_segmentPlace 0 rc rs Q 66 [some (vr 71), some (vi x1), some (vi x2), some (vi x3), some (vi x4)] [] h from xI k_X12_segmentPlace_66 (have c26 := v23.1; have v29 := v23.2; (And.intro c26 (have c27 := v29.1; have v28 := v29.2; (And.intro c27 (And.intro rfl v28))))))))))))))))))))))))))))))))))))))))))))
def m_nearP (h : AH) (d a b : Int) (i k : Nat) : Prop := (i : Int) ≠ (k : Int) ∧ max ((i : Int) - (k : Int)) (-((i : Int) - (k : Int))) ≤ 3 ∧ iH h (75 + d.toNat) i = a ∧ iH h (75 + d.toNat) k = b
noncomputable def m_near (h : AH) (d a b : Int) : Int := sumN (fun i => cnt (m_nearP h d a b i) (iH h 73 d.toNat).toNat) (iH h 73 d.toNat).toNat
theorem c_near {h : AH} (hL : LayM h) {d a b : Int} (hd : m_doc h d) : Ct 1 0 0 mX12_near [vr 71, vi d, vi a, vi b] h (QI fun x h' => x = m_near h d a b ∧ h' = h) := by
  have hs := hd.2.1
  have hbd : ∀ i : Nat, 0 ≤ cnt (m_nearP h d a b i) (iH h 73 d.toNat).toNat ∧ cnt (m_nearP h d a b i) (iH h 73 d.toNat).toNat ≤ 12 := fun i => by have := cnt_bd (m_nearP h d a b i) (iH h 73 d.toNat).toNat; omega
  refine e_X12_near hL (up (P := fun i => wp mX12_near 1 _ _ _ 6 [some (vr 71), some (vi d), some (vi a), some (vi b), some (vi (sumN (fun i => cnt (m_nearP h d a b i) (iH h 73 d.toNat).toNat) i)), some (vi i), none] [] h) (iH h 73 d.toNat).toNat ?_ ?_)
  · exact t_X12_near_6 hL ⟨hd.1, fun _ => ⟨_, rfl, rfl, rfl⟩, fun c => absurd c (by omega)⟩
  · intro i hi ih
    have hb := sumN_bd (fun i => cnt (m_nearP h d a b i) (iH h 73 d.toNat).toNat) 12 (by omega) i (fun j _ => hbd j)
    refine t_X12_near_6 hL ⟨hd.1, fun c => absurd c (by omega), fun c => ?_⟩
    have e0 : sumN (fun i => cnt (m_nearP h d a b i) (iH h 73 d.toNat).toNat) i = sumN (fun i => cnt (m_nearP h d a b i) (iH h 73 d.toNat).toNat) i + cnt (m_nearP h d a b i) 0 := by show _ = _ + (0 : Int); omega
    rw [e0]
    refine up (P := fun k => wp mX12_near 1 _ _ _ 20 [some (vr 71), some (vi d), some (vi a), some (vi b), some (vi (sumN (fun i => cnt (m_nearP h d a b i) (iH h 73 d.toNat).toNat) i + cnt (m_nearP h d a b i) k)), some (vi i), some (vi k)] [] h) (iH h 73 d.toNat).toNat ?_ ?_
    · exact t_X12_near_20 hL ⟨hd.1, fun _ => ⟨by omega, ih⟩, fun c => absurd c (by omega)⟩
    · intro k hk ih2
      have hb2 := cnt_bd (m_nearP h d a b i) k
      have no : ¬ m_nearP h d a b i k → wp mX12_near 1 0 0 (QI fun x h' => x = m_near h d a b ∧ h' = h) 20 [some (vr 71), some (vi d), some (vi a), some (vi b), some (vi (sumN (fun i => cnt (m_nearP h d a b i) (iH h 73 d.toNat).toNat) i + cnt (m_nearP h d a b i) k)), some (vi i), some (vi ((k : Int) + 1))] [] h := fun q => by
        rw [← cnt_n (p := m_nearP h d a b i) (n := k) q]; exact ih2
      refine t_X12_near_20 hL ⟨hd.1, fun c => absurd c (by omega), fun c => ⟨fun c2 => ⟨by omega, no fun q => q.1 c2⟩, fun c2 => ⟨by omega, by omega, fun c3 => ⟨by omega, no fun q => by have := q.2.1; omega⟩, fun c3 => ⟨by omega, fun c4 => ⟨by omega, no fun q => c4 q.2.2.1⟩, fun c4 => ⟨by omega, fun c5 => ⟨by omega, no fun q => c5 q.2.2.2⟩, fun c5 => ⟨by omega, by omega, ?_⟩⟩⟩⟩⟩⟩
      rw [Int.add_assoc, ← cnt_s (p := m_nearP h d a b i) (n := k) ⟨c2, c3, c4, c5⟩]; exact ih2
theorem m_near_bd {h : AH} {d a b : Int} (hd : m_doc h d) : 0 ≤ m_near h d a b ∧ m_near h d a b ≤ 144 := by
  have hs := hd.2.1
  have hb := sumN_bd (fun i => cnt (m_nearP h d a b i) (iH h 73 d.toNat).toNat) 12 (by omega) (iH h 73 d.toNat).toNat (fun i _ => by have := cnt_bd (m_nearP h d a b i) (iH h 73 d.toNat).toNat; omega)
  unfold m_near; omega
def m_tbP (h : AH) (d b l : Int) (k : Nat) : Prop := m_beg (iH h (75 + d.toNat) k) b l
noncomputable def m_tb (h : AH) (d b l : Int) : Int := cnt (m_tbP h d b l) (iH h 73 d.toNat).toNat
def m_bl (b l : Int) : Prop := (0 ≤ b ∧ b < 2147483648) ∧ (0 ≤ l ∧ l ≤ 6)
theorem c_timesBegun {h : AH} (hL : LayM h) {d b l : Int} (hd : m_doc h d ∧ m_bl b l) : Ct 2 0 0 mX12_timesBegun [vr 71, vi d, vi b, vi l] h (QI fun x h' => x = m_tb h d b l ∧ h' = h) := by
  have hs := hd.1.2.1
  refine e_X12_timesBegun hL (up (P := fun k => wp mX12_timesBegun 2 _ _ _ 6 [some (vr 71), some (vi d), some (vi b), some (vi l), some (vi (cnt (m_tbP h d b l) k)), some (vi k)] [] h) (iH h 73 d.toNat).toNat ?_ ?_)
  · exact t_X12_timesBegun_6 hL ⟨hd.1.1, fun _ => ⟨_, rfl, rfl, rfl⟩, fun c => absurd c (by omega)⟩
  · intro k hk ih
    have hb := cnt_bd (m_tbP h d b l) k
    refine t_X12_timesBegun_6 hL ⟨hd.1.1, fun c => absurd c (by omega), fun c => ?_⟩
    have hw := hd.1.2.2 k c
    refine ⟨by omega, ⟨⟨by simp only [Int.toNat_natCast]; omega, by simp only [Int.toNat_natCast]; omega⟩, hd.2.1, hd.2.2⟩, fun c2 => ⟨by omega, ?_⟩, fun c2 => ⟨by omega, by omega, ?_⟩⟩
    · rw [← cnt_n (p := m_tbP h d b l) (n := k) c2]; exact ih
    · rw [← cnt_s (p := m_tbP h d b l) (n := k) c2]; exact ih
theorem m_tb_bd {h : AH} {d b l : Int} (hd : m_doc h d) : 0 ≤ m_tb h d b l ∧ m_tb h d b l ≤ 12 := by
  have h1 := cnt_bd (m_tbP h d b l) (iH h 73 d.toNat).toNat
  have h2 := hd.2.1
  unfold m_tb; omega
theorem andI_0 {x : Int} (hx : x = 0 ∨ x = 1) : andI x 0 = 0 := by rcases hx with rfl | rfl <;> decide +kernel
theorem andI_1 {x : Int} (hx : x = 0 ∨ x = 1) : andI x 1 = x := by rcases hx with rfl | rfl <;> decide +kernel
theorem orI_0 {x : Int} (hx : x = 0 ∨ x = 1) : orI x 0 = x := by rcases hx with rfl | rfl <;> decide +kernel
theorem orI_1 {x : Int} (hx : x = 0 ∨ x = 1) : orI x 1 = 1 := by rcases hx with rfl | rfl <;> decide +kernel
def m_phE (h : AH) (d : Int) (a : Nat) (f : Int) (k j : Nat) : Prop := ∀ i, i < j → iH h (75 + d.toNat) (k + i) = iH h a (f.toNat + i)
def m_phP (h : AH) (d : Int) (a : Nat) (f n : Int) (k : Nat) : Prop := m_phE h d a f k n.toNat
noncomputable def m_ph (h : AH) (d : Int) (a : Nat) (f n : Int) : Int := cnt (m_phP h d a f n) (iH h 73 d.toNat - n + 1).toNat
theorem m_ph_bd {h : AH} {d : Int} {a : Nat} {f n : Int} (hd : m_doc h d) (hn : 1 ≤ n) : 0 ≤ m_ph h d a f n ∧ m_ph h d a f n ≤ 12 := by
  have h1 := cnt_bd (m_phP h d a f n) (iH h 73 d.toNat - n + 1).toNat
  have h2 := hd.2.1
  unfold m_ph; omega
theorem c_phraseTimes {h : AH} (hL : LayM h) {a na : Nat} {d f n : Int} (ha : a < nH h ∧ kH h a = (13, na)) (hd : m_doc h d) (hf : 0 ≤ f ∧ 1 ≤ n ∧ n ≤ 6 ∧ f + n ≤ (na : Int) ∧ na ≤ 1000) : Ct 0 0 0 mX12_phraseTimes [vr 71, vi d, vr a, vi f, vi n] h (QI fun x h' => x = m_ph h d a f n ∧ h' = h) := by
  have hs := hd.2.1
  refine e_X12_phraseTimes hL ha (up (P := fun k => wp mX12_phraseTimes 0 _ _ _ 6 [some (vr 71), some (vi d), some (vr a), some (vi f), some (vi n), some (vi (cnt (m_phP h d a f n) k)), some (vi k), none, none] [] h) (iH h 73 d.toNat - n + 1).toNat ?_ ?_)
  · exact t_X12_phraseTimes_6 hL ha ⟨by omega, hd.1, fun _ => ⟨_, rfl, rfl, rfl⟩, fun c => absurd c (by omega)⟩
  · intro k hk ih
    have hb := cnt_bd (m_phP h d a f n) k
    refine t_X12_phraseTimes_6 hL ha ⟨by omega, hd.1, fun c => absurd c (by omega), fun c => ?_⟩
    have e0 : (1 : Int) = b01 (m_phE h d a f k 0) := (b01_t (fun i hi => by omega)).symm
    rw [e0]
    refine up (P := fun j => wp mX12_phraseTimes 0 _ _ _ 26 [some (vr 71), some (vi d), some (vr a), some (vi f), some (vi n), some (vi (cnt (m_phP h d a f n) k)), some (vi k), some (vi (b01 (m_phE h d a f k j))), some (vi j)] [] h) n.toNat ?_ ?_
    · refine t_X12_phraseTimes_26 hL ha ⟨fun _ => ⟨fun c2 => ⟨by omega, ?_⟩, fun c2 => ⟨by omega, by omega, ?_⟩⟩, fun c => absurd c (by omega)⟩
      · rw [← cnt_n (p := m_phP h d a f n) (n := k) (b01_n.mp c2)]; exact ih
      · rw [← cnt_s (p := m_phP h d a f n) (n := k) (b01_p.mp c2)]; exact ih
    · intro j hj ih2
      have e1 : ((k : Int) + (j : Int)).toNat = k + j := by omega
      have e2 : (f + (j : Int)).toNat = f.toNat + j := by omega
      refine t_X12_phraseTimes_26 hL ha ⟨fun c => absurd c (by omega), fun c => ⟨hd.1, by omega, by omega, by omega, by omega, fun c2 => ⟨by omega, ?_⟩, fun c2 => ⟨by omega, ?_⟩⟩⟩
      · rw [e1, e2] at c2
        rw [andI_0 (b01_01 _), show (0 : Int) = b01 (m_phE h d a f k (j + 1)) from (b01_f (fun q => c2 (q j (by omega)))).symm]
        exact ih2
      · rw [e1, e2] at c2
        rw [andI_1 (b01_01 _), show m_phE h d a f k j = m_phE h d a f k (j + 1) from propext ⟨fun q i hi => by
          by_cases e : i = j
          · subst e; exact c2
          · exact q i (by omega), fun q i hi => q i (by omega)⟩]
        exact ih2
noncomputable def m_opv (h : AH) (g : Int) : Int := cnt (fun v => m_stands h v g) 4
theorem c_openViews {h : AH} (hL : LayM h) {g : Int} (hv : ∀ v : Nat, v < 7 → m_std h v) : Ct 1 0 0 mX12_openViews [vr 71, vi g] h (QI fun x h' => x = m_opv h g ∧ h' = h) := by
  refine e_X12_openViews hL (up (P := fun k => wp mX12_openViews 1 _ _ _ 4 [some (vr 71), some (vi g), some (vi (cnt (fun v => m_stands h v g) k)), some (vi k)] [] h) 4 ?_ ?_)
  · exact t_X12_openViews_4 hL ⟨fun _ => ⟨_, rfl, rfl, rfl⟩, fun c => absurd c (by omega)⟩
  · intro k hk ih
    have hb := cnt_bd (fun v => m_stands h v g) k
    refine t_X12_openViews_4 hL ⟨fun c => absurd c (by omega), fun c => ⟨hv k (by omega), fun c2 => ⟨by omega, ?_⟩, fun c2 => ⟨by omega, by omega, ?_⟩⟩⟩
    · rw [← cnt_n (p := fun v => m_stands h v g) (n := k) c2]; exact ih
    · rw [← cnt_s (p := fun v => m_stands h v g) (n := k) c2]; exact ih
def m_spP (h : AH) (key g : Int) (k : Nat) : Prop := iH h 72 (iH h (599 + g.toNat) k).toNat = key ∧ iH h 595 (iH h (599 + g.toNat) k).toNat = 0
noncomputable def m_sp1 (h : AH) (key : Int) (s : Nat) : Int := fst (m_spP h key (iH h 1137 s)) (iH h 597 (iH h 1137 s).toNat).toNat
noncomputable def m_sps (h : AH) (key : Int) : Int := fst (fun s => m_sp1 h key s ≠ -1) (iH h 71 13).toNat
noncomputable def m_sp (h : AH) (key : Int) : Int := if m_sps h key = -1 then -1 else 100 * m_sps h key + m_sp1 h key (m_sps h key).toNat
theorem c_segmentPlace {h : AH} (hL : LayM h) {key : Int} (hn : m_now h) : Ct 0 0 0 mX12_segmentPlace [vr 71, vi key] h (QI fun x h' => x = m_sp h key ∧ h' = h) := by
  have hl := hn.1
  refine e_X12_segmentPlace hL (up (P := fun s => (∀ j, j < s → ¬ m_sp1 h key j ≠ -1) → wp mX12_segmentPlace 0 _ _ _ 2 [some (vr 71), some (vi key), some (vi s), none, none] [] h) (iH h 71 13).toNat ?_ ?_ (fun j hj => by omega))
  · intro hno
    refine t_X12_segmentPlace_2 hL ⟨fun _ => ⟨_, rfl, ?_, rfl⟩, fun c => absurd c (by omega)⟩
    unfold m_sp m_sps
    rw [fst_no hno, if_pos rfl]
  · intro s hs ih hno
    refine t_X12_segmentPlace_2 hL ⟨fun c => absurd c (by omega), fun c => ⟨by omega, ?_⟩⟩
    have hg := hn.2 s c
    have hg2 := hg.2.1
    refine up (P := fun k => (∀ j, j < k → ¬ m_spP h key (iH h 1137 s) j) → wp mX12_segmentPlace 0 _ _ _ 20 [some (vr 71), some (vi key), some (vi s), some (vi (iH h 1137 s)), some (vi k)] [] h) (iH h 597 (iH h 1137 s).toNat).toNat ?_ ?_ (fun j hj => by omega)
    · intro hno2
      refine t_X12_segmentPlace_20 hL ⟨hg.1, fun _ => ⟨by omega, ih fun j hj => ?_⟩, fun c => absurd c (by omega)⟩
      by_cases e : j = s
      · subst e
        exact fun q => q (fst_no hno2)
      · exact hno j (by omega)
    · intro k hk ih2 hno2
      have no : ¬ m_spP h key (iH h 1137 s) k → ∀ j, j < k + 1 → ¬ m_spP h key (iH h 1137 s) j := fun q j hj => by
        by_cases e : j = k
        · subst e; exact q
        · exact hno2 j (by omega)
      refine t_X12_segmentPlace_20 hL ⟨hg.1, fun c => absurd c (by omega), fun c => ⟨by omega, hg.2.2 k c, fun c2 => ⟨by omega, ih2 (no fun q => c2 q.1)⟩, fun c2 => ⟨fun c3 => ⟨by omega, ih2 (no fun q => c3 q.2)⟩, fun c3 => ⟨by omega, by omega, _, rfl, ?_, rfl⟩⟩⟩⟩
      have e1 : m_sp1 h key s = k := fst_at hk hno2 ⟨c2, c3⟩
      have e2 : m_sps h key = s := fst_at hs hno (by rw [e1]; omega)
      unfold m_sp
      rw [e2, if_neg (by omega), show ((s : Int)).toNat = s from rfl, e1]
end
section
/-! THE REFERENCE: DICTIONARIES, WHAT IS TOLD OF SEGMENTS -/
/-- dn and dw tell all values of f on S, in order -/
def IsD (f : Nat → Nat → Int) (S : Nat → Nat → Prop) (dn : Nat) (dw : Nat → Int) : Prop := (∀ i j, i < j → j < dn → dw i < dw j) ∧ (∀ k i, S k i → ∃ j, j < dn ∧ dw j = f k i) ∧ ∀ j, j < dn → ∃ k i, S k i ∧ f k i = dw j
def wq (dn : Nat) (dw : Nat → Int) (j : Nat) : Int := if j < dn then dw j else -1
theorem IsD.mono {f : Nat → Nat → Int} {S : Nat → Nat → Prop} {dn : Nat} {dw : Nat → Int} (hD : IsD f S dn dw) {i j : Nat} (h1 : i ≤ j) (h2 : j < dn) : dw i ≤ dw j := by
  by_cases e : i = j
  · subst e; exact Int.le_refl _
  · have := hD.1 i j (by omega) h2; omega
theorem IsD.nx0 {f : Nat → Nat → Int} {S : Nat → Nat → Prop} {dn : Nat} {dw : Nat → Int} (hD : IsD f S dn dw) (h0 : ∀ k i, S k i → 0 < f k i) : Abv f 0 S (wq dn dw 0) := by
  unfold wq
  by_cases c : 0 < dn
  · rw [if_pos c]
    obtain ⟨a, b, h1, h2⟩ := hD.2.2 0 c
    refine Or.inr ⟨by rw [← h2]; exact h0 a b h1, ⟨a, b, h1, h2⟩, fun k i hk _ => ?_⟩
    obtain ⟨j, h3, h4⟩ := hD.2.1 k i hk
    rw [← h4]
    exact hD.mono (by omega) h3
  · rw [if_neg c]
    refine Or.inl ⟨rfl, fun k i hk => ?_⟩
    obtain ⟨j, h3, h4⟩ := hD.2.1 k i hk
    omega
theorem IsD.nxs {f : Nat → Nat → Int} {S : Nat → Nat → Prop} {dn : Nat} {dw : Nat → Int} (hD : IsD f S dn dw) {j : Nat} (hj : j < dn) : Abv f (dw j) S (wq dn dw (j + 1)) := by
  unfold wq
  by_cases c : j + 1 < dn
  · rw [if_pos c]
    obtain ⟨a, b, h1, h2⟩ := hD.2.2 (j + 1) c
    refine Or.inr ⟨hD.1 _ _ (by omega) c, ⟨a, b, h1, h2⟩, fun k i hk hw => ?_⟩
    obtain ⟨l, h3, h4⟩ := hD.2.1 k i hk
    rw [← h4] at hw ⊢
    by_cases e : j + 1 ≤ l
    · exact hD.mono e h3
    · have := hD.mono (show l ≤ j by omega) hj; omega
  · rw [if_neg c]
    refine Or.inl ⟨rfl, fun k i hk => ?_⟩
    obtain ⟨l, h3, h4⟩ := hD.2.1 k i hk
    rw [← h4]
    exact hD.mono (by omega) hj
theorem IsD.pos {f : Nat → Nat → Int} {S : Nat → Nat → Prop} {dn : Nat} {dw : Nat → Int} (hD : IsD f S dn dw) (h0 : ∀ k i, S k i → 0 < f k i) {j : Nat} (hj : j < dn) : 0 < dw j := by
  obtain ⟨a, b, h1, h2⟩ := hD.2.2 j hj
  rw [← h2]; exact h0 a b h1
theorem IsD.wq_eq {f : Nat → Nat → Int} {S : Nat → Nat → Prop} {dn dn' : Nat} {dw dw' : Nat → Int} (hD : IsD f S dn dw) (hD' : IsD f S dn' dw') (h0 : ∀ k i, S k i → 0 < f k i) : ∀ j, wq dn dw j = wq dn' dw' j
  | 0 => Abv.un (hD.nx0 h0) (hD'.nx0 h0)
  | j + 1 => by
    have ih := hD.wq_eq hD' h0 j
    by_cases c : j < dn
    · by_cases c' : j < dn'
      · have e : dw j = dw' j := by unfold wq at ih; rw [if_pos c, if_pos c'] at ih; exact ih
        have h1 := hD.nxs c
        rw [e] at h1
        exact Abv.un h1 (hD'.nxs c')
      · have := hD.pos h0 c
        unfold wq at ih; rw [if_pos c, if_neg c'] at ih; omega
    · by_cases c' : j < dn'
      · have := hD'.pos h0 c'
        unfold wq at ih; rw [if_neg c, if_pos c'] at ih; omega
      · unfold wq; rw [if_neg (by omega), if_neg (by omega)]
theorem IsD.un {f : Nat → Nat → Int} {S : Nat → Nat → Prop} {dn dn' : Nat} {dw dw' : Nat → Int} (hD : IsD f S dn dw) (hD' : IsD f S dn' dw') (h0 : ∀ k i, S k i → 0 < f k i) : dn = dn' ∧ ∀ j, j < dn → dw j = dw' j := by
  have hq := hD.wq_eq hD' h0
  have h1 : dn = dn' := by
    by_cases c : dn < dn'
    · have := hq dn
      have hp := hD'.pos h0 c
      unfold wq at this; rw [if_neg (by omega), if_pos c] at this; omega
    · by_cases c2 : dn' < dn
      · have := hq dn'
        have hp := hD.pos h0 c2
        unfold wq at this; rw [if_pos c2, if_neg (by omega)] at this; omega
      · omega
  subst h1
  refine ⟨rfl, fun j hj => ?_⟩
  have := hq j
  unfold wq at this; rw [if_pos hj, if_pos hj] at this; exact this
noncomputable def m_dn (h : AH) (g : Int) : Nat := Classical.epsilon (fun n => ∃ dw, IsD (m_wd h g) (m_wi h g) n dw)
noncomputable def m_dw (h : AH) (g : Int) : Nat → Int := Classical.epsilon (fun dw => IsD (m_wd h g) (m_wi h g) (m_dn h g) dw)
def m_dict (h : AH) (g : Int) : Prop := m_segd h g ∧ ∃ n dw, n ≤ 768 ∧ IsD (m_wd h g) (m_wi h g) n dw
theorem m_wd_pos {h : AH} {g : Int} (hg : m_segd h g) : ∀ k i, m_wi h g k i → 0 < m_wd h g k i := fun k i hw => ((hg.2 k hw.1).2.2 i hw.2).1
theorem m_wd_lt {h : AH} {g : Int} (hg : m_segd h g) : ∀ k i, m_wi h g k i → m_wd h g k i < 387420489 := fun k i hw => ((hg.2 k hw.1).2.2 i hw.2).2
theorem m_dict_D {h : AH} {g : Int} (hg : m_dict h g) : m_dn h g ≤ 768 ∧ IsD (m_wd h g) (m_wi h g) (m_dn h g) (m_dw h g) := by
  obtain ⟨hs, n, dw, hn, hD⟩ := hg
  have h1 : ∃ dw, IsD (m_wd h g) (m_wi h g) (m_dn h g) dw := Classical.epsilon_spec (p := fun n => ∃ dw, IsD (m_wd h g) (m_wi h g) n dw) ⟨n, dw, hD⟩
  have h2 : IsD (m_wd h g) (m_wi h g) (m_dn h g) (m_dw h g) := Classical.epsilon_spec h1
  exact ⟨by rw [(h2.un hD (m_wd_pos hs)).1]; exact hn, h2⟩
theorem m_dw_un {h : AH} {g : Int} (hg : m_segd h g) {n : Nat} {dw : Nat → Int} (hn : n ≤ 768) (hD : IsD (m_wd h g) (m_wi h g) n dw) : m_dn h g = n ∧ ∀ j, j < n → m_dw h g j = dw j := by
  have h2 := (m_dict_D ⟨hg, n, dw, hn, hD⟩).2
  have h3 := h2.un hD (m_wd_pos hg)
  exact ⟨h3.1, fun j hj => h3.2 j (by omega)⟩
theorem m_dw_bd {h : AH} {g : Int} (hg : m_dict h g) {j : Nat} (hj : j < m_dn h g) : 0 < m_dw h g j ∧ m_dw h g j < 387420489 := by
  have hD := (m_dict_D hg).2
  obtain ⟨a, b, h1, h2⟩ := hD.2.2 j hj
  rw [← h2]
  exact ⟨m_wd_pos hg.1 a b h1, m_wd_lt hg.1 a b h1⟩
theorem m_nx0 {h : AH} {g : Int} (hg : m_dict h g) : m_nx h g 0 = wq (m_dn h g) (m_dw h g) 0 := m_nx_e ((m_dict_D hg).2.nx0 (m_wd_pos hg.1))
theorem m_nxs {h : AH} {g : Int} (hg : m_dict h g) {j : Nat} (hj : j < m_dn h g) : m_nx h g (m_dw h g j) = wq (m_dn h g) (m_dw h g) (j + 1) := m_nx_e ((m_dict_D hg).2.nxs hj)
def b_X12_dictionary_0 : List IE := [(.iconst 0, 1, 0, 0, 0, 0), (.istore_n 3, 1, 0, 0, 3, 0), (.aload_n 0, 1, 0, 0, 0, 0), (.iload_n 1, 1, 0, 0, 1, 0), (.iconst 0, 1, 0, 0, 0, 0)]
theorem k_X12_dictionary_0 : ckB mX12_dictionary 12 0 b_X12_dictionary_0 5 = true := by decide +kernel
def b_X12_dictionary_8 : List IE := [(.istore 4, 2, 0, 0, 4, 0)]
theorem k_X12_dictionary_8 : ckB mX12_dictionary 12 8 b_X12_dictionary_8 10 = true := by decide +kernel
def b_X12_dictionary_10 : List IE := [(.iload 4, 2, 0, 0, 4, 0), (.iconst (-1), 1, (-1), 0, 0, 0)]
theorem k_X12_dictionary_10 : ckIc mX12_dictionary 12 10 b_X12_dictionary_10 13 0 33 46 16 = true := by decide +kernel
def b_X12_dictionary_16 : List IE := [(.iload_n 3, 1, 0, 0, 3, 0), (.iload_n 2, 1, 0, 0, 2, 0)]
theorem k_X12_dictionary_16 : ckIf mX12_dictionary 12 16 b_X12_dictionary_16 18 0 13 31 21 = true := by decide +kernel
def b_X12_dictionary_21 : List IE := [(.aload_n 0, 1, 0, 0, 0, 0), (.iload_n 1, 1, 0, 0, 1, 0), (.iload 4, 2, 0, 0, 4, 0)]
theorem k_X12_dictionary_21 : ckB mX12_dictionary 12 21 b_X12_dictionary_21 25 = true := by decide +kernel
def b_X12_dictionary_28 : List IE := []
theorem k_X12_dictionary_28 : ckGo mX12_dictionary 12 28 b_X12_dictionary_28 28 4 32 = true := by decide +kernel
def b_X12_dictionary_31 : List IE := [(.iconst 1, 1, 1, 0, 0, 0), (.iadd, 1, 0, 0, 0, 0), (.istore_n 3, 1, 0, 0, 3, 0), (.aload_n 0, 1, 0, 0, 0, 0), (.iload_n 1, 1, 0, 0, 1, 0), (.iload 4, 2, 0, 0, 4, 0)]
theorem k_X12_dictionary_31 : ckB mX12_dictionary 12 31 b_X12_dictionary_31 38 = true := by decide +kernel
def b_X12_dictionary_32 : List IE := [(.iadd, 1, 0, 0, 0, 0), (.istore_n 3, 1, 0, 0, 3, 0), (.aload_n 0, 1, 0, 0, 0, 0), (.iload_n 1, 1, 0, 0, 1, 0), (.iload 4, 2, 0, 0, 4, 0)]
theorem k_X12_dictionary_32 : ckB mX12_dictionary 12 32 b_X12_dictionary_32 38 = true := by decide +kernel
def b_X12_dictionary_41 : List IE := [(.istore 4, 2, 0, 0, 4, 0)]
theorem k_X12_dictionary_41 : ckGo mX12_dictionary 12 41 b_X12_dictionary_41 43 (-33) 10 = true := by decide +kernel
def b_X12_dictionary_46 : List IE := [(.iload_n 3, 1, 0, 0, 3, 0)]
theorem k_X12_dictionary_46 : ckI mX12_dictionary 12 46 b_X12_dictionary_46 47 = true := by decide +kernel
theorem s_X12_dictionary_5 : cV mX12_dictionary 5 mX12_wordAbove 185 2 12 := ⟨by decide +kernel, ⟨ml_X12_wordAbove, li_RX12_185, im_X12_wordAbove, se_X12_wordAbove⟩, ⟨by decide +kernel, by decide +kernel⟩, by decide +kernel⟩
theorem s_X12_dictionary_25 : cV mX12_dictionary 25 mX12_postings 188 2 12 := ⟨by decide +kernel, ⟨ml_X12_postings, li_RX12_188, im_X12_postings, se_X12_postings⟩, ⟨by decide +kernel, by decide +kernel⟩, by decide +kernel⟩
theorem s_X12_dictionary_38 : cV mX12_dictionary 38 mX12_wordAbove 185 2 12 := ⟨by decide +kernel, ⟨ml_X12_wordAbove, li_RX12_185, im_X12_wordAbove, se_X12_wordAbove⟩, ⟨by decide +kernel, by decide +kernel⟩, by decide +kernel⟩
theorem t_X12_dictionary_0 {rc rs : Nat} {Q : Option AV → AH → Prop} {h : AH} {x1 x2 : Int} (hL : LayM h) (hv : (m_segd h x1 ∧ 0 ≤ (0 : Int)) ∧ wp mX12_dictionary 2 rc rs Q 10 [some (vr 71), some (vi x1), some (vi x2), some (vi 0), some (vi (m_nx h x1 (0 : Int)))] [] h) : wp mX12_dictionary 2 rc rs Q 0 [some (vr 71), some (vi x1), some (vi x2), none, none] [] h :=
  (show wp mX12_dictionary 2 rc rs Q 0 [some (vr 71), some (vi x1), some (vi x2), none, none] [] h from xcV k_X12_dictionary_0 s_X12_dictionary_5 (And.intro rfl (have c1 := hv.1; have v2 := hv.2; (Exists.intro [vi x1, vi 0] (Exists.intro 71 (Exists.intro [] (And.intro (And.intro rfl (And.intro rfl (Nat.le_of_ble_eq_true rfl))) (And.intro (lm_71 hL) (Exists.intro 0 (Exists.intro 0 (Exists.intro 0 (Exists.intro _ (And.intro (c_wordAbove hL c1) (And.intro (And.intro (by decide) (And.intro (Nat.zero_le _) (Nat.zero_le _))) (eQP (show wp mX12_dictionary 2 rc rs Q 8 [some (vr 71), some (vi x1), some (vi x2), some (vi 0), none] [vi (m_nx h x1 (0 : Int))] h from xB k_X12_dictionary_8 (And.intro rfl v2)))))))))))))))))
theorem e_X12_dictionary {mc ms : Nat} {Q : Option AV → AH → Prop} {h : AH} {x1 x2 : Int} (hL : LayM h) (hv : (m_segd h x1 ∧ 0 ≤ (0 : Int)) ∧ wp mX12_dictionary 2 mc ms Q 10 [some (vr 71), some (vi x1), some (vi x2), some (vi 0), some (vi (m_nx h x1 (0 : Int)))] [] h) : Ct 2 mc ms mX12_dictionary [vr 71, vi x1, vi x2] h Q := Ct.of (by decide +kernel) (Nat.le_of_ble_eq_true rfl) (t_X12_dictionary_0 hL hv)
theorem t_X12_dictionary_10 {rc rs : Nat} {Q : Option AV → AH → Prop} {h : AH} {x1 x2 x3 x4 : Int} (hL : LayM h) (hv : ((x4 = (-1) → Q (some (vi x3)) h) ∧ (x4 ≠ (-1) → ((x2 = 0 → (-2147483648 ≤ (x3 + 1) ∧ (x3 + 1) < 2147483648) ∧ (m_segd h x1 ∧ 0 ≤ x4) ∧ wp mX12_dictionary 2 rc rs Q 10 [some (vr 71), some (vi x1), some (vi x2), some (vi (x3 + 1)), some (vi (m_nx h x1 x4))] [] h) ∧ (x2 ≠ 0 → (m_segd h x1) ∧ (-2147483648 ≤ (x3 + (m_post h x1 x4)) ∧ (x3 + (m_post h x1 x4)) < 2147483648) ∧ (m_segd h x1 ∧ 0 ≤ x4) ∧ wp mX12_dictionary 2 rc rs Q 10 [some (vr 71), some (vi x1), some (vi x2), some (vi (x3 + (m_post h x1 x4))), some (vi (m_nx h x1 x4))] [] h))))) : wp mX12_dictionary 2 rc rs Q 10 [some (vr 71), some (vi x1), some (vi x2), some (vi x3), some (vi x4)] [] h :=
  (show wp mX12_dictionary 2 rc rs Q 10 [some (vr 71), some (vi x1), some (vi x2), some (vi x3), some (vi x4)] [] h from xIc k_X12_dictionary_10 (And.intro (fun c1 => have v3 := hv.1 c1; (show wp mX12_dictionary 2 rc rs Q 46 [some (vr 71), some (vi x1), some (vi x2), some (vi x3), some (vi x4)] [] h from xI k_X12_dictionary_46 (And.intro rfl v3))) (fun c2 => have v4 := hv.2 c2; (show wp mX12_dictionary 2 rc rs Q 16 [some (vr 71), some (vi x1), some (vi x2), some (vi x3), some (vi x4)] [] h from xIf k_X12_dictionary_16 (And.intro (fun c5 => have v7 := v4.1 c5; (show wp mX12_dictionary 2 rc rs Q 31 [some (vr 71), some (vi x1), some (vi x2), some (vi x3), some (vi x4)] [vi x3] h from xcV k_X12_dictionary_31 s_X12_dictionary_38 (have c9 := v7.1; have v13 := v7.2; (And.intro c9 (And.intro rfl (have c10 := v13.1; have v11 := v13.2; (Exists.intro [vi x1, vi x4] (Exists.intro 71 (Exists.intro [] (And.intro (And.intro rfl (And.intro rfl (Nat.le_of_ble_eq_true rfl))) (And.intro (lm_71 hL) (Exists.intro 0 (Exists.intro 0 (Exists.intro 0 (Exists.intro _ (And.intro (c_wordAbove hL c10) (And.intro (And.intro (by decide) (And.intro (Nat.zero_le _) (Nat.zero_le _))) (eQP (show wp mX12_dictionary 2 rc rs Q 41 [some (vr 71), some (vi x1), some (vi x2), some (vi (x3 + 1)), some (vi x4)] [vi (m_nx h x1 x4)] h from xGo k_X12_dictionary_41 (And.intro rfl v11)))))))))))))))))))) (fun c6 => have v8 := v4.2 c6; (show wp mX12_dictionary 2 rc rs Q 21 [some (vr 71), some (vi x1), some (vi x2), some (vi x3), some (vi x4)] [vi x3] h from xcV k_X12_dictionary_21 s_X12_dictionary_25 (have c19 := v8.1; have v20 := v8.2; (Exists.intro [vi x1, vi x4] (Exists.intro 71 (Exists.intro [vi x3] (And.intro (And.intro rfl (And.intro rfl (Nat.le_of_ble_eq_true rfl))) (And.intro (lm_71 hL) (Exists.intro 1 (Exists.intro 0 (Exists.intro 0 (Exists.intro _ (And.intro (c_postings hL c19) (And.intro (And.intro (by decide) (And.intro (Nat.zero_le _) (Nat.zero_le _))) (eQP (show wp mX12_dictionary 2 rc rs Q 28 [some (vr 71), some (vi x1), some (vi x2), some (vi x3), some (vi x4)] [vi (m_post h x1 x4), vi x3] h from xGo k_X12_dictionary_28 (show wp mX12_dictionary 2 rc rs Q 32 [some (vr 71), some (vi x1), some (vi x2), some (vi x3), some (vi x4)] [vi (m_post h x1 x4), vi x3] h from xcV k_X12_dictionary_32 s_X12_dictionary_38 (have c14 := v20.1; have v18 := v20.2; (And.intro c14 (And.intro rfl (have c15 := v18.1; have v16 := v18.2; (Exists.intro [vi x1, vi x4] (Exists.intro 71 (Exists.intro [] (And.intro (And.intro rfl (And.intro rfl (Nat.le_of_ble_eq_true rfl))) (And.intro (lm_71 hL) (Exists.intro 0 (Exists.intro 0 (Exists.intro 0 (Exists.intro _ (And.intro (c_wordAbove hL c15) (And.intro (And.intro (by decide) (And.intro (Nat.zero_le _) (Nat.zero_le _))) (eQP (show wp mX12_dictionary 2 rc rs Q 41 [some (vr 71), some (vi x1), some (vi x2), some (vi (x3 + (m_post h x1 x4))), some (vi x4)] [vi (m_nx h x1 x4)] h from xGo k_X12_dictionary_41 (And.intro rfl v16))))))))))))))))))))))))))))))))))))))))
def b_X12_postingsBegun_0 : List IE := [(.iconst 0, 1, 0, 0, 0, 0), (.istore 4, 2, 0, 0, 4, 0), (.aload_n 0, 1, 0, 0, 0, 0), (.iload_n 1, 1, 0, 0, 1, 0), (.iconst 0, 1, 0, 0, 0, 0)]
theorem k_X12_postingsBegun_0 : ckB mX12_postingsBegun 12 0 b_X12_postingsBegun_0 6 = true := by decide +kernel
def b_X12_postingsBegun_9 : List IE := [(.istore 5, 2, 0, 0, 5, 0)]
theorem k_X12_postingsBegun_9 : ckB mX12_postingsBegun 12 9 b_X12_postingsBegun_9 11 = true := by decide +kernel
def b_X12_postingsBegun_11 : List IE := [(.iload 5, 2, 0, 0, 5, 0), (.iconst (-1), 1, (-1), 0, 0, 0)]
theorem k_X12_postingsBegun_11 : ckIc mX12_postingsBegun 12 11 b_X12_postingsBegun_11 14 0 37 51 17 = true := by decide +kernel
def b_X12_postingsBegun_17 : List IE := [(.iload 5, 2, 0, 0, 5, 0), (.iload_n 2, 1, 0, 0, 2, 0), (.iload_n 3, 1, 0, 0, 3, 0)]
theorem k_X12_postingsBegun_17 : ckB mX12_postingsBegun 12 17 b_X12_postingsBegun_17 21 = true := by decide +kernel
def b_X12_postingsBegun_24 : List IE := []
theorem k_X12_postingsBegun_24 : ckIf mX12_postingsBegun 12 24 b_X12_postingsBegun_24 24 0 15 39 27 = true := by decide +kernel
def b_X12_postingsBegun_27 : List IE := [(.iload 4, 2, 0, 0, 4, 0), (.aload_n 0, 1, 0, 0, 0, 0), (.iload_n 1, 1, 0, 0, 1, 0), (.iload 5, 2, 0, 0, 5, 0)]
theorem k_X12_postingsBegun_27 : ckB mX12_postingsBegun 12 27 b_X12_postingsBegun_27 33 = true := by decide +kernel
def b_X12_postingsBegun_36 : List IE := [(.iadd, 1, 0, 0, 0, 0), (.istore 4, 2, 0, 0, 4, 0), (.aload_n 0, 1, 0, 0, 0, 0), (.iload_n 1, 1, 0, 0, 1, 0), (.iload 5, 2, 0, 0, 5, 0)]
theorem k_X12_postingsBegun_36 : ckB mX12_postingsBegun 12 36 b_X12_postingsBegun_36 43 = true := by decide +kernel
def b_X12_postingsBegun_39 : List IE := [(.aload_n 0, 1, 0, 0, 0, 0), (.iload_n 1, 1, 0, 0, 1, 0), (.iload 5, 2, 0, 0, 5, 0)]
theorem k_X12_postingsBegun_39 : ckB mX12_postingsBegun 12 39 b_X12_postingsBegun_39 43 = true := by decide +kernel
def b_X12_postingsBegun_46 : List IE := [(.istore 5, 2, 0, 0, 5, 0)]
theorem k_X12_postingsBegun_46 : ckGo mX12_postingsBegun 12 46 b_X12_postingsBegun_46 48 (-37) 11 = true := by decide +kernel
def b_X12_postingsBegun_51 : List IE := [(.iload 4, 2, 0, 0, 4, 0)]
theorem k_X12_postingsBegun_51 : ckI mX12_postingsBegun 12 51 b_X12_postingsBegun_51 53 = true := by decide +kernel
theorem s_X12_postingsBegun_6 : cV mX12_postingsBegun 6 mX12_wordAbove 185 2 12 := ⟨by decide +kernel, ⟨ml_X12_wordAbove, li_RX12_185, im_X12_wordAbove, se_X12_wordAbove⟩, ⟨by decide +kernel, by decide +kernel⟩, by decide +kernel⟩
theorem s_X12_postingsBegun_21 : cS mX12_postingsBegun 21 mX12_begins 342 3 := ⟨by decide +kernel, ⟨ml_X12_begins, li_RX12_342, st_X12_begins⟩, by decide +kernel⟩
theorem s_X12_postingsBegun_33 : cV mX12_postingsBegun 33 mX12_postings 188 2 12 := ⟨by decide +kernel, ⟨ml_X12_postings, li_RX12_188, im_X12_postings, se_X12_postings⟩, ⟨by decide +kernel, by decide +kernel⟩, by decide +kernel⟩
theorem s_X12_postingsBegun_43 : cV mX12_postingsBegun 43 mX12_wordAbove 185 2 12 := ⟨by decide +kernel, ⟨ml_X12_wordAbove, li_RX12_185, im_X12_wordAbove, se_X12_wordAbove⟩, ⟨by decide +kernel, by decide +kernel⟩, by decide +kernel⟩
theorem t_X12_postingsBegun_0 {rc rs : Nat} {Q : Option AV → AH → Prop} {h : AH} {x1 x2 x3 : Int} (hL : LayM h) (hv : (m_segd h x1 ∧ 0 ≤ (0 : Int)) ∧ wp mX12_postingsBegun 2 rc rs Q 11 [some (vr 71), some (vi x1), some (vi x2), some (vi x3), some (vi 0), some (vi (m_nx h x1 (0 : Int)))] [] h) : wp mX12_postingsBegun 2 rc rs Q 0 [some (vr 71), some (vi x1), some (vi x2), some (vi x3), none, none] [] h :=
  (show wp mX12_postingsBegun 2 rc rs Q 0 [some (vr 71), some (vi x1), some (vi x2), some (vi x3), none, none] [] h from xcV k_X12_postingsBegun_0 s_X12_postingsBegun_6 (And.intro rfl (have c1 := hv.1; have v2 := hv.2; (Exists.intro [vi x1, vi 0] (Exists.intro 71 (Exists.intro [] (And.intro (And.intro rfl (And.intro rfl (Nat.le_of_ble_eq_true rfl))) (And.intro (lm_71 hL) (Exists.intro 0 (Exists.intro 0 (Exists.intro 0 (Exists.intro _ (And.intro (c_wordAbove hL c1) (And.intro (And.intro (by decide) (And.intro (Nat.zero_le _) (Nat.zero_le _))) (eQP (show wp mX12_postingsBegun 2 rc rs Q 9 [some (vr 71), some (vi x1), some (vi x2), some (vi x3), some (vi 0), none] [vi (m_nx h x1 (0 : Int))] h from xB k_X12_postingsBegun_9 (And.intro rfl v2)))))))))))))))))
theorem e_X12_postingsBegun {mc ms : Nat} {Q : Option AV → AH → Prop} {h : AH} {x1 x2 x3 : Int} (hL : LayM h) (hv : (m_segd h x1 ∧ 0 ≤ (0 : Int)) ∧ wp mX12_postingsBegun 2 mc ms Q 11 [some (vr 71), some (vi x1), some (vi x2), some (vi x3), some (vi 0), some (vi (m_nx h x1 (0 : Int)))] [] h) : Ct 2 mc ms mX12_postingsBegun [vr 71, vi x1, vi x2, vi x3] h Q := Ct.of (by decide +kernel) (Nat.le_of_ble_eq_true rfl) (t_X12_postingsBegun_0 hL hv)
theorem t_X12_postingsBegun_11 {rc rs : Nat} {Q : Option AV → AH → Prop} {h : AH} {x1 x2 x3 x4 x5 : Int} (hL : LayM h) (hv : ((x5 = (-1) → Q (some (vi x4)) h) ∧ (x5 ≠ (-1) → ((0 ≤ x5 ∧ x5 < 2147483648) ∧ (0 ≤ x2 ∧ x2 < 2147483648) ∧ (0 ≤ x3 ∧ x3 ≤ 6)) ∧ ((¬ (m_beg x5 x2 x3) → (m_segd h x1 ∧ 0 ≤ x5) ∧ wp mX12_postingsBegun 2 rc rs Q 11 [some (vr 71), some (vi x1), some (vi x2), some (vi x3), some (vi x4), some (vi (m_nx h x1 x5))] [] h) ∧ ((m_beg x5 x2 x3) → (m_segd h x1) ∧ (-2147483648 ≤ (x4 + (m_post h x1 x5)) ∧ (x4 + (m_post h x1 x5)) < 2147483648) ∧ (m_segd h x1 ∧ 0 ≤ x5) ∧ wp mX12_postingsBegun 2 rc rs Q 11 [some (vr 71), some (vi x1), some (vi x2), some (vi x3), some (vi (x4 + (m_post h x1 x5))), some (vi (m_nx h x1 x5))] [] h))))) : wp mX12_postingsBegun 2 rc rs Q 11 [some (vr 71), some (vi x1), some (vi x2), some (vi x3), some (vi x4), some (vi x5)] [] h :=
  (show wp mX12_postingsBegun 2 rc rs Q 11 [some (vr 71), some (vi x1), some (vi x2), some (vi x3), some (vi x4), some (vi x5)] [] h from xIc k_X12_postingsBegun_11 (And.intro (fun c1 => have v3 := hv.1 c1; (show wp mX12_postingsBegun 2 rc rs Q 51 [some (vr 71), some (vi x1), some (vi x2), some (vi x3), some (vi x4), some (vi x5)] [] h from xI k_X12_postingsBegun_51 (And.intro rfl v3))) (fun c2 => have v4 := hv.2 c2; (show wp mX12_postingsBegun 2 rc rs Q 17 [some (vr 71), some (vi x1), some (vi x2), some (vi x3), some (vi x4), some (vi x5)] [] h from xcS k_X12_postingsBegun_17 s_X12_postingsBegun_21 (have c20 := v4.1; have v21 := v4.2; (Exists.intro [vi x5, vi x2, vi x3] (Exists.intro [] (And.intro (And.intro rfl (And.intro rfl (Nat.le_of_ble_eq_true rfl))) (Exists.intro 1 (Exists.intro 0 (Exists.intro 0 (Exists.intro _ (And.intro (c_begins c20) (And.intro (And.intro (by decide) (And.intro (Nat.zero_le _) (Nat.zero_le _))) (eQP (show wp mX12_postingsBegun 2 rc rs Q 24 [some (vr 71), some (vi x1), some (vi x2), some (vi x3), some (vi x4), some (vi x5)] [vi (b01 (m_beg x5 x2 x3))] h from xIf k_X12_postingsBegun_24 (And.intro (fun c5 => have v7 := v21.1 (b01_n.mp c5); (show wp mX12_postingsBegun 2 rc rs Q 39 [some (vr 71), some (vi x1), some (vi x2), some (vi x3), some (vi x4), some (vi x5)] [] h from xcV k_X12_postingsBegun_39 s_X12_postingsBegun_43 (have c9 := v7.1; have v10 := v7.2; (Exists.intro [vi x1, vi x5] (Exists.intro 71 (Exists.intro [] (And.intro (And.intro rfl (And.intro rfl (Nat.le_of_ble_eq_true rfl))) (And.intro (lm_71 hL) (Exists.intro 0 (Exists.intro 0 (Exists.intro 0 (Exists.intro _ (And.intro (c_wordAbove hL c9) (And.intro (And.intro (by decide) (And.intro (Nat.zero_le _) (Nat.zero_le _))) (eQP (show wp mX12_postingsBegun 2 rc rs Q 46 [some (vr 71), some (vi x1), some (vi x2), some (vi x3), some (vi x4), some (vi x5)] [vi (m_nx h x1 x5)] h from xGo k_X12_postingsBegun_46 (And.intro rfl v10))))))))))))))))) (fun c6 => have v8 := v21.2 (b01_p.mp c6); (show wp mX12_postingsBegun 2 rc rs Q 27 [some (vr 71), some (vi x1), some (vi x2), some (vi x3), some (vi x4), some (vi x5)] [] h from xcV k_X12_postingsBegun_27 s_X12_postingsBegun_33 (have c17 := v8.1; have v18 := v8.2; (Exists.intro [vi x1, vi x5] (Exists.intro 71 (Exists.intro [vi x4] (And.intro (And.intro rfl (And.intro rfl (Nat.le_of_ble_eq_true rfl))) (And.intro (lm_71 hL) (Exists.intro 1 (Exists.intro 0 (Exists.intro 0 (Exists.intro _ (And.intro (c_postings hL c17) (And.intro (And.intro (by decide) (And.intro (Nat.zero_le _) (Nat.zero_le _))) (eQP (show wp mX12_postingsBegun 2 rc rs Q 36 [some (vr 71), some (vi x1), some (vi x2), some (vi x3), some (vi x4), some (vi x5)] [vi (m_post h x1 x5), vi x4] h from xcV k_X12_postingsBegun_36 s_X12_postingsBegun_43 (have c12 := v18.1; have v16 := v18.2; (And.intro c12 (And.intro rfl (have c13 := v16.1; have v14 := v16.2; (Exists.intro [vi x1, vi x5] (Exists.intro 71 (Exists.intro [] (And.intro (And.intro rfl (And.intro rfl (Nat.le_of_ble_eq_true rfl))) (And.intro (lm_71 hL) (Exists.intro 0 (Exists.intro 0 (Exists.intro 0 (Exists.intro _ (And.intro (c_wordAbove hL c13) (And.intro (And.intro (by decide) (And.intro (Nat.zero_le _) (Nat.zero_le _))) (eQP (show wp mX12_postingsBegun 2 rc rs Q 46 [some (vr 71), some (vi x1), some (vi x2), some (vi x3), some (vi (x4 + (m_post h x1 x5))), some (vi x5)] [vi (m_nx h x1 x5)] h from xGo k_X12_postingsBegun_46 (And.intro rfl v14)))))))))))))))))))))))))))))))))))))))))))))))))))
def b_X12_word_0 : List IE := [(.aload_n 0, 1, 0, 0, 0, 0), (.iload_n 1, 1, 0, 0, 1, 0)]
theorem k_X12_word_0 : ckB mX12_word 12 0 b_X12_word_0 2 = true := by decide +kernel
def b_X12_word_5 : List IE := []
theorem k_X12_word_5 : ckIf mX12_word 12 5 b_X12_word_5 5 0 12 17 8 = true := by decide +kernel
def b_X12_word_8 : List IE := [(.iload_n 3, 1, 0, 0, 3, 0), (.iconst 0, 1, 0, 0, 0, 0), (.iconst 2, 1, 2, 0, 0, 0)]
theorem k_X12_word_8 : ckB mX12_word 12 8 b_X12_word_8 11 = true := by decide +kernel
def b_X12_word_14 : List IE := []
theorem k_X12_word_14 : ckIf mX12_word 12 14 b_X12_word_14 14 1 6 20 17 = true := by decide +kernel
def b_X12_word_17 : List IE := [(.bipush (-2), 2, (-2), 0, 0, 0)]
theorem k_X12_word_17 : ckI mX12_word 12 17 b_X12_word_17 19 = true := by decide +kernel
def b_X12_word_20 : List IE := [(.iload_n 2, 1, 0, 0, 2, 0)]
theorem k_X12_word_20 : ckIf mX12_word 12 20 b_X12_word_20 21 3 6 27 24 = true := by decide +kernel
def b_X12_word_24 : List IE := [(.bipush (-12), 2, (-12), 0, 0, 0)]
theorem k_X12_word_24 : ckI mX12_word 12 24 b_X12_word_24 26 = true := by decide +kernel
def b_X12_word_27 : List IE := [(.aload_n 0, 1, 0, 0, 0, 0), (.getfield 48, 3, 0, 12, 14, 1), (.iload_n 1, 1, 0, 0, 1, 0), (.iaload, 1, 0, 0, 0, 0), (.istore 4, 2, 0, 0, 4, 0), (.aload_n 0, 1, 0, 0, 0, 0), (.iload 4, 2, 0, 0, 4, 0), (.iconst 0, 1, 0, 0, 0, 0)]
theorem k_X12_word_27 : ckB mX12_word 12 27 b_X12_word_27 39 = true := by decide +kernel
def b_X12_word_42 : List IE := [(.istore 5, 2, 0, 0, 5, 0), (.iconst 0, 1, 0, 0, 0, 0), (.istore 6, 2, 0, 0, 6, 0)]
theorem k_X12_word_42 : ckB mX12_word 12 42 b_X12_word_42 47 = true := by decide +kernel
def b_X12_word_47 : List IE := [(.iload 6, 2, 0, 0, 6, 0), (.iload_n 2, 1, 0, 0, 2, 0)]
theorem k_X12_word_47 : ckIc mX12_word 12 47 b_X12_word_47 50 3 25 75 53 = true := by decide +kernel
def b_X12_word_53 : List IE := [(.iload 5, 2, 0, 0, 5, 0), (.iconst (-1), 1, (-1), 0, 0, 0)]
theorem k_X12_word_53 : ckIc mX12_word 12 53 b_X12_word_53 56 0 19 75 59 = true := by decide +kernel
def b_X12_word_59 : List IE := [(.aload_n 0, 1, 0, 0, 0, 0), (.iload 4, 2, 0, 0, 4, 0), (.iload 5, 2, 0, 0, 5, 0)]
theorem k_X12_word_59 : ckB mX12_word 12 59 b_X12_word_59 64 = true := by decide +kernel
def b_X12_word_67 : List IE := [(.istore 5, 2, 0, 0, 5, 0), (.iinc 6 1, 3, 1, 0, 6, 0)]
theorem k_X12_word_67 : ckGo mX12_word 12 67 b_X12_word_67 72 (-25) 47 = true := by decide +kernel
def b_X12_word_75 : List IE := [(.iload 5, 2, 0, 0, 5, 0), (.iconst (-1), 1, (-1), 0, 0, 0)]
theorem k_X12_word_75 : ckIc mX12_word 12 75 b_X12_word_75 78 1 6 84 81 = true := by decide +kernel
def b_X12_word_81 : List IE := [(.bipush (-12), 2, (-12), 0, 0, 0)]
theorem k_X12_word_81 : ckI mX12_word 12 81 b_X12_word_81 83 = true := by decide +kernel
def b_X12_word_84 : List IE := [(.iload_n 3, 1, 0, 0, 3, 0)]
theorem k_X12_word_84 : ckIf mX12_word 12 84 b_X12_word_84 85 1 9 94 88 = true := by decide +kernel
def b_X12_word_88 : List IE := [(.iload 5, 2, 0, 0, 5, 0)]
theorem k_X12_word_88 : ckB mX12_word 12 88 b_X12_word_88 90 = true := by decide +kernel
def b_X12_word_93 : List IE := []
theorem k_X12_word_93 : ckI mX12_word 12 93 b_X12_word_93 93 = true := by decide +kernel
def b_X12_word_94 : List IE := [(.iload_n 3, 1, 0, 0, 3, 0), (.iconst 1, 1, 1, 0, 0, 0)]
theorem k_X12_word_94 : ckIc mX12_word 12 94 b_X12_word_94 96 1 12 108 99 = true := by decide +kernel
def b_X12_word_99 : List IE := [(.aload_n 0, 1, 0, 0, 0, 0), (.iload 4, 2, 0, 0, 4, 0), (.iload 5, 2, 0, 0, 5, 0)]
theorem k_X12_word_99 : ckB mX12_word 12 99 b_X12_word_99 104 = true := by decide +kernel
def b_X12_word_107 : List IE := []
theorem k_X12_word_107 : ckI mX12_word 12 107 b_X12_word_107 107 = true := by decide +kernel
def b_X12_word_108 : List IE := [(.iconst 0, 1, 0, 0, 0, 0), (.istore 6, 2, 0, 0, 6, 0), (.iconst 0, 1, 0, 0, 0, 0), (.istore 7, 2, 0, 0, 7, 0)]
theorem k_X12_word_108 : ckB mX12_word 12 108 b_X12_word_108 114 = true := by decide +kernel
def b_X12_word_114 : List IE := [(.iload 7, 2, 0, 0, 7, 0), (.aload_n 0, 1, 0, 0, 0, 0), (.getfield 28, 3, 0, 12, 7, 1), (.iload 4, 2, 0, 0, 4, 0), (.iaload, 1, 0, 0, 0, 0)]
theorem k_X12_word_114 : ckIc mX12_word 12 114 b_X12_word_114 123 3 35 158 126 = true := by decide +kernel
def b_X12_word_126 : List IE := [(.aload_n 0, 1, 0, 0, 0, 0), (.aload_n 0, 1, 0, 0, 0, 0), (.getfield 31, 3, 0, 12, 8, 1), (.iload 4, 2, 0, 0, 4, 0), (.aaload, 1, 0, 0, 0, 0), (.iload 7, 2, 0, 0, 7, 0), (.iaload, 1, 0, 0, 0, 0), (.iload 5, 2, 0, 0, 5, 0)]
theorem k_X12_word_126 : ckB mX12_word 12 126 b_X12_word_126 139 = true := by decide +kernel
def b_X12_word_142 : List IE := []
theorem k_X12_word_142 : ckIf mX12_word 12 142 b_X12_word_142 142 0 10 152 145 = true := by decide +kernel
def b_X12_word_145 : List IE := [(.iload 6, 2, 0, 0, 6, 0), (.iload 7, 2, 0, 0, 7, 0), (.iadd, 1, 0, 0, 0, 0), (.istore 6, 2, 0, 0, 6, 0), (.iinc 7 1, 3, 1, 0, 7, 0)]
theorem k_X12_word_145 : ckGo mX12_word 12 145 b_X12_word_145 155 (-41) 114 = true := by decide +kernel
def b_X12_word_152 : List IE := [(.iinc 7 1, 3, 1, 0, 7, 0)]
theorem k_X12_word_152 : ckGo mX12_word 12 152 b_X12_word_152 155 (-41) 114 = true := by decide +kernel
def b_X12_word_158 : List IE := [(.iload 6, 2, 0, 0, 6, 0)]
theorem k_X12_word_158 : ckI mX12_word 12 158 b_X12_word_158 160 = true := by decide +kernel
theorem s_X12_word_2 : cV mX12_word 2 mX12_isSegment 191 1 12 := ⟨by decide +kernel, ⟨ml_X12_isSegment, li_RX12_191, im_X12_isSegment, se_X12_isSegment⟩, ⟨by decide +kernel, by decide +kernel⟩, by decide +kernel⟩
theorem s_X12_word_11 : cS mX12_word 11 mX12_in 109 3 := ⟨by decide +kernel, ⟨ml_X12_in, li_RX12_109, st_X12_in⟩, by decide +kernel⟩
theorem s_X12_word_39 : cV mX12_word 39 mX12_wordAbove 185 2 12 := ⟨by decide +kernel, ⟨ml_X12_wordAbove, li_RX12_185, im_X12_wordAbove, se_X12_wordAbove⟩, ⟨by decide +kernel, by decide +kernel⟩, by decide +kernel⟩
theorem s_X12_word_64 : cV mX12_word 64 mX12_wordAbove 185 2 12 := ⟨by decide +kernel, ⟨ml_X12_wordAbove, li_RX12_185, im_X12_wordAbove, se_X12_wordAbove⟩, ⟨by decide +kernel, by decide +kernel⟩, by decide +kernel⟩
theorem s_X12_word_90 : cS mX12_word 90 mX12_plainWord 194 1 := ⟨by decide +kernel, ⟨ml_X12_plainWord, li_RX12_194, st_X12_plainWord⟩, by decide +kernel⟩
theorem s_X12_word_104 : cV mX12_word 104 mX12_postings 188 2 12 := ⟨by decide +kernel, ⟨ml_X12_postings, li_RX12_188, im_X12_postings, se_X12_postings⟩, ⟨by decide +kernel, by decide +kernel⟩, by decide +kernel⟩
theorem s_X12_word_139 : cV mX12_word 139 mX12_hasWord 181 2 12 := ⟨by decide +kernel, ⟨ml_X12_hasWord, li_RX12_181, im_X12_hasWord, se_X12_hasWord⟩, ⟨by decide +kernel, by decide +kernel⟩, by decide +kernel⟩
theorem t_X12_word_0 {rc rs : Nat} {Q : Option AV → AH → Prop} {h : AH} {x1 x2 x3 : Int} (hL : LayM h) (hv : (0 ≤ iH h 71 13 ∧ iH h 71 13 ≤ 8) ∧ ((¬ (0 ≤ x1 ∧ x1 ≤ (iH h 71 13 - 1)) → Q (some (vi (-2))) h) ∧ ((0 ≤ x1 ∧ x1 ≤ (iH h 71 13 - 1)) → ((((0 : Int) ≤ x3 ∧ x3 ≤ (2 : Int)) → ((0 ≤ x2 → (0 ≤ x1 ∧ x1 < 8) ∧ (m_segd h (iH h 1137 x1.toNat) ∧ 0 ≤ (0 : Int)) ∧ wp mX12_word 2 rc rs Q 47 [some (vr 71), none, some (vi x2), some (vi x3), some (vi (iH h 1137 x1.toNat)), some (vi (m_nx h (iH h 1137 x1.toNat) (0 : Int))), some (vi 0), none] [] h) ∧ (x2 < 0 → Q (some (vi (-12))) h))) ∧ (¬ ((0 : Int) ≤ x3 ∧ x3 ≤ (2 : Int)) → Q (some (vi (-2))) h))))) : wp mX12_word 2 rc rs Q 0 [some (vr 71), some (vi x1), some (vi x2), some (vi x3), none, none, none, none] [] h :=
  (show wp mX12_word 2 rc rs Q 0 [some (vr 71), some (vi x1), some (vi x2), some (vi x3), none, none, none, none] [] h from xcV k_X12_word_0 s_X12_word_2 (have c21 := hv.1; have v22 := hv.2; (Exists.intro [vi x1] (Exists.intro 71 (Exists.intro [] (And.intro (And.intro rfl (And.intro rfl (Nat.le_of_ble_eq_true rfl))) (And.intro (lm_71 hL) (Exists.intro 1 (Exists.intro 0 (Exists.intro 0 (Exists.intro _ (And.intro (c_isSegment hL c21) (And.intro (And.intro (by decide) (And.intro (Nat.zero_le _) (Nat.zero_le _))) (eQP (show wp mX12_word 2 rc rs Q 5 [some (vr 71), some (vi x1), some (vi x2), some (vi x3), none, none, none, none] [vi (b01 (0 ≤ x1 ∧ x1 ≤ (iH h 71 13 - 1)))] h from xIf k_X12_word_5 (And.intro (fun c1 => have v3 := v22.1 (b01_n.mp c1); (show wp mX12_word 2 rc rs Q 17 [some (vr 71), some (vi x1), some (vi x2), some (vi x3), none, none, none, none] [] h from xI k_X12_word_17 (And.intro rfl v3))) (fun c2 => have v4 := v22.2 (b01_p.mp c2); (show wp mX12_word 2 rc rs Q 8 [some (vr 71), some (vi x1), some (vi x2), some (vi x3), none, none, none, none] [] h from xcS k_X12_word_8 s_X12_word_11 ((Exists.intro [vi x3, vi 0, vi 2] (Exists.intro [] (And.intro (And.intro rfl (And.intro rfl (Nat.le_of_ble_eq_true rfl))) (Exists.intro 0 (Exists.intro 0 (Exists.intro 0 (Exists.intro _ (And.intro c_in (And.intro (And.intro (by decide) (And.intro (Nat.zero_le _) (Nat.zero_le _))) (eQP (show wp mX12_word 2 rc rs Q 14 [some (vr 71), some (vi x1), some (vi x2), some (vi x3), none, none, none, none] [vi (b01 ((0 : Int) ≤ x3 ∧ x3 ≤ (2 : Int)))] h from xIf k_X12_word_14 (And.intro (fun c5 => have v7 := v4.1 (b01_p.mp c5); (show wp mX12_word 2 rc rs Q 20 [some (vr 71), some (vi x1), some (vi x2), some (vi x3), none, none, none, none] [] h from xIf k_X12_word_20 (And.intro (fun c9 => have v11 := v7.1 c9; (show wp mX12_word 2 rc rs Q 27 [some (vr 71), some (vi x1), some (vi x2), some (vi x3), none, none, none, none] [] h from xcV k_X12_word_27 s_X12_word_39 (And.intro (lm_71 hL) (Exists.intro 1137 (And.intro (lf_71_14 hL) (have c13 := v11.1; have v17 := v11.2; (And.intro (sdI (lm_1137 hL) c13) (And.intro rfl (have c14 := v17.1; have v15 := v17.2; (Exists.intro [vi (iH h 1137 x1.toNat), vi 0] (Exists.intro 71 (Exists.intro [] (And.intro (And.intro rfl (And.intro rfl (Nat.le_of_ble_eq_true rfl))) (And.intro (lm_71 hL) (Exists.intro 0 (Exists.intro 0 (Exists.intro 0 (Exists.intro _ (And.intro (c_wordAbove hL c14) (And.intro (And.intro (by decide) (And.intro (Nat.zero_le _) (Nat.zero_le _))) (eQP (show wp mX12_word 2 rc rs Q 42 [some (vr 71), some (vi x1), some (vi x2), some (vi x3), some (vi (iH h 1137 x1.toNat)), none, none, none] [vi (m_nx h (iH h 1137 x1.toNat) (0 : Int))] h from xB k_X12_word_42 (And.intro rfl (And.intro rfl (w_fg [true, false, true, true, true, true, true, false] v15))))))))))))))))))))))))) (fun c10 => have v12 := v7.2 (Int.not_le.mp c10); (show wp mX12_word 2 rc rs Q 24 [some (vr 71), some (vi x1), some (vi x2), some (vi x3), none, none, none, none] [] h from xI k_X12_word_24 (And.intro rfl v12)))))) (fun c6 => have v8 := v4.2 (b01_nn.mp c6); (show wp mX12_word 2 rc rs Q 17 [some (vr 71), some (vi x1), some (vi x2), some (vi x3), none, none, none, none] [] h from xI k_X12_word_17 (And.intro rfl v8))))))))))))))))))))))))))))))))))
theorem e_X12_word {mc ms : Nat} {Q : Option AV → AH → Prop} {h : AH} {x1 x2 x3 : Int} (hL : LayM h) (hv : (0 ≤ iH h 71 13 ∧ iH h 71 13 ≤ 8) ∧ ((¬ (0 ≤ x1 ∧ x1 ≤ (iH h 71 13 - 1)) → Q (some (vi (-2))) h) ∧ ((0 ≤ x1 ∧ x1 ≤ (iH h 71 13 - 1)) → ((((0 : Int) ≤ x3 ∧ x3 ≤ (2 : Int)) → ((0 ≤ x2 → (0 ≤ x1 ∧ x1 < 8) ∧ (m_segd h (iH h 1137 x1.toNat) ∧ 0 ≤ (0 : Int)) ∧ wp mX12_word 2 mc ms Q 47 [some (vr 71), none, some (vi x2), some (vi x3), some (vi (iH h 1137 x1.toNat)), some (vi (m_nx h (iH h 1137 x1.toNat) (0 : Int))), some (vi 0), none] [] h) ∧ (x2 < 0 → Q (some (vi (-12))) h))) ∧ (¬ ((0 : Int) ≤ x3 ∧ x3 ≤ (2 : Int)) → Q (some (vi (-2))) h))))) : Ct 2 mc ms mX12_word [vr 71, vi x1, vi x2, vi x3] h Q := Ct.of (by decide +kernel) (Nat.le_of_ble_eq_true rfl) (t_X12_word_0 hL hv)
theorem t_X12_word_47 {rc rs : Nat} {Q : Option AV → AH → Prop} {h : AH} {x2 x3 x4 x5 x6 : Int} (hL : LayM h) (hv : ((x2 ≤ x6 → ((x5 ≠ (-1) → ((x3 ≠ 0 → ((x3 ≠ 1 → wp mX12_word 2 rc rs Q 114 [some (vr 71), none, none, none, some (vi x4), some (vi x5), some (vi 0), some (vi 0)] [] h) ∧ (x3 = 1 → (m_segd h x4) ∧ Q (some (vi (m_post h x4 x5))) h))) ∧ (x3 = 0 → (0 < x5 ∧ x5 < 387420489) ∧ Q (some (vi (m_pl 6 x5))) h))) ∧ (x5 = (-1) → Q (some (vi (-12))) h))) ∧ (x6 < x2 → ((x5 = (-1) → ((x5 ≠ (-1) → ((x3 ≠ 0 → ((x3 ≠ 1 → wp mX12_word 2 rc rs Q 114 [some (vr 71), none, none, none, some (vi x4), some (vi x5), some (vi 0), some (vi 0)] [] h) ∧ (x3 = 1 → (m_segd h x4) ∧ Q (some (vi (m_post h x4 x5))) h))) ∧ (x3 = 0 → (0 < x5 ∧ x5 < 387420489) ∧ Q (some (vi (m_pl 6 x5))) h))) ∧ (x5 = (-1) → Q (some (vi (-12))) h))) ∧ (x5 ≠ (-1) → (m_segd h x4 ∧ 0 ≤ x5) ∧ (-2147483648 ≤ (x6 + 1) ∧ (x6 + 1) < 2147483648) ∧ wp mX12_word 2 rc rs Q 47 [some (vr 71), none, some (vi x2), some (vi x3), some (vi x4), some (vi (m_nx h x4 x5)), some (vi (x6 + 1)), none] [] h))))) : wp mX12_word 2 rc rs Q 47 [some (vr 71), none, some (vi x2), some (vi x3), some (vi x4), some (vi x5), some (vi x6), none] [] h :=
  (show wp mX12_word 2 rc rs Q 47 [some (vr 71), none, some (vi x2), some (vi x3), some (vi x4), some (vi x5), some (vi x6), none] [] h from xIc k_X12_word_47 (And.intro (fun c1 => have v3 := hv.1 c1; (show wp mX12_word 2 rc rs Q 75 [some (vr 71), none, some (vi x2), some (vi x3), some (vi x4), some (vi x5), some (vi x6), none] [] h from xIc k_X12_word_75 (And.intro (fun c5 => have v7 := v3.1 c5; (show wp mX12_word 2 rc rs Q 84 [some (vr 71), none, some (vi x2), some (vi x3), some (vi x4), some (vi x5), some (vi x6), none] [] h from xIf k_X12_word_84 (And.intro (fun c9 => have v11 := v7.1 c9; (show wp mX12_word 2 rc rs Q 94 [some (vr 71), none, some (vi x2), some (vi x3), some (vi x4), some (vi x5), some (vi x6), none] [] h from xIc k_X12_word_94 (And.intro (fun c13 => have v15 := v11.1 c13; (show wp mX12_word 2 rc rs Q 108 [some (vr 71), none, some (vi x2), some (vi x3), some (vi x4), some (vi x5), some (vi x6), none] [] h from xB k_X12_word_108 (And.intro rfl (And.intro rfl (w_fg [true, false, false, false, true, true, true, true] v15))))) (fun c14 => have v16 := v11.2 (Decidable.not_not.mp c14); (show wp mX12_word 2 rc rs Q 99 [some (vr 71), none, some (vi x2), some (vi x3), some (vi x4), some (vi x5), some (vi x6), none] [] h from xcV k_X12_word_99 s_X12_word_104 (have c17 := v16.1; have v18 := v16.2; (Exists.intro [vi x4, vi x5] (Exists.intro 71 (Exists.intro [] (And.intro (And.intro rfl (And.intro rfl (Nat.le_of_ble_eq_true rfl))) (And.intro (lm_71 hL) (Exists.intro 1 (Exists.intro 0 (Exists.intro 0 (Exists.intro _ (And.intro (c_postings hL c17) (And.intro (And.intro (by decide) (And.intro (Nat.zero_le _) (Nat.zero_le _))) (eQP (show wp mX12_word 2 rc rs Q 107 [some (vr 71), none, some (vi x2), some (vi x3), some (vi x4), some (vi x5), some (vi x6), none] [vi (m_post h x4 x5)] h from xI k_X12_word_107 (And.intro rfl v18)))))))))))))))))))) (fun c10 => have v12 := v7.2 (Decidable.not_not.mp c10); (show wp mX12_word 2 rc rs Q 88 [some (vr 71), none, some (vi x2), some (vi x3), some (vi x4), some (vi x5), some (vi x6), none] [] h from xcS k_X12_word_88 s_X12_word_90 (have c20 := v12.1; have v21 := v12.2; (Exists.intro [vi x5] (Exists.intro [] (And.intro (And.intro rfl (And.intro rfl (Nat.le_of_ble_eq_true rfl))) (Exists.intro 0 (Exists.intro 0 (Exists.intro 0 (Exists.intro _ (And.intro (c_plainWord c20) (And.intro (And.intro (by decide) (And.intro (Nat.zero_le _) (Nat.zero_le _))) (eQP (show wp mX12_word 2 rc rs Q 93 [some (vr 71), none, some (vi x2), some (vi x3), some (vi x4), some (vi x5), some (vi x6), none] [vi (m_pl 6 x5)] h from xI k_X12_word_93 (And.intro rfl v21)))))))))))))))))) (fun c6 => have v8 := v3.2 (Decidable.not_not.mp c6); (show wp mX12_word 2 rc rs Q 81 [some (vr 71), none, some (vi x2), some (vi x3), some (vi x4), some (vi x5), some (vi x6), none] [] h from xI k_X12_word_81 (And.intro rfl v8)))))) (fun c2 => have v4 := hv.2 (Int.not_le.mp c2); (show wp mX12_word 2 rc rs Q 53 [some (vr 71), none, some (vi x2), some (vi x3), some (vi x4), some (vi x5), some (vi x6), none] [] h from xIc k_X12_word_53 (And.intro (fun c23 => have v25 := v4.1 c23; (show wp mX12_word 2 rc rs Q 75 [some (vr 71), none, some (vi x2), some (vi x3), some (vi x4), some (vi x5), some (vi x6), none] [] h from xIc k_X12_word_75 (And.intro (fun c27 => have v29 := v25.1 c27; (show wp mX12_word 2 rc rs Q 84 [some (vr 71), none, some (vi x2), some (vi x3), some (vi x4), some (vi x5), some (vi x6), none] [] h from xIf k_X12_word_84 (And.intro (fun c31 => have v33 := v29.1 c31; (show wp mX12_word 2 rc rs Q 94 [some (vr 71), none, some (vi x2), some (vi x3), some (vi x4), some (vi x5), some (vi x6), none] [] h from xIc k_X12_word_94 (And.intro (fun c35 => have v37 := v33.1 c35; (show wp mX12_word 2 rc rs Q 108 [some (vr 71), none, some (vi x2), some (vi x3), some (vi x4), some (vi x5), some (vi x6), none] [] h from xB k_X12_word_108 (And.intro rfl (And.intro rfl (w_fg [true, false, false, false, true, true, true, true] v37))))) (fun c36 => have v38 := v33.2 (Decidable.not_not.mp c36); (show wp mX12_word 2 rc rs Q 99 [some (vr 71), none, some (vi x2), some (vi x3), some (vi x4), some (vi x5), some (vi x6), none] [] h from xcV k_X12_word_99 s_X12_word_104 (have c39 := v38.1; have v40 := v38.2; (Exists.intro [vi x4, vi x5] (Exists.intro 71 (Exists.intro [] (And.intro (And.intro rfl (And.intro rfl (Nat.le_of_ble_eq_true rfl))) (And.intro (lm_71 hL) (Exists.intro 1 (Exists.intro 0 (Exists.intro 0 (Exists.intro _ (And.intro (c_postings hL c39) (And.intro (And.intro (by decide) (And.intro (Nat.zero_le _) (Nat.zero_le _))) (eQP (show wp mX12_word 2 rc rs Q 107 [some (vr 71), none, some (vi x2), some (vi x3), some (vi x4), some (vi x5), some (vi x6), none] [vi (m_post h x4 x5)] h from xI k_X12_word_107 (And.intro rfl v40)))))))))))))))))))) (fun c32 => have v34 := v29.2 (Decidable.not_not.mp c32); (show wp mX12_word 2 rc rs Q 88 [some (vr 71), none, some (vi x2), some (vi x3), some (vi x4), some (vi x5), some (vi x6), none] [] h from xcS k_X12_word_88 s_X12_word_90 (have c42 := v34.1; have v43 := v34.2; (Exists.intro [vi x5] (Exists.intro [] (And.intro (And.intro rfl (And.intro rfl (Nat.le_of_ble_eq_true rfl))) (Exists.intro 0 (Exists.intro 0 (Exists.intro 0 (Exists.intro _ (And.intro (c_plainWord c42) (And.intro (And.intro (by decide) (And.intro (Nat.zero_le _) (Nat.zero_le _))) (eQP (show wp mX12_word 2 rc rs Q 93 [some (vr 71), none, some (vi x2), some (vi x3), some (vi x4), some (vi x5), some (vi x6), none] [vi (m_pl 6 x5)] h from xI k_X12_word_93 (And.intro rfl v43)))))))))))))))))) (fun c28 => have v30 := v25.2 (Decidable.not_not.mp c28); (show wp mX12_word 2 rc rs Q 81 [some (vr 71), none, some (vi x2), some (vi x3), some (vi x4), some (vi x5), some (vi x6), none] [] h from xI k_X12_word_81 (And.intro rfl v30)))))) (fun c24 => have v26 := v4.2 c24; (show wp mX12_word 2 rc rs Q 59 [some (vr 71), none, some (vi x2), some (vi x3), some (vi x4), some (vi x5), some (vi x6), none] [] h from xcV k_X12_word_59 s_X12_word_64 (have c47 := v26.1; have v48 := v26.2; (Exists.intro [vi x4, vi x5] (Exists.intro 71 (Exists.intro [] (And.intro (And.intro rfl (And.intro rfl (Nat.le_of_ble_eq_true rfl))) (And.intro (lm_71 hL) (Exists.intro 0 (Exists.intro 0 (Exists.intro 0 (Exists.intro _ (And.intro (c_wordAbove hL c47) (And.intro (And.intro (by decide) (And.intro (Nat.zero_le _) (Nat.zero_le _))) (eQP (show wp mX12_word 2 rc rs Q 67 [some (vr 71), none, some (vi x2), some (vi x3), some (vi x4), some (vi x5), some (vi x6), none] [vi (m_nx h x4 x5)] h from xGo k_X12_word_67 (And.intro rfl (have c45 := v48.1; have v46 := v48.2; (And.intro c45 (And.intro rfl v46)))))))))))))))))))))))))
theorem t_X12_word_114 {rc rs : Nat} {Q : Option AV → AH → Prop} {h : AH} {x4 x5 x6 x7 : Int} (hL : LayM h) (hv : (0 ≤ x4 ∧ x4 < 520) ∧ (((iH h 597 x4.toNat) ≤ x7 → Q (some (vi x6)) h) ∧ (x7 < (iH h 597 x4.toNat) → (0 ≤ x7 ∧ x7 < 64) ∧ (m_doc h (iH h (599 + x4.toNat) x7.toNat)) ∧ ((¬ (m_has h (iH h (599 + x4.toNat) x7.toNat) x5) → (-2147483648 ≤ (x7 + 1) ∧ (x7 + 1) < 2147483648) ∧ wp mX12_word 2 rc rs Q 114 [some (vr 71), none, none, none, some (vi x4), some (vi x5), some (vi x6), some (vi (x7 + 1))] [] h) ∧ ((m_has h (iH h (599 + x4.toNat) x7.toNat) x5) → (-2147483648 ≤ (x6 + x7) ∧ (x6 + x7) < 2147483648) ∧ (-2147483648 ≤ (x7 + 1) ∧ (x7 + 1) < 2147483648) ∧ wp mX12_word 2 rc rs Q 114 [some (vr 71), none, none, none, some (vi x4), some (vi x5), some (vi (x6 + x7)), some (vi (x7 + 1))] [] h))))) : wp mX12_word 2 rc rs Q 114 [some (vr 71), none, none, none, some (vi x4), some (vi x5), some (vi x6), some (vi x7)] [] h :=
  (show wp mX12_word 2 rc rs Q 114 [some (vr 71), none, none, none, some (vi x4), some (vi x5), some (vi x6), some (vi x7)] [] h from xIc k_X12_word_114 (And.intro (lm_71 hL) (Exists.intro 597 (And.intro (lf_71_7 hL) (have c1 := hv.1; have v22 := hv.2; (And.intro (sdI (lm_597 hL) c1) (And.intro (fun c2 => have v4 := v22.1 c2; (show wp mX12_word 2 rc rs Q 158 [some (vr 71), none, none, none, some (vi x4), some (vi x5), some (vi x6), some (vi x7)] [] h from xI k_X12_word_158 (And.intro rfl v4))) (fun c3 => have v5 := v22.2 (Int.not_le.mp c3); (show wp mX12_word 2 rc rs Q 126 [some (vr 71), none, none, none, some (vi x4), some (vi x5), some (vi x6), some (vi x7)] [] h from xcV k_X12_word_126 s_X12_word_139 (And.intro (lm_71 hL) (Exists.intro 598 (And.intro (lf_71_8 hL) (And.intro (sdQ (lm_598 hL) c1) (Exists.intro (599 + x4.toNat) (And.intro (lr_members hL (tnl c1)) (have c7 := v5.1; have v21 := v5.2; (And.intro (sdI (lk_members hL (tnl c1)) c7) (have c18 := v21.1; have v19 := v21.2; (Exists.intro [vi (iH h (599 + x4.toNat) x7.toNat), vi x5] (Exists.intro 71 (Exists.intro [] (And.intro (And.intro rfl (And.intro rfl (Nat.le_of_ble_eq_true rfl))) (And.intro (lm_71 hL) (Exists.intro 0 (Exists.intro 0 (Exists.intro 0 (Exists.intro _ (And.intro (c_hasWord hL c18) (And.intro (And.intro (by decide) (And.intro (Nat.zero_le _) (Nat.zero_le _))) (eQP (show wp mX12_word 2 rc rs Q 142 [some (vr 71), none, none, none, some (vi x4), some (vi x5), some (vi x6), some (vi x7)] [vi (b01 (m_has h (iH h (599 + x4.toNat) x7.toNat) x5))] h from xIf k_X12_word_142 (And.intro (fun c8 => have v10 := v19.1 (b01_n.mp c8); (show wp mX12_word 2 rc rs Q 152 [some (vr 71), none, none, none, some (vi x4), some (vi x5), some (vi x6), some (vi x7)] [] h from xGo k_X12_word_152 (have c12 := v10.1; have v13 := v10.2; (And.intro c12 (And.intro rfl v13))))) (fun c9 => have v11 := v19.2 (b01_p.mp c9); (show wp mX12_word 2 rc rs Q 145 [some (vr 71), none, none, none, some (vi x4), some (vi x5), some (vi x6), some (vi x7)] [] h from xGo k_X12_word_145 (have c14 := v11.1; have v17 := v11.2; (And.intro c14 (And.intro rfl (have c15 := v17.1; have v16 := v17.2; (And.intro c15 (And.intro rfl v16))))))))))))))))))))))))))))))))))))))))
noncomputable def m_dic (h : AH) (g p : Int) : Int := if p = 0 then (m_dn h g : Int) else sumN (fun j => m_post h g (m_dw h g j)) (m_dn h g)
theorem wq_at {dn : Nat} {dw : Nat → Int} {j : Nat} (c : j < dn) : wq dn dw j = dw j := if_pos c
theorem wq_no {dn : Nat} {dw : Nat → Int} {j : Nat} (c : ¬ j < dn) : wq dn dw j = -1 := if_neg c
theorem c_dictionary {h : AH} (hL : LayM h) {g p : Int} (hg : m_dict h g) : Ct 2 0 0 mX12_dictionary [vr 71, vi g, vi p] h (QI fun x h' => x = m_dic h g p ∧ h' = h) := by
  have hdn := (m_dict_D hg).1
  refine e_X12_dictionary hL ⟨⟨hg.1, by omega⟩, ?_⟩
  rw [m_nx0 hg]
  have e0 : (0 : Int) = (if p = 0 then ((0 : Nat) : Int) else sumN (fun j => m_post h g (m_dw h g j)) 0) := by split <;> rfl
  rw [e0]
  refine up (P := fun j => wp mX12_dictionary 2 _ _ _ 10 [some (vr 71), some (vi g), some (vi p), some (vi (if p = 0 then (j : Int) else sumN (fun j => m_post h g (m_dw h g j)) j)), some (vi (wq (m_dn h g) (m_dw h g) j))] [] h) (m_dn h g) ?_ ?_
  · exact t_X12_dictionary_10 hL ⟨fun _ => ⟨_, rfl, rfl, rfl⟩, fun c => absurd (wq_no (by omega)) c⟩
  · intro j hj ih
    have hp := m_dw_bd hg hj
    have hb := sumN_bd (fun j => m_post h g (m_dw h g j)) 64 (by omega) j (fun i _ => m_post_bd hg.1)
    have hb2 := m_post_bd (w := m_dw h g j) hg.1
    have e1 := m_nxs hg hj
    rw [wq_at hj]
    refine t_X12_dictionary_10 hL ⟨fun c => absurd c (by omega), fun c => ⟨fun c2 => ?_, fun c2 => ?_⟩⟩
    · rw [if_pos c2, e1]
      rw [if_pos c2] at ih
      exact ⟨by omega, ⟨hg.1, by omega⟩, ih⟩
    · rw [if_neg c2, e1]
      rw [if_neg c2] at ih
      exact ⟨hg.1, by omega, ⟨hg.1, by omega⟩, ih⟩
noncomputable def m_pbF (h : AH) (g b l : Int) (j : Nat) : Int := b01 (m_beg (m_dw h g j) b l) * m_post h g (m_dw h g j)
noncomputable def m_pb (h : AH) (g b l : Int) : Int := sumN (m_pbF h g b l) (m_dn h g)
theorem m_pbF_bd {h : AH} {g b l : Int} (hg : m_segd h g) (j : Nat) : 0 ≤ m_pbF h g b l j ∧ m_pbF h g b l j ≤ 64 := by
  have hb2 := m_post_bd (w := m_dw h g j) hg
  unfold m_pbF
  rcases b01_01 (m_beg (m_dw h g j) b l) with e | e <;> rw [e] <;> omega
theorem m_pb_bd {h : AH} {g b l : Int} (hg : m_dict h g) : 0 ≤ m_pb h g b l ∧ m_pb h g b l ≤ 49152 := by
  have h1 := sumN_bd (m_pbF h g b l) 64 (by omega) (m_dn h g) (fun j _ => m_pbF_bd hg.1 j)
  have h2 := (m_dict_D hg).1
  unfold m_pb; omega
theorem c_postingsBegun {h : AH} (hL : LayM h) {g b l : Int} (hg : m_dict h g ∧ m_bl b l) : Ct 2 0 0 mX12_postingsBegun [vr 71, vi g, vi b, vi l] h (QI fun x h' => x = m_pb h g b l ∧ h' = h) := by
  obtain ⟨hg, hbl⟩ := hg
  have hdn := (m_dict_D hg).1
  refine e_X12_postingsBegun hL ⟨⟨hg.1, by omega⟩, ?_⟩
  rw [m_nx0 hg]
  refine up (P := fun j => wp mX12_postingsBegun 2 _ _ _ 11 [some (vr 71), some (vi g), some (vi b), some (vi l), some (vi (sumN (m_pbF h g b l) j)), some (vi (wq (m_dn h g) (m_dw h g) j))] [] h) (m_dn h g) ?_ ?_
  · exact t_X12_postingsBegun_11 hL ⟨fun _ => ⟨_, rfl, rfl, rfl⟩, fun c => absurd (wq_no (by omega)) c⟩
  · intro j hj ih
    have hp := m_dw_bd hg hj
    have hb := sumN_bd (m_pbF h g b l) 64 (by omega) j (fun i _ => m_pbF_bd hg.1 i)
    have hb2 := m_post_bd (w := m_dw h g j) hg.1
    have e1 := m_nxs hg hj
    rw [wq_at hj]
    have e2 : sumN (m_pbF h g b l) (j + 1) = sumN (m_pbF h g b l) j + b01 (m_beg (m_dw h g j) b l) * m_post h g (m_dw h g j) := rfl
    refine t_X12_postingsBegun_11 hL ⟨fun c => absurd c (by omega), fun c => ⟨⟨by omega, hbl.1, hbl.2⟩, fun c2 => ?_, fun c2 => ?_⟩⟩
    · rw [b01_f c2, Int.zero_mul, Int.add_zero] at e2
      rw [e1, ← e2]
      exact ⟨⟨hg.1, by omega⟩, ih⟩
    · rw [b01_t c2, Int.one_mul] at e2
      refine ⟨hg.1, by omega, ⟨hg.1, by omega⟩, ?_⟩
      rw [e1, ← e2]
      exact ih
def m_nowd (h : AH) : Prop := m_now h ∧ ∀ s : Nat, (s : Int) < iH h 71 13 → m_dict h (iH h 1137 s)
noncomputable def m_psF (h : AH) (g w : Int) (k : Nat) : Int := b01 (m_postP h g w k) * (k : Int)
noncomputable def m_ps (h : AH) (g w : Int) : Int := sumN (m_psF h g w) (iH h 597 g.toNat).toNat
noncomputable def a_word (h : AH) (s k w : Int) : Int :=
  if ¬ (0 ≤ s ∧ s ≤ iH h 71 13 - 1) ∨ ¬ (0 ≤ w ∧ w ≤ 2) then -2
  else if k < 0 ∨ (m_dn h (iH h 1137 s.toNat) : Int) ≤ k then -12
  else if w = 0 then m_pl 6 (m_dw h (iH h 1137 s.toNat) k.toNat)
  else if w = 1 then m_post h (iH h 1137 s.toNat) (m_dw h (iH h 1137 s.toNat) k.toNat)
  else m_ps h (iH h 1137 s.toNat) (m_dw h (iH h 1137 s.toNat) k.toNat)
theorem c_word {h : AH} (hL : LayM h) {s k w : Int} (hn : m_nowd h) : Ct 2 0 0 mX12_word [vr 71, vi s, vi k, vi w] h (QI fun x h' => x = a_word h s k w ∧ h' = h) := by
  have hl := hn.1.1
  refine e_X12_word hL ⟨hl, fun c => ⟨_, rfl, (if_pos (Or.inl c)).symm, rfl⟩, fun c => ⟨fun c2 => ⟨fun c3 => ⟨by omega, ?_⟩, fun c3 => ⟨_, rfl, ?_, rfl⟩⟩, fun c2 => ⟨_, rfl, (if_pos (Or.inr c2)).symm, rfl⟩⟩⟩
  · have hg := hn.2 s.toNat (by omega)
    have hdn := (m_dict_D hg).1
    refine ⟨⟨hg.1, by omega⟩, ?_⟩
    rw [m_nx0 hg]
    generalize hG : iH h 1137 s.toNat = g at *
    have fin : ∀ j : Nat, j ≤ m_dn h g → (k ≤ (j : Int) → (j : Int) = k ∨ j = m_dn h g ∨ True) := fun _ _ _ => Or.inr (Or.inr trivial)
    -- at the end of the walk: word j, where j is k, or there are no more
    have last : ∀ j : Nat, (j : Int) ≤ k → ((j : Int) = k ∨ m_dn h g ≤ j) → ((wq (m_dn h g) (m_dw h g) j ≠ -1 → ((w ≠ 0 → ((w ≠ 1 → wp mX12_word 2 0 0 (QI fun x h' => x = a_word h s k w ∧ h' = h) 114 [some (vr 71), none, none, none, some (vi g), some (vi (wq (m_dn h g) (m_dw h g) j)), some (vi 0), some (vi 0)] [] h) ∧ (w = 1 → (m_segd h g) ∧ (QI fun x h' => x = a_word h s k w ∧ h' = h) (some (vi (m_post h g (wq (m_dn h g) (m_dw h g) j)))) h))) ∧ (w = 0 → (0 < wq (m_dn h g) (m_dw h g) j ∧ wq (m_dn h g) (m_dw h g) j < 387420489) ∧ (QI fun x h' => x = a_word h s k w ∧ h' = h) (some (vi (m_pl 6 (wq (m_dn h g) (m_dw h g) j)))) h))) ∧ (wq (m_dn h g) (m_dw h g) j = -1 → (QI fun x h' => x = a_word h s k w ∧ h' = h) (some (vi (-12))) h)) := by
      intro j hjk hj
      have hcond : ¬ (¬ (0 ≤ s ∧ s ≤ iH h 71 13 - 1) ∨ ¬ (0 ≤ w ∧ w ≤ 2)) := by omega
      by_cases q : j < m_dn h g
      · have hk : k = (j : Int) := by omega
        have hp := m_dw_bd hg q
        have hcond2 : ¬ (k < 0 ∨ (m_dn h g : Int) ≤ k) := by omega
        have hjt : k.toNat = j := by omega
        rw [wq_at q]
        refine ⟨fun _ => ⟨fun d0 => ⟨fun d1 => ?_, fun d1 => ⟨hg.1, _, rfl, ?_, rfl⟩⟩, fun d0 => ⟨hp, _, rfl, ?_, rfl⟩⟩, fun e => by omega⟩
        · have hA : a_word h s k w = m_ps h g (m_dw h g j) := by
            unfold a_word; rw [if_neg hcond, hG, if_neg hcond2, if_neg d0, if_neg d1, hjt]
          rw [hA]
          have hl2 := hg.1.1.2.1
          refine up (P := fun i => wp mX12_word 2 _ _ _ 114 [some (vr 71), none, none, none, some (vi g), some (vi (m_dw h g j)), some (vi (sumN (m_psF h g (m_dw h g j)) i)), some (vi i)] [] h) (iH h 597 g.toNat).toNat ?_ ?_
          · exact t_X12_word_114 hL ⟨hg.1.1.1, fun _ => ⟨_, rfl, rfl, rfl⟩, fun c => absurd c (by omega)⟩
          · intro i hi ih
            have hb := sumN_bd (m_psF h g (m_dw h g j)) 64 (by omega) i (fun i hi => by
              unfold m_psF
              rcases b01_01 (m_postP h g (m_dw h g j) i) with e | e <;> rw [e] <;> omega)
            have e2 : sumN (m_psF h g (m_dw h g j)) (i + 1) = sumN (m_psF h g (m_dw h g j)) i + b01 (m_postP h g (m_dw h g j) i) * (i : Int) := rfl
            refine t_X12_word_114 hL ⟨hg.1.1.1, fun c => absurd c (by omega), fun c => ⟨by omega, hg.1.2 i c, fun d2 => ⟨by omega, ?_⟩, fun d2 => ⟨by omega, by omega, ?_⟩⟩⟩
            · rw [b01_f (p := m_postP h g (m_dw h g j) i) d2, Int.zero_mul, Int.add_zero] at e2
              rw [← e2]; exact ih
            · rw [b01_t (p := m_postP h g (m_dw h g j) i) d2, Int.one_mul] at e2
              rw [← e2]; exact ih
        · unfold a_word; rw [if_neg hcond, hG, if_neg hcond2, if_neg d0, if_pos d1, hjt]
        · unfold a_word; rw [if_neg hcond, hG, if_neg hcond2, if_pos d0, hjt]
      · rw [wq_no q]
        refine ⟨fun e => absurd rfl e, fun _ => ⟨_, rfl, ?_, rfl⟩⟩
        unfold a_word; rw [if_neg hcond, hG, if_pos (by omega)]
    refine up (P := fun j => wp mX12_word 2 _ _ _ 47 [some (vr 71), none, some (vi k), some (vi w), some (vi g), some (vi (wq (m_dn h g) (m_dw h g) j)), some (vi j), none] [] h) (min k.toNat (m_dn h g)) ?_ ?_
    · by_cases q : k.toNat ≤ m_dn h g
      · rw [show min k.toNat (m_dn h g) = k.toNat by omega]
        exact t_X12_word_47 hL ⟨fun _ => last k.toNat (by omega) (by omega), fun c => absurd c (by omega)⟩
      · rw [show min k.toNat (m_dn h g) = m_dn h g by omega]
        exact t_X12_word_47 hL ⟨fun c => absurd c (by omega), fun _ => ⟨fun _ => last (m_dn h g) (by omega) (by omega), fun e => absurd (wq_no (by omega)) e⟩⟩
    · intro j hj ih
      have q : j < m_dn h g := by omega
      have hp := m_dw_bd hg q
      rw [wq_at q]
      refine t_X12_word_47 hL ⟨fun c => absurd c (by omega), fun _ => ⟨fun e => by omega, fun _ => ⟨⟨hg.1, by omega⟩, by omega, ?_⟩⟩⟩
      rw [m_nxs hg q]; exact ih
  · unfold a_word; rw [if_neg (by omega), if_pos (Or.inl c3)]
end
section
/-! THE REFERENCE: POLICIES, COSTS, WHAT IS TOLD -/
def b_X12_fits_0 : List IE := [(.aload_n 0, 1, 0, 0, 0, 0), (.iload_n 1, 1, 0, 0, 1, 0)]
theorem k_X12_fits_0 : ckB mX12_fits 12 0 b_X12_fits_0 2 = true := by decide +kernel
def b_X12_fits_5 : List IE := [(.iconst 3, 1, 3, 0, 0, 0)]
theorem k_X12_fits_5 : ckIc mX12_fits 12 5 b_X12_fits_5 6 3 7 13 9 = true := by decide +kernel
def b_X12_fits_9 : List IE := [(.iconst 1, 1, 1, 0, 0, 0)]
theorem k_X12_fits_9 : ckGo mX12_fits 12 9 b_X12_fits_9 10 4 14 = true := by decide +kernel
def b_X12_fits_13 : List IE := [(.iconst 0, 1, 0, 0, 0, 0), (.istore_n 3, 1, 0, 0, 3, 0), (.iconst 0, 1, 0, 0, 0, 0), (.istore 4, 2, 0, 0, 4, 0), (.iconst 0, 1, 0, 0, 0, 0), (.istore 5, 2, 0, 0, 5, 0), (.iload_n 1, 1, 0, 0, 1, 0), (.istore 6, 2, 0, 0, 6, 0)]
theorem k_X12_fits_13 : ckB mX12_fits 12 13 b_X12_fits_13 24 = true := by decide +kernel
def b_X12_fits_14 : List IE := [(.istore_n 3, 1, 0, 0, 3, 0), (.iconst 0, 1, 0, 0, 0, 0), (.istore 4, 2, 0, 0, 4, 0), (.iconst 0, 1, 0, 0, 0, 0), (.istore 5, 2, 0, 0, 5, 0), (.iload_n 1, 1, 0, 0, 1, 0), (.istore 6, 2, 0, 0, 6, 0)]
theorem k_X12_fits_14 : ckB mX12_fits 12 14 b_X12_fits_14 24 = true := by decide +kernel
def b_X12_fits_24 : List IE := [(.iload 6, 2, 0, 0, 6, 0), (.iload_n 1, 1, 0, 0, 1, 0), (.iload_n 2, 1, 0, 0, 2, 0), (.iadd, 1, 0, 0, 0, 0)]
theorem k_X12_fits_24 : ckIc mX12_fits 12 24 b_X12_fits_24 29 3 78 107 32 = true := by decide +kernel
def b_X12_fits_32 : List IE := [(.iload_n 3, 1, 0, 0, 3, 0), (.aload_n 0, 1, 0, 0, 0, 0), (.iload 6, 2, 0, 0, 6, 0)]
theorem k_X12_fits_32 : ckB mX12_fits 12 32 b_X12_fits_32 36 = true := by decide +kernel
def b_X12_fits_39 : List IE := [(.aload_n 0, 1, 0, 0, 0, 0), (.iload_n 1, 1, 0, 0, 1, 0)]
theorem k_X12_fits_39 : ckB mX12_fits 12 39 b_X12_fits_39 41 = true := by decide +kernel
def b_X12_fits_44 : List IE := []
theorem k_X12_fits_44 : ckIc mX12_fits 12 44 b_X12_fits_44 44 1 7 51 47 = true := by decide +kernel
def b_X12_fits_47 : List IE := [(.iconst 1, 1, 1, 0, 0, 0)]
theorem k_X12_fits_47 : ckGo mX12_fits 12 47 b_X12_fits_47 48 4 52 = true := by decide +kernel
def b_X12_fits_51 : List IE := [(.iconst 0, 1, 0, 0, 0, 0), (.iand, 1, 0, 0, 0, 0), (.istore_n 3, 1, 0, 0, 3, 0), (.iload 4, 2, 0, 0, 4, 0), (.aload_n 0, 1, 0, 0, 0, 0), (.aload_n 0, 1, 0, 0, 0, 0), (.getfield 48, 3, 0, 12, 14, 1), (.iload 6, 2, 0, 0, 6, 0), (.iaload, 1, 0, 0, 0, 0)]
theorem k_X12_fits_51 : ckB mX12_fits 12 51 b_X12_fits_51 64 = true := by decide +kernel
def b_X12_fits_52 : List IE := [(.iand, 1, 0, 0, 0, 0), (.istore_n 3, 1, 0, 0, 3, 0), (.iload 4, 2, 0, 0, 4, 0), (.aload_n 0, 1, 0, 0, 0, 0), (.aload_n 0, 1, 0, 0, 0, 0), (.getfield 48, 3, 0, 12, 14, 1), (.iload 6, 2, 0, 0, 6, 0), (.iaload, 1, 0, 0, 0, 0)]
theorem k_X12_fits_52 : ckB mX12_fits 12 52 b_X12_fits_52 64 = true := by decide +kernel
def b_X12_fits_67 : List IE := [(.aload_n 0, 1, 0, 0, 0, 0), (.getfield 28, 3, 0, 12, 7, 1), (.aload_n 0, 1, 0, 0, 0, 0), (.getfield 48, 3, 0, 12, 14, 1), (.iload 6, 2, 0, 0, 6, 0), (.iaload, 1, 0, 0, 0, 0), (.iaload, 1, 0, 0, 0, 0)]
theorem k_X12_fits_67 : ckIc mX12_fits 12 67 b_X12_fits_67 79 3 7 86 82 = true := by decide +kernel
def b_X12_fits_82 : List IE := [(.iconst 1, 1, 1, 0, 0, 0)]
theorem k_X12_fits_82 : ckGo mX12_fits 12 82 b_X12_fits_82 83 4 87 = true := by decide +kernel
def b_X12_fits_86 : List IE := [(.iconst 0, 1, 0, 0, 0, 0), (.ior, 1, 0, 0, 0, 0), (.istore 4, 2, 0, 0, 4, 0), (.iload 5, 2, 0, 0, 5, 0), (.aload_n 0, 1, 0, 0, 0, 0), (.iload 6, 2, 0, 0, 6, 0)]
theorem k_X12_fits_86 : ckB mX12_fits 12 86 b_X12_fits_86 95 = true := by decide +kernel
def b_X12_fits_87 : List IE := [(.ior, 1, 0, 0, 0, 0), (.istore 4, 2, 0, 0, 4, 0), (.iload 5, 2, 0, 0, 5, 0), (.aload_n 0, 1, 0, 0, 0, 0), (.iload 6, 2, 0, 0, 6, 0)]
theorem k_X12_fits_87 : ckB mX12_fits 12 87 b_X12_fits_87 95 = true := by decide +kernel
def b_X12_fits_98 : List IE := [(.iadd, 1, 0, 0, 0, 0), (.istore 5, 2, 0, 0, 5, 0), (.iinc 6 1, 3, 1, 0, 6, 0)]
theorem k_X12_fits_98 : ckGo mX12_fits 12 98 b_X12_fits_98 104 (-80) 24 = true := by decide +kernel
def b_X12_fits_107 : List IE := [(.aload_n 0, 1, 0, 0, 0, 0), (.getfield 197, 3, 0, 12, 21, 0), (.iconst 3, 1, 3, 0, 0, 0)]
theorem k_X12_fits_107 : ckIc mX12_fits 12 107 b_X12_fits_107 112 1 22 134 115 = true := by decide +kernel
def b_X12_fits_115 : List IE := [(.iload_n 3, 1, 0, 0, 3, 0)]
theorem k_X12_fits_115 : ckIf mX12_fits 12 115 b_X12_fits_115 116 1 12 128 119 = true := by decide +kernel
def b_X12_fits_119 : List IE := [(.iload 5, 2, 0, 0, 5, 0), (.aload_n 0, 1, 0, 0, 0, 0), (.getfield 203, 3, 0, 12, 22, 0)]
theorem k_X12_fits_119 : ckIc mX12_fits 12 119 b_X12_fits_119 125 4 7 132 128 = true := by decide +kernel
def b_X12_fits_128 : List IE := [(.iconst 1, 1, 1, 0, 0, 0)]
theorem k_X12_fits_128 : ckGo mX12_fits 12 128 b_X12_fits_128 129 4 133 = true := by decide +kernel
def b_X12_fits_132 : List IE := [(.iconst 0, 1, 0, 0, 0, 0)]
theorem k_X12_fits_132 : ckZ mX12_fits 12 132 b_X12_fits_132 133 = true := by decide +kernel
def b_X12_fits_133 : List IE := []
theorem k_X12_fits_133 : ckZ mX12_fits 12 133 b_X12_fits_133 133 = true := by decide +kernel
def b_X12_fits_134 : List IE := [(.iload_n 3, 1, 0, 0, 3, 0)]
theorem k_X12_fits_134 : ckIf mX12_fits 12 134 b_X12_fits_134 135 0 20 155 138 = true := by decide +kernel
def b_X12_fits_138 : List IE := [(.aload_n 0, 1, 0, 0, 0, 0), (.getfield 197, 3, 0, 12, 21, 0), (.iconst 4, 1, 4, 0, 0, 0)]
theorem k_X12_fits_138 : ckIc mX12_fits 12 138 b_X12_fits_138 143 1 8 151 146 = true := by decide +kernel
def b_X12_fits_146 : List IE := [(.iload 4, 2, 0, 0, 4, 0)]
theorem k_X12_fits_146 : ckIf mX12_fits 12 146 b_X12_fits_146 148 0 7 155 151 = true := by decide +kernel
def b_X12_fits_151 : List IE := [(.iconst 1, 1, 1, 0, 0, 0)]
theorem k_X12_fits_151 : ckGo mX12_fits 12 151 b_X12_fits_151 152 4 156 = true := by decide +kernel
def b_X12_fits_155 : List IE := [(.iconst 0, 1, 0, 0, 0, 0)]
theorem k_X12_fits_155 : ckZ mX12_fits 12 155 b_X12_fits_155 156 = true := by decide +kernel
def b_X12_fits_156 : List IE := []
theorem k_X12_fits_156 : ckZ mX12_fits 12 156 b_X12_fits_156 156 = true := by decide +kernel
theorem s_X12_fits_2 : cV mX12_fits 2 mX12_tier 214 1 12 := ⟨by decide +kernel, ⟨ml_X12_tier, li_RX12_214, im_X12_tier, se_X12_tier⟩, ⟨by decide +kernel, by decide +kernel⟩, by decide +kernel⟩
theorem s_X12_fits_36 : cV mX12_fits 36 mX12_tier 214 1 12 := ⟨by decide +kernel, ⟨ml_X12_tier, li_RX12_214, im_X12_tier, se_X12_tier⟩, ⟨by decide +kernel, by decide +kernel⟩, by decide +kernel⟩
theorem s_X12_fits_41 : cV mX12_fits 41 mX12_tier 214 1 12 := ⟨by decide +kernel, ⟨ml_X12_tier, li_RX12_214, im_X12_tier, se_X12_tier⟩, ⟨by decide +kernel, by decide +kernel⟩, by decide +kernel⟩
theorem s_X12_fits_64 : cV mX12_fits 64 mX12_liveOf 200 1 12 := ⟨by decide +kernel, ⟨ml_X12_liveOf, li_RX12_200, im_X12_liveOf, se_X12_liveOf⟩, ⟨by decide +kernel, by decide +kernel⟩, by decide +kernel⟩
theorem s_X12_fits_95 : cV mX12_fits 95 mX12_size 211 1 12 := ⟨by decide +kernel, ⟨ml_X12_size, li_RX12_211, im_X12_size, se_X12_size⟩, ⟨by decide +kernel, by decide +kernel⟩, by decide +kernel⟩
theorem t_X12_fits_0 {rc rs : Nat} {Q : Option AV → AH → Prop} {h : AH} {x1 x2 : Int} (hL : LayM h) (hv : (m_sz h x1) ∧ ((3 ≤ (m_tier h x1) → wp mX12_fits 3 rc rs Q 24 [some (vr 71), some (vi x1), some (vi x2), some (vi 0), some (vi 0), some (vi 0), some (vi x1)] [] h) ∧ ((m_tier h x1) < 3 → wp mX12_fits 3 rc rs Q 24 [some (vr 71), some (vi x1), some (vi x2), some (vi 1), some (vi 0), some (vi 0), some (vi x1)] [] h))) : wp mX12_fits 3 rc rs Q 0 [some (vr 71), some (vi x1), some (vi x2), none, none, none, none] [] h :=
  (show wp mX12_fits 3 rc rs Q 0 [some (vr 71), some (vi x1), some (vi x2), none, none, none, none] [] h from xcV k_X12_fits_0 s_X12_fits_2 (have c5 := hv.1; have v6 := hv.2; (Exists.intro [vi x1] (Exists.intro 71 (Exists.intro [] (And.intro (And.intro rfl (And.intro rfl (Nat.le_of_ble_eq_true rfl))) (And.intro (lm_71 hL) (Exists.intro 2 (Exists.intro 0 (Exists.intro 0 (Exists.intro _ (And.intro (c_tier hL c5) (And.intro (And.intro (by decide) (And.intro (Nat.zero_le _) (Nat.zero_le _))) (eQP (show wp mX12_fits 3 rc rs Q 5 [some (vr 71), some (vi x1), some (vi x2), none, none, none, none] [vi (m_tier h x1)] h from xIc k_X12_fits_5 (And.intro (fun c1 => have v3 := v6.1 c1; (show wp mX12_fits 3 rc rs Q 13 [some (vr 71), some (vi x1), some (vi x2), none, none, none, none] [] h from xB k_X12_fits_13 (And.intro rfl (And.intro rfl (And.intro rfl (And.intro rfl v3)))))) (fun c2 => have v4 := v6.2 (Int.not_le.mp c2); (show wp mX12_fits 3 rc rs Q 9 [some (vr 71), some (vi x1), some (vi x2), none, none, none, none] [] h from xGo k_X12_fits_9 (show wp mX12_fits 3 rc rs Q 14 [some (vr 71), some (vi x1), some (vi x2), none, none, none, none] [vi 1] h from xB k_X12_fits_14 (And.intro rfl (And.intro rfl (And.intro rfl (And.intro rfl v4)))))))))))))))))))))))
theorem e_X12_fits {mc ms : Nat} {Q : Option AV → AH → Prop} {h : AH} {x1 x2 : Int} (hL : LayM h) (hv : (m_sz h x1) ∧ ((3 ≤ (m_tier h x1) → wp mX12_fits 3 mc ms Q 24 [some (vr 71), some (vi x1), some (vi x2), some (vi 0), some (vi 0), some (vi 0), some (vi x1)] [] h) ∧ ((m_tier h x1) < 3 → wp mX12_fits 3 mc ms Q 24 [some (vr 71), some (vi x1), some (vi x2), some (vi 1), some (vi 0), some (vi 0), some (vi x1)] [] h))) : Ct 3 mc ms mX12_fits [vr 71, vi x1, vi x2] h Q := Ct.of (by decide +kernel) (Nat.le_of_ble_eq_true rfl) (t_X12_fits_0 hL hv)
theorem t_X12_fits_24 {rc rs : Nat} {Q : Option AV → AH → Prop} {h : AH} {x1 x2 x3 x4 x5 x6 : Int} (hL : LayM h) (hv : (-2147483648 ≤ (x1 + x2) ∧ (x1 + x2) < 2147483648) ∧ (((x1 + x2) ≤ x6 → (((iH h 71 21) ≠ 3 → ((x3 = 0 → Q (some (vi 0)) h) ∧ (x3 ≠ 0 → (((iH h 71 21) ≠ 4 → Q (some (vi 1)) h) ∧ ((iH h 71 21) = 4 → ((x4 = 0 → Q (some (vi 0)) h) ∧ (x4 ≠ 0 → Q (some (vi 1)) h))))))) ∧ ((iH h 71 21) = 3 → ((x3 ≠ 0 → Q (some (vi 1)) h) ∧ (x3 = 0 → (((iH h 71 22) < x5 → Q (some (vi 0)) h) ∧ (x5 ≤ (iH h 71 22) → Q (some (vi 1)) h))))))) ∧ (x6 < (x1 + x2) → (m_sz h x6) ∧ (m_sz h x1) ∧ (((m_tier h x6) ≠ (m_tier h x1) → (0 ≤ x6 ∧ x6 < 8) ∧ (m_seg h (iH h 1137 x6.toNat)) ∧ (0 ≤ iH h 1137 x6.toNat ∧ iH h 1137 x6.toNat < 520) ∧ (((iH h 597 ((iH h 1137 x6.toNat).toNat)) ≤ (m_live h (iH h 1137 x6.toNat)) → (m_sz h x6) ∧ (-2147483648 ≤ (x5 + (m_size h x6)) ∧ (x5 + (m_size h x6)) < 2147483648) ∧ (-2147483648 ≤ (x6 + 1) ∧ (x6 + 1) < 2147483648) ∧ wp mX12_fits 3 rc rs Q 24 [some (vr 71), some (vi x1), some (vi x2), some (vi (andI x3 0)), some (vi (orI x4 0)), some (vi (x5 + (m_size h x6))), some (vi (x6 + 1))] [] h) ∧ ((m_live h (iH h 1137 x6.toNat)) < (iH h 597 ((iH h 1137 x6.toNat).toNat)) → (m_sz h x6) ∧ (-2147483648 ≤ (x5 + (m_size h x6)) ∧ (x5 + (m_size h x6)) < 2147483648) ∧ (-2147483648 ≤ (x6 + 1) ∧ (x6 + 1) < 2147483648) ∧ wp mX12_fits 3 rc rs Q 24 [some (vr 71), some (vi x1), some (vi x2), some (vi (andI x3 0)), some (vi (orI x4 1)), some (vi (x5 + (m_size h x6))), some (vi (x6 + 1))] [] h))) ∧ ((m_tier h x6) = (m_tier h x1) → (0 ≤ x6 ∧ x6 < 8) ∧ (m_seg h (iH h 1137 x6.toNat)) ∧ (0 ≤ iH h 1137 x6.toNat ∧ iH h 1137 x6.toNat < 520) ∧ (((iH h 597 ((iH h 1137 x6.toNat).toNat)) ≤ (m_live h (iH h 1137 x6.toNat)) → (m_sz h x6) ∧ (-2147483648 ≤ (x5 + (m_size h x6)) ∧ (x5 + (m_size h x6)) < 2147483648) ∧ (-2147483648 ≤ (x6 + 1) ∧ (x6 + 1) < 2147483648) ∧ wp mX12_fits 3 rc rs Q 24 [some (vr 71), some (vi x1), some (vi x2), some (vi (andI x3 1)), some (vi (orI x4 0)), some (vi (x5 + (m_size h x6))), some (vi (x6 + 1))] [] h) ∧ ((m_live h (iH h 1137 x6.toNat)) < (iH h 597 ((iH h 1137 x6.toNat).toNat)) → (m_sz h x6) ∧ (-2147483648 ≤ (x5 + (m_size h x6)) ∧ (x5 + (m_size h x6)) < 2147483648) ∧ (-2147483648 ≤ (x6 + 1) ∧ (x6 + 1) < 2147483648) ∧ wp mX12_fits 3 rc rs Q 24 [some (vr 71), some (vi x1), some (vi x2), some (vi (andI x3 1)), some (vi (orI x4 1)), some (vi (x5 + (m_size h x6))), some (vi (x6 + 1))] [] h))))))) : wp mX12_fits 3 rc rs Q 24 [some (vr 71), some (vi x1), some (vi x2), some (vi x3), some (vi x4), some (vi x5), some (vi x6)] [] h :=
  (show wp mX12_fits 3 rc rs Q 24 [some (vr 71), some (vi x1), some (vi x2), some (vi x3), some (vi x4), some (vi x5), some (vi x6)] [] h from xIc k_X12_fits_24 (have c1 := hv.1; have v92 := hv.2; (And.intro c1 (And.intro (fun c2 => have v4 := v92.1 c2; (show wp mX12_fits 3 rc rs Q 107 [some (vr 71), some (vi x1), some (vi x2), some (vi x3), some (vi x4), some (vi x5), some (vi x6)] [] h from xIc k_X12_fits_107 (And.intro (lm_71 hL) (And.intro (fun c6 => have v8 := v4.1 c6; (show wp mX12_fits 3 rc rs Q 134 [some (vr 71), some (vi x1), some (vi x2), some (vi x3), some (vi x4), some (vi x5), some (vi x6)] [] h from xIf k_X12_fits_134 (And.intro (fun c10 => have v12 := v8.1 c10; (show wp mX12_fits 3 rc rs Q 155 [some (vr 71), some (vi x1), some (vi x2), some (vi x3), some (vi x4), some (vi x5), some (vi x6)] [] h from xZ k_X12_fits_155 (And.intro rfl (And.intro (Or.inl rfl) v12)))) (fun c11 => have v13 := v8.2 c11; (show wp mX12_fits 3 rc rs Q 138 [some (vr 71), some (vi x1), some (vi x2), some (vi x3), some (vi x4), some (vi x5), some (vi x6)] [] h from xIc k_X12_fits_138 (And.intro (lm_71 hL) (And.intro (fun c14 => have v16 := v13.1 c14; (show wp mX12_fits 3 rc rs Q 151 [some (vr 71), some (vi x1), some (vi x2), some (vi x3), some (vi x4), some (vi x5), some (vi x6)] [] h from xGo k_X12_fits_151 (show wp mX12_fits 3 rc rs Q 156 [some (vr 71), some (vi x1), some (vi x2), some (vi x3), some (vi x4), some (vi x5), some (vi x6)] [vi 1] h from xZ k_X12_fits_156 (And.intro rfl (And.intro (Or.inr rfl) v16))))) (fun c15 => have v17 := v13.2 (Decidable.not_not.mp c15); (show wp mX12_fits 3 rc rs Q 146 [some (vr 71), some (vi x1), some (vi x2), some (vi x3), some (vi x4), some (vi x5), some (vi x6)] [] h from xIf k_X12_fits_146 (And.intro (fun c18 => have v20 := v17.1 c18; (show wp mX12_fits 3 rc rs Q 155 [some (vr 71), some (vi x1), some (vi x2), some (vi x3), some (vi x4), some (vi x5), some (vi x6)] [] h from xZ k_X12_fits_155 (And.intro rfl (And.intro (Or.inl rfl) v20)))) (fun c19 => have v21 := v17.2 c19; (show wp mX12_fits 3 rc rs Q 151 [some (vr 71), some (vi x1), some (vi x2), some (vi x3), some (vi x4), some (vi x5), some (vi x6)] [] h from xGo k_X12_fits_151 (show wp mX12_fits 3 rc rs Q 156 [some (vr 71), some (vi x1), some (vi x2), some (vi x3), some (vi x4), some (vi x5), some (vi x6)] [vi 1] h from xZ k_X12_fits_156 (And.intro rfl (And.intro (Or.inr rfl) v21))))))))))))))) (fun c7 => have v9 := v4.2 (Decidable.not_not.mp c7); (show wp mX12_fits 3 rc rs Q 115 [some (vr 71), some (vi x1), some (vi x2), some (vi x3), some (vi x4), some (vi x5), some (vi x6)] [] h from xIf k_X12_fits_115 (And.intro (fun c22 => have v24 := v9.1 c22; (show wp mX12_fits 3 rc rs Q 128 [some (vr 71), some (vi x1), some (vi x2), some (vi x3), some (vi x4), some (vi x5), some (vi x6)] [] h from xGo k_X12_fits_128 (show wp mX12_fits 3 rc rs Q 133 [some (vr 71), some (vi x1), some (vi x2), some (vi x3), some (vi x4), some (vi x5), some (vi x6)] [vi 1] h from xZ k_X12_fits_133 (And.intro rfl (And.intro (Or.inr rfl) v24))))) (fun c23 => have v25 := v9.2 (Decidable.not_not.mp c23); (show wp mX12_fits 3 rc rs Q 119 [some (vr 71), some (vi x1), some (vi x2), some (vi x3), some (vi x4), some (vi x5), some (vi x6)] [] h from xIc k_X12_fits_119 (And.intro (lm_71 hL) (And.intro (fun c26 => have v28 := v25.1 c26; (show wp mX12_fits 3 rc rs Q 132 [some (vr 71), some (vi x1), some (vi x2), some (vi x3), some (vi x4), some (vi x5), some (vi x6)] [] h from xZ k_X12_fits_132 (And.intro rfl (And.intro (Or.inl rfl) v28)))) (fun c27 => have v29 := v25.2 (Int.not_lt.mp c27); (show wp mX12_fits 3 rc rs Q 128 [some (vr 71), some (vi x1), some (vi x2), some (vi x3), some (vi x4), some (vi x5), some (vi x6)] [] h from xGo k_X12_fits_128 (show wp mX12_fits 3 rc rs Q 133 [some (vr 71), some (vi x1), some (vi x2), some (vi x3), some (vi x4), some (vi x5), some (vi x6)] [vi 1] h from xZ k_X12_fits_133 (And.intro rfl (And.intro (Or.inr rfl) v29)))))))))))))))) (fun c3 => have v5 := v92.2 (Int.not_le.mp c3); (show wp mX12_fits 3 rc rs Q 32 [some (vr 71), some (vi x1), some (vi x2), some (vi x3), some (vi x4), some (vi x5), some (vi x6)] [] h from xcV k_X12_fits_32 s_X12_fits_36 (have c89 := v5.1; have v90 := v5.2; (Exists.intro [vi x6] (Exists.intro 71 (Exists.intro [vi x3] (And.intro (And.intro rfl (And.intro rfl (Nat.le_of_ble_eq_true rfl))) (And.intro (lm_71 hL) (Exists.intro 2 (Exists.intro 0 (Exists.intro 0 (Exists.intro _ (And.intro (c_tier hL c89) (And.intro (And.intro (by decide) (And.intro (Nat.zero_le _) (Nat.zero_le _))) (eQP (show wp mX12_fits 3 rc rs Q 39 [some (vr 71), some (vi x1), some (vi x2), some (vi x3), some (vi x4), some (vi x5), some (vi x6)] [vi (m_tier h x6), vi x3] h from xcV k_X12_fits_39 s_X12_fits_41 (have c86 := v90.1; have v87 := v90.2; (Exists.intro [vi x1] (Exists.intro 71 (Exists.intro [vi (m_tier h x6), vi x3] (And.intro (And.intro rfl (And.intro rfl (Nat.le_of_ble_eq_true rfl))) (And.intro (lm_71 hL) (Exists.intro 2 (Exists.intro 0 (Exists.intro 0 (Exists.intro _ (And.intro (c_tier hL c86) (And.intro (And.intro (by decide) (And.intro (Nat.zero_le _) (Nat.zero_le _))) (eQP (show wp mX12_fits 3 rc rs Q 44 [some (vr 71), some (vi x1), some (vi x2), some (vi x3), some (vi x4), some (vi x5), some (vi x6)] [vi (m_tier h x1), vi (m_tier h x6), vi x3] h from xIc k_X12_fits_44 (And.intro (fun c30 => have v32 := v87.1 c30; (show wp mX12_fits 3 rc rs Q 51 [some (vr 71), some (vi x1), some (vi x2), some (vi x3), some (vi x4), some (vi x5), some (vi x6)] [vi x3] h from xcV k_X12_fits_51 s_X12_fits_64 (And.intro rfl (And.intro (lm_71 hL) (Exists.intro 1137 (And.intro (lf_71_14 hL) (have c34 := v32.1; have v59 := v32.2; (And.intro (sdI (lm_1137 hL) c34) (have c56 := v59.1; have v57 := v59.2; (Exists.intro [vi (iH h 1137 x6.toNat)] (Exists.intro 71 (Exists.intro [vi x4] (And.intro (And.intro rfl (And.intro rfl (Nat.le_of_ble_eq_true rfl))) (And.intro (lm_71 hL) (Exists.intro 0 (Exists.intro 0 (Exists.intro 0 (Exists.intro _ (And.intro (c_liveOf hL c56) (And.intro (And.intro (by decide) (And.intro (Nat.zero_le _) (Nat.zero_le _))) (eQP (show wp mX12_fits 3 rc rs Q 67 [some (vr 71), some (vi x1), some (vi x2), some (vi (andI x3 0)), some (vi x4), some (vi x5), some (vi x6)] [vi (m_live h (iH h 1137 x6.toNat)), vi x4] h from xIc k_X12_fits_67 (And.intro (lm_71 hL) (Exists.intro 597 (And.intro (lf_71_7 hL) (And.intro (lm_71 hL) (Exists.intro 1137 (And.intro (lf_71_14 hL) (And.intro (sdI (lm_1137 hL) c34) (have c36 := v57.1; have v55 := v57.2; (And.intro (sdI (lm_597 hL) c36) (And.intro (fun c37 => have v39 := v55.1 c37; (show wp mX12_fits 3 rc rs Q 86 [some (vr 71), some (vi x1), some (vi x2), some (vi (andI x3 0)), some (vi x4), some (vi x5), some (vi x6)] [vi x4] h from xcV k_X12_fits_86 s_X12_fits_95 (And.intro rfl (have c45 := v39.1; have v46 := v39.2; (Exists.intro [vi x6] (Exists.intro 71 (Exists.intro [vi x5] (And.intro (And.intro rfl (And.intro rfl (Nat.le_of_ble_eq_true rfl))) (And.intro (lm_71 hL) (Exists.intro 1 (Exists.intro 0 (Exists.intro 0 (Exists.intro _ (And.intro (c_size hL c45) (And.intro (And.intro (by decide) (And.intro (Nat.zero_le _) (Nat.zero_le _))) (eQP (show wp mX12_fits 3 rc rs Q 98 [some (vr 71), some (vi x1), some (vi x2), some (vi (andI x3 0)), some (vi (orI x4 0)), some (vi x5), some (vi x6)] [vi (m_size h x6), vi x5] h from xGo k_X12_fits_98 (have c41 := v46.1; have v44 := v46.2; (And.intro c41 (And.intro rfl (have c42 := v44.1; have v43 := v44.2; (And.intro c42 (And.intro rfl v43))))))))))))))))))))))) (fun c38 => have v40 := v55.2 (Int.not_le.mp c38); (show wp mX12_fits 3 rc rs Q 82 [some (vr 71), some (vi x1), some (vi x2), some (vi (andI x3 0)), some (vi x4), some (vi x5), some (vi x6)] [vi x4] h from xGo k_X12_fits_82 (show wp mX12_fits 3 rc rs Q 87 [some (vr 71), some (vi x1), some (vi x2), some (vi (andI x3 0)), some (vi x4), some (vi x5), some (vi x6)] [vi 1, vi x4] h from xcV k_X12_fits_87 s_X12_fits_95 (And.intro rfl (have c52 := v40.1; have v53 := v40.2; (Exists.intro [vi x6] (Exists.intro 71 (Exists.intro [vi x5] (And.intro (And.intro rfl (And.intro rfl (Nat.le_of_ble_eq_true rfl))) (And.intro (lm_71 hL) (Exists.intro 1 (Exists.intro 0 (Exists.intro 0 (Exists.intro _ (And.intro (c_size hL c52) (And.intro (And.intro (by decide) (And.intro (Nat.zero_le _) (Nat.zero_le _))) (eQP (show wp mX12_fits 3 rc rs Q 98 [some (vr 71), some (vi x1), some (vi x2), some (vi (andI x3 0)), some (vi (orI x4 1)), some (vi x5), some (vi x6)] [vi (m_size h x6), vi x5] h from xGo k_X12_fits_98 (have c48 := v53.1; have v51 := v53.2; (And.intro c48 (And.intro rfl (have c49 := v51.1; have v50 := v51.2; (And.intro c49 (And.intro rfl v50)))))))))))))))))))))))))))))))))))))))))))))))))))))))) (fun c31 => have v33 := v87.2 (Decidable.not_not.mp c31); (show wp mX12_fits 3 rc rs Q 47 [some (vr 71), some (vi x1), some (vi x2), some (vi x3), some (vi x4), some (vi x5), some (vi x6)] [vi x3] h from xGo k_X12_fits_47 (show wp mX12_fits 3 rc rs Q 52 [some (vr 71), some (vi x1), some (vi x2), some (vi x3), some (vi x4), some (vi x5), some (vi x6)] [vi 1, vi x3] h from xcV k_X12_fits_52 s_X12_fits_64 (And.intro rfl (And.intro (lm_71 hL) (Exists.intro 1137 (And.intro (lf_71_14 hL) (have c60 := v33.1; have v85 := v33.2; (And.intro (sdI (lm_1137 hL) c60) (have c82 := v85.1; have v83 := v85.2; (Exists.intro [vi (iH h 1137 x6.toNat)] (Exists.intro 71 (Exists.intro [vi x4] (And.intro (And.intro rfl (And.intro rfl (Nat.le_of_ble_eq_true rfl))) (And.intro (lm_71 hL) (Exists.intro 0 (Exists.intro 0 (Exists.intro 0 (Exists.intro _ (And.intro (c_liveOf hL c82) (And.intro (And.intro (by decide) (And.intro (Nat.zero_le _) (Nat.zero_le _))) (eQP (show wp mX12_fits 3 rc rs Q 67 [some (vr 71), some (vi x1), some (vi x2), some (vi (andI x3 1)), some (vi x4), some (vi x5), some (vi x6)] [vi (m_live h (iH h 1137 x6.toNat)), vi x4] h from xIc k_X12_fits_67 (And.intro (lm_71 hL) (Exists.intro 597 (And.intro (lf_71_7 hL) (And.intro (lm_71 hL) (Exists.intro 1137 (And.intro (lf_71_14 hL) (And.intro (sdI (lm_1137 hL) c60) (have c62 := v83.1; have v81 := v83.2; (And.intro (sdI (lm_597 hL) c62) (And.intro (fun c63 => have v65 := v81.1 c63; (show wp mX12_fits 3 rc rs Q 86 [some (vr 71), some (vi x1), some (vi x2), some (vi (andI x3 1)), some (vi x4), some (vi x5), some (vi x6)] [vi x4] h from xcV k_X12_fits_86 s_X12_fits_95 (And.intro rfl (have c71 := v65.1; have v72 := v65.2; (Exists.intro [vi x6] (Exists.intro 71 (Exists.intro [vi x5] (And.intro (And.intro rfl (And.intro rfl (Nat.le_of_ble_eq_true rfl))) (And.intro (lm_71 hL) (Exists.intro 1 (Exists.intro 0 (Exists.intro 0 (Exists.intro _ (And.intro (c_size hL c71) (And.intro (And.intro (by decide) (And.intro (Nat.zero_le _) (Nat.zero_le _))) (eQP (show wp mX12_fits 3 rc rs Q 98 [some (vr 71), some (vi x1), some (vi x2), some (vi (andI x3 1)), some (vi (orI x4 0)), some (vi x5), some (vi x6)] [vi (m_size h x6), vi x5] h from xGo k_X12_fits_98 (have c67 := v72.1; have v70 := v72.2; (And.intro c67 (And.intro rfl (have c68 := v70.1; have v69 := v70.2; (And.intro c68 (And.intro rfl v69))))))))))))))))))))))) (fun c64 => have v66 := v81.2 (Int.not_le.mp c64); (show wp mX12_fits 3 rc rs Q 82 [some (vr 71), some (vi x1), some (vi x2), some (vi (andI x3 1)), some (vi x4), some (vi x5), some (vi x6)] [vi x4] h from xGo k_X12_fits_82 (show wp mX12_fits 3 rc rs Q 87 [some (vr 71), some (vi x1), some (vi x2), some (vi (andI x3 1)), some (vi x4), some (vi x5), some (vi x6)] [vi 1, vi x4] h from xcV k_X12_fits_87 s_X12_fits_95 (And.intro rfl (have c78 := v66.1; have v79 := v66.2; (Exists.intro [vi x6] (Exists.intro 71 (Exists.intro [vi x5] (And.intro (And.intro rfl (And.intro rfl (Nat.le_of_ble_eq_true rfl))) (And.intro (lm_71 hL) (Exists.intro 1 (Exists.intro 0 (Exists.intro 0 (Exists.intro _ (And.intro (c_size hL c78) (And.intro (And.intro (by decide) (And.intro (Nat.zero_le _) (Nat.zero_le _))) (eQP (show wp mX12_fits 3 rc rs Q 98 [some (vr 71), some (vi x1), some (vi x2), some (vi (andI x3 1)), some (vi (orI x4 1)), some (vi x5), some (vi x6)] [vi (m_size h x6), vi x5] h from xGo k_X12_fits_98 (have c74 := v79.1; have v77 := v79.2; (And.intro c74 (And.intro rfl (have c75 := v77.1; have v76 := v77.2; (And.intro c75 (And.intro rfl v76))))))))))))))))))))))))))))))))))))))))))))))))))))))))))))))))))))))))))))))))))))))))))))
def m_fz (h : AH) (a n : Int) : Prop := 0 ≤ a ∧ 1 ≤ n ∧ a + n ≤ 8 ∧ ∀ s : Nat, a ≤ (s : Int) → (s : Int) < a + n → m_sz h s
def m_alike (h : AH) (a : Int) (j : Nat) : Prop := m_tier h a < 3 ∧ ∀ i : Nat, i < j → m_tier h (a + i) = m_tier h a
def m_drp (h : AH) (a : Int) (j : Nat) : Prop := ∃ i : Nat, i < j ∧ m_live h (iH h 1137 (a + i).toNat) < iH h 597 (iH h 1137 (a + i).toNat).toNat
noncomputable def m_szs (h : AH) (a : Int) (j : Nat) : Int := sumN (fun i => m_size h (a + i)) j
def m_fits (h : AH) (a n : Int) : Prop := (iH h 71 21 = 3 ∧ (m_alike h a n.toNat ∨ m_szs h a n.toNat ≤ iH h 71 22)) ∨ (iH h 71 21 ≠ 3 ∧ m_alike h a n.toNat ∧ (iH h 71 21 ≠ 4 ∨ m_drp h a n.toNat))
theorem c_fits {h : AH} (hL : LayM h) {a n : Int} (hf : m_fz h a n) : Ct 3 0 0 mX12_fits [vr 71, vi a, vi n] h (QI fun x h' => x = b01 (m_fits h a n) ∧ h' = h) := by
  have h1 := hf.1
  have h2 := hf.2.1
  have h3 := hf.2.2.1
  have hza : m_sz h a := by
    have := hf.2.2.2 a.toNat (by omega) (by omega)
    rw [show ((a.toNat : Nat) : Int) = a by omega] at this
    exact this
  have e0 : a = a + ((0 : Nat) : Int) := by omega
  have main : wp mX12_fits 3 0 0 (QI fun x h' => x = b01 (m_fits h a n) ∧ h' = h) 24 [some (vr 71), some (vi a), some (vi n), some (vi (b01 (m_alike h a 0))), some (vi (b01 (m_drp h a 0))), some (vi (m_szs h a 0)), some (vi a)] [] h := by
    have := up (P := fun j => wp mX12_fits 3 0 0 (QI fun x h' => x = b01 (m_fits h a n) ∧ h' = h) 24 [some (vr 71), some (vi a), some (vi n), some (vi (b01 (m_alike h a j))), some (vi (b01 (m_drp h a j))), some (vi (m_szs h a j)), some (vi (a + (j : Int)))] [] h) n.toNat ?_ ?_
    · rw [← e0] at this; exact this
    · refine t_X12_fits_24 hL ⟨by omega, fun _ => ⟨fun c => ⟨fun c2 => ⟨_, rfl, ?_, rfl⟩, fun c2 => ⟨fun c3 => ⟨_, rfl, ?_, rfl⟩, fun c3 => ⟨fun c4 => ⟨_, rfl, ?_, rfl⟩, fun c4 => ⟨_, rfl, ?_, rfl⟩⟩⟩⟩, fun c => ⟨fun c2 => ⟨_, rfl, ?_, rfl⟩, fun c2 => ⟨fun c3 => ⟨_, rfl, ?_, rfl⟩, fun c3 => ⟨_, rfl, ?_, rfl⟩⟩⟩⟩, fun c => absurd c (by omega)⟩
      · refine (b01_f ?_).symm
        rintro (⟨q, -⟩ | ⟨-, q, -⟩)
        · exact c q
        · exact b01_n.mp c2 q
      · exact (b01_t (Or.inr ⟨c, b01_p.mp c2, Or.inl c3⟩)).symm
      · refine (b01_f ?_).symm
        rintro (⟨q, -⟩ | ⟨-, -, q⟩)
        · exact c q
        · rcases q with q | q
          · exact q c3
          · exact b01_n.mp c4 q
      · exact (b01_t (Or.inr ⟨c, b01_p.mp c2, Or.inr (b01_p.mp c4)⟩)).symm
      · exact (b01_t (Or.inl ⟨c, Or.inl (b01_p.mp c2)⟩)).symm
      · refine (b01_f ?_).symm
        rintro (⟨-, q⟩ | ⟨q, -⟩)
        · rcases q with q | q
          · exact b01_n.mp c2 q
          · omega
        · exact q c
      · exact (b01_t (Or.inl ⟨c, Or.inr c3⟩)).symm
    · intro j hj ih
      have hz : m_sz h (a + (j : Int)) := by
        have := hf.2.2.2 (a.toNat + j) (by omega) (by omega)
        rw [show ((a.toNat + j : Nat) : Int) = a + (j : Int) by omega] at this
        exact this
      have hb := sumN_bd (fun i => m_size h (a + (i : Int))) 64 (by omega) j (fun i hi => by
        have := hf.2.2.2 (a.toNat + i) (by omega) (by omega)
        rw [show ((a.toNat + i : Nat) : Int) = a + (i : Int) by omega] at this
        exact m_size_bd this)
      have hb' : 0 ≤ m_szs h a j ∧ m_szs h a j ≤ (j : Int) * 64 := hb
      have hs := m_size_bd hz
      have e3 : m_szs h a (j + 1) = m_szs h a j + m_size h (a + (j : Int)) := rfl
      have aN : m_tier h (a + (j : Int)) ≠ m_tier h a → b01 (m_alike h a (j + 1)) = andI (b01 (m_alike h a j)) 0 := fun q => by
        rw [andI_0 (b01_01 _)]
        exact b01_f fun r => q (r.2 j (by omega))
      have aY : m_tier h (a + (j : Int)) = m_tier h a → b01 (m_alike h a (j + 1)) = andI (b01 (m_alike h a j)) 1 := fun q => by
        rw [andI_1 (b01_01 _), show m_alike h a (j + 1) = m_alike h a j from propext ⟨fun r => ⟨r.1, fun i hi => r.2 i (by omega)⟩, fun r => ⟨r.1, fun i hi => by
          by_cases e : i = j
          · subst e; exact q
          · exact r.2 i (by omega)⟩⟩]
      have dN : iH h 597 (iH h 1137 (a + (j : Int)).toNat).toNat ≤ m_live h (iH h 1137 (a + (j : Int)).toNat) → b01 (m_drp h a (j + 1)) = orI (b01 (m_drp h a j)) 0 := fun q => by
        rw [orI_0 (b01_01 _), show m_drp h a (j + 1) = m_drp h a j from propext ⟨fun ⟨i, hi, r⟩ => ⟨i, by
          by_cases e : i = j
          · subst e; omega
          · omega, r⟩, fun ⟨i, hi, r⟩ => ⟨i, by omega, r⟩⟩]
      have dY : m_live h (iH h 1137 (a + (j : Int)).toNat) < iH h 597 (iH h 1137 (a + (j : Int)).toNat).toNat → b01 (m_drp h a (j + 1)) = orI (b01 (m_drp h a j)) 1 := fun q => by
        rw [orI_1 (b01_01 _)]
        exact b01_t ⟨j, by omega, q⟩
      rw [show a + ((j + 1 : Nat) : Int) = a + (j : Int) + 1 by omega] at ih
      refine t_X12_fits_24 hL ⟨by omega, fun c => absurd c (by omega), fun c => ⟨hz, hza, fun c2 => ⟨by omega, hz.2.1, hz.2.1.1, fun c3 => ⟨hz, by omega, by omega, ?_⟩, fun c3 => ⟨hz, by omega, by omega, ?_⟩⟩, fun c2 => ⟨by omega, hz.2.1, hz.2.1.1, fun c3 => ⟨hz, by omega, by omega, ?_⟩, fun c3 => ⟨hz, by omega, by omega, ?_⟩⟩⟩⟩
      · rw [← aN c2, ← dN c3, ← e3]; exact ih
      · rw [← aN c2, ← dY c3, ← e3]; exact ih
      · rw [← aY c2, ← dN c3, ← e3]; exact ih
      · rw [← aY c2, ← dY c3, ← e3]; exact ih
  have d0 : b01 (m_drp h a 0) = 0 := b01_f fun ⟨i, hi, _⟩ => by omega
  rw [d0] at main
  refine e_X12_fits hL ⟨hza, fun c => ?_, fun c => ?_⟩
  · rw [b01_f (fun q : m_alike h a 0 => by have := q.1; omega)] at main; exact main
  · rw [b01_t (p := m_alike h a 0) ⟨c, fun i hi => by omega⟩] at main; exact main
def b_X12_chosen_0 : List IE := [(.aload_n 0, 1, 0, 0, 0, 0)]
theorem k_X12_chosen_0 : ckB mX12_chosen 12 0 b_X12_chosen_0 1 = true := by decide +kernel
def b_X12_chosen_4 : List IE := [(.istore_n 1, 1, 0, 0, 1, 0), (.iconst (-1), 1, (-1), 0, 0, 0), (.istore_n 2, 1, 0, 0, 2, 0), (.iconst 0, 1, 0, 0, 0, 0), (.istore_n 3, 1, 0, 0, 3, 0)]
theorem k_X12_chosen_4 : ckB mX12_chosen 12 4 b_X12_chosen_4 9 = true := by decide +kernel
def b_X12_chosen_9 : List IE := [(.iload_n 3, 1, 0, 0, 3, 0), (.iload_n 1, 1, 0, 0, 1, 0), (.iadd, 1, 0, 0, 0, 0), (.aload_n 0, 1, 0, 0, 0, 0), (.getfield 106, 3, 0, 12, 13, 0)]
theorem k_X12_chosen_9 : ckIc mX12_chosen 12 9 b_X12_chosen_9 16 4 38 54 19 = true := by decide +kernel
def b_X12_chosen_19 : List IE := [(.aload_n 0, 1, 0, 0, 0, 0), (.iload_n 3, 1, 0, 0, 3, 0), (.iload_n 1, 1, 0, 0, 1, 0)]
theorem k_X12_chosen_19 : ckB mX12_chosen 12 19 b_X12_chosen_19 22 = true := by decide +kernel
def b_X12_chosen_25 : List IE := []
theorem k_X12_chosen_25 : ckIf mX12_chosen 12 25 b_X12_chosen_25 25 0 23 48 28 = true := by decide +kernel
def b_X12_chosen_28 : List IE := [(.iload_n 2, 1, 0, 0, 2, 0), (.iconst (-1), 1, (-1), 0, 0, 0)]
theorem k_X12_chosen_28 : ckIc mX12_chosen 12 28 b_X12_chosen_28 30 0 16 46 33 = true := by decide +kernel
def b_X12_chosen_33 : List IE := [(.aload_n 0, 1, 0, 0, 0, 0), (.iload_n 3, 1, 0, 0, 3, 0)]
theorem k_X12_chosen_33 : ckB mX12_chosen 12 33 b_X12_chosen_33 35 = true := by decide +kernel
def b_X12_chosen_38 : List IE := [(.aload_n 0, 1, 0, 0, 0, 0), (.iload_n 2, 1, 0, 0, 2, 0)]
theorem k_X12_chosen_38 : ckB mX12_chosen 12 38 b_X12_chosen_38 40 = true := by decide +kernel
def b_X12_chosen_43 : List IE := []
theorem k_X12_chosen_43 : ckIc mX12_chosen 12 43 b_X12_chosen_43 43 3 5 48 46 = true := by decide +kernel
def b_X12_chosen_46 : List IE := [(.iload_n 3, 1, 0, 0, 3, 0), (.istore_n 2, 1, 0, 0, 2, 0), (.iinc 3 1, 3, 1, 0, 3, 0)]
theorem k_X12_chosen_46 : ckGo mX12_chosen 12 46 b_X12_chosen_46 51 (-42) 9 = true := by decide +kernel
def b_X12_chosen_48 : List IE := [(.iinc 3 1, 3, 1, 0, 3, 0)]
theorem k_X12_chosen_48 : ckGo mX12_chosen 12 48 b_X12_chosen_48 51 (-42) 9 = true := by decide +kernel
def b_X12_chosen_54 : List IE := [(.iload_n 2, 1, 0, 0, 2, 0)]
theorem k_X12_chosen_54 : ckI mX12_chosen 12 54 b_X12_chosen_54 55 = true := by decide +kernel
theorem s_X12_chosen_1 : cV mX12_chosen 1 mX12_width 217 0 12 := ⟨by decide +kernel, ⟨ml_X12_width, li_RX12_217, im_X12_width, se_X12_width⟩, ⟨by decide +kernel, by decide +kernel⟩, by decide +kernel⟩
theorem s_X12_chosen_22 : cV mX12_chosen 22 mX12_fits 220 2 12 := ⟨by decide +kernel, ⟨ml_X12_fits, li_RX12_220, im_X12_fits, se_X12_fits⟩, ⟨by decide +kernel, by decide +kernel⟩, by decide +kernel⟩
theorem s_X12_chosen_35 : cV mX12_chosen 35 mX12_tier 214 1 12 := ⟨by decide +kernel, ⟨ml_X12_tier, li_RX12_214, im_X12_tier, se_X12_tier⟩, ⟨by decide +kernel, by decide +kernel⟩, by decide +kernel⟩
theorem s_X12_chosen_40 : cV mX12_chosen 40 mX12_tier 214 1 12 := ⟨by decide +kernel, ⟨ml_X12_tier, li_RX12_214, im_X12_tier, se_X12_tier⟩, ⟨by decide +kernel, by decide +kernel⟩, by decide +kernel⟩
theorem t_X12_chosen_0 {rc rs : Nat} {Q : Option AV → AH → Prop} {h : AH}  (hL : LayM h) (hv : wp mX12_chosen 4 rc rs Q 9 [some (vr 71), some (vi (m_width h)), some (vi (-1)), some (vi 0)] [] h) : wp mX12_chosen 4 rc rs Q 0 [some (vr 71), none, none, none] [] h :=
  (show wp mX12_chosen 4 rc rs Q 0 [some (vr 71), none, none, none] [] h from xcV k_X12_chosen_0 s_X12_chosen_1 ((Exists.intro [] (Exists.intro 71 (Exists.intro [] (And.intro (And.intro rfl (And.intro rfl (Nat.le_of_ble_eq_true rfl))) (And.intro (lm_71 hL) (Exists.intro 0 (Exists.intro 0 (Exists.intro 0 (Exists.intro _ (And.intro (c_width hL) (And.intro (And.intro (by decide) (And.intro (Nat.zero_le _) (Nat.zero_le _))) (eQP (show wp mX12_chosen 4 rc rs Q 4 [some (vr 71), none, none, none] [vi (m_width h)] h from xB k_X12_chosen_4 (And.intro rfl (And.intro rfl (And.intro rfl hv))))))))))))))))))
theorem e_X12_chosen {mc ms : Nat} {Q : Option AV → AH → Prop} {h : AH}  (hL : LayM h) (hv : wp mX12_chosen 4 mc ms Q 9 [some (vr 71), some (vi (m_width h)), some (vi (-1)), some (vi 0)] [] h) : Ct 4 mc ms mX12_chosen [vr 71] h Q := Ct.of (by decide +kernel) (Nat.le_of_ble_eq_true rfl) (t_X12_chosen_0 hL hv)
theorem t_X12_chosen_9 {rc rs : Nat} {Q : Option AV → AH → Prop} {h : AH} {x1 x2 x3 : Int} (hL : LayM h) (hv : (-2147483648 ≤ (x3 + x1) ∧ (x3 + x1) < 2147483648) ∧ (((iH h 71 13) < (x3 + x1) → Q (some (vi x2)) h) ∧ ((x3 + x1) ≤ (iH h 71 13) → (m_fz h x3 x1) ∧ ((¬ (m_fits h x3 x1) → (-2147483648 ≤ (x3 + 1) ∧ (x3 + 1) < 2147483648) ∧ wp mX12_chosen 4 rc rs Q 9 [some (vr 71), some (vi x1), some (vi x2), some (vi (x3 + 1))] [] h) ∧ ((m_fits h x3 x1) → ((x2 = (-1) → (-2147483648 ≤ (x3 + 1) ∧ (x3 + 1) < 2147483648) ∧ wp mX12_chosen 4 rc rs Q 9 [some (vr 71), some (vi x1), some (vi x3), some (vi (x3 + 1))] [] h) ∧ (x2 ≠ (-1) → (m_sz h x3) ∧ (m_sz h x2) ∧ (((m_tier h x2) ≤ (m_tier h x3) → (-2147483648 ≤ (x3 + 1) ∧ (x3 + 1) < 2147483648) ∧ wp mX12_chosen 4 rc rs Q 9 [some (vr 71), some (vi x1), some (vi x2), some (vi (x3 + 1))] [] h) ∧ ((m_tier h x3) < (m_tier h x2) → (-2147483648 ≤ (x3 + 1) ∧ (x3 + 1) < 2147483648) ∧ wp mX12_chosen 4 rc rs Q 9 [some (vr 71), some (vi x1), some (vi x3), some (vi (x3 + 1))] [] h))))))))) : wp mX12_chosen 4 rc rs Q 9 [some (vr 71), some (vi x1), some (vi x2), some (vi x3)] [] h :=
  (show wp mX12_chosen 4 rc rs Q 9 [some (vr 71), some (vi x1), some (vi x2), some (vi x3)] [] h from xIc k_X12_chosen_9 (have c1 := hv.1; have v35 := hv.2; (And.intro c1 (And.intro (lm_71 hL) (And.intro (fun c2 => have v4 := v35.1 c2; (show wp mX12_chosen 4 rc rs Q 54 [some (vr 71), some (vi x1), some (vi x2), some (vi x3)] [] h from xI k_X12_chosen_54 (And.intro rfl v4))) (fun c3 => have v5 := v35.2 (Int.not_lt.mp c3); (show wp mX12_chosen 4 rc rs Q 19 [some (vr 71), some (vi x1), some (vi x2), some (vi x3)] [] h from xcV k_X12_chosen_19 s_X12_chosen_22 (have c32 := v5.1; have v33 := v5.2; (Exists.intro [vi x3, vi x1] (Exists.intro 71 (Exists.intro [] (And.intro (And.intro rfl (And.intro rfl (Nat.le_of_ble_eq_true rfl))) (And.intro (lm_71 hL) (Exists.intro 3 (Exists.intro 0 (Exists.intro 0 (Exists.intro _ (And.intro (c_fits hL c32) (And.intro (And.intro (by decide) (And.intro (Nat.zero_le _) (Nat.zero_le _))) (eQP (show wp mX12_chosen 4 rc rs Q 25 [some (vr 71), some (vi x1), some (vi x2), some (vi x3)] [vi (b01 (m_fits h x3 x1))] h from xIf k_X12_chosen_25 (And.intro (fun c6 => have v8 := v33.1 (b01_n.mp c6); (show wp mX12_chosen 4 rc rs Q 48 [some (vr 71), some (vi x1), some (vi x2), some (vi x3)] [] h from xGo k_X12_chosen_48 (have c10 := v8.1; have v11 := v8.2; (And.intro c10 (And.intro rfl v11))))) (fun c7 => have v9 := v33.2 (b01_p.mp c7); (show wp mX12_chosen 4 rc rs Q 28 [some (vr 71), some (vi x1), some (vi x2), some (vi x3)] [] h from xIc k_X12_chosen_28 (And.intro (fun c12 => have v14 := v9.1 c12; (show wp mX12_chosen 4 rc rs Q 46 [some (vr 71), some (vi x1), some (vi x2), some (vi x3)] [] h from xGo k_X12_chosen_46 (And.intro rfl (have c16 := v14.1; have v17 := v14.2; (And.intro c16 (And.intro rfl v17)))))) (fun c13 => have v15 := v9.2 c13; (show wp mX12_chosen 4 rc rs Q 33 [some (vr 71), some (vi x1), some (vi x2), some (vi x3)] [] h from xcV k_X12_chosen_33 s_X12_chosen_35 (have c29 := v15.1; have v30 := v15.2; (Exists.intro [vi x3] (Exists.intro 71 (Exists.intro [] (And.intro (And.intro rfl (And.intro rfl (Nat.le_of_ble_eq_true rfl))) (And.intro (lm_71 hL) (Exists.intro 2 (Exists.intro 0 (Exists.intro 0 (Exists.intro _ (And.intro (c_tier hL c29) (And.intro (And.intro (by decide) (And.intro (Nat.zero_le _) (Nat.zero_le _))) (eQP (show wp mX12_chosen 4 rc rs Q 38 [some (vr 71), some (vi x1), some (vi x2), some (vi x3)] [vi (m_tier h x3)] h from xcV k_X12_chosen_38 s_X12_chosen_40 (have c26 := v30.1; have v27 := v30.2; (Exists.intro [vi x2] (Exists.intro 71 (Exists.intro [vi (m_tier h x3)] (And.intro (And.intro rfl (And.intro rfl (Nat.le_of_ble_eq_true rfl))) (And.intro (lm_71 hL) (Exists.intro 2 (Exists.intro 0 (Exists.intro 0 (Exists.intro _ (And.intro (c_tier hL c26) (And.intro (And.intro (by decide) (And.intro (Nat.zero_le _) (Nat.zero_le _))) (eQP (show wp mX12_chosen 4 rc rs Q 43 [some (vr 71), some (vi x1), some (vi x2), some (vi x3)] [vi (m_tier h x2), vi (m_tier h x3)] h from xIc k_X12_chosen_43 (And.intro (fun c18 => have v20 := v27.1 c18; (show wp mX12_chosen 4 rc rs Q 48 [some (vr 71), some (vi x1), some (vi x2), some (vi x3)] [] h from xGo k_X12_chosen_48 (have c22 := v20.1; have v23 := v20.2; (And.intro c22 (And.intro rfl v23))))) (fun c19 => have v21 := v27.2 (Int.not_le.mp c19); (show wp mX12_chosen 4 rc rs Q 46 [some (vr 71), some (vi x1), some (vi x2), some (vi x3)] [] h from xGo k_X12_chosen_46 (And.intro rfl (have c24 := v21.1; have v25 := v21.2; (And.intro c24 (And.intro rfl v25))))))))))))))))))))))))))))))))))))))))))))))))))))))))))))))
def m_pol (h : AH) : Prop := (0 ≤ iH h 71 13 ∧ iH h 71 13 ≤ 8) ∧ (0 ≤ iH h 71 22 ∧ iH h 71 22 ≤ 9) ∧ ∀ s : Nat, (s : Int) < iH h 71 13 → m_seg h (iH h 1137 s)
noncomputable def m_chs (h : AH) : Nat → Int
  | 0 => -1
  | s + 1 => @ite _ (m_fits h s (m_width h) ∧ (m_chs h s = -1 ∨ m_tier h s < m_tier h (m_chs h s))) (Classical.propDecidable _) (s : Int) (m_chs h s)
noncomputable def m_ch (h : AH) : Int := m_chs h (iH h 71 13 - m_width h + 1).toNat
theorem m_width_bd (h : AH) : 2 ≤ m_width h ∧ m_width h ≤ 9 := by
  unfold m_width
  split
  · omega
  · split <;> omega
theorem m_chs_bd (h : AH) : ∀ s : Nat, -1 ≤ m_chs h s ∧ m_chs h s < (s : Int)
  | 0 => by simp [m_chs]
  | s + 1 => by
    have := m_chs_bd h s
    unfold m_chs
    split <;> omega
theorem m_ch_bd {h : AH} : -1 ≤ m_ch h ∧ (m_ch h ≠ -1 → m_ch h + m_width h ≤ iH h 71 13) := by
  have h1 := m_chs_bd h (iH h 71 13 - m_width h + 1).toNat
  unfold m_ch
  omega
theorem c_chosen {h : AH} (hL : LayM h) (hp : m_pol h) : Ct 4 0 0 mX12_chosen [vr 71] h (QI fun x h' => x = m_ch h ∧ h' = h) := by
  have h1 := hp.1
  have hw := m_width_bd h
  have hz : ∀ s : Nat, (s : Int) < iH h 71 13 → m_sz h s := fun s hs => ⟨by omega, hp.2.2 s hs, hp.2.1⟩
  refine e_X12_chosen hL (up (P := fun s => wp mX12_chosen 4 _ _ _ 9 [some (vr 71), some (vi (m_width h)), some (vi (m_chs h s)), some (vi s)] [] h) (iH h 71 13 - m_width h + 1).toNat ?_ ?_)
  · exact t_X12_chosen_9 hL ⟨by omega, fun _ => ⟨_, rfl, rfl, rfl⟩, fun c => absurd c (by omega)⟩
  · intro s hs ih
    have hb := m_chs_bd h s
    have yes : m_fits h s (m_width h) → (m_chs h s = -1 ∨ m_tier h s < m_tier h (m_chs h s)) → m_chs h (s + 1) = s := fun q r => by
      unfold m_chs; rw [if_pos ⟨q, r⟩]
    have no : ¬ (m_fits h s (m_width h) ∧ (m_chs h s = -1 ∨ m_tier h s < m_tier h (m_chs h s))) → m_chs h (s + 1) = m_chs h s := fun q => by
      rw [show m_chs h (s + 1) = @ite _ (m_fits h s (m_width h) ∧ (m_chs h s = -1 ∨ m_tier h s < m_tier h (m_chs h s))) (Classical.propDecidable _) (s : Int) (m_chs h s) from rfl, if_neg q]
    have hf : m_fz h s (m_width h) := ⟨by omega, by omega, by omega, fun j _ hj => hz j (by omega)⟩
    refine t_X12_chosen_9 hL ⟨by omega, fun c => absurd c (by omega), fun c => ⟨hf, fun c2 => ⟨by omega, ?_⟩, fun c2 => ⟨fun c3 => ⟨by omega, ?_⟩, fun c3 => ⟨hz s (by omega), ?_, fun c4 => ⟨by omega, ?_⟩, fun c4 => ⟨by omega, ?_⟩⟩⟩⟩⟩
    · rw [no fun q => c2 q.1] at ih; exact ih
    · rw [yes c2 (Or.inl c3)] at ih; exact ih
    · have := hz (m_chs h s).toNat (by omega)
      rw [show (((m_chs h s).toNat : Nat) : Int) = m_chs h s by omega] at this
      exact this
    · rw [no fun q => by rcases q.2 with q | q <;> omega] at ih; exact ih
    · rw [yes c2 (Or.inr c4)] at ih; exact ih
def b_X12_choice_0 : List IE := [(.iload_n 1, 1, 0, 0, 1, 0), (.iconst 0, 1, 0, 0, 0, 0), (.iconst 2, 1, 2, 0, 0, 0)]
theorem k_X12_choice_0 : ckB mX12_choice 12 0 b_X12_choice_0 3 = true := by decide +kernel
def b_X12_choice_6 : List IE := []
theorem k_X12_choice_6 : ckIf mX12_choice 12 6 b_X12_choice_6 6 1 6 12 9 = true := by decide +kernel
def b_X12_choice_9 : List IE := [(.bipush (-2), 2, (-2), 0, 0, 0)]
theorem k_X12_choice_9 : ckI mX12_choice 12 9 b_X12_choice_9 11 = true := by decide +kernel
def b_X12_choice_12 : List IE := [(.aload_n 0, 1, 0, 0, 0, 0)]
theorem k_X12_choice_12 : ckB mX12_choice 12 12 b_X12_choice_12 13 = true := by decide +kernel
def b_X12_choice_16 : List IE := [(.istore_n 2, 1, 0, 0, 2, 0), (.iload_n 1, 1, 0, 0, 1, 0)]
theorem k_X12_choice_16 : ckIf mX12_choice 12 16 b_X12_choice_16 18 1 5 23 21 = true := by decide +kernel
def b_X12_choice_21 : List IE := [(.iload_n 2, 1, 0, 0, 2, 0)]
theorem k_X12_choice_21 : ckI mX12_choice 12 21 b_X12_choice_21 22 = true := by decide +kernel
def b_X12_choice_23 : List IE := [(.iload_n 2, 1, 0, 0, 2, 0), (.iconst (-1), 1, (-1), 0, 0, 0)]
theorem k_X12_choice_23 : ckIc mX12_choice 12 23 b_X12_choice_23 25 1 5 30 28 = true := by decide +kernel
def b_X12_choice_28 : List IE := [(.iconst 0, 1, 0, 0, 0, 0)]
theorem k_X12_choice_28 : ckI mX12_choice 12 28 b_X12_choice_28 29 = true := by decide +kernel
def b_X12_choice_30 : List IE := [(.iload_n 1, 1, 0, 0, 1, 0), (.iconst 1, 1, 1, 0, 0, 0)]
theorem k_X12_choice_30 : ckIc mX12_choice 12 30 b_X12_choice_30 32 1 10 42 35 = true := by decide +kernel
def b_X12_choice_35 : List IE := [(.aload_n 0, 1, 0, 0, 0, 0)]
theorem k_X12_choice_35 : ckB mX12_choice 12 35 b_X12_choice_35 36 = true := by decide +kernel
def b_X12_choice_39 : List IE := []
theorem k_X12_choice_39 : ckGo mX12_choice 12 39 b_X12_choice_39 39 12 51 = true := by decide +kernel
def b_X12_choice_42 : List IE := [(.aload_n 0, 1, 0, 0, 0, 0), (.iload_n 2, 1, 0, 0, 2, 0), (.aload_n 0, 1, 0, 0, 0, 0)]
theorem k_X12_choice_42 : ckB mX12_choice 12 42 b_X12_choice_42 45 = true := by decide +kernel
def b_X12_choice_48 : List IE := []
theorem k_X12_choice_48 : ckB mX12_choice 12 48 b_X12_choice_48 48 = true := by decide +kernel
def b_X12_choice_51 : List IE := []
theorem k_X12_choice_51 : ckI mX12_choice 12 51 b_X12_choice_51 51 = true := by decide +kernel
theorem s_X12_choice_3 : cS mX12_choice 3 mX12_in 109 3 := ⟨by decide +kernel, ⟨ml_X12_in, li_RX12_109, st_X12_in⟩, by decide +kernel⟩
theorem s_X12_choice_13 : cV mX12_choice 13 mX12_chosen 223 0 12 := ⟨by decide +kernel, ⟨ml_X12_chosen, li_RX12_223, im_X12_chosen, se_X12_chosen⟩, ⟨by decide +kernel, by decide +kernel⟩, by decide +kernel⟩
theorem s_X12_choice_36 : cV mX12_choice 36 mX12_width 217 0 12 := ⟨by decide +kernel, ⟨ml_X12_width, li_RX12_217, im_X12_width, se_X12_width⟩, ⟨by decide +kernel, by decide +kernel⟩, by decide +kernel⟩
theorem s_X12_choice_45 : cV mX12_choice 45 mX12_width 217 0 12 := ⟨by decide +kernel, ⟨ml_X12_width, li_RX12_217, im_X12_width, se_X12_width⟩, ⟨by decide +kernel, by decide +kernel⟩, by decide +kernel⟩
theorem s_X12_choice_48 : cV mX12_choice 48 mX12_liveIn 226 2 12 := ⟨by decide +kernel, ⟨ml_X12_liveIn, li_RX12_226, im_X12_liveIn, se_X12_liveIn⟩, ⟨by decide +kernel, by decide +kernel⟩, by decide +kernel⟩
theorem t_X12_choice_0 {rc rs : Nat} {Q : Option AV → AH → Prop} {h : AH} {x1 : Int} (hL : LayM h) (hv : ((((0 : Int) ≤ x1 ∧ x1 ≤ (2 : Int)) → (m_pol h) ∧ ((x1 ≠ 0 → (((m_ch h) ≠ (-1) → ((x1 ≠ 1 → (m_rng h (m_ch h) (m_width h)) ∧ Q (some (vi (m_liveIn h (m_ch h) (m_width h)))) h) ∧ (x1 = 1 → Q (some (vi (m_width h))) h))) ∧ ((m_ch h) = (-1) → Q (some (vi 0)) h))) ∧ (x1 = 0 → Q (some (vi (m_ch h))) h))) ∧ (¬ ((0 : Int) ≤ x1 ∧ x1 ≤ (2 : Int)) → Q (some (vi (-2))) h))) : wp mX12_choice 5 rc rs Q 0 [some (vr 71), some (vi x1), none] [] h :=
  (show wp mX12_choice 5 rc rs Q 0 [some (vr 71), some (vi x1), none] [] h from xcS k_X12_choice_0 s_X12_choice_3 ((Exists.intro [vi x1, vi 0, vi 2] (Exists.intro [] (And.intro (And.intro rfl (And.intro rfl (Nat.le_of_ble_eq_true rfl))) (Exists.intro 0 (Exists.intro 0 (Exists.intro 0 (Exists.intro _ (And.intro c_in (And.intro (And.intro (by decide) (And.intro (Nat.zero_le _) (Nat.zero_le _))) (eQP (show wp mX12_choice 5 rc rs Q 6 [some (vr 71), some (vi x1), none] [vi (b01 ((0 : Int) ≤ x1 ∧ x1 ≤ (2 : Int)))] h from xIf k_X12_choice_6 (And.intro (fun c1 => have v3 := hv.1 (b01_p.mp c1); (show wp mX12_choice 5 rc rs Q 12 [some (vr 71), some (vi x1), none] [] h from xcV k_X12_choice_12 s_X12_choice_13 (have c26 := v3.1; have v27 := v3.2; (Exists.intro [] (Exists.intro 71 (Exists.intro [] (And.intro (And.intro rfl (And.intro rfl (Nat.le_of_ble_eq_true rfl))) (And.intro (lm_71 hL) (Exists.intro 4 (Exists.intro 0 (Exists.intro 0 (Exists.intro _ (And.intro (c_chosen hL c26) (And.intro (And.intro (by decide) (And.intro (Nat.zero_le _) (Nat.zero_le _))) (eQP (show wp mX12_choice 5 rc rs Q 16 [some (vr 71), some (vi x1), none] [vi (m_ch h)] h from xIf k_X12_choice_16 (And.intro rfl (And.intro (fun c5 => have v7 := v27.1 c5; (show wp mX12_choice 5 rc rs Q 23 [some (vr 71), some (vi x1), some (vi (m_ch h))] [] h from xIc k_X12_choice_23 (And.intro (fun c9 => have v11 := v7.1 c9; (show wp mX12_choice 5 rc rs Q 30 [some (vr 71), some (vi x1), some (vi (m_ch h))] [] h from xIc k_X12_choice_30 (And.intro (fun c13 => have v15 := v11.1 c13; (show wp mX12_choice 5 rc rs Q 42 [some (vr 71), some (vi x1), some (vi (m_ch h))] [] h from xcV k_X12_choice_42 s_X12_choice_45 ((Exists.intro [] (Exists.intro 71 (Exists.intro [vi (m_ch h), vr 71] (And.intro (And.intro rfl (And.intro rfl (Nat.le_of_ble_eq_true rfl))) (And.intro (lm_71 hL) (Exists.intro 0 (Exists.intro 0 (Exists.intro 0 (Exists.intro _ (And.intro (c_width hL) (And.intro (And.intro (by decide) (And.intro (Nat.zero_le _) (Nat.zero_le _))) (eQP (show wp mX12_choice 5 rc rs Q 48 [some (vr 71), some (vi x1), some (vi (m_ch h))] [vi (m_width h), vi (m_ch h), vr 71] h from xcV k_X12_choice_48 s_X12_choice_48 (have c17 := v15.1; have v18 := v15.2; (Exists.intro [vi (m_ch h), vi (m_width h)] (Exists.intro 71 (Exists.intro [] (And.intro (And.intro rfl (And.intro rfl (Nat.le_of_ble_eq_true rfl))) (And.intro (lm_71 hL) (Exists.intro 1 (Exists.intro 0 (Exists.intro 0 (Exists.intro _ (And.intro (c_liveIn hL c17) (And.intro (And.intro (by decide) (And.intro (Nat.zero_le _) (Nat.zero_le _))) (eQP (show wp mX12_choice 5 rc rs Q 51 [some (vr 71), some (vi x1), some (vi (m_ch h))] [vi (m_liveIn h (m_ch h) (m_width h))] h from xI k_X12_choice_51 (And.intro rfl v18))))))))))))))))))))))))))))))) (fun c14 => have v16 := v11.2 (Decidable.not_not.mp c14); (show wp mX12_choice 5 rc rs Q 35 [some (vr 71), some (vi x1), some (vi (m_ch h))] [] h from xcV k_X12_choice_35 s_X12_choice_36 ((Exists.intro [] (Exists.intro 71 (Exists.intro [] (And.intro (And.intro rfl (And.intro rfl (Nat.le_of_ble_eq_true rfl))) (And.intro (lm_71 hL) (Exists.intro 0 (Exists.intro 0 (Exists.intro 0 (Exists.intro _ (And.intro (c_width hL) (And.intro (And.intro (by decide) (And.intro (Nat.zero_le _) (Nat.zero_le _))) (eQP (show wp mX12_choice 5 rc rs Q 39 [some (vr 71), some (vi x1), some (vi (m_ch h))] [vi (m_width h)] h from xGo k_X12_choice_39 (show wp mX12_choice 5 rc rs Q 51 [some (vr 71), some (vi x1), some (vi (m_ch h))] [vi (m_width h)] h from xI k_X12_choice_51 (And.intro rfl v16))))))))))))))))))))) (fun c10 => have v12 := v7.2 (Decidable.not_not.mp c10); (show wp mX12_choice 5 rc rs Q 28 [some (vr 71), some (vi x1), some (vi (m_ch h))] [] h from xI k_X12_choice_28 (And.intro rfl v12)))))) (fun c6 => have v8 := v27.2 (Decidable.not_not.mp c6); (show wp mX12_choice 5 rc rs Q 21 [some (vr 71), some (vi x1), some (vi (m_ch h))] [] h from xI k_X12_choice_21 (And.intro rfl v8))))))))))))))))))))) (fun c2 => have v4 := hv.2 (b01_nn.mp c2); (show wp mX12_choice 5 rc rs Q 9 [some (vr 71), some (vi x1), none] [] h from xI k_X12_choice_9 (And.intro rfl v4)))))))))))))))))
theorem e_X12_choice {mc ms : Nat} {Q : Option AV → AH → Prop} {h : AH} {x1 : Int} (hL : LayM h) (hv : ((((0 : Int) ≤ x1 ∧ x1 ≤ (2 : Int)) → (m_pol h) ∧ ((x1 ≠ 0 → (((m_ch h) ≠ (-1) → ((x1 ≠ 1 → (m_rng h (m_ch h) (m_width h)) ∧ Q (some (vi (m_liveIn h (m_ch h) (m_width h)))) h) ∧ (x1 = 1 → Q (some (vi (m_width h))) h))) ∧ ((m_ch h) = (-1) → Q (some (vi 0)) h))) ∧ (x1 = 0 → Q (some (vi (m_ch h))) h))) ∧ (¬ ((0 : Int) ≤ x1 ∧ x1 ≤ (2 : Int)) → Q (some (vi (-2))) h))) : Ct 5 mc ms mX12_choice [vr 71, vi x1] h Q := Ct.of (by decide +kernel) (Nat.le_of_ble_eq_true rfl) (t_X12_choice_0 hL hv)
def b_X12_taken_0 : List IE := [(.iload_n 1, 1, 0, 0, 1, 0), (.iconst 0, 1, 0, 0, 0, 0), (.iconst 5, 1, 5, 0, 0, 0)]
theorem k_X12_taken_0 : ckB mX12_taken 12 0 b_X12_taken_0 3 = true := by decide +kernel
def b_X12_taken_6 : List IE := []
theorem k_X12_taken_6 : ckIf mX12_taken 12 6 b_X12_taken_6 6 1 6 12 9 = true := by decide +kernel
def b_X12_taken_9 : List IE := [(.bipush (-2), 2, (-2), 0, 0, 0)]
theorem k_X12_taken_9 : ckI mX12_taken 12 9 b_X12_taken_9 11 = true := by decide +kernel
def b_X12_taken_12 : List IE := [(.iload_n 1, 1, 0, 0, 1, 0)]
theorem k_X12_taken_12 : ckIf mX12_taken 12 12 b_X12_taken_12 13 0 37 50 16 = true := by decide +kernel
def b_X12_taken_16 : List IE := [(.iload_n 1, 1, 0, 0, 1, 0), (.aload_n 0, 1, 0, 0, 0, 0), (.getfield 197, 3, 0, 12, 21, 0)]
theorem k_X12_taken_16 : ckIc mX12_taken 12 16 b_X12_taken_16 21 0 29 50 24 = true := by decide +kernel
def b_X12_taken_24 : List IE := [(.iload_n 1, 1, 0, 0, 1, 0), (.iconst 1, 1, 1, 0, 0, 0)]
theorem k_X12_taken_24 : ckIc mX12_taken 12 24 b_X12_taken_24 26 1 11 37 29 = true := by decide +kernel
def b_X12_taken_29 : List IE := [(.aload_n 0, 1, 0, 0, 0, 0), (.getfield 197, 3, 0, 12, 21, 0), (.iconst 3, 1, 3, 0, 0, 0)]
theorem k_X12_taken_29 : ckIc mX12_taken 12 29 b_X12_taken_29 34 0 16 50 37 = true := by decide +kernel
def b_X12_taken_37 : List IE := [(.iload_n 1, 1, 0, 0, 1, 0), (.iconst 2, 1, 2, 0, 0, 0)]
theorem k_X12_taken_37 : ckIc mX12_taken 12 37 b_X12_taken_37 39 1 15 54 42 = true := by decide +kernel
def b_X12_taken_42 : List IE := [(.aload_n 0, 1, 0, 0, 0, 0), (.getfield 197, 3, 0, 12, 21, 0), (.iconst 4, 1, 4, 0, 0, 0)]
theorem k_X12_taken_42 : ckIc mX12_taken 12 42 b_X12_taken_42 47 1 7 54 50 = true := by decide +kernel
def b_X12_taken_50 : List IE := [(.iconst 1, 1, 1, 0, 0, 0)]
theorem k_X12_taken_50 : ckGo mX12_taken 12 50 b_X12_taken_50 51 4 55 = true := by decide +kernel
def b_X12_taken_54 : List IE := [(.iconst 0, 1, 0, 0, 0, 0), (.istore_n 2, 1, 0, 0, 2, 0), (.iload_n 2, 1, 0, 0, 2, 0)]
theorem k_X12_taken_54 : ckIf mX12_taken 12 54 b_X12_taken_54 57 0 10 67 60 = true := by decide +kernel
def b_X12_taken_55 : List IE := [(.istore_n 2, 1, 0, 0, 2, 0), (.iload_n 2, 1, 0, 0, 2, 0)]
theorem k_X12_taken_55 : ckIf mX12_taken 12 55 b_X12_taken_55 57 0 10 67 60 = true := by decide +kernel
def b_X12_taken_60 : List IE := [(.aload_n 0, 1, 0, 0, 0, 0), (.getfield 203, 3, 0, 12, 22, 0)]
theorem k_X12_taken_60 : ckGo mX12_taken 12 60 b_X12_taken_60 64 5 69 = true := by decide +kernel
def b_X12_taken_67 : List IE := [(.bipush (-13), 2, (-13), 0, 0, 0)]
theorem k_X12_taken_67 : ckI mX12_taken 12 67 b_X12_taken_67 69 = true := by decide +kernel
def b_X12_taken_69 : List IE := []
theorem k_X12_taken_69 : ckI mX12_taken 12 69 b_X12_taken_69 69 = true := by decide +kernel
theorem s_X12_taken_3 : cS mX12_taken 3 mX12_in 109 3 := ⟨by decide +kernel, ⟨ml_X12_in, li_RX12_109, st_X12_in⟩, by decide +kernel⟩
theorem t_X12_taken_0 {rc rs : Nat} {Q : Option AV → AH → Prop} {h : AH} {x1 : Int} (hL : LayM h) (hv : ((((0 : Int) ≤ x1 ∧ x1 ≤ (5 : Int)) → ((x1 = 0 → Q (some (vi (iH h 71 22))) h) ∧ (x1 ≠ 0 → ((x1 = (iH h 71 21) → Q (some (vi (iH h 71 22))) h) ∧ (x1 ≠ (iH h 71 21) → ((x1 ≠ 1 → ((x1 ≠ 2 → Q (some (vi (-13))) h) ∧ (x1 = 2 → (((iH h 71 21) ≠ 4 → Q (some (vi (-13))) h) ∧ ((iH h 71 21) = 4 → Q (some (vi (iH h 71 22))) h))))) ∧ (x1 = 1 → (((iH h 71 21) = 3 → Q (some (vi (iH h 71 22))) h) ∧ ((iH h 71 21) ≠ 3 → ((x1 ≠ 2 → Q (some (vi (-13))) h) ∧ (x1 = 2 → (((iH h 71 21) ≠ 4 → Q (some (vi (-13))) h) ∧ ((iH h 71 21) = 4 → Q (some (vi (iH h 71 22))) h))))))))))))) ∧ (¬ ((0 : Int) ≤ x1 ∧ x1 ≤ (5 : Int)) → Q (some (vi (-2))) h))) : wp mX12_taken 1 rc rs Q 0 [some (vr 71), some (vi x1), none] [] h :=
  (show wp mX12_taken 1 rc rs Q 0 [some (vr 71), some (vi x1), none] [] h from xcS k_X12_taken_0 s_X12_taken_3 ((Exists.intro [vi x1, vi 0, vi 5] (Exists.intro [] (And.intro (And.intro rfl (And.intro rfl (Nat.le_of_ble_eq_true rfl))) (Exists.intro 0 (Exists.intro 0 (Exists.intro 0 (Exists.intro _ (And.intro c_in (And.intro (And.intro (by decide) (And.intro (Nat.zero_le _) (Nat.zero_le _))) (eQP (show wp mX12_taken 1 rc rs Q 6 [some (vr 71), some (vi x1), none] [vi (b01 ((0 : Int) ≤ x1 ∧ x1 ≤ (5 : Int)))] h from xIf k_X12_taken_6 (And.intro (fun c1 => have v3 := hv.1 (b01_p.mp c1); (show wp mX12_taken 1 rc rs Q 12 [some (vr 71), some (vi x1), none] [] h from xIf k_X12_taken_12 (And.intro (fun c5 => have v7 := v3.1 c5; (show wp mX12_taken 1 rc rs Q 50 [some (vr 71), some (vi x1), none] [] h from xGo k_X12_taken_50 (show wp mX12_taken 1 rc rs Q 55 [some (vr 71), some (vi x1), none] [vi 1] h from xIf k_X12_taken_55 (And.intro rfl (And.intro (fun c => absurd (show (1 : Int) = (0 : Int) from c) (by decide)) (fun _ => (show wp mX12_taken 1 rc rs Q 60 [some (vr 71), some (vi x1), some (vi 1)] [] h from xGo k_X12_taken_60 (And.intro (lm_71 hL) (show wp mX12_taken 1 rc rs Q 69 [some (vr 71), some (vi x1), some (vi 1)] [vi (iH h 71 22)] h from xI k_X12_taken_69 (And.intro rfl v7)))))))))) (fun c6 => have v8 := v3.2 c6; (show wp mX12_taken 1 rc rs Q 16 [some (vr 71), some (vi x1), none] [] h from xIc k_X12_taken_16 (And.intro (lm_71 hL) (And.intro (fun c9 => have v11 := v8.1 c9; (show wp mX12_taken 1 rc rs Q 50 [some (vr 71), some (vi x1), none] [] h from xGo k_X12_taken_50 (show wp mX12_taken 1 rc rs Q 55 [some (vr 71), some (vi x1), none] [vi 1] h from xIf k_X12_taken_55 (And.intro rfl (And.intro (fun c => absurd (show (1 : Int) = (0 : Int) from c) (by decide)) (fun _ => (show wp mX12_taken 1 rc rs Q 60 [some (vr 71), some (vi x1), some (vi 1)] [] h from xGo k_X12_taken_60 (And.intro (lm_71 hL) (show wp mX12_taken 1 rc rs Q 69 [some (vr 71), some (vi x1), some (vi 1)] [vi (iH h 71 22)] h from xI k_X12_taken_69 (And.intro rfl v11)))))))))) (fun c10 => have v12 := v8.2 c10; (show wp mX12_taken 1 rc rs Q 24 [some (vr 71), some (vi x1), none] [] h from xIc k_X12_taken_24 (And.intro (fun c13 => have v15 := v12.1 c13; (show wp mX12_taken 1 rc rs Q 37 [some (vr 71), some (vi x1), none] [] h from xIc k_X12_taken_37 (And.intro (fun c17 => have v19 := v15.1 c17; (show wp mX12_taken 1 rc rs Q 54 [some (vr 71), some (vi x1), none] [] h from xIf k_X12_taken_54 (And.intro rfl (And.intro (fun _ => (show wp mX12_taken 1 rc rs Q 67 [some (vr 71), some (vi x1), some (vi 0)] [] h from xI k_X12_taken_67 (And.intro rfl v19))) (fun c => absurd (show (0 : Int) = (0 : Int) by decide) c))))) (fun c18 => have v20 := v15.2 (Decidable.not_not.mp c18); (show wp mX12_taken 1 rc rs Q 42 [some (vr 71), some (vi x1), none] [] h from xIc k_X12_taken_42 (And.intro (lm_71 hL) (And.intro (fun c21 => have v23 := v20.1 c21; (show wp mX12_taken 1 rc rs Q 54 [some (vr 71), some (vi x1), none] [] h from xIf k_X12_taken_54 (And.intro rfl (And.intro (fun _ => (show wp mX12_taken 1 rc rs Q 67 [some (vr 71), some (vi x1), some (vi 0)] [] h from xI k_X12_taken_67 (And.intro rfl v23))) (fun c => absurd (show (0 : Int) = (0 : Int) by decide) c))))) (fun c22 => have v24 := v20.2 (Decidable.not_not.mp c22); (show wp mX12_taken 1 rc rs Q 50 [some (vr 71), some (vi x1), none] [] h from xGo k_X12_taken_50 (show wp mX12_taken 1 rc rs Q 55 [some (vr 71), some (vi x1), none] [vi 1] h from xIf k_X12_taken_55 (And.intro rfl (And.intro (fun c => absurd (show (1 : Int) = (0 : Int) from c) (by decide)) (fun _ => (show wp mX12_taken 1 rc rs Q 60 [some (vr 71), some (vi x1), some (vi 1)] [] h from xGo k_X12_taken_60 (And.intro (lm_71 hL) (show wp mX12_taken 1 rc rs Q 69 [some (vr 71), some (vi x1), some (vi 1)] [vi (iH h 71 22)] h from xI k_X12_taken_69 (And.intro rfl v24))))))))))))))))) (fun c14 => have v16 := v12.2 (Decidable.not_not.mp c14); (show wp mX12_taken 1 rc rs Q 29 [some (vr 71), some (vi x1), none] [] h from xIc k_X12_taken_29 (And.intro (lm_71 hL) (And.intro (fun c25 => have v27 := v16.1 c25; (show wp mX12_taken 1 rc rs Q 50 [some (vr 71), some (vi x1), none] [] h from xGo k_X12_taken_50 (show wp mX12_taken 1 rc rs Q 55 [some (vr 71), some (vi x1), none] [vi 1] h from xIf k_X12_taken_55 (And.intro rfl (And.intro (fun c => absurd (show (1 : Int) = (0 : Int) from c) (by decide)) (fun _ => (show wp mX12_taken 1 rc rs Q 60 [some (vr 71), some (vi x1), some (vi 1)] [] h from xGo k_X12_taken_60 (And.intro (lm_71 hL) (show wp mX12_taken 1 rc rs Q 69 [some (vr 71), some (vi x1), some (vi 1)] [vi (iH h 71 22)] h from xI k_X12_taken_69 (And.intro rfl v27)))))))))) (fun c26 => have v28 := v16.2 c26; (show wp mX12_taken 1 rc rs Q 37 [some (vr 71), some (vi x1), none] [] h from xIc k_X12_taken_37 (And.intro (fun c29 => have v31 := v28.1 c29; (show wp mX12_taken 1 rc rs Q 54 [some (vr 71), some (vi x1), none] [] h from xIf k_X12_taken_54 (And.intro rfl (And.intro (fun _ => (show wp mX12_taken 1 rc rs Q 67 [some (vr 71), some (vi x1), some (vi 0)] [] h from xI k_X12_taken_67 (And.intro rfl v31))) (fun c => absurd (show (0 : Int) = (0 : Int) by decide) c))))) (fun c30 => have v32 := v28.2 (Decidable.not_not.mp c30); (show wp mX12_taken 1 rc rs Q 42 [some (vr 71), some (vi x1), none] [] h from xIc k_X12_taken_42 (And.intro (lm_71 hL) (And.intro (fun c33 => have v35 := v32.1 c33; (show wp mX12_taken 1 rc rs Q 54 [some (vr 71), some (vi x1), none] [] h from xIf k_X12_taken_54 (And.intro rfl (And.intro (fun _ => (show wp mX12_taken 1 rc rs Q 67 [some (vr 71), some (vi x1), some (vi 0)] [] h from xI k_X12_taken_67 (And.intro rfl v35))) (fun c => absurd (show (0 : Int) = (0 : Int) by decide) c))))) (fun c34 => have v36 := v32.2 (Decidable.not_not.mp c34); (show wp mX12_taken 1 rc rs Q 50 [some (vr 71), some (vi x1), none] [] h from xGo k_X12_taken_50 (show wp mX12_taken 1 rc rs Q 55 [some (vr 71), some (vi x1), none] [vi 1] h from xIf k_X12_taken_55 (And.intro rfl (And.intro (fun c => absurd (show (1 : Int) = (0 : Int) from c) (by decide)) (fun _ => (show wp mX12_taken 1 rc rs Q 60 [some (vr 71), some (vi x1), some (vi 1)] [] h from xGo k_X12_taken_60 (And.intro (lm_71 hL) (show wp mX12_taken 1 rc rs Q 69 [some (vr 71), some (vi x1), some (vi 1)] [vi (iH h 71 22)] h from xI k_X12_taken_69 (And.intro rfl v36))))))))))))))))))))))))))))))) (fun c2 => have v4 := hv.2 (b01_nn.mp c2); (show wp mX12_taken 1 rc rs Q 9 [some (vr 71), some (vi x1), none] [] h from xI k_X12_taken_9 (And.intro rfl v4)))))))))))))))))
theorem e_X12_taken {mc ms : Nat} {Q : Option AV → AH → Prop} {h : AH} {x1 : Int} (hL : LayM h) (hv : ((((0 : Int) ≤ x1 ∧ x1 ≤ (5 : Int)) → ((x1 = 0 → Q (some (vi (iH h 71 22))) h) ∧ (x1 ≠ 0 → ((x1 = (iH h 71 21) → Q (some (vi (iH h 71 22))) h) ∧ (x1 ≠ (iH h 71 21) → ((x1 ≠ 1 → ((x1 ≠ 2 → Q (some (vi (-13))) h) ∧ (x1 = 2 → (((iH h 71 21) ≠ 4 → Q (some (vi (-13))) h) ∧ ((iH h 71 21) = 4 → Q (some (vi (iH h 71 22))) h))))) ∧ (x1 = 1 → (((iH h 71 21) = 3 → Q (some (vi (iH h 71 22))) h) ∧ ((iH h 71 21) ≠ 3 → ((x1 ≠ 2 → Q (some (vi (-13))) h) ∧ (x1 = 2 → (((iH h 71 21) ≠ 4 → Q (some (vi (-13))) h) ∧ ((iH h 71 21) = 4 → Q (some (vi (iH h 71 22))) h))))))))))))) ∧ (¬ ((0 : Int) ≤ x1 ∧ x1 ≤ (5 : Int)) → Q (some (vi (-2))) h))) : Ct 1 mc ms mX12_taken [vr 71, vi x1] h Q := Ct.of (by decide +kernel) (Nat.le_of_ble_eq_true rfl) (t_X12_taken_0 hL hv)
def b_X12_where_0 : List IE := [(.iload_n 1, 1, 0, 0, 1, 0)]
theorem k_X12_where_0 : ckB mX12_where 12 0 b_X12_where_0 1 = true := by decide +kernel
def b_X12_where_4 : List IE := []
theorem k_X12_where_4 : ckIf mX12_where 12 4 b_X12_where_4 4 1 6 10 7 = true := by decide +kernel
def b_X12_where_7 : List IE := [(.bipush (-2), 2, (-2), 0, 0, 0)]
theorem k_X12_where_7 : ckI mX12_where 12 7 b_X12_where_7 9 = true := by decide +kernel
def b_X12_where_10 : List IE := [(.aload_n 0, 1, 0, 0, 0, 0), (.iload_n 1, 1, 0, 0, 1, 0)]
theorem k_X12_where_10 : ckB mX12_where 12 10 b_X12_where_10 12 = true := by decide +kernel
def b_X12_where_15 : List IE := [(.istore_n 2, 1, 0, 0, 2, 0), (.iload_n 2, 1, 0, 0, 2, 0), (.iconst (-1), 1, (-1), 0, 0, 0)]
theorem k_X12_where_15 : ckIc mX12_where 12 15 b_X12_where_15 18 0 11 29 21 = true := by decide +kernel
def b_X12_where_21 : List IE := [(.sipush 1000, 3, 1000, 0, 0, 0), (.iload_n 2, 1, 0, 0, 2, 0), (.iadd, 1, 0, 0, 0, 0)]
theorem k_X12_where_21 : ckGo mX12_where 12 21 b_X12_where_21 26 8 34 = true := by decide +kernel
def b_X12_where_29 : List IE := [(.aload_n 0, 1, 0, 0, 0, 0), (.iload_n 1, 1, 0, 0, 1, 0)]
theorem k_X12_where_29 : ckB mX12_where 12 29 b_X12_where_29 31 = true := by decide +kernel
def b_X12_where_34 : List IE := []
theorem k_X12_where_34 : ckI mX12_where 12 34 b_X12_where_34 34 = true := by decide +kernel
theorem s_X12_where_1 : cS mX12_where 1 mX12_isKey 143 1 := ⟨by decide +kernel, ⟨ml_X12_isKey, li_RX12_143, st_X12_isKey⟩, by decide +kernel⟩
theorem s_X12_where_12 : cV mX12_where 12 mX12_bufferPlace 146 1 12 := ⟨by decide +kernel, ⟨ml_X12_bufferPlace, li_RX12_146, im_X12_bufferPlace, se_X12_bufferPlace⟩, ⟨by decide +kernel, by decide +kernel⟩, by decide +kernel⟩
theorem s_X12_where_31 : cV mX12_where 31 mX12_segmentPlace 149 1 12 := ⟨by decide +kernel, ⟨ml_X12_segmentPlace, li_RX12_149, im_X12_segmentPlace, se_X12_segmentPlace⟩, ⟨by decide +kernel, by decide +kernel⟩, by decide +kernel⟩
theorem t_X12_where_0 {rc rs : Nat} {Q : Option AV → AH → Prop} {h : AH} {x1 : Int} (hL : LayM h) (hv : (((0 ≤ x1 ∧ x1 ≤ 99) → (m_buf h) ∧ (((m_bp h x1) = (-1) → (m_now h) ∧ Q (some (vi (m_sp h x1))) h) ∧ ((m_bp h x1) ≠ (-1) → (-2147483648 ≤ (1000 + (m_bp h x1)) ∧ (1000 + (m_bp h x1)) < 2147483648) ∧ Q (some (vi (1000 + (m_bp h x1)))) h))) ∧ (¬ (0 ≤ x1 ∧ x1 ≤ 99) → Q (some (vi (-2))) h))) : wp mX12_where 2 rc rs Q 0 [some (vr 71), some (vi x1), none] [] h :=
  (show wp mX12_where 2 rc rs Q 0 [some (vr 71), some (vi x1), none] [] h from xcS k_X12_where_0 s_X12_where_1 ((Exists.intro [vi x1] (Exists.intro [] (And.intro (And.intro rfl (And.intro rfl (Nat.le_of_ble_eq_true rfl))) (Exists.intro 1 (Exists.intro 0 (Exists.intro 0 (Exists.intro _ (And.intro c_isKey (And.intro (And.intro (by decide) (And.intro (Nat.zero_le _) (Nat.zero_le _))) (eQP (show wp mX12_where 2 rc rs Q 4 [some (vr 71), some (vi x1), none] [vi (b01 (0 ≤ x1 ∧ x1 ≤ 99))] h from xIf k_X12_where_4 (And.intro (fun c1 => have v3 := hv.1 (b01_p.mp c1); (show wp mX12_where 2 rc rs Q 10 [some (vr 71), some (vi x1), none] [] h from xcV k_X12_where_10 s_X12_where_12 (have c14 := v3.1; have v15 := v3.2; (Exists.intro [vi x1] (Exists.intro 71 (Exists.intro [] (And.intro (And.intro rfl (And.intro rfl (Nat.le_of_ble_eq_true rfl))) (And.intro (lm_71 hL) (Exists.intro 0 (Exists.intro 0 (Exists.intro 0 (Exists.intro _ (And.intro (c_bufferPlace hL c14) (And.intro (And.intro (by decide) (And.intro (Nat.zero_le _) (Nat.zero_le _))) (eQP (show wp mX12_where 2 rc rs Q 15 [some (vr 71), some (vi x1), none] [vi (m_bp h x1)] h from xIc k_X12_where_15 (And.intro rfl (And.intro (fun c5 => have v7 := v15.1 c5; (show wp mX12_where 2 rc rs Q 29 [some (vr 71), some (vi x1), some (vi (m_bp h x1))] [] h from xcV k_X12_where_29 s_X12_where_31 (have c9 := v7.1; have v10 := v7.2; (Exists.intro [vi x1] (Exists.intro 71 (Exists.intro [] (And.intro (And.intro rfl (And.intro rfl (Nat.le_of_ble_eq_true rfl))) (And.intro (lm_71 hL) (Exists.intro 0 (Exists.intro 0 (Exists.intro 0 (Exists.intro _ (And.intro (c_segmentPlace hL c9) (And.intro (And.intro (by decide) (And.intro (Nat.zero_le _) (Nat.zero_le _))) (eQP (show wp mX12_where 2 rc rs Q 34 [some (vr 71), some (vi x1), some (vi (m_bp h x1))] [vi (m_sp h x1)] h from xI k_X12_where_34 (And.intro rfl v10))))))))))))))))) (fun c6 => have v8 := v15.2 c6; (show wp mX12_where 2 rc rs Q 21 [some (vr 71), some (vi x1), some (vi (m_bp h x1))] [] h from xGo k_X12_where_21 (have c12 := v8.1; have v13 := v8.2; (And.intro c12 (show wp mX12_where 2 rc rs Q 34 [some (vr 71), some (vi x1), some (vi (m_bp h x1))] [vi (1000 + (m_bp h x1))] h from xI k_X12_where_34 (And.intro rfl v13)))))))))))))))))))))))) (fun c2 => have v4 := hv.2 (b01_nn.mp c2); (show wp mX12_where 2 rc rs Q 7 [some (vr 71), some (vi x1), none] [] h from xI k_X12_where_7 (And.intro rfl v4)))))))))))))))))
theorem e_X12_where {mc ms : Nat} {Q : Option AV → AH → Prop} {h : AH} {x1 : Int} (hL : LayM h) (hv : (((0 ≤ x1 ∧ x1 ≤ 99) → (m_buf h) ∧ (((m_bp h x1) = (-1) → (m_now h) ∧ Q (some (vi (m_sp h x1))) h) ∧ ((m_bp h x1) ≠ (-1) → (-2147483648 ≤ (1000 + (m_bp h x1)) ∧ (1000 + (m_bp h x1)) < 2147483648) ∧ Q (some (vi (1000 + (m_bp h x1)))) h))) ∧ (¬ (0 ≤ x1 ∧ x1 ≤ 99) → Q (some (vi (-2))) h))) : Ct 2 mc ms mX12_where [vr 71, vi x1] h Q := Ct.of (by decide +kernel) (Nat.le_of_ble_eq_true rfl) (t_X12_where_0 hL hv)
def b_X12_costOfWord_0 : List IE := [(.iconst 0, 1, 0, 0, 0, 0), (.istore 4, 2, 0, 0, 4, 0), (.iconst 0, 1, 0, 0, 0, 0), (.istore 5, 2, 0, 0, 5, 0)]
theorem k_X12_costOfWord_0 : ckB mX12_costOfWord 12 0 b_X12_costOfWord_0 6 = true := by decide +kernel
def b_X12_costOfWord_6 : List IE := [(.iload 5, 2, 0, 0, 5, 0), (.aload_n 0, 1, 0, 0, 0, 0), (.getfield 37, 3, 0, 12, 10, 1), (.iload_n 1, 1, 0, 0, 1, 0), (.iaload, 1, 0, 0, 0, 0)]
theorem k_X12_costOfWord_6 : ckIc mX12_costOfWord 12 6 b_X12_costOfWord_6 14 3 52 66 17 = true := by decide +kernel
def b_X12_costOfWord_17 : List IE := [(.iload 4, 2, 0, 0, 4, 0), (.iload_n 3, 1, 0, 0, 3, 0), (.bipush 6, 2, 6, 0, 0, 0)]
theorem k_X12_costOfWord_17 : ckIc mX12_costOfWord 12 17 b_X12_costOfWord_17 22 1 20 42 25 = true := by decide +kernel
def b_X12_costOfWord_25 : List IE := [(.aload_n 0, 1, 0, 0, 0, 0), (.aload_n 0, 1, 0, 0, 0, 0), (.getfield 40, 3, 0, 12, 11, 1), (.iload_n 1, 1, 0, 0, 1, 0), (.aaload, 1, 0, 0, 0, 0), (.iload 5, 2, 0, 0, 5, 0), (.iaload, 1, 0, 0, 0, 0), (.iload_n 2, 1, 0, 0, 2, 0)]
theorem k_X12_costOfWord_25 : ckB mX12_costOfWord 12 25 b_X12_costOfWord_25 36 = true := by decide +kernel
def b_X12_costOfWord_39 : List IE := []
theorem k_X12_costOfWord_39 : ckGo mX12_costOfWord 12 39 b_X12_costOfWord_39 39 18 57 = true := by decide +kernel
def b_X12_costOfWord_42 : List IE := [(.aload_n 0, 1, 0, 0, 0, 0), (.aload_n 0, 1, 0, 0, 0, 0), (.getfield 40, 3, 0, 12, 11, 1), (.iload_n 1, 1, 0, 0, 1, 0), (.aaload, 1, 0, 0, 0, 0), (.iload 5, 2, 0, 0, 5, 0), (.iaload, 1, 0, 0, 0, 0), (.iload_n 2, 1, 0, 0, 2, 0), (.iload_n 3, 1, 0, 0, 3, 0)]
theorem k_X12_costOfWord_42 : ckB mX12_costOfWord 12 42 b_X12_costOfWord_42 54 = true := by decide +kernel
def b_X12_costOfWord_57 : List IE := [(.iadd, 1, 0, 0, 0, 0), (.istore 4, 2, 0, 0, 4, 0), (.iinc 5 1, 3, 1, 0, 5, 0)]
theorem k_X12_costOfWord_57 : ckGo mX12_costOfWord 12 57 b_X12_costOfWord_57 63 (-57) 6 = true := by decide +kernel
def b_X12_costOfWord_66 : List IE := [(.iload 4, 2, 0, 0, 4, 0)]
theorem k_X12_costOfWord_66 : ckI mX12_costOfWord 12 66 b_X12_costOfWord_66 68 = true := by decide +kernel
theorem s_X12_costOfWord_36 : cV mX12_costOfWord 36 mX12_postings 188 2 12 := ⟨by decide +kernel, ⟨ml_X12_postings, li_RX12_188, im_X12_postings, se_X12_postings⟩, ⟨by decide +kernel, by decide +kernel⟩, by decide +kernel⟩
theorem s_X12_costOfWord_54 : cV mX12_costOfWord 54 mX12_postingsBegun 361 3 12 := ⟨by decide +kernel, ⟨ml_X12_postingsBegun, li_RX12_361, im_X12_postingsBegun, se_X12_postingsBegun⟩, ⟨by decide +kernel, by decide +kernel⟩, by decide +kernel⟩
theorem t_X12_costOfWord_0 {rc rs : Nat} {Q : Option AV → AH → Prop} {h : AH} {x1 x2 x3 : Int} (hL : LayM h) (hv : wp mX12_costOfWord 3 rc rs Q 6 [some (vr 71), some (vi x1), some (vi x2), some (vi x3), some (vi 0), some (vi 0)] [] h) : wp mX12_costOfWord 3 rc rs Q 0 [some (vr 71), some (vi x1), some (vi x2), some (vi x3), none, none] [] h :=
  (show wp mX12_costOfWord 3 rc rs Q 0 [some (vr 71), some (vi x1), some (vi x2), some (vi x3), none, none] [] h from xB k_X12_costOfWord_0 (And.intro rfl (And.intro rfl hv)))
theorem e_X12_costOfWord {mc ms : Nat} {Q : Option AV → AH → Prop} {h : AH} {x1 x2 x3 : Int} (hL : LayM h) (hv : wp mX12_costOfWord 3 mc ms Q 6 [some (vr 71), some (vi x1), some (vi x2), some (vi x3), some (vi 0), some (vi 0)] [] h) : Ct 3 mc ms mX12_costOfWord [vr 71, vi x1, vi x2, vi x3] h Q := Ct.of (by decide +kernel) (Nat.le_of_ble_eq_true rfl) (t_X12_costOfWord_0 hL hv)
theorem t_X12_costOfWord_6 {rc rs : Nat} {Q : Option AV → AH → Prop} {h : AH} {x1 x2 x3 x4 x5 : Int} (hL : LayM h) (hv : (0 ≤ x1 ∧ x1 < 7) ∧ (((iH h 1120 x1.toNat) ≤ x5 → Q (some (vi x4)) h) ∧ (x5 < (iH h 1120 x1.toNat) → ((x3 ≠ 6 → (0 ≤ x5 ∧ x5 < 8) ∧ (m_dict h (iH h (1122 + x1.toNat) x5.toNat) ∧ m_bl x2 x3) ∧ (-2147483648 ≤ (x4 + (m_pb h (iH h (1122 + x1.toNat) x5.toNat) x2 x3)) ∧ (x4 + (m_pb h (iH h (1122 + x1.toNat) x5.toNat) x2 x3)) < 2147483648) ∧ (-2147483648 ≤ (x5 + 1) ∧ (x5 + 1) < 2147483648) ∧ wp mX12_costOfWord 3 rc rs Q 6 [some (vr 71), some (vi x1), some (vi x2), some (vi x3), some (vi (x4 + (m_pb h (iH h (1122 + x1.toNat) x5.toNat) x2 x3))), some (vi (x5 + 1))] [] h) ∧ (x3 = 6 → (0 ≤ x5 ∧ x5 < 8) ∧ (m_segd h (iH h (1122 + x1.toNat) x5.toNat)) ∧ (-2147483648 ≤ (x4 + (m_post h (iH h (1122 + x1.toNat) x5.toNat) x2)) ∧ (x4 + (m_post h (iH h (1122 + x1.toNat) x5.toNat) x2)) < 2147483648) ∧ (-2147483648 ≤ (x5 + 1) ∧ (x5 + 1) < 2147483648) ∧ wp mX12_costOfWord 3 rc rs Q 6 [some (vr 71), some (vi x1), some (vi x2), some (vi x3), some (vi (x4 + (m_post h (iH h (1122 + x1.toNat) x5.toNat) x2))), some (vi (x5 + 1))] [] h))))) : wp mX12_costOfWord 3 rc rs Q 6 [some (vr 71), some (vi x1), some (vi x2), some (vi x3), some (vi x4), some (vi x5)] [] h :=
  (show wp mX12_costOfWord 3 rc rs Q 6 [some (vr 71), some (vi x1), some (vi x2), some (vi x3), some (vi x4), some (vi x5)] [] h from xIc k_X12_costOfWord_6 (And.intro (lm_71 hL) (Exists.intro 1120 (And.intro (lf_71_10 hL) (have c1 := hv.1; have v30 := hv.2; (And.intro (sdI (lm_1120 hL) c1) (And.intro (fun c2 => have v4 := v30.1 c2; (show wp mX12_costOfWord 3 rc rs Q 66 [some (vr 71), some (vi x1), some (vi x2), some (vi x3), some (vi x4), some (vi x5)] [] h from xI k_X12_costOfWord_66 (And.intro rfl v4))) (fun c3 => have v5 := v30.2 (Int.not_le.mp c3); (show wp mX12_costOfWord 3 rc rs Q 17 [some (vr 71), some (vi x1), some (vi x2), some (vi x3), some (vi x4), some (vi x5)] [] h from xIc k_X12_costOfWord_17 (And.intro (fun c6 => have v8 := v5.1 c6; (show wp mX12_costOfWord 3 rc rs Q 42 [some (vr 71), some (vi x1), some (vi x2), some (vi x3), some (vi x4), some (vi x5)] [vi x4] h from xcV k_X12_costOfWord_42 s_X12_costOfWord_54 (And.intro (lm_71 hL) (Exists.intro 1121 (And.intro (lf_71_11 hL) (And.intro (sdQ (lm_1121 hL) c1) (Exists.intro (1122 + x1.toNat) (And.intro (lr_rows hL (tnl c1)) (have c11 := v8.1; have v19 := v8.2; (And.intro (sdI (lk_rows hL (tnl c1)) c11) (have c16 := v19.1; have v17 := v19.2; (Exists.intro [vi (iH h (1122 + x1.toNat) x5.toNat), vi x2, vi x3] (Exists.intro 71 (Exists.intro [vi x4] (And.intro (And.intro rfl (And.intro rfl (Nat.le_of_ble_eq_true rfl))) (And.intro (lm_71 hL) (Exists.intro 2 (Exists.intro 0 (Exists.intro 0 (Exists.intro _ (And.intro (c_postingsBegun hL c16) (And.intro (And.intro (by decide) (And.intro (Nat.zero_le _) (Nat.zero_le _))) (eQP (show wp mX12_costOfWord 3 rc rs Q 57 [some (vr 71), some (vi x1), some (vi x2), some (vi x3), some (vi x4), some (vi x5)] [vi (m_pb h (iH h (1122 + x1.toNat) x5.toNat) x2 x3), vi x4] h from xGo k_X12_costOfWord_57 (have c12 := v17.1; have v15 := v17.2; (And.intro c12 (And.intro rfl (have c13 := v15.1; have v14 := v15.2; (And.intro c13 (And.intro rfl v14)))))))))))))))))))))))))))))) (fun c7 => have v9 := v5.2 (Decidable.not_not.mp c7); (show wp mX12_costOfWord 3 rc rs Q 25 [some (vr 71), some (vi x1), some (vi x2), some (vi x3), some (vi x4), some (vi x5)] [vi x4] h from xcV k_X12_costOfWord_25 s_X12_costOfWord_36 (And.intro (lm_71 hL) (Exists.intro 1121 (And.intro (lf_71_11 hL) (And.intro (sdQ (lm_1121 hL) c1) (Exists.intro (1122 + x1.toNat) (And.intro (lr_rows hL (tnl c1)) (have c21 := v9.1; have v29 := v9.2; (And.intro (sdI (lk_rows hL (tnl c1)) c21) (have c26 := v29.1; have v27 := v29.2; (Exists.intro [vi (iH h (1122 + x1.toNat) x5.toNat), vi x2] (Exists.intro 71 (Exists.intro [vi x4] (And.intro (And.intro rfl (And.intro rfl (Nat.le_of_ble_eq_true rfl))) (And.intro (lm_71 hL) (Exists.intro 1 (Exists.intro 0 (Exists.intro 0 (Exists.intro _ (And.intro (c_postings hL c26) (And.intro (And.intro (by decide) (And.intro (Nat.zero_le _) (Nat.zero_le _))) (eQP (show wp mX12_costOfWord 3 rc rs Q 39 [some (vr 71), some (vi x1), some (vi x2), some (vi x3), some (vi x4), some (vi x5)] [vi (m_post h (iH h (1122 + x1.toNat) x5.toNat) x2), vi x4] h from xGo k_X12_costOfWord_39 (show wp mX12_costOfWord 3 rc rs Q 57 [some (vr 71), some (vi x1), some (vi x2), some (vi x3), some (vi x4), some (vi x5)] [vi (m_post h (iH h (1122 + x1.toNat) x5.toNat) x2), vi x4] h from xGo k_X12_costOfWord_57 (have c22 := v27.1; have v25 := v27.2; (And.intro c22 (And.intro rfl (have c23 := v25.1; have v24 := v25.2; (And.intro c23 (And.intro rfl v24)))))))))))))))))))))))))))))))))))))))))
def b_X12_liveMany_0 : List IE := [(.aload_n 0, 1, 0, 0, 0, 0), (.getfield 140, 3, 0, 12, 15, 0), (.aload_n 0, 1, 0, 0, 0, 0), (.iconst 0, 1, 0, 0, 0, 0), (.aload_n 0, 1, 0, 0, 0, 0), (.getfield 106, 3, 0, 12, 13, 0)]
theorem k_X12_liveMany_0 : ckB mX12_liveMany 12 0 b_X12_liveMany_0 10 = true := by decide +kernel
def b_X12_liveMany_13 : List IE := [(.iadd, 1, 0, 0, 0, 0)]
theorem k_X12_liveMany_13 : ckI mX12_liveMany 12 13 b_X12_liveMany_13 14 = true := by decide +kernel
theorem s_X12_liveMany_10 : cV mX12_liveMany 10 mX12_liveIn 226 2 12 := ⟨by decide +kernel, ⟨ml_X12_liveIn, li_RX12_226, im_X12_liveIn, se_X12_liveIn⟩, ⟨by decide +kernel, by decide +kernel⟩, by decide +kernel⟩
theorem t_X12_liveMany_0 {rc rs : Nat} {Q : Option AV → AH → Prop} {h : AH}  (hL : LayM h) (hv : (m_rng h (0 : Int) (iH h 71 13)) ∧ (-2147483648 ≤ (iH h 71 15 + (m_liveIn h (0 : Int) (iH h 71 13))) ∧ (iH h 71 15 + (m_liveIn h (0 : Int) (iH h 71 13))) < 2147483648) ∧ Q (some (vi (iH h 71 15 + (m_liveIn h (0 : Int) (iH h 71 13))))) h) : wp mX12_liveMany 2 rc rs Q 0 [some (vr 71)] [] h :=
  (show wp mX12_liveMany 2 rc rs Q 0 [some (vr 71)] [] h from xcV k_X12_liveMany_0 s_X12_liveMany_10 (And.intro (lm_71 hL) (And.intro (lm_71 hL) (have c3 := hv.1; have v4 := hv.2; (Exists.intro [vi 0, vi (iH h 71 13)] (Exists.intro 71 (Exists.intro [vi (iH h 71 15)] (And.intro (And.intro rfl (And.intro rfl (Nat.le_of_ble_eq_true rfl))) (And.intro (lm_71 hL) (Exists.intro 1 (Exists.intro 0 (Exists.intro 0 (Exists.intro _ (And.intro (c_liveIn hL c3) (And.intro (And.intro (by decide) (And.intro (Nat.zero_le _) (Nat.zero_le _))) (eQP (show wp mX12_liveMany 2 rc rs Q 13 [some (vr 71)] [vi (m_liveIn h (0 : Int) (iH h 71 13)), vi (iH h 71 15)] h from xI k_X12_liveMany_13 (have c1 := v4.1; have v2 := v4.2; (And.intro c1 (And.intro rfl v2))))))))))))))))))))
theorem e_X12_liveMany {mc ms : Nat} {Q : Option AV → AH → Prop} {h : AH}  (hL : LayM h) (hv : (m_rng h (0 : Int) (iH h 71 13)) ∧ (-2147483648 ≤ (iH h 71 15 + (m_liveIn h (0 : Int) (iH h 71 13))) ∧ (iH h 71 15 + (m_liveIn h (0 : Int) (iH h 71 13))) < 2147483648) ∧ Q (some (vi (iH h 71 15 + (m_liveIn h (0 : Int) (iH h 71 13))))) h) : Ct 2 mc ms mX12_liveMany [vr 71] h Q := Ct.of (by decide +kernel) (Nat.le_of_ble_eq_true rfl) (t_X12_liveMany_0 hL hv)
def b_X12_told_0 : List IE := [(.aload_n 0, 1, 0, 0, 0, 0), (.iload_n 1, 1, 0, 0, 1, 0)]
theorem k_X12_told_0 : ckB mX12_told 12 0 b_X12_told_0 2 = true := by decide +kernel
def b_X12_told_5 : List IE := []
theorem k_X12_told_5 : ckIf mX12_told 12 5 b_X12_told_5 5 0 13 18 8 = true := by decide +kernel
def b_X12_told_8 : List IE := [(.iload_n 2, 1, 0, 0, 2, 0), (.iconst 0, 1, 0, 0, 0, 0), (.bipush 8, 2, 8, 0, 0, 0)]
theorem k_X12_told_8 : ckB mX12_told 12 8 b_X12_told_8 12 = true := by decide +kernel
def b_X12_told_15 : List IE := []
theorem k_X12_told_15 : ckIf mX12_told 12 15 b_X12_told_15 15 1 6 21 18 = true := by decide +kernel
def b_X12_told_18 : List IE := [(.bipush (-2), 2, (-2), 0, 0, 0)]
theorem k_X12_told_18 : ckI mX12_told 12 18 b_X12_told_18 20 = true := by decide +kernel
def b_X12_told_21 : List IE := [(.aload_n 0, 1, 0, 0, 0, 0), (.getfield 48, 3, 0, 12, 14, 1), (.iload_n 1, 1, 0, 0, 1, 0), (.iaload, 1, 0, 0, 0, 0), (.istore_n 3, 1, 0, 0, 3, 0), (.iload_n 2, 1, 0, 0, 2, 0)]
theorem k_X12_told_21 : ckTs mX12_told 12 21 b_X12_told_21 29 99 0 7 #[47, 54, 60, 67, 74, 80, 86, 93] 47 128 [(0, 76), (1, 83), (2, 89), (3, 96), (4, 103), (5, 109), (6, 115), (7, 122)] = true := by decide +kernel
def b_X12_told_76 : List IE := [(.aload_n 0, 1, 0, 0, 0, 0), (.getfield 28, 3, 0, 12, 7, 1), (.iload_n 3, 1, 0, 0, 3, 0), (.iaload, 1, 0, 0, 0, 0)]
theorem k_X12_told_76 : ckI mX12_told 12 76 b_X12_told_76 82 = true := by decide +kernel
def b_X12_told_83 : List IE := [(.aload_n 0, 1, 0, 0, 0, 0), (.iload_n 3, 1, 0, 0, 3, 0)]
theorem k_X12_told_83 : ckB mX12_told 12 83 b_X12_told_83 85 = true := by decide +kernel
def b_X12_told_88 : List IE := []
theorem k_X12_told_88 : ckI mX12_told 12 88 b_X12_told_88 88 = true := by decide +kernel
def b_X12_told_89 : List IE := [(.aload_n 0, 1, 0, 0, 0, 0), (.iload_n 3, 1, 0, 0, 3, 0), (.iconst 0, 1, 0, 0, 0, 0)]
theorem k_X12_told_89 : ckB mX12_told 12 89 b_X12_told_89 92 = true := by decide +kernel
def b_X12_told_95 : List IE := []
theorem k_X12_told_95 : ckI mX12_told 12 95 b_X12_told_95 95 = true := by decide +kernel
def b_X12_told_96 : List IE := [(.aload_n 0, 1, 0, 0, 0, 0), (.iload_n 3, 1, 0, 0, 3, 0), (.iconst 1, 1, 1, 0, 0, 0)]
theorem k_X12_told_96 : ckB mX12_told 12 96 b_X12_told_96 99 = true := by decide +kernel
def b_X12_told_102 : List IE := []
theorem k_X12_told_102 : ckI mX12_told 12 102 b_X12_told_102 102 = true := by decide +kernel
def b_X12_told_103 : List IE := [(.aload_n 0, 1, 0, 0, 0, 0), (.iload_n 1, 1, 0, 0, 1, 0)]
theorem k_X12_told_103 : ckB mX12_told 12 103 b_X12_told_103 105 = true := by decide +kernel
def b_X12_told_108 : List IE := []
theorem k_X12_told_108 : ckI mX12_told 12 108 b_X12_told_108 108 = true := by decide +kernel
def b_X12_told_109 : List IE := [(.aload_n 0, 1, 0, 0, 0, 0), (.iload_n 1, 1, 0, 0, 1, 0)]
theorem k_X12_told_109 : ckB mX12_told 12 109 b_X12_told_109 111 = true := by decide +kernel
def b_X12_told_114 : List IE := []
theorem k_X12_told_114 : ckI mX12_told 12 114 b_X12_told_114 114 = true := by decide +kernel
def b_X12_told_115 : List IE := [(.aload_n 0, 1, 0, 0, 0, 0), (.getfield 25, 3, 0, 12, 6, 1), (.iload_n 3, 1, 0, 0, 3, 0), (.iaload, 1, 0, 0, 0, 0)]
theorem k_X12_told_115 : ckI mX12_told 12 115 b_X12_told_115 121 = true := by decide +kernel
def b_X12_told_122 : List IE := [(.aload_n 0, 1, 0, 0, 0, 0), (.iload_n 3, 1, 0, 0, 3, 0)]
theorem k_X12_told_122 : ckB mX12_told 12 122 b_X12_told_122 124 = true := by decide +kernel
def b_X12_told_127 : List IE := []
theorem k_X12_told_127 : ckI mX12_told 12 127 b_X12_told_127 127 = true := by decide +kernel
def b_X12_told_128 : List IE := [(.aload_n 0, 1, 0, 0, 0, 0), (.iconst 5, 1, 5, 0, 0, 0), (.iload_n 3, 1, 0, 0, 3, 0)]
theorem k_X12_told_128 : ckB mX12_told 12 128 b_X12_told_128 131 = true := by decide +kernel
def b_X12_told_134 : List IE := []
theorem k_X12_told_134 : ckIf mX12_told 12 134 b_X12_told_134 134 0 7 141 137 = true := by decide +kernel
def b_X12_told_137 : List IE := [(.iconst 1, 1, 1, 0, 0, 0)]
theorem k_X12_told_137 : ckGo mX12_told 12 137 b_X12_told_137 138 4 142 = true := by decide +kernel
def b_X12_told_141 : List IE := [(.iconst 0, 1, 0, 0, 0, 0)]
theorem k_X12_told_141 : ckI mX12_told 12 141 b_X12_told_141 142 = true := by decide +kernel
def b_X12_told_142 : List IE := []
theorem k_X12_told_142 : ckI mX12_told 12 142 b_X12_told_142 142 = true := by decide +kernel
theorem s_X12_told_2 : cV mX12_told 2 mX12_isSegment 191 1 12 := ⟨by decide +kernel, ⟨ml_X12_isSegment, li_RX12_191, im_X12_isSegment, se_X12_isSegment⟩, ⟨by decide +kernel, by decide +kernel⟩, by decide +kernel⟩
theorem s_X12_told_12 : cS mX12_told 12 mX12_in 109 3 := ⟨by decide +kernel, ⟨ml_X12_in, li_RX12_109, st_X12_in⟩, by decide +kernel⟩
theorem s_X12_told_85 : cV mX12_told 85 mX12_liveOf 200 1 12 := ⟨by decide +kernel, ⟨ml_X12_liveOf, li_RX12_200, im_X12_liveOf, se_X12_liveOf⟩, ⟨by decide +kernel, by decide +kernel⟩, by decide +kernel⟩
theorem s_X12_told_92 : cV mX12_told 92 mX12_dictionary 256 2 12 := ⟨by decide +kernel, ⟨ml_X12_dictionary, li_RX12_256, im_X12_dictionary, se_X12_dictionary⟩, ⟨by decide +kernel, by decide +kernel⟩, by decide +kernel⟩
theorem s_X12_told_99 : cV mX12_told 99 mX12_dictionary 256 2 12 := ⟨by decide +kernel, ⟨ml_X12_dictionary, li_RX12_256, im_X12_dictionary, se_X12_dictionary⟩, ⟨by decide +kernel, by decide +kernel⟩, by decide +kernel⟩
theorem s_X12_told_105 : cV mX12_told 105 mX12_size 211 1 12 := ⟨by decide +kernel, ⟨ml_X12_size, li_RX12_211, im_X12_size, se_X12_size⟩, ⟨by decide +kernel, by decide +kernel⟩, by decide +kernel⟩
theorem s_X12_told_111 : cV mX12_told 111 mX12_tier 214 1 12 := ⟨by decide +kernel, ⟨ml_X12_tier, li_RX12_214, im_X12_tier, se_X12_tier⟩, ⟨by decide +kernel, by decide +kernel⟩, by decide +kernel⟩
theorem s_X12_told_124 : cV mX12_told 124 mX12_openViews 260 1 12 := ⟨by decide +kernel, ⟨ml_X12_openViews, li_RX12_260, im_X12_openViews, se_X12_openViews⟩, ⟨by decide +kernel, by decide +kernel⟩, by decide +kernel⟩
theorem s_X12_told_131 : cV mX12_told 131 mX12_stands 250 2 12 := ⟨by decide +kernel, ⟨ml_X12_stands, li_RX12_250, im_X12_stands, se_X12_stands⟩, ⟨by decide +kernel, by decide +kernel⟩, by decide +kernel⟩
theorem t_X12_told_0 {rc rs : Nat} {Q : Option AV → AH → Prop} {h : AH} {x1 x2 : Int} (hL : LayM h) (hv : (0 ≤ iH h 71 13 ∧ iH h 71 13 ≤ 8) ∧ ((¬ (0 ≤ x1 ∧ x1 ≤ (iH h 71 13 - 1)) → Q (some (vi (-2))) h) ∧ ((0 ≤ x1 ∧ x1 ≤ (iH h 71 13 - 1)) → ((((0 : Int) ≤ x2 ∧ x2 ≤ (8 : Int)) → (0 ≤ x1 ∧ x1 < 8) ∧ ((x2 = 0 → (0 ≤ iH h 1137 x1.toNat ∧ iH h 1137 x1.toNat < 520) ∧ Q (some (vi (iH h 597 ((iH h 1137 x1.toNat).toNat)))) h) ∧ (x2 ≠ 0 → ((x2 = 1 → (m_seg h (iH h 1137 x1.toNat)) ∧ Q (some (vi (m_live h (iH h 1137 x1.toNat)))) h) ∧ (x2 ≠ 1 → ((x2 = 2 → (m_dict h (iH h 1137 x1.toNat)) ∧ Q (some (vi (m_dic h (iH h 1137 x1.toNat) (0 : Int)))) h) ∧ (x2 ≠ 2 → ((x2 = 3 → (m_dict h (iH h 1137 x1.toNat)) ∧ Q (some (vi (m_dic h (iH h 1137 x1.toNat) (1 : Int)))) h) ∧ (x2 ≠ 3 → ((x2 = 4 → (m_sz h x1) ∧ Q (some (vi (m_size h x1))) h) ∧ (x2 ≠ 4 → ((x2 = 5 → (m_sz h x1) ∧ Q (some (vi (m_tier h x1))) h) ∧ (x2 ≠ 5 → ((x2 = 6 → (0 ≤ iH h 1137 x1.toNat ∧ iH h 1137 x1.toNat < 520) ∧ Q (some (vi (iH h 596 ((iH h 1137 x1.toNat).toNat)))) h) ∧ (x2 ≠ 6 → ((x2 = 7 → (∀ v : Nat, v < 7 → m_std h v) ∧ Q (some (vi (m_opv h (iH h 1137 x1.toNat)))) h) ∧ (x2 ≠ 7 → (m_std h (5 : Int)) ∧ ((¬ (m_stands h (5 : Int) (iH h 1137 x1.toNat)) → Q (some (vi 0)) h) ∧ ((m_stands h (5 : Int) (iH h 1137 x1.toNat)) → Q (some (vi 1)) h))))))))))))))))))) ∧ (¬ ((0 : Int) ≤ x2 ∧ x2 ≤ (8 : Int)) → Q (some (vi (-2))) h))))) : wp mX12_told 3 rc rs Q 0 [some (vr 71), some (vi x1), some (vi x2), none] [] h :=
  (show wp mX12_told 3 rc rs Q 0 [some (vr 71), some (vi x1), some (vi x2), none] [] h from xcV k_X12_told_0 s_X12_told_2 (have c75 := hv.1; have v76 := hv.2; (Exists.intro [vi x1] (Exists.intro 71 (Exists.intro [] (And.intro (And.intro rfl (And.intro rfl (Nat.le_of_ble_eq_true rfl))) (And.intro (lm_71 hL) (Exists.intro 1 (Exists.intro 0 (Exists.intro 0 (Exists.intro _ (And.intro (c_isSegment hL c75) (And.intro (And.intro (by decide) (And.intro (Nat.zero_le _) (Nat.zero_le _))) (eQP (show wp mX12_told 3 rc rs Q 5 [some (vr 71), some (vi x1), some (vi x2), none] [vi (b01 (0 ≤ x1 ∧ x1 ≤ (iH h 71 13 - 1)))] h from xIf k_X12_told_5 (And.intro (fun c1 => have v3 := v76.1 (b01_n.mp c1); (show wp mX12_told 3 rc rs Q 18 [some (vr 71), some (vi x1), some (vi x2), none] [] h from xI k_X12_told_18 (And.intro rfl v3))) (fun c2 => have v4 := v76.2 (b01_p.mp c2); (show wp mX12_told 3 rc rs Q 8 [some (vr 71), some (vi x1), some (vi x2), none] [] h from xcS k_X12_told_8 s_X12_told_12 ((Exists.intro [vi x2, vi 0, vi 8] (Exists.intro [] (And.intro (And.intro rfl (And.intro rfl (Nat.le_of_ble_eq_true rfl))) (Exists.intro 0 (Exists.intro 0 (Exists.intro 0 (Exists.intro _ (And.intro c_in (And.intro (And.intro (by decide) (And.intro (Nat.zero_le _) (Nat.zero_le _))) (eQP (show wp mX12_told 3 rc rs Q 15 [some (vr 71), some (vi x1), some (vi x2), none] [vi (b01 ((0 : Int) ≤ x2 ∧ x2 ≤ (8 : Int)))] h from xIf k_X12_told_15 (And.intro (fun c5 => have v7 := v4.1 (b01_p.mp c5); (show wp mX12_told 3 rc rs Q 21 [some (vr 71), some (vi x1), some (vi x2), none] [] h from xTs k_X12_told_21 (And.intro (lm_71 hL) (Exists.intro 1137 (And.intro (lf_71_14 hL) (have c9 := v7.1; have v71 := v7.2; (And.intro (sdI (lm_1137 hL) c9) (And.intro rfl (And.intro (fun c67 => have v69 := v71.1 c67; (show wp mX12_told 3 rc rs Q 76 [some (vr 71), some (vi x1), some (vi x2), some (vi (iH h 1137 x1.toNat))] [] h from xI k_X12_told_76 (And.intro (lm_71 hL) (Exists.intro 597 (And.intro (lf_71_7 hL) (have c65 := v69.1; have v66 := v69.2; (And.intro (sdI (lm_597 hL) c65) (And.intro rfl v66)))))))) (fun c68 => have v70 := v71.2 c68; (And.intro (fun c61 => have v63 := v70.1 c61; (show wp mX12_told 3 rc rs Q 83 [some (vr 71), some (vi x1), some (vi x2), some (vi (iH h 1137 x1.toNat))] [] h from xcV k_X12_told_83 s_X12_told_85 (have c58 := v63.1; have v59 := v63.2; (Exists.intro [vi (iH h 1137 x1.toNat)] (Exists.intro 71 (Exists.intro [] (And.intro (And.intro rfl (And.intro rfl (Nat.le_of_ble_eq_true rfl))) (And.intro (lm_71 hL) (Exists.intro 0 (Exists.intro 0 (Exists.intro 0 (Exists.intro _ (And.intro (c_liveOf hL c58) (And.intro (And.intro (by decide) (And.intro (Nat.zero_le _) (Nat.zero_le _))) (eQP (show wp mX12_told 3 rc rs Q 88 [some (vr 71), some (vi x1), some (vi x2), some (vi (iH h 1137 x1.toNat))] [vi (m_live h (iH h 1137 x1.toNat))] h from xI k_X12_told_88 (And.intro rfl v59))))))))))))))))) (fun c62 => have v64 := v70.2 c62; (And.intro (fun c54 => have v56 := v64.1 c54; (show wp mX12_told 3 rc rs Q 89 [some (vr 71), some (vi x1), some (vi x2), some (vi (iH h 1137 x1.toNat))] [] h from xcV k_X12_told_89 s_X12_told_92 (have c51 := v56.1; have v52 := v56.2; (Exists.intro [vi (iH h 1137 x1.toNat), vi 0] (Exists.intro 71 (Exists.intro [] (And.intro (And.intro rfl (And.intro rfl (Nat.le_of_ble_eq_true rfl))) (And.intro (lm_71 hL) (Exists.intro 2 (Exists.intro 0 (Exists.intro 0 (Exists.intro _ (And.intro (c_dictionary hL c51) (And.intro (And.intro (by decide) (And.intro (Nat.zero_le _) (Nat.zero_le _))) (eQP (show wp mX12_told 3 rc rs Q 95 [some (vr 71), some (vi x1), some (vi x2), some (vi (iH h 1137 x1.toNat))] [vi (m_dic h (iH h 1137 x1.toNat) (0 : Int))] h from xI k_X12_told_95 (And.intro rfl v52))))))))))))))))) (fun c55 => have v57 := v64.2 c55; (And.intro (fun c47 => have v49 := v57.1 c47; (show wp mX12_told 3 rc rs Q 96 [some (vr 71), some (vi x1), some (vi x2), some (vi (iH h 1137 x1.toNat))] [] h from xcV k_X12_told_96 s_X12_told_99 (have c44 := v49.1; have v45 := v49.2; (Exists.intro [vi (iH h 1137 x1.toNat), vi 1] (Exists.intro 71 (Exists.intro [] (And.intro (And.intro rfl (And.intro rfl (Nat.le_of_ble_eq_true rfl))) (And.intro (lm_71 hL) (Exists.intro 2 (Exists.intro 0 (Exists.intro 0 (Exists.intro _ (And.intro (c_dictionary hL c44) (And.intro (And.intro (by decide) (And.intro (Nat.zero_le _) (Nat.zero_le _))) (eQP (show wp mX12_told 3 rc rs Q 102 [some (vr 71), some (vi x1), some (vi x2), some (vi (iH h 1137 x1.toNat))] [vi (m_dic h (iH h 1137 x1.toNat) (1 : Int))] h from xI k_X12_told_102 (And.intro rfl v45))))))))))))))))) (fun c48 => have v50 := v57.2 c48; (And.intro (fun c40 => have v42 := v50.1 c40; (show wp mX12_told 3 rc rs Q 103 [some (vr 71), some (vi x1), some (vi x2), some (vi (iH h 1137 x1.toNat))] [] h from xcV k_X12_told_103 s_X12_told_105 (have c37 := v42.1; have v38 := v42.2; (Exists.intro [vi x1] (Exists.intro 71 (Exists.intro [] (And.intro (And.intro rfl (And.intro rfl (Nat.le_of_ble_eq_true rfl))) (And.intro (lm_71 hL) (Exists.intro 1 (Exists.intro 0 (Exists.intro 0 (Exists.intro _ (And.intro (c_size hL c37) (And.intro (And.intro (by decide) (And.intro (Nat.zero_le _) (Nat.zero_le _))) (eQP (show wp mX12_told 3 rc rs Q 108 [some (vr 71), some (vi x1), some (vi x2), some (vi (iH h 1137 x1.toNat))] [vi (m_size h x1)] h from xI k_X12_told_108 (And.intro rfl v38))))))))))))))))) (fun c41 => have v43 := v50.2 c41; (And.intro (fun c33 => have v35 := v43.1 c33; (show wp mX12_told 3 rc rs Q 109 [some (vr 71), some (vi x1), some (vi x2), some (vi (iH h 1137 x1.toNat))] [] h from xcV k_X12_told_109 s_X12_told_111 (have c30 := v35.1; have v31 := v35.2; (Exists.intro [vi x1] (Exists.intro 71 (Exists.intro [] (And.intro (And.intro rfl (And.intro rfl (Nat.le_of_ble_eq_true rfl))) (And.intro (lm_71 hL) (Exists.intro 2 (Exists.intro 0 (Exists.intro 0 (Exists.intro _ (And.intro (c_tier hL c30) (And.intro (And.intro (by decide) (And.intro (Nat.zero_le _) (Nat.zero_le _))) (eQP (show wp mX12_told 3 rc rs Q 114 [some (vr 71), some (vi x1), some (vi x2), some (vi (iH h 1137 x1.toNat))] [vi (m_tier h x1)] h from xI k_X12_told_114 (And.intro rfl v31))))))))))))))))) (fun c34 => have v36 := v43.2 c34; (And.intro (fun c26 => have v28 := v36.1 c26; (show wp mX12_told 3 rc rs Q 115 [some (vr 71), some (vi x1), some (vi x2), some (vi (iH h 1137 x1.toNat))] [] h from xI k_X12_told_115 (And.intro (lm_71 hL) (Exists.intro 596 (And.intro (lf_71_6 hL) (have c24 := v28.1; have v25 := v28.2; (And.intro (sdI (lm_596 hL) c24) (And.intro rfl v25)))))))) (fun c27 => have v29 := v36.2 c27; (And.intro (fun c20 => have v22 := v29.1 c20; (show wp mX12_told 3 rc rs Q 122 [some (vr 71), some (vi x1), some (vi x2), some (vi (iH h 1137 x1.toNat))] [] h from xcV k_X12_told_122 s_X12_told_124 (have c17 := v22.1; have v18 := v22.2; (Exists.intro [vi (iH h 1137 x1.toNat)] (Exists.intro 71 (Exists.intro [] (And.intro (And.intro rfl (And.intro rfl (Nat.le_of_ble_eq_true rfl))) (And.intro (lm_71 hL) (Exists.intro 1 (Exists.intro 0 (Exists.intro 0 (Exists.intro _ (And.intro (c_openViews hL c17) (And.intro (And.intro (by decide) (And.intro (Nat.zero_le _) (Nat.zero_le _))) (eQP (show wp mX12_told 3 rc rs Q 127 [some (vr 71), some (vi x1), some (vi x2), some (vi (iH h 1137 x1.toNat))] [vi (m_opv h (iH h 1137 x1.toNat))] h from xI k_X12_told_127 (And.intro rfl v18))))))))))))))))) (fun c21 => have v23 := v29.2 c21; (show wp mX12_told 3 rc rs Q 128 [some (vr 71), some (vi x1), some (vi x2), some (vi (iH h 1137 x1.toNat))] [] h from xcV k_X12_told_128 s_X12_told_131 (have c14 := v23.1; have v15 := v23.2; (Exists.intro [vi 5, vi (iH h 1137 x1.toNat)] (Exists.intro 71 (Exists.intro [] (And.intro (And.intro rfl (And.intro rfl (Nat.le_of_ble_eq_true rfl))) (And.intro (lm_71 hL) (Exists.intro 0 (Exists.intro 0 (Exists.intro 0 (Exists.intro _ (And.intro (c_stands hL c14) (And.intro (And.intro (by decide) (And.intro (Nat.zero_le _) (Nat.zero_le _))) (eQP (show wp mX12_told 3 rc rs Q 134 [some (vr 71), some (vi x1), some (vi x2), some (vi (iH h 1137 x1.toNat))] [vi (b01 (m_stands h (5 : Int) (iH h 1137 x1.toNat)))] h from xIf k_X12_told_134 (And.intro (fun c10 => have v12 := v15.1 (b01_n.mp c10); (show wp mX12_told 3 rc rs Q 141 [some (vr 71), some (vi x1), some (vi x2), some (vi (iH h 1137 x1.toNat))] [] h from xI k_X12_told_141 (And.intro rfl v12))) (fun c11 => have v13 := v15.2 (b01_p.mp c11); (show wp mX12_told 3 rc rs Q 137 [some (vr 71), some (vi x1), some (vi x2), some (vi (iH h 1137 x1.toNat))] [] h from xGo k_X12_told_137 (show wp mX12_told 3 rc rs Q 142 [some (vr 71), some (vi x1), some (vi x2), some (vi (iH h 1137 x1.toNat))] [vi 1] h from xI k_X12_told_142 (And.intro rfl v13)))))))))))))))))))))))))))))))))))))))))))) (fun c6 => have v8 := v4.2 (b01_nn.mp c6); (show wp mX12_told 3 rc rs Q 18 [some (vr 71), some (vi x1), some (vi x2), none] [] h from xI k_X12_told_18 (And.intro rfl v8))))))))))))))))))))))))))))))))))
theorem e_X12_told {mc ms : Nat} {Q : Option AV → AH → Prop} {h : AH} {x1 x2 : Int} (hL : LayM h) (hv : (0 ≤ iH h 71 13 ∧ iH h 71 13 ≤ 8) ∧ ((¬ (0 ≤ x1 ∧ x1 ≤ (iH h 71 13 - 1)) → Q (some (vi (-2))) h) ∧ ((0 ≤ x1 ∧ x1 ≤ (iH h 71 13 - 1)) → ((((0 : Int) ≤ x2 ∧ x2 ≤ (8 : Int)) → (0 ≤ x1 ∧ x1 < 8) ∧ ((x2 = 0 → (0 ≤ iH h 1137 x1.toNat ∧ iH h 1137 x1.toNat < 520) ∧ Q (some (vi (iH h 597 ((iH h 1137 x1.toNat).toNat)))) h) ∧ (x2 ≠ 0 → ((x2 = 1 → (m_seg h (iH h 1137 x1.toNat)) ∧ Q (some (vi (m_live h (iH h 1137 x1.toNat)))) h) ∧ (x2 ≠ 1 → ((x2 = 2 → (m_dict h (iH h 1137 x1.toNat)) ∧ Q (some (vi (m_dic h (iH h 1137 x1.toNat) (0 : Int)))) h) ∧ (x2 ≠ 2 → ((x2 = 3 → (m_dict h (iH h 1137 x1.toNat)) ∧ Q (some (vi (m_dic h (iH h 1137 x1.toNat) (1 : Int)))) h) ∧ (x2 ≠ 3 → ((x2 = 4 → (m_sz h x1) ∧ Q (some (vi (m_size h x1))) h) ∧ (x2 ≠ 4 → ((x2 = 5 → (m_sz h x1) ∧ Q (some (vi (m_tier h x1))) h) ∧ (x2 ≠ 5 → ((x2 = 6 → (0 ≤ iH h 1137 x1.toNat ∧ iH h 1137 x1.toNat < 520) ∧ Q (some (vi (iH h 596 ((iH h 1137 x1.toNat).toNat)))) h) ∧ (x2 ≠ 6 → ((x2 = 7 → (∀ v : Nat, v < 7 → m_std h v) ∧ Q (some (vi (m_opv h (iH h 1137 x1.toNat)))) h) ∧ (x2 ≠ 7 → (m_std h (5 : Int)) ∧ ((¬ (m_stands h (5 : Int) (iH h 1137 x1.toNat)) → Q (some (vi 0)) h) ∧ ((m_stands h (5 : Int) (iH h 1137 x1.toNat)) → Q (some (vi 1)) h))))))))))))))))))) ∧ (¬ ((0 : Int) ≤ x2 ∧ x2 ≤ (8 : Int)) → Q (some (vi (-2))) h))))) : Ct 3 mc ms mX12_told [vr 71, vi x1, vi x2] h Q := Ct.of (by decide +kernel) (Nat.le_of_ble_eq_true rfl) (t_X12_told_0 hL hv)
def b_X12_doc_0 : List IE := [(.aload_n 0, 1, 0, 0, 0, 0), (.iload_n 1, 1, 0, 0, 1, 0)]
theorem k_X12_doc_0 : ckB mX12_doc 12 0 b_X12_doc_0 2 = true := by decide +kernel
def b_X12_doc_5 : List IE := []
theorem k_X12_doc_5 : ckIf mX12_doc 12 5 b_X12_doc_5 5 0 12 17 8 = true := by decide +kernel
def b_X12_doc_8 : List IE := [(.iload_n 3, 1, 0, 0, 3, 0), (.iconst 0, 1, 0, 0, 0, 0), (.iconst 2, 1, 2, 0, 0, 0)]
theorem k_X12_doc_8 : ckB mX12_doc 12 8 b_X12_doc_8 11 = true := by decide +kernel
def b_X12_doc_14 : List IE := []
theorem k_X12_doc_14 : ckIf mX12_doc 12 14 b_X12_doc_14 14 1 6 20 17 = true := by decide +kernel
def b_X12_doc_17 : List IE := [(.bipush (-2), 2, (-2), 0, 0, 0)]
theorem k_X12_doc_17 : ckI mX12_doc 12 17 b_X12_doc_17 19 = true := by decide +kernel
def b_X12_doc_20 : List IE := [(.aload_n 0, 1, 0, 0, 0, 0), (.getfield 48, 3, 0, 12, 14, 1), (.iload_n 1, 1, 0, 0, 1, 0), (.iaload, 1, 0, 0, 0, 0), (.istore 4, 2, 0, 0, 4, 0), (.iload_n 2, 1, 0, 0, 2, 0), (.iconst 0, 1, 0, 0, 0, 0), (.aload_n 0, 1, 0, 0, 0, 0), (.getfield 28, 3, 0, 12, 7, 1), (.iload 4, 2, 0, 0, 4, 0), (.iaload, 1, 0, 0, 0, 0), (.iconst 1, 1, 1, 0, 0, 0), (.isub, 1, 0, 0, 0, 0)]
theorem k_X12_doc_20 : ckB mX12_doc 12 20 b_X12_doc_20 39 = true := by decide +kernel
def b_X12_doc_42 : List IE := []
theorem k_X12_doc_42 : ckIf mX12_doc 12 42 b_X12_doc_42 42 1 6 48 45 = true := by decide +kernel
def b_X12_doc_45 : List IE := [(.bipush (-12), 2, (-12), 0, 0, 0)]
theorem k_X12_doc_45 : ckI mX12_doc 12 45 b_X12_doc_45 47 = true := by decide +kernel
def b_X12_doc_48 : List IE := [(.aload_n 0, 1, 0, 0, 0, 0), (.getfield 31, 3, 0, 12, 8, 1), (.iload 4, 2, 0, 0, 4, 0), (.aaload, 1, 0, 0, 0, 0), (.iload_n 2, 1, 0, 0, 2, 0), (.iaload, 1, 0, 0, 0, 0), (.istore 5, 2, 0, 0, 5, 0), (.iload_n 3, 1, 0, 0, 3, 0)]
theorem k_X12_doc_48 : ckIf mX12_doc 12 48 b_X12_doc_48 60 1 13 73 63 = true := by decide +kernel
def b_X12_doc_63 : List IE := [(.aload_n 0, 1, 0, 0, 0, 0), (.getfield 9, 3, 0, 12, 1, 1), (.iload 5, 2, 0, 0, 5, 0), (.iaload, 1, 0, 0, 0, 0)]
theorem k_X12_doc_63 : ckGo mX12_doc 12 63 b_X12_doc_63 70 33 103 = true := by decide +kernel
def b_X12_doc_73 : List IE := [(.iload_n 3, 1, 0, 0, 3, 0), (.iconst 1, 1, 1, 0, 0, 0)]
theorem k_X12_doc_73 : ckIc mX12_doc 12 73 b_X12_doc_73 75 1 21 96 78 = true := by decide +kernel
def b_X12_doc_78 : List IE := [(.aload_n 0, 1, 0, 0, 0, 0), (.getfield 21, 3, 0, 12, 4, 1), (.iload 5, 2, 0, 0, 5, 0), (.baload, 1, 0, 0, 0, 0)]
theorem k_X12_doc_78 : ckIf mX12_doc 12 78 b_X12_doc_78 85 0 7 92 88 = true := by decide +kernel
def b_X12_doc_88 : List IE := [(.iconst 1, 1, 1, 0, 0, 0)]
theorem k_X12_doc_88 : ckGo mX12_doc 12 88 b_X12_doc_88 89 14 103 = true := by decide +kernel
def b_X12_doc_92 : List IE := [(.iconst 0, 1, 0, 0, 0, 0)]
theorem k_X12_doc_92 : ckGo mX12_doc 12 92 b_X12_doc_92 93 10 103 = true := by decide +kernel
def b_X12_doc_96 : List IE := [(.aload_n 0, 1, 0, 0, 0, 0), (.getfield 13, 3, 0, 12, 2, 1), (.iload 5, 2, 0, 0, 5, 0), (.iaload, 1, 0, 0, 0, 0)]
theorem k_X12_doc_96 : ckI mX12_doc 12 96 b_X12_doc_96 103 = true := by decide +kernel
def b_X12_doc_103 : List IE := []
theorem k_X12_doc_103 : ckI mX12_doc 12 103 b_X12_doc_103 103 = true := by decide +kernel
theorem s_X12_doc_2 : cV mX12_doc 2 mX12_isSegment 191 1 12 := ⟨by decide +kernel, ⟨ml_X12_isSegment, li_RX12_191, im_X12_isSegment, se_X12_isSegment⟩, ⟨by decide +kernel, by decide +kernel⟩, by decide +kernel⟩
theorem s_X12_doc_11 : cS mX12_doc 11 mX12_in 109 3 := ⟨by decide +kernel, ⟨ml_X12_in, li_RX12_109, st_X12_in⟩, by decide +kernel⟩
theorem s_X12_doc_39 : cS mX12_doc 39 mX12_in 109 3 := ⟨by decide +kernel, ⟨ml_X12_in, li_RX12_109, st_X12_in⟩, by decide +kernel⟩
theorem t_X12_doc_0 {rc rs : Nat} {Q : Option AV → AH → Prop} {h : AH} {x1 x2 x3 : Int} (hL : LayM h) (hv : (0 ≤ iH h 71 13 ∧ iH h 71 13 ≤ 8) ∧ ((¬ (0 ≤ x1 ∧ x1 ≤ (iH h 71 13 - 1)) → Q (some (vi (-2))) h) ∧ ((0 ≤ x1 ∧ x1 ≤ (iH h 71 13 - 1)) → ((((0 : Int) ≤ x3 ∧ x3 ≤ (2 : Int)) → (0 ≤ x1 ∧ x1 < 8) ∧ (0 ≤ iH h 1137 x1.toNat ∧ iH h 1137 x1.toNat < 520) ∧ (-2147483648 ≤ (iH h 597 ((iH h 1137 x1.toNat).toNat) - 1) ∧ (iH h 597 ((iH h 1137 x1.toNat).toNat) - 1) < 2147483648) ∧ ((((0 : Int) ≤ x2 ∧ x2 ≤ (iH h 597 ((iH h 1137 x1.toNat).toNat) - 1)) → (0 ≤ x2 ∧ x2 < 64) ∧ ((x3 ≠ 0 → ((x3 ≠ 1 → (0 ≤ iH h (599 + (iH h 1137 x1.toNat).toNat) x2.toNat ∧ iH h (599 + (iH h 1137 x1.toNat).toNat) x2.toNat < 520) ∧ Q (some (vi (iH h 73 ((iH h (599 + (iH h 1137 x1.toNat).toNat) x2.toNat).toNat)))) h) ∧ (x3 = 1 → (0 ≤ iH h (599 + (iH h 1137 x1.toNat).toNat) x2.toNat ∧ iH h (599 + (iH h 1137 x1.toNat).toNat) x2.toNat < 520) ∧ (((iH h 595 ((iH h (599 + (iH h 1137 x1.toNat).toNat) x2.toNat).toNat)) = 0 → Q (some (vi 0)) h) ∧ ((iH h 595 ((iH h (599 + (iH h 1137 x1.toNat).toNat) x2.toNat).toNat)) ≠ 0 → Q (some (vi 1)) h))))) ∧ (x3 = 0 → (0 ≤ iH h (599 + (iH h 1137 x1.toNat).toNat) x2.toNat ∧ iH h (599 + (iH h 1137 x1.toNat).toNat) x2.toNat < 520) ∧ Q (some (vi (iH h 72 ((iH h (599 + (iH h 1137 x1.toNat).toNat) x2.toNat).toNat)))) h))) ∧ (¬ ((0 : Int) ≤ x2 ∧ x2 ≤ (iH h 597 ((iH h 1137 x1.toNat).toNat) - 1)) → Q (some (vi (-12))) h))) ∧ (¬ ((0 : Int) ≤ x3 ∧ x3 ≤ (2 : Int)) → Q (some (vi (-2))) h))))) : wp mX12_doc 2 rc rs Q 0 [some (vr 71), some (vi x1), some (vi x2), some (vi x3), none, none] [] h :=
  (show wp mX12_doc 2 rc rs Q 0 [some (vr 71), some (vi x1), some (vi x2), some (vi x3), none, none] [] h from xcV k_X12_doc_0 s_X12_doc_2 (have c46 := hv.1; have v47 := hv.2; (Exists.intro [vi x1] (Exists.intro 71 (Exists.intro [] (And.intro (And.intro rfl (And.intro rfl (Nat.le_of_ble_eq_true rfl))) (And.intro (lm_71 hL) (Exists.intro 1 (Exists.intro 0 (Exists.intro 0 (Exists.intro _ (And.intro (c_isSegment hL c46) (And.intro (And.intro (by decide) (And.intro (Nat.zero_le _) (Nat.zero_le _))) (eQP (show wp mX12_doc 2 rc rs Q 5 [some (vr 71), some (vi x1), some (vi x2), some (vi x3), none, none] [vi (b01 (0 ≤ x1 ∧ x1 ≤ (iH h 71 13 - 1)))] h from xIf k_X12_doc_5 (And.intro (fun c1 => have v3 := v47.1 (b01_n.mp c1); (show wp mX12_doc 2 rc rs Q 17 [some (vr 71), some (vi x1), some (vi x2), some (vi x3), none, none] [] h from xI k_X12_doc_17 (And.intro rfl v3))) (fun c2 => have v4 := v47.2 (b01_p.mp c2); (show wp mX12_doc 2 rc rs Q 8 [some (vr 71), some (vi x1), some (vi x2), some (vi x3), none, none] [] h from xcS k_X12_doc_8 s_X12_doc_11 ((Exists.intro [vi x3, vi 0, vi 2] (Exists.intro [] (And.intro (And.intro rfl (And.intro rfl (Nat.le_of_ble_eq_true rfl))) (Exists.intro 0 (Exists.intro 0 (Exists.intro 0 (Exists.intro _ (And.intro c_in (And.intro (And.intro (by decide) (And.intro (Nat.zero_le _) (Nat.zero_le _))) (eQP (show wp mX12_doc 2 rc rs Q 14 [some (vr 71), some (vi x1), some (vi x2), some (vi x3), none, none] [vi (b01 ((0 : Int) ≤ x3 ∧ x3 ≤ (2 : Int)))] h from xIf k_X12_doc_14 (And.intro (fun c5 => have v7 := v4.1 (b01_p.mp c5); (show wp mX12_doc 2 rc rs Q 20 [some (vr 71), some (vi x1), some (vi x2), some (vi x3), none, none] [] h from xcS k_X12_doc_20 s_X12_doc_39 (And.intro (lm_71 hL) (Exists.intro 1137 (And.intro (lf_71_14 hL) (have c9 := v7.1; have v42 := v7.2; (And.intro (sdI (lm_1137 hL) c9) (And.intro rfl (And.intro (lm_71 hL) (Exists.intro 597 (And.intro (lf_71_7 hL) (have c10 := v42.1; have v41 := v42.2; (And.intro (sdI (lm_597 hL) c10) (have c11 := v41.1; have v40 := v41.2; (And.intro c11 ((Exists.intro [vi x2, vi 0, vi (iH h 597 ((iH h 1137 x1.toNat).toNat) - 1)] (Exists.intro [] (And.intro (And.intro rfl (And.intro rfl (Nat.le_of_ble_eq_true rfl))) (Exists.intro 0 (Exists.intro 0 (Exists.intro 0 (Exists.intro _ (And.intro c_in (And.intro (And.intro (by decide) (And.intro (Nat.zero_le _) (Nat.zero_le _))) (eQP (show wp mX12_doc 2 rc rs Q 42 [some (vr 71), some (vi x1), some (vi x2), some (vi x3), some (vi (iH h 1137 x1.toNat)), none] [vi (b01 ((0 : Int) ≤ x2 ∧ x2 ≤ (iH h 597 ((iH h 1137 x1.toNat).toNat) - 1)))] h from xIf k_X12_doc_42 (And.intro (fun c12 => have v14 := v40.1 (b01_p.mp c12); (show wp mX12_doc 2 rc rs Q 48 [some (vr 71), some (vi x1), some (vi x2), some (vi x3), some (vi (iH h 1137 x1.toNat)), none] [] h from xIf k_X12_doc_48 (And.intro (lm_71 hL) (Exists.intro 598 (And.intro (lf_71_8 hL) (And.intro (sdQ (lm_598 hL) c10) (Exists.intro (599 + (iH h 1137 x1.toNat).toNat) (And.intro (lr_members hL (tnl c10)) (have c17 := v14.1; have v36 := v14.2; (And.intro (sdI (lk_members hL (tnl c10)) c17) (And.intro rfl (And.intro (fun c18 => have v20 := v36.1 c18; (show wp mX12_doc 2 rc rs Q 73 [some (vr 71), some (vi x1), some (vi x2), some (vi x3), some (vi (iH h 1137 x1.toNat)), some (vi (iH h (599 + (iH h 1137 x1.toNat).toNat) x2.toNat))] [] h from xIc k_X12_doc_73 (And.intro (fun c22 => have v24 := v20.1 c22; (show wp mX12_doc 2 rc rs Q 96 [some (vr 71), some (vi x1), some (vi x2), some (vi x3), some (vi (iH h 1137 x1.toNat)), some (vi (iH h (599 + (iH h 1137 x1.toNat).toNat) x2.toNat))] [] h from xI k_X12_doc_96 (And.intro (lm_71 hL) (Exists.intro 73 (And.intro (lf_71_2 hL) (have c26 := v24.1; have v27 := v24.2; (And.intro (sdI (lm_73 hL) c26) (And.intro rfl v27)))))))) (fun c23 => have v25 := v20.2 (Decidable.not_not.mp c23); (show wp mX12_doc 2 rc rs Q 78 [some (vr 71), some (vi x1), some (vi x2), some (vi x3), some (vi (iH h 1137 x1.toNat)), some (vi (iH h (599 + (iH h 1137 x1.toNat).toNat) x2.toNat))] [] h from xIf k_X12_doc_78 (And.intro (lm_71 hL) (Exists.intro 595 (And.intro (lf_71_4 hL) (have c28 := v25.1; have v33 := v25.2; (And.intro (sdZ (lm_595 hL) c28) (And.intro (fun c29 => have v31 := v33.1 c29; (show wp mX12_doc 2 rc rs Q 92 [some (vr 71), some (vi x1), some (vi x2), some (vi x3), some (vi (iH h 1137 x1.toNat)), some (vi (iH h (599 + (iH h 1137 x1.toNat).toNat) x2.toNat))] [] h from xGo k_X12_doc_92 (show wp mX12_doc 2 rc rs Q 103 [some (vr 71), some (vi x1), some (vi x2), some (vi x3), some (vi (iH h 1137 x1.toNat)), some (vi (iH h (599 + (iH h 1137 x1.toNat).toNat) x2.toNat))] [vi 0] h from xI k_X12_doc_103 (And.intro rfl v31)))) (fun c30 => have v32 := v33.2 c30; (show wp mX12_doc 2 rc rs Q 88 [some (vr 71), some (vi x1), some (vi x2), some (vi x3), some (vi (iH h 1137 x1.toNat)), some (vi (iH h (599 + (iH h 1137 x1.toNat).toNat) x2.toNat))] [] h from xGo k_X12_doc_88 (show wp mX12_doc 2 rc rs Q 103 [some (vr 71), some (vi x1), some (vi x2), some (vi x3), some (vi (iH h 1137 x1.toNat)), some (vi (iH h (599 + (iH h 1137 x1.toNat).toNat) x2.toNat))] [vi 1] h from xI k_X12_doc_103 (And.intro rfl v32))))))))))))))) (fun c19 => have v21 := v36.2 (Decidable.not_not.mp c19); (show wp mX12_doc 2 rc rs Q 63 [some (vr 71), some (vi x1), some (vi x2), some (vi x3), some (vi (iH h 1137 x1.toNat)), some (vi (iH h (599 + (iH h 1137 x1.toNat).toNat) x2.toNat))] [] h from xGo k_X12_doc_63 (And.intro (lm_71 hL) (Exists.intro 72 (And.intro (lf_71_1 hL) (have c34 := v21.1; have v35 := v21.2; (And.intro (sdI (lm_72 hL) c34) (show wp mX12_doc 2 rc rs Q 103 [some (vr 71), some (vi x1), some (vi x2), some (vi x3), some (vi (iH h 1137 x1.toNat)), some (vi (iH h (599 + (iH h 1137 x1.toNat).toNat) x2.toNat))] [vi (iH h 72 ((iH h (599 + (iH h 1137 x1.toNat).toNat) x2.toNat).toNat))] h from xI k_X12_doc_103 (And.intro rfl v35))))))))))))))))))))) (fun c13 => have v15 := v40.2 (b01_nn.mp c13); (show wp mX12_doc 2 rc rs Q 45 [some (vr 71), some (vi x1), some (vi x2), some (vi x3), some (vi (iH h 1137 x1.toNat)), none] [] h from xI k_X12_doc_45 (And.intro rfl v15))))))))))))))))))))))))))))))) (fun c6 => have v8 := v4.2 (b01_nn.mp c6); (show wp mX12_doc 2 rc rs Q 17 [some (vr 71), some (vi x1), some (vi x2), some (vi x3), none, none] [] h from xI k_X12_doc_17 (And.intro rfl v8))))))))))))))))))))))))))))))))))
theorem e_X12_doc {mc ms : Nat} {Q : Option AV → AH → Prop} {h : AH} {x1 x2 x3 : Int} (hL : LayM h) (hv : (0 ≤ iH h 71 13 ∧ iH h 71 13 ≤ 8) ∧ ((¬ (0 ≤ x1 ∧ x1 ≤ (iH h 71 13 - 1)) → Q (some (vi (-2))) h) ∧ ((0 ≤ x1 ∧ x1 ≤ (iH h 71 13 - 1)) → ((((0 : Int) ≤ x3 ∧ x3 ≤ (2 : Int)) → (0 ≤ x1 ∧ x1 < 8) ∧ (0 ≤ iH h 1137 x1.toNat ∧ iH h 1137 x1.toNat < 520) ∧ (-2147483648 ≤ (iH h 597 ((iH h 1137 x1.toNat).toNat) - 1) ∧ (iH h 597 ((iH h 1137 x1.toNat).toNat) - 1) < 2147483648) ∧ ((((0 : Int) ≤ x2 ∧ x2 ≤ (iH h 597 ((iH h 1137 x1.toNat).toNat) - 1)) → (0 ≤ x2 ∧ x2 < 64) ∧ ((x3 ≠ 0 → ((x3 ≠ 1 → (0 ≤ iH h (599 + (iH h 1137 x1.toNat).toNat) x2.toNat ∧ iH h (599 + (iH h 1137 x1.toNat).toNat) x2.toNat < 520) ∧ Q (some (vi (iH h 73 ((iH h (599 + (iH h 1137 x1.toNat).toNat) x2.toNat).toNat)))) h) ∧ (x3 = 1 → (0 ≤ iH h (599 + (iH h 1137 x1.toNat).toNat) x2.toNat ∧ iH h (599 + (iH h 1137 x1.toNat).toNat) x2.toNat < 520) ∧ (((iH h 595 ((iH h (599 + (iH h 1137 x1.toNat).toNat) x2.toNat).toNat)) = 0 → Q (some (vi 0)) h) ∧ ((iH h 595 ((iH h (599 + (iH h 1137 x1.toNat).toNat) x2.toNat).toNat)) ≠ 0 → Q (some (vi 1)) h))))) ∧ (x3 = 0 → (0 ≤ iH h (599 + (iH h 1137 x1.toNat).toNat) x2.toNat ∧ iH h (599 + (iH h 1137 x1.toNat).toNat) x2.toNat < 520) ∧ Q (some (vi (iH h 72 ((iH h (599 + (iH h 1137 x1.toNat).toNat) x2.toNat).toNat)))) h))) ∧ (¬ ((0 : Int) ≤ x2 ∧ x2 ≤ (iH h 597 ((iH h 1137 x1.toNat).toNat) - 1)) → Q (some (vi (-12))) h))) ∧ (¬ ((0 : Int) ≤ x3 ∧ x3 ≤ (2 : Int)) → Q (some (vi (-2))) h))))) : Ct 2 mc ms mX12_doc [vr 71, vi x1, vi x2, vi x3] h Q := Ct.of (by decide +kernel) (Nat.le_of_ble_eq_true rfl) (t_X12_doc_0 hL hv)
noncomputable def a_choice (h : AH) (w : Int) : Int := if ¬ (0 ≤ w ∧ w ≤ 2) then -2 else if w = 0 then m_ch h else if m_ch h = -1 then 0 else if w = 1 then m_width h else m_liveIn h (m_ch h) (m_width h)
theorem m_ch_rng {h : AH} (hp : m_pol h) (hc : m_ch h ≠ -1) : m_rng h (m_ch h) (m_width h) := by
  have h1 := hp.1
  have h2 := m_ch_bd (h := h)
  have h3 := h2.2 hc
  have hw := m_width_bd h
  exact ⟨by omega, by omega, by omega, fun s _ hs => hp.2.2 s (by omega)⟩
theorem c_choice {h : AH} (hL : LayM h) {w : Int} (hp : m_pol h) : Ct 5 0 0 mX12_choice [vr 71, vi w] h (QI fun x h' => x = a_choice h w ∧ h' = h) := by
  refine e_X12_choice hL ⟨fun c => ⟨hp, fun c2 => ⟨fun c3 => ⟨fun c4 => ⟨m_ch_rng hp c3, _, rfl, ?_, rfl⟩, fun c4 => ⟨_, rfl, ?_, rfl⟩⟩, fun c3 => ⟨_, rfl, ?_, rfl⟩⟩, fun c2 => ⟨_, rfl, ?_, rfl⟩⟩, fun c => ⟨_, rfl, (if_pos c).symm, rfl⟩⟩ <;>
  · unfold a_choice
    (repeat' split) <;> first | rfl | omega
noncomputable def a_taken (h : AH) (k : Int) : Int := if ¬ (0 ≤ k ∧ k ≤ 5) then -2 else if k = 0 ∨ k = iH h 71 21 ∨ (k = 1 ∧ iH h 71 21 = 3) ∨ (k = 2 ∧ iH h 71 21 = 4) then iH h 71 22 else -13
theorem c_taken {h : AH} (hL : LayM h) {k : Int} : Ct 1 0 0 mX12_taken [vr 71, vi k] h (QI fun x h' => x = a_taken h k ∧ h' = h) := by
  refine e_X12_taken hL ⟨fun c => ⟨fun c2 => ⟨_, rfl, ?_, rfl⟩, fun c2 => ⟨fun c3 => ⟨_, rfl, ?_, rfl⟩, fun c3 => ⟨fun c4 => ⟨fun c5 => ⟨_, rfl, ?_, rfl⟩, fun c5 => ⟨fun c6 => ⟨_, rfl, ?_, rfl⟩, fun c6 => ⟨_, rfl, ?_, rfl⟩⟩⟩, fun c4 => ⟨fun c5 => ⟨_, rfl, ?_, rfl⟩, fun c5 => ⟨fun c6 => ⟨_, rfl, ?_, rfl⟩, fun c6 => ⟨fun c7 => ⟨_, rfl, ?_, rfl⟩, fun c7 => ⟨_, rfl, ?_, rfl⟩⟩⟩⟩⟩⟩⟩, fun c => ⟨_, rfl, (if_pos c).symm, rfl⟩⟩ <;>
  · unfold a_taken
    (repeat' split) <;> first | rfl | omega
noncomputable def a_where (h : AH) (key : Int) : Int := if ¬ (0 ≤ key ∧ key ≤ 99) then -2 else if m_bp h key = -1 then m_sp h key else 1000 + m_bp h key
theorem m_bp_bd {h : AH} {key : Int} (hb : m_buf h) : -1 ≤ m_bp h key ∧ m_bp h key < 4 := by
  have h1 := fst_bd (m_bufP h key) (iH h 71 15).toNat
  have h2 := hb.1
  unfold m_bp; omega
theorem c_where {h : AH} (hL : LayM h) {key : Int} (hb : m_buf h) (hn : m_now h) : Ct 2 0 0 mX12_where [vr 71, vi key] h (QI fun x h' => x = a_where h key ∧ h' = h) := by
  have h1 := m_bp_bd (key := key) hb
  refine e_X12_where hL ⟨fun c => ⟨hb, fun c2 => ⟨hn, _, rfl, ?_, rfl⟩, fun c2 => ⟨by omega, _, rfl, ?_, rfl⟩⟩, fun c => ⟨_, rfl, (if_pos c).symm, rfl⟩⟩ <;>
  · unfold a_where
    (repeat' split) <;> first | rfl | omega
def m_stdd (h : AH) (t : Int) : Prop := m_std h t ∧ ∀ s : Nat, (s : Int) < iH h 1120 t.toNat → m_dict h (iH h (1122 + t.toNat) s)
noncomputable def m_cowF (h : AH) (t w l : Int) (s : Nat) : Int := if l = 6 then m_post h (iH h (1122 + t.toNat) s) w else m_pb h (iH h (1122 + t.toNat) s) w l
noncomputable def m_cow (h : AH) (t w l : Int) : Int := sumN (m_cowF h t w l) (iH h 1120 t.toNat).toNat
theorem m_cowF_bd {h : AH} {t w l : Int} (ht : m_stdd h t) {s : Nat} (hs : (s : Int) < iH h 1120 t.toNat) : 0 ≤ m_cowF h t w l s ∧ m_cowF h t w l s ≤ 49152 := by
  have hd := ht.2 s hs
  unfold m_cowF
  split
  · have := m_post_bd (w := w) hd.1; omega
  · exact m_pb_bd hd
theorem m_cow_bd' {h : AH} {t w l : Int} (ht : m_stdd h t) (s : Nat) (hs : (s : Int) ≤ iH h 1120 t.toNat) : 0 ≤ sumN (m_cowF h t w l) s ∧ sumN (m_cowF h t w l) s ≤ (s : Int) * 49152 :=
  sumN_bd _ 49152 (by omega) s fun j hj => m_cowF_bd ht (by omega)
theorem m_cow_bd {h : AH} {t w l : Int} (ht : m_stdd h t) : 0 ≤ m_cow h t w l ∧ m_cow h t w l ≤ 393216 := by
  have h2 := ht.1.2
  have h1 := m_cow_bd' (w := w) (l := l) ht (iH h 1120 t.toNat).toNat (by omega)
  unfold m_cow; omega
theorem c_costOfWord {h : AH} (hL : LayM h) {t w l : Int} (ht : m_stdd h t ∧ m_bl w l) : Ct 3 0 0 mX12_costOfWord [vr 71, vi t, vi w, vi l] h (QI fun x h' => x = m_cow h t w l ∧ h' = h) := by
  obtain ⟨ht, hbl⟩ := ht
  have hc := ht.1.2
  refine e_X12_costOfWord hL (up (P := fun s => wp mX12_costOfWord 3 _ _ _ 6 [some (vr 71), some (vi t), some (vi w), some (vi l), some (vi (sumN (m_cowF h t w l) s)), some (vi s)] [] h) (iH h 1120 t.toNat).toNat ?_ ?_)
  · exact t_X12_costOfWord_6 hL ⟨ht.1.1, fun _ => ⟨_, rfl, rfl, rfl⟩, fun c => absurd c (by omega)⟩
  · intro s hs ih
    have hb := m_cow_bd' (w := w) (l := l) ht s (by omega)
    have hb2 := m_cowF_bd (w := w) (l := l) ht (s := s) (by omega)
    have e1 : sumN (m_cowF h t w l) (s + 1) = sumN (m_cowF h t w l) s + m_cowF h t w l s := rfl
    refine t_X12_costOfWord_6 hL ⟨ht.1.1, fun c => absurd c (by omega), fun c => ⟨fun c2 => ?_, fun c2 => ?_⟩⟩
    · have e2 : m_cowF h t w l s = m_pb h (iH h (1122 + t.toNat) s) w l := if_neg c2
      rw [e2] at e1 hb2
      refine ⟨by omega, ⟨ht.2 s c, hbl⟩, by simp only [Int.toNat_natCast]; omega, by omega, ?_⟩
      simp only [Int.toNat_natCast]
      rw [← e1]; exact ih
    · have e2 : m_cowF h t w l s = m_post h (iH h (1122 + t.toNat) s) w := if_pos c2
      rw [e2] at e1 hb2
      refine ⟨by omega, (ht.2 s c).1, by simp only [Int.toNat_natCast]; omega, by omega, ?_⟩
      simp only [Int.toNat_natCast]
      rw [← e1]; exact ih
noncomputable def m_many (h : AH) : Int := iH h 71 15 + m_liveIn h 0 (iH h 71 13)
def m_cap (h : AH) : Prop := (0 ≤ iH h 71 15 ∧ iH h 71 15 ≤ 4) ∧ m_now h
theorem m_rng_all {h : AH} (hn : m_now h) : m_rng h 0 (iH h 71 13) := by
  have h1 := hn.1
  exact ⟨by omega, by omega, by omega, fun s _ hs => hn.2 s (by omega)⟩
theorem c_liveMany {h : AH} (hL : LayM h) (hc : m_cap h) : Ct 2 0 0 mX12_liveMany [vr 71] h (QI fun x h' => x = m_many h ∧ h' = h) := by
  have h1 := hc.1
  have h2 := m_liveIn_bd (m_rng_all hc.2)
  exact e_X12_liveMany hL ⟨m_rng_all hc.2, by omega, _, rfl, rfl, rfl⟩
noncomputable def a_told (h : AH) (s w : Int) : Int :=
  if ¬ (0 ≤ s ∧ s ≤ iH h 71 13 - 1) ∨ ¬ (0 ≤ w ∧ w ≤ 8) then -2
  else if w = 0 then iH h 597 (iH h 1137 s.toNat).toNat
  else if w = 1 then m_live h (iH h 1137 s.toNat)
  else if w = 2 then m_dic h (iH h 1137 s.toNat) 0
  else if w = 3 then m_dic h (iH h 1137 s.toNat) 1
  else if w = 4 then m_size h s
  else if w = 5 then m_tier h s
  else if w = 6 then iH h 596 (iH h 1137 s.toNat).toNat
  else if w = 7 then m_opv h (iH h 1137 s.toNat)
  else b01 (m_stands h 5 (iH h 1137 s.toNat))
theorem c_told {h : AH} (hL : LayM h) {s w : Int} (hn : m_nowd h) (hp : 0 ≤ iH h 71 22 ∧ iH h 71 22 ≤ 9) (hv : ∀ v : Nat, v < 7 → m_std h v) : Ct 3 0 0 mX12_told [vr 71, vi s, vi w] h (QI fun x h' => x = a_told h s w ∧ h' = h) := by
  have hl := hn.1.1
  refine e_X12_told hL ⟨hl, fun c => ⟨_, rfl, (if_pos (Or.inl c)).symm, rfl⟩, fun c => ⟨fun c2 => ?_, fun c2 => ⟨_, rfl, (if_pos (Or.inr c2)).symm, rfl⟩⟩⟩
  have hg := hn.1.2 s.toNat (by omega)
  have hd := hn.2 s.toNat (by omega)
  have hz : m_sz h s := ⟨by omega, hg, hp⟩
  have e0 : a_told h s w = (if w = 0 then iH h 597 (iH h 1137 s.toNat).toNat
    else if w = 1 then m_live h (iH h 1137 s.toNat)
    else if w = 2 then m_dic h (iH h 1137 s.toNat) 0
    else if w = 3 then m_dic h (iH h 1137 s.toNat) 1
    else if w = 4 then m_size h s
    else if w = 5 then m_tier h s
    else if w = 6 then iH h 596 (iH h 1137 s.toNat).toNat
    else if w = 7 then m_opv h (iH h 1137 s.toNat)
    else b01 (m_stands h 5 (iH h 1137 s.toNat))) := if_neg (by omega)
  rw [e0]
  refine ⟨by omega, fun d0 => ⟨hg.1, _, rfl, by rw [if_pos d0], rfl⟩, fun d0 => ⟨fun d1 => ⟨hg, _, rfl, by rw [if_neg d0, if_pos d1], rfl⟩, fun d1 => ⟨fun d2 => ⟨hd, _, rfl, by rw [if_neg d0, if_neg d1, if_pos d2], rfl⟩, fun d2 => ⟨fun d3 => ⟨hd, _, rfl, by rw [if_neg d0, if_neg d1, if_neg d2, if_pos d3], rfl⟩, fun d3 => ⟨fun d4 => ⟨hz, _, rfl, by rw [if_neg d0, if_neg d1, if_neg d2, if_neg d3, if_pos d4], rfl⟩, fun d4 => ⟨fun d5 => ⟨hz, _, rfl, by rw [if_neg d0, if_neg d1, if_neg d2, if_neg d3, if_neg d4, if_pos d5], rfl⟩, fun d5 => ⟨fun d6 => ⟨hg.1, _, rfl, by rw [if_neg d0, if_neg d1, if_neg d2, if_neg d3, if_neg d4, if_neg d5, if_pos d6], rfl⟩, fun d6 => ⟨fun d7 => ⟨hv, _, rfl, by rw [if_neg d0, if_neg d1, if_neg d2, if_neg d3, if_neg d4, if_neg d5, if_neg d6, if_pos d7], rfl⟩, fun d7 => ⟨hv 5 (by omega), fun d8 => ⟨_, rfl, ?_, rfl⟩, fun d8 => ⟨_, rfl, ?_, rfl⟩⟩⟩⟩⟩⟩⟩⟩⟩⟩
  · rw [if_neg d0, if_neg d1, if_neg d2, if_neg d3, if_neg d4, if_neg d5, if_neg d6, if_neg d7]; exact (b01_f d8).symm
  · rw [if_neg d0, if_neg d1, if_neg d2, if_neg d3, if_neg d4, if_neg d5, if_neg d6, if_neg d7]; exact (b01_t d8).symm
noncomputable def a_doc (h : AH) (s p w : Int) : Int :=
  if ¬ (0 ≤ s ∧ s ≤ iH h 71 13 - 1) ∨ ¬ (0 ≤ w ∧ w ≤ 2) then -2
  else if ¬ (0 ≤ p ∧ p ≤ iH h 597 (iH h 1137 s.toNat).toNat - 1) then -12
  else if w = 0 then iH h 72 (iH h (599 + (iH h 1137 s.toNat).toNat) p.toNat).toNat
  else if w = 1 then b01 (¬ iH h 595 (iH h (599 + (iH h 1137 s.toNat).toNat) p.toNat).toNat = 0)
  else iH h 73 (iH h (599 + (iH h 1137 s.toNat).toNat) p.toNat).toNat
theorem c_doc {h : AH} (hL : LayM h) {s p w : Int} (hn : m_now h) : Ct 2 0 0 mX12_doc [vr 71, vi s, vi p, vi w] h (QI fun x h' => x = a_doc h s p w ∧ h' = h) := by
  have hl := hn.1
  refine e_X12_doc hL ⟨hl, fun c => ⟨_, rfl, (if_pos (Or.inl c)).symm, rfl⟩, fun c => ⟨fun c2 => ?_, fun c2 => ⟨_, rfl, (if_pos (Or.inr c2)).symm, rfl⟩⟩⟩
  have hg := hn.2 s.toNat (by omega)
  have hg2 := hg.2.1
  have q0 : ¬ (¬ (0 ≤ s ∧ s ≤ iH h 71 13 - 1) ∨ ¬ (0 ≤ w ∧ w ≤ 2)) := by omega
  refine ⟨by omega, hg.1, by omega, fun c3 => ⟨by omega, ?_⟩, fun c3 => ⟨_, rfl, ?_, rfl⟩⟩
  · have hm := hg.2.2 p.toNat (by omega)
    have q1 : ¬ ¬ (0 ≤ p ∧ p ≤ iH h 597 (iH h 1137 s.toNat).toNat - 1) := by omega
    refine ⟨fun d0 => ⟨fun d1 => ⟨hm, _, rfl, ?_, rfl⟩, fun d1 => ⟨hm, fun d2 => ⟨_, rfl, ?_, rfl⟩, fun d2 => ⟨_, rfl, ?_, rfl⟩⟩⟩, fun d0 => ⟨hm, _, rfl, ?_, rfl⟩⟩
    · unfold a_doc; rw [if_neg q0, if_neg q1, if_neg d0, if_neg d1]
    · unfold a_doc; rw [if_neg q0, if_neg q1, if_neg d0, if_pos d1, b01_f (fun q => q d2)]
    · unfold a_doc; rw [if_neg q0, if_neg q1, if_neg d0, if_pos d1, b01_t d2]
    · unfold a_doc; rw [if_neg q0, if_neg q1, if_pos d0]
  · unfold a_doc; rw [if_neg q0, if_pos c3]
def b_X12_costOf_0 : List IE := [(.iconst (-1), 1, (-1), 0, 0, 0), (.istore 4, 2, 0, 0, 4, 0), (.aload_n 0, 1, 0, 0, 0, 0), (.iload_n 1, 1, 0, 0, 1, 0), (.iload_n 2, 1, 0, 0, 2, 0), (.iload_n 1, 1, 0, 0, 1, 0), (.isub, 1, 0, 0, 0, 0), (.iconst 1, 1, 1, 0, 0, 0), (.iadd, 1, 0, 0, 0, 0)]
theorem k_X12_costOf_0 : ckB mX12_costOf 12 0 b_X12_costOf_0 10 = true := by decide +kernel
def b_X12_costOf_13 : List IE := [(.istore 5, 2, 0, 0, 5, 0), (.iload_n 1, 1, 0, 0, 1, 0), (.istore 6, 2, 0, 0, 6, 0)]
theorem k_X12_costOf_13 : ckB mX12_costOf 12 13 b_X12_costOf_13 18 = true := by decide +kernel
def b_X12_costOf_18 : List IE := [(.iload 6, 2, 0, 0, 6, 0), (.iload_n 2, 1, 0, 0, 2, 0)]
theorem k_X12_costOf_18 : ckIc mX12_costOf 12 18 b_X12_costOf_18 21 3 74 95 24 = true := by decide +kernel
def b_X12_costOf_24 : List IE := [(.iload_n 3, 1, 0, 0, 3, 0)]
theorem k_X12_costOf_24 : ckIf mX12_costOf 12 24 b_X12_costOf_24 25 5 16 41 28 = true := by decide +kernel
def b_X12_costOf_28 : List IE := [(.iload 6, 2, 0, 0, 6, 0), (.iload_n 1, 1, 0, 0, 1, 0), (.isub, 1, 0, 0, 0, 0), (.iconst 1, 1, 1, 0, 0, 0), (.iadd, 1, 0, 0, 0, 0), (.iload_n 3, 1, 0, 0, 3, 0)]
theorem k_X12_costOf_28 : ckIc mX12_costOf 12 28 b_X12_costOf_28 35 0 6 41 38 = true := by decide +kernel
def b_X12_costOf_38 : List IE := []
theorem k_X12_costOf_38 : ckGo mX12_costOf 12 38 b_X12_costOf_38 38 51 89 = true := by decide +kernel
def b_X12_costOf_41 : List IE := [(.aload_n 0, 1, 0, 0, 0, 0), (.getfield 67, 3, 0, 12, 29, 1), (.iload_n 1, 1, 0, 0, 1, 0), (.aaload, 1, 0, 0, 0, 0), (.iload 6, 2, 0, 0, 6, 0), (.iaload, 1, 0, 0, 0, 0), (.aload_n 0, 1, 0, 0, 0, 0), (.getfield 67, 3, 0, 12, 29, 1), (.iload 6, 2, 0, 0, 6, 0), (.iconst 1, 1, 1, 0, 0, 0), (.iadd, 1, 0, 0, 0, 0), (.aaload, 1, 0, 0, 0, 0), (.iload_n 2, 1, 0, 0, 2, 0), (.iaload, 1, 0, 0, 0, 0), (.iadd, 1, 0, 0, 0, 0), (.iload 5, 2, 0, 0, 5, 0), (.iadd, 1, 0, 0, 0, 0), (.istore 7, 2, 0, 0, 7, 0), (.iload 4, 2, 0, 0, 4, 0), (.iconst (-1), 1, (-1), 0, 0, 0)]
theorem k_X12_costOf_41 : ckIc mX12_costOf 12 41 b_X12_costOf_41 70 0 10 80 73 = true := by decide +kernel
def b_X12_costOf_73 : List IE := [(.iload 7, 2, 0, 0, 7, 0), (.iload 4, 2, 0, 0, 4, 0)]
theorem k_X12_costOf_73 : ckIc mX12_costOf 12 73 b_X12_costOf_73 77 3 8 85 80 = true := by decide +kernel
def b_X12_costOf_80 : List IE := [(.iload 7, 2, 0, 0, 7, 0)]
theorem k_X12_costOf_80 : ckGo mX12_costOf 12 80 b_X12_costOf_80 82 5 87 = true := by decide +kernel
def b_X12_costOf_85 : List IE := [(.iload 4, 2, 0, 0, 4, 0), (.istore 4, 2, 0, 0, 4, 0), (.iinc 6 1, 3, 1, 0, 6, 0)]
theorem k_X12_costOf_85 : ckGo mX12_costOf 12 85 b_X12_costOf_85 92 (-74) 18 = true := by decide +kernel
def b_X12_costOf_87 : List IE := [(.istore 4, 2, 0, 0, 4, 0), (.iinc 6 1, 3, 1, 0, 6, 0)]
theorem k_X12_costOf_87 : ckGo mX12_costOf 12 87 b_X12_costOf_87 92 (-74) 18 = true := by decide +kernel
def b_X12_costOf_89 : List IE := [(.iinc 6 1, 3, 1, 0, 6, 0)]
theorem k_X12_costOf_89 : ckGo mX12_costOf 12 89 b_X12_costOf_89 92 (-74) 18 = true := by decide +kernel
def b_X12_costOf_95 : List IE := [(.iload 4, 2, 0, 0, 4, 0)]
theorem k_X12_costOf_95 : ckI mX12_costOf 12 95 b_X12_costOf_95 97 = true := by decide +kernel
theorem s_X12_costOf_10 : cV mX12_costOf 10 mX12_liveIn 226 2 12 := ⟨by decide +kernel, ⟨ml_X12_liveIn, li_RX12_226, im_X12_liveIn, se_X12_liveIn⟩, ⟨by decide +kernel, by decide +kernel⟩, by decide +kernel⟩
theorem t_X12_costOf_0 {rc rs : Nat} {Q : Option AV → AH → Prop} {h : AH} {x1 x2 x3 : Int} (hL : LayM h) (hv : (-2147483648 ≤ (x2 - x1) ∧ (x2 - x1) < 2147483648) ∧ (-2147483648 ≤ ((x2 - x1) + 1) ∧ ((x2 - x1) + 1) < 2147483648) ∧ (m_rng h x1 ((x2 - x1) + 1)) ∧ wp mX12_costOf 2 rc rs Q 18 [some (vr 71), some (vi x1), some (vi x2), some (vi x3), some (vi (-1)), some (vi (m_liveIn h x1 ((x2 - x1) + 1))), some (vi x1), none] [] h) : wp mX12_costOf 2 rc rs Q 0 [some (vr 71), some (vi x1), some (vi x2), some (vi x3), none, none, none, none] [] h :=
  (show wp mX12_costOf 2 rc rs Q 0 [some (vr 71), some (vi x1), some (vi x2), some (vi x3), none, none, none, none] [] h from xcV k_X12_costOf_0 s_X12_costOf_10 (And.intro rfl (have c1 := hv.1; have v7 := hv.2; (And.intro c1 (have c2 := v7.1; have v6 := v7.2; (And.intro c2 (have c3 := v6.1; have v4 := v6.2; (Exists.intro [vi x1, vi ((x2 - x1) + 1)] (Exists.intro 71 (Exists.intro [] (And.intro (And.intro rfl (And.intro rfl (Nat.le_of_ble_eq_true rfl))) (And.intro (lm_71 hL) (Exists.intro 1 (Exists.intro 0 (Exists.intro 0 (Exists.intro _ (And.intro (c_liveIn hL c3) (And.intro (And.intro (by decide) (And.intro (Nat.zero_le _) (Nat.zero_le _))) (eQP (show wp mX12_costOf 2 rc rs Q 13 [some (vr 71), some (vi x1), some (vi x2), some (vi x3), some (vi (-1)), none, none, none] [vi (m_liveIn h x1 ((x2 - x1) + 1))] h from xB k_X12_costOf_13 (And.intro rfl (And.intro rfl v4))))))))))))))))))))))
theorem e_X12_costOf {mc ms : Nat} {Q : Option AV → AH → Prop} {h : AH} {x1 x2 x3 : Int} (hL : LayM h) (hv : (-2147483648 ≤ (x2 - x1) ∧ (x2 - x1) < 2147483648) ∧ (-2147483648 ≤ ((x2 - x1) + 1) ∧ ((x2 - x1) + 1) < 2147483648) ∧ (m_rng h x1 ((x2 - x1) + 1)) ∧ wp mX12_costOf 2 mc ms Q 18 [some (vr 71), some (vi x1), some (vi x2), some (vi x3), some (vi (-1)), some (vi (m_liveIn h x1 ((x2 - x1) + 1))), some (vi x1), none] [] h) : Ct 2 mc ms mX12_costOf [vr 71, vi x1, vi x2, vi x3] h Q := Ct.of (by decide +kernel) (Nat.le_of_ble_eq_true rfl) (t_X12_costOf_0 hL hv)
theorem t_X12_costOf_18 {rc rs : Nat} {Q : Option AV → AH → Prop} {h : AH} {x1 x2 x3 x4 x5 x6 : Int} (hL : LayM h) (hv : ((x2 ≤ x6 → Q (some (vi x4)) h) ∧ (x6 < x2 → ((x3 ≤ 0 → (0 ≤ x1 ∧ x1 < 8) ∧ (0 ≤ x6 ∧ x6 < 8) ∧ (-2147483648 ≤ (x6 + 1) ∧ (x6 + 1) < 2147483648) ∧ (0 ≤ (x6 + 1) ∧ (x6 + 1) < 8) ∧ (0 ≤ x2 ∧ x2 < 8) ∧ (-2147483648 ≤ (iH h (1143 + x1.toNat) x6.toNat + iH h (1143 + (x6 + 1).toNat) x2.toNat) ∧ (iH h (1143 + x1.toNat) x6.toNat + iH h (1143 + (x6 + 1).toNat) x2.toNat) < 2147483648) ∧ (-2147483648 ≤ ((iH h (1143 + x1.toNat) x6.toNat + iH h (1143 + (x6 + 1).toNat) x2.toNat) + x5) ∧ ((iH h (1143 + x1.toNat) x6.toNat + iH h (1143 + (x6 + 1).toNat) x2.toNat) + x5) < 2147483648) ∧ ((x4 = (-1) → wp mX12_costOf 2 rc rs Q 18 [some (vr 71), some (vi x1), some (vi x2), some (vi x3), some (vi ((iH h (1143 + x1.toNat) x6.toNat + iH h (1143 + (x6 + 1).toNat) x2.toNat) + x5)), some (vi x5), some (vi (x6 + 1)), none] [] h) ∧ (x4 ≠ (-1) → ((x4 ≤ ((iH h (1143 + x1.toNat) x6.toNat + iH h (1143 + (x6 + 1).toNat) x2.toNat) + x5) → wp mX12_costOf 2 rc rs Q 18 [some (vr 71), some (vi x1), some (vi x2), some (vi x3), some (vi x4), some (vi x5), some (vi (x6 + 1)), none] [] h) ∧ (((iH h (1143 + x1.toNat) x6.toNat + iH h (1143 + (x6 + 1).toNat) x2.toNat) + x5) < x4 → wp mX12_costOf 2 rc rs Q 18 [some (vr 71), some (vi x1), some (vi x2), some (vi x3), some (vi ((iH h (1143 + x1.toNat) x6.toNat + iH h (1143 + (x6 + 1).toNat) x2.toNat) + x5)), some (vi x5), some (vi (x6 + 1)), none] [] h))))) ∧ (0 < x3 → (-2147483648 ≤ (x6 - x1) ∧ (x6 - x1) < 2147483648) ∧ (-2147483648 ≤ ((x6 - x1) + 1) ∧ ((x6 - x1) + 1) < 2147483648) ∧ ((((x6 - x1) + 1) = x3 → (0 ≤ x1 ∧ x1 < 8) ∧ (0 ≤ x6 ∧ x6 < 8) ∧ (-2147483648 ≤ (x6 + 1) ∧ (x6 + 1) < 2147483648) ∧ (0 ≤ (x6 + 1) ∧ (x6 + 1) < 8) ∧ (0 ≤ x2 ∧ x2 < 8) ∧ (-2147483648 ≤ (iH h (1143 + x1.toNat) x6.toNat + iH h (1143 + (x6 + 1).toNat) x2.toNat) ∧ (iH h (1143 + x1.toNat) x6.toNat + iH h (1143 + (x6 + 1).toNat) x2.toNat) < 2147483648) ∧ (-2147483648 ≤ ((iH h (1143 + x1.toNat) x6.toNat + iH h (1143 + (x6 + 1).toNat) x2.toNat) + x5) ∧ ((iH h (1143 + x1.toNat) x6.toNat + iH h (1143 + (x6 + 1).toNat) x2.toNat) + x5) < 2147483648) ∧ ((x4 = (-1) → wp mX12_costOf 2 rc rs Q 18 [some (vr 71), some (vi x1), some (vi x2), some (vi x3), some (vi ((iH h (1143 + x1.toNat) x6.toNat + iH h (1143 + (x6 + 1).toNat) x2.toNat) + x5)), some (vi x5), some (vi (x6 + 1)), none] [] h) ∧ (x4 ≠ (-1) → ((x4 ≤ ((iH h (1143 + x1.toNat) x6.toNat + iH h (1143 + (x6 + 1).toNat) x2.toNat) + x5) → wp mX12_costOf 2 rc rs Q 18 [some (vr 71), some (vi x1), some (vi x2), some (vi x3), some (vi x4), some (vi x5), some (vi (x6 + 1)), none] [] h) ∧ (((iH h (1143 + x1.toNat) x6.toNat + iH h (1143 + (x6 + 1).toNat) x2.toNat) + x5) < x4 → wp mX12_costOf 2 rc rs Q 18 [some (vr 71), some (vi x1), some (vi x2), some (vi x3), some (vi ((iH h (1143 + x1.toNat) x6.toNat + iH h (1143 + (x6 + 1).toNat) x2.toNat) + x5)), some (vi x5), some (vi (x6 + 1)), none] [] h))))) ∧ (((x6 - x1) + 1) ≠ x3 → (-2147483648 ≤ (x6 + 1) ∧ (x6 + 1) < 2147483648) ∧ wp mX12_costOf 2 rc rs Q 18 [some (vr 71), some (vi x1), some (vi x2), some (vi x3), some (vi x4), some (vi x5), some (vi (x6 + 1)), none] [] h))))))) : wp mX12_costOf 2 rc rs Q 18 [some (vr 71), some (vi x1), some (vi x2), some (vi x3), some (vi x4), some (vi x5), some (vi x6), none] [] h :=
  (show wp mX12_costOf 2 rc rs Q 18 [some (vr 71), some (vi x1), some (vi x2), some (vi x3), some (vi x4), some (vi x5), some (vi x6), none] [] h from xIc k_X12_costOf_18 (And.intro (fun c1 => have v3 := hv.1 c1; (show wp mX12_costOf 2 rc rs Q 95 [some (vr 71), some (vi x1), some (vi x2), some (vi x3), some (vi x4), some (vi x5), some (vi x6), none] [] h from xI k_X12_costOf_95 (And.intro rfl v3))) (fun c2 => have v4 := hv.2 (Int.not_le.mp c2); (show wp mX12_costOf 2 rc rs Q 24 [some (vr 71), some (vi x1), some (vi x2), some (vi x3), some (vi x4), some (vi x5), some (vi x6), none] [] h from xIf k_X12_costOf_24 (And.intro (fun c5 => have v7 := v4.1 c5; (show wp mX12_costOf 2 rc rs Q 41 [some (vr 71), some (vi x1), some (vi x2), some (vi x3), some (vi x4), some (vi x5), some (vi x6), none] [] h from xIc k_X12_costOf_41 (And.intro (lm_71 hL) (Exists.intro 1142 (And.intro (lf_71_29 hL) (have c9 := v7.1; have v33 := v7.2; (And.intro (sdQ (lm_1142 hL) c9) (Exists.intro (1143 + x1.toNat) (And.intro (lr_costs hL (tnl c9)) (have c10 := v33.1; have v32 := v33.2; (And.intro (sdI (lk_costs hL (tnl c9)) c10) (And.intro (lm_71 hL) (Exists.intro 1142 (And.intro (lf_71_29 hL) (have c11 := v32.1; have v31 := v32.2; (And.intro c11 (have c12 := v31.1; have v30 := v31.2; (And.intro (sdQ (lm_1142 hL) c12) (Exists.intro (1143 + (x6 + 1).toNat) (And.intro (lr_costs hL (tnl c12)) (have c13 := v30.1; have v29 := v30.2; (And.intro (sdI (lk_costs hL (tnl c12)) c13) (have c14 := v29.1; have v28 := v29.2; (And.intro c14 (have c15 := v28.1; have v27 := v28.2; (And.intro c15 (And.intro rfl (And.intro (fun c16 => have v18 := v27.1 c16; (show wp mX12_costOf 2 rc rs Q 80 [some (vr 71), some (vi x1), some (vi x2), some (vi x3), some (vi x4), some (vi x5), some (vi x6), some (vi ((iH h (1143 + x1.toNat) x6.toNat + iH h (1143 + (x6 + 1).toNat) x2.toNat) + x5))] [] h from xGo k_X12_costOf_80 (show wp mX12_costOf 2 rc rs Q 87 [some (vr 71), some (vi x1), some (vi x2), some (vi x3), some (vi x4), some (vi x5), some (vi x6), some (vi ((iH h (1143 + x1.toNat) x6.toNat + iH h (1143 + (x6 + 1).toNat) x2.toNat) + x5))] [vi ((iH h (1143 + x1.toNat) x6.toNat + iH h (1143 + (x6 + 1).toNat) x2.toNat) + x5)] h from xGo k_X12_costOf_87 (And.intro rfl (And.intro c11 (And.intro rfl (w_fg [true, true, true, true, true, true, true, false] v18))))))) (fun c17 => have v19 := v27.2 c17; (show wp mX12_costOf 2 rc rs Q 73 [some (vr 71), some (vi x1), some (vi x2), some (vi x3), some (vi x4), some (vi x5), some (vi x6), some (vi ((iH h (1143 + x1.toNat) x6.toNat + iH h (1143 + (x6 + 1).toNat) x2.toNat) + x5))] [] h from xIc k_X12_costOf_73 (And.intro (fun c21 => have v23 := v19.1 c21; (show wp mX12_costOf 2 rc rs Q 85 [some (vr 71), some (vi x1), some (vi x2), some (vi x3), some (vi x4), some (vi x5), some (vi x6), some (vi ((iH h (1143 + x1.toNat) x6.toNat + iH h (1143 + (x6 + 1).toNat) x2.toNat) + x5))] [] h from xGo k_X12_costOf_85 (And.intro rfl (And.intro c11 (And.intro rfl (w_fg [true, true, true, true, true, true, true, false] v23)))))) (fun c22 => have v24 := v19.2 (Int.not_le.mp c22); (show wp mX12_costOf 2 rc rs Q 80 [some (vr 71), some (vi x1), some (vi x2), some (vi x3), some (vi x4), some (vi x5), some (vi x6), some (vi ((iH h (1143 + x1.toNat) x6.toNat + iH h (1143 + (x6 + 1).toNat) x2.toNat) + x5))] [] h from xGo k_X12_costOf_80 (show wp mX12_costOf 2 rc rs Q 87 [some (vr 71), some (vi x1), some (vi x2), some (vi x3), some (vi x4), some (vi x5), some (vi x6), some (vi ((iH h (1143 + x1.toNat) x6.toNat + iH h (1143 + (x6 + 1).toNat) x2.toNat) + x5))] [vi ((iH h (1143 + x1.toNat) x6.toNat + iH h (1143 + (x6 + 1).toNat) x2.toNat) + x5)] h from xGo k_X12_costOf_87 (And.intro rfl (And.intro c11 (And.intro rfl (w_fg [true, true, true, true, true, true, true, false] v24)))))))))))))))))))))))))))))))))))))) (fun c6 => have v8 := v4.2 (Int.not_le.mp c6); (show wp mX12_costOf 2 rc rs Q 28 [some (vr 71), some (vi x1), some (vi x2), some (vi x3), some (vi x4), some (vi x5), some (vi x6), none] [] h from xIc k_X12_costOf_28 (have c34 := v8.1; have v68 := v8.2; (And.intro c34 (have c35 := v68.1; have v67 := v68.2; (And.intro c35 (And.intro (fun c36 => have v38 := v67.1 c36; (show wp mX12_costOf 2 rc rs Q 41 [some (vr 71), some (vi x1), some (vi x2), some (vi x3), some (vi x4), some (vi x5), some (vi x6), none] [] h from xIc k_X12_costOf_41 (And.intro (lm_71 hL) (Exists.intro 1142 (And.intro (lf_71_29 hL) (have c40 := v38.1; have v64 := v38.2; (And.intro (sdQ (lm_1142 hL) c40) (Exists.intro (1143 + x1.toNat) (And.intro (lr_costs hL (tnl c40)) (have c41 := v64.1; have v63 := v64.2; (And.intro (sdI (lk_costs hL (tnl c40)) c41) (And.intro (lm_71 hL) (Exists.intro 1142 (And.intro (lf_71_29 hL) (have c42 := v63.1; have v62 := v63.2; (And.intro c42 (have c43 := v62.1; have v61 := v62.2; (And.intro (sdQ (lm_1142 hL) c43) (Exists.intro (1143 + (x6 + 1).toNat) (And.intro (lr_costs hL (tnl c43)) (have c44 := v61.1; have v60 := v61.2; (And.intro (sdI (lk_costs hL (tnl c43)) c44) (have c45 := v60.1; have v59 := v60.2; (And.intro c45 (have c46 := v59.1; have v58 := v59.2; (And.intro c46 (And.intro rfl (And.intro (fun c47 => have v49 := v58.1 c47; (show wp mX12_costOf 2 rc rs Q 80 [some (vr 71), some (vi x1), some (vi x2), some (vi x3), some (vi x4), some (vi x5), some (vi x6), some (vi ((iH h (1143 + x1.toNat) x6.toNat + iH h (1143 + (x6 + 1).toNat) x2.toNat) + x5))] [] h from xGo k_X12_costOf_80 (show wp mX12_costOf 2 rc rs Q 87 [some (vr 71), some (vi x1), some (vi x2), some (vi x3), some (vi x4), some (vi x5), some (vi x6), some (vi ((iH h (1143 + x1.toNat) x6.toNat + iH h (1143 + (x6 + 1).toNat) x2.toNat) + x5))] [vi ((iH h (1143 + x1.toNat) x6.toNat + iH h (1143 + (x6 + 1).toNat) x2.toNat) + x5)] h from xGo k_X12_costOf_87 (And.intro rfl (And.intro c42 (And.intro rfl (w_fg [true, true, true, true, true, true, true, false] v49))))))) (fun c48 => have v50 := v58.2 c48; (show wp mX12_costOf 2 rc rs Q 73 [some (vr 71), some (vi x1), some (vi x2), some (vi x3), some (vi x4), some (vi x5), some (vi x6), some (vi ((iH h (1143 + x1.toNat) x6.toNat + iH h (1143 + (x6 + 1).toNat) x2.toNat) + x5))] [] h from xIc k_X12_costOf_73 (And.intro (fun c52 => have v54 := v50.1 c52; (show wp mX12_costOf 2 rc rs Q 85 [some (vr 71), some (vi x1), some (vi x2), some (vi x3), some (vi x4), some (vi x5), some (vi x6), some (vi ((iH h (1143 + x1.toNat) x6.toNat + iH h (1143 + (x6 + 1).toNat) x2.toNat) + x5))] [] h from xGo k_X12_costOf_85 (And.intro rfl (And.intro c42 (And.intro rfl (w_fg [true, true, true, true, true, true, true, false] v54)))))) (fun c53 => have v55 := v50.2 (Int.not_le.mp c53); (show wp mX12_costOf 2 rc rs Q 80 [some (vr 71), some (vi x1), some (vi x2), some (vi x3), some (vi x4), some (vi x5), some (vi x6), some (vi ((iH h (1143 + x1.toNat) x6.toNat + iH h (1143 + (x6 + 1).toNat) x2.toNat) + x5))] [] h from xGo k_X12_costOf_80 (show wp mX12_costOf 2 rc rs Q 87 [some (vr 71), some (vi x1), some (vi x2), some (vi x3), some (vi x4), some (vi x5), some (vi x6), some (vi ((iH h (1143 + x1.toNat) x6.toNat + iH h (1143 + (x6 + 1).toNat) x2.toNat) + x5))] [vi ((iH h (1143 + x1.toNat) x6.toNat + iH h (1143 + (x6 + 1).toNat) x2.toNat) + x5)] h from xGo k_X12_costOf_87 (And.intro rfl (And.intro c42 (And.intro rfl (w_fg [true, true, true, true, true, true, true, false] v55)))))))))))))))))))))))))))))))))))))) (fun c37 => have v39 := v67.2 c37; (show wp mX12_costOf 2 rc rs Q 38 [some (vr 71), some (vi x1), some (vi x2), some (vi x3), some (vi x4), some (vi x5), some (vi x6), none] [] h from xGo k_X12_costOf_38 (show wp mX12_costOf 2 rc rs Q 89 [some (vr 71), some (vi x1), some (vi x2), some (vi x3), some (vi x4), some (vi x5), some (vi x6), none] [] h from xGo k_X12_costOf_89 (have c65 := v39.1; have v66 := v39.2; (And.intro c65 (And.intro rfl v66))))))))))))))))))
/-- the least of: two parts' costs and what both cost together; f > 0: the first part is of f -/
noncomputable def m_bst (C : Nat → Nat → Int) (a b : Nat) (f t : Int) : Nat → Int
  | 0 => -1
  | j + 1 => if 0 < f ∧ (j : Int) + 1 ≠ f then m_bst C a b f t j else if m_bst C a b f t j = -1 ∨ C a (a + j) + C (a + j + 1) b + t < m_bst C a b f t j then C a (a + j) + C (a + j + 1) b + t else m_bst C a b f t j
def m_cst (h : AH) (i j : Nat) : Int := iH h (1143 + i) j
theorem c_costOf {h : AH} (hL : LayM h) {a b f : Int} (hr : m_rng h a (b - a + 1)) (hab : a ≤ b) (hc : ∀ i j : Nat, i < 8 → j < 8 → 0 ≤ m_cst h i j ∧ m_cst h i j ≤ 100000) : Ct 2 0 0 mX12_costOf [vr 71, vi a, vi b, vi f] h (QI fun x h' => x = m_bst (m_cst h) a.toNat b.toNat f (m_liveIn h a (b - a + 1)) (b - a).toNat ∧ h' = h) := by
  have h1 := hr.1
  have h2 := hr.2.2.1
  have hl := m_liveIn_bd hr
  have e0 : a = a + ((0 : Nat) : Int) := by omega
  refine e_X12_costOf hL ⟨by omega, by omega, hr, ?_⟩
  generalize hT : m_liveIn h a (b - a + 1) = t at *
  have hbst : ∀ j : Nat, j < 8 - a.toNat → b < 8 → -1 ≤ m_bst (m_cst h) a.toNat b.toNat f t j ∧ m_bst (m_cst h) a.toNat b.toNat f t j ≤ 300000 := by
    intro j
    induction j with
    | zero => intro _ _; simp [m_bst]
    | succ j ih =>
      intro hj hb
      have q := ih (by omega) hb
      have c1 := hc a.toNat (a.toNat + j) (by omega) (by omega)
      have c2 := hc (a.toNat + j + 1) b.toNat (by omega) (by omega)
      unfold m_bst
      split
      · exact q
      · split <;> omega
  have := up (P := fun j => wp mX12_costOf 2 0 0 (QI fun x h' => x = m_bst (m_cst h) a.toNat b.toNat f t (b - a).toNat ∧ h' = h) 18 [some (vr 71), some (vi a), some (vi b), some (vi f), some (vi (m_bst (m_cst h) a.toNat b.toNat f t j)), some (vi t), some (vi (a + (j : Int))), none] [] h) (b - a).toNat ?_ ?_
  · rw [← e0] at this; exact this
  · exact t_X12_costOf_18 hL ⟨fun _ => ⟨_, rfl, rfl, rfl⟩, fun c => absurd c (by omega)⟩
  · intro j hj ih
    rw [show a + ((j + 1 : Nat) : Int) = a + (j : Int) + 1 by omega] at ih
    have k1 := hc a.toNat (a.toNat + j) (by omega) (by omega)
    have k2 := hc (a.toNat + j + 1) b.toNat (by omega) (by omega)
    have e1 : iH h (1143 + a.toNat) (a + (j : Int)).toNat = m_cst h a.toNat (a.toNat + j) := by rw [show (a + (j : Int)).toNat = a.toNat + j by omega]; rfl
    have e2 : iH h (1143 + (a + (j : Int) + 1).toNat) b.toNat = m_cst h (a.toNat + j + 1) b.toNat := by rw [show (a + (j : Int) + 1).toNat = a.toNat + j + 1 by omega]; rfl
    have e3 : m_bst (m_cst h) a.toNat b.toNat f t (j + 1) = (if 0 < f ∧ (j : Int) + 1 ≠ f then m_bst (m_cst h) a.toNat b.toNat f t j else if m_bst (m_cst h) a.toNat b.toNat f t j = -1 ∨ m_cst h a.toNat (a.toNat + j) + m_cst h (a.toNat + j + 1) b.toNat + t < m_bst (m_cst h) a.toNat b.toNat f t j then m_cst h a.toNat (a.toNat + j) + m_cst h (a.toNat + j + 1) b.toNat + t else m_bst (m_cst h) a.toNat b.toNat f t j) := rfl
    refine t_X12_costOf_18 hL ?_
    rw [e1, e2]
    have inner : ¬ (0 < f ∧ (j : Int) + 1 ≠ f) → ((m_bst (m_cst h) a.toNat b.toNat f t j = -1 → wp mX12_costOf 2 0 0 (QI fun x h' => x = m_bst (m_cst h) a.toNat b.toNat f t (b - a).toNat ∧ h' = h) 18 [some (vr 71), some (vi a), some (vi b), some (vi f), some (vi (m_cst h a.toNat (a.toNat + j) + m_cst h (a.toNat + j + 1) b.toNat + t)), some (vi t), some (vi (a + (j : Int) + 1)), none] [] h) ∧ (m_bst (m_cst h) a.toNat b.toNat f t j ≠ -1 → ((m_bst (m_cst h) a.toNat b.toNat f t j ≤ m_cst h a.toNat (a.toNat + j) + m_cst h (a.toNat + j + 1) b.toNat + t → wp mX12_costOf 2 0 0 (QI fun x h' => x = m_bst (m_cst h) a.toNat b.toNat f t (b - a).toNat ∧ h' = h) 18 [some (vr 71), some (vi a), some (vi b), some (vi f), some (vi (m_bst (m_cst h) a.toNat b.toNat f t j)), some (vi t), some (vi (a + (j : Int) + 1)), none] [] h) ∧ (m_cst h a.toNat (a.toNat + j) + m_cst h (a.toNat + j + 1) b.toNat + t < m_bst (m_cst h) a.toNat b.toNat f t j → wp mX12_costOf 2 0 0 (QI fun x h' => x = m_bst (m_cst h) a.toNat b.toNat f t (b - a).toNat ∧ h' = h) 18 [some (vr 71), some (vi a), some (vi b), some (vi f), some (vi (m_cst h a.toNat (a.toNat + j) + m_cst h (a.toNat + j + 1) b.toNat + t)), some (vi t), some (vi (a + (j : Int) + 1)), none] [] h)))) := by
      intro hq
      rw [if_neg hq] at e3
      refine ⟨fun c => ?_, fun c => ⟨fun c2 => ?_, fun c2 => ?_⟩⟩
      · rw [if_pos (Or.inl c)] at e3; rw [e3] at ih; exact ih
      · rw [if_neg (by omega)] at e3; rw [e3] at ih; exact ih
      · rw [if_pos (Or.inr c2)] at e3; rw [e3] at ih; exact ih
    refine ⟨fun c => absurd c (by omega), fun c => ⟨fun c2 => ⟨by omega, by omega, by omega, by omega, by omega, by omega, by omega, inner (by omega)⟩, fun c2 => ⟨by omega, by omega, fun c3 => ⟨by omega, by omega, by omega, by omega, by omega, by omega, by omega, inner (by omega)⟩, fun c3 => ⟨by omega, ?_⟩⟩⟩⟩
    rw [if_pos (by omega)] at e3
    rw [e3] at ih; exact ih
end
section
/-! READING AND WRITING THE PURE HEAP -/
section
section RD
variable {h : AH} {a b k j : Nat} {v : Int} {g g' : Nat → Int}
theorem rI_same : iH (sI h a k v) a k = v := by simp [iH, sI, u2]
theorem rI_ne (e : b ≠ a) : iH (sI h a k v) b j = iH h b j := by simp [iH, sI, u2, e]
theorem rI_nk (e : j ≠ k) : iH (sI h a k v) a j = iH h a j := by simp [iH, sI, u2, e]
theorem rI_if : iH (sI h a k v) a j = if j = k then v else iH h a j := by simp [iH, sI, u2]
theorem rW_same : iH (sW h a g) a j = g j := by simp [iH, sW, r2]
theorem rW_ne (e : b ≠ a) : iH (sW h a g) b j = iH h b j := by simp [iH, sW, r2, e]
theorem sW_id (e : ∀ k, g k = iH h a k) : sW h a g = h := by
  have : r2 h.2.2.1 a g = h.2.2.1 := by
    funext x y
    unfold r2
    split
    · rename_i q; subst q; exact e y
    · rfl
  unfold sW
  rw [this]
theorem sW_ext (e : ∀ k, g k = g' k) : sW h a g = sW h a g' := by rw [show g = g' from funext e]
theorem sI_sW (e : ∀ j, g' j = if j = k then v else g j) : sI (sW h a g) a k v = sW h a g' := by
  unfold sI sW
  congr 3
  funext x y
  unfold u2 r2
  by_cases q : x = a
  · subst q
    simp [e]
  · simp [q]
theorem sI_sW_ne (e : b ≠ a) : sI (sW h a g) b k v = sW (sI h b k v) a g := by
  unfold sI sW
  congr 3
  funext x y
  unfold u2 r2
  by_cases q : x = b
  · subst q
    simp [e]
  · simp [q]
theorem sI_sI_ne {l : Nat} {w : Int} (e : b ≠ a) : sI (sI h a k v) b l w = sI (sI h b l w) a k v := by
  unfold sI
  congr 3
  funext x y
  unfold u2
  by_cases q : x = b
  · subst q
    simp [e]
  · simp [q]
theorem sI_sI {w : Int} : sI (sI h a k v) a k w = sI h a k w := by
  unfold sI
  congr 3
  funext x y
  unfold u2
  by_cases q : x = a
  · subst q
    by_cases q2 : y = k <;> simp [q2]
  · simp [q]
theorem sW_sW : sW (sW h a g) a g' = sW h a g' := by
  unfold sW
  congr 3
  funext x y
  unfold r2
  by_cases q : x = a <;> simp [q]
theorem sW_sW_ne (e : b ≠ a) : sW (sW h a g) b g' = sW (sW h b g') a g := by
  unfold sW
  congr 3
  funext x y
  unfold r2
  by_cases q : x = b
  · subst q
    simp [e]
  · simp [q]
theorem sI_W : sI h a k v = sW h a (fun j => if j = k then v else iH h a j) := by
  unfold sI sW
  congr 3
  funext x y
  unfold u2 r2
  by_cases q : x = a
  · subst q
    rfl
  · simp [q]
end RD
end
/-- from a contract with a result to one with a wider result -/
theorem Ct.qI {d mc ms : Nat} {y : MI} {av : List AV} {h : AH} {P P' : Int → AH → Prop} (hc : Ct d mc ms y av h (QI P)) (m : ∀ x h', P x h' → P' x h') : Ct d mc ms y av h (QI P') := hc.mono fun v h' ⟨x, e, q⟩ => ⟨x, e, m x h' q⟩
theorem eQPV {K : Option AV → AH → Prop} {h0 : AH} (k : K none h0) : ∀ v h, (∀ w, v = some w → okV w) → QV (fun h' => h' = h0) v h → K v h := by
  rintro v h ok ⟨rfl, rfl⟩
  exact k
def b_X12_feed_0 : List IE := [(.iload_n 1, 1, 0, 0, 1, 0), (.iconst 1, 1, 1, 0, 0, 0), (.iconst 5, 1, 5, 0, 0, 0)]
theorem k_X12_feed_0 : ckB mX12_feed 12 0 b_X12_feed_0 3 = true := by decide +kernel
def b_X12_feed_6 : List IE := []
theorem k_X12_feed_6 : ckIf mX12_feed 12 6 b_X12_feed_6 6 0 41 47 9 = true := by decide +kernel
def b_X12_feed_9 : List IE := [(.iload_n 2, 1, 0, 0, 2, 0)]
theorem k_X12_feed_9 : ckB mX12_feed 12 9 b_X12_feed_9 10 = true := by decide +kernel
def b_X12_feed_13 : List IE := []
theorem k_X12_feed_13 : ckIf mX12_feed 12 13 b_X12_feed_13 13 0 34 47 16 = true := by decide +kernel
def b_X12_feed_16 : List IE := [(.iload_n 3, 1, 0, 0, 3, 0)]
theorem k_X12_feed_16 : ckB mX12_feed 12 16 b_X12_feed_16 17 = true := by decide +kernel
def b_X12_feed_20 : List IE := []
theorem k_X12_feed_20 : ckIf mX12_feed 12 20 b_X12_feed_20 20 0 27 47 23 = true := by decide +kernel
def b_X12_feed_23 : List IE := [(.iload 4, 2, 0, 0, 4, 0)]
theorem k_X12_feed_23 : ckB mX12_feed 12 23 b_X12_feed_23 25 = true := by decide +kernel
def b_X12_feed_28 : List IE := []
theorem k_X12_feed_28 : ckIf mX12_feed 12 28 b_X12_feed_28 28 0 19 47 31 = true := by decide +kernel
def b_X12_feed_31 : List IE := [(.iload 5, 2, 0, 0, 5, 0)]
theorem k_X12_feed_31 : ckB mX12_feed 12 31 b_X12_feed_31 33 = true := by decide +kernel
def b_X12_feed_36 : List IE := []
theorem k_X12_feed_36 : ckIf mX12_feed 12 36 b_X12_feed_36 36 0 11 47 39 = true := by decide +kernel
def b_X12_feed_39 : List IE := [(.iload 6, 2, 0, 0, 6, 0)]
theorem k_X12_feed_39 : ckB mX12_feed 12 39 b_X12_feed_39 41 = true := by decide +kernel
def b_X12_feed_44 : List IE := []
theorem k_X12_feed_44 : ckIf mX12_feed 12 44 b_X12_feed_44 44 1 6 50 47 = true := by decide +kernel
def b_X12_feed_47 : List IE := [(.bipush (-2), 2, (-2), 0, 0, 0)]
theorem k_X12_feed_47 : ckI mX12_feed 12 47 b_X12_feed_47 49 = true := by decide +kernel
def b_X12_feed_50 : List IE := [(.aload_n 0, 1, 0, 0, 0, 0), (.getfield 120, 3, 0, 12, 18, 0), (.iload_n 1, 1, 0, 0, 1, 0), (.iadd, 1, 0, 0, 0, 0), (.bipush 64, 2, 64, 0, 0, 0)]
theorem k_X12_feed_50 : ckIc mX12_feed 12 50 b_X12_feed_50 58 5 6 64 61 = true := by decide +kernel
def b_X12_feed_61 : List IE := [(.bipush (-4), 2, (-4), 0, 0, 0)]
theorem k_X12_feed_61 : ckI mX12_feed 12 61 b_X12_feed_61 63 = true := by decide +kernel
def b_X12_feed_64 : List IE := [(.iconst 0, 1, 0, 0, 0, 0), (.istore 7, 2, 0, 0, 7, 0)]
theorem k_X12_feed_64 : ckB mX12_feed 12 64 b_X12_feed_64 67 = true := by decide +kernel
def b_X12_feed_67 : List IE := [(.iload 7, 2, 0, 0, 7, 0), (.iload_n 1, 1, 0, 0, 1, 0)]
theorem k_X12_feed_67 : ckIc mX12_feed 12 67 b_X12_feed_67 70 3 64 134 73 = true := by decide +kernel
def b_X12_feed_73 : List IE := [(.aload_n 0, 1, 0, 0, 0, 0), (.getfield 54, 3, 0, 12, 17, 1), (.aload_n 0, 1, 0, 0, 0, 0), (.getfield 120, 3, 0, 12, 18, 0), (.iload 7, 2, 0, 0, 7, 0), (.iadd, 1, 0, 0, 0, 0), (.iload 7, 2, 0, 0, 7, 0)]
theorem k_X12_feed_73 : ckIf mX12_feed 12 73 b_X12_feed_73 86 1 7 93 89 = true := by decide +kernel
def b_X12_feed_89 : List IE := [(.iload_n 2, 1, 0, 0, 2, 0)]
theorem k_X12_feed_89 : ckGo mX12_feed 12 89 b_X12_feed_89 90 37 127 = true := by decide +kernel
def b_X12_feed_93 : List IE := [(.iload 7, 2, 0, 0, 7, 0), (.iconst 1, 1, 1, 0, 0, 0)]
theorem k_X12_feed_93 : ckIc mX12_feed 12 93 b_X12_feed_93 96 1 7 103 99 = true := by decide +kernel
def b_X12_feed_99 : List IE := [(.iload_n 3, 1, 0, 0, 3, 0)]
theorem k_X12_feed_99 : ckGo mX12_feed 12 99 b_X12_feed_99 100 27 127 = true := by decide +kernel
def b_X12_feed_103 : List IE := [(.iload 7, 2, 0, 0, 7, 0), (.iconst 2, 1, 2, 0, 0, 0)]
theorem k_X12_feed_103 : ckIc mX12_feed 12 103 b_X12_feed_103 106 1 8 114 109 = true := by decide +kernel
def b_X12_feed_109 : List IE := [(.iload 4, 2, 0, 0, 4, 0)]
theorem k_X12_feed_109 : ckGo mX12_feed 12 109 b_X12_feed_109 111 16 127 = true := by decide +kernel
def b_X12_feed_114 : List IE := [(.iload 7, 2, 0, 0, 7, 0), (.iconst 3, 1, 3, 0, 0, 0)]
theorem k_X12_feed_114 : ckIc mX12_feed 12 114 b_X12_feed_114 117 1 8 125 120 = true := by decide +kernel
def b_X12_feed_120 : List IE := [(.iload 5, 2, 0, 0, 5, 0)]
theorem k_X12_feed_120 : ckGo mX12_feed 12 120 b_X12_feed_120 122 5 127 = true := by decide +kernel
def b_X12_feed_125 : List IE := [(.iload 6, 2, 0, 0, 6, 0), (.iastore, 1, 0, 0, 0, 0), (.iinc 7 1, 3, 1, 0, 7, 0)]
theorem k_X12_feed_125 : ckGo mX12_feed 12 125 b_X12_feed_125 131 (-64) 67 = true := by decide +kernel
def b_X12_feed_127 : List IE := [(.iastore, 1, 0, 0, 0, 0), (.iinc 7 1, 3, 1, 0, 7, 0)]
theorem k_X12_feed_127 : ckGo mX12_feed 12 127 b_X12_feed_127 131 (-64) 67 = true := by decide +kernel
def b_X12_feed_134 : List IE := [(.aload_n 0, 1, 0, 0, 0, 0), (.dup, 1, 0, 0, 0, 0), (.getfield 120, 3, 0, 12, 18, 0), (.iload_n 1, 1, 0, 0, 1, 0), (.iadd, 1, 0, 0, 0, 0), (.putfield 120, 3, 0, 12, 18, 0), (.aload_n 0, 1, 0, 0, 0, 0), (.getfield 120, 3, 0, 12, 18, 0)]
theorem k_X12_feed_134 : ckI mX12_feed 12 134 b_X12_feed_134 148 = true := by decide +kernel
theorem s_X12_feed_3 : cS mX12_feed 3 mX12_in 109 3 := ⟨by decide +kernel, ⟨ml_X12_in, li_RX12_109, st_X12_in⟩, by decide +kernel⟩
theorem s_X12_feed_10 : cS mX12_feed 10 mX12_isByte 116 1 := ⟨by decide +kernel, ⟨ml_X12_isByte, li_RX12_116, st_X12_isByte⟩, by decide +kernel⟩
theorem s_X12_feed_17 : cS mX12_feed 17 mX12_isByte 116 1 := ⟨by decide +kernel, ⟨ml_X12_isByte, li_RX12_116, st_X12_isByte⟩, by decide +kernel⟩
theorem s_X12_feed_25 : cS mX12_feed 25 mX12_isByte 116 1 := ⟨by decide +kernel, ⟨ml_X12_isByte, li_RX12_116, st_X12_isByte⟩, by decide +kernel⟩
theorem s_X12_feed_33 : cS mX12_feed 33 mX12_isByte 116 1 := ⟨by decide +kernel, ⟨ml_X12_isByte, li_RX12_116, st_X12_isByte⟩, by decide +kernel⟩
theorem s_X12_feed_41 : cS mX12_feed 41 mX12_isByte 116 1 := ⟨by decide +kernel, ⟨ml_X12_isByte, li_RX12_116, st_X12_isByte⟩, by decide +kernel⟩
theorem t_X12_feed_0 {rc rs : Nat} {Q : Option AV → AH → Prop} {h : AH} {x1 x2 x3 x4 x5 x6 : Int} (hL : LayM h) (hv : ((¬ ((1 : Int) ≤ x1 ∧ x1 ≤ (5 : Int)) → Q (some (vi (-2))) h) ∧ (((1 : Int) ≤ x1 ∧ x1 ≤ (5 : Int)) → ((¬ (0 ≤ x2 ∧ x2 ≤ 255) → Q (some (vi (-2))) h) ∧ ((0 ≤ x2 ∧ x2 ≤ 255) → ((¬ (0 ≤ x3 ∧ x3 ≤ 255) → Q (some (vi (-2))) h) ∧ ((0 ≤ x3 ∧ x3 ≤ 255) → ((¬ (0 ≤ x4 ∧ x4 ≤ 255) → Q (some (vi (-2))) h) ∧ ((0 ≤ x4 ∧ x4 ≤ 255) → ((¬ (0 ≤ x5 ∧ x5 ≤ 255) → Q (some (vi (-2))) h) ∧ ((0 ≤ x5 ∧ x5 ≤ 255) → (((0 ≤ x6 ∧ x6 ≤ 255) → (-2147483648 ≤ (iH h 71 18 + x1) ∧ (iH h 71 18 + x1) < 2147483648) ∧ (((iH h 71 18 + x1) ≤ 64 → wp mX12_feed 2 rc rs Q 67 [some (vr 71), some (vi x1), some (vi x2), some (vi x3), some (vi x4), some (vi x5), some (vi x6), some (vi 0)] [] h) ∧ (64 < (iH h 71 18 + x1) → Q (some (vi (-4))) h))) ∧ (¬ (0 ≤ x6 ∧ x6 ≤ 255) → Q (some (vi (-2))) h))))))))))))) : wp mX12_feed 2 rc rs Q 0 [some (vr 71), some (vi x1), some (vi x2), some (vi x3), some (vi x4), some (vi x5), some (vi x6), none] [] h :=
  (show wp mX12_feed 2 rc rs Q 0 [some (vr 71), some (vi x1), some (vi x2), some (vi x3), some (vi x4), some (vi x5), some (vi x6), none] [] h from xcS k_X12_feed_0 s_X12_feed_3 ((Exists.intro [vi x1, vi 1, vi 5] (Exists.intro [] (And.intro (And.intro rfl (And.intro rfl (Nat.le_of_ble_eq_true rfl))) (Exists.intro 0 (Exists.intro 0 (Exists.intro 0 (Exists.intro _ (And.intro c_in (And.intro (And.intro (by decide) (And.intro (Nat.zero_le _) (Nat.zero_le _))) (eQP (show wp mX12_feed 2 rc rs Q 6 [some (vr 71), some (vi x1), some (vi x2), some (vi x3), some (vi x4), some (vi x5), some (vi x6), none] [vi (b01 ((1 : Int) ≤ x1 ∧ x1 ≤ (5 : Int)))] h from xIf k_X12_feed_6 (And.intro (fun c1 => have v3 := hv.1 (b01_n.mp c1); (show wp mX12_feed 2 rc rs Q 47 [some (vr 71), some (vi x1), some (vi x2), some (vi x3), some (vi x4), some (vi x5), some (vi x6), none] [] h from xI k_X12_feed_47 (And.intro rfl v3))) (fun c2 => have v4 := hv.2 (b01_p.mp c2); (show wp mX12_feed 2 rc rs Q 9 [some (vr 71), some (vi x1), some (vi x2), some (vi x3), some (vi x4), some (vi x5), some (vi x6), none] [] h from xcS k_X12_feed_9 s_X12_feed_10 ((Exists.intro [vi x2] (Exists.intro [] (And.intro (And.intro rfl (And.intro rfl (Nat.le_of_ble_eq_true rfl))) (Exists.intro 1 (Exists.intro 0 (Exists.intro 0 (Exists.intro _ (And.intro c_isByte (And.intro (And.intro (by decide) (And.intro (Nat.zero_le _) (Nat.zero_le _))) (eQP (show wp mX12_feed 2 rc rs Q 13 [some (vr 71), some (vi x1), some (vi x2), some (vi x3), some (vi x4), some (vi x5), some (vi x6), none] [vi (b01 (0 ≤ x2 ∧ x2 ≤ 255))] h from xIf k_X12_feed_13 (And.intro (fun c5 => have v7 := v4.1 (b01_n.mp c5); (show wp mX12_feed 2 rc rs Q 47 [some (vr 71), some (vi x1), some (vi x2), some (vi x3), some (vi x4), some (vi x5), some (vi x6), none] [] h from xI k_X12_feed_47 (And.intro rfl v7))) (fun c6 => have v8 := v4.2 (b01_p.mp c6); (show wp mX12_feed 2 rc rs Q 16 [some (vr 71), some (vi x1), some (vi x2), some (vi x3), some (vi x4), some (vi x5), some (vi x6), none] [] h from xcS k_X12_feed_16 s_X12_feed_17 ((Exists.intro [vi x3] (Exists.intro [] (And.intro (And.intro rfl (And.intro rfl (Nat.le_of_ble_eq_true rfl))) (Exists.intro 1 (Exists.intro 0 (Exists.intro 0 (Exists.intro _ (And.intro c_isByte (And.intro (And.intro (by decide) (And.intro (Nat.zero_le _) (Nat.zero_le _))) (eQP (show wp mX12_feed 2 rc rs Q 20 [some (vr 71), some (vi x1), some (vi x2), some (vi x3), some (vi x4), some (vi x5), some (vi x6), none] [vi (b01 (0 ≤ x3 ∧ x3 ≤ 255))] h from xIf k_X12_feed_20 (And.intro (fun c9 => have v11 := v8.1 (b01_n.mp c9); (show wp mX12_feed 2 rc rs Q 47 [some (vr 71), some (vi x1), some (vi x2), some (vi x3), some (vi x4), some (vi x5), some (vi x6), none] [] h from xI k_X12_feed_47 (And.intro rfl v11))) (fun c10 => have v12 := v8.2 (b01_p.mp c10); (show wp mX12_feed 2 rc rs Q 23 [some (vr 71), some (vi x1), some (vi x2), some (vi x3), some (vi x4), some (vi x5), some (vi x6), none] [] h from xcS k_X12_feed_23 s_X12_feed_25 ((Exists.intro [vi x4] (Exists.intro [] (And.intro (And.intro rfl (And.intro rfl (Nat.le_of_ble_eq_true rfl))) (Exists.intro 1 (Exists.intro 0 (Exists.intro 0 (Exists.intro _ (And.intro c_isByte (And.intro (And.intro (by decide) (And.intro (Nat.zero_le _) (Nat.zero_le _))) (eQP (show wp mX12_feed 2 rc rs Q 28 [some (vr 71), some (vi x1), some (vi x2), some (vi x3), some (vi x4), some (vi x5), some (vi x6), none] [vi (b01 (0 ≤ x4 ∧ x4 ≤ 255))] h from xIf k_X12_feed_28 (And.intro (fun c13 => have v15 := v12.1 (b01_n.mp c13); (show wp mX12_feed 2 rc rs Q 47 [some (vr 71), some (vi x1), some (vi x2), some (vi x3), some (vi x4), some (vi x5), some (vi x6), none] [] h from xI k_X12_feed_47 (And.intro rfl v15))) (fun c14 => have v16 := v12.2 (b01_p.mp c14); (show wp mX12_feed 2 rc rs Q 31 [some (vr 71), some (vi x1), some (vi x2), some (vi x3), some (vi x4), some (vi x5), some (vi x6), none] [] h from xcS k_X12_feed_31 s_X12_feed_33 ((Exists.intro [vi x5] (Exists.intro [] (And.intro (And.intro rfl (And.intro rfl (Nat.le_of_ble_eq_true rfl))) (Exists.intro 1 (Exists.intro 0 (Exists.intro 0 (Exists.intro _ (And.intro c_isByte (And.intro (And.intro (by decide) (And.intro (Nat.zero_le _) (Nat.zero_le _))) (eQP (show wp mX12_feed 2 rc rs Q 36 [some (vr 71), some (vi x1), some (vi x2), some (vi x3), some (vi x4), some (vi x5), some (vi x6), none] [vi (b01 (0 ≤ x5 ∧ x5 ≤ 255))] h from xIf k_X12_feed_36 (And.intro (fun c17 => have v19 := v16.1 (b01_n.mp c17); (show wp mX12_feed 2 rc rs Q 47 [some (vr 71), some (vi x1), some (vi x2), some (vi x3), some (vi x4), some (vi x5), some (vi x6), none] [] h from xI k_X12_feed_47 (And.intro rfl v19))) (fun c18 => have v20 := v16.2 (b01_p.mp c18); (show wp mX12_feed 2 rc rs Q 39 [some (vr 71), some (vi x1), some (vi x2), some (vi x3), some (vi x4), some (vi x5), some (vi x6), none] [] h from xcS k_X12_feed_39 s_X12_feed_41 ((Exists.intro [vi x6] (Exists.intro [] (And.intro (And.intro rfl (And.intro rfl (Nat.le_of_ble_eq_true rfl))) (Exists.intro 1 (Exists.intro 0 (Exists.intro 0 (Exists.intro _ (And.intro c_isByte (And.intro (And.intro (by decide) (And.intro (Nat.zero_le _) (Nat.zero_le _))) (eQP (show wp mX12_feed 2 rc rs Q 44 [some (vr 71), some (vi x1), some (vi x2), some (vi x3), some (vi x4), some (vi x5), some (vi x6), none] [vi (b01 (0 ≤ x6 ∧ x6 ≤ 255))] h from xIf k_X12_feed_44 (And.intro (fun c21 => have v23 := v20.1 (b01_p.mp c21); (show wp mX12_feed 2 rc rs Q 50 [some (vr 71), some (vi x1), some (vi x2), some (vi x3), some (vi x4), some (vi x5), some (vi x6), none] [] h from xIc k_X12_feed_50 (And.intro (lm_71 hL) (have c25 := v23.1; have v30 := v23.2; (And.intro c25 (And.intro (fun c26 => have v28 := v30.1 c26; (show wp mX12_feed 2 rc rs Q 64 [some (vr 71), some (vi x1), some (vi x2), some (vi x3), some (vi x4), some (vi x5), some (vi x6), none] [] h from xB k_X12_feed_64 (And.intro rfl v28))) (fun c27 => have v29 := v30.2 (Int.not_le.mp c27); (show wp mX12_feed 2 rc rs Q 61 [some (vr 71), some (vi x1), some (vi x2), some (vi x3), some (vi x4), some (vi x5), some (vi x6), none] [] h from xI k_X12_feed_61 (And.intro rfl v29))))))))) (fun c22 => have v24 := v20.2 (b01_nn.mp c22); (show wp mX12_feed 2 rc rs Q 47 [some (vr 71), some (vi x1), some (vi x2), some (vi x3), some (vi x4), some (vi x5), some (vi x6), none] [] h from xI k_X12_feed_47 (And.intro rfl v24))))))))))))))))))))))))))))))))))))))))))))))))))))))))))))))))))))))))))))))))))))))))))))
theorem e_X12_feed {mc ms : Nat} {Q : Option AV → AH → Prop} {h : AH} {x1 x2 x3 x4 x5 x6 : Int} (hL : LayM h) (hv : ((¬ ((1 : Int) ≤ x1 ∧ x1 ≤ (5 : Int)) → Q (some (vi (-2))) h) ∧ (((1 : Int) ≤ x1 ∧ x1 ≤ (5 : Int)) → ((¬ (0 ≤ x2 ∧ x2 ≤ 255) → Q (some (vi (-2))) h) ∧ ((0 ≤ x2 ∧ x2 ≤ 255) → ((¬ (0 ≤ x3 ∧ x3 ≤ 255) → Q (some (vi (-2))) h) ∧ ((0 ≤ x3 ∧ x3 ≤ 255) → ((¬ (0 ≤ x4 ∧ x4 ≤ 255) → Q (some (vi (-2))) h) ∧ ((0 ≤ x4 ∧ x4 ≤ 255) → ((¬ (0 ≤ x5 ∧ x5 ≤ 255) → Q (some (vi (-2))) h) ∧ ((0 ≤ x5 ∧ x5 ≤ 255) → (((0 ≤ x6 ∧ x6 ≤ 255) → (-2147483648 ≤ (iH h 71 18 + x1) ∧ (iH h 71 18 + x1) < 2147483648) ∧ (((iH h 71 18 + x1) ≤ 64 → wp mX12_feed 2 mc ms Q 67 [some (vr 71), some (vi x1), some (vi x2), some (vi x3), some (vi x4), some (vi x5), some (vi x6), some (vi 0)] [] h) ∧ (64 < (iH h 71 18 + x1) → Q (some (vi (-4))) h))) ∧ (¬ (0 ≤ x6 ∧ x6 ≤ 255) → Q (some (vi (-2))) h))))))))))))) : Ct 2 mc ms mX12_feed [vr 71, vi x1, vi x2, vi x3, vi x4, vi x5, vi x6] h Q := Ct.of (by decide +kernel) (Nat.le_of_ble_eq_true rfl) (t_X12_feed_0 hL hv)
theorem t_X12_feed_67 {rc rs : Nat} {Q : Option AV → AH → Prop} {h : AH} {x1 x2 x3 x4 x5 x6 x7 : Int} (hL : LayM h) (hv : ((x1 ≤ x7 → (-2147483648 ≤ (iH h 71 18 + x1) ∧ (iH h 71 18 + x1) < 2147483648) ∧ Q (some (vi (iH h 71 18 + x1))) (sI h 71 18 (iH h 71 18 + x1))) ∧ (x7 < x1 → (-2147483648 ≤ (iH h 71 18 + x7) ∧ (iH h 71 18 + x7) < 2147483648) ∧ ((x7 ≠ 0 → ((x7 ≠ 1 → ((x7 ≠ 2 → ((x7 ≠ 3 → (0 ≤ (iH h 71 18 + x7) ∧ (iH h 71 18 + x7) < 64) ∧ (-2147483648 ≤ (x7 + 1) ∧ (x7 + 1) < 2147483648) ∧ wp mX12_feed 2 rc rs Q 67 [some (vr 71), some (vi x1), some (vi x2), some (vi x3), some (vi x4), some (vi x5), some (vi x6), some (vi (x7 + 1))] [] (sI h 1139 ((iH h 71 18 + x7).toNat) x6)) ∧ (x7 = 3 → (0 ≤ (iH h 71 18 + x7) ∧ (iH h 71 18 + x7) < 64) ∧ (-2147483648 ≤ (x7 + 1) ∧ (x7 + 1) < 2147483648) ∧ wp mX12_feed 2 rc rs Q 67 [some (vr 71), some (vi x1), some (vi x2), some (vi x3), some (vi x4), some (vi x5), some (vi x6), some (vi (x7 + 1))] [] (sI h 1139 ((iH h 71 18 + x7).toNat) x5)))) ∧ (x7 = 2 → (0 ≤ (iH h 71 18 + x7) ∧ (iH h 71 18 + x7) < 64) ∧ (-2147483648 ≤ (x7 + 1) ∧ (x7 + 1) < 2147483648) ∧ wp mX12_feed 2 rc rs Q 67 [some (vr 71), some (vi x1), some (vi x2), some (vi x3), some (vi x4), some (vi x5), some (vi x6), some (vi (x7 + 1))] [] (sI h 1139 ((iH h 71 18 + x7).toNat) x4)))) ∧ (x7 = 1 → (0 ≤ (iH h 71 18 + x7) ∧ (iH h 71 18 + x7) < 64) ∧ (-2147483648 ≤ (x7 + 1) ∧ (x7 + 1) < 2147483648) ∧ wp mX12_feed 2 rc rs Q 67 [some (vr 71), some (vi x1), some (vi x2), some (vi x3), some (vi x4), some (vi x5), some (vi x6), some (vi (x7 + 1))] [] (sI h 1139 ((iH h 71 18 + x7).toNat) x3)))) ∧ (x7 = 0 → (0 ≤ (iH h 71 18 + x7) ∧ (iH h 71 18 + x7) < 64) ∧ (-2147483648 ≤ (x7 + 1) ∧ (x7 + 1) < 2147483648) ∧ wp mX12_feed 2 rc rs Q 67 [some (vr 71), some (vi x1), some (vi x2), some (vi x3), some (vi x4), some (vi x5), some (vi x6), some (vi (x7 + 1))] [] (sI h 1139 ((iH h 71 18 + x7).toNat) x2)))))) : wp mX12_feed 2 rc rs Q 67 [some (vr 71), some (vi x1), some (vi x2), some (vi x3), some (vi x4), some (vi x5), some (vi x6), some (vi x7)] [] h :=
  (show wp mX12_feed 2 rc rs Q 67 [some (vr 71), some (vi x1), some (vi x2), some (vi x3), some (vi x4), some (vi x5), some (vi x6), some (vi x7)] [] h from xIc k_X12_feed_67 (And.intro (fun c1 => have v3 := hv.1 c1; (show wp mX12_feed 2 rc rs Q 134 [some (vr 71), some (vi x1), some (vi x2), some (vi x3), some (vi x4), some (vi x5), some (vi x6), some (vi x7)] [] h from xI k_X12_feed_134 (And.intro rfl (And.intro (lm_71 hL) (have c5 := v3.1; have v6 := v3.2; (And.intro c5 (And.intro (lm_71 hL) (And.intro (lm_71 hL) (And.intro rfl v6))))))))) (fun c2 => have v4 := hv.2 (Int.not_le.mp c2); (show wp mX12_feed 2 rc rs Q 73 [some (vr 71), some (vi x1), some (vi x2), some (vi x3), some (vi x4), some (vi x5), some (vi x6), some (vi x7)] [] h from xIf k_X12_feed_73 (And.intro (lm_71 hL) (Exists.intro 1139 (And.intro (lf_71_17 hL) (And.intro (lm_71 hL) (have c7 := v4.1; have v44 := v4.2; (And.intro c7 (And.intro (fun c8 => have v10 := v44.1 c8; (show wp mX12_feed 2 rc rs Q 93 [some (vr 71), some (vi x1), some (vi x2), some (vi x3), some (vi x4), some (vi x5), some (vi x6), some (vi x7)] [vi (iH h 71 18 + x7), vr 1139] h from xIc k_X12_feed_93 (And.intro (fun c12 => have v14 := v10.1 c12; (show wp mX12_feed 2 rc rs Q 103 [some (vr 71), some (vi x1), some (vi x2), some (vi x3), some (vi x4), some (vi x5), some (vi x6), some (vi x7)] [vi (iH h 71 18 + x7), vr 1139] h from xIc k_X12_feed_103 (And.intro (fun c16 => have v18 := v14.1 c16; (show wp mX12_feed 2 rc rs Q 114 [some (vr 71), some (vi x1), some (vi x2), some (vi x3), some (vi x4), some (vi x5), some (vi x6), some (vi x7)] [vi (iH h 71 18 + x7), vr 1139] h from xIc k_X12_feed_114 (And.intro (fun c20 => have v22 := v18.1 c20; (show wp mX12_feed 2 rc rs Q 125 [some (vr 71), some (vi x1), some (vi x2), some (vi x3), some (vi x4), some (vi x5), some (vi x6), some (vi x7)] [vi (iH h 71 18 + x7), vr 1139] h from xGo k_X12_feed_125 (have c24 := v22.1; have v27 := v22.2; (And.intro (sdI (lm_1139 hL) c24) (have c25 := v27.1; have v26 := v27.2; (And.intro c25 (And.intro rfl v26))))))) (fun c21 => have v23 := v18.2 (Decidable.not_not.mp c21); (show wp mX12_feed 2 rc rs Q 120 [some (vr 71), some (vi x1), some (vi x2), some (vi x3), some (vi x4), some (vi x5), some (vi x6), some (vi x7)] [vi (iH h 71 18 + x7), vr 1139] h from xGo k_X12_feed_120 (show wp mX12_feed 2 rc rs Q 127 [some (vr 71), some (vi x1), some (vi x2), some (vi x3), some (vi x4), some (vi x5), some (vi x6), some (vi x7)] [vi x5, vi (iH h 71 18 + x7), vr 1139] h from xGo k_X12_feed_127 (have c28 := v23.1; have v31 := v23.2; (And.intro (sdI (lm_1139 hL) c28) (have c29 := v31.1; have v30 := v31.2; (And.intro c29 (And.intro rfl v30))))))))))) (fun c17 => have v19 := v14.2 (Decidable.not_not.mp c17); (show wp mX12_feed 2 rc rs Q 109 [some (vr 71), some (vi x1), some (vi x2), some (vi x3), some (vi x4), some (vi x5), some (vi x6), some (vi x7)] [vi (iH h 71 18 + x7), vr 1139] h from xGo k_X12_feed_109 (show wp mX12_feed 2 rc rs Q 127 [some (vr 71), some (vi x1), some (vi x2), some (vi x3), some (vi x4), some (vi x5), some (vi x6), some (vi x7)] [vi x4, vi (iH h 71 18 + x7), vr 1139] h from xGo k_X12_feed_127 (have c32 := v19.1; have v35 := v19.2; (And.intro (sdI (lm_1139 hL) c32) (have c33 := v35.1; have v34 := v35.2; (And.intro c33 (And.intro rfl v34))))))))))) (fun c13 => have v15 := v10.2 (Decidable.not_not.mp c13); (show wp mX12_feed 2 rc rs Q 99 [some (vr 71), some (vi x1), some (vi x2), some (vi x3), some (vi x4), some (vi x5), some (vi x6), some (vi x7)] [vi (iH h 71 18 + x7), vr 1139] h from xGo k_X12_feed_99 (show wp mX12_feed 2 rc rs Q 127 [some (vr 71), some (vi x1), some (vi x2), some (vi x3), some (vi x4), some (vi x5), some (vi x6), some (vi x7)] [vi x3, vi (iH h 71 18 + x7), vr 1139] h from xGo k_X12_feed_127 (have c36 := v15.1; have v39 := v15.2; (And.intro (sdI (lm_1139 hL) c36) (have c37 := v39.1; have v38 := v39.2; (And.intro c37 (And.intro rfl v38))))))))))) (fun c9 => have v11 := v44.2 (Decidable.not_not.mp c9); (show wp mX12_feed 2 rc rs Q 89 [some (vr 71), some (vi x1), some (vi x2), some (vi x3), some (vi x4), some (vi x5), some (vi x6), some (vi x7)] [vi (iH h 71 18 + x7), vr 1139] h from xGo k_X12_feed_89 (show wp mX12_feed 2 rc rs Q 127 [some (vr 71), some (vi x1), some (vi x2), some (vi x3), some (vi x4), some (vi x5), some (vi x6), some (vi x7)] [vi x2, vi (iH h 71 18 + x7), vr 1139] h from xGo k_X12_feed_127 (have c40 := v11.1; have v43 := v11.2; (And.intro (sdI (lm_1139 hL) c40) (have c41 := v43.1; have v42 := v43.2; (And.intro c41 (And.intro rfl v42)))))))))))))))))))
def m_byt (a b c d e : Int) (j : Nat) : Int := if j = 0 then a else if j = 1 then b else if j = 2 then c else if j = 3 then d else e
def m_fedT (h : AH) (a b c d e : Int) (n k : Nat) : Int := if (iH h 71 18).toNat ≤ k ∧ k < (iH h 71 18).toNat + n then m_byt a b c d e (k - (iH h 71 18).toNat) else iH h 1139 k
def m_fedOK (n a b c d e : Int) : Prop := (1 ≤ n ∧ n ≤ 5) ∧ (0 ≤ a ∧ a ≤ 255) ∧ (0 ≤ b ∧ b ≤ 255) ∧ (0 ≤ c ∧ c ≤ 255) ∧ (0 ≤ d ∧ d ≤ 255) ∧ (0 ≤ e ∧ e ≤ 255)
def m_fed (h : AH) (n a b c d e : Int) : AH := sI (sW h 1139 (m_fedT h a b c d e n.toNat)) 71 18 (iH h 71 18 + n)
def p_feed (h : AH) (n a b c d e : Int) (x : Int) (h' : AH) : Prop := (¬ m_fedOK n a b c d e ∧ x = -2 ∧ h' = h) ∨ (m_fedOK n a b c d e ∧ 64 < iH h 71 18 + n ∧ x = -4 ∧ h' = h) ∨ (m_fedOK n a b c d e ∧ iH h 71 18 + n ≤ 64 ∧ x = iH h 71 18 + n ∧ h' = m_fed h n a b c d e)
theorem c_feed {h : AH} (hL : LayM h) {n a b c d e : Int} (ht : 0 ≤ iH h 71 18 ∧ iH h 71 18 ≤ 64) : Ct 2 0 0 mX12_feed [vr 71, vi n, vi a, vi b, vi c, vi d, vi e] h (QI (p_feed h n a b c d e)) := by
  have bad : ¬ m_fedOK n a b c d e → QI (p_feed h n a b c d e) (some (vi (-2))) h := fun q => ⟨_, rfl, Or.inl ⟨q, rfl, rfl⟩⟩
  refine e_X12_feed hL ⟨fun c0 => bad fun q => c0 q.1, fun c0 => ⟨fun c1 => bad fun q => c1 q.2.1, fun c1 => ⟨fun c2 => bad fun q => c2 q.2.2.1, fun c2 => ⟨fun c3 => bad fun q => c3 q.2.2.2.1, fun c3 => ⟨fun c4 => bad fun q => c4 q.2.2.2.2.1, fun c4 => ⟨fun c5 => ⟨by omega, fun c6 => ?_, fun c6 => ⟨_, rfl, Or.inr (Or.inl ⟨⟨c0, c1, c2, c3, c4, c5⟩, c6, rfl, rfl⟩)⟩⟩, fun c5 => bad fun q => c5 q.2.2.2.2.2⟩⟩⟩⟩⟩⟩
  have e0 : h = sW h 1139 (m_fedT h a b c d e 0) := (sW_id fun k => by unfold m_fedT; rw [if_neg (by omega)]).symm
  have main : wp mX12_feed 2 0 0 (QI (p_feed h n a b c d e)) 67 [some (vr 71), some (vi n), some (vi a), some (vi b), some (vi c), some (vi d), some (vi e), some (vi 0)] [] (sW h 1139 (m_fedT h a b c d e 0)) := by
    refine up (P := fun j => wp mX12_feed 2 _ _ _ 67 [some (vr 71), some (vi n), some (vi a), some (vi b), some (vi c), some (vi d), some (vi e), some (vi j)] [] (sW h 1139 (m_fedT h a b c d e j))) n.toNat ?_ ?_
    · exact t_X12_feed_67 hL ⟨fun _ => ⟨by rw [rW_ne (by decide)]; omega, _, rfl, Or.inr (Or.inr ⟨⟨c0, c1, c2, c3, c4, c5⟩, c6, by rw [rW_ne (by decide)], by rw [rW_ne (by decide)]; rfl⟩)⟩, fun c => absurd c (by omega)⟩
    · intro j hj ih
      have st : ∀ v, v = m_byt a b c d e j → wp mX12_feed 2 0 0 (QI (p_feed h n a b c d e)) 67 [some (vr 71), some (vi n), some (vi a), some (vi b), some (vi c), some (vi d), some (vi e), some (vi ((j : Int) + 1))] [] (sI (sW h 1139 (m_fedT h a b c d e j)) 1139 (iH h 71 18 + (j : Int)).toNat v) := by
        intro v hv
        rw [sI_sW (g' := m_fedT h a b c d e (j + 1)) (fun k => by
          unfold m_fedT
          by_cases q : k = (iH h 71 18 + (j : Int)).toNat
          · rw [if_pos q, if_pos (by omega), hv]; congr 1; omega
          · rw [if_neg q]
            by_cases q2 : (iH h 71 18).toNat ≤ k ∧ k < (iH h 71 18).toNat + j
            · rw [if_pos q2, if_pos (by omega)]
            · rw [if_neg q2, if_neg (by omega)])]
        exact ih
      refine t_X12_feed_67 hL ?_
      rw [rW_ne (by decide)]
      refine ⟨fun c => absurd c (by omega), fun _ => ⟨by omega, fun d0 => ⟨fun d1 => ⟨fun d2 => ⟨fun d3 => ⟨by omega, by omega, st _ ?_⟩, fun d3 => ⟨by omega, by omega, st _ ?_⟩⟩, fun d2 => ⟨by omega, by omega, st _ ?_⟩⟩, fun d1 => ⟨by omega, by omega, st _ ?_⟩⟩, fun d0 => ⟨by omega, by omega, st _ ?_⟩⟩⟩ <;>
      · unfold m_byt
        (repeat' split) <;> first | rfl | omega
  rw [← e0] at main
  exact main
def b_X12_drop_0 : List IE := [(.iload_n 1, 1, 0, 0, 1, 0)]
theorem k_X12_drop_0 : ckB mX12_drop 12 0 b_X12_drop_0 1 = true := by decide +kernel
def b_X12_drop_4 : List IE := []
theorem k_X12_drop_4 : ckIf mX12_drop 12 4 b_X12_drop_4 4 1 6 10 7 = true := by decide +kernel
def b_X12_drop_7 : List IE := [(.bipush (-2), 2, (-2), 0, 0, 0)]
theorem k_X12_drop_7 : ckI mX12_drop 12 7 b_X12_drop_7 9 = true := by decide +kernel
def b_X12_drop_10 : List IE := [(.aload_n 0, 1, 0, 0, 0, 0), (.iload_n 1, 1, 0, 0, 1, 0)]
theorem k_X12_drop_10 : ckB mX12_drop 12 10 b_X12_drop_10 12 = true := by decide +kernel
def b_X12_drop_15 : List IE := [(.istore_n 2, 1, 0, 0, 2, 0), (.iload_n 2, 1, 0, 0, 2, 0), (.iconst (-1), 1, (-1), 0, 0, 0)]
theorem k_X12_drop_15 : ckIc mX12_drop 12 15 b_X12_drop_15 18 0 47 65 21 = true := by decide +kernel
def b_X12_drop_21 : List IE := [(.iload_n 2, 1, 0, 0, 2, 0), (.iconst 1, 1, 1, 0, 0, 0), (.iadd, 1, 0, 0, 0, 0), (.istore_n 3, 1, 0, 0, 3, 0)]
theorem k_X12_drop_21 : ckB mX12_drop 12 21 b_X12_drop_21 25 = true := by decide +kernel
def b_X12_drop_25 : List IE := [(.iload_n 3, 1, 0, 0, 3, 0), (.aload_n 0, 1, 0, 0, 0, 0), (.getfield 140, 3, 0, 12, 15, 0)]
theorem k_X12_drop_25 : ckIc mX12_drop 12 25 b_X12_drop_25 30 3 23 53 33 = true := by decide +kernel
def b_X12_drop_33 : List IE := [(.aload_n 0, 1, 0, 0, 0, 0), (.getfield 51, 3, 0, 12, 16, 1), (.iload_n 3, 1, 0, 0, 3, 0), (.iconst 1, 1, 1, 0, 0, 0), (.isub, 1, 0, 0, 0, 0), (.aload_n 0, 1, 0, 0, 0, 0), (.getfield 51, 3, 0, 12, 16, 1), (.iload_n 3, 1, 0, 0, 3, 0), (.iaload, 1, 0, 0, 0, 0), (.iastore, 1, 0, 0, 0, 0), (.iinc 3 1, 3, 1, 0, 3, 0)]
theorem k_X12_drop_33 : ckGo mX12_drop 12 33 b_X12_drop_33 50 (-25) 25 = true := by decide +kernel
def b_X12_drop_53 : List IE := [(.aload_n 0, 1, 0, 0, 0, 0), (.dup, 1, 0, 0, 0, 0), (.getfield 140, 3, 0, 12, 15, 0), (.iconst 1, 1, 1, 0, 0, 0), (.isub, 1, 0, 0, 0, 0), (.putfield 140, 3, 0, 12, 15, 0), (.iconst 0, 1, 0, 0, 0, 0)]
theorem k_X12_drop_53 : ckI mX12_drop 12 53 b_X12_drop_53 64 = true := by decide +kernel
def b_X12_drop_65 : List IE := [(.aload_n 0, 1, 0, 0, 0, 0), (.iload_n 1, 1, 0, 0, 1, 0)]
theorem k_X12_drop_65 : ckB mX12_drop 12 65 b_X12_drop_65 67 = true := by decide +kernel
def b_X12_drop_70 : List IE := [(.istore_n 3, 1, 0, 0, 3, 0), (.iload_n 3, 1, 0, 0, 3, 0), (.iconst (-1), 1, (-1), 0, 0, 0)]
theorem k_X12_drop_70 : ckIc mX12_drop 12 70 b_X12_drop_70 73 1 5 78 76 = true := by decide +kernel
def b_X12_drop_76 : List IE := [(.iconst (-1), 1, (-1), 0, 0, 0)]
theorem k_X12_drop_76 : ckI mX12_drop 12 76 b_X12_drop_76 77 = true := by decide +kernel
def b_X12_drop_78 : List IE := [(.aload_n 0, 1, 0, 0, 0, 0), (.getfield 21, 3, 0, 12, 4, 1), (.aload_n 0, 1, 0, 0, 0, 0), (.getfield 31, 3, 0, 12, 8, 1), (.aload_n 0, 1, 0, 0, 0, 0), (.getfield 48, 3, 0, 12, 14, 1), (.iload_n 3, 1, 0, 0, 3, 0), (.bipush 100, 2, 100, 0, 0, 0), (.idiv, 1, 0, 0, 0, 0), (.iaload, 1, 0, 0, 0, 0), (.aaload, 1, 0, 0, 0, 0), (.iload_n 3, 1, 0, 0, 3, 0), (.bipush 100, 2, 100, 0, 0, 0), (.irem, 1, 0, 0, 0, 0), (.iaload, 1, 0, 0, 0, 0), (.iconst 1, 1, 1, 0, 0, 0), (.bastore, 1, 0, 0, 0, 0), (.iconst 1, 1, 1, 0, 0, 0)]
theorem k_X12_drop_78 : ckI mX12_drop 12 78 b_X12_drop_78 104 = true := by decide +kernel
theorem s_X12_drop_1 : cS mX12_drop 1 mX12_isKey 143 1 := ⟨by decide +kernel, ⟨ml_X12_isKey, li_RX12_143, st_X12_isKey⟩, by decide +kernel⟩
theorem s_X12_drop_12 : cV mX12_drop 12 mX12_bufferPlace 146 1 12 := ⟨by decide +kernel, ⟨ml_X12_bufferPlace, li_RX12_146, im_X12_bufferPlace, se_X12_bufferPlace⟩, ⟨by decide +kernel, by decide +kernel⟩, by decide +kernel⟩
theorem s_X12_drop_67 : cV mX12_drop 67 mX12_segmentPlace 149 1 12 := ⟨by decide +kernel, ⟨ml_X12_segmentPlace, li_RX12_149, im_X12_segmentPlace, se_X12_segmentPlace⟩, ⟨by decide +kernel, by decide +kernel⟩, by decide +kernel⟩
theorem t_X12_drop_0 {rc rs : Nat} {Q : Option AV → AH → Prop} {h : AH} {x1 : Int} (hL : LayM h) (hv : (((0 ≤ x1 ∧ x1 ≤ 99) → (m_buf h) ∧ (((m_bp h x1) = (-1) → (m_now h) ∧ (((m_sp h x1) ≠ (-1) → (0 ≤ (m_sp h x1) ∧ (m_sp h x1) < 2147483648) ∧ (0 ≤ ((m_sp h x1) / 100) ∧ ((m_sp h x1) / 100) < 8) ∧ (0 ≤ iH h 1137 (((m_sp h x1) / 100).toNat) ∧ iH h 1137 (((m_sp h x1) / 100).toNat) < 520) ∧ (0 ≤ ((m_sp h x1) % 100) ∧ ((m_sp h x1) % 100) < 64) ∧ (0 ≤ iH h (599 + (iH h 1137 (((m_sp h x1) / 100).toNat)).toNat) (((m_sp h x1) % 100).toNat) ∧ iH h (599 + (iH h 1137 (((m_sp h x1) / 100).toNat)).toNat) (((m_sp h x1) % 100).toNat) < 520) ∧ Q (some (vi 1)) (sI h 595 ((iH h (599 + (iH h 1137 (((m_sp h x1) / 100).toNat)).toNat) (((m_sp h x1) % 100).toNat)).toNat) 1)) ∧ ((m_sp h x1) = (-1) → Q (some (vi (-1))) h))) ∧ ((m_bp h x1) ≠ (-1) → (-2147483648 ≤ ((m_bp h x1) + 1) ∧ ((m_bp h x1) + 1) < 2147483648) ∧ wp mX12_drop 2 rc rs Q 25 [some (vr 71), none, none, some (vi ((m_bp h x1) + 1))] [] h))) ∧ (¬ (0 ≤ x1 ∧ x1 ≤ 99) → Q (some (vi (-2))) h))) : wp mX12_drop 2 rc rs Q 0 [some (vr 71), some (vi x1), none, none] [] h :=
  (show wp mX12_drop 2 rc rs Q 0 [some (vr 71), some (vi x1), none, none] [] h from xcS k_X12_drop_0 s_X12_drop_1 ((Exists.intro [vi x1] (Exists.intro [] (And.intro (And.intro rfl (And.intro rfl (Nat.le_of_ble_eq_true rfl))) (Exists.intro 1 (Exists.intro 0 (Exists.intro 0 (Exists.intro _ (And.intro c_isKey (And.intro (And.intro (by decide) (And.intro (Nat.zero_le _) (Nat.zero_le _))) (eQP (show wp mX12_drop 2 rc rs Q 4 [some (vr 71), some (vi x1), none, none] [vi (b01 (0 ≤ x1 ∧ x1 ≤ 99))] h from xIf k_X12_drop_4 (And.intro (fun c1 => have v3 := hv.1 (b01_p.mp c1); (show wp mX12_drop 2 rc rs Q 10 [some (vr 71), some (vi x1), none, none] [] h from xcV k_X12_drop_10 s_X12_drop_12 (have c29 := v3.1; have v30 := v3.2; (Exists.intro [vi x1] (Exists.intro 71 (Exists.intro [] (And.intro (And.intro rfl (And.intro rfl (Nat.le_of_ble_eq_true rfl))) (And.intro (lm_71 hL) (Exists.intro 0 (Exists.intro 0 (Exists.intro 0 (Exists.intro _ (And.intro (c_bufferPlace hL c29) (And.intro (And.intro (by decide) (And.intro (Nat.zero_le _) (Nat.zero_le _))) (eQP (show wp mX12_drop 2 rc rs Q 15 [some (vr 71), some (vi x1), none, none] [vi (m_bp h x1)] h from xIc k_X12_drop_15 (And.intro rfl (And.intro (fun c5 => have v7 := v30.1 c5; (show wp mX12_drop 2 rc rs Q 65 [some (vr 71), some (vi x1), some (vi (m_bp h x1)), none] [] h from xcV k_X12_drop_65 s_X12_drop_67 (have c24 := v7.1; have v25 := v7.2; (Exists.intro [vi x1] (Exists.intro 71 (Exists.intro [] (And.intro (And.intro rfl (And.intro rfl (Nat.le_of_ble_eq_true rfl))) (And.intro (lm_71 hL) (Exists.intro 0 (Exists.intro 0 (Exists.intro 0 (Exists.intro _ (And.intro (c_segmentPlace hL c24) (And.intro (And.intro (by decide) (And.intro (Nat.zero_le _) (Nat.zero_le _))) (eQP (show wp mX12_drop 2 rc rs Q 70 [some (vr 71), some (vi x1), some (vi (m_bp h x1)), none] [vi (m_sp h x1)] h from xIc k_X12_drop_70 (And.intro rfl (And.intro (fun c9 => have v11 := v25.1 c9; (show wp mX12_drop 2 rc rs Q 78 [some (vr 71), some (vi x1), some (vi (m_bp h x1)), some (vi (m_sp h x1))] [] h from xI k_X12_drop_78 (And.intro (lm_71 hL) (Exists.intro 595 (And.intro (lf_71_4 hL) (And.intro (lm_71 hL) (Exists.intro 598 (And.intro (lf_71_8 hL) (And.intro (lm_71 hL) (Exists.intro 1137 (And.intro (lf_71_14 hL) (have c13 := v11.1; have v23 := v11.2; (And.intro (sd_idiv (z := 100) (by decide) c13) (have c14 := v23.1; have v22 := v23.2; (And.intro (sdI (lm_1137 hL) c14) (have c15 := v22.1; have v21 := v22.2; (And.intro (sdQ (lm_598 hL) c15) (Exists.intro (599 + (iH h 1137 (((m_sp h x1) / 100).toNat)).toNat) (And.intro (lr_members hL (tnl c15)) (And.intro (sd_irem (z := 100) (by decide) c13) (have c17 := v21.1; have v20 := v21.2; (And.intro (sdI (lk_members hL (tnl c15)) c17) (have c18 := v20.1; have v19 := v20.2; (And.intro (sdZs (lm_595 hL) c18 (Or.inr rfl)) (And.intro rfl v19))))))))))))))))))))))))) (fun c10 => have v12 := v25.2 (Decidable.not_not.mp c10); (show wp mX12_drop 2 rc rs Q 76 [some (vr 71), some (vi x1), some (vi (m_bp h x1)), some (vi (m_sp h x1))] [] h from xI k_X12_drop_76 (And.intro rfl v12))))))))))))))))))))) (fun c6 => have v8 := v30.2 c6; (show wp mX12_drop 2 rc rs Q 21 [some (vr 71), some (vi x1), some (vi (m_bp h x1)), none] [] h from xB k_X12_drop_21 (have c27 := v8.1; have v28 := v8.2; (And.intro c27 (And.intro rfl (w_fg [true, false, false, true] v28)))))))))))))))))))))))) (fun c2 => have v4 := hv.2 (b01_nn.mp c2); (show wp mX12_drop 2 rc rs Q 7 [some (vr 71), some (vi x1), none, none] [] h from xI k_X12_drop_7 (And.intro rfl v4)))))))))))))))))
theorem e_X12_drop {mc ms : Nat} {Q : Option AV → AH → Prop} {h : AH} {x1 : Int} (hL : LayM h) (hv : (((0 ≤ x1 ∧ x1 ≤ 99) → (m_buf h) ∧ (((m_bp h x1) = (-1) → (m_now h) ∧ (((m_sp h x1) ≠ (-1) → (0 ≤ (m_sp h x1) ∧ (m_sp h x1) < 2147483648) ∧ (0 ≤ ((m_sp h x1) / 100) ∧ ((m_sp h x1) / 100) < 8) ∧ (0 ≤ iH h 1137 (((m_sp h x1) / 100).toNat) ∧ iH h 1137 (((m_sp h x1) / 100).toNat) < 520) ∧ (0 ≤ ((m_sp h x1) % 100) ∧ ((m_sp h x1) % 100) < 64) ∧ (0 ≤ iH h (599 + (iH h 1137 (((m_sp h x1) / 100).toNat)).toNat) (((m_sp h x1) % 100).toNat) ∧ iH h (599 + (iH h 1137 (((m_sp h x1) / 100).toNat)).toNat) (((m_sp h x1) % 100).toNat) < 520) ∧ Q (some (vi 1)) (sI h 595 ((iH h (599 + (iH h 1137 (((m_sp h x1) / 100).toNat)).toNat) (((m_sp h x1) % 100).toNat)).toNat) 1)) ∧ ((m_sp h x1) = (-1) → Q (some (vi (-1))) h))) ∧ ((m_bp h x1) ≠ (-1) → (-2147483648 ≤ ((m_bp h x1) + 1) ∧ ((m_bp h x1) + 1) < 2147483648) ∧ wp mX12_drop 2 mc ms Q 25 [some (vr 71), none, none, some (vi ((m_bp h x1) + 1))] [] h))) ∧ (¬ (0 ≤ x1 ∧ x1 ≤ 99) → Q (some (vi (-2))) h))) : Ct 2 mc ms mX12_drop [vr 71, vi x1] h Q := Ct.of (by decide +kernel) (Nat.le_of_ble_eq_true rfl) (t_X12_drop_0 hL hv)
theorem t_X12_drop_25 {rc rs : Nat} {Q : Option AV → AH → Prop} {h : AH} {x3 : Int} (hL : LayM h) (hv : (((iH h 71 15) ≤ x3 → (-2147483648 ≤ (iH h 71 15 - 1) ∧ (iH h 71 15 - 1) < 2147483648) ∧ Q (some (vi 0)) (sI h 71 15 (iH h 71 15 - 1))) ∧ (x3 < (iH h 71 15) → (-2147483648 ≤ (x3 - 1) ∧ (x3 - 1) < 2147483648) ∧ (0 ≤ x3 ∧ x3 < 4) ∧ (0 ≤ (x3 - 1) ∧ (x3 - 1) < 4) ∧ (-2147483648 ≤ (x3 + 1) ∧ (x3 + 1) < 2147483648) ∧ wp mX12_drop 2 rc rs Q 25 [some (vr 71), none, none, some (vi (x3 + 1))] [] (sI h 1138 ((x3 - 1).toNat) (iH h 1138 x3.toNat))))) : wp mX12_drop 2 rc rs Q 25 [some (vr 71), none, none, some (vi x3)] [] h :=
  (show wp mX12_drop 2 rc rs Q 25 [some (vr 71), none, none, some (vi x3)] [] h from xIc k_X12_drop_25 (And.intro (lm_71 hL) (And.intro (fun c1 => have v3 := hv.1 c1; (show wp mX12_drop 2 rc rs Q 53 [some (vr 71), none, none, some (vi x3)] [] h from xI k_X12_drop_53 (And.intro rfl (And.intro (lm_71 hL) (have c5 := v3.1; have v6 := v3.2; (And.intro c5 (And.intro (lm_71 hL) (And.intro rfl v6)))))))) (fun c2 => have v4 := hv.2 (Int.not_le.mp c2); (show wp mX12_drop 2 rc rs Q 33 [some (vr 71), none, none, some (vi x3)] [] h from xGo k_X12_drop_33 (And.intro (lm_71 hL) (Exists.intro 1138 (And.intro (lf_71_16 hL) (have c7 := v4.1; have v14 := v4.2; (And.intro c7 (And.intro (lm_71 hL) (Exists.intro 1138 (And.intro (lf_71_16 hL) (have c8 := v14.1; have v13 := v14.2; (And.intro (sdI (lm_1138 hL) c8) (have c9 := v13.1; have v12 := v13.2; (And.intro (sdI (lm_1138 hL) c9) (have c10 := v12.1; have v11 := v12.2; (And.intro c10 (And.intro rfl v11))))))))))))))))))))
def b_X12_newSegment_0 : List IE := [(.aload_n 0, 1, 0, 0, 0, 0), (.getfield 25, 3, 0, 12, 6, 1), (.aload_n 0, 1, 0, 0, 0, 0), (.getfield 168, 3, 0, 12, 5, 0), (.aload_n 0, 1, 0, 0, 0, 0), (.getfield 168, 3, 0, 12, 5, 0), (.iconst 1, 1, 1, 0, 0, 0), (.iadd, 1, 0, 0, 0, 0), (.iastore, 1, 0, 0, 0, 0), (.aload_n 0, 1, 0, 0, 0, 0), (.getfield 28, 3, 0, 12, 7, 1), (.aload_n 0, 1, 0, 0, 0, 0), (.getfield 168, 3, 0, 12, 5, 0), (.iconst 0, 1, 0, 0, 0, 0), (.iastore, 1, 0, 0, 0, 0), (.aload_n 0, 1, 0, 0, 0, 0), (.dup, 1, 0, 0, 0, 0), (.getfield 168, 3, 0, 12, 5, 0), (.iconst 1, 1, 1, 0, 0, 0), (.iadd, 1, 0, 0, 0, 0), (.putfield 168, 3, 0, 12, 5, 0), (.aload_n 0, 1, 0, 0, 0, 0), (.getfield 168, 3, 0, 12, 5, 0), (.iconst 1, 1, 1, 0, 0, 0), (.isub, 1, 0, 0, 0, 0)]
theorem k_X12_newSegment_0 : ckI mX12_newSegment 12 0 b_X12_newSegment_0 41 = true := by decide +kernel
theorem t_X12_newSegment_0 {rc rs : Nat} {Q : Option AV → AH → Prop} {h : AH}  (hL : LayM h) (hv : (-2147483648 ≤ (iH h 71 5 + 1) ∧ (iH h 71 5 + 1) < 2147483648) ∧ (0 ≤ iH h 71 5 ∧ iH h 71 5 < 520) ∧ (-2147483648 ≤ ((iH h 71 5 + 1) - 1) ∧ ((iH h 71 5 + 1) - 1) < 2147483648) ∧ Q (some (vi ((iH h 71 5 + 1) - 1))) (sI (sI (sI h 596 ((iH h 71 5).toNat) (iH h 71 5 + 1)) 597 ((iH h 71 5).toNat) 0) 71 5 (iH h 71 5 + 1))) : wp mX12_newSegment 0 rc rs Q 0 [some (vr 71)] [] h :=
  (show wp mX12_newSegment 0 rc rs Q 0 [some (vr 71)] [] h from xI k_X12_newSegment_0 (And.intro (lm_71 hL) (Exists.intro 596 (And.intro (lf_71_6 hL) (And.intro (lm_71 hL) (And.intro (lm_71 hL) (have c1 := hv.1; have v8 := hv.2; (And.intro c1 (have c2 := v8.1; have v7 := v8.2; (And.intro (sdI (lm_596 hL) c2) (And.intro (lm_71 hL) (Exists.intro 597 (And.intro (lf_71_7 hL) (And.intro (lm_71 hL) (And.intro (sdI (lm_597 hL) c2) (And.intro rfl (And.intro (lm_71 hL) (And.intro c1 (And.intro (lm_71 hL) (And.intro (lm_71 hL) (have c5 := v7.1; have v6 := v7.2; (And.intro c5 (And.intro rfl v6)))))))))))))))))))))))
theorem e_X12_newSegment {mc ms : Nat} {Q : Option AV → AH → Prop} {h : AH}  (hL : LayM h) (hv : (-2147483648 ≤ (iH h 71 5 + 1) ∧ (iH h 71 5 + 1) < 2147483648) ∧ (0 ≤ iH h 71 5 ∧ iH h 71 5 < 520) ∧ (-2147483648 ≤ ((iH h 71 5 + 1) - 1) ∧ ((iH h 71 5 + 1) - 1) < 2147483648) ∧ Q (some (vi ((iH h 71 5 + 1) - 1))) (sI (sI (sI h 596 ((iH h 71 5).toNat) (iH h 71 5 + 1)) 597 ((iH h 71 5).toNat) 0) 71 5 (iH h 71 5 + 1))) : Ct 0 mc ms mX12_newSegment [vr 71] h Q := Ct.of (by decide +kernel) (Nat.le_of_ble_eq_true rfl) (t_X12_newSegment_0 hL hv)
def b_X12_joins_0 : List IE := [(.aload_n 0, 1, 0, 0, 0, 0), (.getfield 31, 3, 0, 12, 8, 1), (.iload_n 1, 1, 0, 0, 1, 0), (.aaload, 1, 0, 0, 0, 0), (.aload_n 0, 1, 0, 0, 0, 0), (.getfield 28, 3, 0, 12, 7, 1), (.iload_n 1, 1, 0, 0, 1, 0), (.iaload, 1, 0, 0, 0, 0), (.iload_n 2, 1, 0, 0, 2, 0), (.iastore, 1, 0, 0, 0, 0), (.aload_n 0, 1, 0, 0, 0, 0), (.getfield 28, 3, 0, 12, 7, 1), (.iload_n 1, 1, 0, 0, 1, 0), (.dup2, 1, 0, 0, 0, 0), (.iaload, 1, 0, 0, 0, 0), (.iconst 1, 1, 1, 0, 0, 0), (.iadd, 1, 0, 0, 0, 0), (.iastore, 1, 0, 0, 0, 0)]
theorem k_X12_joins_0 : ckV mX12_joins 12 0 b_X12_joins_0 24 = true := by decide +kernel
theorem t_X12_joins_0 {rc rs : Nat} {Q : Option AV → AH → Prop} {h : AH} {x1 x2 : Int} (hL : LayM h) (hv : (0 ≤ x1 ∧ x1 < 520) ∧ (0 ≤ iH h 597 x1.toNat ∧ iH h 597 x1.toNat < 64) ∧ (-2147483648 ≤ (iH (sI h (599 + x1.toNat) ((iH h 597 x1.toNat).toNat) x2) 597 x1.toNat + 1) ∧ (iH (sI h (599 + x1.toNat) ((iH h 597 x1.toNat).toNat) x2) 597 x1.toNat + 1) < 2147483648) ∧ Q none (sI (sI h (599 + x1.toNat) ((iH h 597 x1.toNat).toNat) x2) 597 x1.toNat (iH (sI h (599 + x1.toNat) ((iH h 597 x1.toNat).toNat) x2) 597 x1.toNat + 1))) : wp mX12_joins 0 rc rs Q 0 [some (vr 71), some (vi x1), some (vi x2)] [] h :=
  (show wp mX12_joins 0 rc rs Q 0 [some (vr 71), some (vi x1), some (vi x2)] [] h from xV k_X12_joins_0 (And.intro (lm_71 hL) (Exists.intro 598 (And.intro (lf_71_8 hL) (have c1 := hv.1; have v9 := hv.2; (And.intro (sdQ (lm_598 hL) c1) (Exists.intro (599 + x1.toNat) (And.intro (lr_members hL (tnl c1)) (And.intro (lm_71 hL) (Exists.intro 597 (And.intro (lf_71_7 hL) (And.intro (sdI (lm_597 hL) c1) (have c3 := v9.1; have v8 := v9.2; (And.intro (sdI (lk_members hL (tnl c1)) c3) (And.intro (lm_71 hL) (Exists.intro 597 (And.intro (lf_71_7 hL) (And.intro rfl (And.intro rfl (And.intro (sdI (lm_597 hL) c1) (have c5 := v8.1; have v7 := v8.2; (And.intro c5 (And.intro (sdI (lm_597 hL) c1) (And.intro rfl v7))))))))))))))))))))))))
theorem e_X12_joins {mc ms : Nat} {Q : Option AV → AH → Prop} {h : AH} {x1 x2 : Int} (hL : LayM h) (hv : (0 ≤ x1 ∧ x1 < 520) ∧ (0 ≤ iH h 597 x1.toNat ∧ iH h 597 x1.toNat < 64) ∧ (-2147483648 ≤ (iH (sI h (599 + x1.toNat) ((iH h 597 x1.toNat).toNat) x2) 597 x1.toNat + 1) ∧ (iH (sI h (599 + x1.toNat) ((iH h 597 x1.toNat).toNat) x2) 597 x1.toNat + 1) < 2147483648) ∧ Q none (sI (sI h (599 + x1.toNat) ((iH h 597 x1.toNat).toNat) x2) 597 x1.toNat (iH (sI h (599 + x1.toNat) ((iH h 597 x1.toNat).toNat) x2) 597 x1.toNat + 1))) : Ct 0 mc ms mX12_joins [vr 71, vi x1, vi x2] h Q := Ct.of (by decide +kernel) (Nat.le_of_ble_eq_true rfl) (t_X12_joins_0 hL hv)
noncomputable def m_shf (h : AH) (p k : Nat) : Int := if p ≤ k ∧ ((k : Int) + 1 < iH h 71 15) then iH h 1138 (k + 1) else iH h 1138 k
/-- where who is live with a key is dropped -/
noncomputable def m_dropD (h : AH) (key : Int) : Nat := (iH h (599 + (iH h 1137 (m_sp h key / 100).toNat).toNat) (m_sp h key % 100).toNat).toNat
noncomputable def m_drop (h : AH) (key : Int) : AH := if m_bp h key ≠ -1 then sI (sW h 1138 (m_shf h (m_bp h key).toNat)) 71 15 (iH h 71 15 - 1) else if m_sp h key ≠ -1 then sI h 595 (m_dropD h key) 1 else h
noncomputable def a_drop (h : AH) (key : Int) : Int := if m_bp h key ≠ -1 then 0 else if m_sp h key ≠ -1 then 1 else -1
theorem LayM_if {p : Prop} {dp : Decidable p} {a b : AH} (ha : LayM a) (hb : LayM b) : LayM (@ite _ p dp a b) := by
  cases dp with
  | isTrue _ => exact ha
  | isFalse _ => exact hb
theorem m_drop_L {h : AH} (hL : LayM h) (key : Int) : LayM (m_drop h key) := LayM_if (by exact hL) (LayM_if (by exact hL) hL)
theorem m_sp_cs {h : AH} (hn : m_now h) (key : Int) : (m_sp h key = -1 ∧ ∀ s : Nat, (s : Int) < iH h 71 13 → ∀ k : Nat, (k : Int) < iH h 597 (iH h 1137 s).toNat → ¬ m_spP h key (iH h 1137 s) k) ∨ ∃ s k : Nat, (s : Int) < iH h 71 13 ∧ (k : Int) < iH h 597 (iH h 1137 s).toNat ∧ m_sp h key = 100 * (s : Int) + (k : Int) ∧ k < 64 ∧ s < 8 ∧ m_spP h key (iH h 1137 s) k ∧ (∀ j, j < k → ¬ m_spP h key (iH h 1137 s) j) ∧ (∀ t : Nat, t < s → ∀ j : Nat, (j : Int) < iH h 597 (iH h 1137 t).toNat → ¬ m_spP h key (iH h 1137 t) j) := by
  have none1 : ∀ s : Nat, ¬ m_sp1 h key s ≠ -1 → ∀ j : Nat, (j : Int) < iH h 597 (iH h 1137 s).toNat → ¬ m_spP h key (iH h 1137 s) j := by
    intro s hs j hj hp
    rcases fst_cs (m_spP h key (iH h 1137 s)) (iH h 597 (iH h 1137 s).toNat).toNat with ⟨-, q⟩ | ⟨k, -, q, -⟩
    · exact q j (by omega) hp
    · have : m_sp1 h key s = k := q
      omega
  have hl := hn.1
  rcases fst_cs (fun s => m_sp1 h key s ≠ -1) (iH h 71 13).toNat with ⟨e, q⟩ | ⟨s, hs, e, q, q2⟩
  · refine Or.inl ⟨if_pos e, fun s hs k hk => none1 s (q s (by omega)) k hk⟩
  · rcases fst_cs (m_spP h key (iH h 1137 s)) (iH h 597 (iH h 1137 s).toNat).toNat with ⟨r, -⟩ | ⟨k, hk, r, r2, r3⟩
    · exact absurd r q
    · have hg := hn.2 s (by omega)
      have hg2 := hg.2.1
      refine Or.inr ⟨s, k, by omega, by omega, ?_, by omega, by omega, r2, r3, fun t ht j hj => none1 t (q2 t ht) j hj⟩
      have e' : m_sps h key = s := e
      have r' : m_sp1 h key s = k := r
      unfold m_sp
      rw [e', if_neg (by omega), show ((s : Int)).toNat = s from rfl, r']
theorem c_drop {h : AH} (hL : LayM h) {key : Int} (hp : m_buf h ∧ m_now h) : Ct 2 0 0 mX12_drop [vr 71, vi key] h (QI fun x h' => (¬ (0 ≤ key ∧ key ≤ 99) ∧ x = -2 ∧ h' = h) ∨ ((0 ≤ key ∧ key ≤ 99) ∧ x = a_drop h key ∧ h' = m_drop h key)) := by
  obtain ⟨hb, hn⟩ := hp
  have h1 := hb.1
  have h2 := m_bp_bd (key := key) hb
  refine e_X12_drop hL ⟨fun c => ⟨hb, fun c2 => ⟨hn, fun c3 => ?_, fun c3 => ⟨_, rfl, Or.inr ⟨c, ?_, ?_⟩⟩⟩, fun c2 => ⟨by omega, ?_⟩⟩, fun c => ⟨_, rfl, Or.inl ⟨c, rfl, rfl⟩⟩⟩
  · rcases m_sp_cs hn key with ⟨e, -⟩ | ⟨s, k, hs, hk, e, k64, s8, -⟩
    · exact absurd e c3
    · have hg := hn.2 s hs
      have d1 : m_sp h key / 100 = s := by omega
      have d2 : m_sp h key % 100 = k := by omega
      have hm := hg.2.2 k hk
      refine ⟨by omega, by omega, ?_, by omega, ?_, _, rfl, Or.inr ⟨c, ?_, ?_⟩⟩
      · rw [d1]; exact hg.1
      · rw [d1, d2]; exact hm
      · unfold a_drop; rw [if_neg (by omega), if_pos c3]
      · unfold m_drop; rw [if_neg (by omega), if_pos c3]; rfl
  · unfold a_drop; rw [if_neg (by omega), if_neg (by omega)]
  · unfold m_drop; rw [if_neg (by omega), if_neg (by omega)]
  · rcases fst_cs (m_bufP h key) (iH h 71 15).toNat with ⟨e, -⟩ | ⟨p, hp, e, -⟩
    · exact absurd e c2
    · have e' : m_bp h key = p := e
      have r1 : a_drop h key = 0 := if_pos c2
      have r2 : m_drop h key = sI (sW h 1138 (m_shf h p)) 71 15 (iH h 71 15 - 1) := by unfold m_drop; rw [if_pos c2, e']; rfl
      rw [r1, r2, e']
      have e0 : h = sW h 1138 (fun k => if p ≤ k ∧ k + 1 < p + 1 then iH h 1138 (k + 1) else iH h 1138 k) := (sW_id fun k => by rw [if_neg (by omega)]).symm
      have main : wp mX12_drop 2 0 0 (QI fun x h' => (¬ (0 ≤ key ∧ key ≤ 99) ∧ x = -2 ∧ h' = h) ∨ ((0 ≤ key ∧ key ≤ 99) ∧ x = 0 ∧ h' = sI (sW h 1138 (m_shf h p)) 71 15 (iH h 71 15 - 1))) 25 [some (vr 71), none, none, some (vi ((p : Int) + 1 + ((0 : Nat) : Int)))] [] (sW h 1138 (fun k => if p ≤ k ∧ k + 1 < p + 1 + 0 then iH h 1138 (k + 1) else iH h 1138 k)) := by
        refine up (P := fun j => wp mX12_drop 2 _ _ _ 25 [some (vr 71), none, none, some (vi ((p : Int) + 1 + (j : Int)))] [] (sW h 1138 (fun k => if p ≤ k ∧ k + 1 < p + 1 + j then iH h 1138 (k + 1) else iH h 1138 k))) (iH h 71 15 - (p : Int) - 1).toNat ?_ ?_
        · refine t_X12_drop_25 hL ?_
          rw [rW_ne (by decide)]
          refine ⟨fun _ => ⟨by omega, _, rfl, Or.inr ⟨c, rfl, ?_⟩⟩, fun q => absurd q (by omega)⟩
          congr 1
          refine sW_ext fun k => ?_
          unfold m_shf
          by_cases q : p ≤ k ∧ k + 1 < p + 1 + (iH h 71 15 - (p : Int) - 1).toNat
          · rw [if_pos q, if_pos (by omega)]
          · rw [if_neg q, if_neg (by omega)]
        · intro j hj ih
          refine t_X12_drop_25 hL ?_
          rw [rW_ne (by decide), rW_same]
          refine ⟨fun q => absurd q (by omega), fun _ => ⟨by omega, by omega, by omega, by omega, ?_⟩⟩
          rw [sI_sW (g' := fun k => if p ≤ k ∧ k + 1 < p + 1 + (j + 1) then iH h 1138 (k + 1) else iH h 1138 k) (fun k => by
            by_cases q : k = ((p : Int) + 1 + (j : Int) - 1).toNat
            · rw [if_pos q, if_pos (by omega), if_neg (by omega)]; congr 1; omega
            · rw [if_neg q]
              by_cases q2 : p ≤ k ∧ k + 1 < p + 1 + j
              · rw [if_pos q2, if_pos (by omega)]
              · rw [if_neg q2, if_neg (by omega)])]
          rw [show (p : Int) + 1 + (j : Int) + 1 = (p : Int) + 1 + ((j + 1 : Nat) : Int) by omega]
          exact ih
      rw [show (p : Int) + 1 + ((0 : Nat) : Int) = (p : Int) + 1 by omega, show p + 1 + 0 = p + 1 from rfl, ← e0] at main
      exact main
def m_nseg (h : AH) : AH := sI (sI (sI h 596 (iH h 71 5).toNat (iH h 71 5 + 1)) 597 (iH h 71 5).toNat 0) 71 5 (iH h 71 5 + 1)
theorem c_newSegment {h : AH} (hL : LayM h) (hp : 0 ≤ iH h 71 5 ∧ iH h 71 5 < 520) : Ct 0 0 0 mX12_newSegment [vr 71] h (QI fun x h' => x = iH h 71 5 ∧ h' = m_nseg h) :=
  e_X12_newSegment hL ⟨by omega, hp, by omega, _, rfl, by omega, rfl⟩
def m_join (h : AH) (g d : Int) : AH := sI (sI h (599 + g.toNat) (iH h 597 g.toNat).toNat d) 597 g.toNat (iH h 597 g.toNat + 1)
theorem c_joins {h : AH} (hL : LayM h) {g d : Int} (hp : (0 ≤ g ∧ g < 520) ∧ (0 ≤ iH h 597 g.toNat ∧ iH h 597 g.toNat < 64)) : Ct 0 0 0 mX12_joins [vr 71, vi g, vi d] h (QV fun h' => h' = m_join h g d) := by
  have e : iH (sI h (599 + g.toNat) (iH h 597 g.toNat).toNat d) 597 g.toNat = iH h 597 g.toNat := rI_ne (by omega)
  refine e_X12_joins hL ?_
  rw [e]
  exact ⟨hp.1, hp.2, by omega, rfl, rfl⟩
end
section
/-! THE REFERENCE: SEGMENTS, STANDS -/
theorem orI_b (p q : Prop) : orI (b01 p) (b01 q) = b01 (p ∨ q) := by
  rcases b01_01 q with e | e
  · rw [e, orI_0 (b01_01 p), show (p ∨ q) = p from propext ⟨fun r => r.elim id fun r => absurd r (b01_n.mp e), Or.inl⟩]
  · rw [e, orI_1 (b01_01 p)]
    refine (b01_t (Or.inr ?_)).symm
    exact b01_p.mp (by omega)
def m_fill (A : AH) (g : Int) (M : Nat → Int) (j : Int) : AH := sI (sW A (599 + g.toNat) M) 597 g.toNat j
theorem m_join_fill {A : AH} {g d : Int} {M M' : Nat → Int} {j : Nat} (hg : g.toNat < 520) (e : ∀ k, M' k = if k = j then d else M k) : m_join (m_fill A g M j) g d = m_fill A g M' ((j : Int) + 1) := by
  have e1 : iH (m_fill A g M j) 597 g.toNat = (j : Int) := rI_same
  unfold m_join
  rw [e1]
  unfold m_fill
  rw [sI_sI_ne (b := 599 + g.toNat) (by omega), sI_sI, show ((j : Int)).toNat = j from rfl, sI_sW e]
/-- a new segment, with nothing said of its length -/
def m_ns0 (h : AH) : AH := sI (sI h 596 (iH h 71 5).toNat (iH h 71 5 + 1)) 71 5 (iH h 71 5 + 1)
theorem m_nseg_fill (h : AH) {M : Nat → Int} (hg : (iH h 71 5).toNat < 520) (e : ∀ k, M k = iH h (599 + (iH h 71 5).toNat) k) : m_nseg h = m_fill (m_ns0 h) (iH h 71 5) M ((0 : Nat) : Int) := by
  unfold m_fill
  rw [sW_id (fun k => by
    rw [e]
    unfold m_ns0
    rw [rI_ne (by omega), rI_ne (by omega)])]
  unfold m_nseg m_ns0
  rw [sI_sI_ne (a := 597) (b := 71) (by decide)]
  rfl
def b_X12_flush_0 : List IE := [(.aload_n 0, 1, 0, 0, 0, 0), (.getfield 140, 3, 0, 12, 15, 0)]
theorem k_X12_flush_0 : ckIf mX12_flush 12 0 b_X12_flush_0 4 1 6 10 7 = true := by decide +kernel
def b_X12_flush_7 : List IE := [(.bipush (-3), 2, (-3), 0, 0, 0)]
theorem k_X12_flush_7 : ckI mX12_flush 12 7 b_X12_flush_7 9 = true := by decide +kernel
def b_X12_flush_10 : List IE := [(.aload_n 0, 1, 0, 0, 0, 0), (.getfield 106, 3, 0, 12, 13, 0), (.bipush 8, 2, 8, 0, 0, 0)]
theorem k_X12_flush_10 : ckIc mX12_flush 12 10 b_X12_flush_10 16 0 17 33 19 = true := by decide +kernel
def b_X12_flush_19 : List IE := [(.aload_n 0, 1, 0, 0, 0, 0)]
theorem k_X12_flush_19 : ckB mX12_flush 12 19 b_X12_flush_19 20 = true := by decide +kernel
def b_X12_flush_23 : List IE := [(.aload_n 0, 1, 0, 0, 0, 0), (.getfield 140, 3, 0, 12, 15, 0), (.iadd, 1, 0, 0, 0, 0), (.bipush 64, 2, 64, 0, 0, 0)]
theorem k_X12_flush_23 : ckIc mX12_flush 12 23 b_X12_flush_23 30 5 6 36 33 = true := by decide +kernel
def b_X12_flush_33 : List IE := [(.bipush (-4), 2, (-4), 0, 0, 0)]
theorem k_X12_flush_33 : ckI mX12_flush 12 33 b_X12_flush_33 35 = true := by decide +kernel
def b_X12_flush_36 : List IE := [(.aload_n 0, 1, 0, 0, 0, 0)]
theorem k_X12_flush_36 : ckB mX12_flush 12 36 b_X12_flush_36 37 = true := by decide +kernel
def b_X12_flush_40 : List IE := [(.istore_n 1, 1, 0, 0, 1, 0), (.iconst 0, 1, 0, 0, 0, 0), (.istore_n 2, 1, 0, 0, 2, 0)]
theorem k_X12_flush_40 : ckB mX12_flush 12 40 b_X12_flush_40 43 = true := by decide +kernel
def b_X12_flush_43 : List IE := [(.iload_n 2, 1, 0, 0, 2, 0), (.aload_n 0, 1, 0, 0, 0, 0), (.getfield 140, 3, 0, 12, 15, 0)]
theorem k_X12_flush_43 : ckIc mX12_flush 12 43 b_X12_flush_43 48 3 20 68 51 = true := by decide +kernel
def b_X12_flush_51 : List IE := [(.aload_n 0, 1, 0, 0, 0, 0), (.iload_n 1, 1, 0, 0, 1, 0), (.aload_n 0, 1, 0, 0, 0, 0), (.getfield 51, 3, 0, 12, 16, 1), (.iload_n 2, 1, 0, 0, 2, 0), (.iaload, 1, 0, 0, 0, 0)]
theorem k_X12_flush_51 : ckB mX12_flush 12 51 b_X12_flush_51 59 = true := by decide +kernel
def b_X12_flush_62 : List IE := [(.iinc 2 1, 3, 1, 0, 2, 0)]
theorem k_X12_flush_62 : ckGo mX12_flush 12 62 b_X12_flush_62 65 (-22) 43 = true := by decide +kernel
def b_X12_flush_68 : List IE := [(.aload_n 0, 1, 0, 0, 0, 0), (.iconst 0, 1, 0, 0, 0, 0), (.putfield 140, 3, 0, 12, 15, 0), (.aload_n 0, 1, 0, 0, 0, 0), (.getfield 48, 3, 0, 12, 14, 1), (.aload_n 0, 1, 0, 0, 0, 0), (.getfield 106, 3, 0, 12, 13, 0), (.iload_n 1, 1, 0, 0, 1, 0), (.iastore, 1, 0, 0, 0, 0), (.aload_n 0, 1, 0, 0, 0, 0), (.dup, 1, 0, 0, 0, 0), (.getfield 106, 3, 0, 12, 13, 0), (.iconst 1, 1, 1, 0, 0, 0), (.iadd, 1, 0, 0, 0, 0), (.putfield 106, 3, 0, 12, 13, 0), (.aload_n 0, 1, 0, 0, 0, 0), (.getfield 25, 3, 0, 12, 6, 1), (.iload_n 1, 1, 0, 0, 1, 0), (.iaload, 1, 0, 0, 0, 0)]
theorem k_X12_flush_68 : ckI mX12_flush 12 68 b_X12_flush_68 99 = true := by decide +kernel
theorem s_X12_flush_20 : cV mX12_flush 20 mX12_held 171 0 12 := ⟨by decide +kernel, ⟨ml_X12_held, li_RX12_171, im_X12_held, se_X12_held⟩, ⟨by decide +kernel, by decide +kernel⟩, by decide +kernel⟩
theorem s_X12_flush_37 : cV mX12_flush 37 mX12_newSegment 174 0 12 := ⟨by decide +kernel, ⟨ml_X12_newSegment, li_RX12_174, im_X12_newSegment, se_X12_newSegment⟩, ⟨by decide +kernel, by decide +kernel⟩, by decide +kernel⟩
theorem s_X12_flush_59 : cV mX12_flush 59 mX12_joins 177 2 12 := ⟨by decide +kernel, ⟨ml_X12_joins, li_RX12_177, im_X12_joins, se_X12_joins⟩, ⟨by decide +kernel, by decide +kernel⟩, by decide +kernel⟩
theorem t_X12_flush_0 {rc rs : Nat} {Q : Option AV → AH → Prop} {h : AH}  (hL : LayM h) (hv : (((iH h 71 15) ≠ 0 → (((iH h 71 13) = 8 → Q (some (vi (-4))) h) ∧ ((iH h 71 13) ≠ 8 → (m_now h) ∧ (-2147483648 ≤ ((m_held h) + iH h 71 15) ∧ ((m_held h) + iH h 71 15) < 2147483648) ∧ ((((m_held h) + iH h 71 15) ≤ 64 → (0 ≤ iH h 71 5 ∧ iH h 71 5 < 520) ∧ LayM (m_nseg h) ∧ wp mX12_flush 1 rc rs Q 43 [some (vr 71), some (vi (iH h 71 5)), some (vi 0)] [] (m_nseg h)) ∧ (64 < ((m_held h) + iH h 71 15) → Q (some (vi (-4))) h))))) ∧ ((iH h 71 15) = 0 → Q (some (vi (-3))) h))) : wp mX12_flush 1 rc rs Q 0 [some (vr 71), none, none] [] h :=
  (show wp mX12_flush 1 rc rs Q 0 [some (vr 71), none, none] [] h from xIf k_X12_flush_0 (And.intro (lm_71 hL) (And.intro (fun c1 => have v3 := hv.1 c1; (show wp mX12_flush 1 rc rs Q 10 [some (vr 71), none, none] [] h from xIc k_X12_flush_10 (And.intro (lm_71 hL) (And.intro (fun c5 => have v7 := v3.1 c5; (show wp mX12_flush 1 rc rs Q 33 [some (vr 71), none, none] [] h from xI k_X12_flush_33 (And.intro rfl v7))) (fun c6 => have v8 := v3.2 c6; (show wp mX12_flush 1 rc rs Q 19 [some (vr 71), none, none] [] h from xcV k_X12_flush_19 s_X12_flush_20 (have c21 := v8.1; have v22 := v8.2; (Exists.intro [] (Exists.intro 71 (Exists.intro [] (And.intro (And.intro rfl (And.intro rfl (Nat.le_of_ble_eq_true rfl))) (And.intro (lm_71 hL) (Exists.intro 0 (Exists.intro 0 (Exists.intro 0 (Exists.intro _ (And.intro (c_held hL c21) (And.intro (And.intro (by decide) (And.intro (Nat.zero_le _) (Nat.zero_le _))) (eQP (show wp mX12_flush 1 rc rs Q 23 [some (vr 71), none, none] [vi (m_held h)] h from xIc k_X12_flush_23 (And.intro (lm_71 hL) (have c9 := v22.1; have v20 := v22.2; (And.intro c9 (And.intro (fun c10 => have v12 := v20.1 c10; (show wp mX12_flush 1 rc rs Q 36 [some (vr 71), none, none] [] h from xcV k_X12_flush_36 s_X12_flush_37 (have c18 := v12.1; have v19 := v12.2; (Exists.intro [] (Exists.intro 71 (Exists.intro [] (And.intro (And.intro rfl (And.intro rfl (Nat.le_of_ble_eq_true rfl))) (And.intro (lm_71 hL) (Exists.intro 0 (Exists.intro 0 (Exists.intro 0 (Exists.intro _ (And.intro (c_newSegment hL c18) (And.intro (And.intro (by decide) (And.intro (Nat.zero_le _) (Nat.zero_le _))) (eQP (have hL := v19.1; have v17 := v19.2; (show wp mX12_flush 1 rc rs Q 40 [some (vr 71), none, none] [vi (iH h 71 5)] (m_nseg h) from xB k_X12_flush_40 (And.intro rfl (And.intro rfl v17))))))))))))))))))) (fun c11 => have v13 := v20.2 (Int.not_le.mp c11); (show wp mX12_flush 1 rc rs Q 33 [some (vr 71), none, none] [] h from xI k_X12_flush_33 (And.intro rfl v13))))))))))))))))))))))))))) (fun c2 => have v4 := hv.2 (Decidable.not_not.mp c2); (show wp mX12_flush 1 rc rs Q 7 [some (vr 71), none, none] [] h from xI k_X12_flush_7 (And.intro rfl v4))))))
theorem e_X12_flush {mc ms : Nat} {Q : Option AV → AH → Prop} {h : AH}  (hL : LayM h) (hv : (((iH h 71 15) ≠ 0 → (((iH h 71 13) = 8 → Q (some (vi (-4))) h) ∧ ((iH h 71 13) ≠ 8 → (m_now h) ∧ (-2147483648 ≤ ((m_held h) + iH h 71 15) ∧ ((m_held h) + iH h 71 15) < 2147483648) ∧ ((((m_held h) + iH h 71 15) ≤ 64 → (0 ≤ iH h 71 5 ∧ iH h 71 5 < 520) ∧ LayM (m_nseg h) ∧ wp mX12_flush 1 mc ms Q 43 [some (vr 71), some (vi (iH h 71 5)), some (vi 0)] [] (m_nseg h)) ∧ (64 < ((m_held h) + iH h 71 15) → Q (some (vi (-4))) h))))) ∧ ((iH h 71 15) = 0 → Q (some (vi (-3))) h))) : Ct 1 mc ms mX12_flush [vr 71] h Q := Ct.of (by decide +kernel) (Nat.le_of_ble_eq_true rfl) (t_X12_flush_0 hL hv)
theorem t_X12_flush_43 {rc rs : Nat} {Q : Option AV → AH → Prop} {h : AH} {x1 x2 : Int} (hL : LayM h) (hv : (((iH h 71 15) ≤ x2 → (0 ≤ iH h 71 13 ∧ iH h 71 13 < 8) ∧ (-2147483648 ≤ (iH h 71 13 + 1) ∧ (iH h 71 13 + 1) < 2147483648) ∧ (0 ≤ x1 ∧ x1 < 520) ∧ Q (some (vi (iH h 596 x1.toNat))) (sI (sI (sI h 71 15 0) 1137 ((iH h 71 13).toNat) x1) 71 13 (iH h 71 13 + 1))) ∧ (x2 < (iH h 71 15) → (0 ≤ x2 ∧ x2 < 4) ∧ ((0 ≤ x1 ∧ x1 < 520) ∧ (0 ≤ iH h 597 (x1).toNat ∧ iH h 597 (x1).toNat < 64)) ∧ LayM (m_join h x1 (iH h 1138 x2.toNat)) ∧ (-2147483648 ≤ (x2 + 1) ∧ (x2 + 1) < 2147483648) ∧ wp mX12_flush 1 rc rs Q 43 [some (vr 71), some (vi x1), some (vi (x2 + 1))] [] (m_join h x1 (iH h 1138 x2.toNat))))) : wp mX12_flush 1 rc rs Q 43 [some (vr 71), some (vi x1), some (vi x2)] [] h :=
  (show wp mX12_flush 1 rc rs Q 43 [some (vr 71), some (vi x1), some (vi x2)] [] h from xIc k_X12_flush_43 (And.intro (lm_71 hL) (And.intro (fun c1 => have v3 := hv.1 c1; (show wp mX12_flush 1 rc rs Q 68 [some (vr 71), some (vi x1), some (vi x2)] [] h from xI k_X12_flush_68 (And.intro (lm_71 hL) (And.intro (lm_71 hL) (Exists.intro 1137 (And.intro (lf_71_14 hL) (And.intro (lm_71 hL) (have c5 := v3.1; have v10 := v3.2; (And.intro (sdI (lm_1137 hL) c5) (And.intro rfl (And.intro (lm_71 hL) (have c6 := v10.1; have v9 := v10.2; (And.intro c6 (And.intro (lm_71 hL) (And.intro (lm_71 hL) (Exists.intro 596 (And.intro (lf_71_6 hL) (have c7 := v9.1; have v8 := v9.2; (And.intro (sdI (lm_596 hL) c7) (And.intro rfl v8)))))))))))))))))))) (fun c2 => have v4 := hv.2 (Int.not_le.mp c2); (show wp mX12_flush 1 rc rs Q 51 [some (vr 71), some (vi x1), some (vi x2)] [] h from xcV k_X12_flush_51 s_X12_flush_59 (And.intro (lm_71 hL) (Exists.intro 1138 (And.intro (lf_71_16 hL) (have c11 := v4.1; have v20 := v4.2; (And.intro (sdI (lm_1138 hL) c11) (have c18 := v20.1; have v19 := v20.2; (Exists.intro [vi x1, vi (iH h 1138 x2.toNat)] (Exists.intro 71 (Exists.intro [] (And.intro (And.intro rfl (And.intro rfl (Nat.le_of_ble_eq_true rfl))) (And.intro (lm_71 hL) (Exists.intro 0 (Exists.intro 0 (Exists.intro 0 (Exists.intro _ (And.intro (c_joins hL c18) (And.intro (And.intro (by decide) (And.intro (Nat.zero_le _) (Nat.zero_le _))) (eQPV (have hL := v19.1; have v15 := v19.2; (show wp mX12_flush 1 rc rs Q 62 [some (vr 71), some (vi x1), some (vi x2)] [] (m_join h x1 (iH h 1138 x2.toNat)) from xGo k_X12_flush_62 (have c16 := v15.1; have v17 := v15.2; (And.intro c16 (And.intro rfl v17))))))))))))))))))))))))))))
def m_flM (h : AH) (j k : Nat) : Int := if k < j then iH h 1138 k else iH h (599 + (iH h 71 5).toNat) k
def m_flush (h : AH) : AH := sI (sI (sI (m_fill (m_ns0 h) (iH h 71 5) (m_flM h (iH h 71 15).toNat) (iH h 71 15)) 71 15 0) 1137 (iH h 71 13).toNat (iH h 71 5)) 71 13 (iH h 71 13 + 1)
def p_flush (h : AH) (x : Int) (h' : AH) : Prop := (iH h 71 15 = 0 ∧ x = -3 ∧ h' = h) ∨ (iH h 71 15 ≠ 0 ∧ (iH h 71 13 = 8 ∨ 64 < m_held h + iH h 71 15) ∧ x = -4 ∧ h' = h) ∨ (iH h 71 15 ≠ 0 ∧ iH h 71 13 < 8 ∧ m_held h + iH h 71 15 ≤ 64 ∧ x = iH h 71 5 + 1 ∧ h' = m_flush h)
theorem m_held_bd {h : AH} (hn : m_now h) : 0 ≤ m_held h ∧ m_held h ≤ 512 := by
  have h1 := hn.1
  have hb := sumN_bd (fun s => iH h 597 (iH h 1137 s).toNat) 64 (by omega) (iH h 71 13).toNat (fun j hj => (hn.2 j (by omega)).2.1)
  unfold m_held; omega
theorem c_flush {h : AH} (hL : LayM h) (hn : m_now h) (hb : 0 ≤ iH h 71 15 ∧ iH h 71 15 ≤ 4) (hs : 0 ≤ iH h 71 5 ∧ iH h 71 5 < 520) : Ct 1 0 0 mX12_flush [vr 71] h (QI (p_flush h)) := by
  have h1 := hn.1
  have h2 := m_held_bd hn
  refine e_X12_flush hL ⟨fun c => ⟨fun c2 => ⟨_, rfl, Or.inr (Or.inl ⟨c, Or.inl c2, rfl, rfl⟩)⟩, fun c2 => ⟨hn, by omega, fun c3 => ⟨hs, by exact hL, ?_⟩, fun c3 => ⟨_, rfl, Or.inr (Or.inl ⟨c, Or.inr c3, rfl, rfl⟩)⟩⟩⟩, fun c => ⟨_, rfl, Or.inl ⟨c, rfl, rfl⟩⟩⟩
  rw [m_nseg_fill h (M := m_flM h 0) (by omega) (fun k => if_neg (by omega))]
  refine up (P := fun j => wp mX12_flush 1 _ _ _ 43 [some (vr 71), some (vi (iH h 71 5)), some (vi j)] [] (m_fill (m_ns0 h) (iH h 71 5) (m_flM h j) j)) (iH h 71 15).toNat ?_ ?_
  · have r1 : iH (m_fill (m_ns0 h) (iH h 71 5) (m_flM h (iH h 71 15).toNat) ((iH h 71 15).toNat : Int)) 71 15 = iH h 71 15 := by
      unfold m_fill m_ns0
      rw [rI_ne (by decide), rW_ne (by omega), rI_nk (by decide), rI_ne (by decide)]
    have r2 : iH (m_fill (m_ns0 h) (iH h 71 5) (m_flM h (iH h 71 15).toNat) ((iH h 71 15).toNat : Int)) 71 13 = iH h 71 13 := by
      unfold m_fill m_ns0
      rw [rI_ne (by decide), rW_ne (by omega), rI_nk (by decide), rI_ne (by decide)]
    have r3 : iH (m_fill (m_ns0 h) (iH h 71 5) (m_flM h (iH h 71 15).toNat) ((iH h 71 15).toNat : Int)) 596 (iH h 71 5).toNat = iH h 71 5 + 1 := by
      unfold m_fill m_ns0
      rw [rI_ne (by decide), rW_ne (by omega), rI_ne (by decide), rI_same]
    refine t_X12_flush_43 (by exact hL) ?_
    rw [r1, r2, r3]
    refine ⟨fun _ => ⟨by omega, by omega, by omega, _, rfl, Or.inr (Or.inr ⟨c, by omega, c3, rfl, ?_⟩)⟩, fun q => absurd q (by omega)⟩
    rw [show (((iH h 71 15).toNat : Nat) : Int) = iH h 71 15 by omega]
    rfl
  · intro j hj ih
    have r1 : iH (m_fill (m_ns0 h) (iH h 71 5) (m_flM h j) (j : Int)) 71 15 = iH h 71 15 := by
      unfold m_fill m_ns0
      rw [rI_ne (by decide), rW_ne (by omega), rI_nk (by decide), rI_ne (by decide)]
    have r2 : iH (m_fill (m_ns0 h) (iH h 71 5) (m_flM h j) (j : Int)) 597 (iH h 71 5).toNat = (j : Int) := rI_same
    have r3 : iH (m_fill (m_ns0 h) (iH h 71 5) (m_flM h j) (j : Int)) 1138 j = iH h 1138 j := by
      unfold m_fill m_ns0
      rw [rI_ne (by decide), rW_ne (by omega), rI_ne (by decide), rI_ne (by decide)]
    refine t_X12_flush_43 (by exact hL) ?_
    rw [r1, r2, show ((j : Int)).toNat = j from rfl, r3, m_join_fill (M' := m_flM h (j + 1)) (by omega) (fun k => by
      unfold m_flM
      by_cases q : k = j
      · subst q; rw [if_pos rfl, if_pos (by omega)]
      · rw [if_neg q]
        by_cases q2 : k < j
        · rw [if_pos q2, if_pos (by omega)]
        · rw [if_neg q2, if_neg (by omega)])]
    exact ⟨fun q => absurd q (by omega), fun _ => ⟨by omega, ⟨by omega, by omega⟩, by exact hL, by omega, ih⟩⟩
def b_X12_set_0 : List IE := [(.iload_n 1, 1, 0, 0, 1, 0), (.iconst 0, 1, 0, 0, 0, 0), (.iconst 2, 1, 2, 0, 0, 0)]
theorem k_X12_set_0 : ckB mX12_set 12 0 b_X12_set_0 3 = true := by decide +kernel
def b_X12_set_6 : List IE := []
theorem k_X12_set_6 : ckIf mX12_set 12 6 b_X12_set_6 6 0 32 38 9 = true := by decide +kernel
def b_X12_set_9 : List IE := [(.iload_n 2, 1, 0, 0, 2, 0), (.iconst 0, 1, 0, 0, 0, 0), (.iload_n 1, 1, 0, 0, 1, 0)]
theorem k_X12_set_9 : ckIf mX12_set 12 9 b_X12_set_9 12 1 7 19 15 = true := by decide +kernel
def b_X12_set_15 : List IE := [(.iconst 5, 1, 5, 0, 0, 0)]
theorem k_X12_set_15 : ckGo mX12_set 12 15 b_X12_set_15 16 16 32 = true := by decide +kernel
def b_X12_set_19 : List IE := [(.iload_n 1, 1, 0, 0, 1, 0), (.iconst 1, 1, 1, 0, 0, 0)]
theorem k_X12_set_19 : ckIc mX12_set 12 19 b_X12_set_19 21 1 8 29 24 = true := by decide +kernel
def b_X12_set_24 : List IE := [(.bipush 9, 2, 9, 0, 0, 0)]
theorem k_X12_set_24 : ckGo mX12_set 12 24 b_X12_set_24 26 6 32 = true := by decide +kernel
def b_X12_set_29 : List IE := [(.sipush 9999, 3, 9999, 0, 0, 0)]
theorem k_X12_set_29 : ckB mX12_set 12 29 b_X12_set_29 32 = true := by decide +kernel
def b_X12_set_32 : List IE := []
theorem k_X12_set_32 : ckB mX12_set 12 32 b_X12_set_32 32 = true := by decide +kernel
def b_X12_set_35 : List IE := []
theorem k_X12_set_35 : ckIf mX12_set 12 35 b_X12_set_35 35 1 6 41 38 = true := by decide +kernel
def b_X12_set_38 : List IE := [(.bipush (-2), 2, (-2), 0, 0, 0)]
theorem k_X12_set_38 : ckI mX12_set 12 38 b_X12_set_38 40 = true := by decide +kernel
def b_X12_set_41 : List IE := [(.iload_n 1, 1, 0, 0, 1, 0)]
theorem k_X12_set_41 : ckIf mX12_set 12 41 b_X12_set_41 42 1 10 52 45 = true := by decide +kernel
def b_X12_set_45 : List IE := [(.aload_n 0, 1, 0, 0, 0, 0), (.getfield 197, 3, 0, 12, 21, 0)]
theorem k_X12_set_45 : ckGo mX12_set 12 45 b_X12_set_45 49 19 68 = true := by decide +kernel
def b_X12_set_52 : List IE := [(.iload_n 1, 1, 0, 0, 1, 0), (.iconst 1, 1, 1, 0, 0, 0)]
theorem k_X12_set_52 : ckIc mX12_set 12 52 b_X12_set_52 54 1 10 64 57 = true := by decide +kernel
def b_X12_set_57 : List IE := [(.aload_n 0, 1, 0, 0, 0, 0), (.getfield 203, 3, 0, 12, 22, 0)]
theorem k_X12_set_57 : ckGo mX12_set 12 57 b_X12_set_57 61 7 68 = true := by decide +kernel
def b_X12_set_64 : List IE := [(.aload_n 0, 1, 0, 0, 0, 0), (.getfield 60, 3, 0, 12, 23, 0), (.istore_n 3, 1, 0, 0, 3, 0), (.iload_n 1, 1, 0, 0, 1, 0)]
theorem k_X12_set_64 : ckIf mX12_set 12 64 b_X12_set_64 70 1 11 81 73 = true := by decide +kernel
def b_X12_set_68 : List IE := [(.istore_n 3, 1, 0, 0, 3, 0), (.iload_n 1, 1, 0, 0, 1, 0)]
theorem k_X12_set_68 : ckIf mX12_set 12 68 b_X12_set_68 70 1 11 81 73 = true := by decide +kernel
def b_X12_set_73 : List IE := [(.aload_n 0, 1, 0, 0, 0, 0), (.iload_n 2, 1, 0, 0, 2, 0), (.putfield 197, 3, 0, 12, 21, 0)]
theorem k_X12_set_73 : ckGo mX12_set 12 73 b_X12_set_73 78 21 99 = true := by decide +kernel
def b_X12_set_81 : List IE := [(.iload_n 1, 1, 0, 0, 1, 0), (.iconst 1, 1, 1, 0, 0, 0)]
theorem k_X12_set_81 : ckIc mX12_set 12 81 b_X12_set_81 83 1 11 94 86 = true := by decide +kernel
def b_X12_set_86 : List IE := [(.aload_n 0, 1, 0, 0, 0, 0), (.iload_n 2, 1, 0, 0, 2, 0), (.putfield 203, 3, 0, 12, 22, 0)]
theorem k_X12_set_86 : ckGo mX12_set 12 86 b_X12_set_86 91 8 99 = true := by decide +kernel
def b_X12_set_94 : List IE := [(.aload_n 0, 1, 0, 0, 0, 0), (.iload_n 2, 1, 0, 0, 2, 0), (.putfield 60, 3, 0, 12, 23, 0), (.iload_n 3, 1, 0, 0, 3, 0)]
theorem k_X12_set_94 : ckI mX12_set 12 94 b_X12_set_94 100 = true := by decide +kernel
def b_X12_set_99 : List IE := [(.iload_n 3, 1, 0, 0, 3, 0)]
theorem k_X12_set_99 : ckI mX12_set 12 99 b_X12_set_99 100 = true := by decide +kernel
theorem s_X12_set_3 : cS mX12_set 3 mX12_in 109 3 := ⟨by decide +kernel, ⟨ml_X12_in, li_RX12_109, st_X12_in⟩, by decide +kernel⟩
theorem s_X12_set_32 : cS mX12_set 32 mX12_in 109 3 := ⟨by decide +kernel, ⟨ml_X12_in, li_RX12_109, st_X12_in⟩, by decide +kernel⟩
theorem t_X12_set_0 {rc rs : Nat} {Q : Option AV → AH → Prop} {h : AH} {x1 x2 : Int} (hL : LayM h) (hv : ((¬ ((0 : Int) ≤ x1 ∧ x1 ≤ (2 : Int)) → Q (some (vi (-2))) h) ∧ (((0 : Int) ≤ x1 ∧ x1 ≤ (2 : Int)) → ((x1 ≠ 0 → ((x1 ≠ 1 → ((((0 : Int) ≤ x2 ∧ x2 ≤ (9999 : Int)) → Q (some (vi (iH h 71 23))) (sI h 71 23 x2)) ∧ (¬ ((0 : Int) ≤ x2 ∧ x2 ≤ (9999 : Int)) → Q (some (vi (-2))) h))) ∧ (x1 = 1 → ((((0 : Int) ≤ x2 ∧ x2 ≤ (9 : Int)) → Q (some (vi (iH h 71 22))) (sI h 71 22 x2)) ∧ (¬ ((0 : Int) ≤ x2 ∧ x2 ≤ (9 : Int)) → Q (some (vi (-2))) h))))) ∧ (x1 = 0 → ((((0 : Int) ≤ x2 ∧ x2 ≤ (5 : Int)) → Q (some (vi (iH h 71 21))) (sI h 71 21 x2)) ∧ (¬ ((0 : Int) ≤ x2 ∧ x2 ≤ (5 : Int)) → Q (some (vi (-2))) h))))))) : wp mX12_set 1 rc rs Q 0 [some (vr 71), some (vi x1), some (vi x2), none] [] h :=
  (show wp mX12_set 1 rc rs Q 0 [some (vr 71), some (vi x1), some (vi x2), none] [] h from xcS k_X12_set_0 s_X12_set_3 ((Exists.intro [vi x1, vi 0, vi 2] (Exists.intro [] (And.intro (And.intro rfl (And.intro rfl (Nat.le_of_ble_eq_true rfl))) (Exists.intro 0 (Exists.intro 0 (Exists.intro 0 (Exists.intro _ (And.intro c_in (And.intro (And.intro (by decide) (And.intro (Nat.zero_le _) (Nat.zero_le _))) (eQP (show wp mX12_set 1 rc rs Q 6 [some (vr 71), some (vi x1), some (vi x2), none] [vi (b01 ((0 : Int) ≤ x1 ∧ x1 ≤ (2 : Int)))] h from xIf k_X12_set_6 (And.intro (fun c1 => have v3 := hv.1 (b01_n.mp c1); (show wp mX12_set 1 rc rs Q 38 [some (vr 71), some (vi x1), some (vi x2), none] [] h from xI k_X12_set_38 (And.intro rfl v3))) (fun c2 => have v4 := hv.2 (b01_p.mp c2); (show wp mX12_set 1 rc rs Q 9 [some (vr 71), some (vi x1), some (vi x2), none] [] h from xIf k_X12_set_9 (And.intro (fun c5 => have v7 := v4.1 c5; (show wp mX12_set 1 rc rs Q 19 [some (vr 71), some (vi x1), some (vi x2), none] [vi 0, vi x2] h from xIc k_X12_set_19 (And.intro (fun c9 => have v11 := v7.1 c9; (show wp mX12_set 1 rc rs Q 29 [some (vr 71), some (vi x1), some (vi x2), none] [vi 0, vi x2] h from xcS k_X12_set_29 s_X12_set_32 ((Exists.intro [vi x2, vi 0, vi 9999] (Exists.intro [] (And.intro (And.intro rfl (And.intro rfl (Nat.le_of_ble_eq_true rfl))) (Exists.intro 0 (Exists.intro 0 (Exists.intro 0 (Exists.intro _ (And.intro c_in (And.intro (And.intro (by decide) (And.intro (Nat.zero_le _) (Nat.zero_le _))) (eQP (show wp mX12_set 1 rc rs Q 35 [some (vr 71), some (vi x1), some (vi x2), none] [vi (b01 ((0 : Int) ≤ x2 ∧ x2 ≤ (9999 : Int)))] h from xIf k_X12_set_35 (And.intro (fun c13 => have v15 := v11.1 (b01_p.mp c13); (show wp mX12_set 1 rc rs Q 41 [some (vr 71), some (vi x1), some (vi x2), none] [] h from xIf k_X12_set_41 (And.intro (fun _ => (show wp mX12_set 1 rc rs Q 52 [some (vr 71), some (vi x1), some (vi x2), none] [] h from xIc k_X12_set_52 (And.intro (fun _ => (show wp mX12_set 1 rc rs Q 64 [some (vr 71), some (vi x1), some (vi x2), none] [] h from xIf k_X12_set_64 (And.intro (lm_71 hL) (And.intro rfl (And.intro (fun _ => (show wp mX12_set 1 rc rs Q 81 [some (vr 71), some (vi x1), some (vi x2), some (vi (iH h 71 23))] [] h from xIc k_X12_set_81 (And.intro (fun _ => (show wp mX12_set 1 rc rs Q 94 [some (vr 71), some (vi x1), some (vi x2), some (vi (iH h 71 23))] [] h from xI k_X12_set_94 (And.intro (lm_71 hL) (And.intro rfl v15)))) (fun c => absurd (show x1 ≠ 1 from c9) c)))) (fun c => absurd (show x1 ≠ 0 from c5) c)))))) (fun c => absurd (show x1 ≠ 1 from c9) c)))) (fun c => absurd (show x1 ≠ 0 from c5) c)))) (fun c14 => have v16 := v11.2 (b01_nn.mp c14); (show wp mX12_set 1 rc rs Q 38 [some (vr 71), some (vi x1), some (vi x2), none] [] h from xI k_X12_set_38 (And.intro rfl v16)))))))))))))))))) (fun c10 => have v12 := v7.2 (Decidable.not_not.mp c10); (show wp mX12_set 1 rc rs Q 24 [some (vr 71), some (vi x1), some (vi x2), none] [vi 0, vi x2] h from xGo k_X12_set_24 (show wp mX12_set 1 rc rs Q 32 [some (vr 71), some (vi x1), some (vi x2), none] [vi 9, vi 0, vi x2] h from xcS k_X12_set_32 s_X12_set_32 ((Exists.intro [vi x2, vi 0, vi 9] (Exists.intro [] (And.intro (And.intro rfl (And.intro rfl (Nat.le_of_ble_eq_true rfl))) (Exists.intro 0 (Exists.intro 0 (Exists.intro 0 (Exists.intro _ (And.intro c_in (And.intro (And.intro (by decide) (And.intro (Nat.zero_le _) (Nat.zero_le _))) (eQP (show wp mX12_set 1 rc rs Q 35 [some (vr 71), some (vi x1), some (vi x2), none] [vi (b01 ((0 : Int) ≤ x2 ∧ x2 ≤ (9 : Int)))] h from xIf k_X12_set_35 (And.intro (fun c20 => have v22 := v12.1 (b01_p.mp c20); (show wp mX12_set 1 rc rs Q 41 [some (vr 71), some (vi x1), some (vi x2), none] [] h from xIf k_X12_set_41 (And.intro (fun _ => (show wp mX12_set 1 rc rs Q 52 [some (vr 71), some (vi x1), some (vi x2), none] [] h from xIc k_X12_set_52 (And.intro (fun c => absurd (show x1 = 1 from (Decidable.not_not.mp c10)) c) (fun _ => (show wp mX12_set 1 rc rs Q 57 [some (vr 71), some (vi x1), some (vi x2), none] [] h from xGo k_X12_set_57 (And.intro (lm_71 hL) (show wp mX12_set 1 rc rs Q 68 [some (vr 71), some (vi x1), some (vi x2), none] [vi (iH h 71 22)] h from xIf k_X12_set_68 (And.intro rfl (And.intro (fun _ => (show wp mX12_set 1 rc rs Q 81 [some (vr 71), some (vi x1), some (vi x2), some (vi (iH h 71 22))] [] h from xIc k_X12_set_81 (And.intro (fun c => absurd (show x1 = 1 from (Decidable.not_not.mp c10)) c) (fun _ => (show wp mX12_set 1 rc rs Q 86 [some (vr 71), some (vi x1), some (vi x2), some (vi (iH h 71 22))] [] h from xGo k_X12_set_86 (And.intro (lm_71 hL) (show wp mX12_set 1 rc rs Q 99 [some (vr 71), some (vi x1), some (vi x2), some (vi (iH h 71 22))] [] (sI h 71 22 x2) from xI k_X12_set_99 (And.intro rfl v22)))))))) (fun c => absurd (show x1 ≠ 0 from c5) c)))))))))) (fun c => absurd (show x1 ≠ 0 from c5) c)))) (fun c21 => have v23 := v12.2 (b01_nn.mp c21); (show wp mX12_set 1 rc rs Q 38 [some (vr 71), some (vi x1), some (vi x2), none] [] h from xI k_X12_set_38 (And.intro rfl v23)))))))))))))))))))))) (fun c6 => have v8 := v4.2 (Decidable.not_not.mp c6); (show wp mX12_set 1 rc rs Q 15 [some (vr 71), some (vi x1), some (vi x2), none] [vi 0, vi x2] h from xGo k_X12_set_15 (show wp mX12_set 1 rc rs Q 32 [some (vr 71), some (vi x1), some (vi x2), none] [vi 5, vi 0, vi x2] h from xcS k_X12_set_32 s_X12_set_32 ((Exists.intro [vi x2, vi 0, vi 5] (Exists.intro [] (And.intro (And.intro rfl (And.intro rfl (Nat.le_of_ble_eq_true rfl))) (Exists.intro 0 (Exists.intro 0 (Exists.intro 0 (Exists.intro _ (And.intro c_in (And.intro (And.intro (by decide) (And.intro (Nat.zero_le _) (Nat.zero_le _))) (eQP (show wp mX12_set 1 rc rs Q 35 [some (vr 71), some (vi x1), some (vi x2), none] [vi (b01 ((0 : Int) ≤ x2 ∧ x2 ≤ (5 : Int)))] h from xIf k_X12_set_35 (And.intro (fun c27 => have v29 := v8.1 (b01_p.mp c27); (show wp mX12_set 1 rc rs Q 41 [some (vr 71), some (vi x1), some (vi x2), none] [] h from xIf k_X12_set_41 (And.intro (fun c => absurd (show x1 = 0 from (Decidable.not_not.mp c6)) c) (fun _ => (show wp mX12_set 1 rc rs Q 45 [some (vr 71), some (vi x1), some (vi x2), none] [] h from xGo k_X12_set_45 (And.intro (lm_71 hL) (show wp mX12_set 1 rc rs Q 68 [some (vr 71), some (vi x1), some (vi x2), none] [vi (iH h 71 21)] h from xIf k_X12_set_68 (And.intro rfl (And.intro (fun c => absurd (show x1 = 0 from (Decidable.not_not.mp c6)) c) (fun _ => (show wp mX12_set 1 rc rs Q 73 [some (vr 71), some (vi x1), some (vi x2), some (vi (iH h 71 21))] [] h from xGo k_X12_set_73 (And.intro (lm_71 hL) (show wp mX12_set 1 rc rs Q 99 [some (vr 71), some (vi x1), some (vi x2), some (vi (iH h 71 21))] [] (sI h 71 21 x2) from xI k_X12_set_99 (And.intro rfl v29)))))))))))))) (fun c28 => have v30 := v8.2 (b01_nn.mp c28); (show wp mX12_set 1 rc rs Q 38 [some (vr 71), some (vi x1), some (vi x2), none] [] h from xI k_X12_set_38 (And.intro rfl v30))))))))))))))))))))))))))))))))))))
theorem e_X12_set {mc ms : Nat} {Q : Option AV → AH → Prop} {h : AH} {x1 x2 : Int} (hL : LayM h) (hv : ((¬ ((0 : Int) ≤ x1 ∧ x1 ≤ (2 : Int)) → Q (some (vi (-2))) h) ∧ (((0 : Int) ≤ x1 ∧ x1 ≤ (2 : Int)) → ((x1 ≠ 0 → ((x1 ≠ 1 → ((((0 : Int) ≤ x2 ∧ x2 ≤ (9999 : Int)) → Q (some (vi (iH h 71 23))) (sI h 71 23 x2)) ∧ (¬ ((0 : Int) ≤ x2 ∧ x2 ≤ (9999 : Int)) → Q (some (vi (-2))) h))) ∧ (x1 = 1 → ((((0 : Int) ≤ x2 ∧ x2 ≤ (9 : Int)) → Q (some (vi (iH h 71 22))) (sI h 71 22 x2)) ∧ (¬ ((0 : Int) ≤ x2 ∧ x2 ≤ (9 : Int)) → Q (some (vi (-2))) h))))) ∧ (x1 = 0 → ((((0 : Int) ≤ x2 ∧ x2 ≤ (5 : Int)) → Q (some (vi (iH h 71 21))) (sI h 71 21 x2)) ∧ (¬ ((0 : Int) ≤ x2 ∧ x2 ≤ (5 : Int)) → Q (some (vi (-2))) h))))))) : Ct 1 mc ms mX12_set [vr 71, vi x1, vi x2] h Q := Ct.of (by decide +kernel) (Nat.le_of_ble_eq_true rfl) (t_X12_set_0 hL hv)
def b_X12_leave_0 : List IE := [(.aload_n 0, 1, 0, 0, 0, 0), (.getfield 229, 3, 0, 12, 24, 0)]
theorem k_X12_leave_0 : ckIf mX12_leave 12 0 b_X12_leave_0 4 1 6 10 7 = true := by decide +kernel
def b_X12_leave_7 : List IE := [(.bipush (-3), 2, (-3), 0, 0, 0)]
theorem k_X12_leave_7 : ckI mX12_leave 12 7 b_X12_leave_7 9 = true := by decide +kernel
def b_X12_leave_10 : List IE := [(.aload_n 0, 1, 0, 0, 0, 0), (.iconst 0, 1, 0, 0, 0, 0), (.putfield 229, 3, 0, 12, 24, 2), (.iconst 1, 1, 1, 0, 0, 0)]
theorem k_X12_leave_10 : ckI mX12_leave 12 10 b_X12_leave_10 16 = true := by decide +kernel
theorem t_X12_leave_0 {rc rs : Nat} {Q : Option AV → AH → Prop} {h : AH}  (hL : LayM h) (hv : (((iH h 71 24) ≠ 0 → Q (some (vi 1)) (sI h 71 24 0)) ∧ ((iH h 71 24) = 0 → Q (some (vi (-3))) h))) : wp mX12_leave 0 rc rs Q 0 [some (vr 71)] [] h :=
  (show wp mX12_leave 0 rc rs Q 0 [some (vr 71)] [] h from xIf k_X12_leave_0 (And.intro (lm_71 hL) (And.intro (fun c1 => have v3 := hv.1 c1; (show wp mX12_leave 0 rc rs Q 10 [some (vr 71)] [] h from xI k_X12_leave_10 (And.intro (lm_71 hL) (And.intro (Or.inl rfl) (And.intro rfl v3))))) (fun c2 => have v4 := hv.2 (Decidable.not_not.mp c2); (show wp mX12_leave 0 rc rs Q 7 [some (vr 71)] [] h from xI k_X12_leave_7 (And.intro rfl v4))))))
theorem e_X12_leave {mc ms : Nat} {Q : Option AV → AH → Prop} {h : AH}  (hL : LayM h) (hv : (((iH h 71 24) ≠ 0 → Q (some (vi 1)) (sI h 71 24 0)) ∧ ((iH h 71 24) = 0 → Q (some (vi (-3))) h))) : Ct 0 mc ms mX12_leave [vr 71] h Q := Ct.of (by decide +kernel) (Nat.le_of_ble_eq_true rfl) (t_X12_leave_0 hL hv)
def p_set (h : AH) (w v : Int) (x : Int) (h' : AH) : Prop := (w = 0 ∧ 0 ≤ v ∧ v ≤ 5 ∧ x = iH h 71 21 ∧ h' = sI h 71 21 v) ∨ (w = 1 ∧ 0 ≤ v ∧ v ≤ 9 ∧ x = iH h 71 22 ∧ h' = sI h 71 22 v) ∨ (w = 2 ∧ 0 ≤ v ∧ v ≤ 9999 ∧ x = iH h 71 23 ∧ h' = sI h 71 23 v) ∨ (¬ ((w = 0 ∧ 0 ≤ v ∧ v ≤ 5) ∨ (w = 1 ∧ 0 ≤ v ∧ v ≤ 9) ∨ (w = 2 ∧ 0 ≤ v ∧ v ≤ 9999)) ∧ x = -2 ∧ h' = h)
theorem c_set {h : AH} (hL : LayM h) {w v : Int} : Ct 1 0 0 mX12_set [vr 71, vi w, vi v] h (QI (p_set h w v)) :=
  e_X12_set hL ⟨fun c => ⟨_, rfl, Or.inr (Or.inr (Or.inr ⟨by omega, rfl, rfl⟩))⟩, fun c => ⟨fun c0 => ⟨fun c1 => ⟨fun c2 => ⟨_, rfl, Or.inr (Or.inr (Or.inl ⟨by omega, by omega, by omega, rfl, rfl⟩))⟩, fun c2 => ⟨_, rfl, Or.inr (Or.inr (Or.inr ⟨by omega, rfl, rfl⟩))⟩⟩, fun c1 => ⟨fun c2 => ⟨_, rfl, Or.inr (Or.inl ⟨by omega, by omega, by omega, rfl, rfl⟩)⟩, fun c2 => ⟨_, rfl, Or.inr (Or.inr (Or.inr ⟨by omega, rfl, rfl⟩))⟩⟩⟩, fun c0 => ⟨fun c2 => ⟨_, rfl, Or.inl ⟨by omega, by omega, by omega, rfl, rfl⟩⟩, fun c2 => ⟨_, rfl, Or.inr (Or.inr (Or.inr ⟨by omega, rfl, rfl⟩))⟩⟩⟩⟩
theorem c_leave {h : AH} (hL : LayM h) : Ct 0 0 0 mX12_leave [vr 71] h (QI fun x h' => (iH h 71 24 ≠ 0 ∧ x = 1 ∧ h' = sI h 71 24 0) ∨ (iH h 71 24 = 0 ∧ x = -3 ∧ h' = h)) :=
  e_X12_leave hL ⟨fun c => ⟨_, rfl, Or.inl ⟨c, rfl, rfl⟩⟩, fun c => ⟨_, rfl, Or.inr ⟨c, rfl, rfl⟩⟩⟩
def b_X12_lay_0 : List IE := [(.aload_n 0, 1, 0, 0, 0, 0), (.getfield 34, 3, 0, 12, 9, 1), (.iload_n 1, 1, 0, 0, 1, 0), (.iconst 1, 1, 1, 0, 0, 0), (.bastore, 1, 0, 0, 0, 0), (.aload_n 0, 1, 0, 0, 0, 0), (.getfield 37, 3, 0, 12, 10, 1), (.iload_n 1, 1, 0, 0, 1, 0), (.aload_n 0, 1, 0, 0, 0, 0), (.getfield 106, 3, 0, 12, 13, 0), (.iastore, 1, 0, 0, 0, 0), (.iconst 0, 1, 0, 0, 0, 0), (.istore_n 2, 1, 0, 0, 2, 0), (.iconst 0, 1, 0, 0, 0, 0), (.istore_n 3, 1, 0, 0, 3, 0)]
theorem k_X12_lay_0 : ckB mX12_lay 12 0 b_X12_lay_0 21 = true := by decide +kernel
def b_X12_lay_21 : List IE := [(.iload_n 3, 1, 0, 0, 3, 0), (.aload_n 0, 1, 0, 0, 0, 0), (.getfield 106, 3, 0, 12, 13, 0)]
theorem k_X12_lay_21 : ckIc mX12_lay 12 21 b_X12_lay_21 26 3 78 104 29 = true := by decide +kernel
def b_X12_lay_29 : List IE := [(.aload_n 0, 1, 0, 0, 0, 0), (.getfield 40, 3, 0, 12, 11, 1), (.iload_n 1, 1, 0, 0, 1, 0), (.aaload, 1, 0, 0, 0, 0), (.iload_n 3, 1, 0, 0, 3, 0), (.aload_n 0, 1, 0, 0, 0, 0), (.getfield 48, 3, 0, 12, 14, 1), (.iload_n 3, 1, 0, 0, 3, 0), (.iaload, 1, 0, 0, 0, 0), (.iastore, 1, 0, 0, 0, 0), (.iconst 0, 1, 0, 0, 0, 0), (.istore 4, 2, 0, 0, 4, 0)]
theorem k_X12_lay_29 : ckB mX12_lay 12 29 b_X12_lay_29 46 = true := by decide +kernel
def b_X12_lay_46 : List IE := [(.iload 4, 2, 0, 0, 4, 0), (.aload_n 0, 1, 0, 0, 0, 0), (.getfield 28, 3, 0, 12, 7, 1), (.aload_n 0, 1, 0, 0, 0, 0), (.getfield 48, 3, 0, 12, 14, 1), (.iload_n 3, 1, 0, 0, 3, 0), (.iaload, 1, 0, 0, 0, 0), (.iaload, 1, 0, 0, 0, 0)]
theorem k_X12_lay_46 : ckIc mX12_lay 12 46 b_X12_lay_46 59 3 39 98 62 = true := by decide +kernel
def b_X12_lay_62 : List IE := [(.aload_n 0, 1, 0, 0, 0, 0), (.getfield 45, 3, 0, 12, 12, 1), (.iload_n 1, 1, 0, 0, 1, 0), (.aaload, 1, 0, 0, 0, 0), (.iload_n 2, 1, 0, 0, 2, 0), (.aload_n 0, 1, 0, 0, 0, 0), (.getfield 21, 3, 0, 12, 4, 1), (.aload_n 0, 1, 0, 0, 0, 0), (.getfield 31, 3, 0, 12, 8, 1), (.aload_n 0, 1, 0, 0, 0, 0), (.getfield 48, 3, 0, 12, 14, 1), (.iload_n 3, 1, 0, 0, 3, 0), (.iaload, 1, 0, 0, 0, 0), (.aaload, 1, 0, 0, 0, 0), (.iload 4, 2, 0, 0, 4, 0), (.iaload, 1, 0, 0, 0, 0), (.baload, 1, 0, 0, 0, 0), (.bastore, 1, 0, 0, 0, 0), (.iinc 2 1, 3, 1, 0, 2, 0), (.iinc 4 1, 3, 1, 0, 4, 0)]
theorem k_X12_lay_62 : ckGo mX12_lay 12 62 b_X12_lay_62 95 (-49) 46 = true := by decide +kernel
def b_X12_lay_98 : List IE := [(.iinc 3 1, 3, 1, 0, 3, 0)]
theorem k_X12_lay_98 : ckGo mX12_lay 12 98 b_X12_lay_98 101 (-80) 21 = true := by decide +kernel
def b_X12_lay_104 : List IE := []
theorem k_X12_lay_104 : ckV mX12_lay 12 104 b_X12_lay_104 104 = true := by decide +kernel
theorem t_X12_lay_0 {rc rs : Nat} {Q : Option AV → AH → Prop} {h : AH} {x1 : Int} (hL : LayM h) (hv : (0 ≤ x1 ∧ x1 < 7) ∧ wp mX12_lay 0 rc rs Q 21 [some (vr 71), some (vi x1), some (vi 0), some (vi 0), none] [] (sI (sI h 1119 x1.toNat 1) 1120 x1.toNat (iH h 71 13))) : wp mX12_lay 0 rc rs Q 0 [some (vr 71), some (vi x1), none, none, none] [] h :=
  (show wp mX12_lay 0 rc rs Q 0 [some (vr 71), some (vi x1), none, none, none] [] h from xB k_X12_lay_0 (And.intro (lm_71 hL) (Exists.intro 1119 (And.intro (lf_71_9 hL) (have c1 := hv.1; have v3 := hv.2; (And.intro (sdZs (lm_1119 hL) c1 (Or.inr rfl)) (And.intro (lm_71 hL) (Exists.intro 1120 (And.intro (lf_71_10 hL) (And.intro (lm_71 hL) (And.intro (sdI (lm_1120 hL) c1) (And.intro rfl (And.intro rfl v3)))))))))))))
theorem e_X12_lay {mc ms : Nat} {Q : Option AV → AH → Prop} {h : AH} {x1 : Int} (hL : LayM h) (hv : (0 ≤ x1 ∧ x1 < 7) ∧ wp mX12_lay 0 mc ms Q 21 [some (vr 71), some (vi x1), some (vi 0), some (vi 0), none] [] (sI (sI h 1119 x1.toNat 1) 1120 x1.toNat (iH h 71 13))) : Ct 0 mc ms mX12_lay [vr 71, vi x1] h Q := Ct.of (by decide +kernel) (Nat.le_of_ble_eq_true rfl) (t_X12_lay_0 hL hv)
theorem t_X12_lay_21 {rc rs : Nat} {Q : Option AV → AH → Prop} {h : AH} {x1 x2 x3 : Int} (hL : LayM h) (hv : (((iH h 71 13) ≤ x3 → Q none h) ∧ (x3 < (iH h 71 13) → (0 ≤ x1 ∧ x1 < 7) ∧ (0 ≤ x3 ∧ x3 < 8) ∧ wp mX12_lay 0 rc rs Q 46 [some (vr 71), some (vi x1), some (vi x2), some (vi x3), some (vi 0)] [] (sI h (1122 + x1.toNat) x3.toNat (iH h 1137 x3.toNat))))) : wp mX12_lay 0 rc rs Q 21 [some (vr 71), some (vi x1), some (vi x2), some (vi x3), none] [] h :=
  (show wp mX12_lay 0 rc rs Q 21 [some (vr 71), some (vi x1), some (vi x2), some (vi x3), none] [] h from xIc k_X12_lay_21 (And.intro (lm_71 hL) (And.intro (fun c1 => have v3 := hv.1 c1; (show wp mX12_lay 0 rc rs Q 104 [some (vr 71), some (vi x1), some (vi x2), some (vi x3), none] [] h from xV k_X12_lay_104 (And.intro rfl v3))) (fun c2 => have v4 := hv.2 (Int.not_le.mp c2); (show wp mX12_lay 0 rc rs Q 29 [some (vr 71), some (vi x1), some (vi x2), some (vi x3), none] [] h from xB k_X12_lay_29 (And.intro (lm_71 hL) (Exists.intro 1121 (And.intro (lf_71_11 hL) (have c5 := v4.1; have v9 := v4.2; (And.intro (sdQ (lm_1121 hL) c5) (Exists.intro (1122 + x1.toNat) (And.intro (lr_rows hL (tnl c5)) (And.intro (lm_71 hL) (Exists.intro 1137 (And.intro (lf_71_14 hL) (have c6 := v9.1; have v8 := v9.2; (And.intro (sdI (lm_1137 hL) c6) (And.intro (sdI (lk_rows hL (tnl c5)) c6) (And.intro rfl v8)))))))))))))))))))
theorem t_X12_lay_46 {rc rs : Nat} {Q : Option AV → AH → Prop} {h : AH} {x1 x2 x3 x4 : Int} (hL : LayM h) (hv : (0 ≤ x3 ∧ x3 < 8) ∧ (0 ≤ iH h 1137 x3.toNat ∧ iH h 1137 x3.toNat < 520) ∧ (((iH h 597 ((iH h 1137 x3.toNat).toNat)) ≤ x4 → (-2147483648 ≤ (x3 + 1) ∧ (x3 + 1) < 2147483648) ∧ wp mX12_lay 0 rc rs Q 21 [some (vr 71), some (vi x1), some (vi x2), some (vi (x3 + 1)), none] [] h) ∧ (x4 < (iH h 597 ((iH h 1137 x3.toNat).toNat)) → (0 ≤ x1 ∧ x1 < 7) ∧ (0 ≤ x4 ∧ x4 < 64) ∧ (0 ≤ iH h (599 + (iH h 1137 x3.toNat).toNat) x4.toNat ∧ iH h (599 + (iH h 1137 x3.toNat).toNat) x4.toNat < 520) ∧ ((0 ≤ x2 ∧ x2 < 64) ∧ (iH h 595 ((iH h (599 + (iH h 1137 x3.toNat).toNat) x4.toNat).toNat) = 0 ∨ iH h 595 ((iH h (599 + (iH h 1137 x3.toNat).toNat) x4.toNat).toNat) = 1)) ∧ (-2147483648 ≤ (x2 + 1) ∧ (x2 + 1) < 2147483648) ∧ (-2147483648 ≤ (x4 + 1) ∧ (x4 + 1) < 2147483648) ∧ wp mX12_lay 0 rc rs Q 46 [some (vr 71), some (vi x1), some (vi (x2 + 1)), some (vi x3), some (vi (x4 + 1))] [] (sI h (1130 + x1.toNat) x2.toNat (iH h 595 ((iH h (599 + (iH h 1137 x3.toNat).toNat) x4.toNat).toNat)))))) : wp mX12_lay 0 rc rs Q 46 [some (vr 71), some (vi x1), some (vi x2), some (vi x3), some (vi x4)] [] h :=
  (show wp mX12_lay 0 rc rs Q 46 [some (vr 71), some (vi x1), some (vi x2), some (vi x3), some (vi x4)] [] h from xIc k_X12_lay_46 (And.intro (lm_71 hL) (Exists.intro 597 (And.intro (lf_71_7 hL) (And.intro (lm_71 hL) (Exists.intro 1137 (And.intro (lf_71_14 hL) (have c1 := hv.1; have v24 := hv.2; (And.intro (sdI (lm_1137 hL) c1) (have c2 := v24.1; have v23 := v24.2; (And.intro (sdI (lm_597 hL) c2) (And.intro (fun c3 => have v5 := v23.1 c3; (show wp mX12_lay 0 rc rs Q 98 [some (vr 71), some (vi x1), some (vi x2), some (vi x3), some (vi x4)] [] h from xGo k_X12_lay_98 (have c7 := v5.1; have v8 := v5.2; (And.intro c7 (And.intro rfl (w_fg [true, true, true, true, false] v8)))))) (fun c4 => have v6 := v23.2 (Int.not_le.mp c4); (show wp mX12_lay 0 rc rs Q 62 [some (vr 71), some (vi x1), some (vi x2), some (vi x3), some (vi x4)] [] h from xGo k_X12_lay_62 (And.intro (lm_71 hL) (Exists.intro 1129 (And.intro (lf_71_12 hL) (have c9 := v6.1; have v22 := v6.2; (And.intro (sdQ (lm_1129 hL) c9) (Exists.intro (1130 + x1.toNat) (And.intro (lr_wasDropped hL (tnl c9)) (And.intro (lm_71 hL) (Exists.intro 595 (And.intro (lf_71_4 hL) (And.intro (lm_71 hL) (Exists.intro 598 (And.intro (lf_71_8 hL) (And.intro (lm_71 hL) (Exists.intro 1137 (And.intro (lf_71_14 hL) (And.intro (sdI (lm_1137 hL) c1) (And.intro (sdQ (lm_598 hL) c2) (Exists.intro (599 + (iH h 1137 x3.toNat).toNat) (And.intro (lr_members hL (tnl c2)) (have c12 := v22.1; have v21 := v22.2; (And.intro (sdI (lk_members hL (tnl c2)) c12) (have c13 := v21.1; have v20 := v21.2; (And.intro (sdZ (lm_595 hL) c13) (have c14 := v20.1; have v19 := v20.2; (And.intro (sdZs (lk_wasDropped hL (tnl c9)) c14.1 c14.2) (have c15 := v19.1; have v18 := v19.2; (And.intro c15 (And.intro rfl (have c16 := v18.1; have v17 := v18.2; (And.intro c16 (And.intro rfl v17))))))))))))))))))))))))))))))))))))))))))))))
def m_off (h : AH) (s : Nat) : Int := sumN (fun s => iH h 597 (iH h 1137 s).toNat) s
def m_drD (h : AH) (s k : Nat) : Int := iH h 595 (iH h (599 + (iH h 1137 s).toNat) k).toNat
def m_layI (h : AH) (W : Nat → Int) (s k n : Nat) : Int := if (m_off h s).toNat ≤ n ∧ n < (m_off h s).toNat + k then m_drD h s (n - (m_off h s).toNat) else W n
def m_layW (h : AH) (W : Nat → Int) : Nat → Nat → Int
  | 0 => W
  | s + 1 => m_layI h (m_layW h W s) s (iH h 597 (iH h 1137 s).toNat).toNat
def m_layR (h : AH) (t s k : Nat) : Int := if k < s then iH h 1137 k else iH h (1122 + t) k
def m_layB (h : AH) (t : Nat) : AH := sI (sI h 1119 t 1) 1120 t (iH h 71 13)
def m_lay (h : AH) (t : Int) : AH := sW (sW (m_layB h t.toNat) (1122 + t.toNat) (m_layR h t.toNat (iH h 71 13).toNat)) (1130 + t.toNat) (m_layW h (iH h (1130 + t.toNat)) (iH h 71 13).toNat)
def m_nowL (h : AH) : Prop := m_now h ∧ m_held h ≤ 64 ∧ ∀ d : Nat, d < 520 → iH h 595 d = 0 ∨ iH h 595 d = 1
theorem m_off_le {h : AH} (hn : m_now h) : ∀ (n s : Nat), (n : Int) ≤ iH h 71 13 → s ≤ n → 0 ≤ m_off h s ∧ m_off h s ≤ m_off h n
  | 0, s, _, hs => by
    have : s = 0 := by omega
    subst this
    exact ⟨Int.le_refl 0, Int.le_refl _⟩
  | n + 1, s, hn', hs => by
    have hl := (hn.2 n (by omega)).2.1
    have e : m_off h (n + 1) = m_off h n + iH h 597 (iH h 1137 n).toNat := rfl
    by_cases q : s = n + 1
    · subst q
      have := m_off_le hn n n (by omega) (Nat.le_refl n)
      omega
    · have := m_off_le hn n s (by omega) (by omega)
      omega
theorem c_lay {h : AH} (hL : LayM h) {t : Int} (hp : m_nowL h ∧ (0 ≤ t ∧ t < 7)) : Ct 0 0 0 mX12_lay [vr 71, vi t] h (QV fun h' => h' = m_lay h t) := by
  obtain ⟨⟨hn, hh, hd⟩, ht⟩ := hp
  have h1 := hn.1
  refine e_X12_lay hL ⟨ht, ?_⟩
  have e0 : m_layB h t.toNat = sW (sW (m_layB h t.toNat) (1122 + t.toNat) (m_layR h t.toNat 0)) (1130 + t.toNat) (m_layW h (iH h (1130 + t.toNat)) 0) := by
    rw [sW_id (h := m_layB h t.toNat) (fun k => by
      unfold m_layR m_layB
      rw [if_neg (by omega), rI_ne (by omega), rI_ne (by omega)]), sW_id (fun k => by
      unfold m_layB
      rw [rI_ne (by omega), rI_ne (by omega)]; rfl)]
  show wp mX12_lay 0 0 0 (QV fun h' => h' = m_lay h t) 21 [some (vr 71), some (vi t), some (vi (m_off h 0)), some (vi ((0 : Nat) : Int)), none] [] (m_layB h t.toNat)
  rw [e0]
  refine up (P := fun s => wp mX12_lay 0 _ _ _ 21 [some (vr 71), some (vi t), some (vi (m_off h s)), some (vi s), none] [] (sW (sW (m_layB h t.toNat) (1122 + t.toNat) (m_layR h t.toNat s)) (1130 + t.toNat) (m_layW h (iH h (1130 + t.toNat)) s))) (iH h 71 13).toNat ?_ ?_
  · refine t_X12_lay_21 (by exact hL) ?_
    unfold m_layB
    simp (disch := omega) only [rW_ne, rI_ne]
    exact ⟨fun _ => ⟨rfl, rfl⟩, fun q => absurd q (by omega)⟩
  · intro s hs ih
    have hg := hn.2 s (by omega)
    have hg1 := hg.1
    have hg2 := hg.2.1
    have ho := m_off_le hn (iH h 71 13).toNat s (by omega) (by omega)
    have ho2 := m_off_le hn (iH h 71 13).toNat (s + 1) (by omega) (by omega)
    have ho3 : m_off h (s + 1) = m_off h s + iH h 597 (iH h 1137 s).toNat := rfl
    have ho4 : m_off h (iH h 71 13).toNat = m_held h := rfl
    refine t_X12_lay_21 (by exact hL) ?_
    unfold m_layB
    simp (disch := omega) only [rW_ne, rI_ne, Int.toNat_natCast]
    refine ⟨fun q => absurd q (by omega), fun _ => ⟨ht, by omega, ?_⟩⟩
    rw [sI_sW_ne (by omega), sI_sW (g' := m_layR h t.toNat (s + 1)) (fun k => by
      unfold m_layR
      by_cases q : k = s
      · subst q; rw [if_pos rfl, if_pos (by omega)]
      · rw [if_neg q]
        by_cases q2 : k < s
        · rw [if_pos q2, if_pos (by omega)]
        · rw [if_neg q2, if_neg (by omega)])]
    have e1 : m_layW h (iH h (1130 + t.toNat)) s = m_layI h (m_layW h (iH h (1130 + t.toNat)) s) s 0 := by
      funext n; unfold m_layI; rw [if_neg (by omega)]
    rw [e1]
    have e2 : m_off h s = m_off h s + ((0 : Nat) : Int) := by omega
    have main : wp mX12_lay 0 0 0 (QV fun h' => h' = m_lay h t) 46 [some (vr 71), some (vi t), some (vi (m_off h s + ((0 : Nat) : Int))), some (vi s), some (vi ((0 : Nat) : Int))] [] (sW (sW (m_layB h t.toNat) (1122 + t.toNat) (m_layR h t.toNat (s + 1))) (1130 + t.toNat) (m_layI h (m_layW h (iH h (1130 + t.toNat)) s) s 0)) := by
      refine up (P := fun k => wp mX12_lay 0 _ _ _ 46 [some (vr 71), some (vi t), some (vi (m_off h s + (k : Int))), some (vi s), some (vi k)] [] (sW (sW (m_layB h t.toNat) (1122 + t.toNat) (m_layR h t.toNat (s + 1))) (1130 + t.toNat) (m_layI h (m_layW h (iH h (1130 + t.toNat)) s) s k))) (iH h 597 (iH h 1137 s).toNat).toNat ?_ ?_
      · refine t_X12_lay_46 (by exact hL) ?_
        unfold m_layB
        simp (disch := omega) only [rW_ne, rI_ne, Int.toNat_natCast]
        refine ⟨by omega, hg1, fun _ => ⟨by omega, ?_⟩, fun q => absurd q (by omega)⟩
        rw [show m_off h s + ((iH h 597 (iH h 1137 s).toNat).toNat : Int) = m_off h (s + 1) by omega]
        exact ih
      · intro k hk ih2
        have hm := hg.2.2 k (by omega)
        have hdd := hd (iH h (599 + (iH h 1137 s).toNat) k).toNat (by omega)
        refine t_X12_lay_46 (by exact hL) ?_
        unfold m_layB
        simp (disch := omega) only [rW_ne, rI_ne, Int.toNat_natCast]
        refine ⟨by omega, hg1, fun q => absurd q (by omega), fun _ => ⟨ht, by omega, hm, ⟨by omega, hdd⟩, by omega, by omega, ?_⟩⟩
        rw [sI_sW (g' := m_layI h (m_layW h (iH h (1130 + t.toNat)) s) s (k + 1)) (fun n => by
          unfold m_layI
          by_cases q : n = (m_off h s + (k : Int)).toNat
          · rw [if_pos q, if_pos (by omega), show n - (m_off h s).toNat = k by omega]; rfl
          · rw [if_neg q]
            by_cases q2 : (m_off h s).toNat ≤ n ∧ n < (m_off h s).toNat + k
            · rw [if_pos q2, if_pos (by omega)]
            · rw [if_neg q2, if_neg (by omega)])]
        rw [show m_off h s + (k : Int) + 1 = m_off h s + ((k + 1 : Nat) : Int) by omega]
        exact ih2
    rw [← e2] at main
    exact main
/-- what lay leaves as it is -/
theorem rL {h : AH} {t : Int} {a k : Nat} (h1 : a ≠ 1119) (h2 : a ≠ 1120) (h3 : a ≠ 1122 + t.toNat) (h4 : a ≠ 1130 + t.toNat) : iH (m_lay h t) a k = iH h a k := by
  unfold m_lay m_layB
  rw [rW_ne h4, rW_ne h3, rI_ne h2, rI_ne h1]
theorem m_live_cg {h h' : AH} {g : Int} (e1 : ∀ k, iH h' 595 k = iH h 595 k) (e2 : iH h' 597 g.toNat = iH h 597 g.toNat) (e3 : ∀ k, iH h' (599 + g.toNat) k = iH h (599 + g.toNat) k) : m_live h' g = m_live h g := by
  unfold m_live
  rw [e2]
  refine cnt_cg fun k _ => ?_
  unfold m_liveP
  rw [e3, e1]
theorem m_liveIn_cg {h h' : AH} {a n : Int} (hr : m_rng h a n) (e1 : ∀ k, iH h' 595 k = iH h 595 k) (e2 : ∀ k, iH h' 597 k = iH h 597 k) (e3 : ∀ g k, g < 520 → iH h' (599 + g) k = iH h (599 + g) k) (e4 : ∀ k, iH h' 1137 k = iH h 1137 k) : m_liveIn h' a n = m_liveIn h a n := by
  have h1 := hr.1
  have h2 := hr.2.1
  unfold m_liveIn
  refine sumN_cg fun i hi => ?_
  have hg := (hr.2.2.2 (a.toNat + i) (by omega) (by omega)).1
  rw [e4]
  exact m_live_cg e1 (e2 _) (fun k => e3 _ k (by omega))
theorem m_seg_cg {h h' : AH} {g : Int} (hg : m_seg h g) (e2 : ∀ k, iH h' 597 k = iH h 597 k) (e3 : ∀ g k, g < 520 → iH h' (599 + g) k = iH h (599 + g) k) : m_seg h' g := by
  have h1 := hg.1
  unfold m_seg
  rw [e2]
  refine ⟨hg.1, hg.2.1, fun k hk => ?_⟩
  rw [e3 _ _ (by omega)]
  exact hg.2.2 k hk
theorem m_rng_cg {h h' : AH} {a n : Int} (hr : m_rng h a n) (e2 : ∀ k, iH h' 597 k = iH h 597 k) (e3 : ∀ g k, g < 520 → iH h' (599 + g) k = iH h (599 + g) k) (e4 : ∀ k, iH h' 1137 k = iH h 1137 k) : m_rng h' a n :=
  ⟨hr.1, hr.2.1, hr.2.2.1, fun s h1 h2 => by rw [e4]; exact m_seg_cg (hr.2.2.2 s h1 h2) e2 e3⟩
def b_X12_write_0 : List IE := [(.aload_n 0, 1, 0, 0, 0, 0), (.iconst 4, 1, 4, 0, 0, 0)]
theorem k_X12_write_0 : ckB mX12_write 12 0 b_X12_write_0 2 = true := by decide +kernel
def b_X12_write_5 : List IE := [(.aload_n 0, 1, 0, 0, 0, 0), (.getfield 106, 3, 0, 12, 13, 0)]
theorem k_X12_write_5 : ckI mX12_write 12 5 b_X12_write_5 9 = true := by decide +kernel
theorem s_X12_write_2 : cV mX12_write 2 mX12_lay 246 1 12 := ⟨by decide +kernel, ⟨ml_X12_lay, li_RX12_246, im_X12_lay, se_X12_lay⟩, ⟨by decide +kernel, by decide +kernel⟩, by decide +kernel⟩
theorem t_X12_write_0 {rc rs : Nat} {Q : Option AV → AH → Prop} {h : AH}  (hL : LayM h) (hv : (m_nowL h ∧ (0 ≤ (4 : Int) ∧ (4 : Int) < 7)) ∧ LayM (m_lay h (4 : Int)) ∧ Q (some (vi (iH (m_lay h (4 : Int)) 71 13))) (m_lay h (4 : Int))) : wp mX12_write 1 rc rs Q 0 [some (vr 71)] [] h :=
  (show wp mX12_write 1 rc rs Q 0 [some (vr 71)] [] h from xcV k_X12_write_0 s_X12_write_2 (have c5 := hv.1; have v6 := hv.2; (Exists.intro [vi 4] (Exists.intro 71 (Exists.intro [] (And.intro (And.intro rfl (And.intro rfl (Nat.le_of_ble_eq_true rfl))) (And.intro (lm_71 hL) (Exists.intro 0 (Exists.intro 0 (Exists.intro 0 (Exists.intro _ (And.intro (c_lay hL c5) (And.intro (And.intro (by decide) (And.intro (Nat.zero_le _) (Nat.zero_le _))) (eQPV (have hL := v6.1; have v4 := v6.2; (show wp mX12_write 1 rc rs Q 5 [some (vr 71)] [] (m_lay h (4 : Int)) from xI k_X12_write_5 (And.intro (lm_71 hL) (And.intro rfl v4))))))))))))))))))
theorem e_X12_write {mc ms : Nat} {Q : Option AV → AH → Prop} {h : AH}  (hL : LayM h) (hv : (m_nowL h ∧ (0 ≤ (4 : Int) ∧ (4 : Int) < 7)) ∧ LayM (m_lay h (4 : Int)) ∧ Q (some (vi (iH (m_lay h (4 : Int)) 71 13))) (m_lay h (4 : Int))) : Ct 1 mc ms mX12_write [vr 71] h Q := Ct.of (by decide +kernel) (Nat.le_of_ble_eq_true rfl) (t_X12_write_0 hL hv)
def b_X12_open_0 : List IE := [(.iload_n 1, 1, 0, 0, 1, 0)]
theorem k_X12_open_0 : ckB mX12_open 12 0 b_X12_open_0 1 = true := by decide +kernel
def b_X12_open_4 : List IE := []
theorem k_X12_open_4 : ckIf mX12_open 12 4 b_X12_open_4 4 1 6 10 7 = true := by decide +kernel
def b_X12_open_7 : List IE := [(.bipush (-2), 2, (-2), 0, 0, 0)]
theorem k_X12_open_7 : ckI mX12_open 12 7 b_X12_open_7 9 = true := by decide +kernel
def b_X12_open_10 : List IE := [(.aload_n 0, 1, 0, 0, 0, 0), (.getfield 34, 3, 0, 12, 9, 1), (.iload_n 1, 1, 0, 0, 1, 0), (.baload, 1, 0, 0, 0, 0)]
theorem k_X12_open_10 : ckIf mX12_open 12 10 b_X12_open_10 16 0 6 22 19 = true := by decide +kernel
def b_X12_open_19 : List IE := [(.bipush (-3), 2, (-3), 0, 0, 0)]
theorem k_X12_open_19 : ckI mX12_open 12 19 b_X12_open_19 21 = true := by decide +kernel
def b_X12_open_22 : List IE := [(.aload_n 0, 1, 0, 0, 0, 0), (.iload_n 1, 1, 0, 0, 1, 0)]
theorem k_X12_open_22 : ckB mX12_open 12 22 b_X12_open_22 24 = true := by decide +kernel
def b_X12_open_27 : List IE := [(.aload_n 0, 1, 0, 0, 0, 0), (.iconst 0, 1, 0, 0, 0, 0), (.aload_n 0, 1, 0, 0, 0, 0), (.getfield 106, 3, 0, 12, 13, 0)]
theorem k_X12_open_27 : ckB mX12_open 12 27 b_X12_open_27 33 = true := by decide +kernel
def b_X12_open_36 : List IE := []
theorem k_X12_open_36 : ckI mX12_open 12 36 b_X12_open_36 36 = true := by decide +kernel
theorem s_X12_open_1 : cS mX12_open 1 mX12_isView 263 1 := ⟨by decide +kernel, ⟨ml_X12_isView, li_RX12_263, st_X12_isView⟩, by decide +kernel⟩
theorem s_X12_open_24 : cV mX12_open 24 mX12_lay 246 1 12 := ⟨by decide +kernel, ⟨ml_X12_lay, li_RX12_246, im_X12_lay, se_X12_lay⟩, ⟨by decide +kernel, by decide +kernel⟩, by decide +kernel⟩
theorem s_X12_open_33 : cV mX12_open 33 mX12_liveIn 226 2 12 := ⟨by decide +kernel, ⟨ml_X12_liveIn, li_RX12_226, im_X12_liveIn, se_X12_liveIn⟩, ⟨by decide +kernel, by decide +kernel⟩, by decide +kernel⟩
theorem t_X12_open_0 {rc rs : Nat} {Q : Option AV → AH → Prop} {h : AH} {x1 : Int} (hL : LayM h) (hv : (((0 ≤ x1 ∧ x1 ≤ 3) → (0 ≤ x1 ∧ x1 < 7) ∧ (((iH h 1119 x1.toNat) = 0 → (m_nowL h ∧ (0 ≤ x1 ∧ x1 < 7)) ∧ LayM (m_lay h x1) ∧ (m_rng (m_lay h x1) (0 : Int) (iH (m_lay h x1) 71 13)) ∧ Q (some (vi (m_liveIn (m_lay h x1) (0 : Int) (iH (m_lay h x1) 71 13)))) (m_lay h x1)) ∧ ((iH h 1119 x1.toNat) ≠ 0 → Q (some (vi (-3))) h))) ∧ (¬ (0 ≤ x1 ∧ x1 ≤ 3) → Q (some (vi (-2))) h))) : wp mX12_open 2 rc rs Q 0 [some (vr 71), some (vi x1)] [] h :=
  (show wp mX12_open 2 rc rs Q 0 [some (vr 71), some (vi x1)] [] h from xcS k_X12_open_0 s_X12_open_1 ((Exists.intro [vi x1] (Exists.intro [] (And.intro (And.intro rfl (And.intro rfl (Nat.le_of_ble_eq_true rfl))) (Exists.intro 1 (Exists.intro 0 (Exists.intro 0 (Exists.intro _ (And.intro c_isView (And.intro (And.intro (by decide) (And.intro (Nat.zero_le _) (Nat.zero_le _))) (eQP (show wp mX12_open 2 rc rs Q 4 [some (vr 71), some (vi x1)] [vi (b01 (0 ≤ x1 ∧ x1 ≤ 3))] h from xIf k_X12_open_4 (And.intro (fun c1 => have v3 := hv.1 (b01_p.mp c1); (show wp mX12_open 2 rc rs Q 10 [some (vr 71), some (vi x1)] [] h from xIf k_X12_open_10 (And.intro (lm_71 hL) (Exists.intro 1119 (And.intro (lf_71_9 hL) (have c5 := v3.1; have v19 := v3.2; (And.intro (sdZ (lm_1119 hL) c5) (And.intro (fun c6 => have v8 := v19.1 c6; (show wp mX12_open 2 rc rs Q 22 [some (vr 71), some (vi x1)] [] h from xcV k_X12_open_22 s_X12_open_24 (have c17 := v8.1; have v18 := v8.2; (Exists.intro [vi x1] (Exists.intro 71 (Exists.intro [] (And.intro (And.intro rfl (And.intro rfl (Nat.le_of_ble_eq_true rfl))) (And.intro (lm_71 hL) (Exists.intro 0 (Exists.intro 0 (Exists.intro 0 (Exists.intro _ (And.intro (c_lay hL c17) (And.intro (And.intro (by decide) (And.intro (Nat.zero_le _) (Nat.zero_le _))) (eQPV (have hL := v18.1; have v13 := v18.2; (show wp mX12_open 2 rc rs Q 27 [some (vr 71), some (vi x1)] [] (m_lay h x1) from xcV k_X12_open_27 s_X12_open_33 (And.intro (lm_71 hL) (have c14 := v13.1; have v15 := v13.2; (Exists.intro [vi 0, vi (iH (m_lay h x1) 71 13)] (Exists.intro 71 (Exists.intro [] (And.intro (And.intro rfl (And.intro rfl (Nat.le_of_ble_eq_true rfl))) (And.intro (lm_71 hL) (Exists.intro 1 (Exists.intro 0 (Exists.intro 0 (Exists.intro _ (And.intro (c_liveIn hL c14) (And.intro (And.intro (by decide) (And.intro (Nat.zero_le _) (Nat.zero_le _))) (eQP (show wp mX12_open 2 rc rs Q 36 [some (vr 71), some (vi x1)] [vi (m_liveIn (m_lay h x1) (0 : Int) (iH (m_lay h x1) 71 13))] (m_lay h x1) from xI k_X12_open_36 (And.intro rfl v15))))))))))))))))))))))))))))))))) (fun c7 => have v9 := v19.2 c7; (show wp mX12_open 2 rc rs Q 19 [some (vr 71), some (vi x1)] [] h from xI k_X12_open_19 (And.intro rfl v9))))))))))) (fun c2 => have v4 := hv.2 (b01_nn.mp c2); (show wp mX12_open 2 rc rs Q 7 [some (vr 71), some (vi x1)] [] h from xI k_X12_open_7 (And.intro rfl v4)))))))))))))))))
theorem e_X12_open {mc ms : Nat} {Q : Option AV → AH → Prop} {h : AH} {x1 : Int} (hL : LayM h) (hv : (((0 ≤ x1 ∧ x1 ≤ 3) → (0 ≤ x1 ∧ x1 < 7) ∧ (((iH h 1119 x1.toNat) = 0 → (m_nowL h ∧ (0 ≤ x1 ∧ x1 < 7)) ∧ LayM (m_lay h x1) ∧ (m_rng (m_lay h x1) (0 : Int) (iH (m_lay h x1) 71 13)) ∧ Q (some (vi (m_liveIn (m_lay h x1) (0 : Int) (iH (m_lay h x1) 71 13)))) (m_lay h x1)) ∧ ((iH h 1119 x1.toNat) ≠ 0 → Q (some (vi (-3))) h))) ∧ (¬ (0 ≤ x1 ∧ x1 ≤ 3) → Q (some (vi (-2))) h))) : Ct 2 mc ms mX12_open [vr 71, vi x1] h Q := Ct.of (by decide +kernel) (Nat.le_of_ble_eq_true rfl) (t_X12_open_0 hL hv)
def b_X12_handOn_0 : List IE := [(.aload_n 0, 1, 0, 0, 0, 0), (.getfield 34, 3, 0, 12, 9, 1), (.iload_n 2, 1, 0, 0, 2, 0), (.iconst 1, 1, 1, 0, 0, 0), (.bastore, 1, 0, 0, 0, 0), (.aload_n 0, 1, 0, 0, 0, 0), (.getfield 37, 3, 0, 12, 10, 1), (.iload_n 2, 1, 0, 0, 2, 0), (.aload_n 0, 1, 0, 0, 0, 0), (.getfield 37, 3, 0, 12, 10, 1), (.iload_n 1, 1, 0, 0, 1, 0), (.iaload, 1, 0, 0, 0, 0), (.iastore, 1, 0, 0, 0, 0), (.aload_n 0, 1, 0, 0, 0, 0), (.getfield 40, 3, 0, 12, 11, 1), (.iload_n 1, 1, 0, 0, 1, 0), (.aaload, 1, 0, 0, 0, 0), (.iconst 0, 1, 0, 0, 0, 0), (.aload_n 0, 1, 0, 0, 0, 0), (.getfield 40, 3, 0, 12, 11, 1), (.iload_n 2, 1, 0, 0, 2, 0), (.aaload, 1, 0, 0, 0, 0), (.iconst 0, 1, 0, 0, 0, 0), (.bipush 8, 2, 8, 0, 0, 0)]
theorem k_X12_handOn_0 : ckB mX12_handOn 12 0 b_X12_handOn_0 35 = true := by decide +kernel
def b_X12_handOn_38 : List IE := [(.aload_n 0, 1, 0, 0, 0, 0), (.getfield 45, 3, 0, 12, 12, 1), (.iload_n 1, 1, 0, 0, 1, 0), (.aaload, 1, 0, 0, 0, 0), (.iconst 0, 1, 0, 0, 0, 0), (.aload_n 0, 1, 0, 0, 0, 0), (.getfield 45, 3, 0, 12, 12, 1), (.iload_n 2, 1, 0, 0, 2, 0), (.aaload, 1, 0, 0, 0, 0), (.iconst 0, 1, 0, 0, 0, 0), (.bipush 64, 2, 64, 0, 0, 0)]
theorem k_X12_handOn_38 : ckB mX12_handOn 12 38 b_X12_handOn_38 54 = true := by decide +kernel
def b_X12_handOn_57 : List IE := []
theorem k_X12_handOn_57 : ckV mX12_handOn 12 57 b_X12_handOn_57 57 = true := by decide +kernel
theorem s_X12_handOn_35 : cCp mX12_handOn 35 162 := ⟨by decide +kernel, gt_ok (List.mem_of_getElem? (i := 1175) (by decide +kernel)) (by decide +kernel), gt_ok (List.mem_of_getElem? (i := 447) (by decide +kernel)) (by decide +kernel), gt_ok (List.mem_of_getElem? (i := 446) (by decide +kernel)) (by decide +kernel), gt_ok (List.mem_of_getElem? (i := 103) (by decide +kernel)) (by decide +kernel)⟩
theorem s_X12_handOn_54 : cCp mX12_handOn 54 162 := ⟨by decide +kernel, gt_ok (List.mem_of_getElem? (i := 1175) (by decide +kernel)) (by decide +kernel), gt_ok (List.mem_of_getElem? (i := 447) (by decide +kernel)) (by decide +kernel), gt_ok (List.mem_of_getElem? (i := 446) (by decide +kernel)) (by decide +kernel), gt_ok (List.mem_of_getElem? (i := 103) (by decide +kernel)) (by decide +kernel)⟩
theorem t_X12_handOn_0 {rc rs : Nat} {Q : Option AV → AH → Prop} {h : AH} {x1 x2 : Int} (hL : LayM h) (hv : (0 ≤ x2 ∧ x2 < 7) ∧ (0 ≤ x1 ∧ x1 < 7) ∧ (0 ≤ (0 : Int) ∧ 0 ≤ (0 : Int) ∧ 0 ≤ (8 : Int) ∧ (0 : Int) + (8 : Int) ≤ 8 ∧ (0 : Int) + (8 : Int) ≤ 8) ∧ ((0 ≤ (0 : Int) ∧ 0 ≤ (0 : Int) ∧ 0 ≤ (64 : Int) ∧ (0 : Int) + (64 : Int) ≤ 64 ∧ (0 : Int) + (64 : Int) ≤ 64) ∧ ∀ i, i < (64 : Int).toNat → iH (cpI (sI (sI h 1119 x2.toNat 1) 1120 x2.toNat (iH h 1120 x1.toNat)) (1122 + x1.toNat) 0 (1122 + x2.toNat) 0 8) (1130 + x1.toNat) ((0 : Int).toNat + i) = 0 ∨ iH (cpI (sI (sI h 1119 x2.toNat 1) 1120 x2.toNat (iH h 1120 x1.toNat)) (1122 + x1.toNat) 0 (1122 + x2.toNat) 0 8) (1130 + x1.toNat) ((0 : Int).toNat + i) = 1) ∧ Q none (cpI (cpI (sI (sI h 1119 x2.toNat 1) 1120 x2.toNat (iH h 1120 x1.toNat)) (1122 + x1.toNat) 0 (1122 + x2.toNat) 0 8) (1130 + x1.toNat) 0 (1130 + x2.toNat) 0 64)) : wp mX12_handOn 1 rc rs Q 0 [some (vr 71), some (vi x1), some (vi x2)] [] h :=
  (show wp mX12_handOn 1 rc rs Q 0 [some (vr 71), some (vi x1), some (vi x2)] [] h from xcp k_X12_handOn_0 s_X12_handOn_35 (And.intro (lm_71 hL) (Exists.intro 1119 (And.intro (lf_71_9 hL) (have c1 := hv.1; have v13 := hv.2; (And.intro (sdZs (lm_1119 hL) c1 (Or.inr rfl)) (And.intro (lm_71 hL) (Exists.intro 1120 (And.intro (lf_71_10 hL) (And.intro (lm_71 hL) (Exists.intro 1120 (And.intro (lf_71_10 hL) (have c2 := v13.1; have v12 := v13.2; (And.intro (sdI (lm_1120 hL) c2) (And.intro (sdI (lm_1120 hL) c1) (And.intro (lm_71 hL) (Exists.intro 1121 (And.intro (lf_71_11 hL) (And.intro (sdQ (lm_1121 hL) c2) (Exists.intro (1122 + x1.toNat) (And.intro (lr_rows hL (tnl c2)) (And.intro (lm_71 hL) (Exists.intro 1121 (And.intro (lf_71_11 hL) (And.intro (sdQ (lm_1121 hL) c1) (Exists.intro (1122 + x2.toNat) (And.intro (lr_rows hL (tnl c1)) (have c10 := v12.1; have v11 := v12.2; Exists.intro _ (Exists.intro _ (Exists.intro 13 (And.intro (lk_rows hL (tnl c2)) (And.intro (lk_rows hL (tnl c1)) (And.intro (Or.inl rfl) (And.intro c10 (And.intro (And.intro (Nat.le_of_ble_eq_true rfl) (Nat.le_of_ble_eq_true rfl)) (show wp mX12_handOn 1 rc rs Q 38 [some (vr 71), some (vi x1), some (vi x2)] [] (cpI (sI (sI h 1119 x2.toNat 1) 1120 x2.toNat (iH h 1120 x1.toNat)) (1122 + x1.toNat) 0 (1122 + x2.toNat) 0 8) from xcp k_X12_handOn_38 s_X12_handOn_54 (And.intro (lm_71 hL) (Exists.intro 1129 (And.intro (lf_71_12 hL) (And.intro (sdQ (lm_1129 hL) c2) (Exists.intro (1130 + x1.toNat) (And.intro (lr_wasDropped hL (tnl c2)) (And.intro (lm_71 hL) (Exists.intro 1129 (And.intro (lf_71_12 hL) (And.intro (sdQ (lm_1129 hL) c1) (Exists.intro (1130 + x2.toNat) (And.intro (lr_wasDropped hL (tnl c1)) (have c8 := v11.1; have v9 := v11.2; Exists.intro _ (Exists.intro _ (Exists.intro 15 (And.intro (lk_wasDropped hL (tnl c2)) (And.intro (lk_wasDropped hL (tnl c1)) (And.intro (Or.inr (And.intro rfl c8.2)) (And.intro c8.1 (And.intro (And.intro (Nat.le_of_ble_eq_true rfl) (Nat.le_of_ble_eq_true rfl)) (show wp mX12_handOn 1 rc rs Q 57 [some (vr 71), some (vi x1), some (vi x2)] [] (cpI (cpI (sI (sI h 1119 x2.toNat 1) 1120 x2.toNat (iH h 1120 x1.toNat)) (1122 + x1.toNat) 0 (1122 + x2.toNat) 0 8) (1130 + x1.toNat) 0 (1130 + x2.toNat) 0 64) from xV k_X12_handOn_57 (And.intro rfl v9))))))))))))))))))))))))))))))))))))))))))))))))))))))))))
theorem e_X12_handOn {mc ms : Nat} {Q : Option AV → AH → Prop} {h : AH} {x1 x2 : Int} (hL : LayM h) (hv : (0 ≤ x2 ∧ x2 < 7) ∧ (0 ≤ x1 ∧ x1 < 7) ∧ (0 ≤ (0 : Int) ∧ 0 ≤ (0 : Int) ∧ 0 ≤ (8 : Int) ∧ (0 : Int) + (8 : Int) ≤ 8 ∧ (0 : Int) + (8 : Int) ≤ 8) ∧ ((0 ≤ (0 : Int) ∧ 0 ≤ (0 : Int) ∧ 0 ≤ (64 : Int) ∧ (0 : Int) + (64 : Int) ≤ 64 ∧ (0 : Int) + (64 : Int) ≤ 64) ∧ ∀ i, i < (64 : Int).toNat → iH (cpI (sI (sI h 1119 x2.toNat 1) 1120 x2.toNat (iH h 1120 x1.toNat)) (1122 + x1.toNat) 0 (1122 + x2.toNat) 0 8) (1130 + x1.toNat) ((0 : Int).toNat + i) = 0 ∨ iH (cpI (sI (sI h 1119 x2.toNat 1) 1120 x2.toNat (iH h 1120 x1.toNat)) (1122 + x1.toNat) 0 (1122 + x2.toNat) 0 8) (1130 + x1.toNat) ((0 : Int).toNat + i) = 1) ∧ Q none (cpI (cpI (sI (sI h 1119 x2.toNat 1) 1120 x2.toNat (iH h 1120 x1.toNat)) (1122 + x1.toNat) 0 (1122 + x2.toNat) 0 8) (1130 + x1.toNat) 0 (1130 + x2.toNat) 0 64)) : Ct 1 mc ms mX12_handOn [vr 71, vi x1, vi x2] h Q := Ct.of (by decide +kernel) (Nat.le_of_ble_eq_true rfl) (t_X12_handOn_0 hL hv)
def b_X12_heldSegments_0 : List IE := [(.aload_n 0, 1, 0, 0, 0, 0), (.bipush 6, 2, 6, 0, 0, 0)]
theorem k_X12_heldSegments_0 : ckB mX12_heldSegments 12 0 b_X12_heldSegments_0 3 = true := by decide +kernel
def b_X12_heldSegments_6 : List IE := [(.iconst 0, 1, 0, 0, 0, 0), (.istore_n 1, 1, 0, 0, 1, 0), (.iconst 0, 1, 0, 0, 0, 0), (.istore_n 2, 1, 0, 0, 2, 0)]
theorem k_X12_heldSegments_6 : ckB mX12_heldSegments 12 6 b_X12_heldSegments_6 10 = true := by decide +kernel
def b_X12_heldSegments_10 : List IE := [(.iload_n 2, 1, 0, 0, 2, 0), (.aload_n 0, 1, 0, 0, 0, 0), (.getfield 168, 3, 0, 12, 5, 0)]
theorem k_X12_heldSegments_10 : ckIc mX12_heldSegments 12 10 b_X12_heldSegments_10 15 3 44 59 18 = true := by decide +kernel
def b_X12_heldSegments_18 : List IE := [(.iconst 0, 1, 0, 0, 0, 0), (.istore_n 3, 1, 0, 0, 3, 0), (.iconst 0, 1, 0, 0, 0, 0), (.istore 4, 2, 0, 0, 4, 0)]
theorem k_X12_heldSegments_18 : ckB mX12_heldSegments 12 18 b_X12_heldSegments_18 23 = true := by decide +kernel
def b_X12_heldSegments_23 : List IE := [(.iload 4, 2, 0, 0, 4, 0), (.bipush 6, 2, 6, 0, 0, 0)]
theorem k_X12_heldSegments_23 : ckIc mX12_heldSegments 12 23 b_X12_heldSegments_23 27 4 19 46 30 = true := by decide +kernel
def b_X12_heldSegments_30 : List IE := [(.iload_n 3, 1, 0, 0, 3, 0), (.aload_n 0, 1, 0, 0, 0, 0), (.iload 4, 2, 0, 0, 4, 0), (.iload_n 2, 1, 0, 0, 2, 0)]
theorem k_X12_heldSegments_30 : ckB mX12_heldSegments 12 30 b_X12_heldSegments_30 35 = true := by decide +kernel
def b_X12_heldSegments_38 : List IE := [(.ior, 1, 0, 0, 0, 0), (.istore_n 3, 1, 0, 0, 3, 0), (.iinc 4 1, 3, 1, 0, 4, 0)]
theorem k_X12_heldSegments_38 : ckGo mX12_heldSegments 12 38 b_X12_heldSegments_38 43 (-20) 23 = true := by decide +kernel
def b_X12_heldSegments_46 : List IE := [(.iload_n 3, 1, 0, 0, 3, 0)]
theorem k_X12_heldSegments_46 : ckIf mX12_heldSegments 12 46 b_X12_heldSegments_46 47 0 6 53 50 = true := by decide +kernel
def b_X12_heldSegments_50 : List IE := [(.iinc 1 1, 3, 1, 0, 1, 0), (.iinc 2 1, 3, 1, 0, 2, 0)]
theorem k_X12_heldSegments_50 : ckGo mX12_heldSegments 12 50 b_X12_heldSegments_50 56 (-46) 10 = true := by decide +kernel
def b_X12_heldSegments_53 : List IE := [(.iinc 2 1, 3, 1, 0, 2, 0)]
theorem k_X12_heldSegments_53 : ckGo mX12_heldSegments 12 53 b_X12_heldSegments_53 56 (-46) 10 = true := by decide +kernel
def b_X12_heldSegments_59 : List IE := [(.iload_n 1, 1, 0, 0, 1, 0)]
theorem k_X12_heldSegments_59 : ckI mX12_heldSegments 12 59 b_X12_heldSegments_59 60 = true := by decide +kernel
theorem s_X12_heldSegments_3 : cV mX12_heldSegments 3 mX12_lay 246 1 12 := ⟨by decide +kernel, ⟨ml_X12_lay, li_RX12_246, im_X12_lay, se_X12_lay⟩, ⟨by decide +kernel, by decide +kernel⟩, by decide +kernel⟩
theorem s_X12_heldSegments_35 : cV mX12_heldSegments 35 mX12_stands 250 2 12 := ⟨by decide +kernel, ⟨ml_X12_stands, li_RX12_250, im_X12_stands, se_X12_stands⟩, ⟨by decide +kernel, by decide +kernel⟩, by decide +kernel⟩
theorem t_X12_heldSegments_0 {rc rs : Nat} {Q : Option AV → AH → Prop} {h : AH}  (hL : LayM h) (hv : (m_nowL h ∧ (0 ≤ (6 : Int) ∧ (6 : Int) < 7)) ∧ LayM (m_lay h (6 : Int)) ∧ wp mX12_heldSegments 1 rc rs Q 10 [some (vr 71), some (vi 0), some (vi 0), none, none] [] (m_lay h (6 : Int))) : wp mX12_heldSegments 1 rc rs Q 0 [some (vr 71), none, none, none, none] [] h :=
  (show wp mX12_heldSegments 1 rc rs Q 0 [some (vr 71), none, none, none, none] [] h from xcV k_X12_heldSegments_0 s_X12_heldSegments_3 (have c5 := hv.1; have v6 := hv.2; (Exists.intro [vi 6] (Exists.intro 71 (Exists.intro [] (And.intro (And.intro rfl (And.intro rfl (Nat.le_of_ble_eq_true rfl))) (And.intro (lm_71 hL) (Exists.intro 0 (Exists.intro 0 (Exists.intro 0 (Exists.intro _ (And.intro (c_lay hL c5) (And.intro (And.intro (by decide) (And.intro (Nat.zero_le _) (Nat.zero_le _))) (eQPV (have hL := v6.1; have v4 := v6.2; (show wp mX12_heldSegments 1 rc rs Q 6 [some (vr 71), none, none, none, none] [] (m_lay h (6 : Int)) from xB k_X12_heldSegments_6 (And.intro rfl (And.intro rfl v4))))))))))))))))))
theorem e_X12_heldSegments {mc ms : Nat} {Q : Option AV → AH → Prop} {h : AH}  (hL : LayM h) (hv : (m_nowL h ∧ (0 ≤ (6 : Int) ∧ (6 : Int) < 7)) ∧ LayM (m_lay h (6 : Int)) ∧ wp mX12_heldSegments 1 mc ms Q 10 [some (vr 71), some (vi 0), some (vi 0), none, none] [] (m_lay h (6 : Int))) : Ct 1 mc ms mX12_heldSegments [vr 71] h Q := Ct.of (by decide +kernel) (Nat.le_of_ble_eq_true rfl) (t_X12_heldSegments_0 hL hv)
theorem t_X12_heldSegments_10 {rc rs : Nat} {Q : Option AV → AH → Prop} {h : AH} {x1 x2 : Int} (hL : LayM h) (hv : (((iH h 71 5) ≤ x2 → Q (some (vi x1)) h) ∧ (x2 < (iH h 71 5) → wp mX12_heldSegments 1 rc rs Q 23 [some (vr 71), some (vi x1), some (vi x2), some (vi 0), some (vi 0)] [] h))) : wp mX12_heldSegments 1 rc rs Q 10 [some (vr 71), some (vi x1), some (vi x2), none, none] [] h :=
  (show wp mX12_heldSegments 1 rc rs Q 10 [some (vr 71), some (vi x1), some (vi x2), none, none] [] h from xIc k_X12_heldSegments_10 (And.intro (lm_71 hL) (And.intro (fun c1 => have v3 := hv.1 c1; (show wp mX12_heldSegments 1 rc rs Q 59 [some (vr 71), some (vi x1), some (vi x2), none, none] [] h from xI k_X12_heldSegments_59 (And.intro rfl v3))) (fun c2 => have v4 := hv.2 (Int.not_le.mp c2); (show wp mX12_heldSegments 1 rc rs Q 18 [some (vr 71), some (vi x1), some (vi x2), none, none] [] h from xB k_X12_heldSegments_18 (And.intro rfl (And.intro rfl v4)))))))
theorem t_X12_heldSegments_23 {rc rs : Nat} {Q : Option AV → AH → Prop} {h : AH} {x1 x2 x3 x4 : Int} (hL : LayM h) (hv : ((6 < x4 → ((x3 = 0 → (-2147483648 ≤ (x2 + 1) ∧ (x2 + 1) < 2147483648) ∧ wp mX12_heldSegments 1 rc rs Q 10 [some (vr 71), some (vi x1), some (vi (x2 + 1)), none, none] [] h) ∧ (x3 ≠ 0 → (-2147483648 ≤ (x1 + 1) ∧ (x1 + 1) < 2147483648) ∧ (-2147483648 ≤ (x2 + 1) ∧ (x2 + 1) < 2147483648) ∧ wp mX12_heldSegments 1 rc rs Q 10 [some (vr 71), some (vi (x1 + 1)), some (vi (x2 + 1)), none, none] [] h))) ∧ (x4 ≤ 6 → (m_std h x4) ∧ (-2147483648 ≤ (x4 + 1) ∧ (x4 + 1) < 2147483648) ∧ wp mX12_heldSegments 1 rc rs Q 23 [some (vr 71), some (vi x1), some (vi x2), some (vi (orI x3 (b01 (m_stands h x4 x2)))), some (vi (x4 + 1))] [] h))) : wp mX12_heldSegments 1 rc rs Q 23 [some (vr 71), some (vi x1), some (vi x2), some (vi x3), some (vi x4)] [] h :=
  (show wp mX12_heldSegments 1 rc rs Q 23 [some (vr 71), some (vi x1), some (vi x2), some (vi x3), some (vi x4)] [] h from xIc k_X12_heldSegments_23 (And.intro (fun c1 => have v3 := hv.1 c1; (show wp mX12_heldSegments 1 rc rs Q 46 [some (vr 71), some (vi x1), some (vi x2), some (vi x3), some (vi x4)] [] h from xIf k_X12_heldSegments_46 (And.intro (fun c5 => have v7 := v3.1 c5; (show wp mX12_heldSegments 1 rc rs Q 53 [some (vr 71), some (vi x1), some (vi x2), some (vi x3), some (vi x4)] [] h from xGo k_X12_heldSegments_53 (have c9 := v7.1; have v10 := v7.2; (And.intro c9 (And.intro rfl (w_fg [true, true, true, false, false] v10)))))) (fun c6 => have v8 := v3.2 c6; (show wp mX12_heldSegments 1 rc rs Q 50 [some (vr 71), some (vi x1), some (vi x2), some (vi x3), some (vi x4)] [] h from xGo k_X12_heldSegments_50 (have c11 := v8.1; have v14 := v8.2; (And.intro c11 (And.intro rfl (have c12 := v14.1; have v13 := v14.2; (And.intro c12 (And.intro rfl (w_fg [true, true, true, false, false] v13)))))))))))) (fun c2 => have v4 := hv.2 (Int.not_lt.mp c2); (show wp mX12_heldSegments 1 rc rs Q 30 [some (vr 71), some (vi x1), some (vi x2), some (vi x3), some (vi x4)] [] h from xcV k_X12_heldSegments_30 s_X12_heldSegments_35 (have c17 := v4.1; have v18 := v4.2; (Exists.intro [vi x4, vi x2] (Exists.intro 71 (Exists.intro [vi x3] (And.intro (And.intro rfl (And.intro rfl (Nat.le_of_ble_eq_true rfl))) (And.intro (lm_71 hL) (Exists.intro 0 (Exists.intro 0 (Exists.intro 0 (Exists.intro _ (And.intro (c_stands hL c17) (And.intro (And.intro (by decide) (And.intro (Nat.zero_le _) (Nat.zero_le _))) (eQP (show wp mX12_heldSegments 1 rc rs Q 38 [some (vr 71), some (vi x1), some (vi x2), some (vi x3), some (vi x4)] [vi (b01 (m_stands h x4 x2)), vi x3] h from xGo k_X12_heldSegments_38 (And.intro rfl (have c15 := v18.1; have v16 := v18.2; (And.intro c15 (And.intro rfl v16))))))))))))))))))))))
theorem c_write {h : AH} (hL : LayM h) (hn : m_nowL h) : Ct 1 0 0 mX12_write [vr 71] h (QI fun x h' => x = iH h 71 13 ∧ h' = m_lay h 4) :=
  e_X12_write hL ⟨⟨hn, by omega⟩, by exact hL, _, rfl, rL (by decide) (by decide) (by decide) (by decide), rfl⟩
def p_open (h : AH) (v : Int) (x : Int) (h' : AH) : Prop := (¬ (0 ≤ v ∧ v ≤ 3) ∧ x = -2 ∧ h' = h) ∨ ((0 ≤ v ∧ v ≤ 3) ∧ iH h 1119 v.toNat ≠ 0 ∧ x = -3 ∧ h' = h) ∨ ((0 ≤ v ∧ v ≤ 3) ∧ iH h 1119 v.toNat = 0 ∧ x = m_liveIn h 0 (iH h 71 13) ∧ h' = m_lay h v)
theorem c_open {h : AH} (hL : LayM h) {v : Int} (hn : m_nowL h) : Ct 2 0 0 mX12_open [vr 71, vi v] h (QI (p_open h v)) := by
  refine e_X12_open hL ⟨fun c => ⟨by omega, fun c2 => ⟨⟨hn, by omega⟩, by exact hL, ?_⟩, fun c2 => ⟨_, rfl, Or.inr (Or.inl ⟨c, c2, rfl, rfl⟩)⟩⟩, fun c => ⟨_, rfl, Or.inl ⟨c, rfl, rfl⟩⟩⟩
  have r1 : iH (m_lay h v) 71 13 = iH h 71 13 := rL (by decide) (by decide) (by omega) (by omega)
  have e1 : ∀ k, iH (m_lay h v) 595 k = iH h 595 k := fun k => rL (by decide) (by decide) (by omega) (by omega)
  have e2 : ∀ k, iH (m_lay h v) 597 k = iH h 597 k := fun k => rL (by decide) (by decide) (by omega) (by omega)
  have e3 : ∀ g k, g < 520 → iH (m_lay h v) (599 + g) k = iH h (599 + g) k := fun g k hg => rL (by omega) (by omega) (by omega) (by omega)
  have e4 : ∀ k, iH (m_lay h v) 1137 k = iH h 1137 k := fun k => rL (by decide) (by decide) (by omega) (by omega)
  have hr := m_rng_all hn.1
  rw [r1]
  exact ⟨m_rng_cg hr e2 e3 e4, _, rfl, Or.inr (Or.inr ⟨c, c2, m_liveIn_cg hr e1 e2 e3 e4, rfl⟩)⟩
def m_hand (h : AH) (a b : Nat) : AH := cpI (cpI (sI (sI h 1119 b 1) 1120 b (iH h 1120 a)) (1122 + a) 0 (1122 + b) 0 8) (1130 + a) 0 (1130 + b) 0 64
theorem c_handOn {h : AH} (hL : LayM h) {a b : Int} (hp : (0 ≤ a ∧ a < 7) ∧ (0 ≤ b ∧ b < 7) ∧ ∀ k : Nat, k < 64 → iH h (1130 + a.toNat) k = 0 ∨ iH h (1130 + a.toNat) k = 1) : Ct 1 0 0 mX12_handOn [vr 71, vi a, vi b] h (QV fun h' => h' = m_hand h a.toNat b.toNat) := by
  refine e_X12_handOn hL ⟨hp.2.1, hp.1, by omega, ⟨by omega, fun i hi => ?_⟩, rfl, rfl⟩
  have := hp.2.2 i (by omega)
  unfold cpI
  simp (disch := omega) only [rW_ne, rI_ne]
  simpa using this
def m_heldP (h : AH) (g : Nat) : Prop := ∃ t : Nat, t < 7 ∧ m_stands h t g
noncomputable def m_hs (h : AH) : Int := cnt (m_heldP (m_lay h 6)) (iH h 71 5).toNat
theorem m_std_lay {h : AH} {t : Int} (hn : m_now h) (ht : 0 ≤ t ∧ t < 7) (hs : ∀ v : Nat, v < 7 → m_std h v) (v : Nat) (hv : v < 7) : m_std (m_lay h t) v := by
  have h1 := hs v hv
  have h2 := hn.1
  refine ⟨h1.1, ?_⟩
  have e : iH (m_lay h t) 1120 v = if v = t.toNat then iH h 71 13 else iH h 1120 v := by
    unfold m_lay m_layB
    rw [rW_ne (by omega), rW_ne (by omega), rI_if, rI_ne (by decide)]
  show 0 ≤ iH (m_lay h t) 1120 v ∧ iH (m_lay h t) 1120 v ≤ 8
  rw [e]
  have h3 : 0 ≤ iH h 1120 v ∧ iH h 1120 v ≤ 8 := h1.2
  split
  · exact h2
  · exact h3
theorem c_heldSegments {h : AH} (hL : LayM h) (hp : m_nowL h ∧ (0 ≤ iH h 71 5 ∧ iH h 71 5 ≤ 520) ∧ ∀ v : Nat, v < 7 → m_std h v) : Ct 1 0 0 mX12_heldSegments [vr 71] h (QI fun x h' => x = m_hs h ∧ h' = m_lay h 6) := by
  obtain ⟨hn, hse, hv⟩ := hp
  refine e_X12_heldSegments hL ⟨⟨hn, by omega⟩, by exact hL, ?_⟩
  have r1 : iH (m_lay h 6) 71 5 = iH h 71 5 := rL (by decide) (by decide) (by decide) (by decide)
  have hv' := m_std_lay (t := 6) hn.1 (by omega) hv
  refine up (P := fun g => wp mX12_heldSegments 1 _ _ _ 10 [some (vr 71), some (vi (cnt (m_heldP (m_lay h 6)) g)), some (vi g), none, none] [] (m_lay h 6)) (iH h 71 5).toNat ?_ ?_
  · refine t_X12_heldSegments_10 (by exact hL) ?_
    rw [r1]
    exact ⟨fun _ => ⟨_, rfl, rfl, rfl⟩, fun q => absurd q (by omega)⟩
  · intro g hg ih
    have hb := cnt_bd (m_heldP (m_lay h 6)) g
    refine t_X12_heldSegments_10 (by exact hL) ?_
    rw [r1]
    refine ⟨fun q => absurd q (by omega), fun _ => ?_⟩
    have e0 : (0 : Int) = b01 (∃ t : Nat, t < 0 ∧ m_stands (m_lay h 6) t g) := (b01_f (fun ⟨t, ht, _⟩ => by omega)).symm
    have main : wp mX12_heldSegments 1 0 0 (QI fun x h' => x = m_hs h ∧ h' = m_lay h 6) 23 [some (vr 71), some (vi (cnt (m_heldP (m_lay h 6)) g)), some (vi g), some (vi (b01 (∃ t : Nat, t < 0 ∧ m_stands (m_lay h 6) t g))), some (vi ((0 : Nat) : Int))] [] (m_lay h 6) := by
      refine up (P := fun t => wp mX12_heldSegments 1 _ _ _ 23 [some (vr 71), some (vi (cnt (m_heldP (m_lay h 6)) g)), some (vi g), some (vi (b01 (∃ u : Nat, u < t ∧ m_stands (m_lay h 6) u g))), some (vi t)] [] (m_lay h 6)) 7 ?_ ?_
      · refine t_X12_heldSegments_23 (by exact hL) ⟨fun _ => ⟨fun q => ⟨by omega, ?_⟩, fun q => ⟨by omega, by omega, ?_⟩⟩, fun q => absurd q (by omega)⟩
        · rw [← cnt_n (p := m_heldP (m_lay h 6)) (n := g) (b01_n.mp q)]; exact ih
        · rw [← cnt_s (p := m_heldP (m_lay h 6)) (n := g) (b01_p.mp q)]; exact ih
      · intro t ht ih2
        refine t_X12_heldSegments_23 (by exact hL) ⟨fun q => absurd q (by omega), fun _ => ⟨hv' t ht, by omega, ?_⟩⟩
        rw [orI_b, show ((∃ u : Nat, u < t ∧ m_stands (m_lay h 6) u g) ∨ m_stands (m_lay h 6) t g) = (∃ u : Nat, u < t + 1 ∧ m_stands (m_lay h 6) u g) from propext ⟨fun q => by
          rcases q with ⟨u, hu, q⟩ | q
          · exact ⟨u, by omega, q⟩
          · exact ⟨t, by omega, q⟩, fun ⟨u, hu, q⟩ => by
          by_cases e : u = t
          · subst e; exact Or.inr q
          · exact Or.inl ⟨u, by omega, q⟩⟩]
        exact ih2
    rw [← e0] at main
    exact main
def b_X12_commit_0 : List IE := [(.aload_n 0, 1, 0, 0, 0, 0), (.getfield 34, 3, 0, 12, 9, 1), (.iconst 4, 1, 4, 0, 0, 0), (.baload, 1, 0, 0, 0, 0)]
theorem k_X12_commit_0 : ckIf mX12_commit 12 0 b_X12_commit_0 6 1 6 12 9 = true := by decide +kernel
def b_X12_commit_9 : List IE := [(.bipush (-3), 2, (-3), 0, 0, 0)]
theorem k_X12_commit_9 : ckI mX12_commit 12 9 b_X12_commit_9 11 = true := by decide +kernel
def b_X12_commit_12 : List IE := [(.aload_n 0, 1, 0, 0, 0, 0), (.iconst 4, 1, 4, 0, 0, 0), (.iconst 5, 1, 5, 0, 0, 0)]
theorem k_X12_commit_12 : ckB mX12_commit 12 12 b_X12_commit_12 15 = true := by decide +kernel
def b_X12_commit_18 : List IE := [(.aload_n 0, 1, 0, 0, 0, 0), (.getfield 34, 3, 0, 12, 9, 1), (.iconst 4, 1, 4, 0, 0, 0), (.iconst 0, 1, 0, 0, 0, 0), (.bastore, 1, 0, 0, 0, 0), (.aload_n 0, 1, 0, 0, 0, 0), (.getfield 37, 3, 0, 12, 10, 1), (.iconst 5, 1, 5, 0, 0, 0), (.iaload, 1, 0, 0, 0, 0)]
theorem k_X12_commit_18 : ckI mX12_commit 12 18 b_X12_commit_18 31 = true := by decide +kernel
theorem s_X12_commit_15 : cV mX12_commit 15 mX12_handOn 253 2 12 := ⟨by decide +kernel, ⟨ml_X12_handOn, li_RX12_253, im_X12_handOn, se_X12_handOn⟩, ⟨by decide +kernel, by decide +kernel⟩, by decide +kernel⟩
theorem t_X12_commit_0 {rc rs : Nat} {Q : Option AV → AH → Prop} {h : AH}  (hL : LayM h) (hv : (((iH h 1119 4) ≠ 0 → ((0 ≤ (4 : Int) ∧ (4 : Int) < 7) ∧ (0 ≤ (5 : Int) ∧ (5 : Int) < 7) ∧ ∀ k : Nat, k < 64 → iH h (1130 + ((4 : Int)).toNat) k = 0 ∨ iH h (1130 + ((4 : Int)).toNat) k = 1) ∧ LayM (m_hand h ((4 : Int)).toNat ((5 : Int)).toNat) ∧ Q (some (vi (iH (m_hand h ((4 : Int)).toNat ((5 : Int)).toNat) 1120 5))) (sI (m_hand h ((4 : Int)).toNat ((5 : Int)).toNat) 1119 4 0)) ∧ ((iH h 1119 4) = 0 → Q (some (vi (-3))) h))) : wp mX12_commit 2 rc rs Q 0 [some (vr 71)] [] h :=
  (show wp mX12_commit 2 rc rs Q 0 [some (vr 71)] [] h from xIf k_X12_commit_0 (And.intro (lm_71 hL) (Exists.intro 1119 (And.intro (lf_71_9 hL) (And.intro (sdZ (lm_1119 hL) (by decide)) (And.intro (fun c1 => have v3 := hv.1 c1; (show wp mX12_commit 2 rc rs Q 12 [some (vr 71)] [] h from xcV k_X12_commit_12 s_X12_commit_15 (have c9 := v3.1; have v10 := v3.2; (Exists.intro [vi 4, vi 5] (Exists.intro 71 (Exists.intro [] (And.intro (And.intro rfl (And.intro rfl (Nat.le_of_ble_eq_true rfl))) (And.intro (lm_71 hL) (Exists.intro 1 (Exists.intro 0 (Exists.intro 0 (Exists.intro _ (And.intro (c_handOn hL c9) (And.intro (And.intro (by decide) (And.intro (Nat.zero_le _) (Nat.zero_le _))) (eQPV (have hL := v10.1; have v8 := v10.2; (show wp mX12_commit 2 rc rs Q 18 [some (vr 71)] [] (m_hand h ((4 : Int)).toNat ((5 : Int)).toNat) from xI k_X12_commit_18 (And.intro (lm_71 hL) (Exists.intro 1119 (And.intro (lf_71_9 hL) (And.intro (sdZs (lm_1119 hL) (by decide) (Or.inl rfl)) (And.intro (lm_71 hL) (Exists.intro 1120 (And.intro (lf_71_10 hL) (And.intro (sdI (lm_1120 hL) (by decide)) (And.intro rfl v8)))))))))))))))))))))))))) (fun c2 => have v4 := hv.2 (Decidable.not_not.mp c2); (show wp mX12_commit 2 rc rs Q 9 [some (vr 71)] [] h from xI k_X12_commit_9 (And.intro rfl v4)))))))))
theorem e_X12_commit {mc ms : Nat} {Q : Option AV → AH → Prop} {h : AH}  (hL : LayM h) (hv : (((iH h 1119 4) ≠ 0 → ((0 ≤ (4 : Int) ∧ (4 : Int) < 7) ∧ (0 ≤ (5 : Int) ∧ (5 : Int) < 7) ∧ ∀ k : Nat, k < 64 → iH h (1130 + ((4 : Int)).toNat) k = 0 ∨ iH h (1130 + ((4 : Int)).toNat) k = 1) ∧ LayM (m_hand h ((4 : Int)).toNat ((5 : Int)).toNat) ∧ Q (some (vi (iH (m_hand h ((4 : Int)).toNat ((5 : Int)).toNat) 1120 5))) (sI (m_hand h ((4 : Int)).toNat ((5 : Int)).toNat) 1119 4 0)) ∧ ((iH h 1119 4) = 0 → Q (some (vi (-3))) h))) : Ct 2 mc ms mX12_commit [vr 71] h Q := Ct.of (by decide +kernel) (Nat.le_of_ble_eq_true rfl) (t_X12_commit_0 hL hv)
def b_X12_shut_0 : List IE := [(.iload_n 1, 1, 0, 0, 1, 0)]
theorem k_X12_shut_0 : ckB mX12_shut 12 0 b_X12_shut_0 1 = true := by decide +kernel
def b_X12_shut_4 : List IE := []
theorem k_X12_shut_4 : ckIf mX12_shut 12 4 b_X12_shut_4 4 1 6 10 7 = true := by decide +kernel
def b_X12_shut_7 : List IE := [(.bipush (-2), 2, (-2), 0, 0, 0)]
theorem k_X12_shut_7 : ckI mX12_shut 12 7 b_X12_shut_7 9 = true := by decide +kernel
def b_X12_shut_10 : List IE := [(.aload_n 0, 1, 0, 0, 0, 0), (.getfield 34, 3, 0, 12, 9, 1), (.iload_n 1, 1, 0, 0, 1, 0), (.baload, 1, 0, 0, 0, 0)]
theorem k_X12_shut_10 : ckIf mX12_shut 12 10 b_X12_shut_10 16 1 6 22 19 = true := by decide +kernel
def b_X12_shut_19 : List IE := [(.bipush (-3), 2, (-3), 0, 0, 0)]
theorem k_X12_shut_19 : ckI mX12_shut 12 19 b_X12_shut_19 21 = true := by decide +kernel
def b_X12_shut_22 : List IE := [(.aload_n 0, 1, 0, 0, 0, 0), (.getfield 34, 3, 0, 12, 9, 1), (.iload_n 1, 1, 0, 0, 1, 0), (.iconst 0, 1, 0, 0, 0, 0), (.bastore, 1, 0, 0, 0, 0), (.aload_n 0, 1, 0, 0, 0, 0)]
theorem k_X12_shut_22 : ckB mX12_shut 12 22 b_X12_shut_22 30 = true := by decide +kernel
def b_X12_shut_33 : List IE := []
theorem k_X12_shut_33 : ckI mX12_shut 12 33 b_X12_shut_33 33 = true := by decide +kernel
theorem s_X12_shut_1 : cS mX12_shut 1 mX12_isView 263 1 := ⟨by decide +kernel, ⟨ml_X12_isView, li_RX12_263, st_X12_isView⟩, by decide +kernel⟩
theorem s_X12_shut_30 : cV mX12_shut 30 mX12_heldSegments 266 0 12 := ⟨by decide +kernel, ⟨ml_X12_heldSegments, li_RX12_266, im_X12_heldSegments, se_X12_heldSegments⟩, ⟨by decide +kernel, by decide +kernel⟩, by decide +kernel⟩
theorem t_X12_shut_0 {rc rs : Nat} {Q : Option AV → AH → Prop} {h : AH} {x1 : Int} (hL : LayM h) (hv : (((0 ≤ x1 ∧ x1 ≤ 3) → (0 ≤ x1 ∧ x1 < 7) ∧ (((iH h 1119 x1.toNat) ≠ 0 → (m_nowL (sI h 1119 x1.toNat 0) ∧ (0 ≤ iH (sI h 1119 x1.toNat 0) 71 5 ∧ iH (sI h 1119 x1.toNat 0) 71 5 ≤ 520) ∧ ∀ v : Nat, v < 7 → m_std (sI h 1119 x1.toNat 0) v) ∧ LayM (m_lay (sI h 1119 x1.toNat 0) 6) ∧ Q (some (vi (m_hs (sI h 1119 x1.toNat 0)))) (m_lay (sI h 1119 x1.toNat 0) 6)) ∧ ((iH h 1119 x1.toNat) = 0 → Q (some (vi (-3))) h))) ∧ (¬ (0 ≤ x1 ∧ x1 ≤ 3) → Q (some (vi (-2))) h))) : wp mX12_shut 2 rc rs Q 0 [some (vr 71), some (vi x1)] [] h :=
  (show wp mX12_shut 2 rc rs Q 0 [some (vr 71), some (vi x1)] [] h from xcS k_X12_shut_0 s_X12_shut_1 ((Exists.intro [vi x1] (Exists.intro [] (And.intro (And.intro rfl (And.intro rfl (Nat.le_of_ble_eq_true rfl))) (Exists.intro 1 (Exists.intro 0 (Exists.intro 0 (Exists.intro _ (And.intro c_isView (And.intro (And.intro (by decide) (And.intro (Nat.zero_le _) (Nat.zero_le _))) (eQP (show wp mX12_shut 2 rc rs Q 4 [some (vr 71), some (vi x1)] [vi (b01 (0 ≤ x1 ∧ x1 ≤ 3))] h from xIf k_X12_shut_4 (And.intro (fun c1 => have v3 := hv.1 (b01_p.mp c1); (show wp mX12_shut 2 rc rs Q 10 [some (vr 71), some (vi x1)] [] h from xIf k_X12_shut_10 (And.intro (lm_71 hL) (Exists.intro 1119 (And.intro (lf_71_9 hL) (have c5 := v3.1; have v17 := v3.2; (And.intro (sdZ (lm_1119 hL) c5) (And.intro (fun c6 => have v8 := v17.1 c6; (show wp mX12_shut 2 rc rs Q 22 [some (vr 71), some (vi x1)] [] h from xcV k_X12_shut_22 s_X12_shut_30 (And.intro (lm_71 hL) (Exists.intro 1119 (And.intro (lf_71_9 hL) (And.intro (sdZs (lm_1119 hL) c5 (Or.inl rfl)) (have c15 := v8.1; have v16 := v8.2; (Exists.intro [] (Exists.intro 71 (Exists.intro [] (And.intro (And.intro rfl (And.intro rfl (Nat.le_of_ble_eq_true rfl))) (And.intro (lm_71 hL) (Exists.intro 1 (Exists.intro 0 (Exists.intro 0 (Exists.intro _ (And.intro (c_heldSegments hL c15) (And.intro (And.intro (by decide) (And.intro (Nat.zero_le _) (Nat.zero_le _))) (eQP (have hL := v16.1; have v14 := v16.2; (show wp mX12_shut 2 rc rs Q 33 [some (vr 71), some (vi x1)] [vi (m_hs (sI h 1119 x1.toNat 0))] (m_lay (sI h 1119 x1.toNat 0) 6) from xI k_X12_shut_33 (And.intro rfl v14)))))))))))))))))))))) (fun c7 => have v9 := v17.2 (Decidable.not_not.mp c7); (show wp mX12_shut 2 rc rs Q 19 [some (vr 71), some (vi x1)] [] h from xI k_X12_shut_19 (And.intro rfl v9))))))))))) (fun c2 => have v4 := hv.2 (b01_nn.mp c2); (show wp mX12_shut 2 rc rs Q 7 [some (vr 71), some (vi x1)] [] h from xI k_X12_shut_7 (And.intro rfl v4)))))))))))))))))
theorem e_X12_shut {mc ms : Nat} {Q : Option AV → AH → Prop} {h : AH} {x1 : Int} (hL : LayM h) (hv : (((0 ≤ x1 ∧ x1 ≤ 3) → (0 ≤ x1 ∧ x1 < 7) ∧ (((iH h 1119 x1.toNat) ≠ 0 → (m_nowL (sI h 1119 x1.toNat 0) ∧ (0 ≤ iH (sI h 1119 x1.toNat 0) 71 5 ∧ iH (sI h 1119 x1.toNat 0) 71 5 ≤ 520) ∧ ∀ v : Nat, v < 7 → m_std (sI h 1119 x1.toNat 0) v) ∧ LayM (m_lay (sI h 1119 x1.toNat 0) 6) ∧ Q (some (vi (m_hs (sI h 1119 x1.toNat 0)))) (m_lay (sI h 1119 x1.toNat 0) 6)) ∧ ((iH h 1119 x1.toNat) = 0 → Q (some (vi (-3))) h))) ∧ (¬ (0 ≤ x1 ∧ x1 ≤ 3) → Q (some (vi (-2))) h))) : Ct 2 mc ms mX12_shut [vr 71, vi x1] h Q := Ct.of (by decide +kernel) (Nat.le_of_ble_eq_true rfl) (t_X12_shut_0 hL hv)
theorem c_commit {h : AH} (hL : LayM h) (hp : ∀ k : Nat, k < 64 → iH h (1130 + 4) k = 0 ∨ iH h (1130 + 4) k = 1) : Ct 2 0 0 mX12_commit [vr 71] h (QI fun x h' => (iH h 1119 4 = 0 ∧ x = -3 ∧ h' = h) ∨ (iH h 1119 4 ≠ 0 ∧ x = iH h 1120 4 ∧ h' = sI (m_hand h 4 5) 1119 4 0)) := by
  refine e_X12_commit hL ⟨fun c => ⟨⟨by omega, by omega, hp⟩, by exact hL, _, rfl, Or.inr ⟨c, ?_, rfl⟩⟩, fun c => ⟨_, rfl, Or.inl ⟨c, rfl, rfl⟩⟩⟩
  show iH (m_hand h 4 5) 1120 5 = _
  unfold m_hand cpI
  simp (disch := omega) only [rW_ne, rI_same]
def p_shut (h : AH) (v : Int) (x : Int) (h' : AH) : Prop := (¬ (0 ≤ v ∧ v ≤ 3) ∧ x = -2 ∧ h' = h) ∨ ((0 ≤ v ∧ v ≤ 3) ∧ iH h 1119 v.toNat = 0 ∧ x = -3 ∧ h' = h) ∨ ((0 ≤ v ∧ v ≤ 3) ∧ iH h 1119 v.toNat ≠ 0 ∧ x = m_hs (sI h 1119 v.toNat 0) ∧ h' = m_lay (sI h 1119 v.toNat 0) 6)
theorem c_shut {h : AH} (hL : LayM h) {v : Int} (hn : ∀ v : Nat, m_nowL (sI h 1119 v 0)) (hse : 0 ≤ iH h 71 5 ∧ iH h 71 5 ≤ 520) (hv : ∀ v : Nat, v < 7 → m_std h v) : Ct 2 0 0 mX12_shut [vr 71, vi v] h (QI (p_shut h v)) :=
  e_X12_shut hL ⟨fun c => ⟨by omega, fun c2 => ⟨⟨hn _, by rw [rI_ne (by decide)]; exact hse, fun u hu => ⟨(hv u hu).1, by rw [rI_ne (by decide)]; exact (hv u hu).2⟩⟩, by exact hL, _, rfl, Or.inr (Or.inr ⟨c, c2, rfl, rfl⟩)⟩, fun c2 => ⟨_, rfl, Or.inr (Or.inl ⟨c, c2, rfl, rfl⟩)⟩⟩, fun c => ⟨_, rfl, Or.inl ⟨c, rfl, rfl⟩⟩⟩
end
section
/-! THE REFERENCE: A DOCUMENT OUT OF THE TAPE; MERGES; A CRASH -/
/-- the first place from k on, below n, that isn't so -/
noncomputable def runF (p : Nat → Prop) : Nat → Nat → Nat
  | 0, k => k
  | f + 1, k => @ite _ (p k) (Classical.propDecidable _) (runF p f (k + 1)) k
noncomputable def run (p : Nat → Prop) (n k : Nat) : Nat := runF p (n - k) k
theorem run_y {p : Nat → Prop} {n k : Nat} (hk : k < n) (hp : p k) : run p n k = run p n (k + 1) := by
  unfold run
  rw [show n - k = (n - (k + 1)) + 1 by omega]
  show @ite _ (p k) (Classical.propDecidable _) (runF p (n - (k + 1)) (k + 1)) k = _
  rw [if_pos hp]
theorem run_n {p : Nat → Prop} {n k : Nat} (hp : ¬ p k) : run p n k = k := by
  unfold run
  cases n - k with
  | zero => rfl
  | succ f =>
    show @ite _ (p k) (Classical.propDecidable _) (runF p f (k + 1)) k = _
    rw [if_neg hp]
theorem run_e {p : Nat → Prop} {n k : Nat} (hk : n ≤ k) : run p n k = k := by
  unfold run
  rw [show n - k = 0 by omega]; rfl
theorem run_cs (p : Nat → Prop) (n : Nat) : ∀ (f k : Nat), n - k ≤ f → k ≤ run p n k ∧ (k ≤ n → run p n k ≤ n) ∧ (run p n k < n → ¬ p (run p n k)) ∧ ∀ j, k ≤ j → j < run p n k → p j
  | 0, k, h => by
    rw [run_e (by omega)]
    exact ⟨Nat.le_refl k, fun h => h, fun h => by omega, fun j h1 h2 => by omega⟩
  | f + 1, k, h => by
    by_cases hk : k < n
    · by_cases hp : p k
      · rw [run_y hk hp]
        obtain ⟨h1, h2, h3, h4⟩ := run_cs p n f (k + 1) (by omega)
        refine ⟨by omega, fun _ => h2 (by omega), h3, fun j h5 h6 => ?_⟩
        by_cases e : j = k
        · subst e; exact hp
        · exact h4 j (by omega) h6
      · rw [run_n hp]
        exact ⟨Nat.le_refl k, fun h => h, fun _ => hp, fun j h1 h2 => by omega⟩
    · rw [run_e (by omega)]
      exact ⟨Nat.le_refl k, fun h => h, fun h => by omega, fun j h1 h2 => by omega⟩
theorem run_ge (p : Nat → Prop) (n k : Nat) : k ≤ run p n k := (run_cs p n (n - k) k (Nat.le_refl _)).1
theorem run_le {p : Nat → Prop} {n k : Nat} (h : k ≤ n) : run p n k ≤ n := (run_cs p n (n - k) k (Nat.le_refl _)).2.1 h
theorem run_no {p : Nat → Prop} {n k : Nat} (h : run p n k < n) : ¬ p (run p n k) := (run_cs p n (n - k) k (Nat.le_refl _)).2.2.1 h
theorem run_in {p : Nat → Prop} {n k j : Nat} (h1 : k ≤ j) (h2 : j < run p n k) : p j := (run_cs p n (n - k) k (Nat.le_refl _)).2.2.2 j h1 h2
theorem run_mid {p : Nat → Prop} {n : Nat} : ∀ {k j : Nat}, k ≤ j → j ≤ run p n k → k ≤ n → run p n j = run p n k := by
  intro k j h1 h2 h3
  obtain ⟨i, rfl⟩ := Nat.exists_eq_add_of_le h1
  induction i with
  | zero => rfl
  | succ i ih =>
    rw [← ih (by omega) (by omega)]
    have hr := run_le (p := p) h3
    exact (run_y (p := p) (n := n) (k := k + i) (by omega) (run_in (n := n) (k := k) (by omega) (by omega))).symm
def d_bl (h : AH) (k : Nat) : Prop := iH h 1139 k = 32 ∨ iH h 1139 k = 10
def d_le (h : AH) (k : Nat) : Prop := 97 ≤ iH h 1139 k ∧ iH h 1139 k ≤ 122
def d_n (h : AH) : Nat := (iH h 71 18).toNat
noncomputable def d_sk (h : AH) (k : Nat) : Nat := run (d_bl h) (d_n h) k
noncomputable def d_we (h : AH) (k : Nat) : Nat := run (d_le h) (d_n h) k
noncomputable def d_P (h : AH) : Nat → Nat
  | 0 => d_sk h 0
  | i + 1 => d_sk h (d_we h (d_P h i))
def d_stop (h : AH) (i : Nat) : Prop := d_n h ≤ d_P h i ∨ d_we h (d_P h i) = d_P h i ∨ d_P h i + 6 < d_we h (d_P h i) ∨ i = 12
noncomputable def d_m (h : AH) : Nat := (fst (d_stop h) 13).toNat
noncomputable def d_fault (h : AH) : Int := if d_n h ≤ d_P h (d_m h) then (if d_m h = 0 then (d_n h : Int) else -1) else (d_P h (d_m h) : Int)
noncomputable def d_word (h : AH) (i : Nat) : Int := m_wf h (d_P h i) (d_we h (d_P h i)) 6
noncomputable def d_NW (h : AH) (i j : Nat) : Int := if j < i then d_word h j else iH h 1140 j
noncomputable def d_H (h : AH) (i : Nat) : AH := sI (sW h 1140 (d_NW h i)) 71 20 i
noncomputable def m_docH (h : AH) : AH := d_H h (d_m h)
theorem d_m_cs (h : AH) : d_m h ≤ 12 ∧ d_stop h (d_m h) ∧ ∀ i, i < d_m h → ¬ d_stop h i := by
  rcases fst_cs (d_stop h) 13 with ⟨-, q⟩ | ⟨m, hm, e, q1, q2⟩
  · exact absurd (Or.inr (Or.inr (Or.inr rfl))) (q 12 (by omega))
  · have : d_m h = m := by unfold d_m; rw [e]; rfl
    rw [this]
    exact ⟨by omega, q1, q2⟩
theorem d_P_le (h : AH) : ∀ i, d_P h i ≤ d_n h
  | 0 => run_le (Nat.zero_le _)
  | i + 1 => run_le (run_le (d_P_le h i))
theorem m_wf_cg {h h' : AH} (e : ∀ k, iH h' 1139 k = iH h 1139 k) (a b : Int) : ∀ k, m_wf h' a b k = m_wf h a b k
  | 0 => rfl
  | k + 1 => by unfold m_wf; rw [m_wf_cg e a b k, e]
theorem d_word_let {h : AH} (ht : 0 ≤ iH h 71 18 ∧ iH h 71 18 ≤ 64) {k : Nat} (hk : k ≤ d_n h) : m_let h k (d_we h k) := by
  have h1 : d_we h k ≤ d_n h := run_le hk
  refine ⟨by omega, by unfold d_n at *; omega, fun j hj hj2 => ?_⟩
  have := run_in (p := d_le h) (n := d_n h) (k := k) (j := k + j) (by omega) (by show k + j < d_we h k; omega)
  rw [show ((k : Int) + (j : Int)).toNat = k + j by omega]
  exact this
def b_X12_document_0 : List IE := [(.aload_n 0, 1, 0, 0, 0, 0), (.iconst 0, 1, 0, 0, 0, 0), (.putfield 123, 3, 0, 12, 20, 0), (.iconst 0, 1, 0, 0, 0, 0), (.istore_n 1, 1, 0, 0, 1, 0)]
theorem k_X12_document_0 : ckB mX12_document 12 0 b_X12_document_0 7 = true := by decide +kernel
def b_X12_document_7 : List IE := [(.iload_n 1, 1, 0, 0, 1, 0), (.aload_n 0, 1, 0, 0, 0, 0), (.getfield 120, 3, 0, 12, 18, 0)]
theorem k_X12_document_7 : ckIc mX12_document 12 7 b_X12_document_7 12 3 92 104 15 = true := by decide +kernel
def b_X12_document_15 : List IE := [(.aload_n 0, 1, 0, 0, 0, 0), (.getfield 54, 3, 0, 12, 17, 1), (.iload_n 1, 1, 0, 0, 1, 0), (.iaload, 1, 0, 0, 0, 0)]
theorem k_X12_document_15 : ckB mX12_document 12 15 b_X12_document_15 21 = true := by decide +kernel
def b_X12_document_24 : List IE := []
theorem k_X12_document_24 : ckIf mX12_document 12 24 b_X12_document_24 24 0 9 33 27 = true := by decide +kernel
def b_X12_document_27 : List IE := [(.iinc 1 1, 3, 1, 0, 1, 0)]
theorem k_X12_document_27 : ckGo mX12_document 12 27 b_X12_document_27 30 (-23) 7 = true := by decide +kernel
def b_X12_document_33 : List IE := [(.iload_n 1, 1, 0, 0, 1, 0), (.istore_n 2, 1, 0, 0, 2, 0)]
theorem k_X12_document_33 : ckB mX12_document 12 33 b_X12_document_33 35 = true := by decide +kernel
def b_X12_document_35 : List IE := [(.aload_n 0, 1, 0, 0, 0, 0), (.iload_n 1, 1, 0, 0, 1, 0)]
theorem k_X12_document_35 : ckB mX12_document 12 35 b_X12_document_35 37 = true := by decide +kernel
def b_X12_document_40 : List IE := []
theorem k_X12_document_40 : ckB mX12_document 12 40 b_X12_document_40 40 = true := by decide +kernel
def b_X12_document_43 : List IE := []
theorem k_X12_document_43 : ckIf mX12_document 12 43 b_X12_document_43 43 0 9 52 46 = true := by decide +kernel
def b_X12_document_46 : List IE := [(.iinc 1 1, 3, 1, 0, 1, 0)]
theorem k_X12_document_46 : ckGo mX12_document 12 46 b_X12_document_46 49 (-14) 35 = true := by decide +kernel
def b_X12_document_52 : List IE := [(.iload_n 1, 1, 0, 0, 1, 0), (.iload_n 2, 1, 0, 0, 2, 0)]
theorem k_X12_document_52 : ckIc mX12_document 12 52 b_X12_document_52 54 0 20 74 57 = true := by decide +kernel
def b_X12_document_57 : List IE := [(.iload_n 1, 1, 0, 0, 1, 0), (.iload_n 2, 1, 0, 0, 2, 0), (.isub, 1, 0, 0, 0, 0), (.bipush 6, 2, 6, 0, 0, 0)]
theorem k_X12_document_57 : ckIc mX12_document 12 57 b_X12_document_57 62 4 12 74 65 = true := by decide +kernel
def b_X12_document_65 : List IE := [(.aload_n 0, 1, 0, 0, 0, 0), (.getfield 123, 3, 0, 12, 20, 0), (.bipush 12, 2, 12, 0, 0, 0)]
theorem k_X12_document_65 : ckIc mX12_document 12 65 b_X12_document_65 71 1 5 76 74 = true := by decide +kernel
def b_X12_document_74 : List IE := [(.iload_n 2, 1, 0, 0, 2, 0)]
theorem k_X12_document_74 : ckI mX12_document 12 74 b_X12_document_74 75 = true := by decide +kernel
def b_X12_document_76 : List IE := [(.aload_n 0, 1, 0, 0, 0, 0), (.getfield 57, 3, 0, 12, 19, 1), (.aload_n 0, 1, 0, 0, 0, 0), (.getfield 123, 3, 0, 12, 20, 0), (.aload_n 0, 1, 0, 0, 0, 0), (.iload_n 2, 1, 0, 0, 2, 0), (.iload_n 1, 1, 0, 0, 1, 0)]
theorem k_X12_document_76 : ckB mX12_document 12 76 b_X12_document_76 87 = true := by decide +kernel
def b_X12_document_90 : List IE := [(.iastore, 1, 0, 0, 0, 0), (.aload_n 0, 1, 0, 0, 0, 0), (.dup, 1, 0, 0, 0, 0), (.getfield 123, 3, 0, 12, 20, 0), (.iconst 1, 1, 1, 0, 0, 0), (.iadd, 1, 0, 0, 0, 0), (.putfield 123, 3, 0, 12, 20, 0)]
theorem k_X12_document_90 : ckGo mX12_document 12 90 b_X12_document_90 101 (-94) 7 = true := by decide +kernel
def b_X12_document_104 : List IE := [(.aload_n 0, 1, 0, 0, 0, 0), (.getfield 123, 3, 0, 12, 20, 0)]
theorem k_X12_document_104 : ckIf mX12_document 12 104 b_X12_document_104 108 1 10 118 111 = true := by decide +kernel
def b_X12_document_111 : List IE := [(.aload_n 0, 1, 0, 0, 0, 0), (.getfield 120, 3, 0, 12, 18, 0)]
theorem k_X12_document_111 : ckGo mX12_document 12 111 b_X12_document_111 115 4 119 = true := by decide +kernel
def b_X12_document_118 : List IE := [(.iconst (-1), 1, (-1), 0, 0, 0)]
theorem k_X12_document_118 : ckI mX12_document 12 118 b_X12_document_118 119 = true := by decide +kernel
def b_X12_document_119 : List IE := []
theorem k_X12_document_119 : ckI mX12_document 12 119 b_X12_document_119 119 = true := by decide +kernel
theorem s_X12_document_21 : cS mX12_document 21 mX12_isBlank 126 1 := ⟨by decide +kernel, ⟨ml_X12_isBlank, li_RX12_126, st_X12_isBlank⟩, by decide +kernel⟩
theorem s_X12_document_37 : cV mX12_document 37 mX12_byteAt 129 1 12 := ⟨by decide +kernel, ⟨ml_X12_byteAt, li_RX12_129, im_X12_byteAt, se_X12_byteAt⟩, ⟨by decide +kernel, by decide +kernel⟩, by decide +kernel⟩
theorem s_X12_document_40 : cS mX12_document 40 mX12_isLetter 133 1 := ⟨by decide +kernel, ⟨ml_X12_isLetter, li_RX12_133, st_X12_isLetter⟩, by decide +kernel⟩
theorem s_X12_document_87 : cV mX12_document 87 mX12_wordFrom 136 2 12 := ⟨by decide +kernel, ⟨ml_X12_wordFrom, li_RX12_136, im_X12_wordFrom, se_X12_wordFrom⟩, ⟨by decide +kernel, by decide +kernel⟩, by decide +kernel⟩
theorem t_X12_document_0 {rc rs : Nat} {Q : Option AV → AH → Prop} {h : AH}  (hL : LayM h) (hv : wp mX12_document 2 rc rs Q 7 [some (vr 71), some (vi 0), none] [] (sI h 71 20 0)) : wp mX12_document 2 rc rs Q 0 [some (vr 71), none, none] [] h :=
  (show wp mX12_document 2 rc rs Q 0 [some (vr 71), none, none] [] h from xB k_X12_document_0 (And.intro (lm_71 hL) (And.intro rfl hv)))
theorem e_X12_document {mc ms : Nat} {Q : Option AV → AH → Prop} {h : AH}  (hL : LayM h) (hv : wp mX12_document 2 mc ms Q 7 [some (vr 71), some (vi 0), none] [] (sI h 71 20 0)) : Ct 2 mc ms mX12_document [vr 71] h Q := Ct.of (by decide +kernel) (Nat.le_of_ble_eq_true rfl) (t_X12_document_0 hL hv)
theorem t_X12_document_7 {rc rs : Nat} {Q : Option AV → AH → Prop} {h : AH} {x1 : Int} (hL : LayM h) (hv : (((iH h 71 18) ≤ x1 → (((iH h 71 20) ≠ 0 → Q (some (vi (-1))) h) ∧ ((iH h 71 20) = 0 → Q (some (vi (iH h 71 18))) h))) ∧ (x1 < (iH h 71 18) → (0 ≤ x1 ∧ x1 < 64) ∧ ((¬ ((iH h 1139 x1.toNat) = 32 ∨ (iH h 1139 x1.toNat) = 10) → wp mX12_document 2 rc rs Q 35 [some (vr 71), some (vi x1), some (vi x1)] [] h) ∧ (((iH h 1139 x1.toNat) = 32 ∨ (iH h 1139 x1.toNat) = 10) → (-2147483648 ≤ (x1 + 1) ∧ (x1 + 1) < 2147483648) ∧ wp mX12_document 2 rc rs Q 7 [some (vr 71), some (vi (x1 + 1)), none] [] h))))) : wp mX12_document 2 rc rs Q 7 [some (vr 71), some (vi x1), none] [] h :=
  (show wp mX12_document 2 rc rs Q 7 [some (vr 71), some (vi x1), none] [] h from xIc k_X12_document_7 (And.intro (lm_71 hL) (And.intro (fun c1 => have v3 := hv.1 c1; (show wp mX12_document 2 rc rs Q 104 [some (vr 71), some (vi x1), none] [] h from xIf k_X12_document_104 (And.intro (lm_71 hL) (And.intro (fun c5 => have v7 := v3.1 c5; (show wp mX12_document 2 rc rs Q 118 [some (vr 71), some (vi x1), none] [] h from xI k_X12_document_118 (And.intro rfl v7))) (fun c6 => have v8 := v3.2 (Decidable.not_not.mp c6); (show wp mX12_document 2 rc rs Q 111 [some (vr 71), some (vi x1), none] [] h from xGo k_X12_document_111 (And.intro (lm_71 hL) (show wp mX12_document 2 rc rs Q 119 [some (vr 71), some (vi x1), none] [vi (iH h 71 18)] h from xI k_X12_document_119 (And.intro rfl v8))))))))) (fun c2 => have v4 := hv.2 (Int.not_le.mp c2); (show wp mX12_document 2 rc rs Q 15 [some (vr 71), some (vi x1), none] [] h from xcS k_X12_document_15 s_X12_document_21 (And.intro (lm_71 hL) (Exists.intro 1139 (And.intro (lf_71_17 hL) (have c9 := v4.1; have v19 := v4.2; (And.intro (sdI (lm_1139 hL) c9) ((Exists.intro [vi (iH h 1139 x1.toNat)] (Exists.intro [] (And.intro (And.intro rfl (And.intro rfl (Nat.le_of_ble_eq_true rfl))) (Exists.intro 0 (Exists.intro 0 (Exists.intro 0 (Exists.intro _ (And.intro c_isBlank (And.intro (And.intro (by decide) (And.intro (Nat.zero_le _) (Nat.zero_le _))) (eQP (show wp mX12_document 2 rc rs Q 24 [some (vr 71), some (vi x1), none] [vi (b01 ((iH h 1139 x1.toNat) = 32 ∨ (iH h 1139 x1.toNat) = 10))] h from xIf k_X12_document_24 (And.intro (fun c10 => have v12 := v19.1 (b01_n.mp c10); (show wp mX12_document 2 rc rs Q 33 [some (vr 71), some (vi x1), none] [] h from xB k_X12_document_33 (And.intro rfl v12))) (fun c11 => have v13 := v19.2 (b01_p.mp c11); (show wp mX12_document 2 rc rs Q 27 [some (vr 71), some (vi x1), none] [] h from xGo k_X12_document_27 (have c14 := v13.1; have v15 := v13.2; (And.intro c14 (And.intro rfl v15))))))))))))))))))))))))))))
theorem t_X12_document_35 {rc rs : Nat} {Q : Option AV → AH → Prop} {h : AH} {x1 x2 : Int} (hL : LayM h) (hv : (0 ≤ x1 ∧ iH h 71 18 ≤ 64) ∧ ((¬ (97 ≤ (m_byteAt h x1) ∧ (m_byteAt h x1) ≤ 122) → ((x1 = x2 → Q (some (vi x2)) h) ∧ (x1 ≠ x2 → (-2147483648 ≤ (x1 - x2) ∧ (x1 - x2) < 2147483648) ∧ ((6 < (x1 - x2) → Q (some (vi x2)) h) ∧ ((x1 - x2) ≤ 6 → (((iH h 71 20) ≠ 12 → (m_let h x2 x1 ∧ x2 ≤ 64) ∧ (0 ≤ iH h 71 20 ∧ iH h 71 20 < 12) ∧ (-2147483648 ≤ (iH h 71 20 + 1) ∧ (iH h 71 20 + 1) < 2147483648) ∧ wp mX12_document 2 rc rs Q 7 [some (vr 71), some (vi x1), none] [] (sI (sI h 1140 ((iH h 71 20).toNat) (m_wf h x2 x1 6)) 71 20 (iH h 71 20 + 1))) ∧ ((iH h 71 20) = 12 → Q (some (vi x2)) h))))))) ∧ ((97 ≤ (m_byteAt h x1) ∧ (m_byteAt h x1) ≤ 122) → (-2147483648 ≤ (x1 + 1) ∧ (x1 + 1) < 2147483648) ∧ wp mX12_document 2 rc rs Q 35 [some (vr 71), some (vi (x1 + 1)), some (vi x2)] [] h))) : wp mX12_document 2 rc rs Q 35 [some (vr 71), some (vi x1), some (vi x2)] [] h :=
  (show wp mX12_document 2 rc rs Q 35 [some (vr 71), some (vi x1), some (vi x2)] [] h from xcV k_X12_document_35 s_X12_document_37 (have c31 := hv.1; have v32 := hv.2; (Exists.intro [vi x1] (Exists.intro 71 (Exists.intro [] (And.intro (And.intro rfl (And.intro rfl (Nat.le_of_ble_eq_true rfl))) (And.intro (lm_71 hL) (Exists.intro 0 (Exists.intro 0 (Exists.intro 0 (Exists.intro _ (And.intro (c_byteAt hL c31) (And.intro (And.intro (by decide) (And.intro (Nat.zero_le _) (Nat.zero_le _))) (eQP (show wp mX12_document 2 rc rs Q 40 [some (vr 71), some (vi x1), some (vi x2)] [vi (m_byteAt h x1)] h from xcS k_X12_document_40 s_X12_document_40 ((Exists.intro [vi (m_byteAt h x1)] (Exists.intro [] (And.intro (And.intro rfl (And.intro rfl (Nat.le_of_ble_eq_true rfl))) (Exists.intro 1 (Exists.intro 0 (Exists.intro 0 (Exists.intro _ (And.intro c_isLetter (And.intro (And.intro (by decide) (And.intro (Nat.zero_le _) (Nat.zero_le _))) (eQP (show wp mX12_document 2 rc rs Q 43 [some (vr 71), some (vi x1), some (vi x2)] [vi (b01 (97 ≤ (m_byteAt h x1) ∧ (m_byteAt h x1) ≤ 122))] h from xIf k_X12_document_43 (And.intro (fun c1 => have v3 := v32.1 (b01_n.mp c1); (show wp mX12_document 2 rc rs Q 52 [some (vr 71), some (vi x1), some (vi x2)] [] h from xIc k_X12_document_52 (And.intro (fun c5 => have v7 := v3.1 c5; (show wp mX12_document 2 rc rs Q 74 [some (vr 71), some (vi x1), some (vi x2)] [] h from xI k_X12_document_74 (And.intro rfl v7))) (fun c6 => have v8 := v3.2 c6; (show wp mX12_document 2 rc rs Q 57 [some (vr 71), some (vi x1), some (vi x2)] [] h from xIc k_X12_document_57 (have c9 := v8.1; have v25 := v8.2; (And.intro c9 (And.intro (fun c10 => have v12 := v25.1 c10; (show wp mX12_document 2 rc rs Q 74 [some (vr 71), some (vi x1), some (vi x2)] [] h from xI k_X12_document_74 (And.intro rfl v12))) (fun c11 => have v13 := v25.2 (Int.not_lt.mp c11); (show wp mX12_document 2 rc rs Q 65 [some (vr 71), some (vi x1), some (vi x2)] [] h from xIc k_X12_document_65 (And.intro (lm_71 hL) (And.intro (fun c14 => have v16 := v13.1 c14; (show wp mX12_document 2 rc rs Q 76 [some (vr 71), some (vi x1), some (vi x2)] [] h from xcV k_X12_document_76 s_X12_document_87 (And.intro (lm_71 hL) (Exists.intro 1140 (And.intro (lf_71_19 hL) (And.intro (lm_71 hL) (have c22 := v16.1; have v23 := v16.2; (Exists.intro [vi x2, vi x1] (Exists.intro 71 (Exists.intro [vi (iH h 71 20), vr 1140] (And.intro (And.intro rfl (And.intro rfl (Nat.le_of_ble_eq_true rfl))) (And.intro (lm_71 hL) (Exists.intro 0 (Exists.intro 0 (Exists.intro 0 (Exists.intro _ (And.intro (c_wordFrom hL c22) (And.intro (And.intro (by decide) (And.intro (Nat.zero_le _) (Nat.zero_le _))) (eQP (show wp mX12_document 2 rc rs Q 90 [some (vr 71), some (vi x1), some (vi x2)] [vi (m_wf h x2 x1 6), vi (iH h 71 20), vr 1140] h from xGo k_X12_document_90 (have c18 := v23.1; have v21 := v23.2; (And.intro (sdI (lm_1140 hL) c18) (And.intro rfl (And.intro (lm_71 hL) (have c19 := v21.1; have v20 := v21.2; (And.intro c19 (And.intro (lm_71 hL) (w_fg [true, true, false] v20)))))))))))))))))))))))))))) (fun c15 => have v17 := v13.2 (Decidable.not_not.mp c15); (show wp mX12_document 2 rc rs Q 74 [some (vr 71), some (vi x1), some (vi x2)] [] h from xI k_X12_document_74 (And.intro rfl v17))))))))))))))) (fun c2 => have v4 := v32.2 (b01_p.mp c2); (show wp mX12_document 2 rc rs Q 46 [some (vr 71), some (vi x1), some (vi x2)] [] h from xGo k_X12_document_46 (have c26 := v4.1; have v27 := v4.2; (And.intro c26 (And.intro rfl v27)))))))))))))))))))))))))))))))))
theorem c_document {h : AH} (hL : LayM h) (ht : 0 ≤ iH h 71 18 ∧ iH h 71 18 ≤ 64) : Ct 2 0 0 mX12_document [vr 71] h (QI fun x h' => x = d_fault h ∧ h' = m_docH h) := by
  obtain ⟨hm12, hst, hns⟩ := d_m_cs h
  have hn : (d_n h : Int) = iH h 71 18 := by unfold d_n; omega
  have hn64 : d_n h ≤ 64 := by omega
  have rT : ∀ i k, iH (d_H h i) 1139 k = iH h 1139 k := fun i k => by unfold d_H; rw [rI_ne (by decide), rW_ne (by decide)]
  have rN : ∀ i, iH (d_H h i) 71 18 = iH h 71 18 := fun i => by unfold d_H; rw [rI_nk (by decide), rW_ne (by decide)]
  have rM : ∀ i : Nat, iH (d_H h i) 71 20 = (i : Int) := fun i => rI_same
  have hLi : ∀ i, LayM (d_H h i) := fun i => by exact hL
  have bA : ∀ i k : Nat, k ≤ d_n h → (m_byteAt (d_H h i) k = if k < d_n h then iH h 1139 k else -1) := fun i k hk => by
    unfold m_byteAt
    rw [rN, rT, ← hn]
    by_cases q : k < d_n h
    · rw [if_pos q, if_pos (by omega)]; rfl
    · rw [if_neg q, if_neg (by omega)]
  have eH0 : sI h 71 20 0 = d_H h 0 := by unfold d_H; rw [sW_id fun k => by unfold d_NW; rw [if_neg (by omega)]]; rfl
  refine e_X12_document hL ?_
  rw [eH0]
  -- letters, one by one
  have lets : ∀ (i a : Nat) (Q : Option AV → AH → Prop), a ≤ d_n h → wp mX12_document 2 0 0 Q 35 [some (vr 71), some (vi (d_we h a)), some (vi a)] [] (d_H h i) → ∀ f e : Nat, d_n h - e ≤ f → a ≤ e → e ≤ d_we h a → wp mX12_document 2 0 0 Q 35 [some (vr 71), some (vi e), some (vi a)] [] (d_H h i) := by
    intro i a Q ha hw f
    induction f with
    | zero =>
      intro e he h1 h2
      have h3 : d_we h a ≤ d_n h := run_le ha
      have : e = d_we h a := by omega
      rw [this]; exact hw
    | succ f ih =>
      intro e he h1 h2
      have h3 : d_we h a ≤ d_n h := run_le ha
      by_cases q : e = d_we h a
      · rw [q]; exact hw
      · have hl : d_le h e := run_in (k := a) h1 (by show e < d_we h a; omega)
        have hb : m_byteAt (d_H h i) e = iH h 1139 e := by rw [bA i e (by omega), if_pos (by omega)]
        refine t_X12_document_35 (hLi i) ⟨by rw [rN]; omega, fun c => ?_, fun c => ⟨by omega, ?_⟩⟩
        · rw [hb] at c; exact absurd hl c
        · exact ih (e + 1) (by omega) (by omega) (by omega)
  -- blanks, one by one
  have blks : ∀ (i : Nat) (Q : Option AV → AH → Prop), wp mX12_document 2 0 0 Q 7 [some (vr 71), some (vi (d_P h i)), none] [] (d_H h i) → ∀ f k : Nat, d_n h - k ≤ f → k ≤ d_n h → d_sk h k = d_P h i → wp mX12_document 2 0 0 Q 7 [some (vr 71), some (vi k), none] [] (d_H h i) := by
    intro i Q hw f
    induction f with
    | zero =>
      intro k hk h1 h2
      rw [← h2, show d_sk h k = k from run_e (by omega)] at hw
      exact hw
    | succ f ih =>
      intro k hk h1 h2
      by_cases q : k < d_n h
      · by_cases q2 : d_bl h k
        · have h3 : d_sk h (k + 1) = d_P h i := by rw [← h2]; exact (run_y q q2).symm
          refine t_X12_document_7 (hLi i) ⟨fun c => absurd c (by rw [rN]; omega), fun c => ⟨by omega, fun c2 => absurd ?_ c2, fun c2 => ⟨by omega, ih (k + 1) (by omega) (by omega) h3⟩⟩⟩
          rw [rT]; exact q2
        · rw [← h2, show d_sk h k = k from run_n q2] at hw
          exact hw
      · rw [← h2, show d_sk h k = k from run_e (by omega)] at hw
        exact hw
  have main := up (P := fun i => wp mX12_document 2 0 0 (QI fun x h' => x = d_fault h ∧ h' = m_docH h) 7 [some (vr 71), some (vi (d_P h i)), none] [] (d_H h i)) (d_m h) ?_ ?_
  · exact blks 0 _ main (d_n h) 0 (by omega) (by omega) rfl
  · have hP := d_P_le h (d_m h)
    have hnb : d_P h (d_m h) < d_n h → ¬ d_bl h (d_P h (d_m h)) := fun q => by
      have : ∀ i, d_P h i < d_n h → ¬ d_bl h (d_P h i) := fun i q => by cases i <;> exact run_no q
      exact this _ q
    refine t_X12_document_7 (hLi _) ⟨fun c => ?_, fun c => ⟨by rw [rN] at c; omega, fun c2 => ?_, fun c2 => absurd c2 ?_⟩⟩
    · rw [rN] at c
      rw [rM, rN]
      have q : d_n h ≤ d_P h (d_m h) := by omega
      refine ⟨fun c2 => ⟨_, rfl, ?_, rfl⟩, fun c2 => ⟨_, rfl, ?_, rfl⟩⟩
      · unfold d_fault; rw [if_pos q, if_neg (by omega)]
      · unfold d_fault; rw [if_pos q, if_pos (by omega), hn]
    · rw [rN] at c
      have hq : d_P h (d_m h) < d_n h := by omega
      refine lets (d_m h) (d_P h (d_m h)) _ hP ?_ (d_n h) _ (by omega) (Nat.le_refl _) (run_ge _ _ _)
      have hw1 : d_P h (d_m h) ≤ d_we h (d_P h (d_m h)) := run_ge _ _ _
      have hw2 : d_we h (d_P h (d_m h)) ≤ d_n h := run_le hP
      have fin : QI (fun x h' => x = d_fault h ∧ h' = m_docH h) (some (vi (d_P h (d_m h) : Int))) (d_H h (d_m h)) := ⟨_, rfl, by unfold d_fault; rw [if_neg (by omega)], rfl⟩
      refine t_X12_document_35 (hLi _) ⟨by rw [rN]; omega, fun _ => ⟨fun _ => fin, fun d0 => ⟨by omega, fun _ => fin, fun d1 => ⟨fun d2 => ?_, fun _ => fin⟩⟩⟩, fun d0 => ?_⟩
      · rw [rM] at d2
        rcases hst with q | q | q | q <;> omega
      · rw [bA _ _ hw2] at d0
        by_cases q : d_we h (d_P h (d_m h)) < d_n h
        · rw [if_pos q] at d0
          exact absurd d0 (run_no q)
        · rw [if_neg q] at d0; omega
    · rw [rN] at c
      have := hnb (by omega)
      rw [rT]; exact this
  · intro i hi ih
    have hns' := hns i hi
    have hP := d_P_le h i
    have q0 : d_P h i < d_n h := by
      by_cases q : d_P h i < d_n h
      · exact q
      · exact absurd (Or.inl (by omega)) hns'
    have q1 : d_we h (d_P h i) ≠ d_P h i := fun q => hns' (Or.inr (Or.inl q))
    have q2 : d_we h (d_P h i) ≤ d_P h i + 6 := by
      by_cases q : d_P h i + 6 < d_we h (d_P h i)
      · exact absurd (Or.inr (Or.inr (Or.inl q))) hns'
      · omega
    have q3 : i ≠ 12 := fun q => hns' (Or.inr (Or.inr (Or.inr q)))
    have hnb : ¬ d_bl h (d_P h i) := by
      have : ∀ i, d_P h i < d_n h → ¬ d_bl h (d_P h i) := fun i q => by cases i <;> exact run_no q
      exact this _ q0
    have hw1 : d_P h i ≤ d_we h (d_P h i) := run_ge _ _ _
    have hw2 : d_we h (d_P h i) ≤ d_n h := run_le hP
    refine t_X12_document_7 (hLi _) ⟨fun c => absurd c (by rw [rN]; omega), fun c => ⟨by omega, fun c2 => ?_, fun c2 => absurd c2 (by rw [rT]; exact hnb)⟩⟩
    refine lets i (d_P h i) _ hP ?_ (d_n h) _ (by omega) (Nat.le_refl _) hw1
    refine t_X12_document_35 (hLi _) ⟨by rw [rN]; omega, fun _ => ⟨fun d0 => by omega, fun d0 => ⟨by omega, fun d1 => by omega, fun d1 => ⟨fun d2 => ?_, fun d2 => ?_⟩⟩⟩, fun d0 => ?_⟩
    · rw [rM] at d2 ⊢
      have hlet := d_word_let ht hP
      refine ⟨⟨⟨hlet.1, hlet.2.1, fun j h1 h2 => by rw [rT]; exact hlet.2.2 j h1 h2⟩, by omega⟩, by omega, by omega, ?_⟩
      rw [m_wf_cg (rT i)]
      have e1 : sI (sI (d_H h i) 1140 ((i : Int)).toNat (m_wf h (d_P h i) (d_we h (d_P h i)) 6)) 71 20 ((i : Int) + 1) = d_H h (i + 1) := by
        unfold d_H
        rw [sI_sI_ne (b := 1140) (by decide), sI_sI, sI_sW (g' := d_NW h (i + 1)) (fun j => by
          unfold d_NW
          by_cases e : j = i
          · subst e
            rw [if_pos (by omega), if_pos (show j = ((j : Int)).toNat from rfl)]; rfl
          · rw [show ((i : Int)).toNat = i from rfl, if_neg e]
            by_cases e2 : j < i
            · rw [if_pos (by omega), if_pos e2]
            · rw [if_neg (by omega), if_neg e2])]
        rfl
      rw [e1]
      exact blks (i + 1) _ ih (d_n h) _ (by omega) hw2 rfl
    · rw [rM] at d2; omega
    · rw [bA _ _ hw2] at d0
      by_cases q : d_we h (d_P h i) < d_n h
      · rw [if_pos q] at d0
        exact absurd d0 (run_no q)
      · rw [if_neg q] at d0; omega
def b_X12_add_0 : List IE := [(.iload_n 1, 1, 0, 0, 1, 0)]
theorem k_X12_add_0 : ckB mX12_add 12 0 b_X12_add_0 1 = true := by decide +kernel
def b_X12_add_4 : List IE := []
theorem k_X12_add_4 : ckIf mX12_add 12 4 b_X12_add_4 4 1 6 10 7 = true := by decide +kernel
def b_X12_add_7 : List IE := [(.bipush (-2), 2, (-2), 0, 0, 0)]
theorem k_X12_add_7 : ckI mX12_add 12 7 b_X12_add_7 9 = true := by decide +kernel
def b_X12_add_10 : List IE := [(.aload_n 0, 1, 0, 0, 0, 0), (.getfield 140, 3, 0, 12, 15, 0), (.iconst 4, 1, 4, 0, 0, 0)]
theorem k_X12_add_10 : ckIc mX12_add 12 10 b_X12_add_10 15 1 15 30 18 = true := by decide +kernel
def b_X12_add_18 : List IE := [(.aload_n 0, 1, 0, 0, 0, 0), (.iload_n 1, 1, 0, 0, 1, 0)]
theorem k_X12_add_18 : ckB mX12_add 12 18 b_X12_add_18 20 = true := by decide +kernel
def b_X12_add_23 : List IE := [(.iconst (-1), 1, (-1), 0, 0, 0)]
theorem k_X12_add_23 : ckIc mX12_add 12 23 b_X12_add_23 24 1 6 30 27 = true := by decide +kernel
def b_X12_add_27 : List IE := [(.bipush (-4), 2, (-4), 0, 0, 0)]
theorem k_X12_add_27 : ckI mX12_add 12 27 b_X12_add_27 29 = true := by decide +kernel
def b_X12_add_30 : List IE := [(.aload_n 0, 1, 0, 0, 0, 0)]
theorem k_X12_add_30 : ckB mX12_add 12 30 b_X12_add_30 31 = true := by decide +kernel
def b_X12_add_34 : List IE := [(.istore_n 2, 1, 0, 0, 2, 0), (.aload_n 0, 1, 0, 0, 0, 0), (.iconst 0, 1, 0, 0, 0, 0), (.putfield 120, 3, 0, 12, 18, 0), (.iload_n 2, 1, 0, 0, 2, 0)]
theorem k_X12_add_34 : ckIf mX12_add 12 34 b_X12_add_34 41 2 8 49 44 = true := by decide +kernel
def b_X12_add_44 : List IE := [(.bipush (-100), 2, (-100), 0, 0, 0), (.iload_n 2, 1, 0, 0, 2, 0), (.isub, 1, 0, 0, 0, 0)]
theorem k_X12_add_44 : ckI mX12_add 12 44 b_X12_add_44 48 = true := by decide +kernel
def b_X12_add_49 : List IE := [(.aload_n 0, 1, 0, 0, 0, 0), (.iload_n 1, 1, 0, 0, 1, 0)]
theorem k_X12_add_49 : ckB mX12_add 12 49 b_X12_add_49 51 = true := by decide +kernel
def b_X12_add_54 : List IE := [(.pop, 1, 0, 0, 0, 0), (.aload_n 0, 1, 0, 0, 0, 0), (.getfield 9, 3, 0, 12, 1, 1), (.aload_n 0, 1, 0, 0, 0, 0), (.getfield 159, 3, 0, 12, 0, 0), (.iload_n 1, 1, 0, 0, 1, 0), (.iastore, 1, 0, 0, 0, 0), (.aload_n 0, 1, 0, 0, 0, 0), (.getfield 13, 3, 0, 12, 2, 1), (.aload_n 0, 1, 0, 0, 0, 0), (.getfield 159, 3, 0, 12, 0, 0), (.aload_n 0, 1, 0, 0, 0, 0), (.getfield 123, 3, 0, 12, 20, 0), (.iastore, 1, 0, 0, 0, 0), (.aload_n 0, 1, 0, 0, 0, 0), (.getfield 57, 3, 0, 12, 19, 1), (.iconst 0, 1, 0, 0, 0, 0), (.aload_n 0, 1, 0, 0, 0, 0), (.getfield 18, 3, 0, 12, 3, 1), (.aload_n 0, 1, 0, 0, 0, 0), (.getfield 159, 3, 0, 12, 0, 0), (.aaload, 1, 0, 0, 0, 0), (.iconst 0, 1, 0, 0, 0, 0), (.aload_n 0, 1, 0, 0, 0, 0), (.getfield 123, 3, 0, 12, 20, 0)]
theorem k_X12_add_54 : ckB mX12_add 12 54 b_X12_add_54 97 = true := by decide +kernel
def b_X12_add_100 : List IE := [(.aload_n 0, 1, 0, 0, 0, 0), (.getfield 51, 3, 0, 12, 16, 1), (.aload_n 0, 1, 0, 0, 0, 0), (.getfield 140, 3, 0, 12, 15, 0), (.aload_n 0, 1, 0, 0, 0, 0), (.getfield 159, 3, 0, 12, 0, 0), (.iastore, 1, 0, 0, 0, 0), (.aload_n 0, 1, 0, 0, 0, 0), (.dup, 1, 0, 0, 0, 0), (.getfield 140, 3, 0, 12, 15, 0), (.iconst 1, 1, 1, 0, 0, 0), (.iadd, 1, 0, 0, 0, 0), (.putfield 140, 3, 0, 12, 15, 0), (.aload_n 0, 1, 0, 0, 0, 0), (.dup, 1, 0, 0, 0, 0), (.getfield 159, 3, 0, 12, 0, 0), (.iconst 1, 1, 1, 0, 0, 0), (.iadd, 1, 0, 0, 0, 0), (.putfield 159, 3, 0, 12, 0, 0), (.aload_n 0, 1, 0, 0, 0, 0), (.getfield 123, 3, 0, 12, 20, 0)]
theorem k_X12_add_100 : ckI mX12_add 12 100 b_X12_add_100 137 = true := by decide +kernel
theorem s_X12_add_1 : cS mX12_add 1 mX12_isKey 143 1 := ⟨by decide +kernel, ⟨ml_X12_isKey, li_RX12_143, st_X12_isKey⟩, by decide +kernel⟩
theorem s_X12_add_20 : cV mX12_add 20 mX12_bufferPlace 146 1 12 := ⟨by decide +kernel, ⟨ml_X12_bufferPlace, li_RX12_146, im_X12_bufferPlace, se_X12_bufferPlace⟩, ⟨by decide +kernel, by decide +kernel⟩, by decide +kernel⟩
theorem s_X12_add_31 : cV mX12_add 31 mX12_document 152 0 12 := ⟨by decide +kernel, ⟨ml_X12_document, li_RX12_152, im_X12_document, se_X12_document⟩, ⟨by decide +kernel, by decide +kernel⟩, by decide +kernel⟩
theorem s_X12_add_51 : cV mX12_add 51 mX12_drop 156 1 12 := ⟨by decide +kernel, ⟨ml_X12_drop, li_RX12_156, im_X12_drop, se_X12_drop⟩, ⟨by decide +kernel, by decide +kernel⟩, by decide +kernel⟩
theorem s_X12_add_97 : cCp mX12_add 97 162 := ⟨by decide +kernel, gt_ok (List.mem_of_getElem? (i := 1175) (by decide +kernel)) (by decide +kernel), gt_ok (List.mem_of_getElem? (i := 447) (by decide +kernel)) (by decide +kernel), gt_ok (List.mem_of_getElem? (i := 446) (by decide +kernel)) (by decide +kernel), gt_ok (List.mem_of_getElem? (i := 103) (by decide +kernel)) (by decide +kernel)⟩
theorem t_X12_add_0 {rc rs : Nat} {Q : Option AV → AH → Prop} {h : AH} {x1 : Int} (hL : LayM h) (hv : (((0 ≤ x1 ∧ x1 ≤ 99) → (((iH h 71 15) ≠ 4 → wp mX12_add 3 rc rs Q 30 [some (vr 71), some (vi x1), none] [] h) ∧ ((iH h 71 15) = 4 → (m_buf h) ∧ (((m_bp h x1) ≠ (-1) → wp mX12_add 3 rc rs Q 30 [some (vr 71), some (vi x1), none] [] h) ∧ ((m_bp h x1) = (-1) → Q (some (vi (-4))) h))))) ∧ (¬ (0 ≤ x1 ∧ x1 ≤ 99) → Q (some (vi (-2))) h))) : wp mX12_add 3 rc rs Q 0 [some (vr 71), some (vi x1), none] [] h :=
  (show wp mX12_add 3 rc rs Q 0 [some (vr 71), some (vi x1), none] [] h from xcS k_X12_add_0 s_X12_add_1 ((Exists.intro [vi x1] (Exists.intro [] (And.intro (And.intro rfl (And.intro rfl (Nat.le_of_ble_eq_true rfl))) (Exists.intro 1 (Exists.intro 0 (Exists.intro 0 (Exists.intro _ (And.intro c_isKey (And.intro (And.intro (by decide) (And.intro (Nat.zero_le _) (Nat.zero_le _))) (eQP (show wp mX12_add 3 rc rs Q 4 [some (vr 71), some (vi x1), none] [vi (b01 (0 ≤ x1 ∧ x1 ≤ 99))] h from xIf k_X12_add_4 (And.intro (fun c1 => have v3 := hv.1 (b01_p.mp c1); (show wp mX12_add 3 rc rs Q 10 [some (vr 71), some (vi x1), none] [] h from xIc k_X12_add_10 (And.intro (lm_71 hL) (And.intro (fun c5 => have v7 := v3.1 c5; v7) (fun c6 => have v8 := v3.2 (Decidable.not_not.mp c6); (show wp mX12_add 3 rc rs Q 18 [some (vr 71), some (vi x1), none] [] h from xcV k_X12_add_18 s_X12_add_20 (have c13 := v8.1; have v14 := v8.2; (Exists.intro [vi x1] (Exists.intro 71 (Exists.intro [] (And.intro (And.intro rfl (And.intro rfl (Nat.le_of_ble_eq_true rfl))) (And.intro (lm_71 hL) (Exists.intro 0 (Exists.intro 0 (Exists.intro 0 (Exists.intro _ (And.intro (c_bufferPlace hL c13) (And.intro (And.intro (by decide) (And.intro (Nat.zero_le _) (Nat.zero_le _))) (eQP (show wp mX12_add 3 rc rs Q 23 [some (vr 71), some (vi x1), none] [vi (m_bp h x1)] h from xIc k_X12_add_23 (And.intro (fun c9 => have v11 := v14.1 c9; v11) (fun c10 => have v12 := v14.2 (Decidable.not_not.mp c10); (show wp mX12_add 3 rc rs Q 27 [some (vr 71), some (vi x1), none] [] h from xI k_X12_add_27 (And.intro rfl v12)))))))))))))))))))))))) (fun c2 => have v4 := hv.2 (b01_nn.mp c2); (show wp mX12_add 3 rc rs Q 7 [some (vr 71), some (vi x1), none] [] h from xI k_X12_add_7 (And.intro rfl v4)))))))))))))))))
theorem e_X12_add {mc ms : Nat} {Q : Option AV → AH → Prop} {h : AH} {x1 : Int} (hL : LayM h) (hv : (((0 ≤ x1 ∧ x1 ≤ 99) → (((iH h 71 15) ≠ 4 → wp mX12_add 3 mc ms Q 30 [some (vr 71), some (vi x1), none] [] h) ∧ ((iH h 71 15) = 4 → (m_buf h) ∧ (((m_bp h x1) ≠ (-1) → wp mX12_add 3 mc ms Q 30 [some (vr 71), some (vi x1), none] [] h) ∧ ((m_bp h x1) = (-1) → Q (some (vi (-4))) h))))) ∧ (¬ (0 ≤ x1 ∧ x1 ≤ 99) → Q (some (vi (-2))) h))) : Ct 3 mc ms mX12_add [vr 71, vi x1] h Q := Ct.of (by decide +kernel) (Nat.le_of_ble_eq_true rfl) (t_X12_add_0 hL hv)
theorem t_X12_add_30 {rc rs : Nat} {Q : Option AV → AH → Prop} {h : AH} {x1 : Int} (hL : LayM h) (hv : (0 ≤ iH h 71 18 ∧ iH h 71 18 ≤ 64) ∧ LayM (m_docH h) ∧ (((d_fault h) < 0 → (∃ P11 : Int → AH → Prop, Ct 2 0 0 mX12_drop [vr 71, vi x1] (sI (m_docH h) 71 18 0) (QI P11) ∧ ∀ (r10 : Int) (h9 : AH), (-2147483648 ≤ r10 ∧ r10 < 2147483648) → P11 r10 h9 → LayM h9 ∧ (0 ≤ iH h9 71 0 ∧ iH h9 71 0 < 520) ∧ (0 ≤ (0 : Int) ∧ 0 ≤ (0 : Int) ∧ 0 ≤ iH h9 71 20 ∧ (0 : Int) + iH h9 71 20 ≤ 12 ∧ (0 : Int) + iH h9 71 20 ≤ 12) ∧ (0 ≤ iH (cpI (sI (sI h9 72 ((iH h9 71 0).toNat) x1) 73 ((iH h9 71 0).toNat) (iH h9 71 20)) 1140 0 (75 + (iH h9 71 0).toNat) 0 ((iH h9 71 20).toNat)) 71 15 ∧ iH (cpI (sI (sI h9 72 ((iH h9 71 0).toNat) x1) 73 ((iH h9 71 0).toNat) (iH h9 71 20)) 1140 0 (75 + (iH h9 71 0).toNat) 0 ((iH h9 71 20).toNat)) 71 15 < 4) ∧ (-2147483648 ≤ (iH (cpI (sI (sI h9 72 ((iH h9 71 0).toNat) x1) 73 ((iH h9 71 0).toNat) (iH h9 71 20)) 1140 0 (75 + (iH h9 71 0).toNat) 0 ((iH h9 71 20).toNat)) 71 15 + 1) ∧ (iH (cpI (sI (sI h9 72 ((iH h9 71 0).toNat) x1) 73 ((iH h9 71 0).toNat) (iH h9 71 20)) 1140 0 (75 + (iH h9 71 0).toNat) 0 ((iH h9 71 20).toNat)) 71 15 + 1) < 2147483648) ∧ (-2147483648 ≤ (iH (cpI (sI (sI h9 72 ((iH h9 71 0).toNat) x1) 73 ((iH h9 71 0).toNat) (iH h9 71 20)) 1140 0 (75 + (iH h9 71 0).toNat) 0 ((iH h9 71 20).toNat)) 71 0 + 1) ∧ (iH (cpI (sI (sI h9 72 ((iH h9 71 0).toNat) x1) 73 ((iH h9 71 0).toNat) (iH h9 71 20)) 1140 0 (75 + (iH h9 71 0).toNat) 0 ((iH h9 71 20).toNat)) 71 0 + 1) < 2147483648) ∧ Q (some (vi (iH (cpI (sI (sI h9 72 ((iH h9 71 0).toNat) x1) 73 ((iH h9 71 0).toNat) (iH h9 71 20)) 1140 0 (75 + (iH h9 71 0).toNat) 0 ((iH h9 71 20).toNat)) 71 20))) (sI (sI (sI (cpI (sI (sI h9 72 ((iH h9 71 0).toNat) x1) 73 ((iH h9 71 0).toNat) (iH h9 71 20)) 1140 0 (75 + (iH h9 71 0).toNat) 0 ((iH h9 71 20).toNat)) 1138 ((iH (cpI (sI (sI h9 72 ((iH h9 71 0).toNat) x1) 73 ((iH h9 71 0).toNat) (iH h9 71 20)) 1140 0 (75 + (iH h9 71 0).toNat) 0 ((iH h9 71 20).toNat)) 71 15).toNat) (iH (cpI (sI (sI h9 72 ((iH h9 71 0).toNat) x1) 73 ((iH h9 71 0).toNat) (iH h9 71 20)) 1140 0 (75 + (iH h9 71 0).toNat) 0 ((iH h9 71 20).toNat)) 71 0)) 71 15 (iH (cpI (sI (sI h9 72 ((iH h9 71 0).toNat) x1) 73 ((iH h9 71 0).toNat) (iH h9 71 20)) 1140 0 (75 + (iH h9 71 0).toNat) 0 ((iH h9 71 20).toNat)) 71 15 + 1)) 71 0 (iH (cpI (sI (sI h9 72 ((iH h9 71 0).toNat) x1) 73 ((iH h9 71 0).toNat) (iH h9 71 20)) 1140 0 (75 + (iH h9 71 0).toNat) 0 ((iH h9 71 20).toNat)) 71 0 + 1)))) ∧ (0 ≤ (d_fault h) → (-2147483648 ≤ ((-100) - (d_fault h)) ∧ ((-100) - (d_fault h)) < 2147483648) ∧ Q (some (vi ((-100) - (d_fault h)))) (sI (m_docH h) 71 18 0)))) : wp mX12_add 3 rc rs Q 30 [some (vr 71), some (vi x1), none] [] h :=
  (show wp mX12_add 3 rc rs Q 30 [some (vr 71), some (vi x1), none] [] h from xcV k_X12_add_30 s_X12_add_31 (have c30 := hv.1; have v31 := hv.2; (Exists.intro [] (Exists.intro 71 (Exists.intro [] (And.intro (And.intro rfl (And.intro rfl (Nat.le_of_ble_eq_true rfl))) (And.intro (lm_71 hL) (Exists.intro 2 (Exists.intro 0 (Exists.intro 0 (Exists.intro _ (And.intro (c_document hL c30) (And.intro (And.intro (by decide) (And.intro (Nat.zero_le _) (Nat.zero_le _))) (eQP (have hL := v31.1; have v4 := v31.2; (show wp mX12_add 3 rc rs Q 34 [some (vr 71), some (vi x1), none] [vi (d_fault h)] (m_docH h) from xIf k_X12_add_34 (And.intro rfl (And.intro (lm_71 hL) (And.intro (fun c5 => have v7 := v4.1 c5; (show wp mX12_add 3 rc rs Q 49 [some (vr 71), some (vi x1), some (vi (d_fault h))] [] (sI (m_docH h) 71 18 0) from xcV k_X12_add_49 s_X12_add_51 (Exists.elim v7 (fun P11 v24 => (Exists.intro [vi x1] (Exists.intro 71 (Exists.intro [] (And.intro (And.intro rfl (And.intro rfl (Nat.le_of_ble_eq_true rfl))) (And.intro (lm_71 hL) (Exists.intro 2 (Exists.intro 0 (Exists.intro 0 (Exists.intro (QI P11) (And.intro v24.1 (And.intro (And.intro (by decide) (And.intro (Nat.zero_le _) (Nat.zero_le _))) (eQI (fun r10 h9 q27 e26 => have v25 := v24.2 r10 h9 q27 e26; have hL := v25.1; have v25 := v25.2; (show wp mX12_add 3 rc rs Q 54 [some (vr 71), some (vi x1), some (vi (d_fault h))] [vi r10] h9 from xcp k_X12_add_54 s_X12_add_97 (And.intro rfl (And.intro (lm_71 hL) (Exists.intro 72 (And.intro (lf_71_1 hL) (And.intro (lm_71 hL) (have c12 := v25.1; have v23 := v25.2; (And.intro (sdI (lm_72 hL) c12) (And.intro (lm_71 hL) (Exists.intro 73 (And.intro (lf_71_2 hL) (And.intro (lm_71 hL) (And.intro (lm_71 hL) (And.intro (sdI (lm_73 hL) c12) (And.intro (lm_71 hL) (Exists.intro 1140 (And.intro (lf_71_19 hL) (And.intro (lm_71 hL) (Exists.intro 74 (And.intro (lf_71_3 hL) (And.intro (lm_71 hL) (And.intro (sdQ (lm_74 hL) c12) (Exists.intro (75 + (iH h9 71 0).toNat) (And.intro (lr_words hL (tnl c12)) (And.intro (lm_71 hL) (have c21 := v23.1; have v22 := v23.2; Exists.intro _ (Exists.intro _ (Exists.intro 13 (And.intro (lm_1140 hL) (And.intro (lk_words hL (tnl c12)) (And.intro (Or.inl rfl) (And.intro c21 (And.intro (And.intro (Nat.le_of_ble_eq_true rfl) (Nat.le_of_ble_eq_true rfl)) (show wp mX12_add 3 rc rs Q 100 [some (vr 71), some (vi x1), some (vi (d_fault h))] [] (cpI (sI (sI h9 72 ((iH h9 71 0).toNat) x1) 73 ((iH h9 71 0).toNat) (iH h9 71 20)) 1140 0 (75 + (iH h9 71 0).toNat) 0 ((iH h9 71 20).toNat)) from xI k_X12_add_100 (And.intro (lm_71 hL) (Exists.intro 1138 (And.intro (lf_71_16 hL) (And.intro (lm_71 hL) (And.intro (lm_71 hL) (have c15 := v22.1; have v20 := v22.2; (And.intro (sdI (lm_1138 hL) c15) (And.intro rfl (And.intro (lm_71 hL) (have c16 := v20.1; have v19 := v20.2; (And.intro c16 (And.intro (lm_71 hL) (And.intro rfl (And.intro (lm_71 hL) (have c17 := v19.1; have v18 := v19.2; (And.intro c17 (And.intro (lm_71 hL) (And.intro (lm_71 hL) (And.intro rfl v18)))))))))))))))))))))))))))))))))))))))))))))))))))))))))))))))))))))) (fun c6 => have v8 := v4.2 (Int.not_lt.mp c6); (show wp mX12_add 3 rc rs Q 44 [some (vr 71), some (vi x1), some (vi (d_fault h))] [] (sI (m_docH h) 71 18 0) from xI k_X12_add_44 (have c28 := v8.1; have v29 := v8.2; (And.intro c28 (And.intro rfl v29))))))))))))))))))))))))
def m_addH (h : AH) (key : Int) : AH := sI (sI (sI (cpI (sI (sI h 72 (iH h 71 0).toNat key) 73 (iH h 71 0).toNat (iH h 71 20)) 1140 0 (75 + (iH h 71 0).toNat) 0 (iH h 71 20).toNat) 1138 (iH h 71 15).toNat (iH h 71 0)) 71 15 (iH h 71 15 + 1)) 71 0 (iH h 71 0 + 1)
noncomputable def m_add1 (h : AH) : AH := sI (m_docH h) 71 18 0
def p_add (h : AH) (key : Int) (x : Int) (h' : AH) : Prop := (¬ (0 ≤ key ∧ key ≤ 99) ∧ x = -2 ∧ h' = h) ∨ ((0 ≤ key ∧ key ≤ 99) ∧ iH h 71 15 = 4 ∧ m_bp h key = -1 ∧ x = -4 ∧ h' = h) ∨ ((0 ≤ key ∧ key ≤ 99) ∧ ¬ (iH h 71 15 = 4 ∧ m_bp h key = -1) ∧ 0 ≤ d_fault h ∧ x = -100 - d_fault h ∧ h' = m_add1 h) ∨ ((0 ≤ key ∧ key ≤ 99) ∧ ¬ (iH h 71 15 = 4 ∧ m_bp h key = -1) ∧ d_fault h < 0 ∧ x = d_m h ∧ h' = m_addH (m_drop (m_add1 h) key) key)
theorem d_fault_bd {h : AH} (ht : 0 ≤ iH h 71 18 ∧ iH h 71 18 ≤ 64) : -1 ≤ d_fault h ∧ d_fault h ≤ 64 := by
  have h1 := d_P_le h (d_m h)
  have h2 : (d_n h : Int) = iH h 71 18 := by unfold d_n; omega
  unfold d_fault
  split
  · split <;> omega
  · omega
theorem r_doc {h : AH} {a k : Nat} (h1 : a ≠ 1140) (h2 : a ≠ 71) : iH (m_docH h) a k = iH h a k := by
  unfold m_docH d_H; rw [rI_ne h2, rW_ne h1]
theorem r_doc71 {h : AH} {k : Nat} (hk : k ≠ 20) : iH (m_docH h) 71 k = iH h 71 k := by
  unfold m_docH d_H; rw [rI_nk hk, rW_ne (by decide)]
theorem r_add1 {h : AH} {a k : Nat} (h1 : a ≠ 1140) (h2 : a ≠ 71) : iH (m_add1 h) a k = iH h a k := by
  unfold m_add1; rw [rI_ne h2, r_doc h1 h2]
theorem r_add71 {h : AH} {k : Nat} (hk : k ≠ 20) (hk2 : k ≠ 18) : iH (m_add1 h) 71 k = iH h 71 k := by
  unfold m_add1; rw [rI_nk hk2, r_doc71 hk]
theorem m_bp_cg {h h' : AH} {key : Int} (e1 : ∀ k, iH h' 72 k = iH h 72 k) (e2 : ∀ k, iH h' 1138 k = iH h 1138 k) (e3 : iH h' 71 15 = iH h 71 15) : m_bp h' key = m_bp h key := by
  unfold m_bp
  rw [e3]
  refine fst_cg fun k _ => ?_
  unfold m_bufP
  rw [e2, e1]
theorem m_buf_cg {h h' : AH} (hb : m_buf h) (e2 : ∀ k, iH h' 1138 k = iH h 1138 k) (e3 : iH h' 71 15 = iH h 71 15) : m_buf h' := by
  unfold m_buf
  rw [e3]
  exact ⟨hb.1, fun k hk => by rw [e2]; exact hb.2 k hk⟩
theorem m_now_cg {h h' : AH} (hn : m_now h) (e0 : iH h' 71 13 = iH h 71 13) (e2 : ∀ k, iH h' 597 k = iH h 597 k) (e3 : ∀ g k, g < 520 → iH h' (599 + g) k = iH h (599 + g) k) (e4 : ∀ k, iH h' 1137 k = iH h 1137 k) : m_now h' := by
  unfold m_now
  rw [e0]
  exact ⟨hn.1, fun s hs => by rw [e4]; exact m_seg_cg (hn.2 s hs) e2 e3⟩
theorem c_add {h : AH} (hL : LayM h) {key : Int} (ht : 0 ≤ iH h 71 18 ∧ iH h 71 18 ≤ 64) (hb : m_buf h) (hn : m_now h) (hd : 0 ≤ iH h 71 0 ∧ iH h 71 0 < 520) : Ct 3 0 0 mX12_add [vr 71, vi key] h (QI (p_add h key)) := by
  have hf := d_fault_bd ht
  have hb1 := hb.1
  have hdm := (d_m_cs h).1
  have b1 : m_buf (m_add1 h) := m_buf_cg hb (fun k => r_add1 (by decide) (by decide)) (r_add71 (by decide) (by decide))
  have n1 : m_now (m_add1 h) := m_now_cg hn (r_add71 (by decide) (by decide)) (fun k => r_add1 (by decide) (by decide)) (fun g k hg => r_add1 (by omega) (by omega)) (fun k => r_add1 (by decide) (by decide))
  have bp1 : m_bp (m_add1 h) key = m_bp h key := m_bp_cg (fun k => r_add1 (by decide) (by decide)) (fun k => r_add1 (by decide) (by decide)) (r_add71 (by decide) (by decide))
  have main : (0 ≤ key ∧ key ≤ 99) → ¬ (iH h 71 15 = 4 ∧ m_bp h key = -1) → wp mX12_add 3 0 0 (QI (p_add h key)) 30 [some (vr 71), some (vi key), none] [] h := by
    intro hk hbf
    refine t_X12_add_30 hL ⟨ht, by exact hL, fun c => ?_, fun c => ⟨by omega, _, rfl, Or.inr (Or.inr (Or.inl ⟨hk, hbf, c, rfl, rfl⟩))⟩⟩
    refine ⟨_, c_drop (h := m_add1 h) (by exact hL) ⟨b1, n1⟩, fun x h3 _ hx => ?_⟩
    rcases hx with ⟨q, -⟩ | ⟨-, -, rfl⟩
    · exact absurd hk q
    · have r0 : iH (m_drop (m_add1 h) key) 71 0 = iH h 71 0 := by
        unfold m_drop
        split
        · rw [rI_nk (by decide), rW_ne (by decide), r_add71 (by decide) (by decide)]
        · split
          · rw [rI_ne (by decide), r_add71 (by decide) (by decide)]
          · rw [r_add71 (by decide) (by decide)]
      have rm : iH (m_add1 h) 71 20 = d_m h := by unfold m_add1 m_docH d_H; rw [rI_nk (by decide), rI_same]
      have r1 : iH (m_drop (m_add1 h) key) 71 20 = d_m h := by
        unfold m_drop
        split
        · rw [rI_nk (by decide), rW_ne (by decide), rm]
        · split
          · rw [rI_ne (by decide), rm]
          · exact rm
      have r2 : 0 ≤ iH (m_drop (m_add1 h) key) 71 15 ∧ iH (m_drop (m_add1 h) key) 71 15 < 4 := by
        have e := r_add71 (h := h) (k := 15) (by decide) (by decide)
        have q1 := m_bp_bd (key := key) hb
        unfold m_drop
        rw [bp1]
        split
        · rename_i q
          rw [rI_same, e]
          have : 0 < iH h 71 15 := by
            rcases fst_cs (m_bufP h key) (iH h 71 15).toNat with ⟨e, -⟩ | ⟨p, hp, e, -⟩
            · exact absurd e q
            · omega
          omega
        · rename_i q
          have : iH h 71 15 ≠ 4 := fun e => hbf ⟨e, by omega⟩
          split
          · rw [rI_ne (by decide), e]; omega
          · rw [e]; omega
      refine ⟨m_drop_L (by exact hL) key, by rw [r0]; exact hd, by rw [r1]; omega, ?_⟩
      have u1 : ∀ k, k ≠ 20 → iH (cpI (sI (sI (m_drop (m_add1 h) key) 72 (iH (m_drop (m_add1 h) key) 71 0).toNat key) 73 (iH (m_drop (m_add1 h) key) 71 0).toNat (iH (m_drop (m_add1 h) key) 71 20)) 1140 0 (75 + (iH (m_drop (m_add1 h) key) 71 0).toNat) 0 (iH (m_drop (m_add1 h) key) 71 20).toNat) 71 k = iH (m_drop (m_add1 h) key) 71 k := fun k _ => by
        unfold cpI
        rw [rW_ne (by omega), rI_ne (by decide), rI_ne (by decide)]
      have u2 : iH (cpI (sI (sI (m_drop (m_add1 h) key) 72 (iH (m_drop (m_add1 h) key) 71 0).toNat key) 73 (iH (m_drop (m_add1 h) key) 71 0).toNat (iH (m_drop (m_add1 h) key) 71 20)) 1140 0 (75 + (iH (m_drop (m_add1 h) key) 71 0).toNat) 0 (iH (m_drop (m_add1 h) key) 71 20).toNat) 71 20 = iH (m_drop (m_add1 h) key) 71 20 := by
        unfold cpI
        rw [rW_ne (by omega), rI_ne (by decide), rI_ne (by decide)]
      rw [u1 15 (by decide), u1 0 (by decide), u2]
      refine ⟨r2, by omega, by omega, _, rfl, Or.inr (Or.inr (Or.inr ⟨hk, hbf, c, r1, rfl⟩))⟩
  refine e_X12_add hL ⟨fun c => ⟨fun c2 => main c (by omega), fun c2 => ⟨hb, fun c3 => main c (by omega), fun c3 => ⟨_, rfl, Or.inr (Or.inl ⟨c, c2, c3, rfl, rfl⟩)⟩⟩⟩, fun c => ⟨_, rfl, Or.inl ⟨c, rfl, rfl⟩⟩⟩
def b_X12_begin_0 : List IE := [(.aload_n 0, 1, 0, 0, 0, 0), (.getfield 229, 3, 0, 12, 24, 0)]
theorem k_X12_begin_0 : ckIf mX12_begin 12 0 b_X12_begin_0 4 0 6 10 7 = true := by decide +kernel
def b_X12_begin_7 : List IE := [(.bipush (-3), 2, (-3), 0, 0, 0)]
theorem k_X12_begin_7 : ckI mX12_begin 12 7 b_X12_begin_7 9 = true := by decide +kernel
def b_X12_begin_10 : List IE := [(.aload_n 0, 1, 0, 0, 0, 0)]
theorem k_X12_begin_10 : ckB mX12_begin 12 10 b_X12_begin_10 11 = true := by decide +kernel
def b_X12_begin_14 : List IE := [(.istore_n 1, 1, 0, 0, 1, 0), (.iload_n 1, 1, 0, 0, 1, 0), (.iconst (-1), 1, (-1), 0, 0, 0)]
theorem k_X12_begin_14 : ckIc mX12_begin 12 14 b_X12_begin_14 17 1 5 22 20 = true := by decide +kernel
def b_X12_begin_20 : List IE := [(.iconst (-1), 1, (-1), 0, 0, 0)]
theorem k_X12_begin_20 : ckI mX12_begin 12 20 b_X12_begin_20 21 = true := by decide +kernel
def b_X12_begin_22 : List IE := [(.aload_n 0, 1, 0, 0, 0, 0), (.iconst 1, 1, 1, 0, 0, 0), (.putfield 229, 3, 0, 12, 24, 2), (.aload_n 0, 1, 0, 0, 0, 0), (.aload_n 0, 1, 0, 0, 0, 0), (.getfield 48, 3, 0, 12, 14, 1), (.iload_n 1, 1, 0, 0, 1, 0), (.iaload, 1, 0, 0, 0, 0), (.putfield 233, 3, 0, 12, 25, 0), (.aload_n 0, 1, 0, 0, 0, 0), (.aload_n 0, 1, 0, 0, 0, 0)]
theorem k_X12_begin_22 : ckB mX12_begin 12 22 b_X12_begin_22 39 = true := by decide +kernel
def b_X12_begin_42 : List IE := [(.putfield 236, 3, 0, 12, 26, 0), (.aload_n 0, 1, 0, 0, 0, 0), (.iconst 0, 1, 0, 0, 0, 0), (.putfield 239, 3, 0, 12, 27, 0), (.iload_n 1, 1, 0, 0, 1, 0), (.istore_n 2, 1, 0, 0, 2, 0)]
theorem k_X12_begin_42 : ckB mX12_begin 12 42 b_X12_begin_42 52 = true := by decide +kernel
def b_X12_begin_52 : List IE := [(.iload_n 2, 1, 0, 0, 2, 0), (.iload_n 1, 1, 0, 0, 1, 0), (.aload_n 0, 1, 0, 0, 0, 0), (.getfield 236, 3, 0, 12, 26, 0), (.iadd, 1, 0, 0, 0, 0)]
theorem k_X12_begin_52 : ckIc mX12_begin 12 52 b_X12_begin_52 59 3 81 140 62 = true := by decide +kernel
def b_X12_begin_62 : List IE := [(.iconst 0, 1, 0, 0, 0, 0), (.istore_n 3, 1, 0, 0, 3, 0)]
theorem k_X12_begin_62 : ckB mX12_begin 12 62 b_X12_begin_62 64 = true := by decide +kernel
def b_X12_begin_64 : List IE := [(.iload_n 3, 1, 0, 0, 3, 0), (.aload_n 0, 1, 0, 0, 0, 0), (.getfield 28, 3, 0, 12, 7, 1), (.aload_n 0, 1, 0, 0, 0, 0), (.getfield 48, 3, 0, 12, 14, 1), (.iload_n 2, 1, 0, 0, 2, 0), (.iaload, 1, 0, 0, 0, 0), (.iaload, 1, 0, 0, 0, 0)]
theorem k_X12_begin_64 : ckIc mX12_begin 12 64 b_X12_begin_64 76 3 58 134 79 = true := by decide +kernel
def b_X12_begin_79 : List IE := [(.aload_n 0, 1, 0, 0, 0, 0), (.getfield 31, 3, 0, 12, 8, 1), (.aload_n 0, 1, 0, 0, 0, 0), (.getfield 48, 3, 0, 12, 14, 1), (.iload_n 2, 1, 0, 0, 2, 0), (.iaload, 1, 0, 0, 0, 0), (.aaload, 1, 0, 0, 0, 0), (.iload_n 3, 1, 0, 0, 3, 0), (.iaload, 1, 0, 0, 0, 0), (.istore 4, 2, 0, 0, 4, 0), (.aload_n 0, 1, 0, 0, 0, 0), (.getfield 21, 3, 0, 12, 4, 1), (.iload 4, 2, 0, 0, 4, 0), (.baload, 1, 0, 0, 0, 0)]
theorem k_X12_begin_79 : ckIf mX12_begin 12 79 b_X12_begin_79 101 0 6 107 104 = true := by decide +kernel
def b_X12_begin_104 : List IE := []
theorem k_X12_begin_104 : ckGo mX12_begin 12 104 b_X12_begin_104 104 24 128 = true := by decide +kernel
def b_X12_begin_107 : List IE := [(.aload_n 0, 1, 0, 0, 0, 0), (.getfield 64, 3, 0, 12, 28, 1), (.aload_n 0, 1, 0, 0, 0, 0), (.getfield 239, 3, 0, 12, 27, 0), (.iload 4, 2, 0, 0, 4, 0), (.iastore, 1, 0, 0, 0, 0), (.aload_n 0, 1, 0, 0, 0, 0), (.dup, 1, 0, 0, 0, 0), (.getfield 239, 3, 0, 12, 27, 0), (.iconst 1, 1, 1, 0, 0, 0), (.iadd, 1, 0, 0, 0, 0), (.putfield 239, 3, 0, 12, 27, 0), (.iinc 3 1, 3, 1, 0, 3, 0)]
theorem k_X12_begin_107 : ckGo mX12_begin 12 107 b_X12_begin_107 131 (-67) 64 = true := by decide +kernel
def b_X12_begin_128 : List IE := [(.iinc 3 1, 3, 1, 0, 3, 0)]
theorem k_X12_begin_128 : ckGo mX12_begin 12 128 b_X12_begin_128 131 (-67) 64 = true := by decide +kernel
def b_X12_begin_134 : List IE := [(.iinc 2 1, 3, 1, 0, 2, 0)]
theorem k_X12_begin_134 : ckGo mX12_begin 12 134 b_X12_begin_134 137 (-85) 52 = true := by decide +kernel
def b_X12_begin_140 : List IE := [(.aload_n 0, 1, 0, 0, 0, 0), (.getfield 239, 3, 0, 12, 27, 0)]
theorem k_X12_begin_140 : ckI mX12_begin 12 140 b_X12_begin_140 144 = true := by decide +kernel
theorem s_X12_begin_11 : cV mX12_begin 11 mX12_chosen 223 0 12 := ⟨by decide +kernel, ⟨ml_X12_chosen, li_RX12_223, im_X12_chosen, se_X12_chosen⟩, ⟨by decide +kernel, by decide +kernel⟩, by decide +kernel⟩
theorem s_X12_begin_39 : cV mX12_begin 39 mX12_width 217 0 12 := ⟨by decide +kernel, ⟨ml_X12_width, li_RX12_217, im_X12_width, se_X12_width⟩, ⟨by decide +kernel, by decide +kernel⟩, by decide +kernel⟩
theorem t_X12_begin_0 {rc rs : Nat} {Q : Option AV → AH → Prop} {h : AH}  (hL : LayM h) (hv : (((iH h 71 24) = 0 → (m_pol h) ∧ (((m_ch h) ≠ (-1) → (0 ≤ (m_ch h) ∧ (m_ch h) < 8) ∧ wp mX12_begin 5 rc rs Q 52 [some (vr 71), some (vi (m_ch h)), some (vi (m_ch h)), none, none] [] (sI (sI (sI (sI h 71 24 1) 71 25 (iH h 1137 ((m_ch h).toNat))) 71 26 (m_width (sI (sI h 71 24 1) 71 25 (iH h 1137 ((m_ch h).toNat))))) 71 27 0)) ∧ ((m_ch h) = (-1) → Q (some (vi (-1))) h))) ∧ ((iH h 71 24) ≠ 0 → Q (some (vi (-3))) h))) : wp mX12_begin 5 rc rs Q 0 [some (vr 71), none, none, none, none] [] h :=
  (show wp mX12_begin 5 rc rs Q 0 [some (vr 71), none, none, none, none] [] h from xIf k_X12_begin_0 (And.intro (lm_71 hL) (And.intro (fun c1 => have v3 := hv.1 c1; (show wp mX12_begin 5 rc rs Q 10 [some (vr 71), none, none, none, none] [] h from xcV k_X12_begin_10 s_X12_begin_11 (have c14 := v3.1; have v15 := v3.2; (Exists.intro [] (Exists.intro 71 (Exists.intro [] (And.intro (And.intro rfl (And.intro rfl (Nat.le_of_ble_eq_true rfl))) (And.intro (lm_71 hL) (Exists.intro 4 (Exists.intro 0 (Exists.intro 0 (Exists.intro _ (And.intro (c_chosen hL c14) (And.intro (And.intro (by decide) (And.intro (Nat.zero_le _) (Nat.zero_le _))) (eQP (show wp mX12_begin 5 rc rs Q 14 [some (vr 71), none, none, none, none] [vi (m_ch h)] h from xIc k_X12_begin_14 (And.intro rfl (And.intro (fun c5 => have v7 := v15.1 c5; (show wp mX12_begin 5 rc rs Q 22 [some (vr 71), some (vi (m_ch h)), none, none, none] [] h from xcV k_X12_begin_22 s_X12_begin_39 (And.intro (lm_71 hL) (And.intro (Or.inr rfl) (And.intro (lm_71 hL) (Exists.intro 1137 (And.intro (lf_71_14 hL) (have c9 := v7.1; have v13 := v7.2; (And.intro (sdI (lm_1137 hL) c9) (And.intro (lm_71 hL) ((Exists.intro [] (Exists.intro 71 (Exists.intro [vr 71] (And.intro (And.intro rfl (And.intro rfl (Nat.le_of_ble_eq_true rfl))) (And.intro (lm_71 hL) (Exists.intro 0 (Exists.intro 0 (Exists.intro 0 (Exists.intro _ (And.intro (c_width hL) (And.intro (And.intro (by decide) (And.intro (Nat.zero_le _) (Nat.zero_le _))) (eQP (show wp mX12_begin 5 rc rs Q 42 [some (vr 71), some (vi (m_ch h)), none, none, none] [vi (m_width (sI (sI h 71 24 1) 71 25 (iH h 1137 ((m_ch h).toNat)))), vr 71] (sI (sI h 71 24 1) 71 25 (iH h 1137 ((m_ch h).toNat))) from xB k_X12_begin_42 (And.intro (lm_71 hL) (And.intro (lm_71 hL) (And.intro rfl v13))))))))))))))))))))))))))) (fun c6 => have v8 := v15.2 (Decidable.not_not.mp c6); (show wp mX12_begin 5 rc rs Q 20 [some (vr 71), some (vi (m_ch h)), none, none, none] [] h from xI k_X12_begin_20 (And.intro rfl v8))))))))))))))))))))) (fun c2 => have v4 := hv.2 c2; (show wp mX12_begin 5 rc rs Q 7 [some (vr 71), none, none, none, none] [] h from xI k_X12_begin_7 (And.intro rfl v4))))))
theorem e_X12_begin {mc ms : Nat} {Q : Option AV → AH → Prop} {h : AH}  (hL : LayM h) (hv : (((iH h 71 24) = 0 → (m_pol h) ∧ (((m_ch h) ≠ (-1) → (0 ≤ (m_ch h) ∧ (m_ch h) < 8) ∧ wp mX12_begin 5 mc ms Q 52 [some (vr 71), some (vi (m_ch h)), some (vi (m_ch h)), none, none] [] (sI (sI (sI (sI h 71 24 1) 71 25 (iH h 1137 ((m_ch h).toNat))) 71 26 (m_width (sI (sI h 71 24 1) 71 25 (iH h 1137 ((m_ch h).toNat))))) 71 27 0)) ∧ ((m_ch h) = (-1) → Q (some (vi (-1))) h))) ∧ ((iH h 71 24) ≠ 0 → Q (some (vi (-3))) h))) : Ct 5 mc ms mX12_begin [vr 71] h Q := Ct.of (by decide +kernel) (Nat.le_of_ble_eq_true rfl) (t_X12_begin_0 hL hv)
theorem t_X12_begin_52 {rc rs : Nat} {Q : Option AV → AH → Prop} {h : AH} {x1 x2 : Int} (hL : LayM h) (hv : (-2147483648 ≤ (x1 + iH h 71 26) ∧ (x1 + iH h 71 26) < 2147483648) ∧ (((x1 + iH h 71 26) ≤ x2 → Q (some (vi (iH h 71 27))) h) ∧ (x2 < (x1 + iH h 71 26) → wp mX12_begin 5 rc rs Q 64 [some (vr 71), some (vi x1), some (vi x2), some (vi 0), none] [] h))) : wp mX12_begin 5 rc rs Q 52 [some (vr 71), some (vi x1), some (vi x2), none, none] [] h :=
  (show wp mX12_begin 5 rc rs Q 52 [some (vr 71), some (vi x1), some (vi x2), none, none] [] h from xIc k_X12_begin_52 (And.intro (lm_71 hL) (have c1 := hv.1; have v6 := hv.2; (And.intro c1 (And.intro (fun c2 => have v4 := v6.1 c2; (show wp mX12_begin 5 rc rs Q 140 [some (vr 71), some (vi x1), some (vi x2), none, none] [] h from xI k_X12_begin_140 (And.intro (lm_71 hL) (And.intro rfl v4)))) (fun c3 => have v5 := v6.2 (Int.not_le.mp c3); (show wp mX12_begin 5 rc rs Q 62 [some (vr 71), some (vi x1), some (vi x2), none, none] [] h from xB k_X12_begin_62 (And.intro rfl v5))))))))
theorem t_X12_begin_64 {rc rs : Nat} {Q : Option AV → AH → Prop} {h : AH} {x1 x2 x3 : Int} (hL : LayM h) (hv : (0 ≤ x2 ∧ x2 < 8) ∧ (0 ≤ iH h 1137 x2.toNat ∧ iH h 1137 x2.toNat < 520) ∧ (((iH h 597 ((iH h 1137 x2.toNat).toNat)) ≤ x3 → (-2147483648 ≤ (x2 + 1) ∧ (x2 + 1) < 2147483648) ∧ wp mX12_begin 5 rc rs Q 52 [some (vr 71), some (vi x1), some (vi (x2 + 1)), none, none] [] h) ∧ (x3 < (iH h 597 ((iH h 1137 x2.toNat).toNat)) → (0 ≤ x3 ∧ x3 < 64) ∧ (0 ≤ iH h (599 + (iH h 1137 x2.toNat).toNat) x3.toNat ∧ iH h (599 + (iH h 1137 x2.toNat).toNat) x3.toNat < 520) ∧ (((iH h 595 ((iH h (599 + (iH h 1137 x2.toNat).toNat) x3.toNat).toNat)) = 0 → (0 ≤ iH h 71 27 ∧ iH h 71 27 < 64) ∧ (-2147483648 ≤ (iH h 71 27 + 1) ∧ (iH h 71 27 + 1) < 2147483648) ∧ (-2147483648 ≤ (x3 + 1) ∧ (x3 + 1) < 2147483648) ∧ wp mX12_begin 5 rc rs Q 64 [some (vr 71), some (vi x1), some (vi x2), some (vi (x3 + 1)), none] [] (sI (sI h 1141 ((iH h 71 27).toNat) (iH h (599 + (iH h 1137 x2.toNat).toNat) x3.toNat)) 71 27 (iH h 71 27 + 1))) ∧ ((iH h 595 ((iH h (599 + (iH h 1137 x2.toNat).toNat) x3.toNat).toNat)) ≠ 0 → (-2147483648 ≤ (x3 + 1) ∧ (x3 + 1) < 2147483648) ∧ wp mX12_begin 5 rc rs Q 64 [some (vr 71), some (vi x1), some (vi x2), some (vi (x3 + 1)), none] [] h))))) : wp mX12_begin 5 rc rs Q 64 [some (vr 71), some (vi x1), some (vi x2), some (vi x3), none] [] h :=
  (show wp mX12_begin 5 rc rs Q 64 [some (vr 71), some (vi x1), some (vi x2), some (vi x3), none] [] h from xIc k_X12_begin_64 (And.intro (lm_71 hL) (Exists.intro 597 (And.intro (lf_71_7 hL) (And.intro (lm_71 hL) (Exists.intro 1137 (And.intro (lf_71_14 hL) (have c1 := hv.1; have v28 := hv.2; (And.intro (sdI (lm_1137 hL) c1) (have c2 := v28.1; have v27 := v28.2; (And.intro (sdI (lm_597 hL) c2) (And.intro (fun c3 => have v5 := v27.1 c3; (show wp mX12_begin 5 rc rs Q 134 [some (vr 71), some (vi x1), some (vi x2), some (vi x3), none] [] h from xGo k_X12_begin_134 (have c7 := v5.1; have v8 := v5.2; (And.intro c7 (And.intro rfl (w_fg [true, true, true, false, false] v8)))))) (fun c4 => have v6 := v27.2 (Int.not_le.mp c4); (show wp mX12_begin 5 rc rs Q 79 [some (vr 71), some (vi x1), some (vi x2), some (vi x3), none] [] h from xIf k_X12_begin_79 (And.intro (lm_71 hL) (Exists.intro 598 (And.intro (lf_71_8 hL) (And.intro (lm_71 hL) (Exists.intro 1137 (And.intro (lf_71_14 hL) (And.intro (sdI (lm_1137 hL) c1) (And.intro (sdQ (lm_598 hL) c2) (Exists.intro (599 + (iH h 1137 x2.toNat).toNat) (And.intro (lr_members hL (tnl c2)) (have c11 := v6.1; have v26 := v6.2; (And.intro (sdI (lk_members hL (tnl c2)) c11) (And.intro rfl (And.intro (lm_71 hL) (Exists.intro 595 (And.intro (lf_71_4 hL) (have c12 := v26.1; have v25 := v26.2; (And.intro (sdZ (lm_595 hL) c12) (And.intro (fun c13 => have v15 := v25.1 c13; (show wp mX12_begin 5 rc rs Q 107 [some (vr 71), some (vi x1), some (vi x2), some (vi x3), some (vi (iH h (599 + (iH h 1137 x2.toNat).toNat) x3.toNat))] [] h from xGo k_X12_begin_107 (And.intro (lm_71 hL) (Exists.intro 1141 (And.intro (lf_71_28 hL) (And.intro (lm_71 hL) (have c17 := v15.1; have v22 := v15.2; (And.intro (sdI (lm_1141 hL) c17) (And.intro rfl (And.intro (lm_71 hL) (have c18 := v22.1; have v21 := v22.2; (And.intro c18 (And.intro (lm_71 hL) (have c19 := v21.1; have v20 := v21.2; (And.intro c19 (And.intro rfl (w_fg [true, true, true, true, false] v20))))))))))))))))) (fun c14 => have v16 := v25.2 c14; (show wp mX12_begin 5 rc rs Q 104 [some (vr 71), some (vi x1), some (vi x2), some (vi x3), some (vi (iH h (599 + (iH h 1137 x2.toNat).toNat) x3.toNat))] [] h from xGo k_X12_begin_104 (show wp mX12_begin 5 rc rs Q 128 [some (vr 71), some (vi x1), some (vi x2), some (vi x3), some (vi (iH h (599 + (iH h 1137 x2.toNat).toNat) x3.toNat))] [] h from xGo k_X12_begin_128 (have c23 := v16.1; have v24 := v16.2; (And.intro c23 (And.intro rfl (w_fg [true, true, true, true, false] v24))))))))))))))))))))))))))))))))))))))))
def b_X12_finish_0 : List IE := [(.aload_n 0, 1, 0, 0, 0, 0), (.getfield 229, 3, 0, 12, 24, 0)]
theorem k_X12_finish_0 : ckIf mX12_finish 12 0 b_X12_finish_0 4 1 6 10 7 = true := by decide +kernel
def b_X12_finish_7 : List IE := [(.bipush (-3), 2, (-3), 0, 0, 0)]
theorem k_X12_finish_7 : ckI mX12_finish 12 7 b_X12_finish_7 9 = true := by decide +kernel
def b_X12_finish_10 : List IE := [(.aload_n 0, 1, 0, 0, 0, 0), (.iconst 0, 1, 0, 0, 0, 0), (.putfield 229, 3, 0, 12, 24, 2), (.iconst 0, 1, 0, 0, 0, 0), (.istore_n 1, 1, 0, 0, 1, 0)]
theorem k_X12_finish_10 : ckB mX12_finish 12 10 b_X12_finish_10 17 = true := by decide +kernel
def b_X12_finish_17 : List IE := [(.aload_n 0, 1, 0, 0, 0, 0), (.getfield 48, 3, 0, 12, 14, 1), (.iload_n 1, 1, 0, 0, 1, 0), (.iaload, 1, 0, 0, 0, 0), (.aload_n 0, 1, 0, 0, 0, 0), (.getfield 233, 3, 0, 12, 25, 0)]
theorem k_X12_finish_17 : ckIc mX12_finish 12 17 b_X12_finish_17 27 0 9 36 30 = true := by decide +kernel
def b_X12_finish_30 : List IE := [(.iinc 1 1, 3, 1, 0, 1, 0)]
theorem k_X12_finish_30 : ckGo mX12_finish 12 30 b_X12_finish_30 33 (-16) 17 = true := by decide +kernel
def b_X12_finish_36 : List IE := [(.aload_n 0, 1, 0, 0, 0, 0), (.getfield 236, 3, 0, 12, 26, 0), (.istore_n 2, 1, 0, 0, 2, 0), (.iconst 0, 1, 0, 0, 0, 0), (.istore_n 3, 1, 0, 0, 3, 0), (.aload_n 0, 1, 0, 0, 0, 0), (.getfield 239, 3, 0, 12, 27, 0)]
theorem k_X12_finish_36 : ckIf mX12_finish 12 36 b_X12_finish_36 47 5 62 109 50 = true := by decide +kernel
def b_X12_finish_50 : List IE := [(.aload_n 0, 1, 0, 0, 0, 0)]
theorem k_X12_finish_50 : ckB mX12_finish 12 50 b_X12_finish_50 51 = true := by decide +kernel
def b_X12_finish_54 : List IE := [(.istore 4, 2, 0, 0, 4, 0), (.iconst 0, 1, 0, 0, 0, 0), (.istore 5, 2, 0, 0, 5, 0)]
theorem k_X12_finish_54 : ckB mX12_finish 12 54 b_X12_finish_54 59 = true := by decide +kernel
def b_X12_finish_59 : List IE := [(.iload 5, 2, 0, 0, 5, 0), (.aload_n 0, 1, 0, 0, 0, 0), (.getfield 239, 3, 0, 12, 27, 0)]
theorem k_X12_finish_59 : ckIc mX12_finish 12 59 b_X12_finish_59 65 3 22 87 68 = true := by decide +kernel
def b_X12_finish_68 : List IE := [(.aload_n 0, 1, 0, 0, 0, 0), (.iload 4, 2, 0, 0, 4, 0), (.aload_n 0, 1, 0, 0, 0, 0), (.getfield 64, 3, 0, 12, 28, 1), (.iload 5, 2, 0, 0, 5, 0), (.iaload, 1, 0, 0, 0, 0)]
theorem k_X12_finish_68 : ckB mX12_finish 12 68 b_X12_finish_68 78 = true := by decide +kernel
def b_X12_finish_81 : List IE := [(.iinc 5 1, 3, 1, 0, 5, 0)]
theorem k_X12_finish_81 : ckGo mX12_finish 12 81 b_X12_finish_81 84 (-25) 59 = true := by decide +kernel
def b_X12_finish_87 : List IE := [(.aload_n 0, 1, 0, 0, 0, 0), (.getfield 48, 3, 0, 12, 14, 1), (.iload_n 1, 1, 0, 0, 1, 0), (.iload 4, 2, 0, 0, 4, 0), (.iastore, 1, 0, 0, 0, 0), (.iinc 1 1, 3, 1, 0, 1, 0), (.iinc 2 (-1), 3, (-1), 0, 2, 0), (.aload_n 0, 1, 0, 0, 0, 0), (.getfield 25, 3, 0, 12, 6, 1), (.iload 4, 2, 0, 0, 4, 0), (.iaload, 1, 0, 0, 0, 0), (.istore_n 3, 1, 0, 0, 3, 0), (.iload_n 1, 1, 0, 0, 1, 0), (.iload_n 2, 1, 0, 0, 2, 0), (.iadd, 1, 0, 0, 0, 0), (.istore 4, 2, 0, 0, 4, 0)]
theorem k_X12_finish_87 : ckB mX12_finish 12 87 b_X12_finish_87 114 = true := by decide +kernel
def b_X12_finish_109 : List IE := [(.iload_n 1, 1, 0, 0, 1, 0), (.iload_n 2, 1, 0, 0, 2, 0), (.iadd, 1, 0, 0, 0, 0), (.istore 4, 2, 0, 0, 4, 0)]
theorem k_X12_finish_109 : ckB mX12_finish 12 109 b_X12_finish_109 114 = true := by decide +kernel
def b_X12_finish_114 : List IE := [(.iload 4, 2, 0, 0, 4, 0), (.aload_n 0, 1, 0, 0, 0, 0), (.getfield 106, 3, 0, 12, 13, 0)]
theorem k_X12_finish_114 : ckIc mX12_finish 12 114 b_X12_finish_114 120 3 25 145 123 = true := by decide +kernel
def b_X12_finish_123 : List IE := [(.aload_n 0, 1, 0, 0, 0, 0), (.getfield 48, 3, 0, 12, 14, 1), (.iload 4, 2, 0, 0, 4, 0), (.iload_n 2, 1, 0, 0, 2, 0), (.isub, 1, 0, 0, 0, 0), (.aload_n 0, 1, 0, 0, 0, 0), (.getfield 48, 3, 0, 12, 14, 1), (.iload 4, 2, 0, 0, 4, 0), (.iaload, 1, 0, 0, 0, 0), (.iastore, 1, 0, 0, 0, 0), (.iinc 4 1, 3, 1, 0, 4, 0)]
theorem k_X12_finish_123 : ckGo mX12_finish 12 123 b_X12_finish_123 142 (-28) 114 = true := by decide +kernel
def b_X12_finish_145 : List IE := [(.aload_n 0, 1, 0, 0, 0, 0), (.dup, 1, 0, 0, 0, 0), (.getfield 106, 3, 0, 12, 13, 0), (.iload_n 2, 1, 0, 0, 2, 0), (.isub, 1, 0, 0, 0, 0), (.putfield 106, 3, 0, 12, 13, 0), (.iload_n 3, 1, 0, 0, 3, 0)]
theorem k_X12_finish_145 : ckI mX12_finish 12 145 b_X12_finish_145 156 = true := by decide +kernel
theorem s_X12_finish_51 : cV mX12_finish 51 mX12_newSegment 174 0 12 := ⟨by decide +kernel, ⟨ml_X12_newSegment, li_RX12_174, im_X12_newSegment, se_X12_newSegment⟩, ⟨by decide +kernel, by decide +kernel⟩, by decide +kernel⟩
theorem s_X12_finish_78 : cV mX12_finish 78 mX12_joins 177 2 12 := ⟨by decide +kernel, ⟨ml_X12_joins, li_RX12_177, im_X12_joins, se_X12_joins⟩, ⟨by decide +kernel, by decide +kernel⟩, by decide +kernel⟩
theorem t_X12_finish_0 {rc rs : Nat} {Q : Option AV → AH → Prop} {h : AH}  (hL : LayM h) (hv : (((iH h 71 24) ≠ 0 → wp mX12_finish 1 rc rs Q 17 [some (vr 71), some (vi 0), none, none, none, none] [] (sI h 71 24 0)) ∧ ((iH h 71 24) = 0 → Q (some (vi (-3))) h))) : wp mX12_finish 1 rc rs Q 0 [some (vr 71), none, none, none, none, none] [] h :=
  (show wp mX12_finish 1 rc rs Q 0 [some (vr 71), none, none, none, none, none] [] h from xIf k_X12_finish_0 (And.intro (lm_71 hL) (And.intro (fun c1 => have v3 := hv.1 c1; (show wp mX12_finish 1 rc rs Q 10 [some (vr 71), none, none, none, none, none] [] h from xB k_X12_finish_10 (And.intro (lm_71 hL) (And.intro (Or.inl rfl) (And.intro rfl v3))))) (fun c2 => have v4 := hv.2 (Decidable.not_not.mp c2); (show wp mX12_finish 1 rc rs Q 7 [some (vr 71), none, none, none, none, none] [] h from xI k_X12_finish_7 (And.intro rfl v4))))))
theorem e_X12_finish {mc ms : Nat} {Q : Option AV → AH → Prop} {h : AH}  (hL : LayM h) (hv : (((iH h 71 24) ≠ 0 → wp mX12_finish 1 mc ms Q 17 [some (vr 71), some (vi 0), none, none, none, none] [] (sI h 71 24 0)) ∧ ((iH h 71 24) = 0 → Q (some (vi (-3))) h))) : Ct 1 mc ms mX12_finish [vr 71] h Q := Ct.of (by decide +kernel) (Nat.le_of_ble_eq_true rfl) (t_X12_finish_0 hL hv)
theorem t_X12_finish_17 {rc rs : Nat} {Q : Option AV → AH → Prop} {h : AH} {x1 : Int} (hL : LayM h) (hv : (0 ≤ x1 ∧ x1 < 8) ∧ (((iH h 1137 x1.toNat) = (iH h 71 25) → (((iH h 71 27) ≤ 0 → (-2147483648 ≤ (x1 + iH h 71 26) ∧ (x1 + iH h 71 26) < 2147483648) ∧ wp mX12_finish 1 rc rs Q 114 [some (vr 71), none, some (vi (iH h 71 26)), some (vi 0), some (vi (x1 + iH h 71 26)), none] [] h) ∧ (0 < (iH h 71 27) → (0 ≤ iH h 71 5 ∧ iH h 71 5 < 520) ∧ LayM (m_nseg h) ∧ wp mX12_finish 1 rc rs Q 59 [some (vr 71), some (vi x1), some (vi (iH h 71 26)), none, some (vi (iH h 71 5)), some (vi 0)] [] (m_nseg h)))) ∧ ((iH h 1137 x1.toNat) ≠ (iH h 71 25) → (-2147483648 ≤ (x1 + 1) ∧ (x1 + 1) < 2147483648) ∧ wp mX12_finish 1 rc rs Q 17 [some (vr 71), some (vi (x1 + 1)), none, none, none, none] [] h))) : wp mX12_finish 1 rc rs Q 17 [some (vr 71), some (vi x1), none, none, none, none] [] h :=
  (show wp mX12_finish 1 rc rs Q 17 [some (vr 71), some (vi x1), none, none, none, none] [] h from xIc k_X12_finish_17 (And.intro (lm_71 hL) (Exists.intro 1137 (And.intro (lf_71_14 hL) (have c1 := hv.1; have v20 := hv.2; (And.intro (sdI (lm_1137 hL) c1) (And.intro (lm_71 hL) (And.intro (fun c2 => have v4 := v20.1 c2; (show wp mX12_finish 1 rc rs Q 36 [some (vr 71), some (vi x1), none, none, none, none] [] h from xIf k_X12_finish_36 (And.intro (lm_71 hL) (And.intro rfl (And.intro rfl (And.intro (lm_71 hL) (And.intro (fun c6 => have v8 := v4.1 c6; (show wp mX12_finish 1 rc rs Q 109 [some (vr 71), some (vi x1), some (vi (iH h 71 26)), some (vi 0), none, none] [] h from xB k_X12_finish_109 (have c10 := v8.1; have v11 := v8.2; (And.intro c10 (And.intro rfl (w_fg [true, false, true, true, true, false] v11)))))) (fun c7 => have v9 := v4.2 (Int.not_le.mp c7); (show wp mX12_finish 1 rc rs Q 50 [some (vr 71), some (vi x1), some (vi (iH h 71 26)), some (vi 0), none, none] [] h from xcV k_X12_finish_50 s_X12_finish_51 (have c16 := v9.1; have v17 := v9.2; (Exists.intro [] (Exists.intro 71 (Exists.intro [] (And.intro (And.intro rfl (And.intro rfl (Nat.le_of_ble_eq_true rfl))) (And.intro (lm_71 hL) (Exists.intro 0 (Exists.intro 0 (Exists.intro 0 (Exists.intro _ (And.intro (c_newSegment hL c16) (And.intro (And.intro (by decide) (And.intro (Nat.zero_le _) (Nat.zero_le _))) (eQP (have hL := v17.1; have v15 := v17.2; (show wp mX12_finish 1 rc rs Q 54 [some (vr 71), some (vi x1), some (vi (iH h 71 26)), some (vi 0), none, none] [vi (iH h 71 5)] (m_nseg h) from xB k_X12_finish_54 (And.intro rfl (And.intro rfl (w_fg [true, true, true, false, true, true] v15))))))))))))))))))))))))))) (fun c3 => have v5 := v20.2 c3; (show wp mX12_finish 1 rc rs Q 30 [some (vr 71), some (vi x1), none, none, none, none] [] h from xGo k_X12_finish_30 (have c18 := v5.1; have v19 := v5.2; (And.intro c18 (And.intro rfl v19)))))))))))))
theorem t_X12_finish_59 {rc rs : Nat} {Q : Option AV → AH → Prop} {h : AH} {x1 x2 x4 x5 : Int} (hL : LayM h) (hv : (((iH h 71 27) ≤ x5 → (0 ≤ x1 ∧ x1 < 8) ∧ (-2147483648 ≤ (x1 + 1) ∧ (x1 + 1) < 2147483648) ∧ (-2147483648 ≤ (x2 + (-1)) ∧ (x2 + (-1)) < 2147483648) ∧ (0 ≤ x4 ∧ x4 < 520) ∧ (-2147483648 ≤ ((x1 + 1) + (x2 + (-1))) ∧ ((x1 + 1) + (x2 + (-1))) < 2147483648) ∧ wp mX12_finish 1 rc rs Q 114 [some (vr 71), none, some (vi (x2 + (-1))), some (vi (iH h 596 x4.toNat)), some (vi ((x1 + 1) + (x2 + (-1)))), none] [] (sI h 1137 x1.toNat x4)) ∧ (x5 < (iH h 71 27) → (0 ≤ x5 ∧ x5 < 64) ∧ ((0 ≤ x4 ∧ x4 < 520) ∧ (0 ≤ iH h 597 (x4).toNat ∧ iH h 597 (x4).toNat < 64)) ∧ LayM (m_join h x4 (iH h 1141 x5.toNat)) ∧ (-2147483648 ≤ (x5 + 1) ∧ (x5 + 1) < 2147483648) ∧ wp mX12_finish 1 rc rs Q 59 [some (vr 71), some (vi x1), some (vi x2), none, some (vi x4), some (vi (x5 + 1))] [] (m_join h x4 (iH h 1141 x5.toNat))))) : wp mX12_finish 1 rc rs Q 59 [some (vr 71), some (vi x1), some (vi x2), none, some (vi x4), some (vi x5)] [] h :=
  (show wp mX12_finish 1 rc rs Q 59 [some (vr 71), some (vi x1), some (vi x2), none, some (vi x4), some (vi x5)] [] h from xIc k_X12_finish_59 (And.intro (lm_71 hL) (And.intro (fun c1 => have v3 := hv.1 c1; (show wp mX12_finish 1 rc rs Q 87 [some (vr 71), some (vi x1), some (vi x2), none, some (vi x4), some (vi x5)] [] h from xB k_X12_finish_87 (And.intro (lm_71 hL) (Exists.intro 1137 (And.intro (lf_71_14 hL) (have c5 := v3.1; have v14 := v3.2; (And.intro (sdI (lm_1137 hL) c5) (have c6 := v14.1; have v13 := v14.2; (And.intro c6 (And.intro rfl (have c7 := v13.1; have v12 := v13.2; (And.intro c7 (And.intro rfl (And.intro (lm_71 hL) (Exists.intro 596 (And.intro (lf_71_6 hL) (have c8 := v12.1; have v11 := v12.2; (And.intro (sdI (lm_596 hL) c8) (And.intro rfl (have c9 := v11.1; have v10 := v11.2; (And.intro c9 (And.intro rfl (w_fg [true, false, true, true, true, false] v10))))))))))))))))))))))) (fun c2 => have v4 := hv.2 (Int.not_le.mp c2); (show wp mX12_finish 1 rc rs Q 68 [some (vr 71), some (vi x1), some (vi x2), none, some (vi x4), some (vi x5)] [] h from xcV k_X12_finish_68 s_X12_finish_78 (And.intro (lm_71 hL) (Exists.intro 1141 (And.intro (lf_71_28 hL) (have c15 := v4.1; have v24 := v4.2; (And.intro (sdI (lm_1141 hL) c15) (have c22 := v24.1; have v23 := v24.2; (Exists.intro [vi x4, vi (iH h 1141 x5.toNat)] (Exists.intro 71 (Exists.intro [] (And.intro (And.intro rfl (And.intro rfl (Nat.le_of_ble_eq_true rfl))) (And.intro (lm_71 hL) (Exists.intro 0 (Exists.intro 0 (Exists.intro 0 (Exists.intro _ (And.intro (c_joins hL c22) (And.intro (And.intro (by decide) (And.intro (Nat.zero_le _) (Nat.zero_le _))) (eQPV (have hL := v23.1; have v19 := v23.2; (show wp mX12_finish 1 rc rs Q 81 [some (vr 71), some (vi x1), some (vi x2), none, some (vi x4), some (vi x5)] [] (m_join h x4 (iH h 1141 x5.toNat)) from xGo k_X12_finish_81 (have c20 := v19.1; have v21 := v19.2; (And.intro c20 (And.intro rfl v21))))))))))))))))))))))))))))
theorem t_X12_finish_114 {rc rs : Nat} {Q : Option AV → AH → Prop} {h : AH} {x2 x3 x4 : Int} (hL : LayM h) (hv : (((iH h 71 13) ≤ x4 → (-2147483648 ≤ (iH h 71 13 - x2) ∧ (iH h 71 13 - x2) < 2147483648) ∧ Q (some (vi x3)) (sI h 71 13 (iH h 71 13 - x2))) ∧ (x4 < (iH h 71 13) → (-2147483648 ≤ (x4 - x2) ∧ (x4 - x2) < 2147483648) ∧ (0 ≤ x4 ∧ x4 < 8) ∧ (0 ≤ (x4 - x2) ∧ (x4 - x2) < 8) ∧ (-2147483648 ≤ (x4 + 1) ∧ (x4 + 1) < 2147483648) ∧ wp mX12_finish 1 rc rs Q 114 [some (vr 71), none, some (vi x2), some (vi x3), some (vi (x4 + 1)), none] [] (sI h 1137 ((x4 - x2).toNat) (iH h 1137 x4.toNat))))) : wp mX12_finish 1 rc rs Q 114 [some (vr 71), none, some (vi x2), some (vi x3), some (vi x4), none] [] h :=
  (show wp mX12_finish 1 rc rs Q 114 [some (vr 71), none, some (vi x2), some (vi x3), some (vi x4), none] [] h from xIc k_X12_finish_114 (And.intro (lm_71 hL) (And.intro (fun c1 => have v3 := hv.1 c1; (show wp mX12_finish 1 rc rs Q 145 [some (vr 71), none, some (vi x2), some (vi x3), some (vi x4), none] [] h from xI k_X12_finish_145 (And.intro rfl (And.intro (lm_71 hL) (have c5 := v3.1; have v6 := v3.2; (And.intro c5 (And.intro (lm_71 hL) (And.intro rfl v6)))))))) (fun c2 => have v4 := hv.2 (Int.not_le.mp c2); (show wp mX12_finish 1 rc rs Q 123 [some (vr 71), none, some (vi x2), some (vi x3), some (vi x4), none] [] h from xGo k_X12_finish_123 (And.intro (lm_71 hL) (Exists.intro 1137 (And.intro (lf_71_14 hL) (have c7 := v4.1; have v14 := v4.2; (And.intro c7 (And.intro (lm_71 hL) (Exists.intro 1137 (And.intro (lf_71_14 hL) (have c8 := v14.1; have v13 := v14.2; (And.intro (sdI (lm_1137 hL) c8) (have c9 := v13.1; have v12 := v13.2; (And.intro (sdI (lm_1137 hL) c9) (have c10 := v12.1; have v11 := v12.2; (And.intro c10 (And.intro rfl v11))))))))))))))))))))
def b_X12_crash_0 : List IE := [(.aload_n 0, 1, 0, 0, 0, 0), (.aload_n 0, 1, 0, 0, 0, 0), (.getfield 37, 3, 0, 12, 10, 1), (.iconst 5, 1, 5, 0, 0, 0), (.iaload, 1, 0, 0, 0, 0), (.putfield 106, 3, 0, 12, 13, 0), (.iconst 0, 1, 0, 0, 0, 0), (.istore_n 1, 1, 0, 0, 1, 0), (.iconst 0, 1, 0, 0, 0, 0), (.istore_n 2, 1, 0, 0, 2, 0)]
theorem k_X12_crash_0 : ckB mX12_crash 12 0 b_X12_crash_0 14 = true := by decide +kernel
def b_X12_crash_14 : List IE := [(.iload_n 2, 1, 0, 0, 2, 0), (.aload_n 0, 1, 0, 0, 0, 0), (.getfield 106, 3, 0, 12, 13, 0)]
theorem k_X12_crash_14 : ckIc mX12_crash 12 14 b_X12_crash_14 19 3 70 89 22 = true := by decide +kernel
def b_X12_crash_22 : List IE := [(.aload_n 0, 1, 0, 0, 0, 0), (.getfield 40, 3, 0, 12, 11, 1), (.iconst 5, 1, 5, 0, 0, 0), (.aaload, 1, 0, 0, 0, 0), (.iload_n 2, 1, 0, 0, 2, 0), (.iaload, 1, 0, 0, 0, 0), (.istore_n 3, 1, 0, 0, 3, 0), (.aload_n 0, 1, 0, 0, 0, 0), (.getfield 48, 3, 0, 12, 14, 1), (.iload_n 2, 1, 0, 0, 2, 0), (.iload_n 3, 1, 0, 0, 3, 0), (.iastore, 1, 0, 0, 0, 0), (.iconst 0, 1, 0, 0, 0, 0), (.istore 4, 2, 0, 0, 4, 0)]
theorem k_X12_crash_22 : ckB mX12_crash 12 22 b_X12_crash_22 41 = true := by decide +kernel
def b_X12_crash_41 : List IE := [(.iload 4, 2, 0, 0, 4, 0), (.aload_n 0, 1, 0, 0, 0, 0), (.getfield 28, 3, 0, 12, 7, 1), (.iload_n 3, 1, 0, 0, 3, 0), (.iaload, 1, 0, 0, 0, 0)]
theorem k_X12_crash_41 : ckIc mX12_crash 12 41 b_X12_crash_41 49 3 34 83 52 = true := by decide +kernel
def b_X12_crash_52 : List IE := [(.aload_n 0, 1, 0, 0, 0, 0), (.getfield 21, 3, 0, 12, 4, 1), (.aload_n 0, 1, 0, 0, 0, 0), (.getfield 31, 3, 0, 12, 8, 1), (.iload_n 3, 1, 0, 0, 3, 0), (.aaload, 1, 0, 0, 0, 0), (.iload 4, 2, 0, 0, 4, 0), (.iaload, 1, 0, 0, 0, 0), (.aload_n 0, 1, 0, 0, 0, 0), (.getfield 45, 3, 0, 12, 12, 1), (.iconst 5, 1, 5, 0, 0, 0), (.aaload, 1, 0, 0, 0, 0), (.iload_n 1, 1, 0, 0, 1, 0), (.baload, 1, 0, 0, 0, 0), (.bastore, 1, 0, 0, 0, 0), (.iinc 1 1, 3, 1, 0, 1, 0), (.iinc 4 1, 3, 1, 0, 4, 0)]
theorem k_X12_crash_52 : ckGo mX12_crash 12 52 b_X12_crash_52 80 (-39) 41 = true := by decide +kernel
def b_X12_crash_83 : List IE := [(.iinc 2 1, 3, 1, 0, 2, 0)]
theorem k_X12_crash_83 : ckGo mX12_crash 12 83 b_X12_crash_83 86 (-72) 14 = true := by decide +kernel
def b_X12_crash_89 : List IE := [(.aload_n 0, 1, 0, 0, 0, 0), (.iconst 0, 1, 0, 0, 0, 0), (.putfield 140, 3, 0, 12, 15, 0), (.aload_n 0, 1, 0, 0, 0, 0), (.iconst 0, 1, 0, 0, 0, 0), (.putfield 229, 3, 0, 12, 24, 2), (.iconst 0, 1, 0, 0, 0, 0), (.istore_n 2, 1, 0, 0, 2, 0)]
theorem k_X12_crash_89 : ckB mX12_crash 12 89 b_X12_crash_89 101 = true := by decide +kernel
def b_X12_crash_101 : List IE := [(.iload_n 2, 1, 0, 0, 2, 0), (.iconst 4, 1, 4, 0, 0, 0)]
theorem k_X12_crash_101 : ckIc mX12_crash 12 101 b_X12_crash_101 103 4 16 119 106 = true := by decide +kernel
def b_X12_crash_106 : List IE := [(.aload_n 0, 1, 0, 0, 0, 0), (.getfield 34, 3, 0, 12, 9, 1), (.iload_n 2, 1, 0, 0, 2, 0), (.iconst 0, 1, 0, 0, 0, 0), (.bastore, 1, 0, 0, 0, 0), (.iinc 2 1, 3, 1, 0, 2, 0)]
theorem k_X12_crash_106 : ckGo mX12_crash 12 106 b_X12_crash_106 116 (-15) 101 = true := by decide +kernel
def b_X12_crash_119 : List IE := [(.aload_n 0, 1, 0, 0, 0, 0), (.getfield 106, 3, 0, 12, 13, 0)]
theorem k_X12_crash_119 : ckI mX12_crash 12 119 b_X12_crash_119 123 = true := by decide +kernel
theorem t_X12_crash_0 {rc rs : Nat} {Q : Option AV → AH → Prop} {h : AH}  (hL : LayM h) (hv : wp mX12_crash 0 rc rs Q 14 [some (vr 71), some (vi 0), some (vi 0), none, none] [] (sI h 71 13 (iH h 1120 5))) : wp mX12_crash 0 rc rs Q 0 [some (vr 71), none, none, none, none] [] h :=
  (show wp mX12_crash 0 rc rs Q 0 [some (vr 71), none, none, none, none] [] h from xB k_X12_crash_0 (And.intro (lm_71 hL) (Exists.intro 1120 (And.intro (lf_71_10 hL) (And.intro (sdI (lm_1120 hL) (by decide)) (And.intro (lm_71 hL) (And.intro rfl (And.intro rfl hv))))))))
theorem e_X12_crash {mc ms : Nat} {Q : Option AV → AH → Prop} {h : AH}  (hL : LayM h) (hv : wp mX12_crash 0 mc ms Q 14 [some (vr 71), some (vi 0), some (vi 0), none, none] [] (sI h 71 13 (iH h 1120 5))) : Ct 0 mc ms mX12_crash [vr 71] h Q := Ct.of (by decide +kernel) (Nat.le_of_ble_eq_true rfl) (t_X12_crash_0 hL hv)
theorem t_X12_crash_14 {rc rs : Nat} {Q : Option AV → AH → Prop} {h : AH} {x1 x2 : Int} (hL : LayM h) (hv : (((iH h 71 13) ≤ x2 → wp mX12_crash 0 rc rs Q 101 [some (vr 71), none, some (vi 0), none, none] [] (sI (sI h 71 15 0) 71 24 0)) ∧ (x2 < (iH h 71 13) → (0 ≤ x2 ∧ x2 < 8) ∧ wp mX12_crash 0 rc rs Q 41 [some (vr 71), some (vi x1), some (vi x2), some (vi (iH h 1127 x2.toNat)), some (vi 0)] [] (sI h 1137 x2.toNat (iH h 1127 x2.toNat))))) : wp mX12_crash 0 rc rs Q 14 [some (vr 71), some (vi x1), some (vi x2), none, none] [] h :=
  (show wp mX12_crash 0 rc rs Q 14 [some (vr 71), some (vi x1), some (vi x2), none, none] [] h from xIc k_X12_crash_14 (And.intro (lm_71 hL) (And.intro (fun c1 => have v3 := hv.1 c1; (show wp mX12_crash 0 rc rs Q 89 [some (vr 71), some (vi x1), some (vi x2), none, none] [] h from xB k_X12_crash_89 (And.intro (lm_71 hL) (And.intro (lm_71 hL) (And.intro (Or.inl rfl) (And.intro rfl (w_fg [true, false, true, false, false] v3))))))) (fun c2 => have v4 := hv.2 (Int.not_le.mp c2); (show wp mX12_crash 0 rc rs Q 22 [some (vr 71), some (vi x1), some (vi x2), none, none] [] h from xB k_X12_crash_22 (And.intro (lm_71 hL) (Exists.intro 1121 (And.intro (lf_71_11 hL) (And.intro (sdQ (lm_1121 hL) (by decide)) (Exists.intro 1127 (And.intro (lr_rows hL (i := 5) (by decide)) (have c5 := v4.1; have v7 := v4.2; (And.intro (sdI (lk_rows hL (i := 5) (by decide)) c5) (And.intro rfl (And.intro (lm_71 hL) (Exists.intro 1137 (And.intro (lf_71_14 hL) (And.intro (sdI (lm_1137 hL) c5) (And.intro rfl v7)))))))))))))))))))
theorem t_X12_crash_41 {rc rs : Nat} {Q : Option AV → AH → Prop} {h : AH} {x1 x2 x3 x4 : Int} (hL : LayM h) (hv : (0 ≤ x3 ∧ x3 < 520) ∧ (((iH h 597 x3.toNat) ≤ x4 → (-2147483648 ≤ (x2 + 1) ∧ (x2 + 1) < 2147483648) ∧ wp mX12_crash 0 rc rs Q 14 [some (vr 71), some (vi x1), some (vi (x2 + 1)), none, none] [] h) ∧ (x4 < (iH h 597 x3.toNat) → (0 ≤ x4 ∧ x4 < 64) ∧ (0 ≤ x1 ∧ x1 < 64) ∧ ((0 ≤ iH h (599 + x3.toNat) x4.toNat ∧ iH h (599 + x3.toNat) x4.toNat < 520) ∧ (iH h 1135 x1.toNat = 0 ∨ iH h 1135 x1.toNat = 1)) ∧ (-2147483648 ≤ (x1 + 1) ∧ (x1 + 1) < 2147483648) ∧ (-2147483648 ≤ (x4 + 1) ∧ (x4 + 1) < 2147483648) ∧ wp mX12_crash 0 rc rs Q 41 [some (vr 71), some (vi (x1 + 1)), some (vi x2), some (vi x3), some (vi (x4 + 1))] [] (sI h 595 ((iH h (599 + x3.toNat) x4.toNat).toNat) (iH h 1135 x1.toNat))))) : wp mX12_crash 0 rc rs Q 41 [some (vr 71), some (vi x1), some (vi x2), some (vi x3), some (vi x4)] [] h :=
  (show wp mX12_crash 0 rc rs Q 41 [some (vr 71), some (vi x1), some (vi x2), some (vi x3), some (vi x4)] [] h from xIc k_X12_crash_41 (And.intro (lm_71 hL) (Exists.intro 597 (And.intro (lf_71_7 hL) (have c1 := hv.1; have v19 := hv.2; (And.intro (sdI (lm_597 hL) c1) (And.intro (fun c2 => have v4 := v19.1 c2; (show wp mX12_crash 0 rc rs Q 83 [some (vr 71), some (vi x1), some (vi x2), some (vi x3), some (vi x4)] [] h from xGo k_X12_crash_83 (have c6 := v4.1; have v7 := v4.2; (And.intro c6 (And.intro rfl (w_fg [true, true, true, false, false] v7)))))) (fun c3 => have v5 := v19.2 (Int.not_le.mp c3); (show wp mX12_crash 0 rc rs Q 52 [some (vr 71), some (vi x1), some (vi x2), some (vi x3), some (vi x4)] [] h from xGo k_X12_crash_52 (And.intro (lm_71 hL) (Exists.intro 595 (And.intro (lf_71_4 hL) (And.intro (lm_71 hL) (Exists.intro 598 (And.intro (lf_71_8 hL) (And.intro (sdQ (lm_598 hL) c1) (Exists.intro (599 + x3.toNat) (And.intro (lr_members hL (tnl c1)) (have c9 := v5.1; have v18 := v5.2; (And.intro (sdI (lk_members hL (tnl c1)) c9) (And.intro (lm_71 hL) (Exists.intro 1129 (And.intro (lf_71_12 hL) (And.intro (sdQ (lm_1129 hL) (by decide)) (Exists.intro 1135 (And.intro (lr_wasDropped hL (i := 5) (by decide)) (have c10 := v18.1; have v17 := v18.2; (And.intro (sdZ (lk_wasDropped hL (i := 5) (by decide)) c10) (have c11 := v17.1; have v16 := v17.2; (And.intro (sdZs (lm_595 hL) c11.1 c11.2) (have c12 := v16.1; have v15 := v16.2; (And.intro c12 (And.intro rfl (have c13 := v15.1; have v14 := v15.2; (And.intro c13 (And.intro rfl v14))))))))))))))))))))))))))))))))))))
theorem t_X12_crash_101 {rc rs : Nat} {Q : Option AV → AH → Prop} {h : AH} {x2 : Int} (hL : LayM h) (hv : ((4 < x2 → Q (some (vi (iH h 71 13))) h) ∧ (x2 ≤ 4 → (0 ≤ x2 ∧ x2 < 7) ∧ (-2147483648 ≤ (x2 + 1) ∧ (x2 + 1) < 2147483648) ∧ wp mX12_crash 0 rc rs Q 101 [some (vr 71), none, some (vi (x2 + 1)), none, none] [] (sI h 1119 x2.toNat 0)))) : wp mX12_crash 0 rc rs Q 101 [some (vr 71), none, some (vi x2), none, none] [] h :=
  (show wp mX12_crash 0 rc rs Q 101 [some (vr 71), none, some (vi x2), none, none] [] h from xIc k_X12_crash_101 (And.intro (fun c1 => have v3 := hv.1 c1; (show wp mX12_crash 0 rc rs Q 119 [some (vr 71), none, some (vi x2), none, none] [] h from xI k_X12_crash_119 (And.intro (lm_71 hL) (And.intro rfl v3)))) (fun c2 => have v4 := hv.2 (Int.not_lt.mp c2); (show wp mX12_crash 0 rc rs Q 106 [some (vr 71), none, some (vi x2), none, none] [] h from xGo k_X12_crash_106 (And.intro (lm_71 hL) (Exists.intro 1119 (And.intro (lf_71_9 hL) (have c5 := v4.1; have v8 := v4.2; (And.intro (sdZs (lm_1119 hL) c5 (Or.inl rfl)) (have c6 := v8.1; have v7 := v8.2; (And.intro c6 (And.intro rfl v7))))))))))))
noncomputable def m_bgI (h : AH) (g : Nat) (p : Nat × (Nat → Int)) : Nat → Nat × (Nat → Int)
  | 0 => p
  | k + 1 => if iH h 595 (iH h (599 + g) k).toNat = 0 then ((m_bgI h g p k).1 + 1, fun i => if i = (m_bgI h g p k).1 then iH h (599 + g) k else (m_bgI h g p k).2 i) else m_bgI h g p k
noncomputable def m_bg (h : AH) (c : Nat) : Nat → Nat × (Nat → Int)
  | 0 => (0, iH h 1141)
  | j + 1 => m_bgI h (iH h 1137 (c + j)).toNat (m_bg h c j) (iH h 597 (iH h 1137 (c + j)).toNat).toNat
noncomputable def m_bgB (h : AH) : AH := sI (sI (sI h 71 24 1) 71 25 (iH h 1137 (m_ch h).toNat)) 71 26 (m_width h)
noncomputable def m_bgS (h : AH) (p : Nat × (Nat → Int)) : AH := sI (sW (m_bgB h) 1141 p.2) 71 27 p.1
noncomputable def m_begin (h : AH) : AH := m_bgS h (m_bg h (m_ch h).toNat (m_width h).toNat)
theorem m_bgI_bd (h : AH) (g : Nat) (p : Nat × (Nat → Int)) : ∀ k, p.1 ≤ (m_bgI h g p k).1 ∧ (m_bgI h g p k).1 ≤ p.1 + k
  | 0 => ⟨Nat.le_refl _, Nat.le_refl _⟩
  | k + 1 => by
    have := m_bgI_bd h g p k
    unfold m_bgI
    split
    · dsimp only; omega
    · omega
theorem m_off2 {h : AH} (hn : m_now h) (hh : m_held h ≤ 64) (c : Nat) : ∀ j : Nat, ((c + j : Nat) : Int) ≤ iH h 71 13 → ((m_bg h c j).1 : Int) + m_off h c ≤ m_off h (c + j)
  | 0, _ => by show ((0 : Nat) : Int) + m_off h c ≤ m_off h c; omega
  | j + 1, hj => by
    have ih := m_off2 hn hh c j (by omega)
    have h1 := m_bgI_bd h (iH h 1137 (c + j)).toNat (m_bg h c j) (iH h 597 (iH h 1137 (c + j)).toNat).toNat
    have hl := (hn.2 (c + j) (by omega)).2.1
    have e : m_off h (c + (j + 1)) = m_off h (c + j) + iH h 597 (iH h 1137 (c + j)).toNat := rfl
    show (((m_bgI h (iH h 1137 (c + j)).toNat (m_bg h c j) (iH h 597 (iH h 1137 (c + j)).toNat).toNat).1 : Nat) : Int) + _ ≤ _
    omega
def p_begin (h : AH) (x : Int) (h' : AH) : Prop := (iH h 71 24 ≠ 0 ∧ x = -3 ∧ h' = h) ∨ (iH h 71 24 = 0 ∧ m_ch h = -1 ∧ x = -1 ∧ h' = h) ∨ (iH h 71 24 = 0 ∧ m_ch h ≠ -1 ∧ x = (m_bg h (m_ch h).toNat (m_width h).toNat).1 ∧ h' = m_begin h)
theorem c_begin {h : AH} (hL : LayM h) (hp : m_pol h) (hn : m_now h) (hh : m_held h ≤ 64) : Ct 5 0 0 mX12_begin [vr 71] h (QI (p_begin h)) := by
  refine e_X12_begin hL ⟨fun c => ⟨hp, fun c2 => ?_, fun c2 => ⟨_, rfl, Or.inr (Or.inl ⟨c, c2, rfl, rfl⟩)⟩⟩, fun c => ⟨_, rfl, Or.inl ⟨c, rfl, rfl⟩⟩⟩
  have hc := m_ch_bd (h := h)
  have hc2 := hc.2 c2
  have hw := m_width_bd h
  have h1 := hp.1
  refine ⟨by omega, ?_⟩
  have e0 : sI (sI (sI (sI h 71 24 1) 71 25 (iH h 1137 (m_ch h).toNat)) 71 26 (m_width (sI (sI h 71 24 1) 71 25 (iH h 1137 (m_ch h).toNat)))) 71 27 0 = m_bgS h (m_bg h (m_ch h).toNat 0) := by
    unfold m_bgS
    rw [sW_id (fun k => by
      unfold m_bgB
      rw [rI_ne (by decide), rI_ne (by decide), rI_ne (by decide)]; rfl)]
    rfl
  rw [e0]
  have rd : ∀ (p : Nat × (Nat → Int)) (a k : Nat), a ≠ 71 → a ≠ 1141 → iH (m_bgS h p) a k = iH h a k := fun p a k h1 h2 => by
    unfold m_bgS m_bgB
    rw [rI_ne h1, rW_ne h2, rI_ne h1, rI_ne h1, rI_ne h1]
  have rw1 : ∀ p : Nat × (Nat → Int), iH (m_bgS h p) 71 26 = m_width h := fun p => by
    unfold m_bgS m_bgB
    rw [rI_nk (by decide), rW_ne (by decide), rI_same]
  have rc : ∀ p : Nat × (Nat → Int), iH (m_bgS h p) 71 27 = p.1 := fun p => rI_same
  have e1 : m_ch h = ((m_ch h).toNat : Int) + ((0 : Nat) : Int) := by omega
  have main : wp mX12_begin 5 0 0 (QI (p_begin h)) 52 [some (vr 71), some (vi (m_ch h)), some (vi (((m_ch h).toNat : Int) + ((0 : Nat) : Int))), none, none] [] (m_bgS h (m_bg h (m_ch h).toNat 0)) := by
    refine up (P := fun j => wp mX12_begin 5 _ _ _ 52 [some (vr 71), some (vi (m_ch h)), some (vi (((m_ch h).toNat : Int) + (j : Int))), none, none] [] (m_bgS h (m_bg h (m_ch h).toNat j))) (m_width h).toNat ?_ ?_
    · refine t_X12_begin_52 (by exact hL) ?_
      rw [rw1, rc]
      exact ⟨by omega, fun _ => ⟨_, rfl, Or.inr (Or.inr ⟨c, c2, rfl, rfl⟩)⟩, fun q => absurd q (by omega)⟩
    · intro j hj ih
      refine t_X12_begin_52 (by exact hL) ?_
      rw [rw1]
      refine ⟨by omega, fun q => absurd q (by omega), fun _ => ?_⟩
      have e2 : (((m_ch h).toNat : Int) + (j : Int)).toNat = (m_ch h).toNat + j := by omega
      have hg := hn.2 ((m_ch h).toNat + j) (by omega)
      have hg1 := hg.1
      have hg2 := hg.2.1
      have ho := m_off2 hn hh (m_ch h).toNat j (by omega)
      have ho1 := m_off_le hn (iH h 71 13).toNat ((m_ch h).toNat + j + 1) (by omega) (by omega)
      have ho2 := m_off_le hn (iH h 71 13).toNat (m_ch h).toNat (by omega) (by omega)
      have ho3 : m_off h ((m_ch h).toNat + j + 1) = m_off h ((m_ch h).toNat + j) + iH h 597 (iH h 1137 ((m_ch h).toNat + j)).toNat := rfl
      have ho4 : m_off h (iH h 71 13).toNat = m_held h := rfl
      have main2 := up (P := fun k => wp mX12_begin 5 0 0 (QI (p_begin h)) 64 [some (vr 71), some (vi (m_ch h)), some (vi (((m_ch h).toNat : Int) + (j : Int))), some (vi k), none] [] (m_bgS h (m_bgI h (iH h 1137 ((m_ch h).toNat + j)).toNat (m_bg h (m_ch h).toNat j) k))) (iH h 597 (iH h 1137 ((m_ch h).toNat + j)).toNat).toNat ?_ ?_
      · exact main2
      · refine t_X12_begin_64 (by exact hL) ?_
        rw [e2]
        simp (disch := decide) only [rd]
        refine ⟨by omega, hg1, fun _ => ⟨by omega, ?_⟩, fun q => absurd q (by omega)⟩
        rw [show ((m_ch h).toNat : Int) + (j : Int) + 1 = ((m_ch h).toNat : Int) + ((j + 1 : Nat) : Int) by omega]
        exact ih
      · intro k hk ih2
        have hb := m_bgI_bd h (iH h 1137 ((m_ch h).toNat + j)).toNat (m_bg h (m_ch h).toNat j) k
        have hm := hg.2.2 k (by omega)
        have e3 : m_bgI h (iH h 1137 ((m_ch h).toNat + j)).toNat (m_bg h (m_ch h).toNat j) (k + 1) = (if iH h 595 (iH h (599 + (iH h 1137 ((m_ch h).toNat + j)).toNat) k).toNat = 0 then ((m_bgI h (iH h 1137 ((m_ch h).toNat + j)).toNat (m_bg h (m_ch h).toNat j) k).1 + 1, fun i => if i = (m_bgI h (iH h 1137 ((m_ch h).toNat + j)).toNat (m_bg h (m_ch h).toNat j) k).1 then iH h (599 + (iH h 1137 ((m_ch h).toNat + j)).toNat) k else (m_bgI h (iH h 1137 ((m_ch h).toNat + j)).toNat (m_bg h (m_ch h).toNat j) k).2 i) else m_bgI h (iH h 1137 ((m_ch h).toNat + j)).toNat (m_bg h (m_ch h).toNat j) k) := rfl
        generalize hP : m_bgI h (iH h 1137 ((m_ch h).toNat + j)).toNat (m_bg h (m_ch h).toNat j) k = P at *
        refine t_X12_begin_64 (by exact hL) ?_
        rw [e2]
        simp (disch := omega) only [rd, rc, Int.toNat_natCast]
        refine ⟨by omega, hg1, fun q => absurd q (by omega), fun _ => ⟨by omega, hm, fun q => ⟨by omega, by omega, by omega, ?_⟩, fun q => ⟨by omega, ?_⟩⟩⟩
        · rw [if_pos q] at e3
          rw [e3] at ih2
          unfold m_bgS at ih2 ⊢
          rw [sI_sI_ne (b := 1141) (by decide), sI_sI, sI_sW (g' := fun i => if i = P.1 then iH h (599 + (iH h 1137 ((m_ch h).toNat + j)).toNat) k else P.2 i) (fun _ => rfl)]
          exact ih2
        · rw [if_neg q] at e3
          rw [e3] at ih2
          exact ih2
  rw [← e1] at main
  exact main
end
