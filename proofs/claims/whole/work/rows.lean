section
-- ===== PART A: goes FIRST, ahead of the names: the tables' words, and 'selects' of the private methods out of them =====
/-- a private method of a class that the tables say can be made, by its rows of tables_1 -/
def lw_okq (q : MethodName × Nat) : Prop := (q.1.cls ≠ "java/lang/invoke/MethodHandle" ∧ q.1.cls ≠ "java/lang/invoke/VarHandle") ∧ Cond.instantiable q.1.cls q.2 ∈ tables_1 ∧ Cond.privateMethod q.1 ∈ tables_1 ∧ Cond.instanceMethod q.1 ∈ tables_1
theorem lw_p0 : lw_okq (⟨"IdeasDeck", "refuseBad", "()I"⟩, 12) := ⟨⟨by decide +kernel, by decide +kernel⟩, List.mem_of_getElem? (i := 19) (by decide +kernel), List.mem_of_getElem? (i := 312) (by decide +kernel), List.mem_of_getElem? (i := 313) (by decide +kernel)⟩
theorem lw_p1 : lw_okq (⟨"IdeasDeck", "refuseFull", "()I"⟩, 12) := ⟨⟨by decide +kernel, by decide +kernel⟩, List.mem_of_getElem? (i := 19) (by decide +kernel), List.mem_of_getElem? (i := 336) (by decide +kernel), List.mem_of_getElem? (i := 337) (by decide +kernel)⟩
theorem lw_p2 : lw_okq (⟨"IdeasDeck$Reader", "step", "()V"⟩, 8) := ⟨⟨by decide +kernel, by decide +kernel⟩, List.mem_of_getElem? (i := 231) (by decide +kernel), List.mem_of_getElem? (i := 386) (by decide +kernel), List.mem_of_getElem? (i := 387) (by decide +kernel)⟩
theorem lw_p3 : lw_okq (⟨"IdeasDeck$Reader", "endOfBlanks", "(I)I"⟩, 8) := ⟨⟨by decide +kernel, by decide +kernel⟩, List.mem_of_getElem? (i := 231) (by decide +kernel), List.mem_of_getElem? (i := 390) (by decide +kernel), List.mem_of_getElem? (i := 391) (by decide +kernel)⟩
theorem lw_p4 : lw_okq (⟨"IdeasDeck$Reader", "byteAt", "(I)I"⟩, 8) := ⟨⟨by decide +kernel, by decide +kernel⟩, List.mem_of_getElem? (i := 231) (by decide +kernel), List.mem_of_getElem? (i := 394) (by decide +kernel), List.mem_of_getElem? (i := 395) (by decide +kernel)⟩
theorem lw_p5 : lw_okq (⟨"IdeasDeck$Reader", "endOfLetters", "(I)I"⟩, 8) := ⟨⟨by decide +kernel, by decide +kernel⟩, List.mem_of_getElem? (i := 231) (by decide +kernel), List.mem_of_getElem? (i := 402) (by decide +kernel), List.mem_of_getElem? (i := 403) (by decide +kernel)⟩
theorem lw_p6 : lw_okq (⟨"IdeasDeck$Reader", "endOfFigures", "(I)I"⟩, 8) := ⟨⟨by decide +kernel, by decide +kernel⟩, List.mem_of_getElem? (i := 231) (by decide +kernel), List.mem_of_getElem? (i := 409) (by decide +kernel), List.mem_of_getElem? (i := 410) (by decide +kernel)⟩
theorem lw_p7 : lw_okq (⟨"IdeasDeck$Reader", "valueOfFigures", "()I"⟩, 8) := ⟨⟨by decide +kernel, by decide +kernel⟩, List.mem_of_getElem? (i := 231) (by decide +kernel), List.mem_of_getElem? (i := 413) (by decide +kernel), List.mem_of_getElem? (i := 414) (by decide +kernel)⟩
theorem lw_p8 : lw_okq (⟨"IdeasDeck$Reader", "isWord", "(Ljava/lang/String;)Z"⟩, 8) := ⟨⟨by decide +kernel, by decide +kernel⟩, List.mem_of_getElem? (i := 231) (by decide +kernel), List.mem_of_getElem? (i := 418) (by decide +kernel), List.mem_of_getElem? (i := 419) (by decide +kernel)⟩
theorem lw_p9 : lw_okq (⟨"IdeasDeck$Reader", "readRoom", "()Z"⟩, 8) := ⟨⟨by decide +kernel, by decide +kernel⟩, List.mem_of_getElem? (i := 231) (by decide +kernel), List.mem_of_getElem? (i := 470) (by decide +kernel), List.mem_of_getElem? (i := 471) (by decide +kernel)⟩
theorem lw_p10 : lw_okq (⟨"IdeasDeck$Reader", "readNumber", "(II)Z"⟩, 8) := ⟨⟨by decide +kernel, by decide +kernel⟩, List.mem_of_getElem? (i := 231) (by decide +kernel), List.mem_of_getElem? (i := 474) (by decide +kernel), List.mem_of_getElem? (i := 475) (by decide +kernel)⟩
theorem lw_p11 : lw_okq (⟨"IdeasDeck$Reader", "readMark", "()Z"⟩, 8) := ⟨⟨by decide +kernel, by decide +kernel⟩, List.mem_of_getElem? (i := 231) (by decide +kernel), List.mem_of_getElem? (i := 478) (by decide +kernel), List.mem_of_getElem? (i := 479) (by decide +kernel)⟩
theorem lw_p12 : lw_okq (⟨"IdeasDeck$Reader", "readItem", "()Z"⟩, 8) := ⟨⟨by decide +kernel, by decide +kernel⟩, List.mem_of_getElem? (i := 231) (by decide +kernel), List.mem_of_getElem? (i := 482) (by decide +kernel), List.mem_of_getElem? (i := 483) (by decide +kernel)⟩
theorem lw_p13 : lw_okq (⟨"IdeasDeck$Reader", "readBridge", "()Z"⟩, 8) := ⟨⟨by decide +kernel, by decide +kernel⟩, List.mem_of_getElem? (i := 231) (by decide +kernel), List.mem_of_getElem? (i := 487) (by decide +kernel), List.mem_of_getElem? (i := 488) (by decide +kernel)⟩
theorem lw_p14 : lw_okq (⟨"IdeasDeck$Reader", "readIdea", "()Z"⟩, 8) := ⟨⟨by decide +kernel, by decide +kernel⟩, List.mem_of_getElem? (i := 231) (by decide +kernel), List.mem_of_getElem? (i := 492) (by decide +kernel), List.mem_of_getElem? (i := 493) (by decide +kernel)⟩
theorem lw_p15 : lw_okq (⟨"IdeasDeck$Reader", "readQuarrel", "()Z"⟩, 8) := ⟨⟨by decide +kernel, by decide +kernel⟩, List.mem_of_getElem? (i := 231) (by decide +kernel), List.mem_of_getElem? (i := 498) (by decide +kernel), List.mem_of_getElem? (i := 499) (by decide +kernel)⟩
def lw_privs_1 : List (MethodName × Nat) := [(⟨"IdeasDeck", "refuseBad", "()I"⟩, 12), (⟨"IdeasDeck", "refuseFull", "()I"⟩, 12), (⟨"IdeasDeck$Reader", "step", "()V"⟩, 8), (⟨"IdeasDeck$Reader", "endOfBlanks", "(I)I"⟩, 8), (⟨"IdeasDeck$Reader", "byteAt", "(I)I"⟩, 8), (⟨"IdeasDeck$Reader", "endOfLetters", "(I)I"⟩, 8), (⟨"IdeasDeck$Reader", "endOfFigures", "(I)I"⟩, 8), (⟨"IdeasDeck$Reader", "valueOfFigures", "()I"⟩, 8), (⟨"IdeasDeck$Reader", "isWord", "(Ljava/lang/String;)Z"⟩, 8), (⟨"IdeasDeck$Reader", "readRoom", "()Z"⟩, 8), (⟨"IdeasDeck$Reader", "readNumber", "(II)Z"⟩, 8), (⟨"IdeasDeck$Reader", "readMark", "()Z"⟩, 8), (⟨"IdeasDeck$Reader", "readItem", "()Z"⟩, 8), (⟨"IdeasDeck$Reader", "readBridge", "()Z"⟩, 8), (⟨"IdeasDeck$Reader", "readIdea", "()Z"⟩, 8), (⟨"IdeasDeck$Reader", "readQuarrel", "()Z"⟩, 8)]
theorem lw_r1 : ∀ q ∈ lw_privs_1, lw_okq q := List.forall_mem_cons.mpr ⟨lw_p0, List.forall_mem_cons.mpr ⟨lw_p1, List.forall_mem_cons.mpr ⟨lw_p2, List.forall_mem_cons.mpr ⟨lw_p3, List.forall_mem_cons.mpr ⟨lw_p4, List.forall_mem_cons.mpr ⟨lw_p5, List.forall_mem_cons.mpr ⟨lw_p6, List.forall_mem_cons.mpr ⟨lw_p7, List.forall_mem_cons.mpr ⟨lw_p8, List.forall_mem_cons.mpr ⟨lw_p9, List.forall_mem_cons.mpr ⟨lw_p10, List.forall_mem_cons.mpr ⟨lw_p11, List.forall_mem_cons.mpr ⟨lw_p12, List.forall_mem_cons.mpr ⟨lw_p13, List.forall_mem_cons.mpr ⟨lw_p14, List.forall_mem_cons.mpr ⟨lw_p15, fun _ h => absurd h List.not_mem_nil⟩⟩⟩⟩⟩⟩⟩⟩⟩⟩⟩⟩⟩⟩⟩⟩
theorem lw_p16 : lw_okq (⟨"IdeasDeck", "refuseNo", "()I"⟩, 12) := ⟨⟨by decide +kernel, by decide +kernel⟩, List.mem_of_getElem? (i := 19) (by decide +kernel), List.mem_of_getElem? (i := 519) (by decide +kernel), List.mem_of_getElem? (i := 520) (by decide +kernel)⟩
theorem lw_p17 : lw_okq (⟨"IdeasDeck$Bus", "letOff", "(LIdeasDeck$Ride;I)V"⟩, 16) := ⟨⟨by decide +kernel, by decide +kernel⟩, List.mem_of_getElem? (i := 27) (by decide +kernel), List.mem_of_getElem? (i := 531) (by decide +kernel), List.mem_of_getElem? (i := 532) (by decide +kernel)⟩
theorem lw_p18 : lw_okq (⟨"IdeasDeck$Bus", "letOn", "(LIdeasDeck$Ride;I[I)V"⟩, 16) := ⟨⟨by decide +kernel, by decide +kernel⟩, List.mem_of_getElem? (i := 27) (by decide +kernel), List.mem_of_getElem? (i := 535) (by decide +kernel), List.mem_of_getElem? (i := 536) (by decide +kernel)⟩
theorem lw_p19 : lw_okq (⟨"IdeasDeck$Bus", "scrape", "(LIdeasDeck$Ride;II)V"⟩, 16) := ⟨⟨by decide +kernel, by decide +kernel⟩, List.mem_of_getElem? (i := 27) (by decide +kernel), List.mem_of_getElem? (i := 545) (by decide +kernel), List.mem_of_getElem? (i := 546) (by decide +kernel)⟩
theorem lw_p20 : lw_okq (⟨"IdeasDeck$Journey", "boardAsTold", "(LIdeasDeck$Bus;)V"⟩, 3) := ⟨⟨by decide +kernel, by decide +kernel⟩, List.mem_of_getElem? (i := 145) (by decide +kernel), List.mem_of_getElem? (i := 612) (by decide +kernel), List.mem_of_getElem? (i := 613) (by decide +kernel)⟩
theorem lw_p21 : lw_okq (⟨"IdeasDeck", "refuseOtherBad", "()I"⟩, 12) := ⟨⟨by decide +kernel, by decide +kernel⟩, List.mem_of_getElem? (i := 19) (by decide +kernel), List.mem_of_getElem? (i := 635) (by decide +kernel), List.mem_of_getElem? (i := 636) (by decide +kernel)⟩
theorem lw_p22 : lw_okq (⟨"IdeasDeck$Journey", "missing", "()I"⟩, 3) := ⟨⟨by decide +kernel, by decide +kernel⟩, List.mem_of_getElem? (i := 145) (by decide +kernel), List.mem_of_getElem? (i := 664) (by decide +kernel), List.mem_of_getElem? (i := 665) (by decide +kernel)⟩
theorem lw_p23 : lw_okq (⟨"IdeasDeck$Journey", "missingIf", "(LIdeasDeck$Bus;II)I"⟩, 3) := ⟨⟨by decide +kernel, by decide +kernel⟩, List.mem_of_getElem? (i := 145) (by decide +kernel), List.mem_of_getElem? (i := 669) (by decide +kernel), List.mem_of_getElem? (i := 670) (by decide +kernel)⟩
theorem lw_p24 : lw_okq (⟨"IdeasDeck$Bus", "fitsNotes", "(II)Z"⟩, 16) := ⟨⟨by decide +kernel, by decide +kernel⟩, List.mem_of_getElem? (i := 27) (by decide +kernel), List.mem_of_getElem? (i := 719) (by decide +kernel), List.mem_of_getElem? (i := 720) (by decide +kernel)⟩
theorem lw_p25 : lw_okq (⟨"IdeasDeck$Two", "countStops", "(LIdeasDeck$Bus;LIdeasDeck$Journey;III)V"⟩, 4) := ⟨⟨by decide +kernel, by decide +kernel⟩, List.mem_of_getElem? (i := 197) (by decide +kernel), List.mem_of_getElem? (i := 760) (by decide +kernel), List.mem_of_getElem? (i := 761) (by decide +kernel)⟩
theorem lw_p26 : lw_okq (⟨"IdeasDeck$Two", "rests", "(II)Z"⟩, 4) := ⟨⟨by decide +kernel, by decide +kernel⟩, List.mem_of_getElem? (i := 197) (by decide +kernel), List.mem_of_getElem? (i := 770) (by decide +kernel), List.mem_of_getElem? (i := 771) (by decide +kernel)⟩
theorem lw_p27 : lw_okq (⟨"IdeasDeckModel", "bad", "(I)I"⟩, 18) := ⟨⟨by decide +kernel, by decide +kernel⟩, List.mem_of_getElem? (i := 840) (by decide +kernel), List.mem_of_getElem? (i := 912) (by decide +kernel), List.mem_of_getElem? (i := 913) (by decide +kernel)⟩
theorem lw_p28 : lw_okq (⟨"IdeasDeckModel", "many", "()I"⟩, 18) := ⟨⟨by decide +kernel, by decide +kernel⟩, List.mem_of_getElem? (i := 840) (by decide +kernel), List.mem_of_getElem? (i := 916) (by decide +kernel), List.mem_of_getElem? (i := 917) (by decide +kernel)⟩
theorem lw_p29 : lw_okq (⟨"IdeasDeckModel", "full", "()I"⟩, 18) := ⟨⟨by decide +kernel, by decide +kernel⟩, List.mem_of_getElem? (i := 840) (by decide +kernel), List.mem_of_getElem? (i := 938) (by decide +kernel), List.mem_of_getElem? (i := 939) (by decide +kernel)⟩
theorem lw_p30 : lw_okq (⟨"IdeasDeckModel", "isIdea", "(I)Z"⟩, 18) := ⟨⟨by decide +kernel, by decide +kernel⟩, List.mem_of_getElem? (i := 840) (by decide +kernel), List.mem_of_getElem? (i := 949) (by decide +kernel), List.mem_of_getElem? (i := 950) (by decide +kernel)⟩
theorem lw_p31 : lw_okq (⟨"IdeasDeckModel", "no", "()I"⟩, 18) := ⟨⟨by decide +kernel, by decide +kernel⟩, List.mem_of_getElem? (i := 840) (by decide +kernel), List.mem_of_getElem? (i := 961) (by decide +kernel), List.mem_of_getElem? (i := 962) (by decide +kernel)⟩
def lw_privs_2 : List (MethodName × Nat) := [(⟨"IdeasDeck", "refuseNo", "()I"⟩, 12), (⟨"IdeasDeck$Bus", "letOff", "(LIdeasDeck$Ride;I)V"⟩, 16), (⟨"IdeasDeck$Bus", "letOn", "(LIdeasDeck$Ride;I[I)V"⟩, 16), (⟨"IdeasDeck$Bus", "scrape", "(LIdeasDeck$Ride;II)V"⟩, 16), (⟨"IdeasDeck$Journey", "boardAsTold", "(LIdeasDeck$Bus;)V"⟩, 3), (⟨"IdeasDeck", "refuseOtherBad", "()I"⟩, 12), (⟨"IdeasDeck$Journey", "missing", "()I"⟩, 3), (⟨"IdeasDeck$Journey", "missingIf", "(LIdeasDeck$Bus;II)I"⟩, 3), (⟨"IdeasDeck$Bus", "fitsNotes", "(II)Z"⟩, 16), (⟨"IdeasDeck$Two", "countStops", "(LIdeasDeck$Bus;LIdeasDeck$Journey;III)V"⟩, 4), (⟨"IdeasDeck$Two", "rests", "(II)Z"⟩, 4), (⟨"IdeasDeckModel", "bad", "(I)I"⟩, 18), (⟨"IdeasDeckModel", "many", "()I"⟩, 18), (⟨"IdeasDeckModel", "full", "()I"⟩, 18), (⟨"IdeasDeckModel", "isIdea", "(I)Z"⟩, 18), (⟨"IdeasDeckModel", "no", "()I"⟩, 18)]
theorem lw_r2 : ∀ q ∈ lw_privs_2, lw_okq q := List.forall_mem_cons.mpr ⟨lw_p16, List.forall_mem_cons.mpr ⟨lw_p17, List.forall_mem_cons.mpr ⟨lw_p18, List.forall_mem_cons.mpr ⟨lw_p19, List.forall_mem_cons.mpr ⟨lw_p20, List.forall_mem_cons.mpr ⟨lw_p21, List.forall_mem_cons.mpr ⟨lw_p22, List.forall_mem_cons.mpr ⟨lw_p23, List.forall_mem_cons.mpr ⟨lw_p24, List.forall_mem_cons.mpr ⟨lw_p25, List.forall_mem_cons.mpr ⟨lw_p26, List.forall_mem_cons.mpr ⟨lw_p27, List.forall_mem_cons.mpr ⟨lw_p28, List.forall_mem_cons.mpr ⟨lw_p29, List.forall_mem_cons.mpr ⟨lw_p30, List.forall_mem_cons.mpr ⟨lw_p31, fun _ h => absurd h List.not_mem_nil⟩⟩⟩⟩⟩⟩⟩⟩⟩⟩⟩⟩⟩⟩⟩⟩
theorem lw_p32 : lw_okq (⟨"IdeasDeckModel", "keep", "()V"⟩, 18) := ⟨⟨by decide +kernel, by decide +kernel⟩, List.mem_of_getElem? (i := 840) (by decide +kernel), List.mem_of_getElem? (i := 965) (by decide +kernel), List.mem_of_getElem? (i := 966) (by decide +kernel)⟩
theorem lw_p33 : lw_okq (⟨"IdeasDeckModel", "layHand", "()V"⟩, 18) := ⟨⟨by decide +kernel, by decide +kernel⟩, List.mem_of_getElem? (i := 840) (by decide +kernel), List.mem_of_getElem? (i := 969) (by decide +kernel), List.mem_of_getElem? (i := 970) (by decide +kernel)⟩
theorem lw_p34 : lw_okq (⟨"IdeasDeckModel", "goTill", "(I)V"⟩, 18) := ⟨⟨by decide +kernel, by decide +kernel⟩, List.mem_of_getElem? (i := 840) (by decide +kernel), List.mem_of_getElem? (i := 973) (by decide +kernel), List.mem_of_getElem? (i := 974) (by decide +kernel)⟩
theorem lw_p35 : lw_okq (⟨"IdeasDeckModel", "goStop", "()V"⟩, 18) := ⟨⟨by decide +kernel, by decide +kernel⟩, List.mem_of_getElem? (i := 840) (by decide +kernel), List.mem_of_getElem? (i := 977) (by decide +kernel), List.mem_of_getElem? (i := 978) (by decide +kernel)⟩
theorem lw_p36 : lw_okq (⟨"IdeasDeckModel", "swayOfAll", "(II)I"⟩, 18) := ⟨⟨by decide +kernel, by decide +kernel⟩, List.mem_of_getElem? (i := 840) (by decide +kernel), List.mem_of_getElem? (i := 990) (by decide +kernel), List.mem_of_getElem? (i := 991) (by decide +kernel)⟩
theorem lw_p37 : lw_okq (⟨"IdeasDeckModel", "swayOf", "(II)I"⟩, 18) := ⟨⟨by decide +kernel, by decide +kernel⟩, List.mem_of_getElem? (i := 840) (by decide +kernel), List.mem_of_getElem? (i := 994) (by decide +kernel), List.mem_of_getElem? (i := 995) (by decide +kernel)⟩
theorem lw_p38 : lw_okq (⟨"IdeasDeckModel", "fewestDecks", "()I"⟩, 18) := ⟨⟨by decide +kernel, by decide +kernel⟩, List.mem_of_getElem? (i := 840) (by decide +kernel), List.mem_of_getElem? (i := 1036) (by decide +kernel), List.mem_of_getElem? (i := 1037) (by decide +kernel)⟩
theorem lw_p39 : lw_okq (⟨"IdeasDeckModel", "layDecks", "(II)Z"⟩, 18) := ⟨⟨by decide +kernel, by decide +kernel⟩, List.mem_of_getElem? (i := 840) (by decide +kernel), List.mem_of_getElem? (i := 1040) (by decide +kernel), List.mem_of_getElem? (i := 1041) (by decide +kernel)⟩
theorem lw_p40 : lw_okq (⟨"IdeasDeckModel", "layStart", "()V"⟩, 18) := ⟨⟨by decide +kernel, by decide +kernel⟩, List.mem_of_getElem? (i := 840) (by decide +kernel), List.mem_of_getElem? (i := 1048) (by decide +kernel), List.mem_of_getElem? (i := 1049) (by decide +kernel)⟩
theorem lw_p41 : lw_okq (⟨"IdeasDeckModel", "manyLost", "()I"⟩, 18) := ⟨⟨by decide +kernel, by decide +kernel⟩, List.mem_of_getElem? (i := 840) (by decide +kernel), List.mem_of_getElem? (i := 1052) (by decide +kernel), List.mem_of_getElem? (i := 1053) (by decide +kernel)⟩
theorem lw_p42 : lw_okq (⟨"IdeasDeckModel", "kindsOf", "(I)I"⟩, 18) := ⟨⟨by decide +kernel, by decide +kernel⟩, List.mem_of_getElem? (i := 840) (by decide +kernel), List.mem_of_getElem? (i := 1078) (by decide +kernel), List.mem_of_getElem? (i := 1079) (by decide +kernel)⟩
theorem lw_p43 : lw_okq (⟨"IdeasDeckModel", "fraction", "(JJ)V"⟩, 18) := ⟨⟨by decide +kernel, by decide +kernel⟩, List.mem_of_getElem? (i := 840) (by decide +kernel), List.mem_of_getElem? (i := 1095) (by decide +kernel), List.mem_of_getElem? (i := 1096) (by decide +kernel)⟩
theorem lw_p44 : lw_okq (⟨"IdeasDeckModel", "isPair", "(III)Z"⟩, 18) := ⟨⟨by decide +kernel, by decide +kernel⟩, List.mem_of_getElem? (i := 840) (by decide +kernel), List.mem_of_getElem? (i := 1103) (by decide +kernel), List.mem_of_getElem? (i := 1104) (by decide +kernel)⟩
theorem lw_p45 : lw_okq (⟨"IdeasDeckModel", "layPair", "(III)V"⟩, 18) := ⟨⟨by decide +kernel, by decide +kernel⟩, List.mem_of_getElem? (i := 840) (by decide +kernel), List.mem_of_getElem? (i := 1107) (by decide +kernel), List.mem_of_getElem? (i := 1108) (by decide +kernel)⟩
theorem lw_p46 : lw_okq (⟨"IdeasDeckModel", "rests", "(III)Z"⟩, 18) := ⟨⟨by decide +kernel, by decide +kernel⟩, List.mem_of_getElem? (i := 840) (by decide +kernel), List.mem_of_getElem? (i := 1111) (by decide +kernel), List.mem_of_getElem? (i := 1112) (by decide +kernel)⟩
theorem lw_p47 : lw_okq (⟨"IdeasDeckModel", "lookAt", "(I)V"⟩, 18) := ⟨⟨by decide +kernel, by decide +kernel⟩, List.mem_of_getElem? (i := 840) (by decide +kernel), List.mem_of_getElem? (i := 1141) (by decide +kernel), List.mem_of_getElem? (i := 1142) (by decide +kernel)⟩
def lw_privs_3 : List (MethodName × Nat) := [(⟨"IdeasDeckModel", "keep", "()V"⟩, 18), (⟨"IdeasDeckModel", "layHand", "()V"⟩, 18), (⟨"IdeasDeckModel", "goTill", "(I)V"⟩, 18), (⟨"IdeasDeckModel", "goStop", "()V"⟩, 18), (⟨"IdeasDeckModel", "swayOfAll", "(II)I"⟩, 18), (⟨"IdeasDeckModel", "swayOf", "(II)I"⟩, 18), (⟨"IdeasDeckModel", "fewestDecks", "()I"⟩, 18), (⟨"IdeasDeckModel", "layDecks", "(II)Z"⟩, 18), (⟨"IdeasDeckModel", "layStart", "()V"⟩, 18), (⟨"IdeasDeckModel", "manyLost", "()I"⟩, 18), (⟨"IdeasDeckModel", "kindsOf", "(I)I"⟩, 18), (⟨"IdeasDeckModel", "fraction", "(JJ)V"⟩, 18), (⟨"IdeasDeckModel", "isPair", "(III)Z"⟩, 18), (⟨"IdeasDeckModel", "layPair", "(III)V"⟩, 18), (⟨"IdeasDeckModel", "rests", "(III)Z"⟩, 18), (⟨"IdeasDeckModel", "lookAt", "(I)V"⟩, 18)]
theorem lw_r3 : ∀ q ∈ lw_privs_3, lw_okq q := List.forall_mem_cons.mpr ⟨lw_p32, List.forall_mem_cons.mpr ⟨lw_p33, List.forall_mem_cons.mpr ⟨lw_p34, List.forall_mem_cons.mpr ⟨lw_p35, List.forall_mem_cons.mpr ⟨lw_p36, List.forall_mem_cons.mpr ⟨lw_p37, List.forall_mem_cons.mpr ⟨lw_p38, List.forall_mem_cons.mpr ⟨lw_p39, List.forall_mem_cons.mpr ⟨lw_p40, List.forall_mem_cons.mpr ⟨lw_p41, List.forall_mem_cons.mpr ⟨lw_p42, List.forall_mem_cons.mpr ⟨lw_p43, List.forall_mem_cons.mpr ⟨lw_p44, List.forall_mem_cons.mpr ⟨lw_p45, List.forall_mem_cons.mpr ⟨lw_p46, List.forall_mem_cons.mpr ⟨lw_p47, fun _ h => absurd h List.not_mem_nil⟩⟩⟩⟩⟩⟩⟩⟩⟩⟩⟩⟩⟩⟩⟩⟩
theorem lw_p48 : lw_okq (⟨"IdeasDeckModel", "takesBus", "()Z"⟩, 18) := ⟨⟨by decide +kernel, by decide +kernel⟩, List.mem_of_getElem? (i := 840) (by decide +kernel), List.mem_of_getElem? (i := 1155) (by decide +kernel), List.mem_of_getElem? (i := 1156) (by decide +kernel)⟩
theorem lw_p49 : lw_okq (⟨"IdeasDeckModel", "spells", "(IIIIIII)Z"⟩, 18) := ⟨⟨by decide +kernel, by decide +kernel⟩, List.mem_of_getElem? (i := 840) (by decide +kernel), List.mem_of_getElem? (i := 1159) (by decide +kernel), List.mem_of_getElem? (i := 1160) (by decide +kernel)⟩
theorem lw_p50 : lw_okq (⟨"IdeasDeckModel", "goBehind", "()V"⟩, 18) := ⟨⟨by decide +kernel, by decide +kernel⟩, List.mem_of_getElem? (i := 840) (by decide +kernel), List.mem_of_getElem? (i := 1163) (by decide +kernel), List.mem_of_getElem? (i := 1164) (by decide +kernel)⟩
theorem lw_p51 : lw_okq (⟨"IdeasDeckModel", "takes", "(III)Z"⟩, 18) := ⟨⟨by decide +kernel, by decide +kernel⟩, List.mem_of_getElem? (i := 840) (by decide +kernel), List.mem_of_getElem? (i := 1167) (by decide +kernel), List.mem_of_getElem? (i := 1168) (by decide +kernel)⟩
theorem lw_p52 : lw_okq (⟨"IdeasDeckModel", "takesItem", "()Z"⟩, 18) := ⟨⟨by decide +kernel, by decide +kernel⟩, List.mem_of_getElem? (i := 840) (by decide +kernel), List.mem_of_getElem? (i := 1171) (by decide +kernel), List.mem_of_getElem? (i := 1172) (by decide +kernel)⟩
theorem lw_p53 : lw_okq (⟨"IdeasDeckModel", "takesBridge", "()Z"⟩, 18) := ⟨⟨by decide +kernel, by decide +kernel⟩, List.mem_of_getElem? (i := 840) (by decide +kernel), List.mem_of_getElem? (i := 1175) (by decide +kernel), List.mem_of_getElem? (i := 1176) (by decide +kernel)⟩
theorem lw_p54 : lw_okq (⟨"IdeasDeckModel", "takesIdea", "()Z"⟩, 18) := ⟨⟨by decide +kernel, by decide +kernel⟩, List.mem_of_getElem? (i := 840) (by decide +kernel), List.mem_of_getElem? (i := 1179) (by decide +kernel), List.mem_of_getElem? (i := 1180) (by decide +kernel)⟩
theorem lw_p55 : lw_okq (⟨"IdeasDeckModel", "isQuarrel", "()Z"⟩, 18) := ⟨⟨by decide +kernel, by decide +kernel⟩, List.mem_of_getElem? (i := 840) (by decide +kernel), List.mem_of_getElem? (i := 1183) (by decide +kernel), List.mem_of_getElem? (i := 1184) (by decide +kernel)⟩
theorem lw_p56 : lw_okq (⟨"IdeasDeckModel", "takesQuarrel", "()Z"⟩, 18) := ⟨⟨by decide +kernel, by decide +kernel⟩, List.mem_of_getElem? (i := 840) (by decide +kernel), List.mem_of_getElem? (i := 1187) (by decide +kernel), List.mem_of_getElem? (i := 1188) (by decide +kernel)⟩
theorem lw_p57 : lw_okq (⟨"IdeasDeckModel", "counted", "(I)I"⟩, 18) := ⟨⟨by decide +kernel, by decide +kernel⟩, List.mem_of_getElem? (i := 840) (by decide +kernel), List.mem_of_getElem? (i := 1212) (by decide +kernel), List.mem_of_getElem? (i := 1213) (by decide +kernel)⟩
theorem lw_p58 : lw_okq (⟨"IdeasDeckModel", "manyQuarrels", "()I"⟩, 18) := ⟨⟨by decide +kernel, by decide +kernel⟩, List.mem_of_getElem? (i := 840) (by decide +kernel), List.mem_of_getElem? (i := 1216) (by decide +kernel), List.mem_of_getElem? (i := 1217) (by decide +kernel)⟩
theorem lw_p59 : lw_okq (⟨"IdeasDeckModel", "manyBridges", "()I"⟩, 18) := ⟨⟨by decide +kernel, by decide +kernel⟩, List.mem_of_getElem? (i := 840) (by decide +kernel), List.mem_of_getElem? (i := 1220) (by decide +kernel), List.mem_of_getElem? (i := 1221) (by decide +kernel)⟩
theorem lw_p60 : lw_okq (⟨"IdeasDeckModel", "sums", "(JII)J"⟩, 18) := ⟨⟨by decide +kernel, by decide +kernel⟩, List.mem_of_getElem? (i := 840) (by decide +kernel), List.mem_of_getElem? (i := 1230) (by decide +kernel), List.mem_of_getElem? (i := 1231) (by decide +kernel)⟩
def lw_privs_4 : List (MethodName × Nat) := [(⟨"IdeasDeckModel", "takesBus", "()Z"⟩, 18), (⟨"IdeasDeckModel", "spells", "(IIIIIII)Z"⟩, 18), (⟨"IdeasDeckModel", "goBehind", "()V"⟩, 18), (⟨"IdeasDeckModel", "takes", "(III)Z"⟩, 18), (⟨"IdeasDeckModel", "takesItem", "()Z"⟩, 18), (⟨"IdeasDeckModel", "takesBridge", "()Z"⟩, 18), (⟨"IdeasDeckModel", "takesIdea", "()Z"⟩, 18), (⟨"IdeasDeckModel", "isQuarrel", "()Z"⟩, 18), (⟨"IdeasDeckModel", "takesQuarrel", "()Z"⟩, 18), (⟨"IdeasDeckModel", "counted", "(I)I"⟩, 18), (⟨"IdeasDeckModel", "manyQuarrels", "()I"⟩, 18), (⟨"IdeasDeckModel", "manyBridges", "()I"⟩, 18), (⟨"IdeasDeckModel", "sums", "(JII)J"⟩, 18)]
theorem lw_r4 : ∀ q ∈ lw_privs_4, lw_okq q := List.forall_mem_cons.mpr ⟨lw_p48, List.forall_mem_cons.mpr ⟨lw_p49, List.forall_mem_cons.mpr ⟨lw_p50, List.forall_mem_cons.mpr ⟨lw_p51, List.forall_mem_cons.mpr ⟨lw_p52, List.forall_mem_cons.mpr ⟨lw_p53, List.forall_mem_cons.mpr ⟨lw_p54, List.forall_mem_cons.mpr ⟨lw_p55, List.forall_mem_cons.mpr ⟨lw_p56, List.forall_mem_cons.mpr ⟨lw_p57, List.forall_mem_cons.mpr ⟨lw_p58, List.forall_mem_cons.mpr ⟨lw_p59, List.forall_mem_cons.mpr ⟨lw_p60, fun _ h => absurd h List.not_mem_nil⟩⟩⟩⟩⟩⟩⟩⟩⟩⟩⟩⟩⟩
def lw_privs : List (MethodName × Nat) := lw_privs_1 ++ (lw_privs_2 ++ (lw_privs_3 ++ (lw_privs_4)))
def lw_tbl : List Cond := k2_sels lw_privs ++ tables_1
theorem lw_privs_ok : ∀ q ∈ lw_privs, lw_okq q := by
  show ∀ q ∈ lw_privs_1 ++ (lw_privs_2 ++ (lw_privs_3 ++ (lw_privs_4))), lw_okq q
  exact List.forall_mem_append.mpr ⟨lw_r1, List.forall_mem_append.mpr ⟨lw_r2, List.forall_mem_append.mpr ⟨lw_r3, lw_r4⟩⟩⟩
-- ===== end of PART A; then your names; then what follows =====
end
section
def RX0 : String := "IdeasDeck$Bus"
def TX0 : u_T := fun k => match k with
  | 0 => ("IdeasDeck$Bus", "room", "I", false)
  | 1 => ("IdeasDeck$Bus", "heights", "[I", true)
  | 2 => ("IdeasDeck$Bus", "ideas", "I", false)
  | 3 => ("IdeasDeck$Bus", "kinds", "[I", true)
  | 4 => ("IdeasDeck$Bus", "feet", "[I", true)
  | 5 => ("IdeasDeck$Bus", "ons", "[I", true)
  | 6 => ("IdeasDeck$Bus", "offs", "[I", true)
  | 7 => ("IdeasDeck$Bus", "quarrels", "[I", true)
  | 8 => ("IdeasDeck$Bus", "notes", "I", false)
  | 9 => ("IdeasDeck$Bus", "noteIdeas", "[I", true)
  | 10 => ("IdeasDeck$Bus", "noteStops", "[I", true)
  | 11 => ("IdeasDeck$Bus", "noteSways", "[I", true)
  | 12 => ("IdeasDeck$Bus", "noteTalls", "[I", true)
  | 13 => ("IdeasDeck$Bus", "ride", "LIdeasDeck$Ride;", true)
  | 14 => ("IdeasDeck$Bus", "past", "[LIdeasDeck$Ride;", true)
  | _ => ("IdeasDeck$Bus", "undoable", "I", false)
def tyX0 : Nat → FieldType := fun k => match k with
  | 0 => .int
  | 1 => .array .int
  | 2 => .int
  | 3 => .array .int
  | 4 => .array .int
  | 5 => .array .int
  | 6 => .array .int
  | 7 => .array .int
  | 8 => .int
  | 9 => .array .int
  | 10 => .array .int
  | 11 => .array .int
  | 12 => .array .int
  | 13 => .object "IdeasDeck$Ride"
  | 14 => .array (.object "IdeasDeck$Ride")
  | _ => .int
abbrev wsX00 : List Cond := u_ws RX0 TX0 16
theorem nmX0 : ∀ a, a < 16 → ∀ b, b < 16 → a ≠ b → (TX0 a).2.1 ≠ (TX0 b).2.1 := by decide +kernel
theorem tyX0_ok : ∀ k, k < 16 → parseFieldDescriptor (TX0 k).2.2.1 = some (tyX0 k) := by decide +kernel
abbrev cX0_init : ByteArray := prog_2_method_1_code
def yX0_init : MethodName := ⟨RX0, "<init>", "()V"⟩
abbrev cX0_startAnew : ByteArray := prog_2_method_2_code
def yX0_startAnew : MethodName := ⟨RX0, "startAnew", "()V"⟩
abbrev cX0_take : ByteArray := prog_2_method_3_code
def yX0_take : MethodName := ⟨RX0, "take", "(LIdeasDeck$Bus;)V"⟩
abbrev cX0_has : ByteArray := prog_2_method_4_code
def yX0_has : MethodName := ⟨RX0, "has", "(I)Z"⟩
abbrev cX0_hasTwo : ByteArray := prog_2_method_5_code
def yX0_hasTwo : MethodName := ⟨RX0, "hasTwo", "(II)Z"⟩
abbrev cX0_addIdea : ByteArray := prog_2_method_6_code
def yX0_addIdea : MethodName := ⟨RX0, "addIdea", "(IIII)V"⟩
abbrev cX0_setQuarrel : ByteArray := prog_2_method_7_code
def yX0_setQuarrel : MethodName := ⟨RX0, "setQuarrel", "(IIZ)V"⟩
abbrev cX0_addNote : ByteArray := prog_2_method_8_code
def yX0_addNote : MethodName := ⟨RX0, "addNote", "(IIII)V"⟩
abbrev cX0_remember : ByteArray := prog_2_method_9_code
def yX0_remember : MethodName := ⟨RX0, "remember", "()V"⟩
abbrev cX0_goBack : ByteArray := prog_2_method_10_code
def yX0_goBack : MethodName := ⟨RX0, "goBack", "()V"⟩
abbrev cX0_passStop : ByteArray := prog_2_method_11_code
def yX0_passStop : MethodName := ⟨RX0, "passStop", "(LIdeasDeck$Ride;[II)V"⟩
abbrev cX0_letOff : ByteArray := prog_2_method_12_code
def yX0_letOff : MethodName := ⟨RX0, "letOff", "(LIdeasDeck$Ride;I)V"⟩
abbrev cX0_letOn : ByteArray := prog_2_method_13_code
def yX0_letOn : MethodName := ⟨RX0, "letOn", "(LIdeasDeck$Ride;I[I)V"⟩
abbrev cX0_scrape : ByteArray := prog_2_method_14_code
def yX0_scrape : MethodName := ⟨RX0, "scrape", "(LIdeasDeck$Ride;II)V"⟩
abbrev cX0_swayOfAll : ByteArray := prog_2_method_15_code
def yX0_swayOfAll : MethodName := ⟨RX0, "swayOfAll", "(II)I"⟩
abbrev cX0_quarrelsIn : ByteArray := prog_2_method_16_code
def yX0_quarrelsIn : MethodName := ⟨RX0, "quarrelsIn", "(I)Z"⟩
abbrev cX0_kindsByNotes : ByteArray := prog_2_method_17_code
def yX0_kindsByNotes : MethodName := ⟨RX0, "kindsByNotes", "(I)I"⟩
abbrev cX0_fitsNotes : ByteArray := prog_2_method_18_code
def yX0_fitsNotes : MethodName := ⟨RX0, "fitsNotes", "(II)Z"⟩
abbrev cX0_countQuarrels : ByteArray := prog_2_method_19_code
def yX0_countQuarrels : MethodName := ⟨RX0, "countQuarrels", "()I"⟩
abbrev cX0_countBridges : ByteArray := prog_2_method_20_code
def yX0_countBridges : MethodName := ⟨RX0, "countBridges", "()I"⟩
abbrev cX0_mixTold : ByteArray := prog_2_method_21_code
def yX0_mixTold : MethodName := ⟨RX0, "mixTold", "(J)J"⟩
def RX1 : String := "IdeasDeck$Decks"
def TX1 : u_T := fun k => match k with
  | _ => ("IdeasDeck$Decks", "deckOf", "[I", true)
def tyX1 : Nat → FieldType := fun k => match k with
  | _ => .array .int
abbrev wsX10 : List Cond := u_ws RX1 TX1 1
theorem nmX1 : ∀ a, a < 1 → ∀ b, b < 1 → a ≠ b → (TX1 a).2.1 ≠ (TX1 b).2.1 := by decide +kernel
theorem tyX1_ok : ∀ k, k < 1 → parseFieldDescriptor (TX1 k).2.2.1 = some (tyX1 k) := by decide +kernel
abbrev cX1_init : ByteArray := prog_3_method_1_code
def yX1_init : MethodName := ⟨RX1, "<init>", "()V"⟩
abbrev cX1_fewest : ByteArray := prog_3_method_2_code
def yX1_fewest : MethodName := ⟨RX1, "fewest", "(LIdeasDeck$Bus;)I"⟩
abbrev cX1_canPlace : ByteArray := prog_3_method_3_code
def yX1_canPlace : MethodName := ⟨RX1, "canPlace", "(LIdeasDeck$Bus;[III)Z"⟩
abbrev cX1_isCalm : ByteArray := prog_3_method_4_code
def yX1_isCalm : MethodName := ⟨RX1, "isCalm", "(LIdeasDeck$Bus;[III)Z"⟩
def RX2 : String := "IdeasDeck$Fraction"
def TX2 : u_T := fun k => match k with
  | 0 => ("IdeasDeck$Fraction", "above", "J", false)
  | _ => ("IdeasDeck$Fraction", "below", "J", false)
def tyX2 : Nat → FieldType := fun k => match k with
  | 0 => .long
  | _ => .long
abbrev wsX20 : List Cond := u_ws RX2 TX2 2
theorem nmX2 : ∀ a, a < 2 → ∀ b, b < 2 → a ≠ b → (TX2 a).2.1 ≠ (TX2 b).2.1 := by decide +kernel
theorem tyX2_ok : ∀ k, k < 2 → parseFieldDescriptor (TX2 k).2.2.1 = some (tyX2 k) := by decide +kernel
abbrev cX2_init : ByteArray := prog_4_method_1_code
def yX2_init : MethodName := ⟨RX2, "<init>", "()V"⟩
abbrev cX2_become : ByteArray := prog_4_method_2_code
def yX2_become : MethodName := ⟨RX2, "become", "(JJ)V"⟩
abbrev cX2_commonDivisor : ByteArray := prog_4_method_3_code
def yX2_commonDivisor : MethodName := ⟨RX2, "commonDivisor", "(JJ)J"⟩
def RX3 : String := "IdeasDeck$Journey"
def TX3 : u_T := fun k => match k with
  | 0 => ("IdeasDeck$Journey", "ride", "LIdeasDeck$Ride;", true)
  | 1 => ("IdeasDeck$Journey", "boarding", "[I", true)
  | _ => ("IdeasDeck$Journey", "lift", "I", false)
def tyX3 : Nat → FieldType := fun k => match k with
  | 0 => .object "IdeasDeck$Ride"
  | 1 => .array .int
  | _ => .int
abbrev wsX30 : List Cond := u_ws RX3 TX3 3
theorem nmX3 : ∀ a, a < 3 → ∀ b, b < 3 → a ≠ b → (TX3 a).2.1 ≠ (TX3 b).2.1 := by decide +kernel
theorem tyX3_ok : ∀ k, k < 3 → parseFieldDescriptor (TX3 k).2.2.1 = some (tyX3 k) := by decide +kernel
abbrev cX3_init : ByteArray := prog_5_method_1_code
def yX3_init : MethodName := ⟨RX3, "<init>", "()V"⟩
abbrev cX3_goOn : ByteArray := prog_5_method_2_code
def yX3_goOn : MethodName := ⟨RX3, "goOn", "(LIdeasDeck$Bus;)V"⟩
abbrev cX3_startAnew : ByteArray := prog_5_method_3_code
def yX3_startAnew : MethodName := ⟨RX3, "startAnew", "(LIdeasDeck$Bus;)V"⟩
abbrev cX3_boardAsTold : ByteArray := prog_5_method_4_code
def yX3_boardAsTold : MethodName := ⟨RX3, "boardAsTold", "(LIdeasDeck$Bus;)V"⟩
abbrev cX3_passOne : ByteArray := prog_5_method_5_code
def yX3_passOne : MethodName := ⟨RX3, "passOne", "(LIdeasDeck$Bus;)V"⟩
abbrev cX3_passThrough : ByteArray := prog_5_method_6_code
def yX3_passThrough : MethodName := ⟨RX3, "passThrough", "(LIdeasDeck$Bus;I)V"⟩
abbrev cX3_missing : ByteArray := prog_5_method_7_code
def yX3_missing : MethodName := ⟨RX3, "missing", "()I"⟩
abbrev cX3_betterBoarding : ByteArray := prog_5_method_8_code
def yX3_betterBoarding : MethodName := ⟨RX3, "betterBoarding", "(LIdeasDeck$Bus;)I"⟩
abbrev cX3_missingIf : ByteArray := prog_5_method_9_code
def yX3_missingIf : MethodName := ⟨RX3, "missingIf", "(LIdeasDeck$Bus;II)I"⟩
abbrev cX3_leastLift : ByteArray := prog_5_method_10_code
def yX3_leastLift : MethodName := ⟨RX3, "leastLift", "(LIdeasDeck$Bus;)I"⟩
abbrev cX3_levyOfDays : ByteArray := prog_5_method_11_code
def yX3_levyOfDays : MethodName := ⟨RX3, "levyOfDays", "(LIdeasDeck$Bus;II)I"⟩
def RX4 : String := "IdeasDeck$Reader"
def TX4 : u_T := fun k => match k with
  | 0 => ("IdeasDeck$Reader", "text", "[I", true)
  | 1 => ("IdeasDeck$Reader", "length", "I", false)
  | 2 => ("IdeasDeck$Reader", "told", "LIdeasDeck$Bus;", true)
  | 3 => ("IdeasDeck$Reader", "items", "I", false)
  | 4 => ("IdeasDeck$Reader", "place", "I", false)
  | 5 => ("IdeasDeck$Reader", "next", "I", false)
  | 6 => ("IdeasDeck$Reader", "token", "I", false)
  | _ => ("IdeasDeck$Reader", "number", "I", false)
def tyX4 : Nat → FieldType := fun k => match k with
  | 0 => .array .int
  | 1 => .int
  | 2 => .object "IdeasDeck$Bus"
  | 3 => .int
  | 4 => .int
  | 5 => .int
  | 6 => .int
  | _ => .int
abbrev wsX40 : List Cond := u_ws RX4 TX4 8
theorem nmX4 : ∀ a, a < 8 → ∀ b, b < 8 → a ≠ b → (TX4 a).2.1 ≠ (TX4 b).2.1 := by decide +kernel
theorem tyX4_ok : ∀ k, k < 8 → parseFieldDescriptor (TX4 k).2.2.1 = some (tyX4 k) := by decide +kernel
abbrev cX4_init : ByteArray := prog_6_method_1_code
def yX4_init : MethodName := ⟨RX4, "<init>", "()V"⟩
abbrev cX4_addByte : ByteArray := prog_6_method_2_code
def yX4_addByte : MethodName := ⟨RX4, "addByte", "(I)V"⟩
abbrev cX4_readBus : ByteArray := prog_6_method_3_code
def yX4_readBus : MethodName := ⟨RX4, "readBus", "()Z"⟩
abbrev cX4_readItem : ByteArray := prog_6_method_4_code
def yX4_readItem : MethodName := ⟨RX4, "readItem", "()Z"⟩
abbrev cX4_readRoom : ByteArray := prog_6_method_5_code
def yX4_readRoom : MethodName := ⟨RX4, "readRoom", "()Z"⟩
abbrev cX4_readBridge : ByteArray := prog_6_method_6_code
def yX4_readBridge : MethodName := ⟨RX4, "readBridge", "()Z"⟩
abbrev cX4_readIdea : ByteArray := prog_6_method_7_code
def yX4_readIdea : MethodName := ⟨RX4, "readIdea", "()Z"⟩
abbrev cX4_readQuarrel : ByteArray := prog_6_method_8_code
def yX4_readQuarrel : MethodName := ⟨RX4, "readQuarrel", "()Z"⟩
abbrev cX4_readNumber : ByteArray := prog_6_method_9_code
def yX4_readNumber : MethodName := ⟨RX4, "readNumber", "(II)Z"⟩
abbrev cX4_readMark : ByteArray := prog_6_method_10_code
def yX4_readMark : MethodName := ⟨RX4, "readMark", "()Z"⟩
abbrev cX4_isWord : ByteArray := prog_6_method_11_code
def yX4_isWord : MethodName := ⟨RX4, "isWord", "(Ljava/lang/String;)Z"⟩
abbrev cX4_step : ByteArray := prog_6_method_12_code
def yX4_step : MethodName := ⟨RX4, "step", "()V"⟩
abbrev cX4_valueOfFigures : ByteArray := prog_6_method_13_code
def yX4_valueOfFigures : MethodName := ⟨RX4, "valueOfFigures", "()I"⟩
abbrev cX4_endOfBlanks : ByteArray := prog_6_method_14_code
def yX4_endOfBlanks : MethodName := ⟨RX4, "endOfBlanks", "(I)I"⟩
abbrev cX4_endOfLetters : ByteArray := prog_6_method_15_code
def yX4_endOfLetters : MethodName := ⟨RX4, "endOfLetters", "(I)I"⟩
abbrev cX4_endOfFigures : ByteArray := prog_6_method_16_code
def yX4_endOfFigures : MethodName := ⟨RX4, "endOfFigures", "(I)I"⟩
abbrev cX4_byteAt : ByteArray := prog_6_method_17_code
def yX4_byteAt : MethodName := ⟨RX4, "byteAt", "(I)I"⟩
abbrev cX4_isLetter : ByteArray := prog_6_method_18_code
def yX4_isLetter : MethodName := ⟨RX4, "isLetter", "(I)Z"⟩
abbrev cX4_isFigure : ByteArray := prog_6_method_19_code
def yX4_isFigure : MethodName := ⟨RX4, "isFigure", "(I)Z"⟩
def RX5 : String := "IdeasDeck$Ride"
def TX5 : u_T := fun k => match k with
  | 0 => ("IdeasDeck$Ride", "stop", "I", false)
  | 1 => ("IdeasDeck$Ride", "up", "I", false)
  | 2 => ("IdeasDeck$Ride", "scraped", "I", false)
  | 3 => ("IdeasDeck$Ride", "left", "I", false)
  | _ => ("IdeasDeck$Ride", "levy", "I", false)
def tyX5 : Nat → FieldType := fun k => match k with
  | 0 => .int
  | 1 => .int
  | 2 => .int
  | 3 => .int
  | _ => .int
abbrev wsX50 : List Cond := u_ws RX5 TX5 5
theorem nmX5 : ∀ a, a < 5 → ∀ b, b < 5 → a ≠ b → (TX5 a).2.1 ≠ (TX5 b).2.1 := by decide +kernel
theorem tyX5_ok : ∀ k, k < 5 → parseFieldDescriptor (TX5 k).2.2.1 = some (tyX5 k) := by decide +kernel
abbrev cX5_init : ByteArray := prog_7_method_1_code
def yX5_init : MethodName := ⟨RX5, "<init>", "()V"⟩
abbrev cX5_startAnew : ByteArray := prog_7_method_2_code
def yX5_startAnew : MethodName := ⟨RX5, "startAnew", "()V"⟩
abbrev cX5_take : ByteArray := prog_7_method_3_code
def yX5_take : MethodName := ⟨RX5, "take", "(LIdeasDeck$Ride;)V"⟩
def RX6 : String := "IdeasDeck$Sets"
def TX6 : u_T := fun k => match k with
  | 0 => ("IdeasDeck$Sets", "found", "I", false)
  | 1 => ("IdeasDeck$Sets", "inAll", "I", false)
  | _ => ("IdeasDeck$Sets", "inSome", "I", false)
def tyX6 : Nat → FieldType := fun k => match k with
  | 0 => .int
  | 1 => .int
  | _ => .int
abbrev wsX60 : List Cond := u_ws RX6 TX6 3
theorem nmX6 : ∀ a, a < 3 → ∀ b, b < 3 → a ≠ b → (TX6 a).2.1 ≠ (TX6 b).2.1 := by decide +kernel
theorem tyX6_ok : ∀ k, k < 3 → parseFieldDescriptor (TX6 k).2.2.1 = some (tyX6 k) := by decide +kernel
abbrev cX6_init : ByteArray := prog_8_method_1_code
def yX6_init : MethodName := ⟨RX6, "<init>", "()V"⟩
abbrev cX6_find : ByteArray := prog_8_method_2_code
def yX6_find : MethodName := ⟨RX6, "find", "(LIdeasDeck$Bus;II)V"⟩
abbrev cX6_canBe : ByteArray := prog_8_method_3_code
def yX6_canBe : MethodName := ⟨RX6, "canBe", "(LIdeasDeck$Bus;III)Z"⟩
def RX7 : String := "IdeasDeck$Two"
def TX7 : u_T := fun k => match k with
  | 0 => ("IdeasDeck$Two", "gainsOfA", "[I", true)
  | 1 => ("IdeasDeck$Two", "gainsOfB", "[I", true)
  | 2 => ("IdeasDeck$Two", "choicesOfA", "I", false)
  | _ => ("IdeasDeck$Two", "choicesOfB", "I", false)
def tyX7 : Nat → FieldType := fun k => match k with
  | 0 => .array .int
  | 1 => .array .int
  | 2 => .int
  | _ => .int
abbrev wsX70 : List Cond := u_ws RX7 TX7 4
theorem nmX7 : ∀ a, a < 4 → ∀ b, b < 4 → a ≠ b → (TX7 a).2.1 ≠ (TX7 b).2.1 := by decide +kernel
theorem tyX7_ok : ∀ k, k < 4 → parseFieldDescriptor (TX7 k).2.2.1 = some (tyX7 k) := by decide +kernel
abbrev cX7_init : ByteArray := prog_9_method_1_code
def yX7_init : MethodName := ⟨RX7, "<init>", "()V"⟩
abbrev cX7_play : ByteArray := prog_9_method_2_code
def yX7_play : MethodName := ⟨RX7, "play", "(LIdeasDeck$Bus;LIdeasDeck$Journey;II)V"⟩
abbrev cX7_countStops : ByteArray := prog_9_method_3_code
def yX7_countStops : MethodName := ⟨RX7, "countStops", "(LIdeasDeck$Bus;LIdeasDeck$Journey;III)V"⟩
abbrev cX7_rests : ByteArray := prog_9_method_4_code
def yX7_rests : MethodName := ⟨RX7, "rests", "(II)Z"⟩
abbrev cX7_resting : ByteArray := prog_9_method_5_code
def yX7_resting : MethodName := ⟨RX7, "resting", "()I"⟩
abbrev cX7_restingAt : ByteArray := prog_9_method_6_code
def yX7_restingAt : MethodName := ⟨RX7, "restingAt", "(I)I"⟩
def RX8 : String := "IdeasDeck"
def TX8 : u_T := fun k => match k with
  | 0 => ("IdeasDeck", "bus", "LIdeasDeck$Bus;", true)
  | 1 => ("IdeasDeck", "images", "[LIdeasDeck$Bus;", true)
  | 2 => ("IdeasDeck", "kept", "[Z", true)
  | 3 => ("IdeasDeck", "journey", "LIdeasDeck$Journey;", true)
  | 4 => ("IdeasDeck", "parting", "LIdeasDeck$Decks;", true)
  | 5 => ("IdeasDeck", "sets", "LIdeasDeck$Sets;", true)
  | 6 => ("IdeasDeck", "game", "LIdeasDeck$Two;", true)
  | 7 => ("IdeasDeck", "fraction", "LIdeasDeck$Fraction;", true)
  | 8 => ("IdeasDeck", "reader", "LIdeasDeck$Reader;", true)
  | 9 => ("IdeasDeck", "refusedBad", "I", false)
  | 10 => ("IdeasDeck", "refusedNo", "I", false)
  | _ => ("IdeasDeck", "refusedFull", "I", false)
def tyX8 : Nat → FieldType := fun k => match k with
  | 0 => .object "IdeasDeck$Bus"
  | 1 => .array (.object "IdeasDeck$Bus")
  | 2 => .array .boolean
  | 3 => .object "IdeasDeck$Journey"
  | 4 => .object "IdeasDeck$Decks"
  | 5 => .object "IdeasDeck$Sets"
  | 6 => .object "IdeasDeck$Two"
  | 7 => .object "IdeasDeck$Fraction"
  | 8 => .object "IdeasDeck$Reader"
  | 9 => .int
  | 10 => .int
  | _ => .int
abbrev wsX80 : List Cond := u_ws RX8 TX8 12
theorem nmX8 : ∀ a, a < 12 → ∀ b, b < 12 → a ≠ b → (TX8 a).2.1 ≠ (TX8 b).2.1 := by decide +kernel
theorem tyX8_ok : ∀ k, k < 12 → parseFieldDescriptor (TX8 k).2.2.1 = some (tyX8 k) := by decide +kernel
abbrev cX8_init : ByteArray := prog_1_method_1_code
def yX8_init : MethodName := ⟨RX8, "<init>", "()V"⟩
abbrev cX8_bus : ByteArray := prog_1_method_2_code
def yX8_bus : MethodName := ⟨RX8, "bus", "(I)I"⟩
abbrev cX8_room : ByteArray := prog_1_method_3_code
def yX8_room : MethodName := ⟨RX8, "room", "(I)I"⟩
abbrev cX8_bridge : ByteArray := prog_1_method_4_code
def yX8_bridge : MethodName := ⟨RX8, "bridge", "(II)I"⟩
abbrev cX8_idea : ByteArray := prog_1_method_5_code
def yX8_idea : MethodName := ⟨RX8, "idea", "(IIII)I"⟩
abbrev cX8_quarrel : ByteArray := prog_1_method_6_code
def yX8_quarrel : MethodName := ⟨RX8, "quarrel", "(III)I"⟩
abbrev cX8_type : ByteArray := prog_1_method_7_code
def yX8_type : MethodName := ⟨RX8, "type", "(I)I"⟩
abbrev cX8_clear : ByteArray := prog_1_method_8_code
def yX8_clear : MethodName := ⟨RX8, "clear", "()I"⟩
abbrev cX8_read : ByteArray := prog_1_method_9_code
def yX8_read : MethodName := ⟨RX8, "read", "()I"⟩
abbrev cX8_drive : ByteArray := prog_1_method_10_code
def yX8_drive : MethodName := ⟨RX8, "drive", "(I)I"⟩
abbrev cX8_puts : ByteArray := prog_1_method_11_code
def yX8_puts : MethodName := ⟨RX8, "puts", "(I)I"⟩
abbrev cX8_undo : ByteArray := prog_1_method_12_code
def yX8_undo : MethodName := ⟨RX8, "undo", "()I"⟩
abbrev cX8_of : ByteArray := prog_1_method_13_code
def yX8_of : MethodName := ⟨RX8, "of", "(II)I"⟩
abbrev cX8_sways : ByteArray := prog_1_method_14_code
def yX8_sways : MethodName := ⟨RX8, "sways", "(III)I"⟩
abbrev cX8_now : ByteArray := prog_1_method_15_code
def yX8_now : MethodName := ⟨RX8, "now", "(I)I"⟩
abbrev cX8_then : ByteArray := prog_1_method_16_code
def yX8_then : MethodName := ⟨RX8, "then", "(II)I"⟩
abbrev cX8_end : ByteArray := prog_1_method_17_code
def yX8_end : MethodName := ⟨RX8, "end", "(I)I"⟩
abbrev cX8_decks : ByteArray := prog_1_method_18_code
def yX8_decks : MethodName := ⟨RX8, "decks", "(I)I"⟩
abbrev cX8_better : ByteArray := prog_1_method_19_code
def yX8_better : MethodName := ⟨RX8, "better", "()I"⟩
abbrev cX8_raise : ByteArray := prog_1_method_20_code
def yX8_raise : MethodName := ⟨RX8, "raise", "()I"⟩
abbrev cX8_upstairs : ByteArray := prog_1_method_21_code
def yX8_upstairs : MethodName := ⟨RX8, "upstairs", "(III)I"⟩
abbrev cX8_note : ByteArray := prog_1_method_22_code
def yX8_note : MethodName := ⟨RX8, "note", "(IIII)I"⟩
abbrev cX8_forget : ByteArray := prog_1_method_23_code
def yX8_forget : MethodName := ⟨RX8, "forget", "()I"⟩
abbrev cX8_is : ByteArray := prog_1_method_24_code
def yX8_is : MethodName := ⟨RX8, "is", "(I)I"⟩
abbrev cX8_look : ByteArray := prog_1_method_25_code
def yX8_look : MethodName := ⟨RX8, "look", "(I)I"⟩
abbrev cX8_fare : ByteArray := prog_1_method_26_code
def yX8_fare : MethodName := ⟨RX8, "fare", "(I)I"⟩
abbrev cX8_two : ByteArray := prog_1_method_27_code
def yX8_two : MethodName := ⟨RX8, "two", "(III)I"⟩
abbrev cX8_bell : ByteArray := prog_1_method_28_code
def yX8_bell : MethodName := ⟨RX8, "bell", "(I)I"⟩
abbrev cX8_days : ByteArray := prog_1_method_29_code
def yX8_days : MethodName := ⟨RX8, "days", "(II)I"⟩
abbrev cX8_part : ByteArray := prog_1_method_30_code
def yX8_part : MethodName := ⟨RX8, "part", "(I)J"⟩
abbrev cX8_image : ByteArray := prog_1_method_31_code
def yX8_image : MethodName := ⟨RX8, "image", "(I)I"⟩
abbrev cX8_from : ByteArray := prog_1_method_32_code
def yX8_from : MethodName := ⟨RX8, "from", "(I)I"⟩
abbrev cX8_status : ByteArray := prog_1_method_33_code
def yX8_status : MethodName := ⟨RX8, "status", "(I)I"⟩
abbrev cX8_count : ByteArray := prog_1_method_34_code
def yX8_count : MethodName := ⟨RX8, "count", "(I)I"⟩
abbrev cX8_digest : ByteArray := prog_1_method_35_code
def yX8_digest : MethodName := ⟨RX8, "digest", "()J"⟩
abbrev cX8_refuseBad : ByteArray := prog_1_method_36_code
def yX8_refuseBad : MethodName := ⟨RX8, "refuseBad", "()I"⟩
abbrev cX8_refuseOtherBad : ByteArray := prog_1_method_37_code
def yX8_refuseOtherBad : MethodName := ⟨RX8, "refuseOtherBad", "()I"⟩
abbrev cX8_refuseNo : ByteArray := prog_1_method_38_code
def yX8_refuseNo : MethodName := ⟨RX8, "refuseNo", "()I"⟩
abbrev cX8_refuseFull : ByteArray := prog_1_method_39_code
def yX8_refuseFull : MethodName := ⟨RX8, "refuseFull", "()I"⟩
abbrev cX8_within : ByteArray := prog_1_method_40_code
def yX8_within : MethodName := ⟨RX8, "within", "(III)Z"⟩
abbrev cX8_bit : ByteArray := prog_1_method_41_code
def yX8_bit : MethodName := ⟨RX8, "bit", "(II)I"⟩
abbrev cX8_swayOf : ByteArray := prog_1_method_42_code
def yX8_swayOf : MethodName := ⟨RX8, "swayOf", "(III)I"⟩
abbrev cX8_plainSway : ByteArray := prog_1_method_43_code
def yX8_plainSway : MethodName := ⟨RX8, "plainSway", "(I)I"⟩
abbrev cX8_economySway : ByteArray := prog_1_method_44_code
def yX8_economySway : MethodName := ⟨RX8, "economySway", "(I)I"⟩
abbrev cX8_tallOf : ByteArray := prog_1_method_45_code
def yX8_tallOf : MethodName := ⟨RX8, "tallOf", "(II)I"⟩
abbrev cX8_plainTall : ByteArray := prog_1_method_46_code
def yX8_plainTall : MethodName := ⟨RX8, "plainTall", "()I"⟩
abbrev cX8_economyTall : ByteArray := prog_1_method_47_code
def yX8_economyTall : MethodName := ⟨RX8, "economyTall", "()I"⟩
abbrev cX8_doubtTall : ByteArray := prog_1_method_48_code
def yX8_doubtTall : MethodName := ⟨RX8, "doubtTall", "()I"⟩
abbrev cX8_bestLook : ByteArray := prog_1_method_49_code
def yX8_bestLook : MethodName := ⟨RX8, "bestLook", "(II)I"⟩
abbrev cX8_mostAlike : ByteArray := prog_1_method_50_code
def yX8_mostAlike : MethodName := ⟨RX8, "mostAlike", "(III)I"⟩
abbrev cX8_countAlike : ByteArray := prog_1_method_51_code
def yX8_countAlike : MethodName := ⟨RX8, "countAlike", "(IIII)I"⟩
def RX9 : String := "IdeasDeckModel"
def TX9 : u_T := fun k => match k with
  | 0 => ("IdeasDeckModel", "told", "[I", true)
  | 1 => ("IdeasDeckModel", "kept", "[I", true)
  | 2 => ("IdeasDeckModel", "isKept", "[Z", true)
  | 3 => ("IdeasDeckModel", "refused", "[I", true)
  | 4 => ("IdeasDeckModel", "above", "J", false)
  | 5 => ("IdeasDeckModel", "below", "J", false)
  | 6 => ("IdeasDeckModel", "hand", "[I", true)
  | 7 => ("IdeasDeckModel", "lies", "[I", true)
  | 8 => ("IdeasDeckModel", "his", "[I", true)
  | 9 => ("IdeasDeckModel", "theirs", "[I", true)
  | 10 => ("IdeasDeckModel", "bytes", "[I", true)
  | 11 => ("IdeasDeckModel", "bytesLong", "I", false)
  | 12 => ("IdeasDeckModel", "tokenAt", "I", false)
  | 13 => ("IdeasDeckModel", "tokenLong", "I", false)
  | 14 => ("IdeasDeckModel", "token", "I", false)
  | 15 => ("IdeasDeckModel", "value", "I", false)
  | 16 => ("IdeasDeckModel", "anew", "[I", true)
  | _ => ("IdeasDeckModel", "values", "[I", true)
def tyX9 : Nat → FieldType := fun k => match k with
  | 0 => .array .int
  | 1 => .array .int
  | 2 => .array .boolean
  | 3 => .array .int
  | 4 => .long
  | 5 => .long
  | 6 => .array .int
  | 7 => .array .int
  | 8 => .array .int
  | 9 => .array .int
  | 10 => .array .int
  | 11 => .int
  | 12 => .int
  | 13 => .int
  | 14 => .int
  | 15 => .int
  | 16 => .array .int
  | _ => .array .int
abbrev wsX90 : List Cond := u_ws RX9 TX9 18
theorem nmX9 : ∀ a, a < 18 → ∀ b, b < 18 → a ≠ b → (TX9 a).2.1 ≠ (TX9 b).2.1 := by decide +kernel
theorem tyX9_ok : ∀ k, k < 18 → parseFieldDescriptor (TX9 k).2.2.1 = some (tyX9 k) := by decide +kernel
abbrev cX9_init : ByteArray := prog_11_method_1_code
def yX9_init : MethodName := ⟨RX9, "<init>", "()V"⟩
abbrev cX9_in : ByteArray := prog_11_method_3_code
def yX9_in : MethodName := ⟨RX9, "in", "(JJJ)Z"⟩
abbrev cX9_bad : ByteArray := prog_11_method_4_code
def yX9_bad : MethodName := ⟨RX9, "bad", "(I)I"⟩
abbrev cX9_no : ByteArray := prog_11_method_5_code
def yX9_no : MethodName := ⟨RX9, "no", "()I"⟩
abbrev cX9_full : ByteArray := prog_11_method_6_code
def yX9_full : MethodName := ⟨RX9, "full", "()I"⟩
abbrev cX9_bits : ByteArray := prog_11_method_7_code
def yX9_bits : MethodName := ⟨RX9, "bits", "(I)I"⟩
abbrev cX9_has : ByteArray := prog_11_method_8_code
def yX9_has : MethodName := ⟨RX9, "has", "(II)Z"⟩
abbrev cX9_begin : ByteArray := prog_11_method_9_code
def yX9_begin : MethodName := ⟨RX9, "begin", "([II)V"⟩
abbrev cX9_many : ByteArray := prog_11_method_10_code
def yX9_many : MethodName := ⟨RX9, "many", "()I"⟩
abbrev cX9_isIdea : ByteArray := prog_11_method_11_code
def yX9_isIdea : MethodName := ⟨RX9, "isIdea", "(I)Z"⟩
abbrev cX9_isStop : ByteArray := prog_11_method_12_code
def yX9_isStop : MethodName := ⟨RX9, "isStop", "(I)Z"⟩
abbrev cX9_bus : ByteArray := prog_11_method_13_code
def yX9_bus : MethodName := ⟨RX9, "bus", "(I)I"⟩
abbrev cX9_room : ByteArray := prog_11_method_14_code
def yX9_room : MethodName := ⟨RX9, "room", "(I)I"⟩
abbrev cX9_bridge : ByteArray := prog_11_method_15_code
def yX9_bridge : MethodName := ⟨RX9, "bridge", "(II)I"⟩
abbrev cX9_layIdea : ByteArray := prog_11_method_16_code
def yX9_layIdea : MethodName := ⟨RX9, "layIdea", "([IIIII)V"⟩
abbrev cX9_idea : ByteArray := prog_11_method_17_code
def yX9_idea : MethodName := ⟨RX9, "idea", "(IIII)I"⟩
abbrev cX9_layFoes : ByteArray := prog_11_method_18_code
def yX9_layFoes : MethodName := ⟨RX9, "layFoes", "([IIIZ)V"⟩
abbrev cX9_quarrel : ByteArray := prog_11_method_19_code
def yX9_quarrel : MethodName := ⟨RX9, "quarrel", "(III)I"⟩
abbrev cX9_swayAs : ByteArray := prog_11_method_20_code
def yX9_swayAs : MethodName := ⟨RX9, "swayAs", "(III)I"⟩
abbrev cX9_tallAs : ByteArray := prog_11_method_21_code
def yX9_tallAs : MethodName := ⟨RX9, "tallAs", "(II)I"⟩
abbrev cX9_layHand : ByteArray := prog_11_method_22_code
def yX9_layHand : MethodName := ⟨RX9, "layHand", "()V"⟩
abbrev cX9_layStart : ByteArray := prog_11_method_23_code
def yX9_layStart : MethodName := ⟨RX9, "layStart", "()V"⟩
abbrev cX9_swayOf : ByteArray := prog_11_method_24_code
def yX9_swayOf : MethodName := ⟨RX9, "swayOf", "(II)I"⟩
abbrev cX9_swayOfAll : ByteArray := prog_11_method_25_code
def yX9_swayOfAll : MethodName := ⟨RX9, "swayOfAll", "(II)I"⟩
abbrev cX9_goStop : ByteArray := prog_11_method_26_code
def yX9_goStop : MethodName := ⟨RX9, "goStop", "()V"⟩
abbrev cX9_goTill : ByteArray := prog_11_method_27_code
def yX9_goTill : MethodName := ⟨RX9, "goTill", "(I)V"⟩
abbrev cX9_keep : ByteArray := prog_11_method_28_code
def yX9_keep : MethodName := ⟨RX9, "keep", "()V"⟩
abbrev cX9_drive : ByteArray := prog_11_method_29_code
def yX9_drive : MethodName := ⟨RX9, "drive", "(I)I"⟩
abbrev cX9_puts : ByteArray := prog_11_method_30_code
def yX9_puts : MethodName := ⟨RX9, "puts", "(I)I"⟩
abbrev cX9_undo : ByteArray := prog_11_method_31_code
def yX9_undo : MethodName := ⟨RX9, "undo", "()I"⟩
abbrev cX9_of : ByteArray := prog_11_method_32_code
def yX9_of : MethodName := ⟨RX9, "of", "(II)I"⟩
abbrev cX9_sways : ByteArray := prog_11_method_33_code
def yX9_sways : MethodName := ⟨RX9, "sways", "(III)I"⟩
abbrev cX9_now : ByteArray := prog_11_method_34_code
def yX9_now : MethodName := ⟨RX9, "now", "(I)I"⟩
abbrev cX9_then : ByteArray := prog_11_method_35_code
def yX9_then : MethodName := ⟨RX9, "then", "(II)I"⟩
abbrev cX9_end : ByteArray := prog_11_method_36_code
def yX9_end : MethodName := ⟨RX9, "end", "(I)I"⟩
abbrev cX9_layDecks : ByteArray := prog_11_method_37_code
def yX9_layDecks : MethodName := ⟨RX9, "layDecks", "(II)Z"⟩
abbrev cX9_fewestDecks : ByteArray := prog_11_method_38_code
def yX9_fewestDecks : MethodName := ⟨RX9, "fewestDecks", "()I"⟩
abbrev cX9_decks : ByteArray := prog_11_method_39_code
def yX9_decks : MethodName := ⟨RX9, "decks", "(I)I"⟩
abbrev cX9_manyLost : ByteArray := prog_11_method_40_code
def yX9_manyLost : MethodName := ⟨RX9, "manyLost", "()I"⟩
abbrev cX9_better : ByteArray := prog_11_method_41_code
def yX9_better : MethodName := ⟨RX9, "better", "()I"⟩
abbrev cX9_raise : ByteArray := prog_11_method_42_code
def yX9_raise : MethodName := ⟨RX9, "raise", "()I"⟩
abbrev cX9_upstairs : ByteArray := prog_11_method_43_code
def yX9_upstairs : MethodName := ⟨RX9, "upstairs", "(III)I"⟩
abbrev cX9_note : ByteArray := prog_11_method_44_code
def yX9_note : MethodName := ⟨RX9, "note", "(IIII)I"⟩
abbrev cX9_forget : ByteArray := prog_11_method_45_code
def yX9_forget : MethodName := ⟨RX9, "forget", "()I"⟩
abbrev cX9_kindsOf : ByteArray := prog_11_method_46_code
def yX9_kindsOf : MethodName := ⟨RX9, "kindsOf", "(I)I"⟩
abbrev cX9_is : ByteArray := prog_11_method_47_code
def yX9_is : MethodName := ⟨RX9, "is", "(I)I"⟩
abbrev cX9_areAlike : ByteArray := prog_11_method_48_code
def yX9_areAlike : MethodName := ⟨RX9, "areAlike", "(IIII)Z"⟩
abbrev cX9_look : ByteArray := prog_11_method_49_code
def yX9_look : MethodName := ⟨RX9, "look", "(I)I"⟩
abbrev cX9_fraction : ByteArray := prog_11_method_50_code
def yX9_fraction : MethodName := ⟨RX9, "fraction", "(JJ)V"⟩
abbrev cX9_fare : ByteArray := prog_11_method_51_code
def yX9_fare : MethodName := ⟨RX9, "fare", "(I)I"⟩
abbrev cX9_layPair : ByteArray := prog_11_method_52_code
def yX9_layPair : MethodName := ⟨RX9, "layPair", "(III)V"⟩
abbrev cX9_isPair : ByteArray := prog_11_method_53_code
def yX9_isPair : MethodName := ⟨RX9, "isPair", "(III)Z"⟩
abbrev cX9_rests : ByteArray := prog_11_method_54_code
def yX9_rests : MethodName := ⟨RX9, "rests", "(III)Z"⟩
abbrev cX9_two : ByteArray := prog_11_method_55_code
def yX9_two : MethodName := ⟨RX9, "two", "(III)I"⟩
abbrev cX9_bell : ByteArray := prog_11_method_56_code
def yX9_bell : MethodName := ⟨RX9, "bell", "(I)I"⟩
abbrev cX9_days : ByteArray := prog_11_method_57_code
def yX9_days : MethodName := ⟨RX9, "days", "(II)I"⟩
abbrev cX9_type : ByteArray := prog_11_method_58_code
def yX9_type : MethodName := ⟨RX9, "type", "(I)I"⟩
abbrev cX9_clear : ByteArray := prog_11_method_59_code
def yX9_clear : MethodName := ⟨RX9, "clear", "()I"⟩
abbrev cX9_isSmall : ByteArray := prog_11_method_60_code
def yX9_isSmall : MethodName := ⟨RX9, "isSmall", "(I)Z"⟩
abbrev cX9_isFigure : ByteArray := prog_11_method_61_code
def yX9_isFigure : MethodName := ⟨RX9, "isFigure", "(I)Z"⟩
abbrev cX9_lookAt : ByteArray := prog_11_method_62_code
def yX9_lookAt : MethodName := ⟨RX9, "lookAt", "(I)V"⟩
abbrev cX9_goBehind : ByteArray := prog_11_method_63_code
def yX9_goBehind : MethodName := ⟨RX9, "goBehind", "()V"⟩
abbrev cX9_spells : ByteArray := prog_11_method_64_code
def yX9_spells : MethodName := ⟨RX9, "spells", "(IIIIIII)Z"⟩
abbrev cX9_takes : ByteArray := prog_11_method_65_code
def yX9_takes : MethodName := ⟨RX9, "takes", "(III)Z"⟩
abbrev cX9_takesBus : ByteArray := prog_11_method_66_code
def yX9_takesBus : MethodName := ⟨RX9, "takesBus", "()Z"⟩
abbrev cX9_takesBridge : ByteArray := prog_11_method_67_code
def yX9_takesBridge : MethodName := ⟨RX9, "takesBridge", "()Z"⟩
abbrev cX9_takesIdea : ByteArray := prog_11_method_68_code
def yX9_takesIdea : MethodName := ⟨RX9, "takesIdea", "()Z"⟩
abbrev cX9_takesQuarrel : ByteArray := prog_11_method_69_code
def yX9_takesQuarrel : MethodName := ⟨RX9, "takesQuarrel", "()Z"⟩
abbrev cX9_takesItem : ByteArray := prog_11_method_70_code
def yX9_takesItem : MethodName := ⟨RX9, "takesItem", "()Z"⟩
abbrev cX9_isQuarrel : ByteArray := prog_11_method_71_code
def yX9_isQuarrel : MethodName := ⟨RX9, "isQuarrel", "()Z"⟩
abbrev cX9_read : ByteArray := prog_11_method_72_code
def yX9_read : MethodName := ⟨RX9, "read", "()I"⟩
abbrev cX9_part : ByteArray := prog_11_method_73_code
def yX9_part : MethodName := ⟨RX9, "part", "(I)J"⟩
abbrev cX9_image : ByteArray := prog_11_method_74_code
def yX9_image : MethodName := ⟨RX9, "image", "(I)I"⟩
abbrev cX9_from : ByteArray := prog_11_method_75_code
def yX9_from : MethodName := ⟨RX9, "from", "(I)I"⟩
abbrev cX9_status : ByteArray := prog_11_method_76_code
def yX9_status : MethodName := ⟨RX9, "status", "(I)I"⟩
abbrev cX9_manyQuarrels : ByteArray := prog_11_method_77_code
def yX9_manyQuarrels : MethodName := ⟨RX9, "manyQuarrels", "()I"⟩
abbrev cX9_manyBridges : ByteArray := prog_11_method_78_code
def yX9_manyBridges : MethodName := ⟨RX9, "manyBridges", "()I"⟩
abbrev cX9_counted : ByteArray := prog_11_method_79_code
def yX9_counted : MethodName := ⟨RX9, "counted", "(I)I"⟩
abbrev cX9_count : ByteArray := prog_11_method_80_code
def yX9_count : MethodName := ⟨RX9, "count", "(I)I"⟩
abbrev cX9_sums : ByteArray := prog_11_method_81_code
def yX9_sums : MethodName := ⟨RX9, "sums", "(JII)J"⟩
abbrev cX9_digest : ByteArray := prog_11_method_82_code
def yX9_digest : MethodName := ⟨RX9, "digest", "()J"⟩
def RJ6 : String := "java/lang/Integer"
def TJ6 : u_T := fun k => match k with
  | _ => ("", "", "", false)
def tyJ6 : Nat → FieldType := fun k => match k with
  | _ => .int
abbrev wsJ60 : List Cond := u_ws RJ6 TJ6 0
theorem nmJ6 : ∀ a, a < 0 → ∀ b, b < 0 → a ≠ b → (TJ6 a).2.1 ≠ (TJ6 b).2.1 := by decide +kernel
theorem tyJ6_ok : ∀ k, k < 0 → parseFieldDescriptor (TJ6 k).2.2.1 = some (tyJ6 k) := by decide +kernel
abbrev cJ6_bitCount_0f7a4 : ByteArray := prog_12_method_49_code
def yJ6_bitCount_0f7a4 : MethodName := ⟨RJ6, "bitCount", "(I)I"⟩
def RJ9 : String := "java/lang/Math"
def TJ9 : u_T := fun k => match k with
  | _ => ("", "", "", false)
def tyJ9 : Nat → FieldType := fun k => match k with
  | _ => .int
abbrev wsJ90 : List Cond := u_ws RJ9 TJ9 0
theorem nmJ9 : ∀ a, a < 0 → ∀ b, b < 0 → a ≠ b → (TJ9 a).2.1 ≠ (TJ9 b).2.1 := by decide +kernel
theorem tyJ9_ok : ∀ k, k < 0 → parseFieldDescriptor (TJ9 k).2.2.1 = some (tyJ9 k) := by decide +kernel
abbrev cJ9_max_7cf53 : ByteArray := prog_13_method_65_code
def yJ9_max_7cf53 : MethodName := ⟨RJ9, "max", "(II)I"⟩
abbrev cJ9_min_7cf53 : ByteArray := prog_13_method_69_code
def yJ9_min_7cf53 : MethodName := ⟨RJ9, "min", "(II)I"⟩
def RJ0 : String := "java/lang/String"
def TJ0 : u_T := fun k => match k with
  | _ => ("", "", "", false)
def tyJ0 : Nat → FieldType := fun k => match k with
  | _ => .int
abbrev wsJ00 : List Cond := u_ws RJ0 TJ0 0
theorem nmJ0 : ∀ a, a < 0 → ∀ b, b < 0 → a ≠ b → (TJ0 a).2.1 ≠ (TJ0 b).2.1 := by decide +kernel
theorem tyJ0_ok : ∀ k, k < 0 → parseFieldDescriptor (TJ0 k).2.2.1 = some (tyJ0 k) := by decide +kernel
abbrev cJ0_length_8abf5 : ByteArray := prog_14_method_54_code
def yJ0_length_8abf5 : MethodName := ⟨RJ0, "length", "()I"⟩
abbrev cJ0_charAt_5068e : ByteArray := prog_14_method_56_code
def yJ0_charAt_5068e : MethodName := ⟨RJ0, "charAt", "(I)C"⟩
abbrev cJ0_coder_7d493 : ByteArray := prog_14_method_152_code
def yJ0_coder_7d493 : MethodName := ⟨RJ0, "coder", "()B"⟩
abbrev cJ0_isLatin1_aae02 : ByteArray := prog_14_method_154_code
def yJ0_isLatin1_aae02 : MethodName := ⟨RJ0, "isLatin1", "()Z"⟩
abbrev cJ0_checkIndex_df160 : ByteArray := prog_14_method_155_code
def yJ0_checkIndex_df160 : MethodName := ⟨RJ0, "checkIndex", "(II)V"⟩
def RJ1 : String := "java/lang/StringLatin1"
def TJ1 : u_T := fun k => match k with
  | _ => ("", "", "", false)
def tyJ1 : Nat → FieldType := fun k => match k with
  | _ => .int
abbrev wsJ10 : List Cond := u_ws RJ1 TJ1 0
theorem nmJ1 : ∀ a, a < 0 → ∀ b, b < 0 → a ≠ b → (TJ1 a).2.1 ≠ (TJ1 b).2.1 := by decide +kernel
theorem tyJ1_ok : ∀ k, k < 0 → parseFieldDescriptor (TJ1 k).2.2.1 = some (tyJ1 k) := by decide +kernel
abbrev cJ1_charAt_3b067 : ByteArray := prog_15_method_2_code
def yJ1_charAt_3b067 : MethodName := ⟨RJ1, "charAt", "([BI)C"⟩
def RJ2 : String := "java/lang/StringUTF16"
def TJ2 : u_T := fun k => match k with
  | _ => ("", "", "", false)
def tyJ2 : Nat → FieldType := fun k => match k with
  | _ => .int
abbrev wsJ20 : List Cond := u_ws RJ2 TJ2 0
theorem nmJ2 : ∀ a, a < 0 → ∀ b, b < 0 → a ≠ b → (TJ2 a).2.1 ≠ (TJ2 b).2.1 := by decide +kernel
theorem tyJ2_ok : ∀ k, k < 0 → parseFieldDescriptor (TJ2 k).2.2.1 = some (tyJ2 k) := by decide +kernel
abbrev cJ2_getChar_3b067 : ByteArray := prog_16_method_5_code
def yJ2_getChar_3b067 : MethodName := ⟨RJ2, "getChar", "([BI)C"⟩
abbrev cJ2_length_9d52b : ByteArray := prog_16_method_6_code
def yJ2_length_9d52b : MethodName := ⟨RJ2, "length", "([B)I"⟩
abbrev cJ2_charAt_3b067 : ByteArray := prog_16_method_83_code
def yJ2_charAt_3b067 : MethodName := ⟨RJ2, "charAt", "([BI)C"⟩
abbrev cJ2_checkIndex_2214a : ByteArray := prog_16_method_91_code
def yJ2_checkIndex_2214a : MethodName := ⟨RJ2, "checkIndex", "(I[B)V"⟩
def RJ10 : String := "java/lang/System"
def TJ10 : u_T := fun k => match k with
  | _ => ("", "", "", false)
def tyJ10 : Nat → FieldType := fun k => match k with
  | _ => .int
abbrev wsJ100 : List Cond := u_ws RJ10 TJ10 0
theorem nmJ10 : ∀ a, a < 0 → ∀ b, b < 0 → a ≠ b → (TJ10 a).2.1 ≠ (TJ10 b).2.1 := by decide +kernel
theorem tyJ10_ok : ∀ k, k < 0 → parseFieldDescriptor (TJ10 k).2.2.1 = some (tyJ10 k) := by decide +kernel
def RJ3 : String := "jdk/internal/util/Preconditions"
def TJ3 : u_T := fun k => match k with
  | _ => ("", "", "", false)
def tyJ3 : Nat → FieldType := fun k => match k with
  | _ => .int
abbrev wsJ30 : List Cond := u_ws RJ3 TJ3 0
theorem nmJ3 : ∀ a, a < 0 → ∀ b, b < 0 → a ≠ b → (TJ3 a).2.1 ≠ (TJ3 b).2.1 := by decide +kernel
theorem tyJ3_ok : ∀ k, k < 0 → parseFieldDescriptor (TJ3 k).2.2.1 = some (tyJ3 k) := by decide +kernel
abbrev cJ3_checkIndex_8e157 : ByteArray := prog_18_method_11_code
def yJ3_checkIndex_8e157 : MethodName := ⟨RJ3, "checkIndex", "(IILjava/util/function/BiFunction;)I"⟩
def RL : String := "IdeasDeckLaw"
abbrev cL_law : ByteArray := code
def yL_law : MethodName := ⟨RL, "law", "([I)Z"⟩
abbrev vwCl : List vw_C := [(RX0, TX0, 16), (RX1, TX1, 1), (RX2, TX2, 2), (RX3, TX3, 3), (RX4, TX4, 8), (RX5, TX5, 5), (RX6, TX6, 3), (RX7, TX7, 4), (RX8, TX8, 12), (RX9, TX9, 18)]
end
section
theorem dX0_init_0 : decode cX0_init 0 = .ok (.aload_n 0, 1) := by decide +kernel
theorem dX0_init_1 : decode cX0_init 1 = .ok (.invokespecial 3, 3) := by decide +kernel
theorem dX0_init_4 : decode cX0_init 4 = .ok (.aload_n 0, 1) := by decide +kernel
theorem dX0_init_5 : decode cX0_init 5 = .ok (.iconst 4, 1) := by decide +kernel
theorem dX0_init_6 : decode cX0_init 6 = .ok (.putfield 9, 3) := by decide +kernel
theorem dX0_init_9 : decode cX0_init 9 = .ok (.aload_n 0, 1) := by decide +kernel
theorem dX0_init_10 : decode cX0_init 10 = .ok (.bipush 10, 2) := by decide +kernel
theorem dX0_init_12 : decode cX0_init 12 = .ok (.newarray .int, 2) := by decide +kernel
theorem dX0_init_14 : decode cX0_init 14 = .ok (.putfield 15, 3) := by decide +kernel
theorem dX0_init_17 : decode cX0_init 17 = .ok (.aload_n 0, 1) := by decide +kernel
theorem dX0_init_18 : decode cX0_init 18 = .ok (.bipush 7, 2) := by decide +kernel
theorem dX0_init_20 : decode cX0_init 20 = .ok (.newarray .int, 2) := by decide +kernel
theorem dX0_init_22 : decode cX0_init 22 = .ok (.putfield 19, 3) := by decide +kernel
theorem dX0_init_25 : decode cX0_init 25 = .ok (.aload_n 0, 1) := by decide +kernel
theorem dX0_init_26 : decode cX0_init 26 = .ok (.bipush 7, 2) := by decide +kernel
theorem dX0_init_28 : decode cX0_init 28 = .ok (.newarray .int, 2) := by decide +kernel
theorem dX0_init_30 : decode cX0_init 30 = .ok (.putfield 22, 3) := by decide +kernel
theorem dX0_init_33 : decode cX0_init 33 = .ok (.aload_n 0, 1) := by decide +kernel
theorem dX0_init_34 : decode cX0_init 34 = .ok (.bipush 7, 2) := by decide +kernel
theorem dX0_init_36 : decode cX0_init 36 = .ok (.newarray .int, 2) := by decide +kernel
theorem dX0_init_38 : decode cX0_init 38 = .ok (.putfield 25, 3) := by decide +kernel
theorem dX0_init_41 : decode cX0_init 41 = .ok (.aload_n 0, 1) := by decide +kernel
theorem dX0_init_42 : decode cX0_init 42 = .ok (.bipush 7, 2) := by decide +kernel
theorem dX0_init_44 : decode cX0_init 44 = .ok (.newarray .int, 2) := by decide +kernel
theorem dX0_init_46 : decode cX0_init 46 = .ok (.putfield 28, 3) := by decide +kernel
theorem dX0_init_49 : decode cX0_init 49 = .ok (.aload_n 0, 1) := by decide +kernel
theorem dX0_init_50 : decode cX0_init 50 = .ok (.bipush 7, 2) := by decide +kernel
theorem dX0_init_52 : decode cX0_init 52 = .ok (.newarray .int, 2) := by decide +kernel
theorem dX0_init_54 : decode cX0_init 54 = .ok (.putfield 31, 3) := by decide +kernel
theorem dX0_init_57 : decode cX0_init 57 = .ok (.aload_n 0, 1) := by decide +kernel
theorem dX0_init_58 : decode cX0_init 58 = .ok (.bipush 6, 2) := by decide +kernel
theorem dX0_init_60 : decode cX0_init 60 = .ok (.newarray .int, 2) := by decide +kernel
theorem dX0_init_62 : decode cX0_init 62 = .ok (.putfield 34, 3) := by decide +kernel
theorem dX0_init_65 : decode cX0_init 65 = .ok (.aload_n 0, 1) := by decide +kernel
theorem dX0_init_66 : decode cX0_init 66 = .ok (.bipush 6, 2) := by decide +kernel
theorem dX0_init_68 : decode cX0_init 68 = .ok (.newarray .int, 2) := by decide +kernel
theorem dX0_init_70 : decode cX0_init 70 = .ok (.putfield 37, 3) := by decide +kernel
theorem dX0_init_73 : decode cX0_init 73 = .ok (.aload_n 0, 1) := by decide +kernel
theorem dX0_init_74 : decode cX0_init 74 = .ok (.bipush 6, 2) := by decide +kernel
theorem dX0_init_76 : decode cX0_init 76 = .ok (.newarray .int, 2) := by decide +kernel
theorem dX0_init_78 : decode cX0_init 78 = .ok (.putfield 40, 3) := by decide +kernel
theorem dX0_init_81 : decode cX0_init 81 = .ok (.aload_n 0, 1) := by decide +kernel
theorem dX0_init_82 : decode cX0_init 82 = .ok (.bipush 6, 2) := by decide +kernel
theorem dX0_init_84 : decode cX0_init 84 = .ok (.newarray .int, 2) := by decide +kernel
theorem dX0_init_86 : decode cX0_init 86 = .ok (.putfield 43, 3) := by decide +kernel
theorem dX0_init_89 : decode cX0_init 89 = .ok (.aload_n 0, 1) := by decide +kernel
theorem dX0_init_90 : decode cX0_init 90 = .ok (.new 46, 3) := by decide +kernel
theorem dX0_init_93 : decode cX0_init 93 = .ok (.dup, 1) := by decide +kernel
theorem dX0_init_94 : decode cX0_init 94 = .ok (.invokespecial 48, 3) := by decide +kernel
theorem dX0_init_97 : decode cX0_init 97 = .ok (.putfield 49, 3) := by decide +kernel
theorem dX0_init_100 : decode cX0_init 100 = .ok (.aload_n 0, 1) := by decide +kernel
theorem dX0_init_101 : decode cX0_init 101 = .ok (.bipush 8, 2) := by decide +kernel
theorem dX0_init_103 : decode cX0_init 103 = .ok (.anewarray 46, 3) := by decide +kernel
theorem dX0_init_106 : decode cX0_init 106 = .ok (.putfield 53, 3) := by decide +kernel
theorem dX0_init_109 : decode cX0_init 109 = .ok (.iconst 0, 1) := by decide +kernel
theorem dX0_init_110 : decode cX0_init 110 = .ok (.istore_n 1, 1) := by decide +kernel
theorem dX0_init_111 : decode cX0_init 111 = .ok (.iload_n 1, 1) := by decide +kernel
theorem dX0_init_112 : decode cX0_init 112 = .ok (.bipush 8, 2) := by decide +kernel
theorem dX0_init_114 : decode cX0_init 114 = .ok (.if_icmp .ge 22, 3) := by decide +kernel
theorem dX0_init_117 : decode cX0_init 117 = .ok (.aload_n 0, 1) := by decide +kernel
theorem dX0_init_118 : decode cX0_init 118 = .ok (.getfield 53, 3) := by decide +kernel
theorem dX0_init_121 : decode cX0_init 121 = .ok (.iload_n 1, 1) := by decide +kernel
theorem dX0_init_122 : decode cX0_init 122 = .ok (.new 46, 3) := by decide +kernel
theorem dX0_init_125 : decode cX0_init 125 = .ok (.dup, 1) := by decide +kernel
theorem dX0_init_126 : decode cX0_init 126 = .ok (.invokespecial 48, 3) := by decide +kernel
theorem dX0_init_129 : decode cX0_init 129 = .ok (.aastore, 1) := by decide +kernel
theorem dX0_init_130 : decode cX0_init 130 = .ok (.iinc 1 1, 3) := by decide +kernel
theorem dX0_init_133 : decode cX0_init 133 = .ok (.goto (-22), 3) := by decide +kernel
theorem dX0_init_136 : decode cX0_init 136 = .ok (.return_, 1) := by decide +kernel
theorem dX0_startAnew_0 : decode cX0_startAnew 0 = .ok (.aload_n 0, 1) := by decide +kernel
theorem dX0_startAnew_1 : decode cX0_startAnew 1 = .ok (.iconst 4, 1) := by decide +kernel
theorem dX0_startAnew_2 : decode cX0_startAnew 2 = .ok (.putfield 9, 3) := by decide +kernel
theorem dX0_startAnew_5 : decode cX0_startAnew 5 = .ok (.iconst 0, 1) := by decide +kernel
theorem dX0_startAnew_6 : decode cX0_startAnew 6 = .ok (.istore_n 1, 1) := by decide +kernel
theorem dX0_startAnew_7 : decode cX0_startAnew 7 = .ok (.iload_n 1, 1) := by decide +kernel
theorem dX0_startAnew_8 : decode cX0_startAnew 8 = .ok (.bipush 10, 2) := by decide +kernel
theorem dX0_startAnew_10 : decode cX0_startAnew 10 = .ok (.if_icmp .ge 16, 3) := by decide +kernel
theorem dX0_startAnew_13 : decode cX0_startAnew 13 = .ok (.aload_n 0, 1) := by decide +kernel
theorem dX0_startAnew_14 : decode cX0_startAnew 14 = .ok (.getfield 15, 3) := by decide +kernel
theorem dX0_startAnew_17 : decode cX0_startAnew 17 = .ok (.iload_n 1, 1) := by decide +kernel
theorem dX0_startAnew_18 : decode cX0_startAnew 18 = .ok (.iconst 0, 1) := by decide +kernel
theorem dX0_startAnew_19 : decode cX0_startAnew 19 = .ok (.iastore, 1) := by decide +kernel
theorem dX0_startAnew_20 : decode cX0_startAnew 20 = .ok (.iinc 1 1, 3) := by decide +kernel
theorem dX0_startAnew_23 : decode cX0_startAnew 23 = .ok (.goto (-16), 3) := by decide +kernel
theorem dX0_startAnew_26 : decode cX0_startAnew 26 = .ok (.aload_n 0, 1) := by decide +kernel
theorem dX0_startAnew_27 : decode cX0_startAnew 27 = .ok (.iconst 0, 1) := by decide +kernel
theorem dX0_startAnew_28 : decode cX0_startAnew 28 = .ok (.putfield 57, 3) := by decide +kernel
theorem dX0_startAnew_31 : decode cX0_startAnew 31 = .ok (.aload_n 0, 1) := by decide +kernel
theorem dX0_startAnew_32 : decode cX0_startAnew 32 = .ok (.iconst 0, 1) := by decide +kernel
theorem dX0_startAnew_33 : decode cX0_startAnew 33 = .ok (.putfield 60, 3) := by decide +kernel
theorem dX0_startAnew_36 : decode cX0_startAnew 36 = .ok (.aload_n 0, 1) := by decide +kernel
theorem dX0_startAnew_37 : decode cX0_startAnew 37 = .ok (.getfield 49, 3) := by decide +kernel
theorem dX0_startAnew_40 : decode cX0_startAnew 40 = .ok (.invokevirtual 63, 3) := by decide +kernel
theorem dX0_startAnew_43 : decode cX0_startAnew 43 = .ok (.aload_n 0, 1) := by decide +kernel
theorem dX0_startAnew_44 : decode cX0_startAnew 44 = .ok (.iconst 0, 1) := by decide +kernel
theorem dX0_startAnew_45 : decode cX0_startAnew 45 = .ok (.putfield 66, 3) := by decide +kernel
theorem dX0_startAnew_48 : decode cX0_startAnew 48 = .ok (.return_, 1) := by decide +kernel
theorem dX0_take_0 : decode cX0_take 0 = .ok (.aload_n 0, 1) := by decide +kernel
theorem dX0_take_1 : decode cX0_take 1 = .ok (.aload_n 1, 1) := by decide +kernel
theorem dX0_take_2 : decode cX0_take 2 = .ok (.getfield 9, 3) := by decide +kernel
theorem dX0_take_5 : decode cX0_take 5 = .ok (.putfield 9, 3) := by decide +kernel
theorem dX0_take_8 : decode cX0_take 8 = .ok (.aload_n 1, 1) := by decide +kernel
theorem dX0_take_9 : decode cX0_take 9 = .ok (.getfield 15, 3) := by decide +kernel
theorem dX0_take_12 : decode cX0_take 12 = .ok (.iconst 0, 1) := by decide +kernel
theorem dX0_take_13 : decode cX0_take 13 = .ok (.aload_n 0, 1) := by decide +kernel
theorem dX0_take_14 : decode cX0_take 14 = .ok (.getfield 15, 3) := by decide +kernel
theorem dX0_take_17 : decode cX0_take 17 = .ok (.iconst 0, 1) := by decide +kernel
theorem dX0_take_18 : decode cX0_take 18 = .ok (.bipush 10, 2) := by decide +kernel
theorem dX0_take_20 : decode cX0_take 20 = .ok (.invokestatic 69, 3) := by decide +kernel
theorem dX0_take_23 : decode cX0_take 23 = .ok (.aload_n 0, 1) := by decide +kernel
theorem dX0_take_24 : decode cX0_take 24 = .ok (.aload_n 1, 1) := by decide +kernel
theorem dX0_take_25 : decode cX0_take 25 = .ok (.getfield 57, 3) := by decide +kernel
theorem dX0_take_28 : decode cX0_take 28 = .ok (.putfield 57, 3) := by decide +kernel
theorem dX0_take_31 : decode cX0_take 31 = .ok (.aload_n 1, 1) := by decide +kernel
theorem dX0_take_32 : decode cX0_take 32 = .ok (.getfield 19, 3) := by decide +kernel
theorem dX0_take_35 : decode cX0_take 35 = .ok (.iconst 0, 1) := by decide +kernel
theorem dX0_take_36 : decode cX0_take 36 = .ok (.aload_n 0, 1) := by decide +kernel
theorem dX0_take_37 : decode cX0_take 37 = .ok (.getfield 19, 3) := by decide +kernel
theorem dX0_take_40 : decode cX0_take 40 = .ok (.iconst 0, 1) := by decide +kernel
theorem dX0_take_41 : decode cX0_take 41 = .ok (.bipush 7, 2) := by decide +kernel
theorem dX0_take_43 : decode cX0_take 43 = .ok (.invokestatic 69, 3) := by decide +kernel
theorem dX0_take_46 : decode cX0_take 46 = .ok (.aload_n 1, 1) := by decide +kernel
theorem dX0_take_47 : decode cX0_take 47 = .ok (.getfield 22, 3) := by decide +kernel
theorem dX0_take_50 : decode cX0_take 50 = .ok (.iconst 0, 1) := by decide +kernel
theorem dX0_take_51 : decode cX0_take 51 = .ok (.aload_n 0, 1) := by decide +kernel
theorem dX0_take_52 : decode cX0_take 52 = .ok (.getfield 22, 3) := by decide +kernel
theorem dX0_take_55 : decode cX0_take 55 = .ok (.iconst 0, 1) := by decide +kernel
theorem dX0_take_56 : decode cX0_take 56 = .ok (.bipush 7, 2) := by decide +kernel
theorem dX0_take_58 : decode cX0_take 58 = .ok (.invokestatic 69, 3) := by decide +kernel
theorem dX0_take_61 : decode cX0_take 61 = .ok (.aload_n 1, 1) := by decide +kernel
theorem dX0_take_62 : decode cX0_take 62 = .ok (.getfield 25, 3) := by decide +kernel
theorem dX0_take_65 : decode cX0_take 65 = .ok (.iconst 0, 1) := by decide +kernel
theorem dX0_take_66 : decode cX0_take 66 = .ok (.aload_n 0, 1) := by decide +kernel
theorem dX0_take_67 : decode cX0_take 67 = .ok (.getfield 25, 3) := by decide +kernel
theorem dX0_take_70 : decode cX0_take 70 = .ok (.iconst 0, 1) := by decide +kernel
theorem dX0_take_71 : decode cX0_take 71 = .ok (.bipush 7, 2) := by decide +kernel
theorem dX0_take_73 : decode cX0_take 73 = .ok (.invokestatic 69, 3) := by decide +kernel
theorem dX0_take_76 : decode cX0_take 76 = .ok (.aload_n 1, 1) := by decide +kernel
theorem dX0_take_77 : decode cX0_take 77 = .ok (.getfield 28, 3) := by decide +kernel
theorem dX0_take_80 : decode cX0_take 80 = .ok (.iconst 0, 1) := by decide +kernel
theorem dX0_take_81 : decode cX0_take 81 = .ok (.aload_n 0, 1) := by decide +kernel
theorem dX0_take_82 : decode cX0_take 82 = .ok (.getfield 28, 3) := by decide +kernel
theorem dX0_take_85 : decode cX0_take 85 = .ok (.iconst 0, 1) := by decide +kernel
theorem dX0_take_86 : decode cX0_take 86 = .ok (.bipush 7, 2) := by decide +kernel
theorem dX0_take_88 : decode cX0_take 88 = .ok (.invokestatic 69, 3) := by decide +kernel
theorem dX0_take_91 : decode cX0_take 91 = .ok (.aload_n 1, 1) := by decide +kernel
theorem dX0_take_92 : decode cX0_take 92 = .ok (.getfield 31, 3) := by decide +kernel
theorem dX0_take_95 : decode cX0_take 95 = .ok (.iconst 0, 1) := by decide +kernel
theorem dX0_take_96 : decode cX0_take 96 = .ok (.aload_n 0, 1) := by decide +kernel
theorem dX0_take_97 : decode cX0_take 97 = .ok (.getfield 31, 3) := by decide +kernel
theorem dX0_take_100 : decode cX0_take 100 = .ok (.iconst 0, 1) := by decide +kernel
theorem dX0_take_101 : decode cX0_take 101 = .ok (.bipush 7, 2) := by decide +kernel
theorem dX0_take_103 : decode cX0_take 103 = .ok (.invokestatic 69, 3) := by decide +kernel
theorem dX0_take_106 : decode cX0_take 106 = .ok (.aload_n 0, 1) := by decide +kernel
theorem dX0_take_107 : decode cX0_take 107 = .ok (.aload_n 1, 1) := by decide +kernel
theorem dX0_take_108 : decode cX0_take 108 = .ok (.getfield 60, 3) := by decide +kernel
theorem dX0_take_111 : decode cX0_take 111 = .ok (.putfield 60, 3) := by decide +kernel
theorem dX0_take_114 : decode cX0_take 114 = .ok (.aload_n 1, 1) := by decide +kernel
theorem dX0_take_115 : decode cX0_take 115 = .ok (.getfield 34, 3) := by decide +kernel
theorem dX0_take_118 : decode cX0_take 118 = .ok (.iconst 0, 1) := by decide +kernel
theorem dX0_take_119 : decode cX0_take 119 = .ok (.aload_n 0, 1) := by decide +kernel
theorem dX0_take_120 : decode cX0_take 120 = .ok (.getfield 34, 3) := by decide +kernel
theorem dX0_take_123 : decode cX0_take 123 = .ok (.iconst 0, 1) := by decide +kernel
theorem dX0_take_124 : decode cX0_take 124 = .ok (.bipush 6, 2) := by decide +kernel
theorem dX0_take_126 : decode cX0_take 126 = .ok (.invokestatic 69, 3) := by decide +kernel
theorem dX0_take_129 : decode cX0_take 129 = .ok (.aload_n 1, 1) := by decide +kernel
theorem dX0_take_130 : decode cX0_take 130 = .ok (.getfield 37, 3) := by decide +kernel
theorem dX0_take_133 : decode cX0_take 133 = .ok (.iconst 0, 1) := by decide +kernel
theorem dX0_take_134 : decode cX0_take 134 = .ok (.aload_n 0, 1) := by decide +kernel
theorem dX0_take_135 : decode cX0_take 135 = .ok (.getfield 37, 3) := by decide +kernel
theorem dX0_take_138 : decode cX0_take 138 = .ok (.iconst 0, 1) := by decide +kernel
theorem dX0_take_139 : decode cX0_take 139 = .ok (.bipush 6, 2) := by decide +kernel
theorem dX0_take_141 : decode cX0_take 141 = .ok (.invokestatic 69, 3) := by decide +kernel
theorem dX0_take_144 : decode cX0_take 144 = .ok (.aload_n 1, 1) := by decide +kernel
theorem dX0_take_145 : decode cX0_take 145 = .ok (.getfield 40, 3) := by decide +kernel
theorem dX0_take_148 : decode cX0_take 148 = .ok (.iconst 0, 1) := by decide +kernel
theorem dX0_take_149 : decode cX0_take 149 = .ok (.aload_n 0, 1) := by decide +kernel
theorem dX0_take_150 : decode cX0_take 150 = .ok (.getfield 40, 3) := by decide +kernel
theorem dX0_take_153 : decode cX0_take 153 = .ok (.iconst 0, 1) := by decide +kernel
theorem dX0_take_154 : decode cX0_take 154 = .ok (.bipush 6, 2) := by decide +kernel
theorem dX0_take_156 : decode cX0_take 156 = .ok (.invokestatic 69, 3) := by decide +kernel
theorem dX0_take_159 : decode cX0_take 159 = .ok (.aload_n 1, 1) := by decide +kernel
theorem dX0_take_160 : decode cX0_take 160 = .ok (.getfield 43, 3) := by decide +kernel
theorem dX0_take_163 : decode cX0_take 163 = .ok (.iconst 0, 1) := by decide +kernel
theorem dX0_take_164 : decode cX0_take 164 = .ok (.aload_n 0, 1) := by decide +kernel
theorem dX0_take_165 : decode cX0_take 165 = .ok (.getfield 43, 3) := by decide +kernel
theorem dX0_take_168 : decode cX0_take 168 = .ok (.iconst 0, 1) := by decide +kernel
theorem dX0_take_169 : decode cX0_take 169 = .ok (.bipush 6, 2) := by decide +kernel
theorem dX0_take_171 : decode cX0_take 171 = .ok (.invokestatic 69, 3) := by decide +kernel
theorem dX0_take_174 : decode cX0_take 174 = .ok (.aload_n 0, 1) := by decide +kernel
theorem dX0_take_175 : decode cX0_take 175 = .ok (.getfield 49, 3) := by decide +kernel
theorem dX0_take_178 : decode cX0_take 178 = .ok (.aload_n 1, 1) := by decide +kernel
theorem dX0_take_179 : decode cX0_take 179 = .ok (.getfield 49, 3) := by decide +kernel
theorem dX0_take_182 : decode cX0_take 182 = .ok (.invokevirtual 75, 3) := by decide +kernel
theorem dX0_take_185 : decode cX0_take 185 = .ok (.aload_n 0, 1) := by decide +kernel
theorem dX0_take_186 : decode cX0_take 186 = .ok (.aload_n 1, 1) := by decide +kernel
theorem dX0_take_187 : decode cX0_take 187 = .ok (.getfield 66, 3) := by decide +kernel
theorem dX0_take_190 : decode cX0_take 190 = .ok (.putfield 66, 3) := by decide +kernel
theorem dX0_take_193 : decode cX0_take 193 = .ok (.iconst 0, 1) := by decide +kernel
theorem dX0_take_194 : decode cX0_take 194 = .ok (.istore_n 2, 1) := by decide +kernel
theorem dX0_take_195 : decode cX0_take 195 = .ok (.iload_n 2, 1) := by decide +kernel
theorem dX0_take_196 : decode cX0_take 196 = .ok (.bipush 8, 2) := by decide +kernel
theorem dX0_take_198 : decode cX0_take 198 = .ok (.if_icmp .ge 24, 3) := by decide +kernel
theorem dX0_take_201 : decode cX0_take 201 = .ok (.aload_n 0, 1) := by decide +kernel
theorem dX0_take_202 : decode cX0_take 202 = .ok (.getfield 53, 3) := by decide +kernel
theorem dX0_take_205 : decode cX0_take 205 = .ok (.iload_n 2, 1) := by decide +kernel
theorem dX0_take_206 : decode cX0_take 206 = .ok (.aaload, 1) := by decide +kernel
theorem dX0_take_207 : decode cX0_take 207 = .ok (.aload_n 1, 1) := by decide +kernel
theorem dX0_take_208 : decode cX0_take 208 = .ok (.getfield 53, 3) := by decide +kernel
theorem dX0_take_211 : decode cX0_take 211 = .ok (.iload_n 2, 1) := by decide +kernel
theorem dX0_take_212 : decode cX0_take 212 = .ok (.aaload, 1) := by decide +kernel
theorem dX0_take_213 : decode cX0_take 213 = .ok (.invokevirtual 75, 3) := by decide +kernel
theorem dX0_take_216 : decode cX0_take 216 = .ok (.iinc 2 1, 3) := by decide +kernel
theorem dX0_take_219 : decode cX0_take 219 = .ok (.goto (-24), 3) := by decide +kernel
theorem dX0_take_222 : decode cX0_take 222 = .ok (.return_, 1) := by decide +kernel
theorem dX0_has_0 : decode cX0_has 0 = .ok (.iload_n 1, 1) := by decide +kernel
theorem dX0_has_1 : decode cX0_has 1 = .ok (.iconst 0, 1) := by decide +kernel
theorem dX0_has_2 : decode cX0_has 2 = .ok (.aload_n 0, 1) := by decide +kernel
theorem dX0_has_3 : decode cX0_has 3 = .ok (.getfield 57, 3) := by decide +kernel
theorem dX0_has_6 : decode cX0_has 6 = .ok (.iconst 1, 1) := by decide +kernel
theorem dX0_has_7 : decode cX0_has 7 = .ok (.isub, 1) := by decide +kernel
theorem dX0_has_8 : decode cX0_has 8 = .ok (.invokestatic 79, 3) := by decide +kernel
theorem dX0_has_11 : decode cX0_has 11 = .ok (.ireturn, 1) := by decide +kernel
theorem dX0_hasTwo_0 : decode cX0_hasTwo 0 = .ok (.aload_n 0, 1) := by decide +kernel
theorem dX0_hasTwo_1 : decode cX0_hasTwo 1 = .ok (.iload_n 1, 1) := by decide +kernel
theorem dX0_hasTwo_2 : decode cX0_hasTwo 2 = .ok (.invokevirtual 83, 3) := by decide +kernel
theorem dX0_hasTwo_5 : decode cX0_hasTwo 5 = .ok (.ifCond .eq 20, 3) := by decide +kernel
theorem dX0_hasTwo_8 : decode cX0_hasTwo 8 = .ok (.aload_n 0, 1) := by decide +kernel
theorem dX0_hasTwo_9 : decode cX0_hasTwo 9 = .ok (.iload_n 2, 1) := by decide +kernel
theorem dX0_hasTwo_10 : decode cX0_hasTwo 10 = .ok (.invokevirtual 83, 3) := by decide +kernel
theorem dX0_hasTwo_13 : decode cX0_hasTwo 13 = .ok (.ifCond .eq 12, 3) := by decide +kernel
theorem dX0_hasTwo_16 : decode cX0_hasTwo 16 = .ok (.iload_n 1, 1) := by decide +kernel
theorem dX0_hasTwo_17 : decode cX0_hasTwo 17 = .ok (.iload_n 2, 1) := by decide +kernel
theorem dX0_hasTwo_18 : decode cX0_hasTwo 18 = .ok (.if_icmp .eq 7, 3) := by decide +kernel
theorem dX0_hasTwo_21 : decode cX0_hasTwo 21 = .ok (.iconst 1, 1) := by decide +kernel
theorem dX0_hasTwo_22 : decode cX0_hasTwo 22 = .ok (.goto 4, 3) := by decide +kernel
theorem dX0_hasTwo_25 : decode cX0_hasTwo 25 = .ok (.iconst 0, 1) := by decide +kernel
theorem dX0_hasTwo_26 : decode cX0_hasTwo 26 = .ok (.ireturn, 1) := by decide +kernel
theorem dX0_addIdea_0 : decode cX0_addIdea 0 = .ok (.aload_n 0, 1) := by decide +kernel
theorem dX0_addIdea_1 : decode cX0_addIdea 1 = .ok (.getfield 57, 3) := by decide +kernel
theorem dX0_addIdea_4 : decode cX0_addIdea 4 = .ok (.bipush 7, 2) := by decide +kernel
theorem dX0_addIdea_6 : decode cX0_addIdea 6 = .ok (.if_icmp .lt 4, 3) := by decide +kernel
theorem dX0_addIdea_9 : decode cX0_addIdea 9 = .ok (.return_, 1) := by decide +kernel
theorem dX0_addIdea_10 : decode cX0_addIdea 10 = .ok (.aload_n 0, 1) := by decide +kernel
theorem dX0_addIdea_11 : decode cX0_addIdea 11 = .ok (.getfield 19, 3) := by decide +kernel
theorem dX0_addIdea_14 : decode cX0_addIdea 14 = .ok (.aload_n 0, 1) := by decide +kernel
theorem dX0_addIdea_15 : decode cX0_addIdea 15 = .ok (.getfield 57, 3) := by decide +kernel
theorem dX0_addIdea_18 : decode cX0_addIdea 18 = .ok (.iload_n 1, 1) := by decide +kernel
theorem dX0_addIdea_19 : decode cX0_addIdea 19 = .ok (.iastore, 1) := by decide +kernel
theorem dX0_addIdea_20 : decode cX0_addIdea 20 = .ok (.aload_n 0, 1) := by decide +kernel
theorem dX0_addIdea_21 : decode cX0_addIdea 21 = .ok (.getfield 22, 3) := by decide +kernel
theorem dX0_addIdea_24 : decode cX0_addIdea 24 = .ok (.aload_n 0, 1) := by decide +kernel
theorem dX0_addIdea_25 : decode cX0_addIdea 25 = .ok (.getfield 57, 3) := by decide +kernel
theorem dX0_addIdea_28 : decode cX0_addIdea 28 = .ok (.iload_n 2, 1) := by decide +kernel
theorem dX0_addIdea_29 : decode cX0_addIdea 29 = .ok (.iastore, 1) := by decide +kernel
theorem dX0_addIdea_30 : decode cX0_addIdea 30 = .ok (.aload_n 0, 1) := by decide +kernel
theorem dX0_addIdea_31 : decode cX0_addIdea 31 = .ok (.getfield 25, 3) := by decide +kernel
theorem dX0_addIdea_34 : decode cX0_addIdea 34 = .ok (.aload_n 0, 1) := by decide +kernel
theorem dX0_addIdea_35 : decode cX0_addIdea 35 = .ok (.getfield 57, 3) := by decide +kernel
theorem dX0_addIdea_38 : decode cX0_addIdea 38 = .ok (.iload_n 3, 1) := by decide +kernel
theorem dX0_addIdea_39 : decode cX0_addIdea 39 = .ok (.iastore, 1) := by decide +kernel
theorem dX0_addIdea_40 : decode cX0_addIdea 40 = .ok (.aload_n 0, 1) := by decide +kernel
theorem dX0_addIdea_41 : decode cX0_addIdea 41 = .ok (.getfield 28, 3) := by decide +kernel
theorem dX0_addIdea_44 : decode cX0_addIdea 44 = .ok (.aload_n 0, 1) := by decide +kernel
theorem dX0_addIdea_45 : decode cX0_addIdea 45 = .ok (.getfield 57, 3) := by decide +kernel
theorem dX0_addIdea_48 : decode cX0_addIdea 48 = .ok (.iload 4, 2) := by decide +kernel
theorem dX0_addIdea_50 : decode cX0_addIdea 50 = .ok (.iastore, 1) := by decide +kernel
theorem dX0_addIdea_51 : decode cX0_addIdea 51 = .ok (.aload_n 0, 1) := by decide +kernel
theorem dX0_addIdea_52 : decode cX0_addIdea 52 = .ok (.getfield 31, 3) := by decide +kernel
theorem dX0_addIdea_55 : decode cX0_addIdea 55 = .ok (.aload_n 0, 1) := by decide +kernel
theorem dX0_addIdea_56 : decode cX0_addIdea 56 = .ok (.getfield 57, 3) := by decide +kernel
theorem dX0_addIdea_59 : decode cX0_addIdea 59 = .ok (.iconst 0, 1) := by decide +kernel
theorem dX0_addIdea_60 : decode cX0_addIdea 60 = .ok (.iastore, 1) := by decide +kernel
theorem dX0_addIdea_61 : decode cX0_addIdea 61 = .ok (.aload_n 0, 1) := by decide +kernel
theorem dX0_addIdea_62 : decode cX0_addIdea 62 = .ok (.dup, 1) := by decide +kernel
theorem dX0_addIdea_63 : decode cX0_addIdea 63 = .ok (.getfield 57, 3) := by decide +kernel
theorem dX0_addIdea_66 : decode cX0_addIdea 66 = .ok (.iconst 1, 1) := by decide +kernel
theorem dX0_addIdea_67 : decode cX0_addIdea 67 = .ok (.iadd, 1) := by decide +kernel
theorem dX0_addIdea_68 : decode cX0_addIdea 68 = .ok (.putfield 57, 3) := by decide +kernel
theorem dX0_addIdea_71 : decode cX0_addIdea 71 = .ok (.return_, 1) := by decide +kernel
theorem dX0_setQuarrel_0 : decode cX0_setQuarrel 0 = .ok (.aload_n 0, 1) := by decide +kernel
theorem dX0_setQuarrel_1 : decode cX0_setQuarrel 1 = .ok (.iload_n 1, 1) := by decide +kernel
theorem dX0_setQuarrel_2 : decode cX0_setQuarrel 2 = .ok (.iload_n 2, 1) := by decide +kernel
theorem dX0_setQuarrel_3 : decode cX0_setQuarrel 3 = .ok (.invokevirtual 87, 3) := by decide +kernel
theorem dX0_setQuarrel_6 : decode cX0_setQuarrel 6 = .ok (.ifCond .ne 4, 3) := by decide +kernel
theorem dX0_setQuarrel_9 : decode cX0_setQuarrel 9 = .ok (.return_, 1) := by decide +kernel
theorem dX0_setQuarrel_10 : decode cX0_setQuarrel 10 = .ok (.aload_n 0, 1) := by decide +kernel
theorem dX0_setQuarrel_11 : decode cX0_setQuarrel 11 = .ok (.getfield 31, 3) := by decide +kernel
theorem dX0_setQuarrel_14 : decode cX0_setQuarrel 14 = .ok (.iload_n 1, 1) := by decide +kernel
theorem dX0_setQuarrel_15 : decode cX0_setQuarrel 15 = .ok (.iload_n 3, 1) := by decide +kernel
theorem dX0_setQuarrel_16 : decode cX0_setQuarrel 16 = .ok (.ifCond .eq 16, 3) := by decide +kernel
theorem dX0_setQuarrel_19 : decode cX0_setQuarrel 19 = .ok (.aload_n 0, 1) := by decide +kernel
theorem dX0_setQuarrel_20 : decode cX0_setQuarrel 20 = .ok (.getfield 31, 3) := by decide +kernel
theorem dX0_setQuarrel_23 : decode cX0_setQuarrel 23 = .ok (.iload_n 1, 1) := by decide +kernel
theorem dX0_setQuarrel_24 : decode cX0_setQuarrel 24 = .ok (.iaload, 1) := by decide +kernel
theorem dX0_setQuarrel_25 : decode cX0_setQuarrel 25 = .ok (.iconst 1, 1) := by decide +kernel
theorem dX0_setQuarrel_26 : decode cX0_setQuarrel 26 = .ok (.iload_n 2, 1) := by decide +kernel
theorem dX0_setQuarrel_27 : decode cX0_setQuarrel 27 = .ok (.ishl, 1) := by decide +kernel
theorem dX0_setQuarrel_28 : decode cX0_setQuarrel 28 = .ok (.ior, 1) := by decide +kernel
theorem dX0_setQuarrel_29 : decode cX0_setQuarrel 29 = .ok (.goto 15, 3) := by decide +kernel
theorem dX0_setQuarrel_32 : decode cX0_setQuarrel 32 = .ok (.aload_n 0, 1) := by decide +kernel
theorem dX0_setQuarrel_33 : decode cX0_setQuarrel 33 = .ok (.getfield 31, 3) := by decide +kernel
theorem dX0_setQuarrel_36 : decode cX0_setQuarrel 36 = .ok (.iload_n 1, 1) := by decide +kernel
theorem dX0_setQuarrel_37 : decode cX0_setQuarrel 37 = .ok (.iaload, 1) := by decide +kernel
theorem dX0_setQuarrel_38 : decode cX0_setQuarrel 38 = .ok (.iconst 1, 1) := by decide +kernel
theorem dX0_setQuarrel_39 : decode cX0_setQuarrel 39 = .ok (.iload_n 2, 1) := by decide +kernel
theorem dX0_setQuarrel_40 : decode cX0_setQuarrel 40 = .ok (.ishl, 1) := by decide +kernel
theorem dX0_setQuarrel_41 : decode cX0_setQuarrel 41 = .ok (.iconst (-1), 1) := by decide +kernel
theorem dX0_setQuarrel_42 : decode cX0_setQuarrel 42 = .ok (.ixor, 1) := by decide +kernel
theorem dX0_setQuarrel_43 : decode cX0_setQuarrel 43 = .ok (.iand, 1) := by decide +kernel
theorem dX0_setQuarrel_44 : decode cX0_setQuarrel 44 = .ok (.iastore, 1) := by decide +kernel
theorem dX0_setQuarrel_45 : decode cX0_setQuarrel 45 = .ok (.aload_n 0, 1) := by decide +kernel
theorem dX0_setQuarrel_46 : decode cX0_setQuarrel 46 = .ok (.getfield 31, 3) := by decide +kernel
theorem dX0_setQuarrel_49 : decode cX0_setQuarrel 49 = .ok (.iload_n 2, 1) := by decide +kernel
theorem dX0_setQuarrel_50 : decode cX0_setQuarrel 50 = .ok (.iload_n 3, 1) := by decide +kernel
theorem dX0_setQuarrel_51 : decode cX0_setQuarrel 51 = .ok (.ifCond .eq 16, 3) := by decide +kernel
theorem dX0_setQuarrel_54 : decode cX0_setQuarrel 54 = .ok (.aload_n 0, 1) := by decide +kernel
theorem dX0_setQuarrel_55 : decode cX0_setQuarrel 55 = .ok (.getfield 31, 3) := by decide +kernel
theorem dX0_setQuarrel_58 : decode cX0_setQuarrel 58 = .ok (.iload_n 2, 1) := by decide +kernel
theorem dX0_setQuarrel_59 : decode cX0_setQuarrel 59 = .ok (.iaload, 1) := by decide +kernel
theorem dX0_setQuarrel_60 : decode cX0_setQuarrel 60 = .ok (.iconst 1, 1) := by decide +kernel
theorem dX0_setQuarrel_61 : decode cX0_setQuarrel 61 = .ok (.iload_n 1, 1) := by decide +kernel
theorem dX0_setQuarrel_62 : decode cX0_setQuarrel 62 = .ok (.ishl, 1) := by decide +kernel
theorem dX0_setQuarrel_63 : decode cX0_setQuarrel 63 = .ok (.ior, 1) := by decide +kernel
theorem dX0_setQuarrel_64 : decode cX0_setQuarrel 64 = .ok (.goto 15, 3) := by decide +kernel
theorem dX0_setQuarrel_67 : decode cX0_setQuarrel 67 = .ok (.aload_n 0, 1) := by decide +kernel
theorem dX0_setQuarrel_68 : decode cX0_setQuarrel 68 = .ok (.getfield 31, 3) := by decide +kernel
theorem dX0_setQuarrel_71 : decode cX0_setQuarrel 71 = .ok (.iload_n 2, 1) := by decide +kernel
theorem dX0_setQuarrel_72 : decode cX0_setQuarrel 72 = .ok (.iaload, 1) := by decide +kernel
theorem dX0_setQuarrel_73 : decode cX0_setQuarrel 73 = .ok (.iconst 1, 1) := by decide +kernel
theorem dX0_setQuarrel_74 : decode cX0_setQuarrel 74 = .ok (.iload_n 1, 1) := by decide +kernel
theorem dX0_setQuarrel_75 : decode cX0_setQuarrel 75 = .ok (.ishl, 1) := by decide +kernel
theorem dX0_setQuarrel_76 : decode cX0_setQuarrel 76 = .ok (.iconst (-1), 1) := by decide +kernel
theorem dX0_setQuarrel_77 : decode cX0_setQuarrel 77 = .ok (.ixor, 1) := by decide +kernel
theorem dX0_setQuarrel_78 : decode cX0_setQuarrel 78 = .ok (.iand, 1) := by decide +kernel
theorem dX0_setQuarrel_79 : decode cX0_setQuarrel 79 = .ok (.iastore, 1) := by decide +kernel
theorem dX0_setQuarrel_80 : decode cX0_setQuarrel 80 = .ok (.return_, 1) := by decide +kernel
theorem dX0_addNote_0 : decode cX0_addNote 0 = .ok (.aload_n 0, 1) := by decide +kernel
theorem dX0_addNote_1 : decode cX0_addNote 1 = .ok (.getfield 60, 3) := by decide +kernel
theorem dX0_addNote_4 : decode cX0_addNote 4 = .ok (.bipush 6, 2) := by decide +kernel
theorem dX0_addNote_6 : decode cX0_addNote 6 = .ok (.if_icmp .lt 4, 3) := by decide +kernel
theorem dX0_addNote_9 : decode cX0_addNote 9 = .ok (.return_, 1) := by decide +kernel
theorem dX0_addNote_10 : decode cX0_addNote 10 = .ok (.aload_n 0, 1) := by decide +kernel
theorem dX0_addNote_11 : decode cX0_addNote 11 = .ok (.getfield 34, 3) := by decide +kernel
theorem dX0_addNote_14 : decode cX0_addNote 14 = .ok (.aload_n 0, 1) := by decide +kernel
theorem dX0_addNote_15 : decode cX0_addNote 15 = .ok (.getfield 60, 3) := by decide +kernel
theorem dX0_addNote_18 : decode cX0_addNote 18 = .ok (.iload_n 1, 1) := by decide +kernel
theorem dX0_addNote_19 : decode cX0_addNote 19 = .ok (.iastore, 1) := by decide +kernel
theorem dX0_addNote_20 : decode cX0_addNote 20 = .ok (.aload_n 0, 1) := by decide +kernel
theorem dX0_addNote_21 : decode cX0_addNote 21 = .ok (.getfield 37, 3) := by decide +kernel
theorem dX0_addNote_24 : decode cX0_addNote 24 = .ok (.aload_n 0, 1) := by decide +kernel
theorem dX0_addNote_25 : decode cX0_addNote 25 = .ok (.getfield 60, 3) := by decide +kernel
theorem dX0_addNote_28 : decode cX0_addNote 28 = .ok (.iload_n 2, 1) := by decide +kernel
theorem dX0_addNote_29 : decode cX0_addNote 29 = .ok (.iastore, 1) := by decide +kernel
theorem dX0_addNote_30 : decode cX0_addNote 30 = .ok (.aload_n 0, 1) := by decide +kernel
theorem dX0_addNote_31 : decode cX0_addNote 31 = .ok (.getfield 40, 3) := by decide +kernel
theorem dX0_addNote_34 : decode cX0_addNote 34 = .ok (.aload_n 0, 1) := by decide +kernel
theorem dX0_addNote_35 : decode cX0_addNote 35 = .ok (.getfield 60, 3) := by decide +kernel
theorem dX0_addNote_38 : decode cX0_addNote 38 = .ok (.iload_n 3, 1) := by decide +kernel
theorem dX0_addNote_39 : decode cX0_addNote 39 = .ok (.iastore, 1) := by decide +kernel
theorem dX0_addNote_40 : decode cX0_addNote 40 = .ok (.aload_n 0, 1) := by decide +kernel
theorem dX0_addNote_41 : decode cX0_addNote 41 = .ok (.getfield 43, 3) := by decide +kernel
theorem dX0_addNote_44 : decode cX0_addNote 44 = .ok (.aload_n 0, 1) := by decide +kernel
theorem dX0_addNote_45 : decode cX0_addNote 45 = .ok (.getfield 60, 3) := by decide +kernel
theorem dX0_addNote_48 : decode cX0_addNote 48 = .ok (.iload 4, 2) := by decide +kernel
theorem dX0_addNote_50 : decode cX0_addNote 50 = .ok (.iastore, 1) := by decide +kernel
theorem dX0_addNote_51 : decode cX0_addNote 51 = .ok (.aload_n 0, 1) := by decide +kernel
theorem dX0_addNote_52 : decode cX0_addNote 52 = .ok (.dup, 1) := by decide +kernel
theorem dX0_addNote_53 : decode cX0_addNote 53 = .ok (.getfield 60, 3) := by decide +kernel
theorem dX0_addNote_56 : decode cX0_addNote 56 = .ok (.iconst 1, 1) := by decide +kernel
theorem dX0_addNote_57 : decode cX0_addNote 57 = .ok (.iadd, 1) := by decide +kernel
theorem dX0_addNote_58 : decode cX0_addNote 58 = .ok (.putfield 60, 3) := by decide +kernel
theorem dX0_addNote_61 : decode cX0_addNote 61 = .ok (.return_, 1) := by decide +kernel
theorem dX0_remember_0 : decode cX0_remember 0 = .ok (.aload_n 0, 1) := by decide +kernel
theorem dX0_remember_1 : decode cX0_remember 1 = .ok (.getfield 66, 3) := by decide +kernel
theorem dX0_remember_4 : decode cX0_remember 4 = .ok (.bipush 8, 2) := by decide +kernel
theorem dX0_remember_6 : decode cX0_remember 6 = .ok (.if_icmp .lt 52, 3) := by decide +kernel
theorem dX0_remember_9 : decode cX0_remember 9 = .ok (.aload_n 0, 1) := by decide +kernel
theorem dX0_remember_10 : decode cX0_remember 10 = .ok (.getfield 53, 3) := by decide +kernel
theorem dX0_remember_13 : decode cX0_remember 13 = .ok (.iconst 0, 1) := by decide +kernel
theorem dX0_remember_14 : decode cX0_remember 14 = .ok (.aaload, 1) := by decide +kernel
theorem dX0_remember_15 : decode cX0_remember 15 = .ok (.astore_n 1, 1) := by decide +kernel
theorem dX0_remember_16 : decode cX0_remember 16 = .ok (.iconst 1, 1) := by decide +kernel
theorem dX0_remember_17 : decode cX0_remember 17 = .ok (.istore_n 2, 1) := by decide +kernel
theorem dX0_remember_18 : decode cX0_remember 18 = .ok (.iload_n 2, 1) := by decide +kernel
theorem dX0_remember_19 : decode cX0_remember 19 = .ok (.bipush 8, 2) := by decide +kernel
theorem dX0_remember_21 : decode cX0_remember 21 = .ok (.if_icmp .ge 23, 3) := by decide +kernel
theorem dX0_remember_24 : decode cX0_remember 24 = .ok (.aload_n 0, 1) := by decide +kernel
theorem dX0_remember_25 : decode cX0_remember 25 = .ok (.getfield 53, 3) := by decide +kernel
theorem dX0_remember_28 : decode cX0_remember 28 = .ok (.iload_n 2, 1) := by decide +kernel
theorem dX0_remember_29 : decode cX0_remember 29 = .ok (.iconst 1, 1) := by decide +kernel
theorem dX0_remember_30 : decode cX0_remember 30 = .ok (.isub, 1) := by decide +kernel
theorem dX0_remember_31 : decode cX0_remember 31 = .ok (.aload_n 0, 1) := by decide +kernel
theorem dX0_remember_32 : decode cX0_remember 32 = .ok (.getfield 53, 3) := by decide +kernel
theorem dX0_remember_35 : decode cX0_remember 35 = .ok (.iload_n 2, 1) := by decide +kernel
theorem dX0_remember_36 : decode cX0_remember 36 = .ok (.aaload, 1) := by decide +kernel
theorem dX0_remember_37 : decode cX0_remember 37 = .ok (.aastore, 1) := by decide +kernel
theorem dX0_remember_38 : decode cX0_remember 38 = .ok (.iinc 2 1, 3) := by decide +kernel
theorem dX0_remember_41 : decode cX0_remember 41 = .ok (.goto (-23), 3) := by decide +kernel
theorem dX0_remember_44 : decode cX0_remember 44 = .ok (.aload_n 0, 1) := by decide +kernel
theorem dX0_remember_45 : decode cX0_remember 45 = .ok (.getfield 53, 3) := by decide +kernel
theorem dX0_remember_48 : decode cX0_remember 48 = .ok (.bipush 7, 2) := by decide +kernel
theorem dX0_remember_50 : decode cX0_remember 50 = .ok (.aload_n 1, 1) := by decide +kernel
theorem dX0_remember_51 : decode cX0_remember 51 = .ok (.aastore, 1) := by decide +kernel
theorem dX0_remember_52 : decode cX0_remember 52 = .ok (.aload_n 0, 1) := by decide +kernel
theorem dX0_remember_53 : decode cX0_remember 53 = .ok (.bipush 7, 2) := by decide +kernel
theorem dX0_remember_55 : decode cX0_remember 55 = .ok (.putfield 66, 3) := by decide +kernel
theorem dX0_remember_58 : decode cX0_remember 58 = .ok (.aload_n 0, 1) := by decide +kernel
theorem dX0_remember_59 : decode cX0_remember 59 = .ok (.getfield 53, 3) := by decide +kernel
theorem dX0_remember_62 : decode cX0_remember 62 = .ok (.aload_n 0, 1) := by decide +kernel
theorem dX0_remember_63 : decode cX0_remember 63 = .ok (.getfield 66, 3) := by decide +kernel
theorem dX0_remember_66 : decode cX0_remember 66 = .ok (.aaload, 1) := by decide +kernel
theorem dX0_remember_67 : decode cX0_remember 67 = .ok (.aload_n 0, 1) := by decide +kernel
theorem dX0_remember_68 : decode cX0_remember 68 = .ok (.getfield 49, 3) := by decide +kernel
theorem dX0_remember_71 : decode cX0_remember 71 = .ok (.invokevirtual 75, 3) := by decide +kernel
theorem dX0_remember_74 : decode cX0_remember 74 = .ok (.aload_n 0, 1) := by decide +kernel
theorem dX0_remember_75 : decode cX0_remember 75 = .ok (.dup, 1) := by decide +kernel
theorem dX0_remember_76 : decode cX0_remember 76 = .ok (.getfield 66, 3) := by decide +kernel
theorem dX0_remember_79 : decode cX0_remember 79 = .ok (.iconst 1, 1) := by decide +kernel
theorem dX0_remember_80 : decode cX0_remember 80 = .ok (.iadd, 1) := by decide +kernel
theorem dX0_remember_81 : decode cX0_remember 81 = .ok (.putfield 66, 3) := by decide +kernel
theorem dX0_remember_84 : decode cX0_remember 84 = .ok (.return_, 1) := by decide +kernel
theorem dX0_goBack_0 : decode cX0_goBack 0 = .ok (.aload_n 0, 1) := by decide +kernel
theorem dX0_goBack_1 : decode cX0_goBack 1 = .ok (.getfield 66, 3) := by decide +kernel
theorem dX0_goBack_4 : decode cX0_goBack 4 = .ok (.ifCond .gt 4, 3) := by decide +kernel
theorem dX0_goBack_7 : decode cX0_goBack 7 = .ok (.return_, 1) := by decide +kernel
theorem dX0_goBack_8 : decode cX0_goBack 8 = .ok (.aload_n 0, 1) := by decide +kernel
theorem dX0_goBack_9 : decode cX0_goBack 9 = .ok (.dup, 1) := by decide +kernel
theorem dX0_goBack_10 : decode cX0_goBack 10 = .ok (.getfield 66, 3) := by decide +kernel
theorem dX0_goBack_13 : decode cX0_goBack 13 = .ok (.iconst 1, 1) := by decide +kernel
theorem dX0_goBack_14 : decode cX0_goBack 14 = .ok (.isub, 1) := by decide +kernel
theorem dX0_goBack_15 : decode cX0_goBack 15 = .ok (.putfield 66, 3) := by decide +kernel
theorem dX0_goBack_18 : decode cX0_goBack 18 = .ok (.aload_n 0, 1) := by decide +kernel
theorem dX0_goBack_19 : decode cX0_goBack 19 = .ok (.getfield 49, 3) := by decide +kernel
theorem dX0_goBack_22 : decode cX0_goBack 22 = .ok (.aload_n 0, 1) := by decide +kernel
theorem dX0_goBack_23 : decode cX0_goBack 23 = .ok (.getfield 53, 3) := by decide +kernel
theorem dX0_goBack_26 : decode cX0_goBack 26 = .ok (.aload_n 0, 1) := by decide +kernel
theorem dX0_goBack_27 : decode cX0_goBack 27 = .ok (.getfield 66, 3) := by decide +kernel
theorem dX0_goBack_30 : decode cX0_goBack 30 = .ok (.aaload, 1) := by decide +kernel
theorem dX0_goBack_31 : decode cX0_goBack 31 = .ok (.invokevirtual 75, 3) := by decide +kernel
theorem dX0_goBack_34 : decode cX0_goBack 34 = .ok (.return_, 1) := by decide +kernel
theorem dX0_passStop_0 : decode cX0_passStop 0 = .ok (.aload_n 1, 1) := by decide +kernel
theorem dX0_passStop_1 : decode cX0_passStop 1 = .ok (.getfield 91, 3) := by decide +kernel
theorem dX0_passStop_4 : decode cX0_passStop 4 = .ok (.istore 4, 2) := by decide +kernel
theorem dX0_passStop_6 : decode cX0_passStop 6 = .ok (.iload 4, 2) := by decide +kernel
theorem dX0_passStop_8 : decode cX0_passStop 8 = .ok (.iconst 0, 1) := by decide +kernel
theorem dX0_passStop_9 : decode cX0_passStop 9 = .ok (.bipush 9, 2) := by decide +kernel
theorem dX0_passStop_11 : decode cX0_passStop 11 = .ok (.invokestatic 79, 3) := by decide +kernel
theorem dX0_passStop_14 : decode cX0_passStop 14 = .ok (.ifCond .ne 4, 3) := by decide +kernel
theorem dX0_passStop_17 : decode cX0_passStop 17 = .ok (.return_, 1) := by decide +kernel
theorem dX0_passStop_18 : decode cX0_passStop 18 = .ok (.aload_n 0, 1) := by decide +kernel
theorem dX0_passStop_19 : decode cX0_passStop 19 = .ok (.aload_n 1, 1) := by decide +kernel
theorem dX0_passStop_20 : decode cX0_passStop 20 = .ok (.iload 4, 2) := by decide +kernel
theorem dX0_passStop_22 : decode cX0_passStop 22 = .ok (.invokevirtual 94, 3) := by decide +kernel
theorem dX0_passStop_25 : decode cX0_passStop 25 = .ok (.aload_n 0, 1) := by decide +kernel
theorem dX0_passStop_26 : decode cX0_passStop 26 = .ok (.aload_n 1, 1) := by decide +kernel
theorem dX0_passStop_27 : decode cX0_passStop 27 = .ok (.iload 4, 2) := by decide +kernel
theorem dX0_passStop_29 : decode cX0_passStop 29 = .ok (.aload_n 2, 1) := by decide +kernel
theorem dX0_passStop_30 : decode cX0_passStop 30 = .ok (.invokevirtual 98, 3) := by decide +kernel
theorem dX0_passStop_33 : decode cX0_passStop 33 = .ok (.aload_n 0, 1) := by decide +kernel
theorem dX0_passStop_34 : decode cX0_passStop 34 = .ok (.aload_n 1, 1) := by decide +kernel
theorem dX0_passStop_35 : decode cX0_passStop 35 = .ok (.iload 4, 2) := by decide +kernel
theorem dX0_passStop_37 : decode cX0_passStop 37 = .ok (.iload_n 3, 1) := by decide +kernel
theorem dX0_passStop_38 : decode cX0_passStop 38 = .ok (.invokevirtual 102, 3) := by decide +kernel
theorem dX0_passStop_41 : decode cX0_passStop 41 = .ok (.aload_n 1, 1) := by decide +kernel
theorem dX0_passStop_42 : decode cX0_passStop 42 = .ok (.dup, 1) := by decide +kernel
theorem dX0_passStop_43 : decode cX0_passStop 43 = .ok (.getfield 106, 3) := by decide +kernel
theorem dX0_passStop_46 : decode cX0_passStop 46 = .ok (.aload_n 0, 1) := by decide +kernel
theorem dX0_passStop_47 : decode cX0_passStop 47 = .ok (.aload_n 1, 1) := by decide +kernel
theorem dX0_passStop_48 : decode cX0_passStop 48 = .ok (.getfield 109, 3) := by decide +kernel
theorem dX0_passStop_51 : decode cX0_passStop 51 = .ok (.iload 4, 2) := by decide +kernel
theorem dX0_passStop_53 : decode cX0_passStop 53 = .ok (.invokevirtual 112, 3) := by decide +kernel
theorem dX0_passStop_56 : decode cX0_passStop 56 = .ok (.iadd, 1) := by decide +kernel
theorem dX0_passStop_57 : decode cX0_passStop 57 = .ok (.putfield 106, 3) := by decide +kernel
theorem dX0_passStop_60 : decode cX0_passStop 60 = .ok (.aload_n 1, 1) := by decide +kernel
theorem dX0_passStop_61 : decode cX0_passStop 61 = .ok (.iload 4, 2) := by decide +kernel
theorem dX0_passStop_63 : decode cX0_passStop 63 = .ok (.iconst 1, 1) := by decide +kernel
theorem dX0_passStop_64 : decode cX0_passStop 64 = .ok (.iadd, 1) := by decide +kernel
theorem dX0_passStop_65 : decode cX0_passStop 65 = .ok (.putfield 91, 3) := by decide +kernel
theorem dX0_passStop_68 : decode cX0_passStop 68 = .ok (.return_, 1) := by decide +kernel
theorem dX0_letOff_0 : decode cX0_letOff 0 = .ok (.iconst 0, 1) := by decide +kernel
theorem dX0_letOff_1 : decode cX0_letOff 1 = .ok (.istore_n 3, 1) := by decide +kernel
theorem dX0_letOff_2 : decode cX0_letOff 2 = .ok (.iload_n 3, 1) := by decide +kernel
theorem dX0_letOff_3 : decode cX0_letOff 3 = .ok (.aload_n 0, 1) := by decide +kernel
theorem dX0_letOff_4 : decode cX0_letOff 4 = .ok (.getfield 57, 3) := by decide +kernel
theorem dX0_letOff_7 : decode cX0_letOff 7 = .ok (.if_icmp .ge 33, 3) := by decide +kernel
theorem dX0_letOff_10 : decode cX0_letOff 10 = .ok (.aload_n 0, 1) := by decide +kernel
theorem dX0_letOff_11 : decode cX0_letOff 11 = .ok (.getfield 28, 3) := by decide +kernel
theorem dX0_letOff_14 : decode cX0_letOff 14 = .ok (.iload_n 3, 1) := by decide +kernel
theorem dX0_letOff_15 : decode cX0_letOff 15 = .ok (.iaload, 1) := by decide +kernel
theorem dX0_letOff_16 : decode cX0_letOff 16 = .ok (.iload_n 2, 1) := by decide +kernel
theorem dX0_letOff_17 : decode cX0_letOff 17 = .ok (.if_icmp .ne 17, 3) := by decide +kernel
theorem dX0_letOff_20 : decode cX0_letOff 20 = .ok (.aload_n 1, 1) := by decide +kernel
theorem dX0_letOff_21 : decode cX0_letOff 21 = .ok (.dup, 1) := by decide +kernel
theorem dX0_letOff_22 : decode cX0_letOff 22 = .ok (.getfield 109, 3) := by decide +kernel
theorem dX0_letOff_25 : decode cX0_letOff 25 = .ok (.iconst 1, 1) := by decide +kernel
theorem dX0_letOff_26 : decode cX0_letOff 26 = .ok (.iload_n 3, 1) := by decide +kernel
theorem dX0_letOff_27 : decode cX0_letOff 27 = .ok (.ishl, 1) := by decide +kernel
theorem dX0_letOff_28 : decode cX0_letOff 28 = .ok (.iconst (-1), 1) := by decide +kernel
theorem dX0_letOff_29 : decode cX0_letOff 29 = .ok (.ixor, 1) := by decide +kernel
theorem dX0_letOff_30 : decode cX0_letOff 30 = .ok (.iand, 1) := by decide +kernel
theorem dX0_letOff_31 : decode cX0_letOff 31 = .ok (.putfield 109, 3) := by decide +kernel
theorem dX0_letOff_34 : decode cX0_letOff 34 = .ok (.iinc 3 1, 3) := by decide +kernel
theorem dX0_letOff_37 : decode cX0_letOff 37 = .ok (.goto (-35), 3) := by decide +kernel
theorem dX0_letOff_40 : decode cX0_letOff 40 = .ok (.return_, 1) := by decide +kernel
theorem dX0_letOn_0 : decode cX0_letOn 0 = .ok (.iconst 0, 1) := by decide +kernel
theorem dX0_letOn_1 : decode cX0_letOn 1 = .ok (.istore 4, 2) := by decide +kernel
theorem dX0_letOn_3 : decode cX0_letOn 3 = .ok (.iload 4, 2) := by decide +kernel
theorem dX0_letOn_5 : decode cX0_letOn 5 = .ok (.aload_n 0, 1) := by decide +kernel
theorem dX0_letOn_6 : decode cX0_letOn 6 = .ok (.getfield 57, 3) := by decide +kernel
theorem dX0_letOn_9 : decode cX0_letOn 9 = .ok (.if_icmp .ge 97, 3) := by decide +kernel
theorem dX0_letOn_12 : decode cX0_letOn 12 = .ok (.iload 4, 2) := by decide +kernel
theorem dX0_letOn_14 : decode cX0_letOn 14 = .ok (.aload_n 3, 1) := by decide +kernel
theorem dX0_letOn_15 : decode cX0_letOn 15 = .ok (.arraylength, 1) := by decide +kernel
theorem dX0_letOn_16 : decode cX0_letOn 16 = .ok (.if_icmp .ge 90, 3) := by decide +kernel
theorem dX0_letOn_19 : decode cX0_letOn 19 = .ok (.aload_n 3, 1) := by decide +kernel
theorem dX0_letOn_20 : decode cX0_letOn 20 = .ok (.iload 4, 2) := by decide +kernel
theorem dX0_letOn_22 : decode cX0_letOn 22 = .ok (.iaload, 1) := by decide +kernel
theorem dX0_letOn_23 : decode cX0_letOn 23 = .ok (.iload_n 2, 1) := by decide +kernel
theorem dX0_letOn_24 : decode cX0_letOn 24 = .ok (.if_icmp .eq 6, 3) := by decide +kernel
theorem dX0_letOn_27 : decode cX0_letOn 27 = .ok (.goto 73, 3) := by decide +kernel
theorem dX0_letOn_30 : decode cX0_letOn 30 = .ok (.aload_n 1, 1) := by decide +kernel
theorem dX0_letOn_31 : decode cX0_letOn 31 = .ok (.getfield 109, 3) := by decide +kernel
theorem dX0_letOn_34 : decode cX0_letOn 34 = .ok (.invokestatic 116, 3) := by decide +kernel
theorem dX0_letOn_37 : decode cX0_letOn 37 = .ok (.aload_n 0, 1) := by decide +kernel
theorem dX0_letOn_38 : decode cX0_letOn 38 = .ok (.getfield 9, 3) := by decide +kernel
theorem dX0_letOn_41 : decode cX0_letOn 41 = .ok (.if_icmp .ge 22, 3) := by decide +kernel
theorem dX0_letOn_44 : decode cX0_letOn 44 = .ok (.aload_n 0, 1) := by decide +kernel
theorem dX0_letOn_45 : decode cX0_letOn 45 = .ok (.getfield 31, 3) := by decide +kernel
theorem dX0_letOn_48 : decode cX0_letOn 48 = .ok (.iload 4, 2) := by decide +kernel
theorem dX0_letOn_50 : decode cX0_letOn 50 = .ok (.iaload, 1) := by decide +kernel
theorem dX0_letOn_51 : decode cX0_letOn 51 = .ok (.aload_n 1, 1) := by decide +kernel
theorem dX0_letOn_52 : decode cX0_letOn 52 = .ok (.getfield 109, 3) := by decide +kernel
theorem dX0_letOn_55 : decode cX0_letOn 55 = .ok (.iand, 1) := by decide +kernel
theorem dX0_letOn_56 : decode cX0_letOn 56 = .ok (.ifCond .ne 7, 3) := by decide +kernel
theorem dX0_letOn_59 : decode cX0_letOn 59 = .ok (.iconst 1, 1) := by decide +kernel
theorem dX0_letOn_60 : decode cX0_letOn 60 = .ok (.goto 4, 3) := by decide +kernel
theorem dX0_letOn_63 : decode cX0_letOn 63 = .ok (.iconst 0, 1) := by decide +kernel
theorem dX0_letOn_64 : decode cX0_letOn 64 = .ok (.istore 5, 2) := by decide +kernel
theorem dX0_letOn_66 : decode cX0_letOn 66 = .ok (.iload 5, 2) := by decide +kernel
theorem dX0_letOn_68 : decode cX0_letOn 68 = .ok (.ifCond .eq 19, 3) := by decide +kernel
theorem dX0_letOn_71 : decode cX0_letOn 71 = .ok (.aload_n 1, 1) := by decide +kernel
theorem dX0_letOn_72 : decode cX0_letOn 72 = .ok (.dup, 1) := by decide +kernel
theorem dX0_letOn_73 : decode cX0_letOn 73 = .ok (.getfield 109, 3) := by decide +kernel
theorem dX0_letOn_76 : decode cX0_letOn 76 = .ok (.iconst 1, 1) := by decide +kernel
theorem dX0_letOn_77 : decode cX0_letOn 77 = .ok (.iload 4, 2) := by decide +kernel
theorem dX0_letOn_79 : decode cX0_letOn 79 = .ok (.ishl, 1) := by decide +kernel
theorem dX0_letOn_80 : decode cX0_letOn 80 = .ok (.ior, 1) := by decide +kernel
theorem dX0_letOn_81 : decode cX0_letOn 81 = .ok (.putfield 109, 3) := by decide +kernel
theorem dX0_letOn_84 : decode cX0_letOn 84 = .ok (.goto 16, 3) := by decide +kernel
theorem dX0_letOn_87 : decode cX0_letOn 87 = .ok (.aload_n 1, 1) := by decide +kernel
theorem dX0_letOn_88 : decode cX0_letOn 88 = .ok (.dup, 1) := by decide +kernel
theorem dX0_letOn_89 : decode cX0_letOn 89 = .ok (.getfield 122, 3) := by decide +kernel
theorem dX0_letOn_92 : decode cX0_letOn 92 = .ok (.iconst 1, 1) := by decide +kernel
theorem dX0_letOn_93 : decode cX0_letOn 93 = .ok (.iload 4, 2) := by decide +kernel
theorem dX0_letOn_95 : decode cX0_letOn 95 = .ok (.ishl, 1) := by decide +kernel
theorem dX0_letOn_96 : decode cX0_letOn 96 = .ok (.ior, 1) := by decide +kernel
theorem dX0_letOn_97 : decode cX0_letOn 97 = .ok (.putfield 122, 3) := by decide +kernel
theorem dX0_letOn_100 : decode cX0_letOn 100 = .ok (.iinc 4 1, 3) := by decide +kernel
theorem dX0_letOn_103 : decode cX0_letOn 103 = .ok (.goto (-100), 3) := by decide +kernel
theorem dX0_letOn_106 : decode cX0_letOn 106 = .ok (.return_, 1) := by decide +kernel
theorem dX0_scrape_0 : decode cX0_scrape 0 = .ok (.aload_n 0, 1) := by decide +kernel
theorem dX0_scrape_1 : decode cX0_scrape 1 = .ok (.getfield 15, 3) := by decide +kernel
theorem dX0_scrape_4 : decode cX0_scrape 4 = .ok (.iload_n 2, 1) := by decide +kernel
theorem dX0_scrape_5 : decode cX0_scrape 5 = .ok (.iaload, 1) := by decide +kernel
theorem dX0_scrape_6 : decode cX0_scrape 6 = .ok (.ifCond .ne 4, 3) := by decide +kernel
theorem dX0_scrape_9 : decode cX0_scrape 9 = .ok (.return_, 1) := by decide +kernel
theorem dX0_scrape_10 : decode cX0_scrape 10 = .ok (.iconst 0, 1) := by decide +kernel
theorem dX0_scrape_11 : decode cX0_scrape 11 = .ok (.istore 4, 2) := by decide +kernel
theorem dX0_scrape_13 : decode cX0_scrape 13 = .ok (.iload 4, 2) := by decide +kernel
theorem dX0_scrape_15 : decode cX0_scrape 15 = .ok (.aload_n 0, 1) := by decide +kernel
theorem dX0_scrape_16 : decode cX0_scrape 16 = .ok (.getfield 57, 3) := by decide +kernel
theorem dX0_scrape_19 : decode cX0_scrape 19 = .ok (.if_icmp .ge 72, 3) := by decide +kernel
theorem dX0_scrape_22 : decode cX0_scrape 22 = .ok (.aload_n 1, 1) := by decide +kernel
theorem dX0_scrape_23 : decode cX0_scrape 23 = .ok (.getfield 109, 3) := by decide +kernel
theorem dX0_scrape_26 : decode cX0_scrape 26 = .ok (.iload 4, 2) := by decide +kernel
theorem dX0_scrape_28 : decode cX0_scrape 28 = .ok (.invokestatic 125, 3) := by decide +kernel
theorem dX0_scrape_31 : decode cX0_scrape 31 = .ok (.iconst 1, 1) := by decide +kernel
theorem dX0_scrape_32 : decode cX0_scrape 32 = .ok (.if_icmp .ne 53, 3) := by decide +kernel
theorem dX0_scrape_35 : decode cX0_scrape 35 = .ok (.aload_n 0, 1) := by decide +kernel
theorem dX0_scrape_36 : decode cX0_scrape 36 = .ok (.getfield 19, 3) := by decide +kernel
theorem dX0_scrape_39 : decode cX0_scrape 39 = .ok (.iload 4, 2) := by decide +kernel
theorem dX0_scrape_41 : decode cX0_scrape 41 = .ok (.iaload, 1) := by decide +kernel
theorem dX0_scrape_42 : decode cX0_scrape 42 = .ok (.iload_n 2, 1) := by decide +kernel
theorem dX0_scrape_43 : decode cX0_scrape 43 = .ok (.invokestatic 128, 3) := by decide +kernel
theorem dX0_scrape_46 : decode cX0_scrape 46 = .ok (.aload_n 0, 1) := by decide +kernel
theorem dX0_scrape_47 : decode cX0_scrape 47 = .ok (.getfield 15, 3) := by decide +kernel
theorem dX0_scrape_50 : decode cX0_scrape 50 = .ok (.iload_n 2, 1) := by decide +kernel
theorem dX0_scrape_51 : decode cX0_scrape 51 = .ok (.iaload, 1) := by decide +kernel
theorem dX0_scrape_52 : decode cX0_scrape 52 = .ok (.iload_n 3, 1) := by decide +kernel
theorem dX0_scrape_53 : decode cX0_scrape 53 = .ok (.iadd, 1) := by decide +kernel
theorem dX0_scrape_54 : decode cX0_scrape 54 = .ok (.if_icmp .le 31, 3) := by decide +kernel
theorem dX0_scrape_57 : decode cX0_scrape 57 = .ok (.aload_n 1, 1) := by decide +kernel
theorem dX0_scrape_58 : decode cX0_scrape 58 = .ok (.dup, 1) := by decide +kernel
theorem dX0_scrape_59 : decode cX0_scrape 59 = .ok (.getfield 109, 3) := by decide +kernel
theorem dX0_scrape_62 : decode cX0_scrape 62 = .ok (.iconst 1, 1) := by decide +kernel
theorem dX0_scrape_63 : decode cX0_scrape 63 = .ok (.iload 4, 2) := by decide +kernel
theorem dX0_scrape_65 : decode cX0_scrape 65 = .ok (.ishl, 1) := by decide +kernel
theorem dX0_scrape_66 : decode cX0_scrape 66 = .ok (.iconst (-1), 1) := by decide +kernel
theorem dX0_scrape_67 : decode cX0_scrape 67 = .ok (.ixor, 1) := by decide +kernel
theorem dX0_scrape_68 : decode cX0_scrape 68 = .ok (.iand, 1) := by decide +kernel
theorem dX0_scrape_69 : decode cX0_scrape 69 = .ok (.putfield 109, 3) := by decide +kernel
theorem dX0_scrape_72 : decode cX0_scrape 72 = .ok (.aload_n 1, 1) := by decide +kernel
theorem dX0_scrape_73 : decode cX0_scrape 73 = .ok (.dup, 1) := by decide +kernel
theorem dX0_scrape_74 : decode cX0_scrape 74 = .ok (.getfield 131, 3) := by decide +kernel
theorem dX0_scrape_77 : decode cX0_scrape 77 = .ok (.iconst 1, 1) := by decide +kernel
theorem dX0_scrape_78 : decode cX0_scrape 78 = .ok (.iload 4, 2) := by decide +kernel
theorem dX0_scrape_80 : decode cX0_scrape 80 = .ok (.ishl, 1) := by decide +kernel
theorem dX0_scrape_81 : decode cX0_scrape 81 = .ok (.ior, 1) := by decide +kernel
theorem dX0_scrape_82 : decode cX0_scrape 82 = .ok (.putfield 131, 3) := by decide +kernel
theorem dX0_scrape_85 : decode cX0_scrape 85 = .ok (.iinc 4 1, 3) := by decide +kernel
theorem dX0_scrape_88 : decode cX0_scrape 88 = .ok (.goto (-75), 3) := by decide +kernel
theorem dX0_scrape_91 : decode cX0_scrape 91 = .ok (.return_, 1) := by decide +kernel
theorem dX0_swayOfAll_0 : decode cX0_swayOfAll 0 = .ok (.iconst 0, 1) := by decide +kernel
theorem dX0_swayOfAll_1 : decode cX0_swayOfAll 1 = .ok (.istore_n 3, 1) := by decide +kernel
theorem dX0_swayOfAll_2 : decode cX0_swayOfAll 2 = .ok (.iconst 0, 1) := by decide +kernel
theorem dX0_swayOfAll_3 : decode cX0_swayOfAll 3 = .ok (.istore 4, 2) := by decide +kernel
theorem dX0_swayOfAll_5 : decode cX0_swayOfAll 5 = .ok (.iload 4, 2) := by decide +kernel
theorem dX0_swayOfAll_7 : decode cX0_swayOfAll 7 = .ok (.aload_n 0, 1) := by decide +kernel
theorem dX0_swayOfAll_8 : decode cX0_swayOfAll 8 = .ok (.getfield 57, 3) := by decide +kernel
theorem dX0_swayOfAll_11 : decode cX0_swayOfAll 11 = .ok (.if_icmp .ge 40, 3) := by decide +kernel
theorem dX0_swayOfAll_14 : decode cX0_swayOfAll 14 = .ok (.iload_n 1, 1) := by decide +kernel
theorem dX0_swayOfAll_15 : decode cX0_swayOfAll 15 = .ok (.iload 4, 2) := by decide +kernel
theorem dX0_swayOfAll_17 : decode cX0_swayOfAll 17 = .ok (.invokestatic 125, 3) := by decide +kernel
theorem dX0_swayOfAll_20 : decode cX0_swayOfAll 20 = .ok (.iconst 1, 1) := by decide +kernel
theorem dX0_swayOfAll_21 : decode cX0_swayOfAll 21 = .ok (.if_icmp .ne 24, 3) := by decide +kernel
theorem dX0_swayOfAll_24 : decode cX0_swayOfAll 24 = .ok (.iload_n 3, 1) := by decide +kernel
theorem dX0_swayOfAll_25 : decode cX0_swayOfAll 25 = .ok (.aload_n 0, 1) := by decide +kernel
theorem dX0_swayOfAll_26 : decode cX0_swayOfAll 26 = .ok (.getfield 19, 3) := by decide +kernel
theorem dX0_swayOfAll_29 : decode cX0_swayOfAll 29 = .ok (.iload 4, 2) := by decide +kernel
theorem dX0_swayOfAll_31 : decode cX0_swayOfAll 31 = .ok (.iaload, 1) := by decide +kernel
theorem dX0_swayOfAll_32 : decode cX0_swayOfAll 32 = .ok (.aload_n 0, 1) := by decide +kernel
theorem dX0_swayOfAll_33 : decode cX0_swayOfAll 33 = .ok (.getfield 22, 3) := by decide +kernel
theorem dX0_swayOfAll_36 : decode cX0_swayOfAll 36 = .ok (.iload 4, 2) := by decide +kernel
theorem dX0_swayOfAll_38 : decode cX0_swayOfAll 38 = .ok (.iaload, 1) := by decide +kernel
theorem dX0_swayOfAll_39 : decode cX0_swayOfAll 39 = .ok (.iload_n 2, 1) := by decide +kernel
theorem dX0_swayOfAll_40 : decode cX0_swayOfAll 40 = .ok (.invokestatic 134, 3) := by decide +kernel
theorem dX0_swayOfAll_43 : decode cX0_swayOfAll 43 = .ok (.iadd, 1) := by decide +kernel
theorem dX0_swayOfAll_44 : decode cX0_swayOfAll 44 = .ok (.istore_n 3, 1) := by decide +kernel
theorem dX0_swayOfAll_45 : decode cX0_swayOfAll 45 = .ok (.iinc 4 1, 3) := by decide +kernel
theorem dX0_swayOfAll_48 : decode cX0_swayOfAll 48 = .ok (.goto (-43), 3) := by decide +kernel
theorem dX0_swayOfAll_51 : decode cX0_swayOfAll 51 = .ok (.iload_n 3, 1) := by decide +kernel
theorem dX0_swayOfAll_52 : decode cX0_swayOfAll 52 = .ok (.ireturn, 1) := by decide +kernel
theorem dX0_quarrelsIn_0 : decode cX0_quarrelsIn 0 = .ok (.iconst 0, 1) := by decide +kernel
theorem dX0_quarrelsIn_1 : decode cX0_quarrelsIn 1 = .ok (.istore_n 2, 1) := by decide +kernel
theorem dX0_quarrelsIn_2 : decode cX0_quarrelsIn 2 = .ok (.iload_n 2, 1) := by decide +kernel
theorem dX0_quarrelsIn_3 : decode cX0_quarrelsIn 3 = .ok (.aload_n 0, 1) := by decide +kernel
theorem dX0_quarrelsIn_4 : decode cX0_quarrelsIn 4 = .ok (.getfield 57, 3) := by decide +kernel
theorem dX0_quarrelsIn_7 : decode cX0_quarrelsIn 7 = .ok (.if_icmp .ge 31, 3) := by decide +kernel
theorem dX0_quarrelsIn_10 : decode cX0_quarrelsIn 10 = .ok (.iload_n 1, 1) := by decide +kernel
theorem dX0_quarrelsIn_11 : decode cX0_quarrelsIn 11 = .ok (.iload_n 2, 1) := by decide +kernel
theorem dX0_quarrelsIn_12 : decode cX0_quarrelsIn 12 = .ok (.invokestatic 125, 3) := by decide +kernel
theorem dX0_quarrelsIn_15 : decode cX0_quarrelsIn 15 = .ok (.iconst 1, 1) := by decide +kernel
theorem dX0_quarrelsIn_16 : decode cX0_quarrelsIn 16 = .ok (.if_icmp .ne 16, 3) := by decide +kernel
theorem dX0_quarrelsIn_19 : decode cX0_quarrelsIn 19 = .ok (.aload_n 0, 1) := by decide +kernel
theorem dX0_quarrelsIn_20 : decode cX0_quarrelsIn 20 = .ok (.getfield 31, 3) := by decide +kernel
theorem dX0_quarrelsIn_23 : decode cX0_quarrelsIn 23 = .ok (.iload_n 2, 1) := by decide +kernel
theorem dX0_quarrelsIn_24 : decode cX0_quarrelsIn 24 = .ok (.iaload, 1) := by decide +kernel
theorem dX0_quarrelsIn_25 : decode cX0_quarrelsIn 25 = .ok (.iload_n 1, 1) := by decide +kernel
theorem dX0_quarrelsIn_26 : decode cX0_quarrelsIn 26 = .ok (.iand, 1) := by decide +kernel
theorem dX0_quarrelsIn_27 : decode cX0_quarrelsIn 27 = .ok (.ifCond .eq 5, 3) := by decide +kernel
theorem dX0_quarrelsIn_30 : decode cX0_quarrelsIn 30 = .ok (.iconst 1, 1) := by decide +kernel
theorem dX0_quarrelsIn_31 : decode cX0_quarrelsIn 31 = .ok (.ireturn, 1) := by decide +kernel
theorem dX0_quarrelsIn_32 : decode cX0_quarrelsIn 32 = .ok (.iinc 2 1, 3) := by decide +kernel
theorem dX0_quarrelsIn_35 : decode cX0_quarrelsIn 35 = .ok (.goto (-33), 3) := by decide +kernel
theorem dX0_quarrelsIn_38 : decode cX0_quarrelsIn 38 = .ok (.iconst 0, 1) := by decide +kernel
theorem dX0_quarrelsIn_39 : decode cX0_quarrelsIn 39 = .ok (.ireturn, 1) := by decide +kernel
theorem dX0_kindsByNotes_0 : decode cX0_kindsByNotes 0 = .ok (.iconst 0, 1) := by decide +kernel
theorem dX0_kindsByNotes_1 : decode cX0_kindsByNotes 1 = .ok (.istore_n 2, 1) := by decide +kernel
theorem dX0_kindsByNotes_2 : decode cX0_kindsByNotes 2 = .ok (.iconst 0, 1) := by decide +kernel
theorem dX0_kindsByNotes_3 : decode cX0_kindsByNotes 3 = .ok (.istore_n 3, 1) := by decide +kernel
theorem dX0_kindsByNotes_4 : decode cX0_kindsByNotes 4 = .ok (.iload_n 3, 1) := by decide +kernel
theorem dX0_kindsByNotes_5 : decode cX0_kindsByNotes 5 = .ok (.bipush 6, 2) := by decide +kernel
theorem dX0_kindsByNotes_7 : decode cX0_kindsByNotes 7 = .ok (.if_icmp .ge 24, 3) := by decide +kernel
theorem dX0_kindsByNotes_10 : decode cX0_kindsByNotes 10 = .ok (.aload_n 0, 1) := by decide +kernel
theorem dX0_kindsByNotes_11 : decode cX0_kindsByNotes 11 = .ok (.iload_n 1, 1) := by decide +kernel
theorem dX0_kindsByNotes_12 : decode cX0_kindsByNotes 12 = .ok (.iload_n 3, 1) := by decide +kernel
theorem dX0_kindsByNotes_13 : decode cX0_kindsByNotes 13 = .ok (.invokevirtual 138, 3) := by decide +kernel
theorem dX0_kindsByNotes_16 : decode cX0_kindsByNotes 16 = .ok (.ifCond .eq 9, 3) := by decide +kernel
theorem dX0_kindsByNotes_19 : decode cX0_kindsByNotes 19 = .ok (.iload_n 2, 1) := by decide +kernel
theorem dX0_kindsByNotes_20 : decode cX0_kindsByNotes 20 = .ok (.iconst 1, 1) := by decide +kernel
theorem dX0_kindsByNotes_21 : decode cX0_kindsByNotes 21 = .ok (.iload_n 3, 1) := by decide +kernel
theorem dX0_kindsByNotes_22 : decode cX0_kindsByNotes 22 = .ok (.ishl, 1) := by decide +kernel
theorem dX0_kindsByNotes_23 : decode cX0_kindsByNotes 23 = .ok (.ior, 1) := by decide +kernel
theorem dX0_kindsByNotes_24 : decode cX0_kindsByNotes 24 = .ok (.istore_n 2, 1) := by decide +kernel
theorem dX0_kindsByNotes_25 : decode cX0_kindsByNotes 25 = .ok (.iinc 3 1, 3) := by decide +kernel
theorem dX0_kindsByNotes_28 : decode cX0_kindsByNotes 28 = .ok (.goto (-24), 3) := by decide +kernel
theorem dX0_kindsByNotes_31 : decode cX0_kindsByNotes 31 = .ok (.iload_n 2, 1) := by decide +kernel
theorem dX0_kindsByNotes_32 : decode cX0_kindsByNotes 32 = .ok (.ireturn, 1) := by decide +kernel
theorem dX0_fitsNotes_0 : decode cX0_fitsNotes 0 = .ok (.iconst 0, 1) := by decide +kernel
theorem dX0_fitsNotes_1 : decode cX0_fitsNotes 1 = .ok (.istore_n 3, 1) := by decide +kernel
theorem dX0_fitsNotes_2 : decode cX0_fitsNotes 2 = .ok (.iload_n 3, 1) := by decide +kernel
theorem dX0_fitsNotes_3 : decode cX0_fitsNotes 3 = .ok (.aload_n 0, 1) := by decide +kernel
theorem dX0_fitsNotes_4 : decode cX0_fitsNotes 4 = .ok (.getfield 60, 3) := by decide +kernel
theorem dX0_fitsNotes_7 : decode cX0_fitsNotes 7 = .ok (.if_icmp .ge 68, 3) := by decide +kernel
theorem dX0_fitsNotes_10 : decode cX0_fitsNotes 10 = .ok (.aload_n 0, 1) := by decide +kernel
theorem dX0_fitsNotes_11 : decode cX0_fitsNotes 11 = .ok (.getfield 34, 3) := by decide +kernel
theorem dX0_fitsNotes_14 : decode cX0_fitsNotes 14 = .ok (.iload_n 3, 1) := by decide +kernel
theorem dX0_fitsNotes_15 : decode cX0_fitsNotes 15 = .ok (.iaload, 1) := by decide +kernel
theorem dX0_fitsNotes_16 : decode cX0_fitsNotes 16 = .ok (.iload_n 1, 1) := by decide +kernel
theorem dX0_fitsNotes_17 : decode cX0_fitsNotes 17 = .ok (.if_icmp .eq 6, 3) := by decide +kernel
theorem dX0_fitsNotes_20 : decode cX0_fitsNotes 20 = .ok (.goto 49, 3) := by decide +kernel
theorem dX0_fitsNotes_23 : decode cX0_fitsNotes 23 = .ok (.aload_n 0, 1) := by decide +kernel
theorem dX0_fitsNotes_24 : decode cX0_fitsNotes 24 = .ok (.getfield 37, 3) := by decide +kernel
theorem dX0_fitsNotes_27 : decode cX0_fitsNotes 27 = .ok (.iload_n 3, 1) := by decide +kernel
theorem dX0_fitsNotes_28 : decode cX0_fitsNotes 28 = .ok (.iaload, 1) := by decide +kernel
theorem dX0_fitsNotes_29 : decode cX0_fitsNotes 29 = .ok (.istore 4, 2) := by decide +kernel
theorem dX0_fitsNotes_31 : decode cX0_fitsNotes 31 = .ok (.iload_n 2, 1) := by decide +kernel
theorem dX0_fitsNotes_32 : decode cX0_fitsNotes 32 = .ok (.aload_n 0, 1) := by decide +kernel
theorem dX0_fitsNotes_33 : decode cX0_fitsNotes 33 = .ok (.getfield 22, 3) := by decide +kernel
theorem dX0_fitsNotes_36 : decode cX0_fitsNotes 36 = .ok (.iload_n 1, 1) := by decide +kernel
theorem dX0_fitsNotes_37 : decode cX0_fitsNotes 37 = .ok (.iaload, 1) := by decide +kernel
theorem dX0_fitsNotes_38 : decode cX0_fitsNotes 38 = .ok (.iload 4, 2) := by decide +kernel
theorem dX0_fitsNotes_40 : decode cX0_fitsNotes 40 = .ok (.invokestatic 134, 3) := by decide +kernel
theorem dX0_fitsNotes_43 : decode cX0_fitsNotes 43 = .ok (.aload_n 0, 1) := by decide +kernel
theorem dX0_fitsNotes_44 : decode cX0_fitsNotes 44 = .ok (.getfield 40, 3) := by decide +kernel
theorem dX0_fitsNotes_47 : decode cX0_fitsNotes 47 = .ok (.iload_n 3, 1) := by decide +kernel
theorem dX0_fitsNotes_48 : decode cX0_fitsNotes 48 = .ok (.iaload, 1) := by decide +kernel
theorem dX0_fitsNotes_49 : decode cX0_fitsNotes 49 = .ok (.if_icmp .ne 18, 3) := by decide +kernel
theorem dX0_fitsNotes_52 : decode cX0_fitsNotes 52 = .ok (.iload_n 2, 1) := by decide +kernel
theorem dX0_fitsNotes_53 : decode cX0_fitsNotes 53 = .ok (.iload 4, 2) := by decide +kernel
theorem dX0_fitsNotes_55 : decode cX0_fitsNotes 55 = .ok (.invokestatic 128, 3) := by decide +kernel
theorem dX0_fitsNotes_58 : decode cX0_fitsNotes 58 = .ok (.aload_n 0, 1) := by decide +kernel
theorem dX0_fitsNotes_59 : decode cX0_fitsNotes 59 = .ok (.getfield 43, 3) := by decide +kernel
theorem dX0_fitsNotes_62 : decode cX0_fitsNotes 62 = .ok (.iload_n 3, 1) := by decide +kernel
theorem dX0_fitsNotes_63 : decode cX0_fitsNotes 63 = .ok (.iaload, 1) := by decide +kernel
theorem dX0_fitsNotes_64 : decode cX0_fitsNotes 64 = .ok (.if_icmp .eq 5, 3) := by decide +kernel
theorem dX0_fitsNotes_67 : decode cX0_fitsNotes 67 = .ok (.iconst 0, 1) := by decide +kernel
theorem dX0_fitsNotes_68 : decode cX0_fitsNotes 68 = .ok (.ireturn, 1) := by decide +kernel
theorem dX0_fitsNotes_69 : decode cX0_fitsNotes 69 = .ok (.iinc 3 1, 3) := by decide +kernel
theorem dX0_fitsNotes_72 : decode cX0_fitsNotes 72 = .ok (.goto (-70), 3) := by decide +kernel
theorem dX0_fitsNotes_75 : decode cX0_fitsNotes 75 = .ok (.iconst 1, 1) := by decide +kernel
theorem dX0_fitsNotes_76 : decode cX0_fitsNotes 76 = .ok (.ireturn, 1) := by decide +kernel
theorem dX0_countQuarrels_0 : decode cX0_countQuarrels 0 = .ok (.iconst 0, 1) := by decide +kernel
theorem dX0_countQuarrels_1 : decode cX0_countQuarrels 1 = .ok (.istore_n 1, 1) := by decide +kernel
theorem dX0_countQuarrels_2 : decode cX0_countQuarrels 2 = .ok (.iconst 0, 1) := by decide +kernel
theorem dX0_countQuarrels_3 : decode cX0_countQuarrels 3 = .ok (.istore_n 2, 1) := by decide +kernel
theorem dX0_countQuarrels_4 : decode cX0_countQuarrels 4 = .ok (.iload_n 2, 1) := by decide +kernel
theorem dX0_countQuarrels_5 : decode cX0_countQuarrels 5 = .ok (.aload_n 0, 1) := by decide +kernel
theorem dX0_countQuarrels_6 : decode cX0_countQuarrels 6 = .ok (.getfield 57, 3) := by decide +kernel
theorem dX0_countQuarrels_9 : decode cX0_countQuarrels 9 = .ok (.if_icmp .ge 21, 3) := by decide +kernel
theorem dX0_countQuarrels_12 : decode cX0_countQuarrels 12 = .ok (.iload_n 1, 1) := by decide +kernel
theorem dX0_countQuarrels_13 : decode cX0_countQuarrels 13 = .ok (.aload_n 0, 1) := by decide +kernel
theorem dX0_countQuarrels_14 : decode cX0_countQuarrels 14 = .ok (.getfield 31, 3) := by decide +kernel
theorem dX0_countQuarrels_17 : decode cX0_countQuarrels 17 = .ok (.iload_n 2, 1) := by decide +kernel
theorem dX0_countQuarrels_18 : decode cX0_countQuarrels 18 = .ok (.iaload, 1) := by decide +kernel
theorem dX0_countQuarrels_19 : decode cX0_countQuarrels 19 = .ok (.invokestatic 116, 3) := by decide +kernel
theorem dX0_countQuarrels_22 : decode cX0_countQuarrels 22 = .ok (.iadd, 1) := by decide +kernel
theorem dX0_countQuarrels_23 : decode cX0_countQuarrels 23 = .ok (.istore_n 1, 1) := by decide +kernel
theorem dX0_countQuarrels_24 : decode cX0_countQuarrels 24 = .ok (.iinc 2 1, 3) := by decide +kernel
theorem dX0_countQuarrels_27 : decode cX0_countQuarrels 27 = .ok (.goto (-23), 3) := by decide +kernel
theorem dX0_countQuarrels_30 : decode cX0_countQuarrels 30 = .ok (.iload_n 1, 1) := by decide +kernel
theorem dX0_countQuarrels_31 : decode cX0_countQuarrels 31 = .ok (.iconst 2, 1) := by decide +kernel
theorem dX0_countQuarrels_32 : decode cX0_countQuarrels 32 = .ok (.idiv, 1) := by decide +kernel
theorem dX0_countQuarrels_33 : decode cX0_countQuarrels 33 = .ok (.ireturn, 1) := by decide +kernel
theorem dX0_countBridges_0 : decode cX0_countBridges 0 = .ok (.iconst 0, 1) := by decide +kernel
theorem dX0_countBridges_1 : decode cX0_countBridges 1 = .ok (.istore_n 1, 1) := by decide +kernel
theorem dX0_countBridges_2 : decode cX0_countBridges 2 = .ok (.iconst 0, 1) := by decide +kernel
theorem dX0_countBridges_3 : decode cX0_countBridges 3 = .ok (.istore_n 2, 1) := by decide +kernel
theorem dX0_countBridges_4 : decode cX0_countBridges 4 = .ok (.iload_n 2, 1) := by decide +kernel
theorem dX0_countBridges_5 : decode cX0_countBridges 5 = .ok (.bipush 10, 2) := by decide +kernel
theorem dX0_countBridges_7 : decode cX0_countBridges 7 = .ok (.if_icmp .ge 21, 3) := by decide +kernel
theorem dX0_countBridges_10 : decode cX0_countBridges 10 = .ok (.aload_n 0, 1) := by decide +kernel
theorem dX0_countBridges_11 : decode cX0_countBridges 11 = .ok (.getfield 15, 3) := by decide +kernel
theorem dX0_countBridges_14 : decode cX0_countBridges 14 = .ok (.iload_n 2, 1) := by decide +kernel
theorem dX0_countBridges_15 : decode cX0_countBridges 15 = .ok (.iaload, 1) := by decide +kernel
theorem dX0_countBridges_16 : decode cX0_countBridges 16 = .ok (.ifCond .le 6, 3) := by decide +kernel
theorem dX0_countBridges_19 : decode cX0_countBridges 19 = .ok (.iinc 1 1, 3) := by decide +kernel
theorem dX0_countBridges_22 : decode cX0_countBridges 22 = .ok (.iinc 2 1, 3) := by decide +kernel
theorem dX0_countBridges_25 : decode cX0_countBridges 25 = .ok (.goto (-21), 3) := by decide +kernel
theorem dX0_countBridges_28 : decode cX0_countBridges 28 = .ok (.iload_n 1, 1) := by decide +kernel
theorem dX0_countBridges_29 : decode cX0_countBridges 29 = .ok (.ireturn, 1) := by decide +kernel
theorem dX0_mixTold_0 : decode cX0_mixTold 0 = .ok (.lload_n 1, 1) := by decide +kernel
theorem dX0_mixTold_1 : decode cX0_mixTold 1 = .ok (.lstore_n 3, 1) := by decide +kernel
theorem dX0_mixTold_2 : decode cX0_mixTold 2 = .ok (.iconst 0, 1) := by decide +kernel
theorem dX0_mixTold_3 : decode cX0_mixTold 3 = .ok (.istore 5, 2) := by decide +kernel
theorem dX0_mixTold_5 : decode cX0_mixTold 5 = .ok (.iload 5, 2) := by decide +kernel
theorem dX0_mixTold_7 : decode cX0_mixTold 7 = .ok (.bipush 10, 2) := by decide +kernel
theorem dX0_mixTold_9 : decode cX0_mixTold 9 = .ok (.if_icmp .ge 24, 3) := by decide +kernel
theorem dX0_mixTold_12 : decode cX0_mixTold 12 = .ok (.ldc2_w 141, 3) := by decide +kernel
theorem dX0_mixTold_15 : decode cX0_mixTold 15 = .ok (.lload_n 3, 1) := by decide +kernel
theorem dX0_mixTold_16 : decode cX0_mixTold 16 = .ok (.lmul, 1) := by decide +kernel
theorem dX0_mixTold_17 : decode cX0_mixTold 17 = .ok (.aload_n 0, 1) := by decide +kernel
theorem dX0_mixTold_18 : decode cX0_mixTold 18 = .ok (.getfield 15, 3) := by decide +kernel
theorem dX0_mixTold_21 : decode cX0_mixTold 21 = .ok (.iload 5, 2) := by decide +kernel
theorem dX0_mixTold_23 : decode cX0_mixTold 23 = .ok (.iaload, 1) := by decide +kernel
theorem dX0_mixTold_24 : decode cX0_mixTold 24 = .ok (.i2l, 1) := by decide +kernel
theorem dX0_mixTold_25 : decode cX0_mixTold 25 = .ok (.ladd, 1) := by decide +kernel
theorem dX0_mixTold_26 : decode cX0_mixTold 26 = .ok (.lstore_n 3, 1) := by decide +kernel
theorem dX0_mixTold_27 : decode cX0_mixTold 27 = .ok (.iinc 5 1, 3) := by decide +kernel
theorem dX0_mixTold_30 : decode cX0_mixTold 30 = .ok (.goto (-25), 3) := by decide +kernel
theorem dX0_mixTold_33 : decode cX0_mixTold 33 = .ok (.iconst 0, 1) := by decide +kernel
theorem dX0_mixTold_34 : decode cX0_mixTold 34 = .ok (.istore 5, 2) := by decide +kernel
theorem dX0_mixTold_36 : decode cX0_mixTold 36 = .ok (.iload 5, 2) := by decide +kernel
theorem dX0_mixTold_38 : decode cX0_mixTold 38 = .ok (.aload_n 0, 1) := by decide +kernel
theorem dX0_mixTold_39 : decode cX0_mixTold 39 = .ok (.getfield 57, 3) := by decide +kernel
theorem dX0_mixTold_42 : decode cX0_mixTold 42 = .ok (.if_icmp .ge 84, 3) := by decide +kernel
theorem dX0_mixTold_45 : decode cX0_mixTold 45 = .ok (.ldc2_w 141, 3) := by decide +kernel
theorem dX0_mixTold_48 : decode cX0_mixTold 48 = .ok (.lload_n 3, 1) := by decide +kernel
theorem dX0_mixTold_49 : decode cX0_mixTold 49 = .ok (.lmul, 1) := by decide +kernel
theorem dX0_mixTold_50 : decode cX0_mixTold 50 = .ok (.aload_n 0, 1) := by decide +kernel
theorem dX0_mixTold_51 : decode cX0_mixTold 51 = .ok (.getfield 19, 3) := by decide +kernel
theorem dX0_mixTold_54 : decode cX0_mixTold 54 = .ok (.iload 5, 2) := by decide +kernel
theorem dX0_mixTold_56 : decode cX0_mixTold 56 = .ok (.iaload, 1) := by decide +kernel
theorem dX0_mixTold_57 : decode cX0_mixTold 57 = .ok (.i2l, 1) := by decide +kernel
theorem dX0_mixTold_58 : decode cX0_mixTold 58 = .ok (.ladd, 1) := by decide +kernel
theorem dX0_mixTold_59 : decode cX0_mixTold 59 = .ok (.lstore_n 3, 1) := by decide +kernel
theorem dX0_mixTold_60 : decode cX0_mixTold 60 = .ok (.ldc2_w 141, 3) := by decide +kernel
theorem dX0_mixTold_63 : decode cX0_mixTold 63 = .ok (.lload_n 3, 1) := by decide +kernel
theorem dX0_mixTold_64 : decode cX0_mixTold 64 = .ok (.lmul, 1) := by decide +kernel
theorem dX0_mixTold_65 : decode cX0_mixTold 65 = .ok (.aload_n 0, 1) := by decide +kernel
theorem dX0_mixTold_66 : decode cX0_mixTold 66 = .ok (.getfield 22, 3) := by decide +kernel
theorem dX0_mixTold_69 : decode cX0_mixTold 69 = .ok (.iload 5, 2) := by decide +kernel
theorem dX0_mixTold_71 : decode cX0_mixTold 71 = .ok (.iaload, 1) := by decide +kernel
theorem dX0_mixTold_72 : decode cX0_mixTold 72 = .ok (.i2l, 1) := by decide +kernel
theorem dX0_mixTold_73 : decode cX0_mixTold 73 = .ok (.ladd, 1) := by decide +kernel
theorem dX0_mixTold_74 : decode cX0_mixTold 74 = .ok (.lstore_n 3, 1) := by decide +kernel
theorem dX0_mixTold_75 : decode cX0_mixTold 75 = .ok (.ldc2_w 141, 3) := by decide +kernel
theorem dX0_mixTold_78 : decode cX0_mixTold 78 = .ok (.lload_n 3, 1) := by decide +kernel
theorem dX0_mixTold_79 : decode cX0_mixTold 79 = .ok (.lmul, 1) := by decide +kernel
theorem dX0_mixTold_80 : decode cX0_mixTold 80 = .ok (.aload_n 0, 1) := by decide +kernel
theorem dX0_mixTold_81 : decode cX0_mixTold 81 = .ok (.getfield 25, 3) := by decide +kernel
theorem dX0_mixTold_84 : decode cX0_mixTold 84 = .ok (.iload 5, 2) := by decide +kernel
theorem dX0_mixTold_86 : decode cX0_mixTold 86 = .ok (.iaload, 1) := by decide +kernel
theorem dX0_mixTold_87 : decode cX0_mixTold 87 = .ok (.i2l, 1) := by decide +kernel
theorem dX0_mixTold_88 : decode cX0_mixTold 88 = .ok (.ladd, 1) := by decide +kernel
theorem dX0_mixTold_89 : decode cX0_mixTold 89 = .ok (.lstore_n 3, 1) := by decide +kernel
theorem dX0_mixTold_90 : decode cX0_mixTold 90 = .ok (.ldc2_w 141, 3) := by decide +kernel
theorem dX0_mixTold_93 : decode cX0_mixTold 93 = .ok (.lload_n 3, 1) := by decide +kernel
theorem dX0_mixTold_94 : decode cX0_mixTold 94 = .ok (.lmul, 1) := by decide +kernel
theorem dX0_mixTold_95 : decode cX0_mixTold 95 = .ok (.aload_n 0, 1) := by decide +kernel
theorem dX0_mixTold_96 : decode cX0_mixTold 96 = .ok (.getfield 28, 3) := by decide +kernel
theorem dX0_mixTold_99 : decode cX0_mixTold 99 = .ok (.iload 5, 2) := by decide +kernel
theorem dX0_mixTold_101 : decode cX0_mixTold 101 = .ok (.iaload, 1) := by decide +kernel
theorem dX0_mixTold_102 : decode cX0_mixTold 102 = .ok (.i2l, 1) := by decide +kernel
theorem dX0_mixTold_103 : decode cX0_mixTold 103 = .ok (.ladd, 1) := by decide +kernel
theorem dX0_mixTold_104 : decode cX0_mixTold 104 = .ok (.lstore_n 3, 1) := by decide +kernel
theorem dX0_mixTold_105 : decode cX0_mixTold 105 = .ok (.ldc2_w 141, 3) := by decide +kernel
theorem dX0_mixTold_108 : decode cX0_mixTold 108 = .ok (.lload_n 3, 1) := by decide +kernel
theorem dX0_mixTold_109 : decode cX0_mixTold 109 = .ok (.lmul, 1) := by decide +kernel
theorem dX0_mixTold_110 : decode cX0_mixTold 110 = .ok (.aload_n 0, 1) := by decide +kernel
theorem dX0_mixTold_111 : decode cX0_mixTold 111 = .ok (.getfield 31, 3) := by decide +kernel
theorem dX0_mixTold_114 : decode cX0_mixTold 114 = .ok (.iload 5, 2) := by decide +kernel
theorem dX0_mixTold_116 : decode cX0_mixTold 116 = .ok (.iaload, 1) := by decide +kernel
theorem dX0_mixTold_117 : decode cX0_mixTold 117 = .ok (.i2l, 1) := by decide +kernel
theorem dX0_mixTold_118 : decode cX0_mixTold 118 = .ok (.ladd, 1) := by decide +kernel
theorem dX0_mixTold_119 : decode cX0_mixTold 119 = .ok (.lstore_n 3, 1) := by decide +kernel
theorem dX0_mixTold_120 : decode cX0_mixTold 120 = .ok (.iinc 5 1, 3) := by decide +kernel
theorem dX0_mixTold_123 : decode cX0_mixTold 123 = .ok (.goto (-87), 3) := by decide +kernel
theorem dX0_mixTold_126 : decode cX0_mixTold 126 = .ok (.iconst 0, 1) := by decide +kernel
theorem dX0_mixTold_127 : decode cX0_mixTold 127 = .ok (.istore 5, 2) := by decide +kernel
theorem dX0_mixTold_129 : decode cX0_mixTold 129 = .ok (.iload 5, 2) := by decide +kernel
theorem dX0_mixTold_131 : decode cX0_mixTold 131 = .ok (.aload_n 0, 1) := by decide +kernel
theorem dX0_mixTold_132 : decode cX0_mixTold 132 = .ok (.getfield 60, 3) := by decide +kernel
theorem dX0_mixTold_135 : decode cX0_mixTold 135 = .ok (.if_icmp .ge 69, 3) := by decide +kernel
theorem dX0_mixTold_138 : decode cX0_mixTold 138 = .ok (.ldc2_w 141, 3) := by decide +kernel
theorem dX0_mixTold_141 : decode cX0_mixTold 141 = .ok (.lload_n 3, 1) := by decide +kernel
theorem dX0_mixTold_142 : decode cX0_mixTold 142 = .ok (.lmul, 1) := by decide +kernel
theorem dX0_mixTold_143 : decode cX0_mixTold 143 = .ok (.aload_n 0, 1) := by decide +kernel
theorem dX0_mixTold_144 : decode cX0_mixTold 144 = .ok (.getfield 34, 3) := by decide +kernel
theorem dX0_mixTold_147 : decode cX0_mixTold 147 = .ok (.iload 5, 2) := by decide +kernel
theorem dX0_mixTold_149 : decode cX0_mixTold 149 = .ok (.iaload, 1) := by decide +kernel
theorem dX0_mixTold_150 : decode cX0_mixTold 150 = .ok (.i2l, 1) := by decide +kernel
theorem dX0_mixTold_151 : decode cX0_mixTold 151 = .ok (.ladd, 1) := by decide +kernel
theorem dX0_mixTold_152 : decode cX0_mixTold 152 = .ok (.lstore_n 3, 1) := by decide +kernel
theorem dX0_mixTold_153 : decode cX0_mixTold 153 = .ok (.ldc2_w 141, 3) := by decide +kernel
theorem dX0_mixTold_156 : decode cX0_mixTold 156 = .ok (.lload_n 3, 1) := by decide +kernel
theorem dX0_mixTold_157 : decode cX0_mixTold 157 = .ok (.lmul, 1) := by decide +kernel
theorem dX0_mixTold_158 : decode cX0_mixTold 158 = .ok (.aload_n 0, 1) := by decide +kernel
theorem dX0_mixTold_159 : decode cX0_mixTold 159 = .ok (.getfield 37, 3) := by decide +kernel
theorem dX0_mixTold_162 : decode cX0_mixTold 162 = .ok (.iload 5, 2) := by decide +kernel
theorem dX0_mixTold_164 : decode cX0_mixTold 164 = .ok (.iaload, 1) := by decide +kernel
theorem dX0_mixTold_165 : decode cX0_mixTold 165 = .ok (.i2l, 1) := by decide +kernel
theorem dX0_mixTold_166 : decode cX0_mixTold 166 = .ok (.ladd, 1) := by decide +kernel
theorem dX0_mixTold_167 : decode cX0_mixTold 167 = .ok (.lstore_n 3, 1) := by decide +kernel
theorem dX0_mixTold_168 : decode cX0_mixTold 168 = .ok (.ldc2_w 141, 3) := by decide +kernel
theorem dX0_mixTold_171 : decode cX0_mixTold 171 = .ok (.lload_n 3, 1) := by decide +kernel
theorem dX0_mixTold_172 : decode cX0_mixTold 172 = .ok (.lmul, 1) := by decide +kernel
theorem dX0_mixTold_173 : decode cX0_mixTold 173 = .ok (.aload_n 0, 1) := by decide +kernel
theorem dX0_mixTold_174 : decode cX0_mixTold 174 = .ok (.getfield 40, 3) := by decide +kernel
theorem dX0_mixTold_177 : decode cX0_mixTold 177 = .ok (.iload 5, 2) := by decide +kernel
theorem dX0_mixTold_179 : decode cX0_mixTold 179 = .ok (.iaload, 1) := by decide +kernel
theorem dX0_mixTold_180 : decode cX0_mixTold 180 = .ok (.i2l, 1) := by decide +kernel
theorem dX0_mixTold_181 : decode cX0_mixTold 181 = .ok (.ladd, 1) := by decide +kernel
theorem dX0_mixTold_182 : decode cX0_mixTold 182 = .ok (.lstore_n 3, 1) := by decide +kernel
theorem dX0_mixTold_183 : decode cX0_mixTold 183 = .ok (.ldc2_w 141, 3) := by decide +kernel
theorem dX0_mixTold_186 : decode cX0_mixTold 186 = .ok (.lload_n 3, 1) := by decide +kernel
theorem dX0_mixTold_187 : decode cX0_mixTold 187 = .ok (.lmul, 1) := by decide +kernel
theorem dX0_mixTold_188 : decode cX0_mixTold 188 = .ok (.aload_n 0, 1) := by decide +kernel
theorem dX0_mixTold_189 : decode cX0_mixTold 189 = .ok (.getfield 43, 3) := by decide +kernel
theorem dX0_mixTold_192 : decode cX0_mixTold 192 = .ok (.iload 5, 2) := by decide +kernel
theorem dX0_mixTold_194 : decode cX0_mixTold 194 = .ok (.iaload, 1) := by decide +kernel
theorem dX0_mixTold_195 : decode cX0_mixTold 195 = .ok (.i2l, 1) := by decide +kernel
theorem dX0_mixTold_196 : decode cX0_mixTold 196 = .ok (.ladd, 1) := by decide +kernel
theorem dX0_mixTold_197 : decode cX0_mixTold 197 = .ok (.lstore_n 3, 1) := by decide +kernel
theorem dX0_mixTold_198 : decode cX0_mixTold 198 = .ok (.iinc 5 1, 3) := by decide +kernel
theorem dX0_mixTold_201 : decode cX0_mixTold 201 = .ok (.goto (-72), 3) := by decide +kernel
theorem dX0_mixTold_204 : decode cX0_mixTold 204 = .ok (.lload_n 3, 1) := by decide +kernel
theorem dX0_mixTold_205 : decode cX0_mixTold 205 = .ok (.lreturn, 1) := by decide +kernel
theorem dX1_init_0 : decode cX1_init 0 = .ok (.aload_n 0, 1) := by decide +kernel
theorem dX1_init_1 : decode cX1_init 1 = .ok (.invokespecial 3, 3) := by decide +kernel
theorem dX1_init_4 : decode cX1_init 4 = .ok (.aload_n 0, 1) := by decide +kernel
theorem dX1_init_5 : decode cX1_init 5 = .ok (.bipush 7, 2) := by decide +kernel
theorem dX1_init_7 : decode cX1_init 7 = .ok (.newarray .int, 2) := by decide +kernel
theorem dX1_init_9 : decode cX1_init 9 = .ok (.putfield 9, 3) := by decide +kernel
theorem dX1_init_12 : decode cX1_init 12 = .ok (.return_, 1) := by decide +kernel
theorem dX1_fewest_0 : decode cX1_fewest 0 = .ok (.iconst 0, 1) := by decide +kernel
theorem dX1_fewest_1 : decode cX1_fewest 1 = .ok (.istore_n 2, 1) := by decide +kernel
theorem dX1_fewest_2 : decode cX1_fewest 2 = .ok (.iload_n 2, 1) := by decide +kernel
theorem dX1_fewest_3 : decode cX1_fewest 3 = .ok (.bipush 7, 2) := by decide +kernel
theorem dX1_fewest_5 : decode cX1_fewest 5 = .ok (.if_icmp .gt 24, 3) := by decide +kernel
theorem dX1_fewest_8 : decode cX1_fewest 8 = .ok (.aload_n 1, 1) := by decide +kernel
theorem dX1_fewest_9 : decode cX1_fewest 9 = .ok (.aload_n 0, 1) := by decide +kernel
theorem dX1_fewest_10 : decode cX1_fewest 10 = .ok (.getfield 9, 3) := by decide +kernel
theorem dX1_fewest_13 : decode cX1_fewest 13 = .ok (.iconst 0, 1) := by decide +kernel
theorem dX1_fewest_14 : decode cX1_fewest 14 = .ok (.iload_n 2, 1) := by decide +kernel
theorem dX1_fewest_15 : decode cX1_fewest 15 = .ok (.invokestatic 15, 3) := by decide +kernel
theorem dX1_fewest_18 : decode cX1_fewest 18 = .ok (.ifCond .eq 5, 3) := by decide +kernel
theorem dX1_fewest_21 : decode cX1_fewest 21 = .ok (.iload_n 2, 1) := by decide +kernel
theorem dX1_fewest_22 : decode cX1_fewest 22 = .ok (.ireturn, 1) := by decide +kernel
theorem dX1_fewest_23 : decode cX1_fewest 23 = .ok (.iinc 2 1, 3) := by decide +kernel
theorem dX1_fewest_26 : decode cX1_fewest 26 = .ok (.goto (-24), 3) := by decide +kernel
theorem dX1_fewest_29 : decode cX1_fewest 29 = .ok (.bipush 7, 2) := by decide +kernel
theorem dX1_fewest_31 : decode cX1_fewest 31 = .ok (.ireturn, 1) := by decide +kernel
theorem dX1_canPlace_0 : decode cX1_canPlace 0 = .ok (.iload_n 2, 1) := by decide +kernel
theorem dX1_canPlace_1 : decode cX1_canPlace 1 = .ok (.aload_n 0, 1) := by decide +kernel
theorem dX1_canPlace_2 : decode cX1_canPlace 2 = .ok (.getfield 19, 3) := by decide +kernel
theorem dX1_canPlace_5 : decode cX1_canPlace 5 = .ok (.if_icmp .ge 9, 3) := by decide +kernel
theorem dX1_canPlace_8 : decode cX1_canPlace 8 = .ok (.iload_n 2, 1) := by decide +kernel
theorem dX1_canPlace_9 : decode cX1_canPlace 9 = .ok (.bipush 7, 2) := by decide +kernel
theorem dX1_canPlace_11 : decode cX1_canPlace 11 = .ok (.if_icmp .lt 5, 3) := by decide +kernel
theorem dX1_canPlace_14 : decode cX1_canPlace 14 = .ok (.iconst 1, 1) := by decide +kernel
theorem dX1_canPlace_15 : decode cX1_canPlace 15 = .ok (.ireturn, 1) := by decide +kernel
theorem dX1_canPlace_16 : decode cX1_canPlace 16 = .ok (.iconst 0, 1) := by decide +kernel
theorem dX1_canPlace_17 : decode cX1_canPlace 17 = .ok (.istore 4, 2) := by decide +kernel
theorem dX1_canPlace_19 : decode cX1_canPlace 19 = .ok (.iload 4, 2) := by decide +kernel
theorem dX1_canPlace_21 : decode cX1_canPlace 21 = .ok (.iload_n 3, 1) := by decide +kernel
theorem dX1_canPlace_22 : decode cX1_canPlace 22 = .ok (.if_icmp .ge 42, 3) := by decide +kernel
theorem dX1_canPlace_25 : decode cX1_canPlace 25 = .ok (.aload_n 0, 1) := by decide +kernel
theorem dX1_canPlace_26 : decode cX1_canPlace 26 = .ok (.aload_n 1, 1) := by decide +kernel
theorem dX1_canPlace_27 : decode cX1_canPlace 27 = .ok (.iload_n 2, 1) := by decide +kernel
theorem dX1_canPlace_28 : decode cX1_canPlace 28 = .ok (.iload 4, 2) := by decide +kernel
theorem dX1_canPlace_30 : decode cX1_canPlace 30 = .ok (.invokestatic 25, 3) := by decide +kernel
theorem dX1_canPlace_33 : decode cX1_canPlace 33 = .ok (.ifCond .ne 6, 3) := by decide +kernel
theorem dX1_canPlace_36 : decode cX1_canPlace 36 = .ok (.goto 22, 3) := by decide +kernel
theorem dX1_canPlace_39 : decode cX1_canPlace 39 = .ok (.aload_n 1, 1) := by decide +kernel
theorem dX1_canPlace_40 : decode cX1_canPlace 40 = .ok (.iload_n 2, 1) := by decide +kernel
theorem dX1_canPlace_41 : decode cX1_canPlace 41 = .ok (.iload 4, 2) := by decide +kernel
theorem dX1_canPlace_43 : decode cX1_canPlace 43 = .ok (.iastore, 1) := by decide +kernel
theorem dX1_canPlace_44 : decode cX1_canPlace 44 = .ok (.aload_n 0, 1) := by decide +kernel
theorem dX1_canPlace_45 : decode cX1_canPlace 45 = .ok (.aload_n 1, 1) := by decide +kernel
theorem dX1_canPlace_46 : decode cX1_canPlace 46 = .ok (.iload_n 2, 1) := by decide +kernel
theorem dX1_canPlace_47 : decode cX1_canPlace 47 = .ok (.iconst 1, 1) := by decide +kernel
theorem dX1_canPlace_48 : decode cX1_canPlace 48 = .ok (.iadd, 1) := by decide +kernel
theorem dX1_canPlace_49 : decode cX1_canPlace 49 = .ok (.iload_n 3, 1) := by decide +kernel
theorem dX1_canPlace_50 : decode cX1_canPlace 50 = .ok (.invokestatic 15, 3) := by decide +kernel
theorem dX1_canPlace_53 : decode cX1_canPlace 53 = .ok (.ifCond .eq 5, 3) := by decide +kernel
theorem dX1_canPlace_56 : decode cX1_canPlace 56 = .ok (.iconst 1, 1) := by decide +kernel
theorem dX1_canPlace_57 : decode cX1_canPlace 57 = .ok (.ireturn, 1) := by decide +kernel
theorem dX1_canPlace_58 : decode cX1_canPlace 58 = .ok (.iinc 4 1, 3) := by decide +kernel
theorem dX1_canPlace_61 : decode cX1_canPlace 61 = .ok (.goto (-42), 3) := by decide +kernel
theorem dX1_canPlace_64 : decode cX1_canPlace 64 = .ok (.iconst 0, 1) := by decide +kernel
theorem dX1_canPlace_65 : decode cX1_canPlace 65 = .ok (.ireturn, 1) := by decide +kernel
theorem dX1_isCalm_0 : decode cX1_isCalm 0 = .ok (.iconst 0, 1) := by decide +kernel
theorem dX1_isCalm_1 : decode cX1_isCalm 1 = .ok (.istore 4, 2) := by decide +kernel
theorem dX1_isCalm_3 : decode cX1_isCalm 3 = .ok (.iload 4, 2) := by decide +kernel
theorem dX1_isCalm_5 : decode cX1_isCalm 5 = .ok (.iload_n 2, 1) := by decide +kernel
theorem dX1_isCalm_6 : decode cX1_isCalm 6 = .ok (.if_icmp .ge 34, 3) := by decide +kernel
theorem dX1_isCalm_9 : decode cX1_isCalm 9 = .ok (.aload_n 1, 1) := by decide +kernel
theorem dX1_isCalm_10 : decode cX1_isCalm 10 = .ok (.iload 4, 2) := by decide +kernel
theorem dX1_isCalm_12 : decode cX1_isCalm 12 = .ok (.iaload, 1) := by decide +kernel
theorem dX1_isCalm_13 : decode cX1_isCalm 13 = .ok (.iload_n 3, 1) := by decide +kernel
theorem dX1_isCalm_14 : decode cX1_isCalm 14 = .ok (.if_icmp .ne 20, 3) := by decide +kernel
theorem dX1_isCalm_17 : decode cX1_isCalm 17 = .ok (.aload_n 0, 1) := by decide +kernel
theorem dX1_isCalm_18 : decode cX1_isCalm 18 = .ok (.getfield 28, 3) := by decide +kernel
theorem dX1_isCalm_21 : decode cX1_isCalm 21 = .ok (.iload_n 2, 1) := by decide +kernel
theorem dX1_isCalm_22 : decode cX1_isCalm 22 = .ok (.iaload, 1) := by decide +kernel
theorem dX1_isCalm_23 : decode cX1_isCalm 23 = .ok (.iload 4, 2) := by decide +kernel
theorem dX1_isCalm_25 : decode cX1_isCalm 25 = .ok (.invokestatic 31, 3) := by decide +kernel
theorem dX1_isCalm_28 : decode cX1_isCalm 28 = .ok (.iconst 1, 1) := by decide +kernel
theorem dX1_isCalm_29 : decode cX1_isCalm 29 = .ok (.if_icmp .ne 5, 3) := by decide +kernel
theorem dX1_isCalm_32 : decode cX1_isCalm 32 = .ok (.iconst 0, 1) := by decide +kernel
theorem dX1_isCalm_33 : decode cX1_isCalm 33 = .ok (.ireturn, 1) := by decide +kernel
theorem dX1_isCalm_34 : decode cX1_isCalm 34 = .ok (.iinc 4 1, 3) := by decide +kernel
theorem dX1_isCalm_37 : decode cX1_isCalm 37 = .ok (.goto (-34), 3) := by decide +kernel
theorem dX1_isCalm_40 : decode cX1_isCalm 40 = .ok (.iconst 1, 1) := by decide +kernel
theorem dX1_isCalm_41 : decode cX1_isCalm 41 = .ok (.ireturn, 1) := by decide +kernel
theorem dX2_init_0 : decode cX2_init 0 = .ok (.aload_n 0, 1) := by decide +kernel
theorem dX2_init_1 : decode cX2_init 1 = .ok (.invokespecial 1, 3) := by decide +kernel
theorem dX2_init_4 : decode cX2_init 4 = .ok (.aload_n 0, 1) := by decide +kernel
theorem dX2_init_5 : decode cX2_init 5 = .ok (.lconst 0, 1) := by decide +kernel
theorem dX2_init_6 : decode cX2_init 6 = .ok (.putfield 7, 3) := by decide +kernel
theorem dX2_init_9 : decode cX2_init 9 = .ok (.aload_n 0, 1) := by decide +kernel
theorem dX2_init_10 : decode cX2_init 10 = .ok (.lconst 1, 1) := by decide +kernel
theorem dX2_init_11 : decode cX2_init 11 = .ok (.putfield 13, 3) := by decide +kernel
theorem dX2_init_14 : decode cX2_init 14 = .ok (.return_, 1) := by decide +kernel
theorem dX2_become_0 : decode cX2_become 0 = .ok (.lload_n 1, 1) := by decide +kernel
theorem dX2_become_1 : decode cX2_become 1 = .ok (.lload_n 3, 1) := by decide +kernel
theorem dX2_become_2 : decode cX2_become 2 = .ok (.invokestatic 16, 3) := by decide +kernel
theorem dX2_become_5 : decode cX2_become 5 = .ok (.lstore 5, 2) := by decide +kernel
theorem dX2_become_7 : decode cX2_become 7 = .ok (.lload 5, 2) := by decide +kernel
theorem dX2_become_9 : decode cX2_become 9 = .ok (.lconst 0, 1) := by decide +kernel
theorem dX2_become_10 : decode cX2_become 10 = .ok (.lcmp, 1) := by decide +kernel
theorem dX2_become_11 : decode cX2_become 11 = .ok (.ifCond .ne 4, 3) := by decide +kernel
theorem dX2_become_14 : decode cX2_become 14 = .ok (.return_, 1) := by decide +kernel
theorem dX2_become_15 : decode cX2_become 15 = .ok (.aload_n 0, 1) := by decide +kernel
theorem dX2_become_16 : decode cX2_become 16 = .ok (.lload_n 1, 1) := by decide +kernel
theorem dX2_become_17 : decode cX2_become 17 = .ok (.lload 5, 2) := by decide +kernel
theorem dX2_become_19 : decode cX2_become 19 = .ok (.ldiv, 1) := by decide +kernel
theorem dX2_become_20 : decode cX2_become 20 = .ok (.putfield 7, 3) := by decide +kernel
theorem dX2_become_23 : decode cX2_become 23 = .ok (.aload_n 0, 1) := by decide +kernel
theorem dX2_become_24 : decode cX2_become 24 = .ok (.lload_n 3, 1) := by decide +kernel
theorem dX2_become_25 : decode cX2_become 25 = .ok (.lload 5, 2) := by decide +kernel
theorem dX2_become_27 : decode cX2_become 27 = .ok (.ldiv, 1) := by decide +kernel
theorem dX2_become_28 : decode cX2_become 28 = .ok (.putfield 13, 3) := by decide +kernel
theorem dX2_become_31 : decode cX2_become 31 = .ok (.return_, 1) := by decide +kernel
theorem dX2_commonDivisor_0 : decode cX2_commonDivisor 0 = .ok (.lload_n 0, 1) := by decide +kernel
theorem dX2_commonDivisor_1 : decode cX2_commonDivisor 1 = .ok (.lstore 4, 2) := by decide +kernel
theorem dX2_commonDivisor_3 : decode cX2_commonDivisor 3 = .ok (.lload_n 2, 1) := by decide +kernel
theorem dX2_commonDivisor_4 : decode cX2_commonDivisor 4 = .ok (.lstore 6, 2) := by decide +kernel
theorem dX2_commonDivisor_6 : decode cX2_commonDivisor 6 = .ok (.iconst 0, 1) := by decide +kernel
theorem dX2_commonDivisor_7 : decode cX2_commonDivisor 7 = .ok (.istore 8, 2) := by decide +kernel
theorem dX2_commonDivisor_9 : decode cX2_commonDivisor 9 = .ok (.iload 8, 2) := by decide +kernel
theorem dX2_commonDivisor_11 : decode cX2_commonDivisor 11 = .ok (.bipush 100, 2) := by decide +kernel
theorem dX2_commonDivisor_13 : decode cX2_commonDivisor 13 = .ok (.if_icmp .ge 31, 3) := by decide +kernel
theorem dX2_commonDivisor_16 : decode cX2_commonDivisor 16 = .ok (.lload 6, 2) := by decide +kernel
theorem dX2_commonDivisor_18 : decode cX2_commonDivisor 18 = .ok (.lconst 0, 1) := by decide +kernel
theorem dX2_commonDivisor_19 : decode cX2_commonDivisor 19 = .ok (.lcmp, 1) := by decide +kernel
theorem dX2_commonDivisor_20 : decode cX2_commonDivisor 20 = .ok (.ifCond .eq 24, 3) := by decide +kernel
theorem dX2_commonDivisor_23 : decode cX2_commonDivisor 23 = .ok (.lload 4, 2) := by decide +kernel
theorem dX2_commonDivisor_25 : decode cX2_commonDivisor 25 = .ok (.lload 6, 2) := by decide +kernel
theorem dX2_commonDivisor_27 : decode cX2_commonDivisor 27 = .ok (.lrem, 1) := by decide +kernel
theorem dX2_commonDivisor_28 : decode cX2_commonDivisor 28 = .ok (.lstore 9, 2) := by decide +kernel
theorem dX2_commonDivisor_30 : decode cX2_commonDivisor 30 = .ok (.lload 6, 2) := by decide +kernel
theorem dX2_commonDivisor_32 : decode cX2_commonDivisor 32 = .ok (.lstore 4, 2) := by decide +kernel
theorem dX2_commonDivisor_34 : decode cX2_commonDivisor 34 = .ok (.lload 9, 2) := by decide +kernel
theorem dX2_commonDivisor_36 : decode cX2_commonDivisor 36 = .ok (.lstore 6, 2) := by decide +kernel
theorem dX2_commonDivisor_38 : decode cX2_commonDivisor 38 = .ok (.iinc 8 1, 3) := by decide +kernel
theorem dX2_commonDivisor_41 : decode cX2_commonDivisor 41 = .ok (.goto (-32), 3) := by decide +kernel
theorem dX2_commonDivisor_44 : decode cX2_commonDivisor 44 = .ok (.lload 4, 2) := by decide +kernel
theorem dX2_commonDivisor_46 : decode cX2_commonDivisor 46 = .ok (.lreturn, 1) := by decide +kernel
theorem dX3_init_0 : decode cX3_init 0 = .ok (.aload_n 0, 1) := by decide +kernel
theorem dX3_init_1 : decode cX3_init 1 = .ok (.invokespecial 3, 3) := by decide +kernel
theorem dX3_init_4 : decode cX3_init 4 = .ok (.aload_n 0, 1) := by decide +kernel
theorem dX3_init_5 : decode cX3_init 5 = .ok (.new 9, 3) := by decide +kernel
theorem dX3_init_8 : decode cX3_init 8 = .ok (.dup, 1) := by decide +kernel
theorem dX3_init_9 : decode cX3_init 9 = .ok (.invokespecial 11, 3) := by decide +kernel
theorem dX3_init_12 : decode cX3_init 12 = .ok (.putfield 12, 3) := by decide +kernel
theorem dX3_init_15 : decode cX3_init 15 = .ok (.aload_n 0, 1) := by decide +kernel
theorem dX3_init_16 : decode cX3_init 16 = .ok (.bipush 7, 2) := by decide +kernel
theorem dX3_init_18 : decode cX3_init 18 = .ok (.newarray .int, 2) := by decide +kernel
theorem dX3_init_20 : decode cX3_init 20 = .ok (.putfield 18, 3) := by decide +kernel
theorem dX3_init_23 : decode cX3_init 23 = .ok (.return_, 1) := by decide +kernel
theorem dX3_goOn_0 : decode cX3_goOn 0 = .ok (.aload_n 0, 1) := by decide +kernel
theorem dX3_goOn_1 : decode cX3_goOn 1 = .ok (.getfield 12, 3) := by decide +kernel
theorem dX3_goOn_4 : decode cX3_goOn 4 = .ok (.aload_n 1, 1) := by decide +kernel
theorem dX3_goOn_5 : decode cX3_goOn 5 = .ok (.getfield 22, 3) := by decide +kernel
theorem dX3_goOn_8 : decode cX3_goOn 8 = .ok (.invokevirtual 25, 3) := by decide +kernel
theorem dX3_goOn_11 : decode cX3_goOn 11 = .ok (.aload_n 0, 1) := by decide +kernel
theorem dX3_goOn_12 : decode cX3_goOn 12 = .ok (.aload_n 1, 1) := by decide +kernel
theorem dX3_goOn_13 : decode cX3_goOn 13 = .ok (.invokevirtual 29, 3) := by decide +kernel
theorem dX3_goOn_16 : decode cX3_goOn 16 = .ok (.return_, 1) := by decide +kernel
theorem dX3_startAnew_0 : decode cX3_startAnew 0 = .ok (.aload_n 0, 1) := by decide +kernel
theorem dX3_startAnew_1 : decode cX3_startAnew 1 = .ok (.getfield 12, 3) := by decide +kernel
theorem dX3_startAnew_4 : decode cX3_startAnew 4 = .ok (.invokevirtual 33, 3) := by decide +kernel
theorem dX3_startAnew_7 : decode cX3_startAnew 7 = .ok (.aload_n 0, 1) := by decide +kernel
theorem dX3_startAnew_8 : decode cX3_startAnew 8 = .ok (.aload_n 1, 1) := by decide +kernel
theorem dX3_startAnew_9 : decode cX3_startAnew 9 = .ok (.invokevirtual 29, 3) := by decide +kernel
theorem dX3_startAnew_12 : decode cX3_startAnew 12 = .ok (.return_, 1) := by decide +kernel
theorem dX3_boardAsTold_0 : decode cX3_boardAsTold 0 = .ok (.aload_n 1, 1) := by decide +kernel
theorem dX3_boardAsTold_1 : decode cX3_boardAsTold 1 = .ok (.getfield 36, 3) := by decide +kernel
theorem dX3_boardAsTold_4 : decode cX3_boardAsTold 4 = .ok (.iconst 0, 1) := by decide +kernel
theorem dX3_boardAsTold_5 : decode cX3_boardAsTold 5 = .ok (.aload_n 0, 1) := by decide +kernel
theorem dX3_boardAsTold_6 : decode cX3_boardAsTold 6 = .ok (.getfield 18, 3) := by decide +kernel
theorem dX3_boardAsTold_9 : decode cX3_boardAsTold 9 = .ok (.iconst 0, 1) := by decide +kernel
theorem dX3_boardAsTold_10 : decode cX3_boardAsTold 10 = .ok (.bipush 7, 2) := by decide +kernel
theorem dX3_boardAsTold_12 : decode cX3_boardAsTold 12 = .ok (.invokestatic 39, 3) := by decide +kernel
theorem dX3_boardAsTold_15 : decode cX3_boardAsTold 15 = .ok (.aload_n 0, 1) := by decide +kernel
theorem dX3_boardAsTold_16 : decode cX3_boardAsTold 16 = .ok (.iconst 0, 1) := by decide +kernel
theorem dX3_boardAsTold_17 : decode cX3_boardAsTold 17 = .ok (.putfield 45, 3) := by decide +kernel
theorem dX3_boardAsTold_20 : decode cX3_boardAsTold 20 = .ok (.return_, 1) := by decide +kernel
theorem dX3_passOne_0 : decode cX3_passOne 0 = .ok (.aload_n 1, 1) := by decide +kernel
theorem dX3_passOne_1 : decode cX3_passOne 1 = .ok (.aload_n 0, 1) := by decide +kernel
theorem dX3_passOne_2 : decode cX3_passOne 2 = .ok (.getfield 12, 3) := by decide +kernel
theorem dX3_passOne_5 : decode cX3_passOne 5 = .ok (.aload_n 0, 1) := by decide +kernel
theorem dX3_passOne_6 : decode cX3_passOne 6 = .ok (.getfield 18, 3) := by decide +kernel
theorem dX3_passOne_9 : decode cX3_passOne 9 = .ok (.aload_n 0, 1) := by decide +kernel
theorem dX3_passOne_10 : decode cX3_passOne 10 = .ok (.getfield 45, 3) := by decide +kernel
theorem dX3_passOne_13 : decode cX3_passOne 13 = .ok (.invokevirtual 49, 3) := by decide +kernel
theorem dX3_passOne_16 : decode cX3_passOne 16 = .ok (.return_, 1) := by decide +kernel
theorem dX3_passThrough_0 : decode cX3_passThrough 0 = .ok (.aload_n 0, 1) := by decide +kernel
theorem dX3_passThrough_1 : decode cX3_passThrough 1 = .ok (.getfield 12, 3) := by decide +kernel
theorem dX3_passThrough_4 : decode cX3_passThrough 4 = .ok (.getfield 53, 3) := by decide +kernel
theorem dX3_passThrough_7 : decode cX3_passThrough 7 = .ok (.istore_n 3, 1) := by decide +kernel
theorem dX3_passThrough_8 : decode cX3_passThrough 8 = .ok (.iload_n 3, 1) := by decide +kernel
theorem dX3_passThrough_9 : decode cX3_passThrough 9 = .ok (.iload_n 2, 1) := by decide +kernel
theorem dX3_passThrough_10 : decode cX3_passThrough 10 = .ok (.if_icmp .gt 14, 3) := by decide +kernel
theorem dX3_passThrough_13 : decode cX3_passThrough 13 = .ok (.aload_n 0, 1) := by decide +kernel
theorem dX3_passThrough_14 : decode cX3_passThrough 14 = .ok (.aload_n 1, 1) := by decide +kernel
theorem dX3_passThrough_15 : decode cX3_passThrough 15 = .ok (.invokevirtual 56, 3) := by decide +kernel
theorem dX3_passThrough_18 : decode cX3_passThrough 18 = .ok (.iinc 3 1, 3) := by decide +kernel
theorem dX3_passThrough_21 : decode cX3_passThrough 21 = .ok (.goto (-13), 3) := by decide +kernel
theorem dX3_passThrough_24 : decode cX3_passThrough 24 = .ok (.return_, 1) := by decide +kernel
theorem dX3_missing_0 : decode cX3_missing 0 = .ok (.aload_n 0, 1) := by decide +kernel
theorem dX3_missing_1 : decode cX3_missing 1 = .ok (.getfield 12, 3) := by decide +kernel
theorem dX3_missing_4 : decode cX3_missing 4 = .ok (.getfield 59, 3) := by decide +kernel
theorem dX3_missing_7 : decode cX3_missing 7 = .ok (.aload_n 0, 1) := by decide +kernel
theorem dX3_missing_8 : decode cX3_missing 8 = .ok (.getfield 12, 3) := by decide +kernel
theorem dX3_missing_11 : decode cX3_missing 11 = .ok (.getfield 62, 3) := by decide +kernel
theorem dX3_missing_14 : decode cX3_missing 14 = .ok (.ior, 1) := by decide +kernel
theorem dX3_missing_15 : decode cX3_missing 15 = .ok (.invokestatic 65, 3) := by decide +kernel
theorem dX3_missing_18 : decode cX3_missing 18 = .ok (.ireturn, 1) := by decide +kernel
theorem dX3_betterBoarding_0 : decode cX3_betterBoarding 0 = .ok (.aload_n 0, 1) := by decide +kernel
theorem dX3_betterBoarding_1 : decode cX3_betterBoarding 1 = .ok (.aload_n 1, 1) := by decide +kernel
theorem dX3_betterBoarding_2 : decode cX3_betterBoarding 2 = .ok (.invokevirtual 71, 3) := by decide +kernel
theorem dX3_betterBoarding_5 : decode cX3_betterBoarding 5 = .ok (.aload_n 0, 1) := by decide +kernel
theorem dX3_betterBoarding_6 : decode cX3_betterBoarding 6 = .ok (.aload_n 1, 1) := by decide +kernel
theorem dX3_betterBoarding_7 : decode cX3_betterBoarding 7 = .ok (.bipush 9, 2) := by decide +kernel
theorem dX3_betterBoarding_9 : decode cX3_betterBoarding 9 = .ok (.invokevirtual 73, 3) := by decide +kernel
theorem dX3_betterBoarding_12 : decode cX3_betterBoarding 12 = .ok (.aload_n 0, 1) := by decide +kernel
theorem dX3_betterBoarding_13 : decode cX3_betterBoarding 13 = .ok (.invokevirtual 77, 3) := by decide +kernel
theorem dX3_betterBoarding_16 : decode cX3_betterBoarding 16 = .ok (.istore_n 2, 1) := by decide +kernel
theorem dX3_betterBoarding_17 : decode cX3_betterBoarding 17 = .ok (.iconst (-1), 1) := by decide +kernel
theorem dX3_betterBoarding_18 : decode cX3_betterBoarding 18 = .ok (.istore_n 3, 1) := by decide +kernel
theorem dX3_betterBoarding_19 : decode cX3_betterBoarding 19 = .ok (.iconst 0, 1) := by decide +kernel
theorem dX3_betterBoarding_20 : decode cX3_betterBoarding 20 = .ok (.istore 4, 2) := by decide +kernel
theorem dX3_betterBoarding_22 : decode cX3_betterBoarding 22 = .ok (.iload 4, 2) := by decide +kernel
theorem dX3_betterBoarding_24 : decode cX3_betterBoarding 24 = .ok (.aload_n 1, 1) := by decide +kernel
theorem dX3_betterBoarding_25 : decode cX3_betterBoarding 25 = .ok (.getfield 81, 3) := by decide +kernel
theorem dX3_betterBoarding_28 : decode cX3_betterBoarding 28 = .ok (.if_icmp .ge 59, 3) := by decide +kernel
theorem dX3_betterBoarding_31 : decode cX3_betterBoarding 31 = .ok (.iconst 0, 1) := by decide +kernel
theorem dX3_betterBoarding_32 : decode cX3_betterBoarding 32 = .ok (.istore 5, 2) := by decide +kernel
theorem dX3_betterBoarding_34 : decode cX3_betterBoarding 34 = .ok (.iload 5, 2) := by decide +kernel
theorem dX3_betterBoarding_36 : decode cX3_betterBoarding 36 = .ok (.aload_n 1, 1) := by decide +kernel
theorem dX3_betterBoarding_37 : decode cX3_betterBoarding 37 = .ok (.getfield 84, 3) := by decide +kernel
theorem dX3_betterBoarding_40 : decode cX3_betterBoarding 40 = .ok (.iload 4, 2) := by decide +kernel
theorem dX3_betterBoarding_42 : decode cX3_betterBoarding 42 = .ok (.iaload, 1) := by decide +kernel
theorem dX3_betterBoarding_43 : decode cX3_betterBoarding 43 = .ok (.if_icmp .ge 38, 3) := by decide +kernel
theorem dX3_betterBoarding_46 : decode cX3_betterBoarding 46 = .ok (.aload_n 0, 1) := by decide +kernel
theorem dX3_betterBoarding_47 : decode cX3_betterBoarding 47 = .ok (.aload_n 1, 1) := by decide +kernel
theorem dX3_betterBoarding_48 : decode cX3_betterBoarding 48 = .ok (.iload 4, 2) := by decide +kernel
theorem dX3_betterBoarding_50 : decode cX3_betterBoarding 50 = .ok (.iload 5, 2) := by decide +kernel
theorem dX3_betterBoarding_52 : decode cX3_betterBoarding 52 = .ok (.invokevirtual 87, 3) := by decide +kernel
theorem dX3_betterBoarding_55 : decode cX3_betterBoarding 55 = .ok (.istore 6, 2) := by decide +kernel
theorem dX3_betterBoarding_57 : decode cX3_betterBoarding 57 = .ok (.iload 6, 2) := by decide +kernel
theorem dX3_betterBoarding_59 : decode cX3_betterBoarding 59 = .ok (.iload_n 2, 1) := by decide +kernel
theorem dX3_betterBoarding_60 : decode cX3_betterBoarding 60 = .ok (.if_icmp .ge 15, 3) := by decide +kernel
theorem dX3_betterBoarding_63 : decode cX3_betterBoarding 63 = .ok (.iload 6, 2) := by decide +kernel
theorem dX3_betterBoarding_65 : decode cX3_betterBoarding 65 = .ok (.istore_n 2, 1) := by decide +kernel
theorem dX3_betterBoarding_66 : decode cX3_betterBoarding 66 = .ok (.bipush 10, 2) := by decide +kernel
theorem dX3_betterBoarding_68 : decode cX3_betterBoarding 68 = .ok (.iload 4, 2) := by decide +kernel
theorem dX3_betterBoarding_70 : decode cX3_betterBoarding 70 = .ok (.imul, 1) := by decide +kernel
theorem dX3_betterBoarding_71 : decode cX3_betterBoarding 71 = .ok (.iload 5, 2) := by decide +kernel
theorem dX3_betterBoarding_73 : decode cX3_betterBoarding 73 = .ok (.iadd, 1) := by decide +kernel
theorem dX3_betterBoarding_74 : decode cX3_betterBoarding 74 = .ok (.istore_n 3, 1) := by decide +kernel
theorem dX3_betterBoarding_75 : decode cX3_betterBoarding 75 = .ok (.iinc 5 1, 3) := by decide +kernel
theorem dX3_betterBoarding_78 : decode cX3_betterBoarding 78 = .ok (.goto (-44), 3) := by decide +kernel
theorem dX3_betterBoarding_81 : decode cX3_betterBoarding 81 = .ok (.iinc 4 1, 3) := by decide +kernel
theorem dX3_betterBoarding_84 : decode cX3_betterBoarding 84 = .ok (.goto (-62), 3) := by decide +kernel
theorem dX3_betterBoarding_87 : decode cX3_betterBoarding 87 = .ok (.iload_n 3, 1) := by decide +kernel
theorem dX3_betterBoarding_88 : decode cX3_betterBoarding 88 = .ok (.ireturn, 1) := by decide +kernel
theorem dX3_missingIf_0 : decode cX3_missingIf 0 = .ok (.aload_n 0, 1) := by decide +kernel
theorem dX3_missingIf_1 : decode cX3_missingIf 1 = .ok (.aload_n 1, 1) := by decide +kernel
theorem dX3_missingIf_2 : decode cX3_missingIf 2 = .ok (.invokevirtual 71, 3) := by decide +kernel
theorem dX3_missingIf_5 : decode cX3_missingIf 5 = .ok (.iload_n 2, 1) := by decide +kernel
theorem dX3_missingIf_6 : decode cX3_missingIf 6 = .ok (.iconst 0, 1) := by decide +kernel
theorem dX3_missingIf_7 : decode cX3_missingIf 7 = .ok (.bipush 6, 2) := by decide +kernel
theorem dX3_missingIf_9 : decode cX3_missingIf 9 = .ok (.invokestatic 91, 3) := by decide +kernel
theorem dX3_missingIf_12 : decode cX3_missingIf 12 = .ok (.ifCond .eq 10, 3) := by decide +kernel
theorem dX3_missingIf_15 : decode cX3_missingIf 15 = .ok (.aload_n 0, 1) := by decide +kernel
theorem dX3_missingIf_16 : decode cX3_missingIf 16 = .ok (.getfield 18, 3) := by decide +kernel
theorem dX3_missingIf_19 : decode cX3_missingIf 19 = .ok (.iload_n 2, 1) := by decide +kernel
theorem dX3_missingIf_20 : decode cX3_missingIf 20 = .ok (.iload_n 3, 1) := by decide +kernel
theorem dX3_missingIf_21 : decode cX3_missingIf 21 = .ok (.iastore, 1) := by decide +kernel
theorem dX3_missingIf_22 : decode cX3_missingIf 22 = .ok (.aload_n 0, 1) := by decide +kernel
theorem dX3_missingIf_23 : decode cX3_missingIf 23 = .ok (.aload_n 1, 1) := by decide +kernel
theorem dX3_missingIf_24 : decode cX3_missingIf 24 = .ok (.bipush 9, 2) := by decide +kernel
theorem dX3_missingIf_26 : decode cX3_missingIf 26 = .ok (.invokevirtual 73, 3) := by decide +kernel
theorem dX3_missingIf_29 : decode cX3_missingIf 29 = .ok (.aload_n 0, 1) := by decide +kernel
theorem dX3_missingIf_30 : decode cX3_missingIf 30 = .ok (.invokevirtual 77, 3) := by decide +kernel
theorem dX3_missingIf_33 : decode cX3_missingIf 33 = .ok (.ireturn, 1) := by decide +kernel
theorem dX3_leastLift_0 : decode cX3_leastLift 0 = .ok (.iconst 0, 1) := by decide +kernel
theorem dX3_leastLift_1 : decode cX3_leastLift 1 = .ok (.istore_n 2, 1) := by decide +kernel
theorem dX3_leastLift_2 : decode cX3_leastLift 2 = .ok (.iload_n 2, 1) := by decide +kernel
theorem dX3_leastLift_3 : decode cX3_leastLift 3 = .ok (.bipush 9, 2) := by decide +kernel
theorem dX3_leastLift_5 : decode cX3_leastLift 5 = .ok (.if_icmp .ge 38, 3) := by decide +kernel
theorem dX3_leastLift_8 : decode cX3_leastLift 8 = .ok (.aload_n 0, 1) := by decide +kernel
theorem dX3_leastLift_9 : decode cX3_leastLift 9 = .ok (.aload_n 1, 1) := by decide +kernel
theorem dX3_leastLift_10 : decode cX3_leastLift 10 = .ok (.invokevirtual 71, 3) := by decide +kernel
theorem dX3_leastLift_13 : decode cX3_leastLift 13 = .ok (.aload_n 0, 1) := by decide +kernel
theorem dX3_leastLift_14 : decode cX3_leastLift 14 = .ok (.iload_n 2, 1) := by decide +kernel
theorem dX3_leastLift_15 : decode cX3_leastLift 15 = .ok (.putfield 45, 3) := by decide +kernel
theorem dX3_leastLift_18 : decode cX3_leastLift 18 = .ok (.aload_n 0, 1) := by decide +kernel
theorem dX3_leastLift_19 : decode cX3_leastLift 19 = .ok (.aload_n 1, 1) := by decide +kernel
theorem dX3_leastLift_20 : decode cX3_leastLift 20 = .ok (.bipush 9, 2) := by decide +kernel
theorem dX3_leastLift_22 : decode cX3_leastLift 22 = .ok (.invokevirtual 73, 3) := by decide +kernel
theorem dX3_leastLift_25 : decode cX3_leastLift 25 = .ok (.aload_n 0, 1) := by decide +kernel
theorem dX3_leastLift_26 : decode cX3_leastLift 26 = .ok (.getfield 12, 3) := by decide +kernel
theorem dX3_leastLift_29 : decode cX3_leastLift 29 = .ok (.getfield 62, 3) := by decide +kernel
theorem dX3_leastLift_32 : decode cX3_leastLift 32 = .ok (.ifCond .ne 5, 3) := by decide +kernel
theorem dX3_leastLift_35 : decode cX3_leastLift 35 = .ok (.iload_n 2, 1) := by decide +kernel
theorem dX3_leastLift_36 : decode cX3_leastLift 36 = .ok (.ireturn, 1) := by decide +kernel
theorem dX3_leastLift_37 : decode cX3_leastLift 37 = .ok (.iinc 2 1, 3) := by decide +kernel
theorem dX3_leastLift_40 : decode cX3_leastLift 40 = .ok (.goto (-38), 3) := by decide +kernel
theorem dX3_leastLift_43 : decode cX3_leastLift 43 = .ok (.bipush 9, 2) := by decide +kernel
theorem dX3_leastLift_45 : decode cX3_leastLift 45 = .ok (.ireturn, 1) := by decide +kernel
theorem dX3_levyOfDays_0 : decode cX3_levyOfDays 0 = .ok (.iload_n 2, 1) := by decide +kernel
theorem dX3_levyOfDays_1 : decode cX3_levyOfDays 1 = .ok (.i2l, 1) := by decide +kernel
theorem dX3_levyOfDays_2 : decode cX3_levyOfDays 2 = .ok (.lstore 4, 2) := by decide +kernel
theorem dX3_levyOfDays_4 : decode cX3_levyOfDays 4 = .ok (.iconst 0, 1) := by decide +kernel
theorem dX3_levyOfDays_5 : decode cX3_levyOfDays 5 = .ok (.istore 6, 2) := by decide +kernel
theorem dX3_levyOfDays_7 : decode cX3_levyOfDays 7 = .ok (.iconst 0, 1) := by decide +kernel
theorem dX3_levyOfDays_8 : decode cX3_levyOfDays 8 = .ok (.istore 7, 2) := by decide +kernel
theorem dX3_levyOfDays_10 : decode cX3_levyOfDays 10 = .ok (.iload 7, 2) := by decide +kernel
theorem dX3_levyOfDays_12 : decode cX3_levyOfDays 12 = .ok (.iload_n 3, 1) := by decide +kernel
theorem dX3_levyOfDays_13 : decode cX3_levyOfDays 13 = .ok (.if_icmp .ge 100, 3) := by decide +kernel
theorem dX3_levyOfDays_16 : decode cX3_levyOfDays 16 = .ok (.aload_n 0, 1) := by decide +kernel
theorem dX3_levyOfDays_17 : decode cX3_levyOfDays 17 = .ok (.aload_n 1, 1) := by decide +kernel
theorem dX3_levyOfDays_18 : decode cX3_levyOfDays 18 = .ok (.invokevirtual 71, 3) := by decide +kernel
theorem dX3_levyOfDays_21 : decode cX3_levyOfDays 21 = .ok (.iconst 0, 1) := by decide +kernel
theorem dX3_levyOfDays_22 : decode cX3_levyOfDays 22 = .ok (.istore 8, 2) := by decide +kernel
theorem dX3_levyOfDays_24 : decode cX3_levyOfDays 24 = .ok (.iload 8, 2) := by decide +kernel
theorem dX3_levyOfDays_26 : decode cX3_levyOfDays 26 = .ok (.aload_n 1, 1) := by decide +kernel
theorem dX3_levyOfDays_27 : decode cX3_levyOfDays 27 = .ok (.getfield 81, 3) := by decide +kernel
theorem dX3_levyOfDays_30 : decode cX3_levyOfDays 30 = .ok (.if_icmp .ge 58, 3) := by decide +kernel
theorem dX3_levyOfDays_33 : decode cX3_levyOfDays 33 = .ok (.lload 4, 2) := by decide +kernel
theorem dX3_levyOfDays_35 : decode cX3_levyOfDays 35 = .ok (.ldc2_w 95, 3) := by decide +kernel
theorem dX3_levyOfDays_38 : decode cX3_levyOfDays 38 = .ok (.lmul, 1) := by decide +kernel
theorem dX3_levyOfDays_39 : decode cX3_levyOfDays 39 = .ok (.ldc2_w 97, 3) := by decide +kernel
theorem dX3_levyOfDays_42 : decode cX3_levyOfDays 42 = .ok (.ladd, 1) := by decide +kernel
theorem dX3_levyOfDays_43 : decode cX3_levyOfDays 43 = .ok (.ldc2_w 99, 3) := by decide +kernel
theorem dX3_levyOfDays_46 : decode cX3_levyOfDays 46 = .ok (.lrem, 1) := by decide +kernel
theorem dX3_levyOfDays_47 : decode cX3_levyOfDays 47 = .ok (.lstore 4, 2) := by decide +kernel
theorem dX3_levyOfDays_49 : decode cX3_levyOfDays 49 = .ok (.aload_n 1, 1) := by decide +kernel
theorem dX3_levyOfDays_50 : decode cX3_levyOfDays 50 = .ok (.getfield 84, 3) := by decide +kernel
theorem dX3_levyOfDays_53 : decode cX3_levyOfDays 53 = .ok (.iload 8, 2) := by decide +kernel
theorem dX3_levyOfDays_55 : decode cX3_levyOfDays 55 = .ok (.iaload, 1) := by decide +kernel
theorem dX3_levyOfDays_56 : decode cX3_levyOfDays 56 = .ok (.ifCond .le 26, 3) := by decide +kernel
theorem dX3_levyOfDays_59 : decode cX3_levyOfDays 59 = .ok (.aload_n 0, 1) := by decide +kernel
theorem dX3_levyOfDays_60 : decode cX3_levyOfDays 60 = .ok (.getfield 18, 3) := by decide +kernel
theorem dX3_levyOfDays_63 : decode cX3_levyOfDays 63 = .ok (.iload 8, 2) := by decide +kernel
theorem dX3_levyOfDays_65 : decode cX3_levyOfDays 65 = .ok (.lload 4, 2) := by decide +kernel
theorem dX3_levyOfDays_67 : decode cX3_levyOfDays 67 = .ok (.ldc2_w 101, 3) := by decide +kernel
theorem dX3_levyOfDays_70 : decode cX3_levyOfDays 70 = .ok (.ldiv, 1) := by decide +kernel
theorem dX3_levyOfDays_71 : decode cX3_levyOfDays 71 = .ok (.aload_n 1, 1) := by decide +kernel
theorem dX3_levyOfDays_72 : decode cX3_levyOfDays 72 = .ok (.getfield 84, 3) := by decide +kernel
theorem dX3_levyOfDays_75 : decode cX3_levyOfDays 75 = .ok (.iload 8, 2) := by decide +kernel
theorem dX3_levyOfDays_77 : decode cX3_levyOfDays 77 = .ok (.iaload, 1) := by decide +kernel
theorem dX3_levyOfDays_78 : decode cX3_levyOfDays 78 = .ok (.i2l, 1) := by decide +kernel
theorem dX3_levyOfDays_79 : decode cX3_levyOfDays 79 = .ok (.lrem, 1) := by decide +kernel
theorem dX3_levyOfDays_80 : decode cX3_levyOfDays 80 = .ok (.l2i, 1) := by decide +kernel
theorem dX3_levyOfDays_81 : decode cX3_levyOfDays 81 = .ok (.iastore, 1) := by decide +kernel
theorem dX3_levyOfDays_82 : decode cX3_levyOfDays 82 = .ok (.iinc 8 1, 3) := by decide +kernel
theorem dX3_levyOfDays_85 : decode cX3_levyOfDays 85 = .ok (.goto (-61), 3) := by decide +kernel
theorem dX3_levyOfDays_88 : decode cX3_levyOfDays 88 = .ok (.aload_n 0, 1) := by decide +kernel
theorem dX3_levyOfDays_89 : decode cX3_levyOfDays 89 = .ok (.aload_n 1, 1) := by decide +kernel
theorem dX3_levyOfDays_90 : decode cX3_levyOfDays 90 = .ok (.bipush 9, 2) := by decide +kernel
theorem dX3_levyOfDays_92 : decode cX3_levyOfDays 92 = .ok (.invokevirtual 73, 3) := by decide +kernel
theorem dX3_levyOfDays_95 : decode cX3_levyOfDays 95 = .ok (.iload 6, 2) := by decide +kernel
theorem dX3_levyOfDays_97 : decode cX3_levyOfDays 97 = .ok (.aload_n 0, 1) := by decide +kernel
theorem dX3_levyOfDays_98 : decode cX3_levyOfDays 98 = .ok (.getfield 12, 3) := by decide +kernel
theorem dX3_levyOfDays_101 : decode cX3_levyOfDays 101 = .ok (.getfield 103, 3) := by decide +kernel
theorem dX3_levyOfDays_104 : decode cX3_levyOfDays 104 = .ok (.iadd, 1) := by decide +kernel
theorem dX3_levyOfDays_105 : decode cX3_levyOfDays 105 = .ok (.istore 6, 2) := by decide +kernel
theorem dX3_levyOfDays_107 : decode cX3_levyOfDays 107 = .ok (.iinc 7 1, 3) := by decide +kernel
theorem dX3_levyOfDays_110 : decode cX3_levyOfDays 110 = .ok (.goto (-100), 3) := by decide +kernel
theorem dX3_levyOfDays_113 : decode cX3_levyOfDays 113 = .ok (.iload 6, 2) := by decide +kernel
theorem dX3_levyOfDays_115 : decode cX3_levyOfDays 115 = .ok (.ireturn, 1) := by decide +kernel
theorem dX4_init_0 : decode cX4_init 0 = .ok (.aload_n 0, 1) := by decide +kernel
theorem dX4_init_1 : decode cX4_init 1 = .ok (.invokespecial 3, 3) := by decide +kernel
theorem dX4_init_4 : decode cX4_init 4 = .ok (.aload_n 0, 1) := by decide +kernel
theorem dX4_init_5 : decode cX4_init 5 = .ok (.sipush 150, 3) := by decide +kernel
theorem dX4_init_8 : decode cX4_init 8 = .ok (.newarray .int, 2) := by decide +kernel
theorem dX4_init_10 : decode cX4_init 10 = .ok (.putfield 9, 3) := by decide +kernel
theorem dX4_init_13 : decode cX4_init 13 = .ok (.aload_n 0, 1) := by decide +kernel
theorem dX4_init_14 : decode cX4_init 14 = .ok (.new 15, 3) := by decide +kernel
theorem dX4_init_17 : decode cX4_init 17 = .ok (.dup, 1) := by decide +kernel
theorem dX4_init_18 : decode cX4_init 18 = .ok (.invokespecial 17, 3) := by decide +kernel
theorem dX4_init_21 : decode cX4_init 21 = .ok (.putfield 18, 3) := by decide +kernel
theorem dX4_init_24 : decode cX4_init 24 = .ok (.return_, 1) := by decide +kernel
theorem dX4_addByte_0 : decode cX4_addByte 0 = .ok (.aload_n 0, 1) := by decide +kernel
theorem dX4_addByte_1 : decode cX4_addByte 1 = .ok (.getfield 22, 3) := by decide +kernel
theorem dX4_addByte_4 : decode cX4_addByte 4 = .ok (.sipush 150, 3) := by decide +kernel
theorem dX4_addByte_7 : decode cX4_addByte 7 = .ok (.if_icmp .lt 4, 3) := by decide +kernel
theorem dX4_addByte_10 : decode cX4_addByte 10 = .ok (.return_, 1) := by decide +kernel
theorem dX4_addByte_11 : decode cX4_addByte 11 = .ok (.aload_n 0, 1) := by decide +kernel
theorem dX4_addByte_12 : decode cX4_addByte 12 = .ok (.getfield 9, 3) := by decide +kernel
theorem dX4_addByte_15 : decode cX4_addByte 15 = .ok (.aload_n 0, 1) := by decide +kernel
theorem dX4_addByte_16 : decode cX4_addByte 16 = .ok (.getfield 22, 3) := by decide +kernel
theorem dX4_addByte_19 : decode cX4_addByte 19 = .ok (.iload_n 1, 1) := by decide +kernel
theorem dX4_addByte_20 : decode cX4_addByte 20 = .ok (.iastore, 1) := by decide +kernel
theorem dX4_addByte_21 : decode cX4_addByte 21 = .ok (.aload_n 0, 1) := by decide +kernel
theorem dX4_addByte_22 : decode cX4_addByte 22 = .ok (.dup, 1) := by decide +kernel
theorem dX4_addByte_23 : decode cX4_addByte 23 = .ok (.getfield 22, 3) := by decide +kernel
theorem dX4_addByte_26 : decode cX4_addByte 26 = .ok (.iconst 1, 1) := by decide +kernel
theorem dX4_addByte_27 : decode cX4_addByte 27 = .ok (.iadd, 1) := by decide +kernel
theorem dX4_addByte_28 : decode cX4_addByte 28 = .ok (.putfield 22, 3) := by decide +kernel
theorem dX4_addByte_31 : decode cX4_addByte 31 = .ok (.return_, 1) := by decide +kernel
theorem dX4_readBus_0 : decode cX4_readBus 0 = .ok (.aload_n 0, 1) := by decide +kernel
theorem dX4_readBus_1 : decode cX4_readBus 1 = .ok (.getfield 18, 3) := by decide +kernel
theorem dX4_readBus_4 : decode cX4_readBus 4 = .ok (.invokevirtual 26, 3) := by decide +kernel
theorem dX4_readBus_7 : decode cX4_readBus 7 = .ok (.aload_n 0, 1) := by decide +kernel
theorem dX4_readBus_8 : decode cX4_readBus 8 = .ok (.iconst 0, 1) := by decide +kernel
theorem dX4_readBus_9 : decode cX4_readBus 9 = .ok (.putfield 29, 3) := by decide +kernel
theorem dX4_readBus_12 : decode cX4_readBus 12 = .ok (.aload_n 0, 1) := by decide +kernel
theorem dX4_readBus_13 : decode cX4_readBus 13 = .ok (.invokevirtual 32, 3) := by decide +kernel
theorem dX4_readBus_16 : decode cX4_readBus 16 = .ok (.aload_n 0, 1) := by decide +kernel
theorem dX4_readBus_17 : decode cX4_readBus 17 = .ok (.ldc 35, 2) := by decide +kernel
theorem dX4_readBus_19 : decode cX4_readBus 19 = .ok (.invokevirtual 37, 3) := by decide +kernel
theorem dX4_readBus_22 : decode cX4_readBus 22 = .ok (.ifCond .eq 10, 3) := by decide +kernel
theorem dX4_readBus_25 : decode cX4_readBus 25 = .ok (.aload_n 0, 1) := by decide +kernel
theorem dX4_readBus_26 : decode cX4_readBus 26 = .ok (.invokevirtual 41, 3) := by decide +kernel
theorem dX4_readBus_29 : decode cX4_readBus 29 = .ok (.ifCond .ne 5, 3) := by decide +kernel
theorem dX4_readBus_32 : decode cX4_readBus 32 = .ok (.iconst 0, 1) := by decide +kernel
theorem dX4_readBus_33 : decode cX4_readBus 33 = .ok (.ireturn, 1) := by decide +kernel
theorem dX4_readBus_34 : decode cX4_readBus 34 = .ok (.aload_n 0, 1) := by decide +kernel
theorem dX4_readBus_35 : decode cX4_readBus 35 = .ok (.iconst 1, 1) := by decide +kernel
theorem dX4_readBus_36 : decode cX4_readBus 36 = .ok (.putfield 45, 3) := by decide +kernel
theorem dX4_readBus_39 : decode cX4_readBus 39 = .ok (.iconst 0, 1) := by decide +kernel
theorem dX4_readBus_40 : decode cX4_readBus 40 = .ok (.istore_n 1, 1) := by decide +kernel
theorem dX4_readBus_41 : decode cX4_readBus 41 = .ok (.iload_n 1, 1) := by decide +kernel
theorem dX4_readBus_42 : decode cX4_readBus 42 = .ok (.sipush 150, 3) := by decide +kernel
theorem dX4_readBus_45 : decode cX4_readBus 45 = .ok (.if_icmp .ge 41, 3) := by decide +kernel
theorem dX4_readBus_48 : decode cX4_readBus 48 = .ok (.aload_n 0, 1) := by decide +kernel
theorem dX4_readBus_49 : decode cX4_readBus 49 = .ok (.invokevirtual 32, 3) := by decide +kernel
theorem dX4_readBus_52 : decode cX4_readBus 52 = .ok (.aload_n 0, 1) := by decide +kernel
theorem dX4_readBus_53 : decode cX4_readBus 53 = .ok (.getfield 48, 3) := by decide +kernel
theorem dX4_readBus_56 : decode cX4_readBus 56 = .ok (.ifCond .ne 5, 3) := by decide +kernel
theorem dX4_readBus_59 : decode cX4_readBus 59 = .ok (.iconst 1, 1) := by decide +kernel
theorem dX4_readBus_60 : decode cX4_readBus 60 = .ok (.ireturn, 1) := by decide +kernel
theorem dX4_readBus_61 : decode cX4_readBus 61 = .ok (.aload_n 0, 1) := by decide +kernel
theorem dX4_readBus_62 : decode cX4_readBus 62 = .ok (.invokevirtual 51, 3) := by decide +kernel
theorem dX4_readBus_65 : decode cX4_readBus 65 = .ok (.ifCond .ne 5, 3) := by decide +kernel
theorem dX4_readBus_68 : decode cX4_readBus 68 = .ok (.iconst 0, 1) := by decide +kernel
theorem dX4_readBus_69 : decode cX4_readBus 69 = .ok (.ireturn, 1) := by decide +kernel
theorem dX4_readBus_70 : decode cX4_readBus 70 = .ok (.aload_n 0, 1) := by decide +kernel
theorem dX4_readBus_71 : decode cX4_readBus 71 = .ok (.dup, 1) := by decide +kernel
theorem dX4_readBus_72 : decode cX4_readBus 72 = .ok (.getfield 45, 3) := by decide +kernel
theorem dX4_readBus_75 : decode cX4_readBus 75 = .ok (.iconst 1, 1) := by decide +kernel
theorem dX4_readBus_76 : decode cX4_readBus 76 = .ok (.iadd, 1) := by decide +kernel
theorem dX4_readBus_77 : decode cX4_readBus 77 = .ok (.putfield 45, 3) := by decide +kernel
theorem dX4_readBus_80 : decode cX4_readBus 80 = .ok (.iinc 1 1, 3) := by decide +kernel
theorem dX4_readBus_83 : decode cX4_readBus 83 = .ok (.goto (-42), 3) := by decide +kernel
theorem dX4_readBus_86 : decode cX4_readBus 86 = .ok (.iconst 1, 1) := by decide +kernel
theorem dX4_readBus_87 : decode cX4_readBus 87 = .ok (.ireturn, 1) := by decide +kernel
theorem dX4_readItem_0 : decode cX4_readItem 0 = .ok (.aload_n 0, 1) := by decide +kernel
theorem dX4_readItem_1 : decode cX4_readItem 1 = .ok (.ldc 54, 2) := by decide +kernel
theorem dX4_readItem_3 : decode cX4_readItem 3 = .ok (.invokevirtual 37, 3) := by decide +kernel
theorem dX4_readItem_6 : decode cX4_readItem 6 = .ok (.ifCond .eq 8, 3) := by decide +kernel
theorem dX4_readItem_9 : decode cX4_readItem 9 = .ok (.aload_n 0, 1) := by decide +kernel
theorem dX4_readItem_10 : decode cX4_readItem 10 = .ok (.invokevirtual 56, 3) := by decide +kernel
theorem dX4_readItem_13 : decode cX4_readItem 13 = .ok (.ireturn, 1) := by decide +kernel
theorem dX4_readItem_14 : decode cX4_readItem 14 = .ok (.aload_n 0, 1) := by decide +kernel
theorem dX4_readItem_15 : decode cX4_readItem 15 = .ok (.ldc 59, 2) := by decide +kernel
theorem dX4_readItem_17 : decode cX4_readItem 17 = .ok (.invokevirtual 37, 3) := by decide +kernel
theorem dX4_readItem_20 : decode cX4_readItem 20 = .ok (.ifCond .eq 8, 3) := by decide +kernel
theorem dX4_readItem_23 : decode cX4_readItem 23 = .ok (.aload_n 0, 1) := by decide +kernel
theorem dX4_readItem_24 : decode cX4_readItem 24 = .ok (.invokevirtual 61, 3) := by decide +kernel
theorem dX4_readItem_27 : decode cX4_readItem 27 = .ok (.ireturn, 1) := by decide +kernel
theorem dX4_readItem_28 : decode cX4_readItem 28 = .ok (.aload_n 0, 1) := by decide +kernel
theorem dX4_readItem_29 : decode cX4_readItem 29 = .ok (.ldc 64, 2) := by decide +kernel
theorem dX4_readItem_31 : decode cX4_readItem 31 = .ok (.invokevirtual 37, 3) := by decide +kernel
theorem dX4_readItem_34 : decode cX4_readItem 34 = .ok (.ifCond .eq 8, 3) := by decide +kernel
theorem dX4_readItem_37 : decode cX4_readItem 37 = .ok (.aload_n 0, 1) := by decide +kernel
theorem dX4_readItem_38 : decode cX4_readItem 38 = .ok (.invokevirtual 66, 3) := by decide +kernel
theorem dX4_readItem_41 : decode cX4_readItem 41 = .ok (.ireturn, 1) := by decide +kernel
theorem dX4_readItem_42 : decode cX4_readItem 42 = .ok (.iconst 0, 1) := by decide +kernel
theorem dX4_readItem_43 : decode cX4_readItem 43 = .ok (.ireturn, 1) := by decide +kernel
theorem dX4_readRoom_0 : decode cX4_readRoom 0 = .ok (.aload_n 0, 1) := by decide +kernel
theorem dX4_readRoom_1 : decode cX4_readRoom 1 = .ok (.iconst 1, 1) := by decide +kernel
theorem dX4_readRoom_2 : decode cX4_readRoom 2 = .ok (.bipush 7, 2) := by decide +kernel
theorem dX4_readRoom_4 : decode cX4_readRoom 4 = .ok (.invokevirtual 69, 3) := by decide +kernel
theorem dX4_readRoom_7 : decode cX4_readRoom 7 = .ok (.ifCond .ne 5, 3) := by decide +kernel
theorem dX4_readRoom_10 : decode cX4_readRoom 10 = .ok (.iconst 0, 1) := by decide +kernel
theorem dX4_readRoom_11 : decode cX4_readRoom 11 = .ok (.ireturn, 1) := by decide +kernel
theorem dX4_readRoom_12 : decode cX4_readRoom 12 = .ok (.aload_n 0, 1) := by decide +kernel
theorem dX4_readRoom_13 : decode cX4_readRoom 13 = .ok (.getfield 18, 3) := by decide +kernel
theorem dX4_readRoom_16 : decode cX4_readRoom 16 = .ok (.aload_n 0, 1) := by decide +kernel
theorem dX4_readRoom_17 : decode cX4_readRoom 17 = .ok (.getfield 73, 3) := by decide +kernel
theorem dX4_readRoom_20 : decode cX4_readRoom 20 = .ok (.putfield 76, 3) := by decide +kernel
theorem dX4_readRoom_23 : decode cX4_readRoom 23 = .ok (.aload_n 0, 1) := by decide +kernel
theorem dX4_readRoom_24 : decode cX4_readRoom 24 = .ok (.invokevirtual 79, 3) := by decide +kernel
theorem dX4_readRoom_27 : decode cX4_readRoom 27 = .ok (.ireturn, 1) := by decide +kernel
theorem dX4_readBridge_0 : decode cX4_readBridge 0 = .ok (.aload_n 0, 1) := by decide +kernel
theorem dX4_readBridge_1 : decode cX4_readBridge 1 = .ok (.iconst 0, 1) := by decide +kernel
theorem dX4_readBridge_2 : decode cX4_readBridge 2 = .ok (.bipush 9, 2) := by decide +kernel
theorem dX4_readBridge_4 : decode cX4_readBridge 4 = .ok (.invokevirtual 69, 3) := by decide +kernel
theorem dX4_readBridge_7 : decode cX4_readBridge 7 = .ok (.ifCond .ne 5, 3) := by decide +kernel
theorem dX4_readBridge_10 : decode cX4_readBridge 10 = .ok (.iconst 0, 1) := by decide +kernel
theorem dX4_readBridge_11 : decode cX4_readBridge 11 = .ok (.ireturn, 1) := by decide +kernel
theorem dX4_readBridge_12 : decode cX4_readBridge 12 = .ok (.aload_n 0, 1) := by decide +kernel
theorem dX4_readBridge_13 : decode cX4_readBridge 13 = .ok (.getfield 73, 3) := by decide +kernel
theorem dX4_readBridge_16 : decode cX4_readBridge 16 = .ok (.istore_n 1, 1) := by decide +kernel
theorem dX4_readBridge_17 : decode cX4_readBridge 17 = .ok (.aload_n 0, 1) := by decide +kernel
theorem dX4_readBridge_18 : decode cX4_readBridge 18 = .ok (.iconst 1, 1) := by decide +kernel
theorem dX4_readBridge_19 : decode cX4_readBridge 19 = .ok (.bipush 9, 2) := by decide +kernel
theorem dX4_readBridge_21 : decode cX4_readBridge 21 = .ok (.invokevirtual 69, 3) := by decide +kernel
theorem dX4_readBridge_24 : decode cX4_readBridge 24 = .ok (.ifCond .ne 5, 3) := by decide +kernel
theorem dX4_readBridge_27 : decode cX4_readBridge 27 = .ok (.iconst 0, 1) := by decide +kernel
theorem dX4_readBridge_28 : decode cX4_readBridge 28 = .ok (.ireturn, 1) := by decide +kernel
theorem dX4_readBridge_29 : decode cX4_readBridge 29 = .ok (.iload_n 1, 1) := by decide +kernel
theorem dX4_readBridge_30 : decode cX4_readBridge 30 = .ok (.iconst 0, 1) := by decide +kernel
theorem dX4_readBridge_31 : decode cX4_readBridge 31 = .ok (.bipush 9, 2) := by decide +kernel
theorem dX4_readBridge_33 : decode cX4_readBridge 33 = .ok (.invokestatic 82, 3) := by decide +kernel
theorem dX4_readBridge_36 : decode cX4_readBridge 36 = .ok (.ifCond .eq 16, 3) := by decide +kernel
theorem dX4_readBridge_39 : decode cX4_readBridge 39 = .ok (.aload_n 0, 1) := by decide +kernel
theorem dX4_readBridge_40 : decode cX4_readBridge 40 = .ok (.getfield 18, 3) := by decide +kernel
theorem dX4_readBridge_43 : decode cX4_readBridge 43 = .ok (.getfield 86, 3) := by decide +kernel
theorem dX4_readBridge_46 : decode cX4_readBridge 46 = .ok (.iload_n 1, 1) := by decide +kernel
theorem dX4_readBridge_47 : decode cX4_readBridge 47 = .ok (.aload_n 0, 1) := by decide +kernel
theorem dX4_readBridge_48 : decode cX4_readBridge 48 = .ok (.getfield 73, 3) := by decide +kernel
theorem dX4_readBridge_51 : decode cX4_readBridge 51 = .ok (.iastore, 1) := by decide +kernel
theorem dX4_readBridge_52 : decode cX4_readBridge 52 = .ok (.aload_n 0, 1) := by decide +kernel
theorem dX4_readBridge_53 : decode cX4_readBridge 53 = .ok (.invokevirtual 79, 3) := by decide +kernel
theorem dX4_readBridge_56 : decode cX4_readBridge 56 = .ok (.ireturn, 1) := by decide +kernel
theorem dX4_readIdea_0 : decode cX4_readIdea 0 = .ok (.aload_n 0, 1) := by decide +kernel
theorem dX4_readIdea_1 : decode cX4_readIdea 1 = .ok (.getfield 18, 3) := by decide +kernel
theorem dX4_readIdea_4 : decode cX4_readIdea 4 = .ok (.getfield 89, 3) := by decide +kernel
theorem dX4_readIdea_7 : decode cX4_readIdea 7 = .ok (.bipush 7, 2) := by decide +kernel
theorem dX4_readIdea_9 : decode cX4_readIdea 9 = .ok (.if_icmp .lt 5, 3) := by decide +kernel
theorem dX4_readIdea_12 : decode cX4_readIdea 12 = .ok (.iconst 0, 1) := by decide +kernel
theorem dX4_readIdea_13 : decode cX4_readIdea 13 = .ok (.ireturn, 1) := by decide +kernel
theorem dX4_readIdea_14 : decode cX4_readIdea 14 = .ok (.aload_n 0, 1) := by decide +kernel
theorem dX4_readIdea_15 : decode cX4_readIdea 15 = .ok (.iconst 0, 1) := by decide +kernel
theorem dX4_readIdea_16 : decode cX4_readIdea 16 = .ok (.iconst 5, 1) := by decide +kernel
theorem dX4_readIdea_17 : decode cX4_readIdea 17 = .ok (.invokevirtual 69, 3) := by decide +kernel
theorem dX4_readIdea_20 : decode cX4_readIdea 20 = .ok (.ifCond .ne 5, 3) := by decide +kernel
theorem dX4_readIdea_23 : decode cX4_readIdea 23 = .ok (.iconst 0, 1) := by decide +kernel
theorem dX4_readIdea_24 : decode cX4_readIdea 24 = .ok (.ireturn, 1) := by decide +kernel
theorem dX4_readIdea_25 : decode cX4_readIdea 25 = .ok (.aload_n 0, 1) := by decide +kernel
theorem dX4_readIdea_26 : decode cX4_readIdea 26 = .ok (.getfield 73, 3) := by decide +kernel
theorem dX4_readIdea_29 : decode cX4_readIdea 29 = .ok (.istore_n 1, 1) := by decide +kernel
theorem dX4_readIdea_30 : decode cX4_readIdea 30 = .ok (.aload_n 0, 1) := by decide +kernel
theorem dX4_readIdea_31 : decode cX4_readIdea 31 = .ok (.iconst 1, 1) := by decide +kernel
theorem dX4_readIdea_32 : decode cX4_readIdea 32 = .ok (.bipush 9, 2) := by decide +kernel
theorem dX4_readIdea_34 : decode cX4_readIdea 34 = .ok (.invokevirtual 69, 3) := by decide +kernel
theorem dX4_readIdea_37 : decode cX4_readIdea 37 = .ok (.ifCond .ne 5, 3) := by decide +kernel
theorem dX4_readIdea_40 : decode cX4_readIdea 40 = .ok (.iconst 0, 1) := by decide +kernel
theorem dX4_readIdea_41 : decode cX4_readIdea 41 = .ok (.ireturn, 1) := by decide +kernel
theorem dX4_readIdea_42 : decode cX4_readIdea 42 = .ok (.aload_n 0, 1) := by decide +kernel
theorem dX4_readIdea_43 : decode cX4_readIdea 43 = .ok (.getfield 73, 3) := by decide +kernel
theorem dX4_readIdea_46 : decode cX4_readIdea 46 = .ok (.istore_n 2, 1) := by decide +kernel
theorem dX4_readIdea_47 : decode cX4_readIdea 47 = .ok (.aload_n 0, 1) := by decide +kernel
theorem dX4_readIdea_48 : decode cX4_readIdea 48 = .ok (.iconst 0, 1) := by decide +kernel
theorem dX4_readIdea_49 : decode cX4_readIdea 49 = .ok (.bipush 8, 2) := by decide +kernel
theorem dX4_readIdea_51 : decode cX4_readIdea 51 = .ok (.invokevirtual 69, 3) := by decide +kernel
theorem dX4_readIdea_54 : decode cX4_readIdea 54 = .ok (.ifCond .ne 5, 3) := by decide +kernel
theorem dX4_readIdea_57 : decode cX4_readIdea 57 = .ok (.iconst 0, 1) := by decide +kernel
theorem dX4_readIdea_58 : decode cX4_readIdea 58 = .ok (.ireturn, 1) := by decide +kernel
theorem dX4_readIdea_59 : decode cX4_readIdea 59 = .ok (.aload_n 0, 1) := by decide +kernel
theorem dX4_readIdea_60 : decode cX4_readIdea 60 = .ok (.getfield 73, 3) := by decide +kernel
theorem dX4_readIdea_63 : decode cX4_readIdea 63 = .ok (.istore_n 3, 1) := by decide +kernel
theorem dX4_readIdea_64 : decode cX4_readIdea 64 = .ok (.aload_n 0, 1) := by decide +kernel
theorem dX4_readIdea_65 : decode cX4_readIdea 65 = .ok (.iload_n 3, 1) := by decide +kernel
theorem dX4_readIdea_66 : decode cX4_readIdea 66 = .ok (.iconst 1, 1) := by decide +kernel
theorem dX4_readIdea_67 : decode cX4_readIdea 67 = .ok (.iadd, 1) := by decide +kernel
theorem dX4_readIdea_68 : decode cX4_readIdea 68 = .ok (.bipush 9, 2) := by decide +kernel
theorem dX4_readIdea_70 : decode cX4_readIdea 70 = .ok (.invokevirtual 69, 3) := by decide +kernel
theorem dX4_readIdea_73 : decode cX4_readIdea 73 = .ok (.ifCond .ne 5, 3) := by decide +kernel
theorem dX4_readIdea_76 : decode cX4_readIdea 76 = .ok (.iconst 0, 1) := by decide +kernel
theorem dX4_readIdea_77 : decode cX4_readIdea 77 = .ok (.ireturn, 1) := by decide +kernel
theorem dX4_readIdea_78 : decode cX4_readIdea 78 = .ok (.aload_n 0, 1) := by decide +kernel
theorem dX4_readIdea_79 : decode cX4_readIdea 79 = .ok (.getfield 18, 3) := by decide +kernel
theorem dX4_readIdea_82 : decode cX4_readIdea 82 = .ok (.iload_n 1, 1) := by decide +kernel
theorem dX4_readIdea_83 : decode cX4_readIdea 83 = .ok (.iload_n 2, 1) := by decide +kernel
theorem dX4_readIdea_84 : decode cX4_readIdea 84 = .ok (.iload_n 3, 1) := by decide +kernel
theorem dX4_readIdea_85 : decode cX4_readIdea 85 = .ok (.aload_n 0, 1) := by decide +kernel
theorem dX4_readIdea_86 : decode cX4_readIdea 86 = .ok (.getfield 73, 3) := by decide +kernel
theorem dX4_readIdea_89 : decode cX4_readIdea 89 = .ok (.invokevirtual 92, 3) := by decide +kernel
theorem dX4_readIdea_92 : decode cX4_readIdea 92 = .ok (.aload_n 0, 1) := by decide +kernel
theorem dX4_readIdea_93 : decode cX4_readIdea 93 = .ok (.invokevirtual 79, 3) := by decide +kernel
theorem dX4_readIdea_96 : decode cX4_readIdea 96 = .ok (.ireturn, 1) := by decide +kernel
theorem dX4_readQuarrel_0 : decode cX4_readQuarrel 0 = .ok (.aload_n 0, 1) := by decide +kernel
theorem dX4_readQuarrel_1 : decode cX4_readQuarrel 1 = .ok (.iconst 0, 1) := by decide +kernel
theorem dX4_readQuarrel_2 : decode cX4_readQuarrel 2 = .ok (.aload_n 0, 1) := by decide +kernel
theorem dX4_readQuarrel_3 : decode cX4_readQuarrel 3 = .ok (.getfield 18, 3) := by decide +kernel
theorem dX4_readQuarrel_6 : decode cX4_readQuarrel 6 = .ok (.getfield 89, 3) := by decide +kernel
theorem dX4_readQuarrel_9 : decode cX4_readQuarrel 9 = .ok (.iconst 1, 1) := by decide +kernel
theorem dX4_readQuarrel_10 : decode cX4_readQuarrel 10 = .ok (.isub, 1) := by decide +kernel
theorem dX4_readQuarrel_11 : decode cX4_readQuarrel 11 = .ok (.invokevirtual 69, 3) := by decide +kernel
theorem dX4_readQuarrel_14 : decode cX4_readQuarrel 14 = .ok (.ifCond .ne 5, 3) := by decide +kernel
theorem dX4_readQuarrel_17 : decode cX4_readQuarrel 17 = .ok (.iconst 0, 1) := by decide +kernel
theorem dX4_readQuarrel_18 : decode cX4_readQuarrel 18 = .ok (.ireturn, 1) := by decide +kernel
theorem dX4_readQuarrel_19 : decode cX4_readQuarrel 19 = .ok (.aload_n 0, 1) := by decide +kernel
theorem dX4_readQuarrel_20 : decode cX4_readQuarrel 20 = .ok (.getfield 73, 3) := by decide +kernel
theorem dX4_readQuarrel_23 : decode cX4_readQuarrel 23 = .ok (.istore_n 1, 1) := by decide +kernel
theorem dX4_readQuarrel_24 : decode cX4_readQuarrel 24 = .ok (.aload_n 0, 1) := by decide +kernel
theorem dX4_readQuarrel_25 : decode cX4_readQuarrel 25 = .ok (.iconst 0, 1) := by decide +kernel
theorem dX4_readQuarrel_26 : decode cX4_readQuarrel 26 = .ok (.aload_n 0, 1) := by decide +kernel
theorem dX4_readQuarrel_27 : decode cX4_readQuarrel 27 = .ok (.getfield 18, 3) := by decide +kernel
theorem dX4_readQuarrel_30 : decode cX4_readQuarrel 30 = .ok (.getfield 89, 3) := by decide +kernel
theorem dX4_readQuarrel_33 : decode cX4_readQuarrel 33 = .ok (.iconst 1, 1) := by decide +kernel
theorem dX4_readQuarrel_34 : decode cX4_readQuarrel 34 = .ok (.isub, 1) := by decide +kernel
theorem dX4_readQuarrel_35 : decode cX4_readQuarrel 35 = .ok (.invokevirtual 69, 3) := by decide +kernel
theorem dX4_readQuarrel_38 : decode cX4_readQuarrel 38 = .ok (.ifCond .eq 11, 3) := by decide +kernel
theorem dX4_readQuarrel_41 : decode cX4_readQuarrel 41 = .ok (.aload_n 0, 1) := by decide +kernel
theorem dX4_readQuarrel_42 : decode cX4_readQuarrel 42 = .ok (.getfield 73, 3) := by decide +kernel
theorem dX4_readQuarrel_45 : decode cX4_readQuarrel 45 = .ok (.iload_n 1, 1) := by decide +kernel
theorem dX4_readQuarrel_46 : decode cX4_readQuarrel 46 = .ok (.if_icmp .ne 5, 3) := by decide +kernel
theorem dX4_readQuarrel_49 : decode cX4_readQuarrel 49 = .ok (.iconst 0, 1) := by decide +kernel
theorem dX4_readQuarrel_50 : decode cX4_readQuarrel 50 = .ok (.ireturn, 1) := by decide +kernel
theorem dX4_readQuarrel_51 : decode cX4_readQuarrel 51 = .ok (.aload_n 0, 1) := by decide +kernel
theorem dX4_readQuarrel_52 : decode cX4_readQuarrel 52 = .ok (.getfield 18, 3) := by decide +kernel
theorem dX4_readQuarrel_55 : decode cX4_readQuarrel 55 = .ok (.iload_n 1, 1) := by decide +kernel
theorem dX4_readQuarrel_56 : decode cX4_readQuarrel 56 = .ok (.aload_n 0, 1) := by decide +kernel
theorem dX4_readQuarrel_57 : decode cX4_readQuarrel 57 = .ok (.getfield 73, 3) := by decide +kernel
theorem dX4_readQuarrel_60 : decode cX4_readQuarrel 60 = .ok (.iconst 1, 1) := by decide +kernel
theorem dX4_readQuarrel_61 : decode cX4_readQuarrel 61 = .ok (.invokevirtual 96, 3) := by decide +kernel
theorem dX4_readQuarrel_64 : decode cX4_readQuarrel 64 = .ok (.aload_n 0, 1) := by decide +kernel
theorem dX4_readQuarrel_65 : decode cX4_readQuarrel 65 = .ok (.invokevirtual 79, 3) := by decide +kernel
theorem dX4_readQuarrel_68 : decode cX4_readQuarrel 68 = .ok (.ireturn, 1) := by decide +kernel
theorem dX4_readNumber_0 : decode cX4_readNumber 0 = .ok (.aload_n 0, 1) := by decide +kernel
theorem dX4_readNumber_1 : decode cX4_readNumber 1 = .ok (.invokevirtual 32, 3) := by decide +kernel
theorem dX4_readNumber_4 : decode cX4_readNumber 4 = .ok (.aload_n 0, 1) := by decide +kernel
theorem dX4_readNumber_5 : decode cX4_readNumber 5 = .ok (.getfield 48, 3) := by decide +kernel
theorem dX4_readNumber_8 : decode cX4_readNumber 8 = .ok (.iconst 2, 1) := by decide +kernel
theorem dX4_readNumber_9 : decode cX4_readNumber 9 = .ok (.if_icmp .ne 19, 3) := by decide +kernel
theorem dX4_readNumber_12 : decode cX4_readNumber 12 = .ok (.aload_n 0, 1) := by decide +kernel
theorem dX4_readNumber_13 : decode cX4_readNumber 13 = .ok (.getfield 73, 3) := by decide +kernel
theorem dX4_readNumber_16 : decode cX4_readNumber 16 = .ok (.iload_n 1, 1) := by decide +kernel
theorem dX4_readNumber_17 : decode cX4_readNumber 17 = .ok (.iload_n 2, 1) := by decide +kernel
theorem dX4_readNumber_18 : decode cX4_readNumber 18 = .ok (.invokestatic 82, 3) := by decide +kernel
theorem dX4_readNumber_21 : decode cX4_readNumber 21 = .ok (.ifCond .eq 7, 3) := by decide +kernel
theorem dX4_readNumber_24 : decode cX4_readNumber 24 = .ok (.iconst 1, 1) := by decide +kernel
theorem dX4_readNumber_25 : decode cX4_readNumber 25 = .ok (.goto 4, 3) := by decide +kernel
theorem dX4_readNumber_28 : decode cX4_readNumber 28 = .ok (.iconst 0, 1) := by decide +kernel
theorem dX4_readNumber_29 : decode cX4_readNumber 29 = .ok (.ireturn, 1) := by decide +kernel
theorem dX4_readMark_0 : decode cX4_readMark 0 = .ok (.aload_n 0, 1) := by decide +kernel
theorem dX4_readMark_1 : decode cX4_readMark 1 = .ok (.invokevirtual 32, 3) := by decide +kernel
theorem dX4_readMark_4 : decode cX4_readMark 4 = .ok (.aload_n 0, 1) := by decide +kernel
theorem dX4_readMark_5 : decode cX4_readMark 5 = .ok (.getfield 48, 3) := by decide +kernel
theorem dX4_readMark_8 : decode cX4_readMark 8 = .ok (.iconst 3, 1) := by decide +kernel
theorem dX4_readMark_9 : decode cX4_readMark 9 = .ok (.if_icmp .ne 7, 3) := by decide +kernel
theorem dX4_readMark_12 : decode cX4_readMark 12 = .ok (.iconst 1, 1) := by decide +kernel
theorem dX4_readMark_13 : decode cX4_readMark 13 = .ok (.goto 4, 3) := by decide +kernel
theorem dX4_readMark_16 : decode cX4_readMark 16 = .ok (.iconst 0, 1) := by decide +kernel
theorem dX4_readMark_17 : decode cX4_readMark 17 = .ok (.ireturn, 1) := by decide +kernel
theorem dX4_isWord_0 : decode cX4_isWord 0 = .ok (.aload_n 0, 1) := by decide +kernel
theorem dX4_isWord_1 : decode cX4_isWord 1 = .ok (.getfield 48, 3) := by decide +kernel
theorem dX4_isWord_4 : decode cX4_isWord 4 = .ok (.iconst 1, 1) := by decide +kernel
theorem dX4_isWord_5 : decode cX4_isWord 5 = .ok (.if_icmp .ne 19, 3) := by decide +kernel
theorem dX4_isWord_8 : decode cX4_isWord 8 = .ok (.aload_n 0, 1) := by decide +kernel
theorem dX4_isWord_9 : decode cX4_isWord 9 = .ok (.getfield 29, 3) := by decide +kernel
theorem dX4_isWord_12 : decode cX4_isWord 12 = .ok (.aload_n 0, 1) := by decide +kernel
theorem dX4_isWord_13 : decode cX4_isWord 13 = .ok (.getfield 100, 3) := by decide +kernel
theorem dX4_isWord_16 : decode cX4_isWord 16 = .ok (.isub, 1) := by decide +kernel
theorem dX4_isWord_17 : decode cX4_isWord 17 = .ok (.aload_n 1, 1) := by decide +kernel
theorem dX4_isWord_18 : decode cX4_isWord 18 = .ok (.invokevirtual 103, 3) := by decide +kernel
theorem dX4_isWord_21 : decode cX4_isWord 21 = .ok (.if_icmp .eq 5, 3) := by decide +kernel
theorem dX4_isWord_24 : decode cX4_isWord 24 = .ok (.iconst 0, 1) := by decide +kernel
theorem dX4_isWord_25 : decode cX4_isWord 25 = .ok (.ireturn, 1) := by decide +kernel
theorem dX4_isWord_26 : decode cX4_isWord 26 = .ok (.iconst 0, 1) := by decide +kernel
theorem dX4_isWord_27 : decode cX4_isWord 27 = .ok (.istore_n 2, 1) := by decide +kernel
theorem dX4_isWord_28 : decode cX4_isWord 28 = .ok (.iload_n 2, 1) := by decide +kernel
theorem dX4_isWord_29 : decode cX4_isWord 29 = .ok (.aload_n 1, 1) := by decide +kernel
theorem dX4_isWord_30 : decode cX4_isWord 30 = .ok (.invokevirtual 103, 3) := by decide +kernel
theorem dX4_isWord_33 : decode cX4_isWord 33 = .ok (.if_icmp .ge 29, 3) := by decide +kernel
theorem dX4_isWord_36 : decode cX4_isWord 36 = .ok (.aload_n 0, 1) := by decide +kernel
theorem dX4_isWord_37 : decode cX4_isWord 37 = .ok (.aload_n 0, 1) := by decide +kernel
theorem dX4_isWord_38 : decode cX4_isWord 38 = .ok (.getfield 100, 3) := by decide +kernel
theorem dX4_isWord_41 : decode cX4_isWord 41 = .ok (.iload_n 2, 1) := by decide +kernel
theorem dX4_isWord_42 : decode cX4_isWord 42 = .ok (.iadd, 1) := by decide +kernel
theorem dX4_isWord_43 : decode cX4_isWord 43 = .ok (.invokevirtual 108, 3) := by decide +kernel
theorem dX4_isWord_46 : decode cX4_isWord 46 = .ok (.aload_n 1, 1) := by decide +kernel
theorem dX4_isWord_47 : decode cX4_isWord 47 = .ok (.iload_n 2, 1) := by decide +kernel
theorem dX4_isWord_48 : decode cX4_isWord 48 = .ok (.invokevirtual 112, 3) := by decide +kernel
theorem dX4_isWord_51 : decode cX4_isWord 51 = .ok (.if_icmp .eq 5, 3) := by decide +kernel
theorem dX4_isWord_54 : decode cX4_isWord 54 = .ok (.iconst 0, 1) := by decide +kernel
theorem dX4_isWord_55 : decode cX4_isWord 55 = .ok (.ireturn, 1) := by decide +kernel
theorem dX4_isWord_56 : decode cX4_isWord 56 = .ok (.iinc 2 1, 3) := by decide +kernel
theorem dX4_isWord_59 : decode cX4_isWord 59 = .ok (.goto (-31), 3) := by decide +kernel
theorem dX4_isWord_62 : decode cX4_isWord 62 = .ok (.iconst 1, 1) := by decide +kernel
theorem dX4_isWord_63 : decode cX4_isWord 63 = .ok (.ireturn, 1) := by decide +kernel
theorem dX4_step_0 : decode cX4_step 0 = .ok (.aload_n 0, 1) := by decide +kernel
theorem dX4_step_1 : decode cX4_step 1 = .ok (.aload_n 0, 1) := by decide +kernel
theorem dX4_step_2 : decode cX4_step 2 = .ok (.aload_n 0, 1) := by decide +kernel
theorem dX4_step_3 : decode cX4_step 3 = .ok (.getfield 29, 3) := by decide +kernel
theorem dX4_step_6 : decode cX4_step 6 = .ok (.invokevirtual 116, 3) := by decide +kernel
theorem dX4_step_9 : decode cX4_step 9 = .ok (.putfield 100, 3) := by decide +kernel
theorem dX4_step_12 : decode cX4_step 12 = .ok (.aload_n 0, 1) := by decide +kernel
theorem dX4_step_13 : decode cX4_step 13 = .ok (.aload_n 0, 1) := by decide +kernel
theorem dX4_step_14 : decode cX4_step 14 = .ok (.getfield 100, 3) := by decide +kernel
theorem dX4_step_17 : decode cX4_step 17 = .ok (.invokevirtual 108, 3) := by decide +kernel
theorem dX4_step_20 : decode cX4_step 20 = .ok (.istore_n 1, 1) := by decide +kernel
theorem dX4_step_21 : decode cX4_step 21 = .ok (.iload_n 1, 1) := by decide +kernel
theorem dX4_step_22 : decode cX4_step 22 = .ok (.iconst (-1), 1) := by decide +kernel
theorem dX4_step_23 : decode cX4_step 23 = .ok (.if_icmp .ne 19, 3) := by decide +kernel
theorem dX4_step_26 : decode cX4_step 26 = .ok (.aload_n 0, 1) := by decide +kernel
theorem dX4_step_27 : decode cX4_step 27 = .ok (.iconst 0, 1) := by decide +kernel
theorem dX4_step_28 : decode cX4_step 28 = .ok (.putfield 48, 3) := by decide +kernel
theorem dX4_step_31 : decode cX4_step 31 = .ok (.aload_n 0, 1) := by decide +kernel
theorem dX4_step_32 : decode cX4_step 32 = .ok (.aload_n 0, 1) := by decide +kernel
theorem dX4_step_33 : decode cX4_step 33 = .ok (.getfield 100, 3) := by decide +kernel
theorem dX4_step_36 : decode cX4_step 36 = .ok (.putfield 29, 3) := by decide +kernel
theorem dX4_step_39 : decode cX4_step 39 = .ok (.goto 119, 3) := by decide +kernel
theorem dX4_step_42 : decode cX4_step 42 = .ok (.iload_n 1, 1) := by decide +kernel
theorem dX4_step_43 : decode cX4_step 43 = .ok (.invokestatic 119, 3) := by decide +kernel
theorem dX4_step_46 : decode cX4_step 46 = .ok (.ifCond .eq 23, 3) := by decide +kernel
theorem dX4_step_49 : decode cX4_step 49 = .ok (.aload_n 0, 1) := by decide +kernel
theorem dX4_step_50 : decode cX4_step 50 = .ok (.iconst 1, 1) := by decide +kernel
theorem dX4_step_51 : decode cX4_step 51 = .ok (.putfield 48, 3) := by decide +kernel
theorem dX4_step_54 : decode cX4_step 54 = .ok (.aload_n 0, 1) := by decide +kernel
theorem dX4_step_55 : decode cX4_step 55 = .ok (.aload_n 0, 1) := by decide +kernel
theorem dX4_step_56 : decode cX4_step 56 = .ok (.aload_n 0, 1) := by decide +kernel
theorem dX4_step_57 : decode cX4_step 57 = .ok (.getfield 100, 3) := by decide +kernel
theorem dX4_step_60 : decode cX4_step 60 = .ok (.invokevirtual 123, 3) := by decide +kernel
theorem dX4_step_63 : decode cX4_step 63 = .ok (.putfield 29, 3) := by decide +kernel
theorem dX4_step_66 : decode cX4_step 66 = .ok (.goto 92, 3) := by decide +kernel
theorem dX4_step_69 : decode cX4_step 69 = .ok (.iload_n 1, 1) := by decide +kernel
theorem dX4_step_70 : decode cX4_step 70 = .ok (.invokestatic 126, 3) := by decide +kernel
theorem dX4_step_73 : decode cX4_step 73 = .ok (.ifCond .eq 60, 3) := by decide +kernel
theorem dX4_step_76 : decode cX4_step 76 = .ok (.aload_n 0, 1) := by decide +kernel
theorem dX4_step_77 : decode cX4_step 77 = .ok (.aload_n 0, 1) := by decide +kernel
theorem dX4_step_78 : decode cX4_step 78 = .ok (.aload_n 0, 1) := by decide +kernel
theorem dX4_step_79 : decode cX4_step 79 = .ok (.getfield 100, 3) := by decide +kernel
theorem dX4_step_82 : decode cX4_step 82 = .ok (.invokevirtual 129, 3) := by decide +kernel
theorem dX4_step_85 : decode cX4_step 85 = .ok (.putfield 29, 3) := by decide +kernel
theorem dX4_step_88 : decode cX4_step 88 = .ok (.aload_n 0, 1) := by decide +kernel
theorem dX4_step_89 : decode cX4_step 89 = .ok (.aload_n 0, 1) := by decide +kernel
theorem dX4_step_90 : decode cX4_step 90 = .ok (.getfield 29, 3) := by decide +kernel
theorem dX4_step_93 : decode cX4_step 93 = .ok (.aload_n 0, 1) := by decide +kernel
theorem dX4_step_94 : decode cX4_step 94 = .ok (.getfield 100, 3) := by decide +kernel
theorem dX4_step_97 : decode cX4_step 97 = .ok (.isub, 1) := by decide +kernel
theorem dX4_step_98 : decode cX4_step 98 = .ok (.iconst 2, 1) := by decide +kernel
theorem dX4_step_99 : decode cX4_step 99 = .ok (.if_icmp .gt 7, 3) := by decide +kernel
theorem dX4_step_102 : decode cX4_step 102 = .ok (.iconst 2, 1) := by decide +kernel
theorem dX4_step_103 : decode cX4_step 103 = .ok (.goto 4, 3) := by decide +kernel
theorem dX4_step_106 : decode cX4_step 106 = .ok (.iconst 4, 1) := by decide +kernel
theorem dX4_step_107 : decode cX4_step 107 = .ok (.putfield 48, 3) := by decide +kernel
theorem dX4_step_110 : decode cX4_step 110 = .ok (.aload_n 0, 1) := by decide +kernel
theorem dX4_step_111 : decode cX4_step 111 = .ok (.aload_n 0, 1) := by decide +kernel
theorem dX4_step_112 : decode cX4_step 112 = .ok (.getfield 48, 3) := by decide +kernel
theorem dX4_step_115 : decode cX4_step 115 = .ok (.iconst 2, 1) := by decide +kernel
theorem dX4_step_116 : decode cX4_step 116 = .ok (.if_icmp .ne 10, 3) := by decide +kernel
theorem dX4_step_119 : decode cX4_step 119 = .ok (.aload_n 0, 1) := by decide +kernel
theorem dX4_step_120 : decode cX4_step 120 = .ok (.invokevirtual 132, 3) := by decide +kernel
theorem dX4_step_123 : decode cX4_step 123 = .ok (.goto 4, 3) := by decide +kernel
theorem dX4_step_126 : decode cX4_step 126 = .ok (.iconst (-1), 1) := by decide +kernel
theorem dX4_step_127 : decode cX4_step 127 = .ok (.putfield 73, 3) := by decide +kernel
theorem dX4_step_130 : decode cX4_step 130 = .ok (.goto 28, 3) := by decide +kernel
theorem dX4_step_133 : decode cX4_step 133 = .ok (.aload_n 0, 1) := by decide +kernel
theorem dX4_step_134 : decode cX4_step 134 = .ok (.iload_n 1, 1) := by decide +kernel
theorem dX4_step_135 : decode cX4_step 135 = .ok (.bipush 59, 2) := by decide +kernel
theorem dX4_step_137 : decode cX4_step 137 = .ok (.if_icmp .ne 7, 3) := by decide +kernel
theorem dX4_step_140 : decode cX4_step 140 = .ok (.iconst 3, 1) := by decide +kernel
theorem dX4_step_141 : decode cX4_step 141 = .ok (.goto 4, 3) := by decide +kernel
theorem dX4_step_144 : decode cX4_step 144 = .ok (.iconst 4, 1) := by decide +kernel
theorem dX4_step_145 : decode cX4_step 145 = .ok (.putfield 48, 3) := by decide +kernel
theorem dX4_step_148 : decode cX4_step 148 = .ok (.aload_n 0, 1) := by decide +kernel
theorem dX4_step_149 : decode cX4_step 149 = .ok (.aload_n 0, 1) := by decide +kernel
theorem dX4_step_150 : decode cX4_step 150 = .ok (.getfield 100, 3) := by decide +kernel
theorem dX4_step_153 : decode cX4_step 153 = .ok (.iconst 1, 1) := by decide +kernel
theorem dX4_step_154 : decode cX4_step 154 = .ok (.iadd, 1) := by decide +kernel
theorem dX4_step_155 : decode cX4_step 155 = .ok (.putfield 29, 3) := by decide +kernel
theorem dX4_step_158 : decode cX4_step 158 = .ok (.return_, 1) := by decide +kernel
theorem dX4_valueOfFigures_0 : decode cX4_valueOfFigures 0 = .ok (.iconst 0, 1) := by decide +kernel
theorem dX4_valueOfFigures_1 : decode cX4_valueOfFigures 1 = .ok (.istore_n 1, 1) := by decide +kernel
theorem dX4_valueOfFigures_2 : decode cX4_valueOfFigures 2 = .ok (.aload_n 0, 1) := by decide +kernel
theorem dX4_valueOfFigures_3 : decode cX4_valueOfFigures 3 = .ok (.getfield 100, 3) := by decide +kernel
theorem dX4_valueOfFigures_6 : decode cX4_valueOfFigures 6 = .ok (.istore_n 2, 1) := by decide +kernel
theorem dX4_valueOfFigures_7 : decode cX4_valueOfFigures 7 = .ok (.iload_n 2, 1) := by decide +kernel
theorem dX4_valueOfFigures_8 : decode cX4_valueOfFigures 8 = .ok (.aload_n 0, 1) := by decide +kernel
theorem dX4_valueOfFigures_9 : decode cX4_valueOfFigures 9 = .ok (.getfield 29, 3) := by decide +kernel
theorem dX4_valueOfFigures_12 : decode cX4_valueOfFigures 12 = .ok (.if_icmp .ge 23, 3) := by decide +kernel
theorem dX4_valueOfFigures_15 : decode cX4_valueOfFigures 15 = .ok (.bipush 10, 2) := by decide +kernel
theorem dX4_valueOfFigures_17 : decode cX4_valueOfFigures 17 = .ok (.iload_n 1, 1) := by decide +kernel
theorem dX4_valueOfFigures_18 : decode cX4_valueOfFigures 18 = .ok (.imul, 1) := by decide +kernel
theorem dX4_valueOfFigures_19 : decode cX4_valueOfFigures 19 = .ok (.aload_n 0, 1) := by decide +kernel
theorem dX4_valueOfFigures_20 : decode cX4_valueOfFigures 20 = .ok (.iload_n 2, 1) := by decide +kernel
theorem dX4_valueOfFigures_21 : decode cX4_valueOfFigures 21 = .ok (.invokevirtual 108, 3) := by decide +kernel
theorem dX4_valueOfFigures_24 : decode cX4_valueOfFigures 24 = .ok (.iadd, 1) := by decide +kernel
theorem dX4_valueOfFigures_25 : decode cX4_valueOfFigures 25 = .ok (.bipush 48, 2) := by decide +kernel
theorem dX4_valueOfFigures_27 : decode cX4_valueOfFigures 27 = .ok (.isub, 1) := by decide +kernel
theorem dX4_valueOfFigures_28 : decode cX4_valueOfFigures 28 = .ok (.istore_n 1, 1) := by decide +kernel
theorem dX4_valueOfFigures_29 : decode cX4_valueOfFigures 29 = .ok (.iinc 2 1, 3) := by decide +kernel
theorem dX4_valueOfFigures_32 : decode cX4_valueOfFigures 32 = .ok (.goto (-25), 3) := by decide +kernel
theorem dX4_valueOfFigures_35 : decode cX4_valueOfFigures 35 = .ok (.iload_n 1, 1) := by decide +kernel
theorem dX4_valueOfFigures_36 : decode cX4_valueOfFigures 36 = .ok (.ireturn, 1) := by decide +kernel
theorem dX4_endOfBlanks_0 : decode cX4_endOfBlanks 0 = .ok (.iload_n 1, 1) := by decide +kernel
theorem dX4_endOfBlanks_1 : decode cX4_endOfBlanks 1 = .ok (.istore_n 2, 1) := by decide +kernel
theorem dX4_endOfBlanks_2 : decode cX4_endOfBlanks 2 = .ok (.iload_n 2, 1) := by decide +kernel
theorem dX4_endOfBlanks_3 : decode cX4_endOfBlanks 3 = .ok (.aload_n 0, 1) := by decide +kernel
theorem dX4_endOfBlanks_4 : decode cX4_endOfBlanks 4 = .ok (.getfield 22, 3) := by decide +kernel
theorem dX4_endOfBlanks_7 : decode cX4_endOfBlanks 7 = .ok (.if_icmp .ge 21, 3) := by decide +kernel
theorem dX4_endOfBlanks_10 : decode cX4_endOfBlanks 10 = .ok (.aload_n 0, 1) := by decide +kernel
theorem dX4_endOfBlanks_11 : decode cX4_endOfBlanks 11 = .ok (.iload_n 2, 1) := by decide +kernel
theorem dX4_endOfBlanks_12 : decode cX4_endOfBlanks 12 = .ok (.invokevirtual 108, 3) := by decide +kernel
theorem dX4_endOfBlanks_15 : decode cX4_endOfBlanks 15 = .ok (.bipush 32, 2) := by decide +kernel
theorem dX4_endOfBlanks_17 : decode cX4_endOfBlanks 17 = .ok (.if_icmp .eq 5, 3) := by decide +kernel
theorem dX4_endOfBlanks_20 : decode cX4_endOfBlanks 20 = .ok (.iload_n 2, 1) := by decide +kernel
theorem dX4_endOfBlanks_21 : decode cX4_endOfBlanks 21 = .ok (.ireturn, 1) := by decide +kernel
theorem dX4_endOfBlanks_22 : decode cX4_endOfBlanks 22 = .ok (.iinc 2 1, 3) := by decide +kernel
theorem dX4_endOfBlanks_25 : decode cX4_endOfBlanks 25 = .ok (.goto (-23), 3) := by decide +kernel
theorem dX4_endOfBlanks_28 : decode cX4_endOfBlanks 28 = .ok (.aload_n 0, 1) := by decide +kernel
theorem dX4_endOfBlanks_29 : decode cX4_endOfBlanks 29 = .ok (.getfield 22, 3) := by decide +kernel
theorem dX4_endOfBlanks_32 : decode cX4_endOfBlanks 32 = .ok (.ireturn, 1) := by decide +kernel
theorem dX4_endOfLetters_0 : decode cX4_endOfLetters 0 = .ok (.iload_n 1, 1) := by decide +kernel
theorem dX4_endOfLetters_1 : decode cX4_endOfLetters 1 = .ok (.istore_n 2, 1) := by decide +kernel
theorem dX4_endOfLetters_2 : decode cX4_endOfLetters 2 = .ok (.iload_n 2, 1) := by decide +kernel
theorem dX4_endOfLetters_3 : decode cX4_endOfLetters 3 = .ok (.aload_n 0, 1) := by decide +kernel
theorem dX4_endOfLetters_4 : decode cX4_endOfLetters 4 = .ok (.getfield 22, 3) := by decide +kernel
theorem dX4_endOfLetters_7 : decode cX4_endOfLetters 7 = .ok (.if_icmp .ge 22, 3) := by decide +kernel
theorem dX4_endOfLetters_10 : decode cX4_endOfLetters 10 = .ok (.aload_n 0, 1) := by decide +kernel
theorem dX4_endOfLetters_11 : decode cX4_endOfLetters 11 = .ok (.iload_n 2, 1) := by decide +kernel
theorem dX4_endOfLetters_12 : decode cX4_endOfLetters 12 = .ok (.invokevirtual 108, 3) := by decide +kernel
theorem dX4_endOfLetters_15 : decode cX4_endOfLetters 15 = .ok (.invokestatic 119, 3) := by decide +kernel
theorem dX4_endOfLetters_18 : decode cX4_endOfLetters 18 = .ok (.ifCond .ne 5, 3) := by decide +kernel
theorem dX4_endOfLetters_21 : decode cX4_endOfLetters 21 = .ok (.iload_n 2, 1) := by decide +kernel
theorem dX4_endOfLetters_22 : decode cX4_endOfLetters 22 = .ok (.ireturn, 1) := by decide +kernel
theorem dX4_endOfLetters_23 : decode cX4_endOfLetters 23 = .ok (.iinc 2 1, 3) := by decide +kernel
theorem dX4_endOfLetters_26 : decode cX4_endOfLetters 26 = .ok (.goto (-24), 3) := by decide +kernel
theorem dX4_endOfLetters_29 : decode cX4_endOfLetters 29 = .ok (.aload_n 0, 1) := by decide +kernel
theorem dX4_endOfLetters_30 : decode cX4_endOfLetters 30 = .ok (.getfield 22, 3) := by decide +kernel
theorem dX4_endOfLetters_33 : decode cX4_endOfLetters 33 = .ok (.ireturn, 1) := by decide +kernel
theorem dX4_endOfFigures_0 : decode cX4_endOfFigures 0 = .ok (.iload_n 1, 1) := by decide +kernel
theorem dX4_endOfFigures_1 : decode cX4_endOfFigures 1 = .ok (.istore_n 2, 1) := by decide +kernel
theorem dX4_endOfFigures_2 : decode cX4_endOfFigures 2 = .ok (.iload_n 2, 1) := by decide +kernel
theorem dX4_endOfFigures_3 : decode cX4_endOfFigures 3 = .ok (.aload_n 0, 1) := by decide +kernel
theorem dX4_endOfFigures_4 : decode cX4_endOfFigures 4 = .ok (.getfield 22, 3) := by decide +kernel
theorem dX4_endOfFigures_7 : decode cX4_endOfFigures 7 = .ok (.if_icmp .ge 22, 3) := by decide +kernel
theorem dX4_endOfFigures_10 : decode cX4_endOfFigures 10 = .ok (.aload_n 0, 1) := by decide +kernel
theorem dX4_endOfFigures_11 : decode cX4_endOfFigures 11 = .ok (.iload_n 2, 1) := by decide +kernel
theorem dX4_endOfFigures_12 : decode cX4_endOfFigures 12 = .ok (.invokevirtual 108, 3) := by decide +kernel
theorem dX4_endOfFigures_15 : decode cX4_endOfFigures 15 = .ok (.invokestatic 126, 3) := by decide +kernel
theorem dX4_endOfFigures_18 : decode cX4_endOfFigures 18 = .ok (.ifCond .ne 5, 3) := by decide +kernel
theorem dX4_endOfFigures_21 : decode cX4_endOfFigures 21 = .ok (.iload_n 2, 1) := by decide +kernel
theorem dX4_endOfFigures_22 : decode cX4_endOfFigures 22 = .ok (.ireturn, 1) := by decide +kernel
theorem dX4_endOfFigures_23 : decode cX4_endOfFigures 23 = .ok (.iinc 2 1, 3) := by decide +kernel
theorem dX4_endOfFigures_26 : decode cX4_endOfFigures 26 = .ok (.goto (-24), 3) := by decide +kernel
theorem dX4_endOfFigures_29 : decode cX4_endOfFigures 29 = .ok (.aload_n 0, 1) := by decide +kernel
theorem dX4_endOfFigures_30 : decode cX4_endOfFigures 30 = .ok (.getfield 22, 3) := by decide +kernel
theorem dX4_endOfFigures_33 : decode cX4_endOfFigures 33 = .ok (.ireturn, 1) := by decide +kernel
theorem dX4_byteAt_0 : decode cX4_byteAt 0 = .ok (.iload_n 1, 1) := by decide +kernel
theorem dX4_byteAt_1 : decode cX4_byteAt 1 = .ok (.ifCond .lt 20, 3) := by decide +kernel
theorem dX4_byteAt_4 : decode cX4_byteAt 4 = .ok (.iload_n 1, 1) := by decide +kernel
theorem dX4_byteAt_5 : decode cX4_byteAt 5 = .ok (.aload_n 0, 1) := by decide +kernel
theorem dX4_byteAt_6 : decode cX4_byteAt 6 = .ok (.getfield 22, 3) := by decide +kernel
theorem dX4_byteAt_9 : decode cX4_byteAt 9 = .ok (.if_icmp .ge 12, 3) := by decide +kernel
theorem dX4_byteAt_12 : decode cX4_byteAt 12 = .ok (.aload_n 0, 1) := by decide +kernel
theorem dX4_byteAt_13 : decode cX4_byteAt 13 = .ok (.getfield 9, 3) := by decide +kernel
theorem dX4_byteAt_16 : decode cX4_byteAt 16 = .ok (.iload_n 1, 1) := by decide +kernel
theorem dX4_byteAt_17 : decode cX4_byteAt 17 = .ok (.iaload, 1) := by decide +kernel
theorem dX4_byteAt_18 : decode cX4_byteAt 18 = .ok (.goto 4, 3) := by decide +kernel
theorem dX4_byteAt_21 : decode cX4_byteAt 21 = .ok (.iconst (-1), 1) := by decide +kernel
theorem dX4_byteAt_22 : decode cX4_byteAt 22 = .ok (.ireturn, 1) := by decide +kernel
theorem dX4_isLetter_0 : decode cX4_isLetter 0 = .ok (.iload_n 0, 1) := by decide +kernel
theorem dX4_isLetter_1 : decode cX4_isLetter 1 = .ok (.bipush 97, 2) := by decide +kernel
theorem dX4_isLetter_3 : decode cX4_isLetter 3 = .ok (.bipush 122, 2) := by decide +kernel
theorem dX4_isLetter_5 : decode cX4_isLetter 5 = .ok (.invokestatic 82, 3) := by decide +kernel
theorem dX4_isLetter_8 : decode cX4_isLetter 8 = .ok (.ireturn, 1) := by decide +kernel
theorem dX4_isFigure_0 : decode cX4_isFigure 0 = .ok (.iload_n 0, 1) := by decide +kernel
theorem dX4_isFigure_1 : decode cX4_isFigure 1 = .ok (.bipush 48, 2) := by decide +kernel
theorem dX4_isFigure_3 : decode cX4_isFigure 3 = .ok (.bipush 57, 2) := by decide +kernel
theorem dX4_isFigure_5 : decode cX4_isFigure 5 = .ok (.invokestatic 82, 3) := by decide +kernel
theorem dX4_isFigure_8 : decode cX4_isFigure 8 = .ok (.ireturn, 1) := by decide +kernel
theorem dX5_init_0 : decode cX5_init 0 = .ok (.aload_n 0, 1) := by decide +kernel
theorem dX5_init_1 : decode cX5_init 1 = .ok (.invokespecial 1, 3) := by decide +kernel
theorem dX5_init_4 : decode cX5_init 4 = .ok (.return_, 1) := by decide +kernel
theorem dX5_startAnew_0 : decode cX5_startAnew 0 = .ok (.aload_n 0, 1) := by decide +kernel
theorem dX5_startAnew_1 : decode cX5_startAnew 1 = .ok (.iconst 0, 1) := by decide +kernel
theorem dX5_startAnew_2 : decode cX5_startAnew 2 = .ok (.putfield 7, 3) := by decide +kernel
theorem dX5_startAnew_5 : decode cX5_startAnew 5 = .ok (.aload_n 0, 1) := by decide +kernel
theorem dX5_startAnew_6 : decode cX5_startAnew 6 = .ok (.iconst 0, 1) := by decide +kernel
theorem dX5_startAnew_7 : decode cX5_startAnew 7 = .ok (.putfield 13, 3) := by decide +kernel
theorem dX5_startAnew_10 : decode cX5_startAnew 10 = .ok (.aload_n 0, 1) := by decide +kernel
theorem dX5_startAnew_11 : decode cX5_startAnew 11 = .ok (.iconst 0, 1) := by decide +kernel
theorem dX5_startAnew_12 : decode cX5_startAnew 12 = .ok (.putfield 16, 3) := by decide +kernel
theorem dX5_startAnew_15 : decode cX5_startAnew 15 = .ok (.aload_n 0, 1) := by decide +kernel
theorem dX5_startAnew_16 : decode cX5_startAnew 16 = .ok (.iconst 0, 1) := by decide +kernel
theorem dX5_startAnew_17 : decode cX5_startAnew 17 = .ok (.putfield 19, 3) := by decide +kernel
theorem dX5_startAnew_20 : decode cX5_startAnew 20 = .ok (.aload_n 0, 1) := by decide +kernel
theorem dX5_startAnew_21 : decode cX5_startAnew 21 = .ok (.iconst 0, 1) := by decide +kernel
theorem dX5_startAnew_22 : decode cX5_startAnew 22 = .ok (.putfield 22, 3) := by decide +kernel
theorem dX5_startAnew_25 : decode cX5_startAnew 25 = .ok (.return_, 1) := by decide +kernel
theorem dX5_take_0 : decode cX5_take 0 = .ok (.aload_n 0, 1) := by decide +kernel
theorem dX5_take_1 : decode cX5_take 1 = .ok (.aload_n 1, 1) := by decide +kernel
theorem dX5_take_2 : decode cX5_take 2 = .ok (.getfield 7, 3) := by decide +kernel
theorem dX5_take_5 : decode cX5_take 5 = .ok (.putfield 7, 3) := by decide +kernel
theorem dX5_take_8 : decode cX5_take 8 = .ok (.aload_n 0, 1) := by decide +kernel
theorem dX5_take_9 : decode cX5_take 9 = .ok (.aload_n 1, 1) := by decide +kernel
theorem dX5_take_10 : decode cX5_take 10 = .ok (.getfield 13, 3) := by decide +kernel
theorem dX5_take_13 : decode cX5_take 13 = .ok (.putfield 13, 3) := by decide +kernel
theorem dX5_take_16 : decode cX5_take 16 = .ok (.aload_n 0, 1) := by decide +kernel
theorem dX5_take_17 : decode cX5_take 17 = .ok (.aload_n 1, 1) := by decide +kernel
theorem dX5_take_18 : decode cX5_take 18 = .ok (.getfield 16, 3) := by decide +kernel
theorem dX5_take_21 : decode cX5_take 21 = .ok (.putfield 16, 3) := by decide +kernel
theorem dX5_take_24 : decode cX5_take 24 = .ok (.aload_n 0, 1) := by decide +kernel
theorem dX5_take_25 : decode cX5_take 25 = .ok (.aload_n 1, 1) := by decide +kernel
theorem dX5_take_26 : decode cX5_take 26 = .ok (.getfield 19, 3) := by decide +kernel
theorem dX5_take_29 : decode cX5_take 29 = .ok (.putfield 19, 3) := by decide +kernel
theorem dX5_take_32 : decode cX5_take 32 = .ok (.aload_n 0, 1) := by decide +kernel
theorem dX5_take_33 : decode cX5_take 33 = .ok (.aload_n 1, 1) := by decide +kernel
theorem dX5_take_34 : decode cX5_take 34 = .ok (.getfield 22, 3) := by decide +kernel
theorem dX5_take_37 : decode cX5_take 37 = .ok (.putfield 22, 3) := by decide +kernel
theorem dX5_take_40 : decode cX5_take 40 = .ok (.return_, 1) := by decide +kernel
theorem dX6_init_0 : decode cX6_init 0 = .ok (.aload_n 0, 1) := by decide +kernel
theorem dX6_init_1 : decode cX6_init 1 = .ok (.invokespecial 1, 3) := by decide +kernel
theorem dX6_init_4 : decode cX6_init 4 = .ok (.return_, 1) := by decide +kernel
theorem dX6_find_0 : decode cX6_find 0 = .ok (.aload_n 0, 1) := by decide +kernel
theorem dX6_find_1 : decode cX6_find 1 = .ok (.iconst 0, 1) := by decide +kernel
theorem dX6_find_2 : decode cX6_find 2 = .ok (.putfield 7, 3) := by decide +kernel
theorem dX6_find_5 : decode cX6_find 5 = .ok (.aload_n 0, 1) := by decide +kernel
theorem dX6_find_6 : decode cX6_find 6 = .ok (.iconst 1, 1) := by decide +kernel
theorem dX6_find_7 : decode cX6_find 7 = .ok (.aload_n 1, 1) := by decide +kernel
theorem dX6_find_8 : decode cX6_find 8 = .ok (.getfield 13, 3) := by decide +kernel
theorem dX6_find_11 : decode cX6_find 11 = .ok (.ishl, 1) := by decide +kernel
theorem dX6_find_12 : decode cX6_find 12 = .ok (.iconst 1, 1) := by decide +kernel
theorem dX6_find_13 : decode cX6_find 13 = .ok (.isub, 1) := by decide +kernel
theorem dX6_find_14 : decode cX6_find 14 = .ok (.putfield 18, 3) := by decide +kernel
theorem dX6_find_17 : decode cX6_find 17 = .ok (.aload_n 0, 1) := by decide +kernel
theorem dX6_find_18 : decode cX6_find 18 = .ok (.iconst 0, 1) := by decide +kernel
theorem dX6_find_19 : decode cX6_find 19 = .ok (.putfield 21, 3) := by decide +kernel
theorem dX6_find_22 : decode cX6_find 22 = .ok (.iconst 0, 1) := by decide +kernel
theorem dX6_find_23 : decode cX6_find 23 = .ok (.istore 4, 2) := by decide +kernel
theorem dX6_find_25 : decode cX6_find 25 = .ok (.iload 4, 2) := by decide +kernel
theorem dX6_find_27 : decode cX6_find 27 = .ok (.iconst 1, 1) := by decide +kernel
theorem dX6_find_28 : decode cX6_find 28 = .ok (.aload_n 1, 1) := by decide +kernel
theorem dX6_find_29 : decode cX6_find 29 = .ok (.getfield 13, 3) := by decide +kernel
theorem dX6_find_32 : decode cX6_find 32 = .ok (.ishl, 1) := by decide +kernel
theorem dX6_find_33 : decode cX6_find 33 = .ok (.if_icmp .ge 55, 3) := by decide +kernel
theorem dX6_find_36 : decode cX6_find 36 = .ok (.aload_n 1, 1) := by decide +kernel
theorem dX6_find_37 : decode cX6_find 37 = .ok (.iload 4, 2) := by decide +kernel
theorem dX6_find_39 : decode cX6_find 39 = .ok (.iload_n 2, 1) := by decide +kernel
theorem dX6_find_40 : decode cX6_find 40 = .ok (.iload_n 3, 1) := by decide +kernel
theorem dX6_find_41 : decode cX6_find 41 = .ok (.invokestatic 24, 3) := by decide +kernel
theorem dX6_find_44 : decode cX6_find 44 = .ok (.ifCond .ne 6, 3) := by decide +kernel
theorem dX6_find_47 : decode cX6_find 47 = .ok (.goto 35, 3) := by decide +kernel
theorem dX6_find_50 : decode cX6_find 50 = .ok (.aload_n 0, 1) := by decide +kernel
theorem dX6_find_51 : decode cX6_find 51 = .ok (.dup, 1) := by decide +kernel
theorem dX6_find_52 : decode cX6_find 52 = .ok (.getfield 7, 3) := by decide +kernel
theorem dX6_find_55 : decode cX6_find 55 = .ok (.iconst 1, 1) := by decide +kernel
theorem dX6_find_56 : decode cX6_find 56 = .ok (.iadd, 1) := by decide +kernel
theorem dX6_find_57 : decode cX6_find 57 = .ok (.putfield 7, 3) := by decide +kernel
theorem dX6_find_60 : decode cX6_find 60 = .ok (.aload_n 0, 1) := by decide +kernel
theorem dX6_find_61 : decode cX6_find 61 = .ok (.dup, 1) := by decide +kernel
theorem dX6_find_62 : decode cX6_find 62 = .ok (.getfield 18, 3) := by decide +kernel
theorem dX6_find_65 : decode cX6_find 65 = .ok (.iload 4, 2) := by decide +kernel
theorem dX6_find_67 : decode cX6_find 67 = .ok (.iand, 1) := by decide +kernel
theorem dX6_find_68 : decode cX6_find 68 = .ok (.putfield 18, 3) := by decide +kernel
theorem dX6_find_71 : decode cX6_find 71 = .ok (.aload_n 0, 1) := by decide +kernel
theorem dX6_find_72 : decode cX6_find 72 = .ok (.dup, 1) := by decide +kernel
theorem dX6_find_73 : decode cX6_find 73 = .ok (.getfield 21, 3) := by decide +kernel
theorem dX6_find_76 : decode cX6_find 76 = .ok (.iload 4, 2) := by decide +kernel
theorem dX6_find_78 : decode cX6_find 78 = .ok (.ior, 1) := by decide +kernel
theorem dX6_find_79 : decode cX6_find 79 = .ok (.putfield 21, 3) := by decide +kernel
theorem dX6_find_82 : decode cX6_find 82 = .ok (.iinc 4 1, 3) := by decide +kernel
theorem dX6_find_85 : decode cX6_find 85 = .ok (.goto (-60), 3) := by decide +kernel
theorem dX6_find_88 : decode cX6_find 88 = .ok (.return_, 1) := by decide +kernel
theorem dX6_canBe_0 : decode cX6_canBe 0 = .ok (.iload_n 1, 1) := by decide +kernel
theorem dX6_canBe_1 : decode cX6_canBe 1 = .ok (.invokestatic 28, 3) := by decide +kernel
theorem dX6_canBe_4 : decode cX6_canBe 4 = .ok (.aload_n 0, 1) := by decide +kernel
theorem dX6_canBe_5 : decode cX6_canBe 5 = .ok (.getfield 34, 3) := by decide +kernel
theorem dX6_canBe_8 : decode cX6_canBe 8 = .ok (.if_icmp .gt 25, 3) := by decide +kernel
theorem dX6_canBe_11 : decode cX6_canBe 11 = .ok (.aload_n 0, 1) := by decide +kernel
theorem dX6_canBe_12 : decode cX6_canBe 12 = .ok (.iload_n 1, 1) := by decide +kernel
theorem dX6_canBe_13 : decode cX6_canBe 13 = .ok (.iload_n 2, 1) := by decide +kernel
theorem dX6_canBe_14 : decode cX6_canBe 14 = .ok (.invokevirtual 37, 3) := by decide +kernel
theorem dX6_canBe_17 : decode cX6_canBe 17 = .ok (.iload_n 3, 1) := by decide +kernel
theorem dX6_canBe_18 : decode cX6_canBe 18 = .ok (.if_icmp .ne 15, 3) := by decide +kernel
theorem dX6_canBe_21 : decode cX6_canBe 21 = .ok (.aload_n 0, 1) := by decide +kernel
theorem dX6_canBe_22 : decode cX6_canBe 22 = .ok (.iload_n 1, 1) := by decide +kernel
theorem dX6_canBe_23 : decode cX6_canBe 23 = .ok (.invokevirtual 41, 3) := by decide +kernel
theorem dX6_canBe_26 : decode cX6_canBe 26 = .ok (.ifCond .ne 7, 3) := by decide +kernel
theorem dX6_canBe_29 : decode cX6_canBe 29 = .ok (.iconst 1, 1) := by decide +kernel
theorem dX6_canBe_30 : decode cX6_canBe 30 = .ok (.goto 4, 3) := by decide +kernel
theorem dX6_canBe_33 : decode cX6_canBe 33 = .ok (.iconst 0, 1) := by decide +kernel
theorem dX6_canBe_34 : decode cX6_canBe 34 = .ok (.ireturn, 1) := by decide +kernel
theorem dX7_init_0 : decode cX7_init 0 = .ok (.aload_n 0, 1) := by decide +kernel
theorem dX7_init_1 : decode cX7_init 1 = .ok (.invokespecial 3, 3) := by decide +kernel
theorem dX7_init_4 : decode cX7_init 4 = .ok (.aload_n 0, 1) := by decide +kernel
theorem dX7_init_5 : decode cX7_init 5 = .ok (.bipush 100, 2) := by decide +kernel
theorem dX7_init_7 : decode cX7_init 7 = .ok (.newarray .int, 2) := by decide +kernel
theorem dX7_init_9 : decode cX7_init 9 = .ok (.putfield 9, 3) := by decide +kernel
theorem dX7_init_12 : decode cX7_init 12 = .ok (.aload_n 0, 1) := by decide +kernel
theorem dX7_init_13 : decode cX7_init 13 = .ok (.bipush 100, 2) := by decide +kernel
theorem dX7_init_15 : decode cX7_init 15 = .ok (.newarray .int, 2) := by decide +kernel
theorem dX7_init_17 : decode cX7_init 17 = .ok (.putfield 15, 3) := by decide +kernel
theorem dX7_init_20 : decode cX7_init 20 = .ok (.return_, 1) := by decide +kernel
theorem dX7_play_0 : decode cX7_play 0 = .ok (.aload_n 1, 1) := by decide +kernel
theorem dX7_play_1 : decode cX7_play 1 = .ok (.iload_n 3, 1) := by decide +kernel
theorem dX7_play_2 : decode cX7_play 2 = .ok (.iload 4, 2) := by decide +kernel
theorem dX7_play_4 : decode cX7_play 4 = .ok (.invokevirtual 18, 3) := by decide +kernel
theorem dX7_play_7 : decode cX7_play 7 = .ok (.ifCond .ne 4, 3) := by decide +kernel
theorem dX7_play_10 : decode cX7_play 10 = .ok (.return_, 1) := by decide +kernel
theorem dX7_play_11 : decode cX7_play 11 = .ok (.aload_n 0, 1) := by decide +kernel
theorem dX7_play_12 : decode cX7_play 12 = .ok (.aload_n 1, 1) := by decide +kernel
theorem dX7_play_13 : decode cX7_play 13 = .ok (.getfield 24, 3) := by decide +kernel
theorem dX7_play_16 : decode cX7_play 16 = .ok (.iload_n 3, 1) := by decide +kernel
theorem dX7_play_17 : decode cX7_play 17 = .ok (.iaload, 1) := by decide +kernel
theorem dX7_play_18 : decode cX7_play 18 = .ok (.putfield 27, 3) := by decide +kernel
theorem dX7_play_21 : decode cX7_play 21 = .ok (.aload_n 0, 1) := by decide +kernel
theorem dX7_play_22 : decode cX7_play 22 = .ok (.aload_n 1, 1) := by decide +kernel
theorem dX7_play_23 : decode cX7_play 23 = .ok (.getfield 24, 3) := by decide +kernel
theorem dX7_play_26 : decode cX7_play 26 = .ok (.iload 4, 2) := by decide +kernel
theorem dX7_play_28 : decode cX7_play 28 = .ok (.iaload, 1) := by decide +kernel
theorem dX7_play_29 : decode cX7_play 29 = .ok (.putfield 31, 3) := by decide +kernel
theorem dX7_play_32 : decode cX7_play 32 = .ok (.iconst 0, 1) := by decide +kernel
theorem dX7_play_33 : decode cX7_play 33 = .ok (.istore 5, 2) := by decide +kernel
theorem dX7_play_35 : decode cX7_play 35 = .ok (.iload 5, 2) := by decide +kernel
theorem dX7_play_37 : decode cX7_play 37 = .ok (.aload_n 0, 1) := by decide +kernel
theorem dX7_play_38 : decode cX7_play 38 = .ok (.getfield 27, 3) := by decide +kernel
theorem dX7_play_41 : decode cX7_play 41 = .ok (.if_icmp .ge 66, 3) := by decide +kernel
theorem dX7_play_44 : decode cX7_play 44 = .ok (.iconst 0, 1) := by decide +kernel
theorem dX7_play_45 : decode cX7_play 45 = .ok (.istore 6, 2) := by decide +kernel
theorem dX7_play_47 : decode cX7_play 47 = .ok (.iload 6, 2) := by decide +kernel
theorem dX7_play_49 : decode cX7_play 49 = .ok (.aload_n 0, 1) := by decide +kernel
theorem dX7_play_50 : decode cX7_play 50 = .ok (.getfield 31, 3) := by decide +kernel
theorem dX7_play_53 : decode cX7_play 53 = .ok (.if_icmp .ge 48, 3) := by decide +kernel
theorem dX7_play_56 : decode cX7_play 56 = .ok (.aload_n 2, 1) := by decide +kernel
theorem dX7_play_57 : decode cX7_play 57 = .ok (.aload_n 1, 1) := by decide +kernel
theorem dX7_play_58 : decode cX7_play 58 = .ok (.invokevirtual 34, 3) := by decide +kernel
theorem dX7_play_61 : decode cX7_play 61 = .ok (.aload_n 2, 1) := by decide +kernel
theorem dX7_play_62 : decode cX7_play 62 = .ok (.getfield 40, 3) := by decide +kernel
theorem dX7_play_65 : decode cX7_play 65 = .ok (.iload_n 3, 1) := by decide +kernel
theorem dX7_play_66 : decode cX7_play 66 = .ok (.iload 5, 2) := by decide +kernel
theorem dX7_play_68 : decode cX7_play 68 = .ok (.iastore, 1) := by decide +kernel
theorem dX7_play_69 : decode cX7_play 69 = .ok (.aload_n 2, 1) := by decide +kernel
theorem dX7_play_70 : decode cX7_play 70 = .ok (.getfield 40, 3) := by decide +kernel
theorem dX7_play_73 : decode cX7_play 73 = .ok (.iload 4, 2) := by decide +kernel
theorem dX7_play_75 : decode cX7_play 75 = .ok (.iload 6, 2) := by decide +kernel
theorem dX7_play_77 : decode cX7_play 77 = .ok (.iastore, 1) := by decide +kernel
theorem dX7_play_78 : decode cX7_play 78 = .ok (.aload_n 0, 1) := by decide +kernel
theorem dX7_play_79 : decode cX7_play 79 = .ok (.aload_n 1, 1) := by decide +kernel
theorem dX7_play_80 : decode cX7_play 80 = .ok (.aload_n 2, 1) := by decide +kernel
theorem dX7_play_81 : decode cX7_play 81 = .ok (.iload_n 3, 1) := by decide +kernel
theorem dX7_play_82 : decode cX7_play 82 = .ok (.iload 4, 2) := by decide +kernel
theorem dX7_play_84 : decode cX7_play 84 = .ok (.bipush 10, 2) := by decide +kernel
theorem dX7_play_86 : decode cX7_play 86 = .ok (.iload 5, 2) := by decide +kernel
theorem dX7_play_88 : decode cX7_play 88 = .ok (.imul, 1) := by decide +kernel
theorem dX7_play_89 : decode cX7_play 89 = .ok (.iload 6, 2) := by decide +kernel
theorem dX7_play_91 : decode cX7_play 91 = .ok (.iadd, 1) := by decide +kernel
theorem dX7_play_92 : decode cX7_play 92 = .ok (.invokevirtual 43, 3) := by decide +kernel
theorem dX7_play_95 : decode cX7_play 95 = .ok (.iinc 6 1, 3) := by decide +kernel
theorem dX7_play_98 : decode cX7_play 98 = .ok (.goto (-51), 3) := by decide +kernel
theorem dX7_play_101 : decode cX7_play 101 = .ok (.iinc 5 1, 3) := by decide +kernel
theorem dX7_play_104 : decode cX7_play 104 = .ok (.goto (-69), 3) := by decide +kernel
theorem dX7_play_107 : decode cX7_play 107 = .ok (.return_, 1) := by decide +kernel
theorem dX7_countStops_0 : decode cX7_countStops 0 = .ok (.iconst 0, 1) := by decide +kernel
theorem dX7_countStops_1 : decode cX7_countStops 1 = .ok (.istore 6, 2) := by decide +kernel
theorem dX7_countStops_3 : decode cX7_countStops 3 = .ok (.iconst 0, 1) := by decide +kernel
theorem dX7_countStops_4 : decode cX7_countStops 4 = .ok (.istore 7, 2) := by decide +kernel
theorem dX7_countStops_6 : decode cX7_countStops 6 = .ok (.iconst 0, 1) := by decide +kernel
theorem dX7_countStops_7 : decode cX7_countStops 7 = .ok (.istore 8, 2) := by decide +kernel
theorem dX7_countStops_9 : decode cX7_countStops 9 = .ok (.iload 8, 2) := by decide +kernel
theorem dX7_countStops_11 : decode cX7_countStops 11 = .ok (.bipush 10, 2) := by decide +kernel
theorem dX7_countStops_13 : decode cX7_countStops 13 = .ok (.if_icmp .ge 47, 3) := by decide +kernel
theorem dX7_countStops_16 : decode cX7_countStops 16 = .ok (.aload_n 2, 1) := by decide +kernel
theorem dX7_countStops_17 : decode cX7_countStops 17 = .ok (.aload_n 1, 1) := by decide +kernel
theorem dX7_countStops_18 : decode cX7_countStops 18 = .ok (.invokevirtual 47, 3) := by decide +kernel
theorem dX7_countStops_21 : decode cX7_countStops 21 = .ok (.iload 6, 2) := by decide +kernel
theorem dX7_countStops_23 : decode cX7_countStops 23 = .ok (.aload_n 2, 1) := by decide +kernel
theorem dX7_countStops_24 : decode cX7_countStops 24 = .ok (.getfield 50, 3) := by decide +kernel
theorem dX7_countStops_27 : decode cX7_countStops 27 = .ok (.getfield 54, 3) := by decide +kernel
theorem dX7_countStops_30 : decode cX7_countStops 30 = .ok (.iload_n 3, 1) := by decide +kernel
theorem dX7_countStops_31 : decode cX7_countStops 31 = .ok (.invokestatic 59, 3) := by decide +kernel
theorem dX7_countStops_34 : decode cX7_countStops 34 = .ok (.iadd, 1) := by decide +kernel
theorem dX7_countStops_35 : decode cX7_countStops 35 = .ok (.istore 6, 2) := by decide +kernel
theorem dX7_countStops_37 : decode cX7_countStops 37 = .ok (.iload 7, 2) := by decide +kernel
theorem dX7_countStops_39 : decode cX7_countStops 39 = .ok (.aload_n 2, 1) := by decide +kernel
theorem dX7_countStops_40 : decode cX7_countStops 40 = .ok (.getfield 50, 3) := by decide +kernel
theorem dX7_countStops_43 : decode cX7_countStops 43 = .ok (.getfield 54, 3) := by decide +kernel
theorem dX7_countStops_46 : decode cX7_countStops 46 = .ok (.iload 4, 2) := by decide +kernel
theorem dX7_countStops_48 : decode cX7_countStops 48 = .ok (.invokestatic 59, 3) := by decide +kernel
theorem dX7_countStops_51 : decode cX7_countStops 51 = .ok (.iadd, 1) := by decide +kernel
theorem dX7_countStops_52 : decode cX7_countStops 52 = .ok (.istore 7, 2) := by decide +kernel
theorem dX7_countStops_54 : decode cX7_countStops 54 = .ok (.iinc 8 1, 3) := by decide +kernel
theorem dX7_countStops_57 : decode cX7_countStops 57 = .ok (.goto (-48), 3) := by decide +kernel
theorem dX7_countStops_60 : decode cX7_countStops 60 = .ok (.aload_n 0, 1) := by decide +kernel
theorem dX7_countStops_61 : decode cX7_countStops 61 = .ok (.getfield 9, 3) := by decide +kernel
theorem dX7_countStops_64 : decode cX7_countStops 64 = .ok (.iload 5, 2) := by decide +kernel
theorem dX7_countStops_66 : decode cX7_countStops 66 = .ok (.iload 6, 2) := by decide +kernel
theorem dX7_countStops_68 : decode cX7_countStops 68 = .ok (.iastore, 1) := by decide +kernel
theorem dX7_countStops_69 : decode cX7_countStops 69 = .ok (.aload_n 0, 1) := by decide +kernel
theorem dX7_countStops_70 : decode cX7_countStops 70 = .ok (.getfield 15, 3) := by decide +kernel
theorem dX7_countStops_73 : decode cX7_countStops 73 = .ok (.iload 5, 2) := by decide +kernel
theorem dX7_countStops_75 : decode cX7_countStops 75 = .ok (.iload 7, 2) := by decide +kernel
theorem dX7_countStops_77 : decode cX7_countStops 77 = .ok (.iastore, 1) := by decide +kernel
theorem dX7_countStops_78 : decode cX7_countStops 78 = .ok (.return_, 1) := by decide +kernel
theorem dX7_rests_0 : decode cX7_rests 0 = .ok (.iconst 0, 1) := by decide +kernel
theorem dX7_rests_1 : decode cX7_rests 1 = .ok (.istore_n 3, 1) := by decide +kernel
theorem dX7_rests_2 : decode cX7_rests 2 = .ok (.iload_n 3, 1) := by decide +kernel
theorem dX7_rests_3 : decode cX7_rests 3 = .ok (.aload_n 0, 1) := by decide +kernel
theorem dX7_rests_4 : decode cX7_rests 4 = .ok (.getfield 27, 3) := by decide +kernel
theorem dX7_rests_7 : decode cX7_rests 7 = .ok (.if_icmp .ge 36, 3) := by decide +kernel
theorem dX7_rests_10 : decode cX7_rests 10 = .ok (.aload_n 0, 1) := by decide +kernel
theorem dX7_rests_11 : decode cX7_rests 11 = .ok (.getfield 9, 3) := by decide +kernel
theorem dX7_rests_14 : decode cX7_rests 14 = .ok (.bipush 10, 2) := by decide +kernel
theorem dX7_rests_16 : decode cX7_rests 16 = .ok (.iload_n 3, 1) := by decide +kernel
theorem dX7_rests_17 : decode cX7_rests 17 = .ok (.imul, 1) := by decide +kernel
theorem dX7_rests_18 : decode cX7_rests 18 = .ok (.iload_n 2, 1) := by decide +kernel
theorem dX7_rests_19 : decode cX7_rests 19 = .ok (.iadd, 1) := by decide +kernel
theorem dX7_rests_20 : decode cX7_rests 20 = .ok (.iaload, 1) := by decide +kernel
theorem dX7_rests_21 : decode cX7_rests 21 = .ok (.aload_n 0, 1) := by decide +kernel
theorem dX7_rests_22 : decode cX7_rests 22 = .ok (.getfield 9, 3) := by decide +kernel
theorem dX7_rests_25 : decode cX7_rests 25 = .ok (.bipush 10, 2) := by decide +kernel
theorem dX7_rests_27 : decode cX7_rests 27 = .ok (.iload_n 1, 1) := by decide +kernel
theorem dX7_rests_28 : decode cX7_rests 28 = .ok (.imul, 1) := by decide +kernel
theorem dX7_rests_29 : decode cX7_rests 29 = .ok (.iload_n 2, 1) := by decide +kernel
theorem dX7_rests_30 : decode cX7_rests 30 = .ok (.iadd, 1) := by decide +kernel
theorem dX7_rests_31 : decode cX7_rests 31 = .ok (.iaload, 1) := by decide +kernel
theorem dX7_rests_32 : decode cX7_rests 32 = .ok (.if_icmp .le 5, 3) := by decide +kernel
theorem dX7_rests_35 : decode cX7_rests 35 = .ok (.iconst 0, 1) := by decide +kernel
theorem dX7_rests_36 : decode cX7_rests 36 = .ok (.ireturn, 1) := by decide +kernel
theorem dX7_rests_37 : decode cX7_rests 37 = .ok (.iinc 3 1, 3) := by decide +kernel
theorem dX7_rests_40 : decode cX7_rests 40 = .ok (.goto (-38), 3) := by decide +kernel
theorem dX7_rests_43 : decode cX7_rests 43 = .ok (.iconst 0, 1) := by decide +kernel
theorem dX7_rests_44 : decode cX7_rests 44 = .ok (.istore_n 3, 1) := by decide +kernel
theorem dX7_rests_45 : decode cX7_rests 45 = .ok (.iload_n 3, 1) := by decide +kernel
theorem dX7_rests_46 : decode cX7_rests 46 = .ok (.aload_n 0, 1) := by decide +kernel
theorem dX7_rests_47 : decode cX7_rests 47 = .ok (.getfield 31, 3) := by decide +kernel
theorem dX7_rests_50 : decode cX7_rests 50 = .ok (.if_icmp .ge 36, 3) := by decide +kernel
theorem dX7_rests_53 : decode cX7_rests 53 = .ok (.aload_n 0, 1) := by decide +kernel
theorem dX7_rests_54 : decode cX7_rests 54 = .ok (.getfield 15, 3) := by decide +kernel
theorem dX7_rests_57 : decode cX7_rests 57 = .ok (.bipush 10, 2) := by decide +kernel
theorem dX7_rests_59 : decode cX7_rests 59 = .ok (.iload_n 1, 1) := by decide +kernel
theorem dX7_rests_60 : decode cX7_rests 60 = .ok (.imul, 1) := by decide +kernel
theorem dX7_rests_61 : decode cX7_rests 61 = .ok (.iload_n 3, 1) := by decide +kernel
theorem dX7_rests_62 : decode cX7_rests 62 = .ok (.iadd, 1) := by decide +kernel
theorem dX7_rests_63 : decode cX7_rests 63 = .ok (.iaload, 1) := by decide +kernel
theorem dX7_rests_64 : decode cX7_rests 64 = .ok (.aload_n 0, 1) := by decide +kernel
theorem dX7_rests_65 : decode cX7_rests 65 = .ok (.getfield 15, 3) := by decide +kernel
theorem dX7_rests_68 : decode cX7_rests 68 = .ok (.bipush 10, 2) := by decide +kernel
theorem dX7_rests_70 : decode cX7_rests 70 = .ok (.iload_n 1, 1) := by decide +kernel
theorem dX7_rests_71 : decode cX7_rests 71 = .ok (.imul, 1) := by decide +kernel
theorem dX7_rests_72 : decode cX7_rests 72 = .ok (.iload_n 2, 1) := by decide +kernel
theorem dX7_rests_73 : decode cX7_rests 73 = .ok (.iadd, 1) := by decide +kernel
theorem dX7_rests_74 : decode cX7_rests 74 = .ok (.iaload, 1) := by decide +kernel
theorem dX7_rests_75 : decode cX7_rests 75 = .ok (.if_icmp .le 5, 3) := by decide +kernel
theorem dX7_rests_78 : decode cX7_rests 78 = .ok (.iconst 0, 1) := by decide +kernel
theorem dX7_rests_79 : decode cX7_rests 79 = .ok (.ireturn, 1) := by decide +kernel
theorem dX7_rests_80 : decode cX7_rests 80 = .ok (.iinc 3 1, 3) := by decide +kernel
theorem dX7_rests_83 : decode cX7_rests 83 = .ok (.goto (-38), 3) := by decide +kernel
theorem dX7_rests_86 : decode cX7_rests 86 = .ok (.iconst 1, 1) := by decide +kernel
theorem dX7_rests_87 : decode cX7_rests 87 = .ok (.ireturn, 1) := by decide +kernel
theorem dX7_resting_0 : decode cX7_resting 0 = .ok (.iconst 0, 1) := by decide +kernel
theorem dX7_resting_1 : decode cX7_resting 1 = .ok (.istore_n 1, 1) := by decide +kernel
theorem dX7_resting_2 : decode cX7_resting 2 = .ok (.iconst 0, 1) := by decide +kernel
theorem dX7_resting_3 : decode cX7_resting 3 = .ok (.istore_n 2, 1) := by decide +kernel
theorem dX7_resting_4 : decode cX7_resting 4 = .ok (.iload_n 2, 1) := by decide +kernel
theorem dX7_resting_5 : decode cX7_resting 5 = .ok (.aload_n 0, 1) := by decide +kernel
theorem dX7_resting_6 : decode cX7_resting 6 = .ok (.getfield 27, 3) := by decide +kernel
theorem dX7_resting_9 : decode cX7_resting 9 = .ok (.if_icmp .ge 37, 3) := by decide +kernel
theorem dX7_resting_12 : decode cX7_resting 12 = .ok (.iconst 0, 1) := by decide +kernel
theorem dX7_resting_13 : decode cX7_resting 13 = .ok (.istore_n 3, 1) := by decide +kernel
theorem dX7_resting_14 : decode cX7_resting 14 = .ok (.iload_n 3, 1) := by decide +kernel
theorem dX7_resting_15 : decode cX7_resting 15 = .ok (.aload_n 0, 1) := by decide +kernel
theorem dX7_resting_16 : decode cX7_resting 16 = .ok (.getfield 31, 3) := by decide +kernel
theorem dX7_resting_19 : decode cX7_resting 19 = .ok (.if_icmp .ge 21, 3) := by decide +kernel
theorem dX7_resting_22 : decode cX7_resting 22 = .ok (.aload_n 0, 1) := by decide +kernel
theorem dX7_resting_23 : decode cX7_resting 23 = .ok (.iload_n 2, 1) := by decide +kernel
theorem dX7_resting_24 : decode cX7_resting 24 = .ok (.iload_n 3, 1) := by decide +kernel
theorem dX7_resting_25 : decode cX7_resting 25 = .ok (.invokevirtual 63, 3) := by decide +kernel
theorem dX7_resting_28 : decode cX7_resting 28 = .ok (.ifCond .eq 6, 3) := by decide +kernel
theorem dX7_resting_31 : decode cX7_resting 31 = .ok (.iinc 1 1, 3) := by decide +kernel
theorem dX7_resting_34 : decode cX7_resting 34 = .ok (.iinc 3 1, 3) := by decide +kernel
theorem dX7_resting_37 : decode cX7_resting 37 = .ok (.goto (-23), 3) := by decide +kernel
theorem dX7_resting_40 : decode cX7_resting 40 = .ok (.iinc 2 1, 3) := by decide +kernel
theorem dX7_resting_43 : decode cX7_resting 43 = .ok (.goto (-39), 3) := by decide +kernel
theorem dX7_resting_46 : decode cX7_resting 46 = .ok (.iload_n 1, 1) := by decide +kernel
theorem dX7_resting_47 : decode cX7_resting 47 = .ok (.ireturn, 1) := by decide +kernel
theorem dX7_restingAt_0 : decode cX7_restingAt 0 = .ok (.iconst 0, 1) := by decide +kernel
theorem dX7_restingAt_1 : decode cX7_restingAt 1 = .ok (.istore_n 2, 1) := by decide +kernel
theorem dX7_restingAt_2 : decode cX7_restingAt 2 = .ok (.iconst 0, 1) := by decide +kernel
theorem dX7_restingAt_3 : decode cX7_restingAt 3 = .ok (.istore_n 3, 1) := by decide +kernel
theorem dX7_restingAt_4 : decode cX7_restingAt 4 = .ok (.iload_n 3, 1) := by decide +kernel
theorem dX7_restingAt_5 : decode cX7_restingAt 5 = .ok (.aload_n 0, 1) := by decide +kernel
theorem dX7_restingAt_6 : decode cX7_restingAt 6 = .ok (.getfield 27, 3) := by decide +kernel
theorem dX7_restingAt_9 : decode cX7_restingAt 9 = .ok (.if_icmp .ge 56, 3) := by decide +kernel
theorem dX7_restingAt_12 : decode cX7_restingAt 12 = .ok (.iconst 0, 1) := by decide +kernel
theorem dX7_restingAt_13 : decode cX7_restingAt 13 = .ok (.istore 4, 2) := by decide +kernel
theorem dX7_restingAt_15 : decode cX7_restingAt 15 = .ok (.iload 4, 2) := by decide +kernel
theorem dX7_restingAt_17 : decode cX7_restingAt 17 = .ok (.aload_n 0, 1) := by decide +kernel
theorem dX7_restingAt_18 : decode cX7_restingAt 18 = .ok (.getfield 31, 3) := by decide +kernel
theorem dX7_restingAt_21 : decode cX7_restingAt 21 = .ok (.if_icmp .ge 38, 3) := by decide +kernel
theorem dX7_restingAt_24 : decode cX7_restingAt 24 = .ok (.aload_n 0, 1) := by decide +kernel
theorem dX7_restingAt_25 : decode cX7_restingAt 25 = .ok (.iload_n 3, 1) := by decide +kernel
theorem dX7_restingAt_26 : decode cX7_restingAt 26 = .ok (.iload 4, 2) := by decide +kernel
theorem dX7_restingAt_28 : decode cX7_restingAt 28 = .ok (.invokevirtual 63, 3) := by decide +kernel
theorem dX7_restingAt_31 : decode cX7_restingAt 31 = .ok (.ifCond .ne 6, 3) := by decide +kernel
theorem dX7_restingAt_34 : decode cX7_restingAt 34 = .ok (.goto 19, 3) := by decide +kernel
theorem dX7_restingAt_37 : decode cX7_restingAt 37 = .ok (.iload_n 2, 1) := by decide +kernel
theorem dX7_restingAt_38 : decode cX7_restingAt 38 = .ok (.iload_n 1, 1) := by decide +kernel
theorem dX7_restingAt_39 : decode cX7_restingAt 39 = .ok (.if_icmp .ne 11, 3) := by decide +kernel
theorem dX7_restingAt_42 : decode cX7_restingAt 42 = .ok (.bipush 10, 2) := by decide +kernel
theorem dX7_restingAt_44 : decode cX7_restingAt 44 = .ok (.iload_n 3, 1) := by decide +kernel
theorem dX7_restingAt_45 : decode cX7_restingAt 45 = .ok (.imul, 1) := by decide +kernel
theorem dX7_restingAt_46 : decode cX7_restingAt 46 = .ok (.iload 4, 2) := by decide +kernel
theorem dX7_restingAt_48 : decode cX7_restingAt 48 = .ok (.iadd, 1) := by decide +kernel
theorem dX7_restingAt_49 : decode cX7_restingAt 49 = .ok (.ireturn, 1) := by decide +kernel
theorem dX7_restingAt_50 : decode cX7_restingAt 50 = .ok (.iinc 2 1, 3) := by decide +kernel
theorem dX7_restingAt_53 : decode cX7_restingAt 53 = .ok (.iinc 4 1, 3) := by decide +kernel
theorem dX7_restingAt_56 : decode cX7_restingAt 56 = .ok (.goto (-41), 3) := by decide +kernel
theorem dX7_restingAt_59 : decode cX7_restingAt 59 = .ok (.iinc 3 1, 3) := by decide +kernel
theorem dX7_restingAt_62 : decode cX7_restingAt 62 = .ok (.goto (-58), 3) := by decide +kernel
theorem dX7_restingAt_65 : decode cX7_restingAt 65 = .ok (.bipush (-5), 2) := by decide +kernel
theorem dX7_restingAt_67 : decode cX7_restingAt 67 = .ok (.ireturn, 1) := by decide +kernel
theorem dX8_init_0 : decode cX8_init 0 = .ok (.aload_n 0, 1) := by decide +kernel
theorem dX8_init_1 : decode cX8_init 1 = .ok (.invokespecial 3, 3) := by decide +kernel
theorem dX8_init_4 : decode cX8_init 4 = .ok (.aload_n 0, 1) := by decide +kernel
theorem dX8_init_5 : decode cX8_init 5 = .ok (.new 9, 3) := by decide +kernel
theorem dX8_init_8 : decode cX8_init 8 = .ok (.dup, 1) := by decide +kernel
theorem dX8_init_9 : decode cX8_init 9 = .ok (.invokespecial 11, 3) := by decide +kernel
theorem dX8_init_12 : decode cX8_init 12 = .ok (.putfield 12, 3) := by decide +kernel
theorem dX8_init_15 : decode cX8_init 15 = .ok (.aload_n 0, 1) := by decide +kernel
theorem dX8_init_16 : decode cX8_init 16 = .ok (.iconst 2, 1) := by decide +kernel
theorem dX8_init_17 : decode cX8_init 17 = .ok (.anewarray 9, 3) := by decide +kernel
theorem dX8_init_20 : decode cX8_init 20 = .ok (.dup, 1) := by decide +kernel
theorem dX8_init_21 : decode cX8_init 21 = .ok (.iconst 0, 1) := by decide +kernel
theorem dX8_init_22 : decode cX8_init 22 = .ok (.new 9, 3) := by decide +kernel
theorem dX8_init_25 : decode cX8_init 25 = .ok (.dup, 1) := by decide +kernel
theorem dX8_init_26 : decode cX8_init 26 = .ok (.invokespecial 11, 3) := by decide +kernel
theorem dX8_init_29 : decode cX8_init 29 = .ok (.aastore, 1) := by decide +kernel
theorem dX8_init_30 : decode cX8_init 30 = .ok (.dup, 1) := by decide +kernel
theorem dX8_init_31 : decode cX8_init 31 = .ok (.iconst 1, 1) := by decide +kernel
theorem dX8_init_32 : decode cX8_init 32 = .ok (.new 9, 3) := by decide +kernel
theorem dX8_init_35 : decode cX8_init 35 = .ok (.dup, 1) := by decide +kernel
theorem dX8_init_36 : decode cX8_init 36 = .ok (.invokespecial 11, 3) := by decide +kernel
theorem dX8_init_39 : decode cX8_init 39 = .ok (.aastore, 1) := by decide +kernel
theorem dX8_init_40 : decode cX8_init 40 = .ok (.putfield 16, 3) := by decide +kernel
theorem dX8_init_43 : decode cX8_init 43 = .ok (.aload_n 0, 1) := by decide +kernel
theorem dX8_init_44 : decode cX8_init 44 = .ok (.iconst 2, 1) := by decide +kernel
theorem dX8_init_45 : decode cX8_init 45 = .ok (.newarray .boolean, 2) := by decide +kernel
theorem dX8_init_47 : decode cX8_init 47 = .ok (.putfield 20, 3) := by decide +kernel
theorem dX8_init_50 : decode cX8_init 50 = .ok (.aload_n 0, 1) := by decide +kernel
theorem dX8_init_51 : decode cX8_init 51 = .ok (.new 24, 3) := by decide +kernel
theorem dX8_init_54 : decode cX8_init 54 = .ok (.dup, 1) := by decide +kernel
theorem dX8_init_55 : decode cX8_init 55 = .ok (.invokespecial 26, 3) := by decide +kernel
theorem dX8_init_58 : decode cX8_init 58 = .ok (.putfield 27, 3) := by decide +kernel
theorem dX8_init_61 : decode cX8_init 61 = .ok (.aload_n 0, 1) := by decide +kernel
theorem dX8_init_62 : decode cX8_init 62 = .ok (.new 31, 3) := by decide +kernel
theorem dX8_init_65 : decode cX8_init 65 = .ok (.dup, 1) := by decide +kernel
theorem dX8_init_66 : decode cX8_init 66 = .ok (.invokespecial 33, 3) := by decide +kernel
theorem dX8_init_69 : decode cX8_init 69 = .ok (.putfield 34, 3) := by decide +kernel
theorem dX8_init_72 : decode cX8_init 72 = .ok (.aload_n 0, 1) := by decide +kernel
theorem dX8_init_73 : decode cX8_init 73 = .ok (.new 38, 3) := by decide +kernel
theorem dX8_init_76 : decode cX8_init 76 = .ok (.dup, 1) := by decide +kernel
theorem dX8_init_77 : decode cX8_init 77 = .ok (.invokespecial 40, 3) := by decide +kernel
theorem dX8_init_80 : decode cX8_init 80 = .ok (.putfield 41, 3) := by decide +kernel
theorem dX8_init_83 : decode cX8_init 83 = .ok (.aload_n 0, 1) := by decide +kernel
theorem dX8_init_84 : decode cX8_init 84 = .ok (.new 45, 3) := by decide +kernel
theorem dX8_init_87 : decode cX8_init 87 = .ok (.dup, 1) := by decide +kernel
theorem dX8_init_88 : decode cX8_init 88 = .ok (.invokespecial 47, 3) := by decide +kernel
theorem dX8_init_91 : decode cX8_init 91 = .ok (.putfield 48, 3) := by decide +kernel
theorem dX8_init_94 : decode cX8_init 94 = .ok (.aload_n 0, 1) := by decide +kernel
theorem dX8_init_95 : decode cX8_init 95 = .ok (.new 52, 3) := by decide +kernel
theorem dX8_init_98 : decode cX8_init 98 = .ok (.dup, 1) := by decide +kernel
theorem dX8_init_99 : decode cX8_init 99 = .ok (.invokespecial 54, 3) := by decide +kernel
theorem dX8_init_102 : decode cX8_init 102 = .ok (.putfield 55, 3) := by decide +kernel
theorem dX8_init_105 : decode cX8_init 105 = .ok (.aload_n 0, 1) := by decide +kernel
theorem dX8_init_106 : decode cX8_init 106 = .ok (.new 59, 3) := by decide +kernel
theorem dX8_init_109 : decode cX8_init 109 = .ok (.dup, 1) := by decide +kernel
theorem dX8_init_110 : decode cX8_init 110 = .ok (.invokespecial 61, 3) := by decide +kernel
theorem dX8_init_113 : decode cX8_init 113 = .ok (.putfield 62, 3) := by decide +kernel
theorem dX8_init_116 : decode cX8_init 116 = .ok (.return_, 1) := by decide +kernel
theorem dX8_bus_0 : decode cX8_bus 0 = .ok (.iload_n 1, 1) := by decide +kernel
theorem dX8_bus_1 : decode cX8_bus 1 = .ok (.iconst 1, 1) := by decide +kernel
theorem dX8_bus_2 : decode cX8_bus 2 = .ok (.bipush 7, 2) := by decide +kernel
theorem dX8_bus_4 : decode cX8_bus 4 = .ok (.invokestatic 66, 3) := by decide +kernel
theorem dX8_bus_7 : decode cX8_bus 7 = .ok (.ifCond .ne 8, 3) := by decide +kernel
theorem dX8_bus_10 : decode cX8_bus 10 = .ok (.aload_n 0, 1) := by decide +kernel
theorem dX8_bus_11 : decode cX8_bus 11 = .ok (.invokevirtual 70, 3) := by decide +kernel
theorem dX8_bus_14 : decode cX8_bus 14 = .ok (.ireturn, 1) := by decide +kernel
theorem dX8_bus_15 : decode cX8_bus 15 = .ok (.aload_n 0, 1) := by decide +kernel
theorem dX8_bus_16 : decode cX8_bus 16 = .ok (.getfield 12, 3) := by decide +kernel
theorem dX8_bus_19 : decode cX8_bus 19 = .ok (.getfield 74, 3) := by decide +kernel
theorem dX8_bus_22 : decode cX8_bus 22 = .ok (.istore_n 2, 1) := by decide +kernel
theorem dX8_bus_23 : decode cX8_bus 23 = .ok (.aload_n 0, 1) := by decide +kernel
theorem dX8_bus_24 : decode cX8_bus 24 = .ok (.getfield 12, 3) := by decide +kernel
theorem dX8_bus_27 : decode cX8_bus 27 = .ok (.invokevirtual 78, 3) := by decide +kernel
theorem dX8_bus_30 : decode cX8_bus 30 = .ok (.aload_n 0, 1) := by decide +kernel
theorem dX8_bus_31 : decode cX8_bus 31 = .ok (.getfield 12, 3) := by decide +kernel
theorem dX8_bus_34 : decode cX8_bus 34 = .ok (.iload_n 1, 1) := by decide +kernel
theorem dX8_bus_35 : decode cX8_bus 35 = .ok (.putfield 81, 3) := by decide +kernel
theorem dX8_bus_38 : decode cX8_bus 38 = .ok (.iload_n 2, 1) := by decide +kernel
theorem dX8_bus_39 : decode cX8_bus 39 = .ok (.ireturn, 1) := by decide +kernel
theorem dX8_room_0 : decode cX8_room 0 = .ok (.iload_n 1, 1) := by decide +kernel
theorem dX8_room_1 : decode cX8_room 1 = .ok (.iconst 1, 1) := by decide +kernel
theorem dX8_room_2 : decode cX8_room 2 = .ok (.bipush 7, 2) := by decide +kernel
theorem dX8_room_4 : decode cX8_room 4 = .ok (.invokestatic 66, 3) := by decide +kernel
theorem dX8_room_7 : decode cX8_room 7 = .ok (.ifCond .ne 8, 3) := by decide +kernel
theorem dX8_room_10 : decode cX8_room 10 = .ok (.aload_n 0, 1) := by decide +kernel
theorem dX8_room_11 : decode cX8_room 11 = .ok (.invokevirtual 70, 3) := by decide +kernel
theorem dX8_room_14 : decode cX8_room 14 = .ok (.ireturn, 1) := by decide +kernel
theorem dX8_room_15 : decode cX8_room 15 = .ok (.aload_n 0, 1) := by decide +kernel
theorem dX8_room_16 : decode cX8_room 16 = .ok (.getfield 12, 3) := by decide +kernel
theorem dX8_room_19 : decode cX8_room 19 = .ok (.getfield 81, 3) := by decide +kernel
theorem dX8_room_22 : decode cX8_room 22 = .ok (.istore_n 2, 1) := by decide +kernel
theorem dX8_room_23 : decode cX8_room 23 = .ok (.aload_n 0, 1) := by decide +kernel
theorem dX8_room_24 : decode cX8_room 24 = .ok (.getfield 12, 3) := by decide +kernel
theorem dX8_room_27 : decode cX8_room 27 = .ok (.iload_n 1, 1) := by decide +kernel
theorem dX8_room_28 : decode cX8_room 28 = .ok (.putfield 81, 3) := by decide +kernel
theorem dX8_room_31 : decode cX8_room 31 = .ok (.aload_n 0, 1) := by decide +kernel
theorem dX8_room_32 : decode cX8_room 32 = .ok (.getfield 12, 3) := by decide +kernel
theorem dX8_room_35 : decode cX8_room 35 = .ok (.iconst 0, 1) := by decide +kernel
theorem dX8_room_36 : decode cX8_room 36 = .ok (.putfield 84, 3) := by decide +kernel
theorem dX8_room_39 : decode cX8_room 39 = .ok (.iload_n 2, 1) := by decide +kernel
theorem dX8_room_40 : decode cX8_room 40 = .ok (.ireturn, 1) := by decide +kernel
theorem dX8_bridge_0 : decode cX8_bridge 0 = .ok (.iload_n 1, 1) := by decide +kernel
theorem dX8_bridge_1 : decode cX8_bridge 1 = .ok (.iconst 0, 1) := by decide +kernel
theorem dX8_bridge_2 : decode cX8_bridge 2 = .ok (.bipush 9, 2) := by decide +kernel
theorem dX8_bridge_4 : decode cX8_bridge 4 = .ok (.invokestatic 66, 3) := by decide +kernel
theorem dX8_bridge_7 : decode cX8_bridge 7 = .ok (.ifCond .eq 13, 3) := by decide +kernel
theorem dX8_bridge_10 : decode cX8_bridge 10 = .ok (.iload_n 2, 1) := by decide +kernel
theorem dX8_bridge_11 : decode cX8_bridge 11 = .ok (.iconst 0, 1) := by decide +kernel
theorem dX8_bridge_12 : decode cX8_bridge 12 = .ok (.bipush 9, 2) := by decide +kernel
theorem dX8_bridge_14 : decode cX8_bridge 14 = .ok (.invokestatic 66, 3) := by decide +kernel
theorem dX8_bridge_17 : decode cX8_bridge 17 = .ok (.ifCond .ne 8, 3) := by decide +kernel
theorem dX8_bridge_20 : decode cX8_bridge 20 = .ok (.aload_n 0, 1) := by decide +kernel
theorem dX8_bridge_21 : decode cX8_bridge 21 = .ok (.invokevirtual 70, 3) := by decide +kernel
theorem dX8_bridge_24 : decode cX8_bridge 24 = .ok (.ireturn, 1) := by decide +kernel
theorem dX8_bridge_25 : decode cX8_bridge 25 = .ok (.aload_n 0, 1) := by decide +kernel
theorem dX8_bridge_26 : decode cX8_bridge 26 = .ok (.getfield 12, 3) := by decide +kernel
theorem dX8_bridge_29 : decode cX8_bridge 29 = .ok (.getfield 87, 3) := by decide +kernel
theorem dX8_bridge_32 : decode cX8_bridge 32 = .ok (.iload_n 1, 1) := by decide +kernel
theorem dX8_bridge_33 : decode cX8_bridge 33 = .ok (.iaload, 1) := by decide +kernel
theorem dX8_bridge_34 : decode cX8_bridge 34 = .ok (.istore_n 3, 1) := by decide +kernel
theorem dX8_bridge_35 : decode cX8_bridge 35 = .ok (.aload_n 0, 1) := by decide +kernel
theorem dX8_bridge_36 : decode cX8_bridge 36 = .ok (.getfield 12, 3) := by decide +kernel
theorem dX8_bridge_39 : decode cX8_bridge 39 = .ok (.getfield 87, 3) := by decide +kernel
theorem dX8_bridge_42 : decode cX8_bridge 42 = .ok (.iload_n 1, 1) := by decide +kernel
theorem dX8_bridge_43 : decode cX8_bridge 43 = .ok (.iload_n 2, 1) := by decide +kernel
theorem dX8_bridge_44 : decode cX8_bridge 44 = .ok (.iastore, 1) := by decide +kernel
theorem dX8_bridge_45 : decode cX8_bridge 45 = .ok (.aload_n 0, 1) := by decide +kernel
theorem dX8_bridge_46 : decode cX8_bridge 46 = .ok (.getfield 12, 3) := by decide +kernel
theorem dX8_bridge_49 : decode cX8_bridge 49 = .ok (.iconst 0, 1) := by decide +kernel
theorem dX8_bridge_50 : decode cX8_bridge 50 = .ok (.putfield 84, 3) := by decide +kernel
theorem dX8_bridge_53 : decode cX8_bridge 53 = .ok (.iload_n 3, 1) := by decide +kernel
theorem dX8_bridge_54 : decode cX8_bridge 54 = .ok (.ireturn, 1) := by decide +kernel
theorem dX8_idea_0 : decode cX8_idea 0 = .ok (.iload_n 1, 1) := by decide +kernel
theorem dX8_idea_1 : decode cX8_idea 1 = .ok (.iconst 0, 1) := by decide +kernel
theorem dX8_idea_2 : decode cX8_idea 2 = .ok (.iconst 5, 1) := by decide +kernel
theorem dX8_idea_3 : decode cX8_idea 3 = .ok (.invokestatic 66, 3) := by decide +kernel
theorem dX8_idea_6 : decode cX8_idea 6 = .ok (.ifCond .eq 13, 3) := by decide +kernel
theorem dX8_idea_9 : decode cX8_idea 9 = .ok (.iload_n 2, 1) := by decide +kernel
theorem dX8_idea_10 : decode cX8_idea 10 = .ok (.iconst 1, 1) := by decide +kernel
theorem dX8_idea_11 : decode cX8_idea 11 = .ok (.bipush 9, 2) := by decide +kernel
theorem dX8_idea_13 : decode cX8_idea 13 = .ok (.invokestatic 66, 3) := by decide +kernel
theorem dX8_idea_16 : decode cX8_idea 16 = .ok (.ifCond .ne 8, 3) := by decide +kernel
theorem dX8_idea_19 : decode cX8_idea 19 = .ok (.aload_n 0, 1) := by decide +kernel
theorem dX8_idea_20 : decode cX8_idea 20 = .ok (.invokevirtual 70, 3) := by decide +kernel
theorem dX8_idea_23 : decode cX8_idea 23 = .ok (.ireturn, 1) := by decide +kernel
theorem dX8_idea_24 : decode cX8_idea 24 = .ok (.iload_n 3, 1) := by decide +kernel
theorem dX8_idea_25 : decode cX8_idea 25 = .ok (.iconst 0, 1) := by decide +kernel
theorem dX8_idea_26 : decode cX8_idea 26 = .ok (.bipush 8, 2) := by decide +kernel
theorem dX8_idea_28 : decode cX8_idea 28 = .ok (.invokestatic 66, 3) := by decide +kernel
theorem dX8_idea_31 : decode cX8_idea 31 = .ok (.ifCond .eq 16, 3) := by decide +kernel
theorem dX8_idea_34 : decode cX8_idea 34 = .ok (.iload 4, 2) := by decide +kernel
theorem dX8_idea_36 : decode cX8_idea 36 = .ok (.iload_n 3, 1) := by decide +kernel
theorem dX8_idea_37 : decode cX8_idea 37 = .ok (.iconst 1, 1) := by decide +kernel
theorem dX8_idea_38 : decode cX8_idea 38 = .ok (.iadd, 1) := by decide +kernel
theorem dX8_idea_39 : decode cX8_idea 39 = .ok (.bipush 9, 2) := by decide +kernel
theorem dX8_idea_41 : decode cX8_idea 41 = .ok (.invokestatic 66, 3) := by decide +kernel
theorem dX8_idea_44 : decode cX8_idea 44 = .ok (.ifCond .ne 8, 3) := by decide +kernel
theorem dX8_idea_47 : decode cX8_idea 47 = .ok (.aload_n 0, 1) := by decide +kernel
theorem dX8_idea_48 : decode cX8_idea 48 = .ok (.invokevirtual 70, 3) := by decide +kernel
theorem dX8_idea_51 : decode cX8_idea 51 = .ok (.ireturn, 1) := by decide +kernel
theorem dX8_idea_52 : decode cX8_idea 52 = .ok (.aload_n 0, 1) := by decide +kernel
theorem dX8_idea_53 : decode cX8_idea 53 = .ok (.getfield 12, 3) := by decide +kernel
theorem dX8_idea_56 : decode cX8_idea 56 = .ok (.getfield 74, 3) := by decide +kernel
theorem dX8_idea_59 : decode cX8_idea 59 = .ok (.bipush 7, 2) := by decide +kernel
theorem dX8_idea_61 : decode cX8_idea 61 = .ok (.if_icmp .lt 8, 3) := by decide +kernel
theorem dX8_idea_64 : decode cX8_idea 64 = .ok (.aload_n 0, 1) := by decide +kernel
theorem dX8_idea_65 : decode cX8_idea 65 = .ok (.invokevirtual 91, 3) := by decide +kernel
theorem dX8_idea_68 : decode cX8_idea 68 = .ok (.ireturn, 1) := by decide +kernel
theorem dX8_idea_69 : decode cX8_idea 69 = .ok (.aload_n 0, 1) := by decide +kernel
theorem dX8_idea_70 : decode cX8_idea 70 = .ok (.getfield 12, 3) := by decide +kernel
theorem dX8_idea_73 : decode cX8_idea 73 = .ok (.iload_n 1, 1) := by decide +kernel
theorem dX8_idea_74 : decode cX8_idea 74 = .ok (.iload_n 2, 1) := by decide +kernel
theorem dX8_idea_75 : decode cX8_idea 75 = .ok (.iload_n 3, 1) := by decide +kernel
theorem dX8_idea_76 : decode cX8_idea 76 = .ok (.iload 4, 2) := by decide +kernel
theorem dX8_idea_78 : decode cX8_idea 78 = .ok (.invokevirtual 94, 3) := by decide +kernel
theorem dX8_idea_81 : decode cX8_idea 81 = .ok (.aload_n 0, 1) := by decide +kernel
theorem dX8_idea_82 : decode cX8_idea 82 = .ok (.getfield 12, 3) := by decide +kernel
theorem dX8_idea_85 : decode cX8_idea 85 = .ok (.iconst 0, 1) := by decide +kernel
theorem dX8_idea_86 : decode cX8_idea 86 = .ok (.putfield 84, 3) := by decide +kernel
theorem dX8_idea_89 : decode cX8_idea 89 = .ok (.aload_n 0, 1) := by decide +kernel
theorem dX8_idea_90 : decode cX8_idea 90 = .ok (.getfield 12, 3) := by decide +kernel
theorem dX8_idea_93 : decode cX8_idea 93 = .ok (.getfield 74, 3) := by decide +kernel
theorem dX8_idea_96 : decode cX8_idea 96 = .ok (.iconst 1, 1) := by decide +kernel
theorem dX8_idea_97 : decode cX8_idea 97 = .ok (.isub, 1) := by decide +kernel
theorem dX8_idea_98 : decode cX8_idea 98 = .ok (.ireturn, 1) := by decide +kernel
theorem dX8_quarrel_0 : decode cX8_quarrel 0 = .ok (.aload_n 0, 1) := by decide +kernel
theorem dX8_quarrel_1 : decode cX8_quarrel 1 = .ok (.getfield 12, 3) := by decide +kernel
theorem dX8_quarrel_4 : decode cX8_quarrel 4 = .ok (.iload_n 1, 1) := by decide +kernel
theorem dX8_quarrel_5 : decode cX8_quarrel 5 = .ok (.iload_n 2, 1) := by decide +kernel
theorem dX8_quarrel_6 : decode cX8_quarrel 6 = .ok (.invokevirtual 98, 3) := by decide +kernel
theorem dX8_quarrel_9 : decode cX8_quarrel 9 = .ok (.ifCond .eq 12, 3) := by decide +kernel
theorem dX8_quarrel_12 : decode cX8_quarrel 12 = .ok (.iload_n 3, 1) := by decide +kernel
theorem dX8_quarrel_13 : decode cX8_quarrel 13 = .ok (.iconst 0, 1) := by decide +kernel
theorem dX8_quarrel_14 : decode cX8_quarrel 14 = .ok (.iconst 1, 1) := by decide +kernel
theorem dX8_quarrel_15 : decode cX8_quarrel 15 = .ok (.invokestatic 66, 3) := by decide +kernel
theorem dX8_quarrel_18 : decode cX8_quarrel 18 = .ok (.ifCond .ne 8, 3) := by decide +kernel
theorem dX8_quarrel_21 : decode cX8_quarrel 21 = .ok (.aload_n 0, 1) := by decide +kernel
theorem dX8_quarrel_22 : decode cX8_quarrel 22 = .ok (.invokevirtual 70, 3) := by decide +kernel
theorem dX8_quarrel_25 : decode cX8_quarrel 25 = .ok (.ireturn, 1) := by decide +kernel
theorem dX8_quarrel_26 : decode cX8_quarrel 26 = .ok (.aload_n 0, 1) := by decide +kernel
theorem dX8_quarrel_27 : decode cX8_quarrel 27 = .ok (.getfield 12, 3) := by decide +kernel
theorem dX8_quarrel_30 : decode cX8_quarrel 30 = .ok (.getfield 102, 3) := by decide +kernel
theorem dX8_quarrel_33 : decode cX8_quarrel 33 = .ok (.iload_n 1, 1) := by decide +kernel
theorem dX8_quarrel_34 : decode cX8_quarrel 34 = .ok (.iaload, 1) := by decide +kernel
theorem dX8_quarrel_35 : decode cX8_quarrel 35 = .ok (.iload_n 2, 1) := by decide +kernel
theorem dX8_quarrel_36 : decode cX8_quarrel 36 = .ok (.invokestatic 105, 3) := by decide +kernel
theorem dX8_quarrel_39 : decode cX8_quarrel 39 = .ok (.istore 4, 2) := by decide +kernel
theorem dX8_quarrel_41 : decode cX8_quarrel 41 = .ok (.aload_n 0, 1) := by decide +kernel
theorem dX8_quarrel_42 : decode cX8_quarrel 42 = .ok (.getfield 12, 3) := by decide +kernel
theorem dX8_quarrel_45 : decode cX8_quarrel 45 = .ok (.iload_n 1, 1) := by decide +kernel
theorem dX8_quarrel_46 : decode cX8_quarrel 46 = .ok (.iload_n 2, 1) := by decide +kernel
theorem dX8_quarrel_47 : decode cX8_quarrel 47 = .ok (.iload_n 3, 1) := by decide +kernel
theorem dX8_quarrel_48 : decode cX8_quarrel 48 = .ok (.iconst 1, 1) := by decide +kernel
theorem dX8_quarrel_49 : decode cX8_quarrel 49 = .ok (.if_icmp .ne 7, 3) := by decide +kernel
theorem dX8_quarrel_52 : decode cX8_quarrel 52 = .ok (.iconst 1, 1) := by decide +kernel
theorem dX8_quarrel_53 : decode cX8_quarrel 53 = .ok (.goto 4, 3) := by decide +kernel
theorem dX8_quarrel_56 : decode cX8_quarrel 56 = .ok (.iconst 0, 1) := by decide +kernel
theorem dX8_quarrel_57 : decode cX8_quarrel 57 = .ok (.invokevirtual 109, 3) := by decide +kernel
theorem dX8_quarrel_60 : decode cX8_quarrel 60 = .ok (.aload_n 0, 1) := by decide +kernel
theorem dX8_quarrel_61 : decode cX8_quarrel 61 = .ok (.getfield 12, 3) := by decide +kernel
theorem dX8_quarrel_64 : decode cX8_quarrel 64 = .ok (.iconst 0, 1) := by decide +kernel
theorem dX8_quarrel_65 : decode cX8_quarrel 65 = .ok (.putfield 84, 3) := by decide +kernel
theorem dX8_quarrel_68 : decode cX8_quarrel 68 = .ok (.iload 4, 2) := by decide +kernel
theorem dX8_quarrel_70 : decode cX8_quarrel 70 = .ok (.ireturn, 1) := by decide +kernel
theorem dX8_type_0 : decode cX8_type 0 = .ok (.iload_n 1, 1) := by decide +kernel
theorem dX8_type_1 : decode cX8_type 1 = .ok (.iconst 0, 1) := by decide +kernel
theorem dX8_type_2 : decode cX8_type 2 = .ok (.bipush 127, 2) := by decide +kernel
theorem dX8_type_4 : decode cX8_type 4 = .ok (.invokestatic 66, 3) := by decide +kernel
theorem dX8_type_7 : decode cX8_type 7 = .ok (.ifCond .ne 8, 3) := by decide +kernel
theorem dX8_type_10 : decode cX8_type 10 = .ok (.aload_n 0, 1) := by decide +kernel
theorem dX8_type_11 : decode cX8_type 11 = .ok (.invokevirtual 70, 3) := by decide +kernel
theorem dX8_type_14 : decode cX8_type 14 = .ok (.ireturn, 1) := by decide +kernel
theorem dX8_type_15 : decode cX8_type 15 = .ok (.aload_n 0, 1) := by decide +kernel
theorem dX8_type_16 : decode cX8_type 16 = .ok (.getfield 62, 3) := by decide +kernel
theorem dX8_type_19 : decode cX8_type 19 = .ok (.getfield 113, 3) := by decide +kernel
theorem dX8_type_22 : decode cX8_type 22 = .ok (.sipush 150, 3) := by decide +kernel
theorem dX8_type_25 : decode cX8_type 25 = .ok (.if_icmp .lt 8, 3) := by decide +kernel
theorem dX8_type_28 : decode cX8_type 28 = .ok (.aload_n 0, 1) := by decide +kernel
theorem dX8_type_29 : decode cX8_type 29 = .ok (.invokevirtual 91, 3) := by decide +kernel
theorem dX8_type_32 : decode cX8_type 32 = .ok (.ireturn, 1) := by decide +kernel
theorem dX8_type_33 : decode cX8_type 33 = .ok (.aload_n 0, 1) := by decide +kernel
theorem dX8_type_34 : decode cX8_type 34 = .ok (.getfield 62, 3) := by decide +kernel
theorem dX8_type_37 : decode cX8_type 37 = .ok (.iload_n 1, 1) := by decide +kernel
theorem dX8_type_38 : decode cX8_type 38 = .ok (.invokevirtual 116, 3) := by decide +kernel
theorem dX8_type_41 : decode cX8_type 41 = .ok (.aload_n 0, 1) := by decide +kernel
theorem dX8_type_42 : decode cX8_type 42 = .ok (.getfield 62, 3) := by decide +kernel
theorem dX8_type_45 : decode cX8_type 45 = .ok (.getfield 113, 3) := by decide +kernel
theorem dX8_type_48 : decode cX8_type 48 = .ok (.ireturn, 1) := by decide +kernel
theorem dX8_clear_0 : decode cX8_clear 0 = .ok (.aload_n 0, 1) := by decide +kernel
theorem dX8_clear_1 : decode cX8_clear 1 = .ok (.getfield 62, 3) := by decide +kernel
theorem dX8_clear_4 : decode cX8_clear 4 = .ok (.getfield 113, 3) := by decide +kernel
theorem dX8_clear_7 : decode cX8_clear 7 = .ok (.istore_n 1, 1) := by decide +kernel
theorem dX8_clear_8 : decode cX8_clear 8 = .ok (.aload_n 0, 1) := by decide +kernel
theorem dX8_clear_9 : decode cX8_clear 9 = .ok (.getfield 62, 3) := by decide +kernel
theorem dX8_clear_12 : decode cX8_clear 12 = .ok (.iconst 0, 1) := by decide +kernel
theorem dX8_clear_13 : decode cX8_clear 13 = .ok (.putfield 113, 3) := by decide +kernel
theorem dX8_clear_16 : decode cX8_clear 16 = .ok (.iload_n 1, 1) := by decide +kernel
theorem dX8_clear_17 : decode cX8_clear 17 = .ok (.ireturn, 1) := by decide +kernel
theorem dX8_read_0 : decode cX8_read 0 = .ok (.aload_n 0, 1) := by decide +kernel
theorem dX8_read_1 : decode cX8_read 1 = .ok (.getfield 62, 3) := by decide +kernel
theorem dX8_read_4 : decode cX8_read 4 = .ok (.invokevirtual 120, 3) := by decide +kernel
theorem dX8_read_7 : decode cX8_read 7 = .ok (.ifCond .ne 14, 3) := by decide +kernel
theorem dX8_read_10 : decode cX8_read 10 = .ok (.bipush (-10), 2) := by decide +kernel
theorem dX8_read_12 : decode cX8_read 12 = .ok (.aload_n 0, 1) := by decide +kernel
theorem dX8_read_13 : decode cX8_read 13 = .ok (.getfield 62, 3) := by decide +kernel
theorem dX8_read_16 : decode cX8_read 16 = .ok (.getfield 124, 3) := by decide +kernel
theorem dX8_read_19 : decode cX8_read 19 = .ok (.isub, 1) := by decide +kernel
theorem dX8_read_20 : decode cX8_read 20 = .ok (.ireturn, 1) := by decide +kernel
theorem dX8_read_21 : decode cX8_read 21 = .ok (.aload_n 0, 1) := by decide +kernel
theorem dX8_read_22 : decode cX8_read 22 = .ok (.getfield 12, 3) := by decide +kernel
theorem dX8_read_25 : decode cX8_read 25 = .ok (.aload_n 0, 1) := by decide +kernel
theorem dX8_read_26 : decode cX8_read 26 = .ok (.getfield 62, 3) := by decide +kernel
theorem dX8_read_29 : decode cX8_read 29 = .ok (.getfield 127, 3) := by decide +kernel
theorem dX8_read_32 : decode cX8_read 32 = .ok (.invokevirtual 130, 3) := by decide +kernel
theorem dX8_read_35 : decode cX8_read 35 = .ok (.aload_n 0, 1) := by decide +kernel
theorem dX8_read_36 : decode cX8_read 36 = .ok (.getfield 62, 3) := by decide +kernel
theorem dX8_read_39 : decode cX8_read 39 = .ok (.getfield 134, 3) := by decide +kernel
theorem dX8_read_42 : decode cX8_read 42 = .ok (.ireturn, 1) := by decide +kernel
theorem dX8_drive_0 : decode cX8_drive 0 = .ok (.iload_n 1, 1) := by decide +kernel
theorem dX8_drive_1 : decode cX8_drive 1 = .ok (.iconst 1, 1) := by decide +kernel
theorem dX8_drive_2 : decode cX8_drive 2 = .ok (.bipush 10, 2) := by decide +kernel
theorem dX8_drive_4 : decode cX8_drive 4 = .ok (.invokestatic 66, 3) := by decide +kernel
theorem dX8_drive_7 : decode cX8_drive 7 = .ok (.ifCond .ne 8, 3) := by decide +kernel
theorem dX8_drive_10 : decode cX8_drive 10 = .ok (.aload_n 0, 1) := by decide +kernel
theorem dX8_drive_11 : decode cX8_drive 11 = .ok (.invokevirtual 70, 3) := by decide +kernel
theorem dX8_drive_14 : decode cX8_drive 14 = .ok (.ireturn, 1) := by decide +kernel
theorem dX8_drive_15 : decode cX8_drive 15 = .ok (.iload_n 1, 1) := by decide +kernel
theorem dX8_drive_16 : decode cX8_drive 16 = .ok (.bipush 10, 2) := by decide +kernel
theorem dX8_drive_18 : decode cX8_drive 18 = .ok (.aload_n 0, 1) := by decide +kernel
theorem dX8_drive_19 : decode cX8_drive 19 = .ok (.getfield 12, 3) := by decide +kernel
theorem dX8_drive_22 : decode cX8_drive 22 = .ok (.getfield 137, 3) := by decide +kernel
theorem dX8_drive_25 : decode cX8_drive 25 = .ok (.getfield 141, 3) := by decide +kernel
theorem dX8_drive_28 : decode cX8_drive 28 = .ok (.isub, 1) := by decide +kernel
theorem dX8_drive_29 : decode cX8_drive 29 = .ok (.if_icmp .le 8, 3) := by decide +kernel
theorem dX8_drive_32 : decode cX8_drive 32 = .ok (.aload_n 0, 1) := by decide +kernel
theorem dX8_drive_33 : decode cX8_drive 33 = .ok (.invokevirtual 146, 3) := by decide +kernel
theorem dX8_drive_36 : decode cX8_drive 36 = .ok (.ireturn, 1) := by decide +kernel
theorem dX8_drive_37 : decode cX8_drive 37 = .ok (.aload_n 0, 1) := by decide +kernel
theorem dX8_drive_38 : decode cX8_drive 38 = .ok (.getfield 12, 3) := by decide +kernel
theorem dX8_drive_41 : decode cX8_drive 41 = .ok (.getfield 137, 3) := by decide +kernel
theorem dX8_drive_44 : decode cX8_drive 44 = .ok (.getfield 149, 3) := by decide +kernel
theorem dX8_drive_47 : decode cX8_drive 47 = .ok (.istore_n 2, 1) := by decide +kernel
theorem dX8_drive_48 : decode cX8_drive 48 = .ok (.aload_n 0, 1) := by decide +kernel
theorem dX8_drive_49 : decode cX8_drive 49 = .ok (.getfield 12, 3) := by decide +kernel
theorem dX8_drive_52 : decode cX8_drive 52 = .ok (.invokevirtual 152, 3) := by decide +kernel
theorem dX8_drive_55 : decode cX8_drive 55 = .ok (.iconst 0, 1) := by decide +kernel
theorem dX8_drive_56 : decode cX8_drive 56 = .ok (.istore_n 3, 1) := by decide +kernel
theorem dX8_drive_57 : decode cX8_drive 57 = .ok (.iload_n 3, 1) := by decide +kernel
theorem dX8_drive_58 : decode cX8_drive 58 = .ok (.iload_n 1, 1) := by decide +kernel
theorem dX8_drive_59 : decode cX8_drive 59 = .ok (.if_icmp .ge 31, 3) := by decide +kernel
theorem dX8_drive_62 : decode cX8_drive 62 = .ok (.aload_n 0, 1) := by decide +kernel
theorem dX8_drive_63 : decode cX8_drive 63 = .ok (.getfield 12, 3) := by decide +kernel
theorem dX8_drive_66 : decode cX8_drive 66 = .ok (.aload_n 0, 1) := by decide +kernel
theorem dX8_drive_67 : decode cX8_drive 67 = .ok (.getfield 12, 3) := by decide +kernel
theorem dX8_drive_70 : decode cX8_drive 70 = .ok (.getfield 137, 3) := by decide +kernel
theorem dX8_drive_73 : decode cX8_drive 73 = .ok (.aload_n 0, 1) := by decide +kernel
theorem dX8_drive_74 : decode cX8_drive 74 = .ok (.getfield 12, 3) := by decide +kernel
theorem dX8_drive_77 : decode cX8_drive 77 = .ok (.getfield 155, 3) := by decide +kernel
theorem dX8_drive_80 : decode cX8_drive 80 = .ok (.iconst 0, 1) := by decide +kernel
theorem dX8_drive_81 : decode cX8_drive 81 = .ok (.invokevirtual 158, 3) := by decide +kernel
theorem dX8_drive_84 : decode cX8_drive 84 = .ok (.iinc 3 1, 3) := by decide +kernel
theorem dX8_drive_87 : decode cX8_drive 87 = .ok (.goto (-30), 3) := by decide +kernel
theorem dX8_drive_90 : decode cX8_drive 90 = .ok (.aload_n 0, 1) := by decide +kernel
theorem dX8_drive_91 : decode cX8_drive 91 = .ok (.getfield 12, 3) := by decide +kernel
theorem dX8_drive_94 : decode cX8_drive 94 = .ok (.getfield 137, 3) := by decide +kernel
theorem dX8_drive_97 : decode cX8_drive 97 = .ok (.getfield 149, 3) := by decide +kernel
theorem dX8_drive_100 : decode cX8_drive 100 = .ok (.iload_n 2, 1) := by decide +kernel
theorem dX8_drive_101 : decode cX8_drive 101 = .ok (.isub, 1) := by decide +kernel
theorem dX8_drive_102 : decode cX8_drive 102 = .ok (.ireturn, 1) := by decide +kernel
theorem dX8_puts_0 : decode cX8_puts 0 = .ok (.aload_n 0, 1) := by decide +kernel
theorem dX8_puts_1 : decode cX8_puts 1 = .ok (.getfield 12, 3) := by decide +kernel
theorem dX8_puts_4 : decode cX8_puts 4 = .ok (.iload_n 1, 1) := by decide +kernel
theorem dX8_puts_5 : decode cX8_puts 5 = .ok (.invokevirtual 162, 3) := by decide +kernel
theorem dX8_puts_8 : decode cX8_puts 8 = .ok (.ifCond .ne 8, 3) := by decide +kernel
theorem dX8_puts_11 : decode cX8_puts 11 = .ok (.aload_n 0, 1) := by decide +kernel
theorem dX8_puts_12 : decode cX8_puts 12 = .ok (.invokevirtual 70, 3) := by decide +kernel
theorem dX8_puts_15 : decode cX8_puts 15 = .ok (.ireturn, 1) := by decide +kernel
theorem dX8_puts_16 : decode cX8_puts 16 = .ok (.aload_n 0, 1) := by decide +kernel
theorem dX8_puts_17 : decode cX8_puts 17 = .ok (.getfield 12, 3) := by decide +kernel
theorem dX8_puts_20 : decode cX8_puts 20 = .ok (.getfield 137, 3) := by decide +kernel
theorem dX8_puts_23 : decode cX8_puts 23 = .ok (.getfield 166, 3) := by decide +kernel
theorem dX8_puts_26 : decode cX8_puts 26 = .ok (.iload_n 1, 1) := by decide +kernel
theorem dX8_puts_27 : decode cX8_puts 27 = .ok (.invokestatic 105, 3) := by decide +kernel
theorem dX8_puts_30 : decode cX8_puts 30 = .ok (.ifCond .ne 8, 3) := by decide +kernel
theorem dX8_puts_33 : decode cX8_puts 33 = .ok (.aload_n 0, 1) := by decide +kernel
theorem dX8_puts_34 : decode cX8_puts 34 = .ok (.invokevirtual 146, 3) := by decide +kernel
theorem dX8_puts_37 : decode cX8_puts 37 = .ok (.ireturn, 1) := by decide +kernel
theorem dX8_puts_38 : decode cX8_puts 38 = .ok (.aload_n 0, 1) := by decide +kernel
theorem dX8_puts_39 : decode cX8_puts 39 = .ok (.getfield 12, 3) := by decide +kernel
theorem dX8_puts_42 : decode cX8_puts 42 = .ok (.invokevirtual 152, 3) := by decide +kernel
theorem dX8_puts_45 : decode cX8_puts 45 = .ok (.aload_n 0, 1) := by decide +kernel
theorem dX8_puts_46 : decode cX8_puts 46 = .ok (.getfield 12, 3) := by decide +kernel
theorem dX8_puts_49 : decode cX8_puts 49 = .ok (.getfield 137, 3) := by decide +kernel
theorem dX8_puts_52 : decode cX8_puts 52 = .ok (.dup, 1) := by decide +kernel
theorem dX8_puts_53 : decode cX8_puts 53 = .ok (.getfield 166, 3) := by decide +kernel
theorem dX8_puts_56 : decode cX8_puts 56 = .ok (.iconst 1, 1) := by decide +kernel
theorem dX8_puts_57 : decode cX8_puts 57 = .ok (.iload_n 1, 1) := by decide +kernel
theorem dX8_puts_58 : decode cX8_puts 58 = .ok (.ishl, 1) := by decide +kernel
theorem dX8_puts_59 : decode cX8_puts 59 = .ok (.iconst (-1), 1) := by decide +kernel
theorem dX8_puts_60 : decode cX8_puts 60 = .ok (.ixor, 1) := by decide +kernel
theorem dX8_puts_61 : decode cX8_puts 61 = .ok (.iand, 1) := by decide +kernel
theorem dX8_puts_62 : decode cX8_puts 62 = .ok (.putfield 166, 3) := by decide +kernel
theorem dX8_puts_65 : decode cX8_puts 65 = .ok (.aload_n 0, 1) := by decide +kernel
theorem dX8_puts_66 : decode cX8_puts 66 = .ok (.getfield 12, 3) := by decide +kernel
theorem dX8_puts_69 : decode cX8_puts 69 = .ok (.getfield 137, 3) := by decide +kernel
theorem dX8_puts_72 : decode cX8_puts 72 = .ok (.getfield 166, 3) := by decide +kernel
theorem dX8_puts_75 : decode cX8_puts 75 = .ok (.invokestatic 169, 3) := by decide +kernel
theorem dX8_puts_78 : decode cX8_puts 78 = .ok (.ireturn, 1) := by decide +kernel
theorem dX8_undo_0 : decode cX8_undo 0 = .ok (.aload_n 0, 1) := by decide +kernel
theorem dX8_undo_1 : decode cX8_undo 1 = .ok (.getfield 12, 3) := by decide +kernel
theorem dX8_undo_4 : decode cX8_undo 4 = .ok (.getfield 84, 3) := by decide +kernel
theorem dX8_undo_7 : decode cX8_undo 7 = .ok (.ifCond .gt 8, 3) := by decide +kernel
theorem dX8_undo_10 : decode cX8_undo 10 = .ok (.aload_n 0, 1) := by decide +kernel
theorem dX8_undo_11 : decode cX8_undo 11 = .ok (.invokevirtual 146, 3) := by decide +kernel
theorem dX8_undo_14 : decode cX8_undo 14 = .ok (.ireturn, 1) := by decide +kernel
theorem dX8_undo_15 : decode cX8_undo 15 = .ok (.aload_n 0, 1) := by decide +kernel
theorem dX8_undo_16 : decode cX8_undo 16 = .ok (.getfield 12, 3) := by decide +kernel
theorem dX8_undo_19 : decode cX8_undo 19 = .ok (.invokevirtual 175, 3) := by decide +kernel
theorem dX8_undo_22 : decode cX8_undo 22 = .ok (.aload_n 0, 1) := by decide +kernel
theorem dX8_undo_23 : decode cX8_undo 23 = .ok (.getfield 12, 3) := by decide +kernel
theorem dX8_undo_26 : decode cX8_undo 26 = .ok (.getfield 137, 3) := by decide +kernel
theorem dX8_undo_29 : decode cX8_undo 29 = .ok (.getfield 141, 3) := by decide +kernel
theorem dX8_undo_32 : decode cX8_undo 32 = .ok (.ireturn, 1) := by decide +kernel
theorem dX8_of_0 : decode cX8_of 0 = .ok (.aload_n 0, 1) := by decide +kernel
theorem dX8_of_1 : decode cX8_of 1 = .ok (.getfield 12, 3) := by decide +kernel
theorem dX8_of_4 : decode cX8_of 4 = .ok (.iload_n 1, 1) := by decide +kernel
theorem dX8_of_5 : decode cX8_of 5 = .ok (.invokevirtual 162, 3) := by decide +kernel
theorem dX8_of_8 : decode cX8_of 8 = .ok (.ifCond .ne 8, 3) := by decide +kernel
theorem dX8_of_11 : decode cX8_of 11 = .ok (.aload_n 0, 1) := by decide +kernel
theorem dX8_of_12 : decode cX8_of 12 = .ok (.invokevirtual 70, 3) := by decide +kernel
theorem dX8_of_15 : decode cX8_of 15 = .ok (.ireturn, 1) := by decide +kernel
theorem dX8_of_16 : decode cX8_of 16 = .ok (.iload_n 2, 1) := by decide +kernel
theorem dX8_of_17 : decode cX8_of 17 = .ok (.tableswitch 104 0 5 #[39, 49, 59, 69, 79, 94], 39) := by decide +kernel
theorem dX8_of_56 : decode cX8_of 56 = .ok (.aload_n 0, 1) := by decide +kernel
theorem dX8_of_57 : decode cX8_of 57 = .ok (.getfield 12, 3) := by decide +kernel
theorem dX8_of_60 : decode cX8_of 60 = .ok (.getfield 178, 3) := by decide +kernel
theorem dX8_of_63 : decode cX8_of 63 = .ok (.iload_n 1, 1) := by decide +kernel
theorem dX8_of_64 : decode cX8_of 64 = .ok (.iaload, 1) := by decide +kernel
theorem dX8_of_65 : decode cX8_of 65 = .ok (.ireturn, 1) := by decide +kernel
theorem dX8_of_66 : decode cX8_of 66 = .ok (.aload_n 0, 1) := by decide +kernel
theorem dX8_of_67 : decode cX8_of 67 = .ok (.getfield 12, 3) := by decide +kernel
theorem dX8_of_70 : decode cX8_of 70 = .ok (.getfield 181, 3) := by decide +kernel
theorem dX8_of_73 : decode cX8_of 73 = .ok (.iload_n 1, 1) := by decide +kernel
theorem dX8_of_74 : decode cX8_of 74 = .ok (.iaload, 1) := by decide +kernel
theorem dX8_of_75 : decode cX8_of 75 = .ok (.ireturn, 1) := by decide +kernel
theorem dX8_of_76 : decode cX8_of 76 = .ok (.aload_n 0, 1) := by decide +kernel
theorem dX8_of_77 : decode cX8_of 77 = .ok (.getfield 12, 3) := by decide +kernel
theorem dX8_of_80 : decode cX8_of 80 = .ok (.getfield 155, 3) := by decide +kernel
theorem dX8_of_83 : decode cX8_of 83 = .ok (.iload_n 1, 1) := by decide +kernel
theorem dX8_of_84 : decode cX8_of 84 = .ok (.iaload, 1) := by decide +kernel
theorem dX8_of_85 : decode cX8_of 85 = .ok (.ireturn, 1) := by decide +kernel
theorem dX8_of_86 : decode cX8_of 86 = .ok (.aload_n 0, 1) := by decide +kernel
theorem dX8_of_87 : decode cX8_of 87 = .ok (.getfield 12, 3) := by decide +kernel
theorem dX8_of_90 : decode cX8_of 90 = .ok (.getfield 184, 3) := by decide +kernel
theorem dX8_of_93 : decode cX8_of 93 = .ok (.iload_n 1, 1) := by decide +kernel
theorem dX8_of_94 : decode cX8_of 94 = .ok (.iaload, 1) := by decide +kernel
theorem dX8_of_95 : decode cX8_of 95 = .ok (.ireturn, 1) := by decide +kernel
theorem dX8_of_96 : decode cX8_of 96 = .ok (.aload_n 0, 1) := by decide +kernel
theorem dX8_of_97 : decode cX8_of 97 = .ok (.getfield 12, 3) := by decide +kernel
theorem dX8_of_100 : decode cX8_of 100 = .ok (.getfield 137, 3) := by decide +kernel
theorem dX8_of_103 : decode cX8_of 103 = .ok (.getfield 166, 3) := by decide +kernel
theorem dX8_of_106 : decode cX8_of 106 = .ok (.iload_n 1, 1) := by decide +kernel
theorem dX8_of_107 : decode cX8_of 107 = .ok (.invokestatic 105, 3) := by decide +kernel
theorem dX8_of_110 : decode cX8_of 110 = .ok (.ireturn, 1) := by decide +kernel
theorem dX8_of_111 : decode cX8_of 111 = .ok (.aload_n 0, 1) := by decide +kernel
theorem dX8_of_112 : decode cX8_of 112 = .ok (.getfield 12, 3) := by decide +kernel
theorem dX8_of_115 : decode cX8_of 115 = .ok (.getfield 102, 3) := by decide +kernel
theorem dX8_of_118 : decode cX8_of 118 = .ok (.iload_n 1, 1) := by decide +kernel
theorem dX8_of_119 : decode cX8_of 119 = .ok (.iaload, 1) := by decide +kernel
theorem dX8_of_120 : decode cX8_of 120 = .ok (.ireturn, 1) := by decide +kernel
theorem dX8_of_121 : decode cX8_of 121 = .ok (.aload_n 0, 1) := by decide +kernel
theorem dX8_of_122 : decode cX8_of 122 = .ok (.invokevirtual 70, 3) := by decide +kernel
theorem dX8_of_125 : decode cX8_of 125 = .ok (.ireturn, 1) := by decide +kernel
theorem dX8_sways_0 : decode cX8_sways 0 = .ok (.aload_n 0, 1) := by decide +kernel
theorem dX8_sways_1 : decode cX8_sways 1 = .ok (.getfield 12, 3) := by decide +kernel
theorem dX8_sways_4 : decode cX8_sways 4 = .ok (.iload_n 1, 1) := by decide +kernel
theorem dX8_sways_5 : decode cX8_sways 5 = .ok (.invokevirtual 162, 3) := by decide +kernel
theorem dX8_sways_8 : decode cX8_sways 8 = .ok (.ifCond .eq 22, 3) := by decide +kernel
theorem dX8_sways_11 : decode cX8_sways 11 = .ok (.iload_n 2, 1) := by decide +kernel
theorem dX8_sways_12 : decode cX8_sways 12 = .ok (.iconst 0, 1) := by decide +kernel
theorem dX8_sways_13 : decode cX8_sways 13 = .ok (.bipush 9, 2) := by decide +kernel
theorem dX8_sways_15 : decode cX8_sways 15 = .ok (.invokestatic 66, 3) := by decide +kernel
theorem dX8_sways_18 : decode cX8_sways 18 = .ok (.ifCond .eq 12, 3) := by decide +kernel
theorem dX8_sways_21 : decode cX8_sways 21 = .ok (.iload_n 3, 1) := by decide +kernel
theorem dX8_sways_22 : decode cX8_sways 22 = .ok (.iconst 0, 1) := by decide +kernel
theorem dX8_sways_23 : decode cX8_sways 23 = .ok (.iconst 1, 1) := by decide +kernel
theorem dX8_sways_24 : decode cX8_sways 24 = .ok (.invokestatic 66, 3) := by decide +kernel
theorem dX8_sways_27 : decode cX8_sways 27 = .ok (.ifCond .ne 8, 3) := by decide +kernel
theorem dX8_sways_30 : decode cX8_sways 30 = .ok (.aload_n 0, 1) := by decide +kernel
theorem dX8_sways_31 : decode cX8_sways 31 = .ok (.invokevirtual 70, 3) := by decide +kernel
theorem dX8_sways_34 : decode cX8_sways 34 = .ok (.ireturn, 1) := by decide +kernel
theorem dX8_sways_35 : decode cX8_sways 35 = .ok (.iload_n 3, 1) := by decide +kernel
theorem dX8_sways_36 : decode cX8_sways 36 = .ok (.ifCond .ne 28, 3) := by decide +kernel
theorem dX8_sways_39 : decode cX8_sways 39 = .ok (.aload_n 0, 1) := by decide +kernel
theorem dX8_sways_40 : decode cX8_sways 40 = .ok (.getfield 12, 3) := by decide +kernel
theorem dX8_sways_43 : decode cX8_sways 43 = .ok (.getfield 178, 3) := by decide +kernel
theorem dX8_sways_46 : decode cX8_sways 46 = .ok (.iload_n 1, 1) := by decide +kernel
theorem dX8_sways_47 : decode cX8_sways 47 = .ok (.iaload, 1) := by decide +kernel
theorem dX8_sways_48 : decode cX8_sways 48 = .ok (.aload_n 0, 1) := by decide +kernel
theorem dX8_sways_49 : decode cX8_sways 49 = .ok (.getfield 12, 3) := by decide +kernel
theorem dX8_sways_52 : decode cX8_sways 52 = .ok (.getfield 181, 3) := by decide +kernel
theorem dX8_sways_55 : decode cX8_sways 55 = .ok (.iload_n 1, 1) := by decide +kernel
theorem dX8_sways_56 : decode cX8_sways 56 = .ok (.iaload, 1) := by decide +kernel
theorem dX8_sways_57 : decode cX8_sways 57 = .ok (.iload_n 2, 1) := by decide +kernel
theorem dX8_sways_58 : decode cX8_sways 58 = .ok (.invokestatic 187, 3) := by decide +kernel
theorem dX8_sways_61 : decode cX8_sways 61 = .ok (.goto 16, 3) := by decide +kernel
theorem dX8_sways_64 : decode cX8_sways 64 = .ok (.aload_n 0, 1) := by decide +kernel
theorem dX8_sways_65 : decode cX8_sways 65 = .ok (.getfield 12, 3) := by decide +kernel
theorem dX8_sways_68 : decode cX8_sways 68 = .ok (.getfield 178, 3) := by decide +kernel
theorem dX8_sways_71 : decode cX8_sways 71 = .ok (.iload_n 1, 1) := by decide +kernel
theorem dX8_sways_72 : decode cX8_sways 72 = .ok (.iaload, 1) := by decide +kernel
theorem dX8_sways_73 : decode cX8_sways 73 = .ok (.iload_n 2, 1) := by decide +kernel
theorem dX8_sways_74 : decode cX8_sways 74 = .ok (.invokestatic 191, 3) := by decide +kernel
theorem dX8_sways_77 : decode cX8_sways 77 = .ok (.ireturn, 1) := by decide +kernel
theorem dX8_now_0 : decode cX8_now 0 = .ok (.iload_n 1, 1) := by decide +kernel
theorem dX8_now_1 : decode cX8_now 1 = .ok (.tableswitch 90 0 4 #[35, 46, 57, 68, 79], 35) := by decide +kernel
theorem dX8_now_36 : decode cX8_now 36 = .ok (.aload_n 0, 1) := by decide +kernel
theorem dX8_now_37 : decode cX8_now 37 = .ok (.getfield 12, 3) := by decide +kernel
theorem dX8_now_40 : decode cX8_now 40 = .ok (.getfield 137, 3) := by decide +kernel
theorem dX8_now_43 : decode cX8_now 43 = .ok (.getfield 141, 3) := by decide +kernel
theorem dX8_now_46 : decode cX8_now 46 = .ok (.ireturn, 1) := by decide +kernel
theorem dX8_now_47 : decode cX8_now 47 = .ok (.aload_n 0, 1) := by decide +kernel
theorem dX8_now_48 : decode cX8_now 48 = .ok (.getfield 12, 3) := by decide +kernel
theorem dX8_now_51 : decode cX8_now 51 = .ok (.getfield 137, 3) := by decide +kernel
theorem dX8_now_54 : decode cX8_now 54 = .ok (.getfield 166, 3) := by decide +kernel
theorem dX8_now_57 : decode cX8_now 57 = .ok (.ireturn, 1) := by decide +kernel
theorem dX8_now_58 : decode cX8_now 58 = .ok (.aload_n 0, 1) := by decide +kernel
theorem dX8_now_59 : decode cX8_now 59 = .ok (.getfield 12, 3) := by decide +kernel
theorem dX8_now_62 : decode cX8_now 62 = .ok (.getfield 137, 3) := by decide +kernel
theorem dX8_now_65 : decode cX8_now 65 = .ok (.getfield 194, 3) := by decide +kernel
theorem dX8_now_68 : decode cX8_now 68 = .ok (.ireturn, 1) := by decide +kernel
theorem dX8_now_69 : decode cX8_now 69 = .ok (.aload_n 0, 1) := by decide +kernel
theorem dX8_now_70 : decode cX8_now 70 = .ok (.getfield 12, 3) := by decide +kernel
theorem dX8_now_73 : decode cX8_now 73 = .ok (.getfield 137, 3) := by decide +kernel
theorem dX8_now_76 : decode cX8_now 76 = .ok (.getfield 197, 3) := by decide +kernel
theorem dX8_now_79 : decode cX8_now 79 = .ok (.ireturn, 1) := by decide +kernel
theorem dX8_now_80 : decode cX8_now 80 = .ok (.aload_n 0, 1) := by decide +kernel
theorem dX8_now_81 : decode cX8_now 81 = .ok (.getfield 12, 3) := by decide +kernel
theorem dX8_now_84 : decode cX8_now 84 = .ok (.getfield 137, 3) := by decide +kernel
theorem dX8_now_87 : decode cX8_now 87 = .ok (.getfield 149, 3) := by decide +kernel
theorem dX8_now_90 : decode cX8_now 90 = .ok (.ireturn, 1) := by decide +kernel
theorem dX8_now_91 : decode cX8_now 91 = .ok (.aload_n 0, 1) := by decide +kernel
theorem dX8_now_92 : decode cX8_now 92 = .ok (.invokevirtual 70, 3) := by decide +kernel
theorem dX8_now_95 : decode cX8_now 95 = .ok (.ireturn, 1) := by decide +kernel
theorem dX8_then_0 : decode cX8_then 0 = .ok (.iload_n 1, 1) := by decide +kernel
theorem dX8_then_1 : decode cX8_then 1 = .ok (.aload_n 0, 1) := by decide +kernel
theorem dX8_then_2 : decode cX8_then 2 = .ok (.getfield 12, 3) := by decide +kernel
theorem dX8_then_5 : decode cX8_then 5 = .ok (.getfield 137, 3) := by decide +kernel
theorem dX8_then_8 : decode cX8_then 8 = .ok (.getfield 141, 3) := by decide +kernel
theorem dX8_then_11 : decode cX8_then 11 = .ok (.bipush 9, 2) := by decide +kernel
theorem dX8_then_13 : decode cX8_then 13 = .ok (.invokestatic 66, 3) := by decide +kernel
theorem dX8_then_16 : decode cX8_then 16 = .ok (.ifCond .eq 12, 3) := by decide +kernel
theorem dX8_then_19 : decode cX8_then 19 = .ok (.iload_n 2, 1) := by decide +kernel
theorem dX8_then_20 : decode cX8_then 20 = .ok (.iconst 0, 1) := by decide +kernel
theorem dX8_then_21 : decode cX8_then 21 = .ok (.iconst 2, 1) := by decide +kernel
theorem dX8_then_22 : decode cX8_then 22 = .ok (.invokestatic 66, 3) := by decide +kernel
theorem dX8_then_25 : decode cX8_then 25 = .ok (.ifCond .ne 8, 3) := by decide +kernel
theorem dX8_then_28 : decode cX8_then 28 = .ok (.aload_n 0, 1) := by decide +kernel
theorem dX8_then_29 : decode cX8_then 29 = .ok (.invokevirtual 70, 3) := by decide +kernel
theorem dX8_then_32 : decode cX8_then 32 = .ok (.ireturn, 1) := by decide +kernel
theorem dX8_then_33 : decode cX8_then 33 = .ok (.aload_n 0, 1) := by decide +kernel
theorem dX8_then_34 : decode cX8_then 34 = .ok (.getfield 27, 3) := by decide +kernel
theorem dX8_then_37 : decode cX8_then 37 = .ok (.aload_n 0, 1) := by decide +kernel
theorem dX8_then_38 : decode cX8_then 38 = .ok (.getfield 12, 3) := by decide +kernel
theorem dX8_then_41 : decode cX8_then 41 = .ok (.invokevirtual 200, 3) := by decide +kernel
theorem dX8_then_44 : decode cX8_then 44 = .ok (.aload_n 0, 1) := by decide +kernel
theorem dX8_then_45 : decode cX8_then 45 = .ok (.getfield 27, 3) := by decide +kernel
theorem dX8_then_48 : decode cX8_then 48 = .ok (.aload_n 0, 1) := by decide +kernel
theorem dX8_then_49 : decode cX8_then 49 = .ok (.getfield 12, 3) := by decide +kernel
theorem dX8_then_52 : decode cX8_then 52 = .ok (.iload_n 1, 1) := by decide +kernel
theorem dX8_then_53 : decode cX8_then 53 = .ok (.invokevirtual 203, 3) := by decide +kernel
theorem dX8_then_56 : decode cX8_then 56 = .ok (.iload_n 2, 1) := by decide +kernel
theorem dX8_then_57 : decode cX8_then 57 = .ok (.lookupswitch 57 #[(0, 27), (1, 38)], 27) := by decide +kernel
theorem dX8_then_84 : decode cX8_then 84 = .ok (.aload_n 0, 1) := by decide +kernel
theorem dX8_then_85 : decode cX8_then 85 = .ok (.getfield 27, 3) := by decide +kernel
theorem dX8_then_88 : decode cX8_then 88 = .ok (.getfield 207, 3) := by decide +kernel
theorem dX8_then_91 : decode cX8_then 91 = .ok (.getfield 166, 3) := by decide +kernel
theorem dX8_then_94 : decode cX8_then 94 = .ok (.ireturn, 1) := by decide +kernel
theorem dX8_then_95 : decode cX8_then 95 = .ok (.aload_n 0, 1) := by decide +kernel
theorem dX8_then_96 : decode cX8_then 96 = .ok (.getfield 12, 3) := by decide +kernel
theorem dX8_then_99 : decode cX8_then 99 = .ok (.aload_n 0, 1) := by decide +kernel
theorem dX8_then_100 : decode cX8_then 100 = .ok (.getfield 27, 3) := by decide +kernel
theorem dX8_then_103 : decode cX8_then 103 = .ok (.getfield 207, 3) := by decide +kernel
theorem dX8_then_106 : decode cX8_then 106 = .ok (.getfield 166, 3) := by decide +kernel
theorem dX8_then_109 : decode cX8_then 109 = .ok (.iload_n 1, 1) := by decide +kernel
theorem dX8_then_110 : decode cX8_then 110 = .ok (.invokevirtual 208, 3) := by decide +kernel
theorem dX8_then_113 : decode cX8_then 113 = .ok (.ireturn, 1) := by decide +kernel
theorem dX8_then_114 : decode cX8_then 114 = .ok (.aload_n 0, 1) := by decide +kernel
theorem dX8_then_115 : decode cX8_then 115 = .ok (.getfield 27, 3) := by decide +kernel
theorem dX8_then_118 : decode cX8_then 118 = .ok (.getfield 207, 3) := by decide +kernel
theorem dX8_then_121 : decode cX8_then 121 = .ok (.getfield 149, 3) := by decide +kernel
theorem dX8_then_124 : decode cX8_then 124 = .ok (.ireturn, 1) := by decide +kernel
theorem dX8_end_0 : decode cX8_end 0 = .ok (.iload_n 1, 1) := by decide +kernel
theorem dX8_end_1 : decode cX8_end 1 = .ok (.iconst 0, 1) := by decide +kernel
theorem dX8_end_2 : decode cX8_end 2 = .ok (.iconst 2, 1) := by decide +kernel
theorem dX8_end_3 : decode cX8_end 3 = .ok (.invokestatic 66, 3) := by decide +kernel
theorem dX8_end_6 : decode cX8_end 6 = .ok (.ifCond .ne 8, 3) := by decide +kernel
theorem dX8_end_9 : decode cX8_end 9 = .ok (.aload_n 0, 1) := by decide +kernel
theorem dX8_end_10 : decode cX8_end 10 = .ok (.invokevirtual 70, 3) := by decide +kernel
theorem dX8_end_13 : decode cX8_end 13 = .ok (.ireturn, 1) := by decide +kernel
theorem dX8_end_14 : decode cX8_end 14 = .ok (.aload_n 0, 1) := by decide +kernel
theorem dX8_end_15 : decode cX8_end 15 = .ok (.getfield 27, 3) := by decide +kernel
theorem dX8_end_18 : decode cX8_end 18 = .ok (.aload_n 0, 1) := by decide +kernel
theorem dX8_end_19 : decode cX8_end 19 = .ok (.getfield 12, 3) := by decide +kernel
theorem dX8_end_22 : decode cX8_end 22 = .ok (.invokevirtual 200, 3) := by decide +kernel
theorem dX8_end_25 : decode cX8_end 25 = .ok (.aload_n 0, 1) := by decide +kernel
theorem dX8_end_26 : decode cX8_end 26 = .ok (.getfield 27, 3) := by decide +kernel
theorem dX8_end_29 : decode cX8_end 29 = .ok (.aload_n 0, 1) := by decide +kernel
theorem dX8_end_30 : decode cX8_end 30 = .ok (.getfield 12, 3) := by decide +kernel
theorem dX8_end_33 : decode cX8_end 33 = .ok (.bipush 9, 2) := by decide +kernel
theorem dX8_end_35 : decode cX8_end 35 = .ok (.invokevirtual 203, 3) := by decide +kernel
theorem dX8_end_38 : decode cX8_end 38 = .ok (.iload_n 1, 1) := by decide +kernel
theorem dX8_end_39 : decode cX8_end 39 = .ok (.lookupswitch 47 #[(0, 25), (1, 36)], 25) := by decide +kernel
theorem dX8_end_64 : decode cX8_end 64 = .ok (.aload_n 0, 1) := by decide +kernel
theorem dX8_end_65 : decode cX8_end 65 = .ok (.getfield 27, 3) := by decide +kernel
theorem dX8_end_68 : decode cX8_end 68 = .ok (.getfield 207, 3) := by decide +kernel
theorem dX8_end_71 : decode cX8_end 71 = .ok (.getfield 194, 3) := by decide +kernel
theorem dX8_end_74 : decode cX8_end 74 = .ok (.ireturn, 1) := by decide +kernel
theorem dX8_end_75 : decode cX8_end 75 = .ok (.aload_n 0, 1) := by decide +kernel
theorem dX8_end_76 : decode cX8_end 76 = .ok (.getfield 27, 3) := by decide +kernel
theorem dX8_end_79 : decode cX8_end 79 = .ok (.getfield 207, 3) := by decide +kernel
theorem dX8_end_82 : decode cX8_end 82 = .ok (.getfield 197, 3) := by decide +kernel
theorem dX8_end_85 : decode cX8_end 85 = .ok (.ireturn, 1) := by decide +kernel
theorem dX8_end_86 : decode cX8_end 86 = .ok (.aload_n 0, 1) := by decide +kernel
theorem dX8_end_87 : decode cX8_end 87 = .ok (.getfield 27, 3) := by decide +kernel
theorem dX8_end_90 : decode cX8_end 90 = .ok (.getfield 207, 3) := by decide +kernel
theorem dX8_end_93 : decode cX8_end 93 = .ok (.getfield 149, 3) := by decide +kernel
theorem dX8_end_96 : decode cX8_end 96 = .ok (.ireturn, 1) := by decide +kernel
theorem dX8_decks_0 : decode cX8_decks 0 = .ok (.iload_n 1, 1) := by decide +kernel
theorem dX8_decks_1 : decode cX8_decks 1 = .ok (.iconst (-1), 1) := by decide +kernel
theorem dX8_decks_2 : decode cX8_decks 2 = .ok (.if_icmp .eq 19, 3) := by decide +kernel
theorem dX8_decks_5 : decode cX8_decks 5 = .ok (.aload_n 0, 1) := by decide +kernel
theorem dX8_decks_6 : decode cX8_decks 6 = .ok (.getfield 12, 3) := by decide +kernel
theorem dX8_decks_9 : decode cX8_decks 9 = .ok (.iload_n 1, 1) := by decide +kernel
theorem dX8_decks_10 : decode cX8_decks 10 = .ok (.invokevirtual 162, 3) := by decide +kernel
theorem dX8_decks_13 : decode cX8_decks 13 = .ok (.ifCond .ne 8, 3) := by decide +kernel
theorem dX8_decks_16 : decode cX8_decks 16 = .ok (.aload_n 0, 1) := by decide +kernel
theorem dX8_decks_17 : decode cX8_decks 17 = .ok (.invokevirtual 211, 3) := by decide +kernel
theorem dX8_decks_20 : decode cX8_decks 20 = .ok (.ireturn, 1) := by decide +kernel
theorem dX8_decks_21 : decode cX8_decks 21 = .ok (.aload_n 0, 1) := by decide +kernel
theorem dX8_decks_22 : decode cX8_decks 22 = .ok (.getfield 34, 3) := by decide +kernel
theorem dX8_decks_25 : decode cX8_decks 25 = .ok (.aload_n 0, 1) := by decide +kernel
theorem dX8_decks_26 : decode cX8_decks 26 = .ok (.getfield 12, 3) := by decide +kernel
theorem dX8_decks_29 : decode cX8_decks 29 = .ok (.invokevirtual 214, 3) := by decide +kernel
theorem dX8_decks_32 : decode cX8_decks 32 = .ok (.istore_n 2, 1) := by decide +kernel
theorem dX8_decks_33 : decode cX8_decks 33 = .ok (.iload_n 1, 1) := by decide +kernel
theorem dX8_decks_34 : decode cX8_decks 34 = .ok (.iconst (-1), 1) := by decide +kernel
theorem dX8_decks_35 : decode cX8_decks 35 = .ok (.if_icmp .ne 7, 3) := by decide +kernel
theorem dX8_decks_38 : decode cX8_decks 38 = .ok (.iload_n 2, 1) := by decide +kernel
theorem dX8_decks_39 : decode cX8_decks 39 = .ok (.goto 12, 3) := by decide +kernel
theorem dX8_decks_42 : decode cX8_decks 42 = .ok (.aload_n 0, 1) := by decide +kernel
theorem dX8_decks_43 : decode cX8_decks 43 = .ok (.getfield 34, 3) := by decide +kernel
theorem dX8_decks_46 : decode cX8_decks 46 = .ok (.getfield 218, 3) := by decide +kernel
theorem dX8_decks_49 : decode cX8_decks 49 = .ok (.iload_n 1, 1) := by decide +kernel
theorem dX8_decks_50 : decode cX8_decks 50 = .ok (.iaload, 1) := by decide +kernel
theorem dX8_decks_51 : decode cX8_decks 51 = .ok (.ireturn, 1) := by decide +kernel
theorem dX8_better_0 : decode cX8_better 0 = .ok (.aload_n 0, 1) := by decide +kernel
theorem dX8_better_1 : decode cX8_better 1 = .ok (.getfield 27, 3) := by decide +kernel
theorem dX8_better_4 : decode cX8_better 4 = .ok (.aload_n 0, 1) := by decide +kernel
theorem dX8_better_5 : decode cX8_better 5 = .ok (.getfield 12, 3) := by decide +kernel
theorem dX8_better_8 : decode cX8_better 8 = .ok (.invokevirtual 221, 3) := by decide +kernel
theorem dX8_better_11 : decode cX8_better 11 = .ok (.ireturn, 1) := by decide +kernel
theorem dX8_raise_0 : decode cX8_raise 0 = .ok (.aload_n 0, 1) := by decide +kernel
theorem dX8_raise_1 : decode cX8_raise 1 = .ok (.getfield 27, 3) := by decide +kernel
theorem dX8_raise_4 : decode cX8_raise 4 = .ok (.aload_n 0, 1) := by decide +kernel
theorem dX8_raise_5 : decode cX8_raise 5 = .ok (.getfield 12, 3) := by decide +kernel
theorem dX8_raise_8 : decode cX8_raise 8 = .ok (.invokevirtual 224, 3) := by decide +kernel
theorem dX8_raise_11 : decode cX8_raise 11 = .ok (.ireturn, 1) := by decide +kernel
theorem dX8_upstairs_0 : decode cX8_upstairs 0 = .ok (.iload_n 1, 1) := by decide +kernel
theorem dX8_upstairs_1 : decode cX8_upstairs 1 = .ok (.iconst 0, 1) := by decide +kernel
theorem dX8_upstairs_2 : decode cX8_upstairs 2 = .ok (.bipush 9, 2) := by decide +kernel
theorem dX8_upstairs_4 : decode cX8_upstairs 4 = .ok (.invokestatic 66, 3) := by decide +kernel
theorem dX8_upstairs_7 : decode cX8_upstairs 7 = .ok (.ifCond .eq 14, 3) := by decide +kernel
theorem dX8_upstairs_10 : decode cX8_upstairs 10 = .ok (.iload_n 2, 1) := by decide +kernel
theorem dX8_upstairs_11 : decode cX8_upstairs 11 = .ok (.iconst 0, 1) := by decide +kernel
theorem dX8_upstairs_12 : decode cX8_upstairs 12 = .ok (.sipush 200, 3) := by decide +kernel
theorem dX8_upstairs_15 : decode cX8_upstairs 15 = .ok (.invokestatic 66, 3) := by decide +kernel
theorem dX8_upstairs_18 : decode cX8_upstairs 18 = .ok (.ifCond .ne 8, 3) := by decide +kernel
theorem dX8_upstairs_21 : decode cX8_upstairs 21 = .ok (.aload_n 0, 1) := by decide +kernel
theorem dX8_upstairs_22 : decode cX8_upstairs 22 = .ok (.invokevirtual 70, 3) := by decide +kernel
theorem dX8_upstairs_25 : decode cX8_upstairs 25 = .ok (.ireturn, 1) := by decide +kernel
theorem dX8_upstairs_26 : decode cX8_upstairs 26 = .ok (.iload_n 3, 1) := by decide +kernel
theorem dX8_upstairs_27 : decode cX8_upstairs 27 = .ok (.iconst 0, 1) := by decide +kernel
theorem dX8_upstairs_28 : decode cX8_upstairs 28 = .ok (.iconst 2, 1) := by decide +kernel
theorem dX8_upstairs_29 : decode cX8_upstairs 29 = .ok (.invokestatic 66, 3) := by decide +kernel
theorem dX8_upstairs_32 : decode cX8_upstairs 32 = .ok (.ifCond .ne 8, 3) := by decide +kernel
theorem dX8_upstairs_35 : decode cX8_upstairs 35 = .ok (.aload_n 0, 1) := by decide +kernel
theorem dX8_upstairs_36 : decode cX8_upstairs 36 = .ok (.invokevirtual 70, 3) := by decide +kernel
theorem dX8_upstairs_39 : decode cX8_upstairs 39 = .ok (.ireturn, 1) := by decide +kernel
theorem dX8_upstairs_40 : decode cX8_upstairs 40 = .ok (.aload_n 0, 1) := by decide +kernel
theorem dX8_upstairs_41 : decode cX8_upstairs 41 = .ok (.getfield 41, 3) := by decide +kernel
theorem dX8_upstairs_44 : decode cX8_upstairs 44 = .ok (.aload_n 0, 1) := by decide +kernel
theorem dX8_upstairs_45 : decode cX8_upstairs 45 = .ok (.getfield 12, 3) := by decide +kernel
theorem dX8_upstairs_48 : decode cX8_upstairs 48 = .ok (.iload_n 1, 1) := by decide +kernel
theorem dX8_upstairs_49 : decode cX8_upstairs 49 = .ok (.iload_n 2, 1) := by decide +kernel
theorem dX8_upstairs_50 : decode cX8_upstairs 50 = .ok (.invokevirtual 227, 3) := by decide +kernel
theorem dX8_upstairs_53 : decode cX8_upstairs 53 = .ok (.iload_n 3, 1) := by decide +kernel
theorem dX8_upstairs_54 : decode cX8_upstairs 54 = .ok (.lookupswitch 56 #[(0, 26), (1, 34)], 26) := by decide +kernel
theorem dX8_upstairs_80 : decode cX8_upstairs 80 = .ok (.aload_n 0, 1) := by decide +kernel
theorem dX8_upstairs_81 : decode cX8_upstairs 81 = .ok (.getfield 41, 3) := by decide +kernel
theorem dX8_upstairs_84 : decode cX8_upstairs 84 = .ok (.getfield 231, 3) := by decide +kernel
theorem dX8_upstairs_87 : decode cX8_upstairs 87 = .ok (.ireturn, 1) := by decide +kernel
theorem dX8_upstairs_88 : decode cX8_upstairs 88 = .ok (.aload_n 0, 1) := by decide +kernel
theorem dX8_upstairs_89 : decode cX8_upstairs 89 = .ok (.getfield 41, 3) := by decide +kernel
theorem dX8_upstairs_92 : decode cX8_upstairs 92 = .ok (.getfield 231, 3) := by decide +kernel
theorem dX8_upstairs_95 : decode cX8_upstairs 95 = .ok (.ifCond .ne 7, 3) := by decide +kernel
theorem dX8_upstairs_98 : decode cX8_upstairs 98 = .ok (.iconst (-1), 1) := by decide +kernel
theorem dX8_upstairs_99 : decode cX8_upstairs 99 = .ok (.goto 10, 3) := by decide +kernel
theorem dX8_upstairs_102 : decode cX8_upstairs 102 = .ok (.aload_n 0, 1) := by decide +kernel
theorem dX8_upstairs_103 : decode cX8_upstairs 103 = .ok (.getfield 41, 3) := by decide +kernel
theorem dX8_upstairs_106 : decode cX8_upstairs 106 = .ok (.getfield 234, 3) := by decide +kernel
theorem dX8_upstairs_109 : decode cX8_upstairs 109 = .ok (.ireturn, 1) := by decide +kernel
theorem dX8_upstairs_110 : decode cX8_upstairs 110 = .ok (.aload_n 0, 1) := by decide +kernel
theorem dX8_upstairs_111 : decode cX8_upstairs 111 = .ok (.getfield 41, 3) := by decide +kernel
theorem dX8_upstairs_114 : decode cX8_upstairs 114 = .ok (.getfield 237, 3) := by decide +kernel
theorem dX8_upstairs_117 : decode cX8_upstairs 117 = .ok (.ireturn, 1) := by decide +kernel
theorem dX8_note_0 : decode cX8_note 0 = .ok (.aload_n 0, 1) := by decide +kernel
theorem dX8_note_1 : decode cX8_note 1 = .ok (.getfield 12, 3) := by decide +kernel
theorem dX8_note_4 : decode cX8_note 4 = .ok (.iload_n 1, 1) := by decide +kernel
theorem dX8_note_5 : decode cX8_note 5 = .ok (.invokevirtual 162, 3) := by decide +kernel
theorem dX8_note_8 : decode cX8_note 8 = .ok (.ifCond .eq 13, 3) := by decide +kernel
theorem dX8_note_11 : decode cX8_note 11 = .ok (.iload_n 2, 1) := by decide +kernel
theorem dX8_note_12 : decode cX8_note 12 = .ok (.iconst 0, 1) := by decide +kernel
theorem dX8_note_13 : decode cX8_note 13 = .ok (.bipush 9, 2) := by decide +kernel
theorem dX8_note_15 : decode cX8_note 15 = .ok (.invokestatic 66, 3) := by decide +kernel
theorem dX8_note_18 : decode cX8_note 18 = .ok (.ifCond .ne 8, 3) := by decide +kernel
theorem dX8_note_21 : decode cX8_note 21 = .ok (.aload_n 0, 1) := by decide +kernel
theorem dX8_note_22 : decode cX8_note 22 = .ok (.invokevirtual 70, 3) := by decide +kernel
theorem dX8_note_25 : decode cX8_note 25 = .ok (.ireturn, 1) := by decide +kernel
theorem dX8_note_26 : decode cX8_note 26 = .ok (.iload_n 3, 1) := by decide +kernel
theorem dX8_note_27 : decode cX8_note 27 = .ok (.iconst 0, 1) := by decide +kernel
theorem dX8_note_28 : decode cX8_note 28 = .ok (.bipush 40, 2) := by decide +kernel
theorem dX8_note_30 : decode cX8_note 30 = .ok (.invokestatic 66, 3) := by decide +kernel
theorem dX8_note_33 : decode cX8_note 33 = .ok (.ifCond .eq 14, 3) := by decide +kernel
theorem dX8_note_36 : decode cX8_note 36 = .ok (.iload 4, 2) := by decide +kernel
theorem dX8_note_38 : decode cX8_note 38 = .ok (.iconst 0, 1) := by decide +kernel
theorem dX8_note_39 : decode cX8_note 39 = .ok (.bipush 9, 2) := by decide +kernel
theorem dX8_note_41 : decode cX8_note 41 = .ok (.invokestatic 66, 3) := by decide +kernel
theorem dX8_note_44 : decode cX8_note 44 = .ok (.ifCond .ne 8, 3) := by decide +kernel
theorem dX8_note_47 : decode cX8_note 47 = .ok (.aload_n 0, 1) := by decide +kernel
theorem dX8_note_48 : decode cX8_note 48 = .ok (.invokevirtual 70, 3) := by decide +kernel
theorem dX8_note_51 : decode cX8_note 51 = .ok (.ireturn, 1) := by decide +kernel
theorem dX8_note_52 : decode cX8_note 52 = .ok (.aload_n 0, 1) := by decide +kernel
theorem dX8_note_53 : decode cX8_note 53 = .ok (.getfield 12, 3) := by decide +kernel
theorem dX8_note_56 : decode cX8_note 56 = .ok (.getfield 240, 3) := by decide +kernel
theorem dX8_note_59 : decode cX8_note 59 = .ok (.bipush 6, 2) := by decide +kernel
theorem dX8_note_61 : decode cX8_note 61 = .ok (.if_icmp .lt 8, 3) := by decide +kernel
theorem dX8_note_64 : decode cX8_note 64 = .ok (.aload_n 0, 1) := by decide +kernel
theorem dX8_note_65 : decode cX8_note 65 = .ok (.invokevirtual 91, 3) := by decide +kernel
theorem dX8_note_68 : decode cX8_note 68 = .ok (.ireturn, 1) := by decide +kernel
theorem dX8_note_69 : decode cX8_note 69 = .ok (.aload_n 0, 1) := by decide +kernel
theorem dX8_note_70 : decode cX8_note 70 = .ok (.getfield 12, 3) := by decide +kernel
theorem dX8_note_73 : decode cX8_note 73 = .ok (.iload_n 1, 1) := by decide +kernel
theorem dX8_note_74 : decode cX8_note 74 = .ok (.iload_n 2, 1) := by decide +kernel
theorem dX8_note_75 : decode cX8_note 75 = .ok (.iload_n 3, 1) := by decide +kernel
theorem dX8_note_76 : decode cX8_note 76 = .ok (.iload 4, 2) := by decide +kernel
theorem dX8_note_78 : decode cX8_note 78 = .ok (.invokevirtual 243, 3) := by decide +kernel
theorem dX8_note_81 : decode cX8_note 81 = .ok (.aload_n 0, 1) := by decide +kernel
theorem dX8_note_82 : decode cX8_note 82 = .ok (.getfield 12, 3) := by decide +kernel
theorem dX8_note_85 : decode cX8_note 85 = .ok (.getfield 240, 3) := by decide +kernel
theorem dX8_note_88 : decode cX8_note 88 = .ok (.ireturn, 1) := by decide +kernel
theorem dX8_forget_0 : decode cX8_forget 0 = .ok (.aload_n 0, 1) := by decide +kernel
theorem dX8_forget_1 : decode cX8_forget 1 = .ok (.getfield 12, 3) := by decide +kernel
theorem dX8_forget_4 : decode cX8_forget 4 = .ok (.getfield 240, 3) := by decide +kernel
theorem dX8_forget_7 : decode cX8_forget 7 = .ok (.istore_n 1, 1) := by decide +kernel
theorem dX8_forget_8 : decode cX8_forget 8 = .ok (.aload_n 0, 1) := by decide +kernel
theorem dX8_forget_9 : decode cX8_forget 9 = .ok (.getfield 12, 3) := by decide +kernel
theorem dX8_forget_12 : decode cX8_forget 12 = .ok (.iconst 0, 1) := by decide +kernel
theorem dX8_forget_13 : decode cX8_forget 13 = .ok (.putfield 240, 3) := by decide +kernel
theorem dX8_forget_16 : decode cX8_forget 16 = .ok (.iload_n 1, 1) := by decide +kernel
theorem dX8_forget_17 : decode cX8_forget 17 = .ok (.ireturn, 1) := by decide +kernel
theorem dX8_is_0 : decode cX8_is 0 = .ok (.aload_n 0, 1) := by decide +kernel
theorem dX8_is_1 : decode cX8_is 1 = .ok (.getfield 12, 3) := by decide +kernel
theorem dX8_is_4 : decode cX8_is 4 = .ok (.iload_n 1, 1) := by decide +kernel
theorem dX8_is_5 : decode cX8_is 5 = .ok (.invokevirtual 162, 3) := by decide +kernel
theorem dX8_is_8 : decode cX8_is 8 = .ok (.ifCond .ne 8, 3) := by decide +kernel
theorem dX8_is_11 : decode cX8_is 11 = .ok (.aload_n 0, 1) := by decide +kernel
theorem dX8_is_12 : decode cX8_is 12 = .ok (.invokevirtual 70, 3) := by decide +kernel
theorem dX8_is_15 : decode cX8_is 15 = .ok (.ireturn, 1) := by decide +kernel
theorem dX8_is_16 : decode cX8_is 16 = .ok (.aload_n 0, 1) := by decide +kernel
theorem dX8_is_17 : decode cX8_is 17 = .ok (.getfield 12, 3) := by decide +kernel
theorem dX8_is_20 : decode cX8_is 20 = .ok (.iload_n 1, 1) := by decide +kernel
theorem dX8_is_21 : decode cX8_is 21 = .ok (.invokevirtual 246, 3) := by decide +kernel
theorem dX8_is_24 : decode cX8_is 24 = .ok (.ireturn, 1) := by decide +kernel
theorem dX8_look_0 : decode cX8_look 0 = .ok (.aload_n 0, 1) := by decide +kernel
theorem dX8_look_1 : decode cX8_look 1 = .ok (.getfield 12, 3) := by decide +kernel
theorem dX8_look_4 : decode cX8_look 4 = .ok (.iload_n 1, 1) := by decide +kernel
theorem dX8_look_5 : decode cX8_look 5 = .ok (.invokevirtual 162, 3) := by decide +kernel
theorem dX8_look_8 : decode cX8_look 8 = .ok (.ifCond .ne 8, 3) := by decide +kernel
theorem dX8_look_11 : decode cX8_look 11 = .ok (.aload_n 0, 1) := by decide +kernel
theorem dX8_look_12 : decode cX8_look 12 = .ok (.invokevirtual 70, 3) := by decide +kernel
theorem dX8_look_15 : decode cX8_look 15 = .ok (.ireturn, 1) := by decide +kernel
theorem dX8_look_16 : decode cX8_look 16 = .ok (.aload_n 0, 1) := by decide +kernel
theorem dX8_look_17 : decode cX8_look 17 = .ok (.getfield 12, 3) := by decide +kernel
theorem dX8_look_20 : decode cX8_look 20 = .ok (.iload_n 1, 1) := by decide +kernel
theorem dX8_look_21 : decode cX8_look 21 = .ok (.invokevirtual 246, 3) := by decide +kernel
theorem dX8_look_24 : decode cX8_look 24 = .ok (.aload_n 0, 1) := by decide +kernel
theorem dX8_look_25 : decode cX8_look 25 = .ok (.getfield 12, 3) := by decide +kernel
theorem dX8_look_28 : decode cX8_look 28 = .ok (.getfield 181, 3) := by decide +kernel
theorem dX8_look_31 : decode cX8_look 31 = .ok (.iload_n 1, 1) := by decide +kernel
theorem dX8_look_32 : decode cX8_look 32 = .ok (.iaload, 1) := by decide +kernel
theorem dX8_look_33 : decode cX8_look 33 = .ok (.invokestatic 249, 3) := by decide +kernel
theorem dX8_look_36 : decode cX8_look 36 = .ok (.ireturn, 1) := by decide +kernel
theorem dX8_fare_0 : decode cX8_fare 0 = .ok (.iload_n 1, 1) := by decide +kernel
theorem dX8_fare_1 : decode cX8_fare 1 = .ok (.iconst 1, 1) := by decide +kernel
theorem dX8_fare_2 : decode cX8_fare 2 = .ok (.bipush 60, 2) := by decide +kernel
theorem dX8_fare_4 : decode cX8_fare 4 = .ok (.invokestatic 66, 3) := by decide +kernel
theorem dX8_fare_7 : decode cX8_fare 7 = .ok (.ifCond .ne 8, 3) := by decide +kernel
theorem dX8_fare_10 : decode cX8_fare 10 = .ok (.aload_n 0, 1) := by decide +kernel
theorem dX8_fare_11 : decode cX8_fare 11 = .ok (.invokevirtual 70, 3) := by decide +kernel
theorem dX8_fare_14 : decode cX8_fare 14 = .ok (.ireturn, 1) := by decide +kernel
theorem dX8_fare_15 : decode cX8_fare 15 = .ok (.aload_n 0, 1) := by decide +kernel
theorem dX8_fare_16 : decode cX8_fare 16 = .ok (.getfield 27, 3) := by decide +kernel
theorem dX8_fare_19 : decode cX8_fare 19 = .ok (.aload_n 0, 1) := by decide +kernel
theorem dX8_fare_20 : decode cX8_fare 20 = .ok (.getfield 12, 3) := by decide +kernel
theorem dX8_fare_23 : decode cX8_fare 23 = .ok (.invokevirtual 200, 3) := by decide +kernel
theorem dX8_fare_26 : decode cX8_fare 26 = .ok (.aload_n 0, 1) := by decide +kernel
theorem dX8_fare_27 : decode cX8_fare 27 = .ok (.getfield 27, 3) := by decide +kernel
theorem dX8_fare_30 : decode cX8_fare 30 = .ok (.aload_n 0, 1) := by decide +kernel
theorem dX8_fare_31 : decode cX8_fare 31 = .ok (.getfield 12, 3) := by decide +kernel
theorem dX8_fare_34 : decode cX8_fare 34 = .ok (.bipush 9, 2) := by decide +kernel
theorem dX8_fare_36 : decode cX8_fare 36 = .ok (.invokevirtual 203, 3) := by decide +kernel
theorem dX8_fare_39 : decode cX8_fare 39 = .ok (.aload_n 0, 1) := by decide +kernel
theorem dX8_fare_40 : decode cX8_fare 40 = .ok (.getfield 55, 3) := by decide +kernel
theorem dX8_fare_43 : decode cX8_fare 43 = .ok (.aload_n 0, 1) := by decide +kernel
theorem dX8_fare_44 : decode cX8_fare 44 = .ok (.getfield 27, 3) := by decide +kernel
theorem dX8_fare_47 : decode cX8_fare 47 = .ok (.getfield 207, 3) := by decide +kernel
theorem dX8_fare_50 : decode cX8_fare 50 = .ok (.getfield 149, 3) := by decide +kernel
theorem dX8_fare_53 : decode cX8_fare 53 = .ok (.i2l, 1) := by decide +kernel
theorem dX8_fare_54 : decode cX8_fare 54 = .ok (.iload_n 1, 1) := by decide +kernel
theorem dX8_fare_55 : decode cX8_fare 55 = .ok (.i2l, 1) := by decide +kernel
theorem dX8_fare_56 : decode cX8_fare 56 = .ok (.invokevirtual 252, 3) := by decide +kernel
theorem dX8_fare_59 : decode cX8_fare 59 = .ok (.iconst 1, 1) := by decide +kernel
theorem dX8_fare_60 : decode cX8_fare 60 = .ok (.ireturn, 1) := by decide +kernel
theorem dX8_two_0 : decode cX8_two 0 = .ok (.aload_n 0, 1) := by decide +kernel
theorem dX8_two_1 : decode cX8_two 1 = .ok (.getfield 12, 3) := by decide +kernel
theorem dX8_two_4 : decode cX8_two 4 = .ok (.iload_n 1, 1) := by decide +kernel
theorem dX8_two_5 : decode cX8_two 5 = .ok (.iload_n 2, 1) := by decide +kernel
theorem dX8_two_6 : decode cX8_two 6 = .ok (.invokevirtual 98, 3) := by decide +kernel
theorem dX8_two_9 : decode cX8_two 9 = .ok (.ifCond .eq 8, 3) := by decide +kernel
theorem dX8_two_12 : decode cX8_two 12 = .ok (.iload_n 3, 1) := by decide +kernel
theorem dX8_two_13 : decode cX8_two 13 = .ok (.iconst (-1), 1) := by decide +kernel
theorem dX8_two_14 : decode cX8_two 14 = .ok (.if_icmp .ge 8, 3) := by decide +kernel
theorem dX8_two_17 : decode cX8_two 17 = .ok (.aload_n 0, 1) := by decide +kernel
theorem dX8_two_18 : decode cX8_two 18 = .ok (.invokevirtual 211, 3) := by decide +kernel
theorem dX8_two_21 : decode cX8_two 21 = .ok (.ireturn, 1) := by decide +kernel
theorem dX8_two_22 : decode cX8_two 22 = .ok (.aload_n 0, 1) := by decide +kernel
theorem dX8_two_23 : decode cX8_two 23 = .ok (.getfield 48, 3) := by decide +kernel
theorem dX8_two_26 : decode cX8_two 26 = .ok (.aload_n 0, 1) := by decide +kernel
theorem dX8_two_27 : decode cX8_two 27 = .ok (.getfield 12, 3) := by decide +kernel
theorem dX8_two_30 : decode cX8_two 30 = .ok (.aload_n 0, 1) := by decide +kernel
theorem dX8_two_31 : decode cX8_two 31 = .ok (.getfield 27, 3) := by decide +kernel
theorem dX8_two_34 : decode cX8_two 34 = .ok (.iload_n 1, 1) := by decide +kernel
theorem dX8_two_35 : decode cX8_two 35 = .ok (.iload_n 2, 1) := by decide +kernel
theorem dX8_two_36 : decode cX8_two 36 = .ok (.invokevirtual 256, 3) := by decide +kernel
theorem dX8_two_39 : decode cX8_two 39 = .ok (.iload_n 3, 1) := by decide +kernel
theorem dX8_two_40 : decode cX8_two 40 = .ok (.iconst (-1), 1) := by decide +kernel
theorem dX8_two_41 : decode cX8_two 41 = .ok (.if_icmp .ne 11, 3) := by decide +kernel
theorem dX8_two_44 : decode cX8_two 44 = .ok (.aload_n 0, 1) := by decide +kernel
theorem dX8_two_45 : decode cX8_two 45 = .ok (.getfield 48, 3) := by decide +kernel
theorem dX8_two_48 : decode cX8_two 48 = .ok (.invokevirtual 260, 3) := by decide +kernel
theorem dX8_two_51 : decode cX8_two 51 = .ok (.ireturn, 1) := by decide +kernel
theorem dX8_two_52 : decode cX8_two 52 = .ok (.aload_n 0, 1) := by decide +kernel
theorem dX8_two_53 : decode cX8_two 53 = .ok (.getfield 48, 3) := by decide +kernel
theorem dX8_two_56 : decode cX8_two 56 = .ok (.iload_n 3, 1) := by decide +kernel
theorem dX8_two_57 : decode cX8_two 57 = .ok (.invokevirtual 263, 3) := by decide +kernel
theorem dX8_two_60 : decode cX8_two 60 = .ok (.ireturn, 1) := by decide +kernel
theorem dX8_bell_0 : decode cX8_bell 0 = .ok (.iload_n 1, 1) := by decide +kernel
theorem dX8_bell_1 : decode cX8_bell 1 = .ok (.iconst 0, 1) := by decide +kernel
theorem dX8_bell_2 : decode cX8_bell 2 = .ok (.bipush 10, 2) := by decide +kernel
theorem dX8_bell_4 : decode cX8_bell 4 = .ok (.invokestatic 66, 3) := by decide +kernel
theorem dX8_bell_7 : decode cX8_bell 7 = .ok (.ifCond .ne 8, 3) := by decide +kernel
theorem dX8_bell_10 : decode cX8_bell 10 = .ok (.aload_n 0, 1) := by decide +kernel
theorem dX8_bell_11 : decode cX8_bell 11 = .ok (.invokevirtual 70, 3) := by decide +kernel
theorem dX8_bell_14 : decode cX8_bell 14 = .ok (.ireturn, 1) := by decide +kernel
theorem dX8_bell_15 : decode cX8_bell 15 = .ok (.aload_n 0, 1) := by decide +kernel
theorem dX8_bell_16 : decode cX8_bell 16 = .ok (.getfield 12, 3) := by decide +kernel
theorem dX8_bell_19 : decode cX8_bell 19 = .ok (.getfield 137, 3) := by decide +kernel
theorem dX8_bell_22 : decode cX8_bell 22 = .ok (.getfield 141, 3) := by decide +kernel
theorem dX8_bell_25 : decode cX8_bell 25 = .ok (.bipush 9, 2) := by decide +kernel
theorem dX8_bell_27 : decode cX8_bell 27 = .ok (.invokestatic 266, 3) := by decide +kernel
theorem dX8_bell_30 : decode cX8_bell 30 = .ok (.istore_n 2, 1) := by decide +kernel
theorem dX8_bell_31 : decode cX8_bell 31 = .ok (.aload_n 0, 1) := by decide +kernel
theorem dX8_bell_32 : decode cX8_bell 32 = .ok (.getfield 55, 3) := by decide +kernel
theorem dX8_bell_35 : decode cX8_bell 35 = .ok (.aload_n 0, 1) := by decide +kernel
theorem dX8_bell_36 : decode cX8_bell 36 = .ok (.getfield 12, 3) := by decide +kernel
theorem dX8_bell_39 : decode cX8_bell 39 = .ok (.aload_n 0, 1) := by decide +kernel
theorem dX8_bell_40 : decode cX8_bell 40 = .ok (.getfield 12, 3) := by decide +kernel
theorem dX8_bell_43 : decode cX8_bell 43 = .ok (.getfield 137, 3) := by decide +kernel
theorem dX8_bell_46 : decode cX8_bell 46 = .ok (.getfield 166, 3) := by decide +kernel
theorem dX8_bell_49 : decode cX8_bell 49 = .ok (.iload_n 2, 1) := by decide +kernel
theorem dX8_bell_50 : decode cX8_bell 50 = .ok (.invokevirtual 208, 3) := by decide +kernel
theorem dX8_bell_53 : decode cX8_bell 53 = .ok (.i2l, 1) := by decide +kernel
theorem dX8_bell_54 : decode cX8_bell 54 = .ok (.bipush 10, 2) := by decide +kernel
theorem dX8_bell_56 : decode cX8_bell 56 = .ok (.iload_n 1, 1) := by decide +kernel
theorem dX8_bell_57 : decode cX8_bell 57 = .ok (.isub, 1) := by decide +kernel
theorem dX8_bell_58 : decode cX8_bell 58 = .ok (.i2l, 1) := by decide +kernel
theorem dX8_bell_59 : decode cX8_bell 59 = .ok (.lmul, 1) := by decide +kernel
theorem dX8_bell_60 : decode cX8_bell 60 = .ok (.ldc2_w 271, 3) := by decide +kernel
theorem dX8_bell_63 : decode cX8_bell 63 = .ok (.invokevirtual 252, 3) := by decide +kernel
theorem dX8_bell_66 : decode cX8_bell 66 = .ok (.iconst 1, 1) := by decide +kernel
theorem dX8_bell_67 : decode cX8_bell 67 = .ok (.ireturn, 1) := by decide +kernel
theorem dX8_days_0 : decode cX8_days 0 = .ok (.iload_n 1, 1) := by decide +kernel
theorem dX8_days_1 : decode cX8_days 1 = .ok (.iconst 0, 1) := by decide +kernel
theorem dX8_days_2 : decode cX8_days 2 = .ok (.ldc_w 273, 3) := by decide +kernel
theorem dX8_days_5 : decode cX8_days 5 = .ok (.invokestatic 66, 3) := by decide +kernel
theorem dX8_days_8 : decode cX8_days 8 = .ok (.ifCond .eq 13, 3) := by decide +kernel
theorem dX8_days_11 : decode cX8_days 11 = .ok (.iload_n 2, 1) := by decide +kernel
theorem dX8_days_12 : decode cX8_days 12 = .ok (.iconst 0, 1) := by decide +kernel
theorem dX8_days_13 : decode cX8_days 13 = .ok (.bipush 60, 2) := by decide +kernel
theorem dX8_days_15 : decode cX8_days 15 = .ok (.invokestatic 66, 3) := by decide +kernel
theorem dX8_days_18 : decode cX8_days 18 = .ok (.ifCond .ne 8, 3) := by decide +kernel
theorem dX8_days_21 : decode cX8_days 21 = .ok (.aload_n 0, 1) := by decide +kernel
theorem dX8_days_22 : decode cX8_days 22 = .ok (.invokevirtual 70, 3) := by decide +kernel
theorem dX8_days_25 : decode cX8_days 25 = .ok (.ireturn, 1) := by decide +kernel
theorem dX8_days_26 : decode cX8_days 26 = .ok (.aload_n 0, 1) := by decide +kernel
theorem dX8_days_27 : decode cX8_days 27 = .ok (.getfield 27, 3) := by decide +kernel
theorem dX8_days_30 : decode cX8_days 30 = .ok (.aload_n 0, 1) := by decide +kernel
theorem dX8_days_31 : decode cX8_days 31 = .ok (.getfield 12, 3) := by decide +kernel
theorem dX8_days_34 : decode cX8_days 34 = .ok (.iload_n 1, 1) := by decide +kernel
theorem dX8_days_35 : decode cX8_days 35 = .ok (.iload_n 2, 1) := by decide +kernel
theorem dX8_days_36 : decode cX8_days 36 = .ok (.invokevirtual 274, 3) := by decide +kernel
theorem dX8_days_39 : decode cX8_days 39 = .ok (.ireturn, 1) := by decide +kernel
theorem dX8_part_0 : decode cX8_part 0 = .ok (.iload_n 1, 1) := by decide +kernel
theorem dX8_part_1 : decode cX8_part 1 = .ok (.lookupswitch 43 #[(0, 27), (1, 35)], 27) := by decide +kernel
theorem dX8_part_28 : decode cX8_part 28 = .ok (.aload_n 0, 1) := by decide +kernel
theorem dX8_part_29 : decode cX8_part 29 = .ok (.getfield 55, 3) := by decide +kernel
theorem dX8_part_32 : decode cX8_part 32 = .ok (.getfield 278, 3) := by decide +kernel
theorem dX8_part_35 : decode cX8_part 35 = .ok (.lreturn, 1) := by decide +kernel
theorem dX8_part_36 : decode cX8_part 36 = .ok (.aload_n 0, 1) := by decide +kernel
theorem dX8_part_37 : decode cX8_part 37 = .ok (.getfield 55, 3) := by decide +kernel
theorem dX8_part_40 : decode cX8_part 40 = .ok (.getfield 282, 3) := by decide +kernel
theorem dX8_part_43 : decode cX8_part 43 = .ok (.lreturn, 1) := by decide +kernel
theorem dX8_part_44 : decode cX8_part 44 = .ok (.aload_n 0, 1) := by decide +kernel
theorem dX8_part_45 : decode cX8_part 45 = .ok (.invokevirtual 70, 3) := by decide +kernel
theorem dX8_part_48 : decode cX8_part 48 = .ok (.i2l, 1) := by decide +kernel
theorem dX8_part_49 : decode cX8_part 49 = .ok (.lreturn, 1) := by decide +kernel
theorem dX8_image_0 : decode cX8_image 0 = .ok (.iload_n 1, 1) := by decide +kernel
theorem dX8_image_1 : decode cX8_image 1 = .ok (.iconst 0, 1) := by decide +kernel
theorem dX8_image_2 : decode cX8_image 2 = .ok (.iconst 1, 1) := by decide +kernel
theorem dX8_image_3 : decode cX8_image 3 = .ok (.invokestatic 66, 3) := by decide +kernel
theorem dX8_image_6 : decode cX8_image 6 = .ok (.ifCond .ne 8, 3) := by decide +kernel
theorem dX8_image_9 : decode cX8_image 9 = .ok (.aload_n 0, 1) := by decide +kernel
theorem dX8_image_10 : decode cX8_image 10 = .ok (.invokevirtual 70, 3) := by decide +kernel
theorem dX8_image_13 : decode cX8_image 13 = .ok (.ireturn, 1) := by decide +kernel
theorem dX8_image_14 : decode cX8_image 14 = .ok (.aload_n 0, 1) := by decide +kernel
theorem dX8_image_15 : decode cX8_image 15 = .ok (.getfield 16, 3) := by decide +kernel
theorem dX8_image_18 : decode cX8_image 18 = .ok (.iload_n 1, 1) := by decide +kernel
theorem dX8_image_19 : decode cX8_image 19 = .ok (.aaload, 1) := by decide +kernel
theorem dX8_image_20 : decode cX8_image 20 = .ok (.aload_n 0, 1) := by decide +kernel
theorem dX8_image_21 : decode cX8_image 21 = .ok (.getfield 12, 3) := by decide +kernel
theorem dX8_image_24 : decode cX8_image 24 = .ok (.invokevirtual 130, 3) := by decide +kernel
theorem dX8_image_27 : decode cX8_image 27 = .ok (.aload_n 0, 1) := by decide +kernel
theorem dX8_image_28 : decode cX8_image 28 = .ok (.getfield 20, 3) := by decide +kernel
theorem dX8_image_31 : decode cX8_image 31 = .ok (.iload_n 1, 1) := by decide +kernel
theorem dX8_image_32 : decode cX8_image 32 = .ok (.iconst 1, 1) := by decide +kernel
theorem dX8_image_33 : decode cX8_image 33 = .ok (.bastore, 1) := by decide +kernel
theorem dX8_image_34 : decode cX8_image 34 = .ok (.iconst 1, 1) := by decide +kernel
theorem dX8_image_35 : decode cX8_image 35 = .ok (.ireturn, 1) := by decide +kernel
theorem dX8_from_0 : decode cX8_from 0 = .ok (.iload_n 1, 1) := by decide +kernel
theorem dX8_from_1 : decode cX8_from 1 = .ok (.iconst 0, 1) := by decide +kernel
theorem dX8_from_2 : decode cX8_from 2 = .ok (.iconst 1, 1) := by decide +kernel
theorem dX8_from_3 : decode cX8_from 3 = .ok (.invokestatic 66, 3) := by decide +kernel
theorem dX8_from_6 : decode cX8_from 6 = .ok (.ifCond .ne 8, 3) := by decide +kernel
theorem dX8_from_9 : decode cX8_from 9 = .ok (.aload_n 0, 1) := by decide +kernel
theorem dX8_from_10 : decode cX8_from 10 = .ok (.invokevirtual 70, 3) := by decide +kernel
theorem dX8_from_13 : decode cX8_from 13 = .ok (.ireturn, 1) := by decide +kernel
theorem dX8_from_14 : decode cX8_from 14 = .ok (.aload_n 0, 1) := by decide +kernel
theorem dX8_from_15 : decode cX8_from 15 = .ok (.getfield 20, 3) := by decide +kernel
theorem dX8_from_18 : decode cX8_from 18 = .ok (.iload_n 1, 1) := by decide +kernel
theorem dX8_from_19 : decode cX8_from 19 = .ok (.baload, 1) := by decide +kernel
theorem dX8_from_20 : decode cX8_from 20 = .ok (.ifCond .ne 8, 3) := by decide +kernel
theorem dX8_from_23 : decode cX8_from 23 = .ok (.aload_n 0, 1) := by decide +kernel
theorem dX8_from_24 : decode cX8_from 24 = .ok (.invokevirtual 146, 3) := by decide +kernel
theorem dX8_from_27 : decode cX8_from 27 = .ok (.ireturn, 1) := by decide +kernel
theorem dX8_from_28 : decode cX8_from 28 = .ok (.aload_n 0, 1) := by decide +kernel
theorem dX8_from_29 : decode cX8_from 29 = .ok (.getfield 12, 3) := by decide +kernel
theorem dX8_from_32 : decode cX8_from 32 = .ok (.aload_n 0, 1) := by decide +kernel
theorem dX8_from_33 : decode cX8_from 33 = .ok (.getfield 16, 3) := by decide +kernel
theorem dX8_from_36 : decode cX8_from 36 = .ok (.iload_n 1, 1) := by decide +kernel
theorem dX8_from_37 : decode cX8_from 37 = .ok (.aaload, 1) := by decide +kernel
theorem dX8_from_38 : decode cX8_from 38 = .ok (.invokevirtual 130, 3) := by decide +kernel
theorem dX8_from_41 : decode cX8_from 41 = .ok (.iconst 1, 1) := by decide +kernel
theorem dX8_from_42 : decode cX8_from 42 = .ok (.ireturn, 1) := by decide +kernel
theorem dX8_status_0 : decode cX8_status 0 = .ok (.iload_n 1, 1) := by decide +kernel
theorem dX8_status_1 : decode cX8_status 1 = .ok (.tableswitch 42 0 2 #[27, 32, 37], 27) := by decide +kernel
theorem dX8_status_28 : decode cX8_status 28 = .ok (.aload_n 0, 1) := by decide +kernel
theorem dX8_status_29 : decode cX8_status 29 = .ok (.getfield 285, 3) := by decide +kernel
theorem dX8_status_32 : decode cX8_status 32 = .ok (.ireturn, 1) := by decide +kernel
theorem dX8_status_33 : decode cX8_status 33 = .ok (.aload_n 0, 1) := by decide +kernel
theorem dX8_status_34 : decode cX8_status 34 = .ok (.getfield 288, 3) := by decide +kernel
theorem dX8_status_37 : decode cX8_status 37 = .ok (.ireturn, 1) := by decide +kernel
theorem dX8_status_38 : decode cX8_status 38 = .ok (.aload_n 0, 1) := by decide +kernel
theorem dX8_status_39 : decode cX8_status 39 = .ok (.getfield 291, 3) := by decide +kernel
theorem dX8_status_42 : decode cX8_status 42 = .ok (.ireturn, 1) := by decide +kernel
theorem dX8_status_43 : decode cX8_status 43 = .ok (.aload_n 0, 1) := by decide +kernel
theorem dX8_status_44 : decode cX8_status 44 = .ok (.invokevirtual 70, 3) := by decide +kernel
theorem dX8_status_47 : decode cX8_status 47 = .ok (.pop, 1) := by decide +kernel
theorem dX8_status_48 : decode cX8_status 48 = .ok (.iconst (-1), 1) := by decide +kernel
theorem dX8_status_49 : decode cX8_status 49 = .ok (.ireturn, 1) := by decide +kernel
theorem dX8_count_0 : decode cX8_count 0 = .ok (.iload_n 1, 1) := by decide +kernel
theorem dX8_count_1 : decode cX8_count 1 = .ok (.tableswitch 99 0 6 #[43, 51, 59, 67, 75, 83, 91], 43) := by decide +kernel
theorem dX8_count_44 : decode cX8_count 44 = .ok (.aload_n 0, 1) := by decide +kernel
theorem dX8_count_45 : decode cX8_count 45 = .ok (.getfield 12, 3) := by decide +kernel
theorem dX8_count_48 : decode cX8_count 48 = .ok (.getfield 74, 3) := by decide +kernel
theorem dX8_count_51 : decode cX8_count 51 = .ok (.ireturn, 1) := by decide +kernel
theorem dX8_count_52 : decode cX8_count 52 = .ok (.aload_n 0, 1) := by decide +kernel
theorem dX8_count_53 : decode cX8_count 53 = .ok (.getfield 12, 3) := by decide +kernel
theorem dX8_count_56 : decode cX8_count 56 = .ok (.getfield 81, 3) := by decide +kernel
theorem dX8_count_59 : decode cX8_count 59 = .ok (.ireturn, 1) := by decide +kernel
theorem dX8_count_60 : decode cX8_count 60 = .ok (.aload_n 0, 1) := by decide +kernel
theorem dX8_count_61 : decode cX8_count 61 = .ok (.getfield 12, 3) := by decide +kernel
theorem dX8_count_64 : decode cX8_count 64 = .ok (.invokevirtual 294, 3) := by decide +kernel
theorem dX8_count_67 : decode cX8_count 67 = .ok (.ireturn, 1) := by decide +kernel
theorem dX8_count_68 : decode cX8_count 68 = .ok (.aload_n 0, 1) := by decide +kernel
theorem dX8_count_69 : decode cX8_count 69 = .ok (.getfield 12, 3) := by decide +kernel
theorem dX8_count_72 : decode cX8_count 72 = .ok (.invokevirtual 297, 3) := by decide +kernel
theorem dX8_count_75 : decode cX8_count 75 = .ok (.ireturn, 1) := by decide +kernel
theorem dX8_count_76 : decode cX8_count 76 = .ok (.aload_n 0, 1) := by decide +kernel
theorem dX8_count_77 : decode cX8_count 77 = .ok (.getfield 12, 3) := by decide +kernel
theorem dX8_count_80 : decode cX8_count 80 = .ok (.getfield 240, 3) := by decide +kernel
theorem dX8_count_83 : decode cX8_count 83 = .ok (.ireturn, 1) := by decide +kernel
theorem dX8_count_84 : decode cX8_count 84 = .ok (.aload_n 0, 1) := by decide +kernel
theorem dX8_count_85 : decode cX8_count 85 = .ok (.getfield 12, 3) := by decide +kernel
theorem dX8_count_88 : decode cX8_count 88 = .ok (.getfield 84, 3) := by decide +kernel
theorem dX8_count_91 : decode cX8_count 91 = .ok (.ireturn, 1) := by decide +kernel
theorem dX8_count_92 : decode cX8_count 92 = .ok (.aload_n 0, 1) := by decide +kernel
theorem dX8_count_93 : decode cX8_count 93 = .ok (.getfield 62, 3) := by decide +kernel
theorem dX8_count_96 : decode cX8_count 96 = .ok (.getfield 113, 3) := by decide +kernel
theorem dX8_count_99 : decode cX8_count 99 = .ok (.ireturn, 1) := by decide +kernel
theorem dX8_count_100 : decode cX8_count 100 = .ok (.aload_n 0, 1) := by decide +kernel
theorem dX8_count_101 : decode cX8_count 101 = .ok (.invokevirtual 70, 3) := by decide +kernel
theorem dX8_count_104 : decode cX8_count 104 = .ok (.ireturn, 1) := by decide +kernel
theorem dX8_digest_0 : decode cX8_digest 0 = .ok (.ldc2_w 300, 3) := by decide +kernel
theorem dX8_digest_3 : decode cX8_digest 3 = .ok (.lstore_n 1, 1) := by decide +kernel
theorem dX8_digest_4 : decode cX8_digest 4 = .ok (.iconst 0, 1) := by decide +kernel
theorem dX8_digest_5 : decode cX8_digest 5 = .ok (.istore_n 3, 1) := by decide +kernel
theorem dX8_digest_6 : decode cX8_digest 6 = .ok (.iload_n 3, 1) := by decide +kernel
theorem dX8_digest_7 : decode cX8_digest 7 = .ok (.bipush 6, 2) := by decide +kernel
theorem dX8_digest_9 : decode cX8_digest 9 = .ok (.if_icmp .gt 22, 3) := by decide +kernel
theorem dX8_digest_12 : decode cX8_digest 12 = .ok (.ldc2_w 302, 3) := by decide +kernel
theorem dX8_digest_15 : decode cX8_digest 15 = .ok (.lload_n 1, 1) := by decide +kernel
theorem dX8_digest_16 : decode cX8_digest 16 = .ok (.lmul, 1) := by decide +kernel
theorem dX8_digest_17 : decode cX8_digest 17 = .ok (.aload_n 0, 1) := by decide +kernel
theorem dX8_digest_18 : decode cX8_digest 18 = .ok (.iload_n 3, 1) := by decide +kernel
theorem dX8_digest_19 : decode cX8_digest 19 = .ok (.invokevirtual 304, 3) := by decide +kernel
theorem dX8_digest_22 : decode cX8_digest 22 = .ok (.i2l, 1) := by decide +kernel
theorem dX8_digest_23 : decode cX8_digest 23 = .ok (.ladd, 1) := by decide +kernel
theorem dX8_digest_24 : decode cX8_digest 24 = .ok (.lstore_n 1, 1) := by decide +kernel
theorem dX8_digest_25 : decode cX8_digest 25 = .ok (.iinc 3 1, 3) := by decide +kernel
theorem dX8_digest_28 : decode cX8_digest 28 = .ok (.goto (-22), 3) := by decide +kernel
theorem dX8_digest_31 : decode cX8_digest 31 = .ok (.iconst 0, 1) := by decide +kernel
theorem dX8_digest_32 : decode cX8_digest 32 = .ok (.istore_n 3, 1) := by decide +kernel
theorem dX8_digest_33 : decode cX8_digest 33 = .ok (.iload_n 3, 1) := by decide +kernel
theorem dX8_digest_34 : decode cX8_digest 34 = .ok (.iconst 4, 1) := by decide +kernel
theorem dX8_digest_35 : decode cX8_digest 35 = .ok (.if_icmp .gt 22, 3) := by decide +kernel
theorem dX8_digest_38 : decode cX8_digest 38 = .ok (.ldc2_w 302, 3) := by decide +kernel
theorem dX8_digest_41 : decode cX8_digest 41 = .ok (.lload_n 1, 1) := by decide +kernel
theorem dX8_digest_42 : decode cX8_digest 42 = .ok (.lmul, 1) := by decide +kernel
theorem dX8_digest_43 : decode cX8_digest 43 = .ok (.aload_n 0, 1) := by decide +kernel
theorem dX8_digest_44 : decode cX8_digest 44 = .ok (.iload_n 3, 1) := by decide +kernel
theorem dX8_digest_45 : decode cX8_digest 45 = .ok (.invokevirtual 307, 3) := by decide +kernel
theorem dX8_digest_48 : decode cX8_digest 48 = .ok (.i2l, 1) := by decide +kernel
theorem dX8_digest_49 : decode cX8_digest 49 = .ok (.ladd, 1) := by decide +kernel
theorem dX8_digest_50 : decode cX8_digest 50 = .ok (.lstore_n 1, 1) := by decide +kernel
theorem dX8_digest_51 : decode cX8_digest 51 = .ok (.iinc 3 1, 3) := by decide +kernel
theorem dX8_digest_54 : decode cX8_digest 54 = .ok (.goto (-21), 3) := by decide +kernel
theorem dX8_digest_57 : decode cX8_digest 57 = .ok (.aload_n 0, 1) := by decide +kernel
theorem dX8_digest_58 : decode cX8_digest 58 = .ok (.getfield 12, 3) := by decide +kernel
theorem dX8_digest_61 : decode cX8_digest 61 = .ok (.lload_n 1, 1) := by decide +kernel
theorem dX8_digest_62 : decode cX8_digest 62 = .ok (.invokevirtual 310, 3) := by decide +kernel
theorem dX8_digest_65 : decode cX8_digest 65 = .ok (.lstore_n 1, 1) := by decide +kernel
theorem dX8_digest_66 : decode cX8_digest 66 = .ok (.ldc2_w 302, 3) := by decide +kernel
theorem dX8_digest_69 : decode cX8_digest 69 = .ok (.lload_n 1, 1) := by decide +kernel
theorem dX8_digest_70 : decode cX8_digest 70 = .ok (.lmul, 1) := by decide +kernel
theorem dX8_digest_71 : decode cX8_digest 71 = .ok (.aload_n 0, 1) := by decide +kernel
theorem dX8_digest_72 : decode cX8_digest 72 = .ok (.getfield 55, 3) := by decide +kernel
theorem dX8_digest_75 : decode cX8_digest 75 = .ok (.getfield 278, 3) := by decide +kernel
theorem dX8_digest_78 : decode cX8_digest 78 = .ok (.ladd, 1) := by decide +kernel
theorem dX8_digest_79 : decode cX8_digest 79 = .ok (.lstore_n 1, 1) := by decide +kernel
theorem dX8_digest_80 : decode cX8_digest 80 = .ok (.ldc2_w 302, 3) := by decide +kernel
theorem dX8_digest_83 : decode cX8_digest 83 = .ok (.lload_n 1, 1) := by decide +kernel
theorem dX8_digest_84 : decode cX8_digest 84 = .ok (.lmul, 1) := by decide +kernel
theorem dX8_digest_85 : decode cX8_digest 85 = .ok (.aload_n 0, 1) := by decide +kernel
theorem dX8_digest_86 : decode cX8_digest 86 = .ok (.getfield 55, 3) := by decide +kernel
theorem dX8_digest_89 : decode cX8_digest 89 = .ok (.getfield 282, 3) := by decide +kernel
theorem dX8_digest_92 : decode cX8_digest 92 = .ok (.ladd, 1) := by decide +kernel
theorem dX8_digest_93 : decode cX8_digest 93 = .ok (.lreturn, 1) := by decide +kernel
theorem dX8_refuseBad_0 : decode cX8_refuseBad 0 = .ok (.aload_n 0, 1) := by decide +kernel
theorem dX8_refuseBad_1 : decode cX8_refuseBad 1 = .ok (.dup, 1) := by decide +kernel
theorem dX8_refuseBad_2 : decode cX8_refuseBad 2 = .ok (.getfield 285, 3) := by decide +kernel
theorem dX8_refuseBad_5 : decode cX8_refuseBad 5 = .ok (.iconst 1, 1) := by decide +kernel
theorem dX8_refuseBad_6 : decode cX8_refuseBad 6 = .ok (.iadd, 1) := by decide +kernel
theorem dX8_refuseBad_7 : decode cX8_refuseBad 7 = .ok (.putfield 285, 3) := by decide +kernel
theorem dX8_refuseBad_10 : decode cX8_refuseBad 10 = .ok (.bipush (-2), 2) := by decide +kernel
theorem dX8_refuseBad_12 : decode cX8_refuseBad 12 = .ok (.ireturn, 1) := by decide +kernel
theorem dX8_refuseOtherBad_0 : decode cX8_refuseOtherBad 0 = .ok (.aload_n 0, 1) := by decide +kernel
theorem dX8_refuseOtherBad_1 : decode cX8_refuseOtherBad 1 = .ok (.dup, 1) := by decide +kernel
theorem dX8_refuseOtherBad_2 : decode cX8_refuseOtherBad 2 = .ok (.getfield 285, 3) := by decide +kernel
theorem dX8_refuseOtherBad_5 : decode cX8_refuseOtherBad 5 = .ok (.iconst 1, 1) := by decide +kernel
theorem dX8_refuseOtherBad_6 : decode cX8_refuseOtherBad 6 = .ok (.iadd, 1) := by decide +kernel
theorem dX8_refuseOtherBad_7 : decode cX8_refuseOtherBad 7 = .ok (.putfield 285, 3) := by decide +kernel
theorem dX8_refuseOtherBad_10 : decode cX8_refuseOtherBad 10 = .ok (.bipush (-10), 2) := by decide +kernel
theorem dX8_refuseOtherBad_12 : decode cX8_refuseOtherBad 12 = .ok (.ireturn, 1) := by decide +kernel
theorem dX8_refuseNo_0 : decode cX8_refuseNo 0 = .ok (.aload_n 0, 1) := by decide +kernel
theorem dX8_refuseNo_1 : decode cX8_refuseNo 1 = .ok (.dup, 1) := by decide +kernel
theorem dX8_refuseNo_2 : decode cX8_refuseNo 2 = .ok (.getfield 288, 3) := by decide +kernel
theorem dX8_refuseNo_5 : decode cX8_refuseNo 5 = .ok (.iconst 1, 1) := by decide +kernel
theorem dX8_refuseNo_6 : decode cX8_refuseNo 6 = .ok (.iadd, 1) := by decide +kernel
theorem dX8_refuseNo_7 : decode cX8_refuseNo 7 = .ok (.putfield 288, 3) := by decide +kernel
theorem dX8_refuseNo_10 : decode cX8_refuseNo 10 = .ok (.bipush (-3), 2) := by decide +kernel
theorem dX8_refuseNo_12 : decode cX8_refuseNo 12 = .ok (.ireturn, 1) := by decide +kernel
theorem dX8_refuseFull_0 : decode cX8_refuseFull 0 = .ok (.aload_n 0, 1) := by decide +kernel
theorem dX8_refuseFull_1 : decode cX8_refuseFull 1 = .ok (.dup, 1) := by decide +kernel
theorem dX8_refuseFull_2 : decode cX8_refuseFull 2 = .ok (.getfield 291, 3) := by decide +kernel
theorem dX8_refuseFull_5 : decode cX8_refuseFull 5 = .ok (.iconst 1, 1) := by decide +kernel
theorem dX8_refuseFull_6 : decode cX8_refuseFull 6 = .ok (.iadd, 1) := by decide +kernel
theorem dX8_refuseFull_7 : decode cX8_refuseFull 7 = .ok (.putfield 291, 3) := by decide +kernel
theorem dX8_refuseFull_10 : decode cX8_refuseFull 10 = .ok (.bipush (-4), 2) := by decide +kernel
theorem dX8_refuseFull_12 : decode cX8_refuseFull 12 = .ok (.ireturn, 1) := by decide +kernel
theorem dX8_within_0 : decode cX8_within 0 = .ok (.iload_n 0, 1) := by decide +kernel
theorem dX8_within_1 : decode cX8_within 1 = .ok (.iload_n 1, 1) := by decide +kernel
theorem dX8_within_2 : decode cX8_within 2 = .ok (.if_icmp .lt 12, 3) := by decide +kernel
theorem dX8_within_5 : decode cX8_within 5 = .ok (.iload_n 0, 1) := by decide +kernel
theorem dX8_within_6 : decode cX8_within 6 = .ok (.iload_n 2, 1) := by decide +kernel
theorem dX8_within_7 : decode cX8_within 7 = .ok (.if_icmp .gt 7, 3) := by decide +kernel
theorem dX8_within_10 : decode cX8_within 10 = .ok (.iconst 1, 1) := by decide +kernel
theorem dX8_within_11 : decode cX8_within 11 = .ok (.goto 4, 3) := by decide +kernel
theorem dX8_within_14 : decode cX8_within 14 = .ok (.iconst 0, 1) := by decide +kernel
theorem dX8_within_15 : decode cX8_within 15 = .ok (.ireturn, 1) := by decide +kernel
theorem dX8_bit_0 : decode cX8_bit 0 = .ok (.iload_n 0, 1) := by decide +kernel
theorem dX8_bit_1 : decode cX8_bit 1 = .ok (.iload_n 1, 1) := by decide +kernel
theorem dX8_bit_2 : decode cX8_bit 2 = .ok (.ishr, 1) := by decide +kernel
theorem dX8_bit_3 : decode cX8_bit 3 = .ok (.iconst 1, 1) := by decide +kernel
theorem dX8_bit_4 : decode cX8_bit 4 = .ok (.iand, 1) := by decide +kernel
theorem dX8_bit_5 : decode cX8_bit 5 = .ok (.ireturn, 1) := by decide +kernel
theorem dX8_swayOf_0 : decode cX8_swayOf 0 = .ok (.iload_n 0, 1) := by decide +kernel
theorem dX8_swayOf_1 : decode cX8_swayOf 1 = .ok (.tableswitch 78 0 4 #[35, 40, 45, 66, 71], 35) := by decide +kernel
theorem dX8_swayOf_36 : decode cX8_swayOf 36 = .ok (.iload_n 1, 1) := by decide +kernel
theorem dX8_swayOf_37 : decode cX8_swayOf 37 = .ok (.invokestatic 314, 3) := by decide +kernel
theorem dX8_swayOf_40 : decode cX8_swayOf 40 = .ok (.ireturn, 1) := by decide +kernel
theorem dX8_swayOf_41 : decode cX8_swayOf 41 = .ok (.iload_n 1, 1) := by decide +kernel
theorem dX8_swayOf_42 : decode cX8_swayOf 42 = .ok (.invokestatic 317, 3) := by decide +kernel
theorem dX8_swayOf_45 : decode cX8_swayOf 45 = .ok (.ireturn, 1) := by decide +kernel
theorem dX8_swayOf_46 : decode cX8_swayOf 46 = .ok (.iload_n 2, 1) := by decide +kernel
theorem dX8_swayOf_47 : decode cX8_swayOf 47 = .ok (.iconst 2, 1) := by decide +kernel
theorem dX8_swayOf_48 : decode cX8_swayOf 48 = .ok (.irem, 1) := by decide +kernel
theorem dX8_swayOf_49 : decode cX8_swayOf 49 = .ok (.iconst 1, 1) := by decide +kernel
theorem dX8_swayOf_50 : decode cX8_swayOf 50 = .ok (.if_icmp .ne 12, 3) := by decide +kernel
theorem dX8_swayOf_53 : decode cX8_swayOf 53 = .ok (.iconst 2, 1) := by decide +kernel
theorem dX8_swayOf_54 : decode cX8_swayOf 54 = .ok (.iload_n 1, 1) := by decide +kernel
theorem dX8_swayOf_55 : decode cX8_swayOf 55 = .ok (.invokestatic 314, 3) := by decide +kernel
theorem dX8_swayOf_58 : decode cX8_swayOf 58 = .ok (.imul, 1) := by decide +kernel
theorem dX8_swayOf_59 : decode cX8_swayOf 59 = .ok (.goto 7, 3) := by decide +kernel
theorem dX8_swayOf_62 : decode cX8_swayOf 62 = .ok (.iload_n 1, 1) := by decide +kernel
theorem dX8_swayOf_63 : decode cX8_swayOf 63 = .ok (.invokestatic 314, 3) := by decide +kernel
theorem dX8_swayOf_66 : decode cX8_swayOf 66 = .ok (.ireturn, 1) := by decide +kernel
theorem dX8_swayOf_67 : decode cX8_swayOf 67 = .ok (.iload_n 1, 1) := by decide +kernel
theorem dX8_swayOf_68 : decode cX8_swayOf 68 = .ok (.invokestatic 314, 3) := by decide +kernel
theorem dX8_swayOf_71 : decode cX8_swayOf 71 = .ok (.ireturn, 1) := by decide +kernel
theorem dX8_swayOf_72 : decode cX8_swayOf 72 = .ok (.iload_n 1, 1) := by decide +kernel
theorem dX8_swayOf_73 : decode cX8_swayOf 73 = .ok (.invokestatic 317, 3) := by decide +kernel
theorem dX8_swayOf_76 : decode cX8_swayOf 76 = .ok (.iconst 1, 1) := by decide +kernel
theorem dX8_swayOf_77 : decode cX8_swayOf 77 = .ok (.iadd, 1) := by decide +kernel
theorem dX8_swayOf_78 : decode cX8_swayOf 78 = .ok (.ireturn, 1) := by decide +kernel
theorem dX8_swayOf_79 : decode cX8_swayOf 79 = .ok (.iconst 0, 1) := by decide +kernel
theorem dX8_swayOf_80 : decode cX8_swayOf 80 = .ok (.ireturn, 1) := by decide +kernel
theorem dX8_plainSway_0 : decode cX8_plainSway 0 = .ok (.iload_n 0, 1) := by decide +kernel
theorem dX8_plainSway_1 : decode cX8_plainSway 1 = .ok (.ireturn, 1) := by decide +kernel
theorem dX8_economySway_0 : decode cX8_economySway 0 = .ok (.iload_n 0, 1) := by decide +kernel
theorem dX8_economySway_1 : decode cX8_economySway 1 = .ok (.invokestatic 314, 3) := by decide +kernel
theorem dX8_economySway_4 : decode cX8_economySway 4 = .ok (.iconst 1, 1) := by decide +kernel
theorem dX8_economySway_5 : decode cX8_economySway 5 = .ok (.iadd, 1) := by decide +kernel
theorem dX8_economySway_6 : decode cX8_economySway 6 = .ok (.iconst 2, 1) := by decide +kernel
theorem dX8_economySway_7 : decode cX8_economySway 7 = .ok (.idiv, 1) := by decide +kernel
theorem dX8_economySway_8 : decode cX8_economySway 8 = .ok (.ireturn, 1) := by decide +kernel
theorem dX8_tallOf_0 : decode cX8_tallOf 0 = .ok (.iload_n 0, 1) := by decide +kernel
theorem dX8_tallOf_1 : decode cX8_tallOf 1 = .ok (.tableswitch 59 0 4 #[35, 39, 43, 47, 51], 35) := by decide +kernel
theorem dX8_tallOf_36 : decode cX8_tallOf 36 = .ok (.invokestatic 320, 3) := by decide +kernel
theorem dX8_tallOf_39 : decode cX8_tallOf 39 = .ok (.ireturn, 1) := by decide +kernel
theorem dX8_tallOf_40 : decode cX8_tallOf 40 = .ok (.invokestatic 323, 3) := by decide +kernel
theorem dX8_tallOf_43 : decode cX8_tallOf 43 = .ok (.ireturn, 1) := by decide +kernel
theorem dX8_tallOf_44 : decode cX8_tallOf 44 = .ok (.invokestatic 320, 3) := by decide +kernel
theorem dX8_tallOf_47 : decode cX8_tallOf 47 = .ok (.ireturn, 1) := by decide +kernel
theorem dX8_tallOf_48 : decode cX8_tallOf 48 = .ok (.invokestatic 326, 3) := by decide +kernel
theorem dX8_tallOf_51 : decode cX8_tallOf 51 = .ok (.ireturn, 1) := by decide +kernel
theorem dX8_tallOf_52 : decode cX8_tallOf 52 = .ok (.invokestatic 323, 3) := by decide +kernel
theorem dX8_tallOf_55 : decode cX8_tallOf 55 = .ok (.iload_n 1, 1) := by decide +kernel
theorem dX8_tallOf_56 : decode cX8_tallOf 56 = .ok (.iconst 3, 1) := by decide +kernel
theorem dX8_tallOf_57 : decode cX8_tallOf 57 = .ok (.idiv, 1) := by decide +kernel
theorem dX8_tallOf_58 : decode cX8_tallOf 58 = .ok (.iadd, 1) := by decide +kernel
theorem dX8_tallOf_59 : decode cX8_tallOf 59 = .ok (.ireturn, 1) := by decide +kernel
theorem dX8_tallOf_60 : decode cX8_tallOf 60 = .ok (.invokestatic 326, 3) := by decide +kernel
theorem dX8_tallOf_63 : decode cX8_tallOf 63 = .ok (.iconst 1, 1) := by decide +kernel
theorem dX8_tallOf_64 : decode cX8_tallOf 64 = .ok (.isub, 1) := by decide +kernel
theorem dX8_tallOf_65 : decode cX8_tallOf 65 = .ok (.ireturn, 1) := by decide +kernel
theorem dX8_plainTall_0 : decode cX8_plainTall 0 = .ok (.iconst 3, 1) := by decide +kernel
theorem dX8_plainTall_1 : decode cX8_plainTall 1 = .ok (.ireturn, 1) := by decide +kernel
theorem dX8_economyTall_0 : decode cX8_economyTall 0 = .ok (.invokestatic 320, 3) := by decide +kernel
theorem dX8_economyTall_3 : decode cX8_economyTall 3 = .ok (.iconst 1, 1) := by decide +kernel
theorem dX8_economyTall_4 : decode cX8_economyTall 4 = .ok (.isub, 1) := by decide +kernel
theorem dX8_economyTall_5 : decode cX8_economyTall 5 = .ok (.ireturn, 1) := by decide +kernel
theorem dX8_doubtTall_0 : decode cX8_doubtTall 0 = .ok (.invokestatic 320, 3) := by decide +kernel
theorem dX8_doubtTall_3 : decode cX8_doubtTall 3 = .ok (.iconst 2, 1) := by decide +kernel
theorem dX8_doubtTall_4 : decode cX8_doubtTall 4 = .ok (.iadd, 1) := by decide +kernel
theorem dX8_doubtTall_5 : decode cX8_doubtTall 5 = .ok (.ireturn, 1) := by decide +kernel
theorem dX8_bestLook_0 : decode cX8_bestLook 0 = .ok (.iload_n 0, 1) := by decide +kernel
theorem dX8_bestLook_1 : decode cX8_bestLook 1 = .ok (.ifCond .ne 5, 3) := by decide +kernel
theorem dX8_bestLook_4 : decode cX8_bestLook 4 = .ok (.iconst (-1), 1) := by decide +kernel
theorem dX8_bestLook_5 : decode cX8_bestLook 5 = .ok (.ireturn, 1) := by decide +kernel
theorem dX8_bestLook_6 : decode cX8_bestLook 6 = .ok (.iconst 0, 1) := by decide +kernel
theorem dX8_bestLook_7 : decode cX8_bestLook 7 = .ok (.istore_n 2, 1) := by decide +kernel
theorem dX8_bestLook_8 : decode cX8_bestLook 8 = .ok (.iload_n 0, 1) := by decide +kernel
theorem dX8_bestLook_9 : decode cX8_bestLook 9 = .ok (.iload_n 1, 1) := by decide +kernel
theorem dX8_bestLook_10 : decode cX8_bestLook 10 = .ok (.iconst 0, 1) := by decide +kernel
theorem dX8_bestLook_11 : decode cX8_bestLook 11 = .ok (.invokestatic 329, 3) := by decide +kernel
theorem dX8_bestLook_14 : decode cX8_bestLook 14 = .ok (.istore_n 3, 1) := by decide +kernel
theorem dX8_bestLook_15 : decode cX8_bestLook 15 = .ok (.iconst 1, 1) := by decide +kernel
theorem dX8_bestLook_16 : decode cX8_bestLook 16 = .ok (.istore 4, 2) := by decide +kernel
theorem dX8_bestLook_18 : decode cX8_bestLook 18 = .ok (.iload 4, 2) := by decide +kernel
theorem dX8_bestLook_20 : decode cX8_bestLook 20 = .ok (.bipush 10, 2) := by decide +kernel
theorem dX8_bestLook_22 : decode cX8_bestLook 22 = .ok (.if_icmp .ge 30, 3) := by decide +kernel
theorem dX8_bestLook_25 : decode cX8_bestLook 25 = .ok (.iload_n 0, 1) := by decide +kernel
theorem dX8_bestLook_26 : decode cX8_bestLook 26 = .ok (.iload_n 1, 1) := by decide +kernel
theorem dX8_bestLook_27 : decode cX8_bestLook 27 = .ok (.iload 4, 2) := by decide +kernel
theorem dX8_bestLook_29 : decode cX8_bestLook 29 = .ok (.invokestatic 329, 3) := by decide +kernel
theorem dX8_bestLook_32 : decode cX8_bestLook 32 = .ok (.istore 5, 2) := by decide +kernel
theorem dX8_bestLook_34 : decode cX8_bestLook 34 = .ok (.iload 5, 2) := by decide +kernel
theorem dX8_bestLook_36 : decode cX8_bestLook 36 = .ok (.iload_n 3, 1) := by decide +kernel
theorem dX8_bestLook_37 : decode cX8_bestLook 37 = .ok (.if_icmp .ge 9, 3) := by decide +kernel
theorem dX8_bestLook_40 : decode cX8_bestLook 40 = .ok (.iload 5, 2) := by decide +kernel
theorem dX8_bestLook_42 : decode cX8_bestLook 42 = .ok (.istore_n 3, 1) := by decide +kernel
theorem dX8_bestLook_43 : decode cX8_bestLook 43 = .ok (.iload 4, 2) := by decide +kernel
theorem dX8_bestLook_45 : decode cX8_bestLook 45 = .ok (.istore_n 2, 1) := by decide +kernel
theorem dX8_bestLook_46 : decode cX8_bestLook 46 = .ok (.iinc 4 1, 3) := by decide +kernel
theorem dX8_bestLook_49 : decode cX8_bestLook 49 = .ok (.goto (-31), 3) := by decide +kernel
theorem dX8_bestLook_52 : decode cX8_bestLook 52 = .ok (.iload_n 2, 1) := by decide +kernel
theorem dX8_bestLook_53 : decode cX8_bestLook 53 = .ok (.ireturn, 1) := by decide +kernel
theorem dX8_mostAlike_0 : decode cX8_mostAlike 0 = .ok (.iconst 0, 1) := by decide +kernel
theorem dX8_mostAlike_1 : decode cX8_mostAlike 1 = .ok (.istore_n 3, 1) := by decide +kernel
theorem dX8_mostAlike_2 : decode cX8_mostAlike 2 = .ok (.iconst 0, 1) := by decide +kernel
theorem dX8_mostAlike_3 : decode cX8_mostAlike 3 = .ok (.istore 4, 2) := by decide +kernel
theorem dX8_mostAlike_5 : decode cX8_mostAlike 5 = .ok (.iload 4, 2) := by decide +kernel
theorem dX8_mostAlike_7 : decode cX8_mostAlike 7 = .ok (.bipush 6, 2) := by decide +kernel
theorem dX8_mostAlike_9 : decode cX8_mostAlike 9 = .ok (.if_icmp .ge 32, 3) := by decide +kernel
theorem dX8_mostAlike_12 : decode cX8_mostAlike 12 = .ok (.iload_n 0, 1) := by decide +kernel
theorem dX8_mostAlike_13 : decode cX8_mostAlike 13 = .ok (.iload 4, 2) := by decide +kernel
theorem dX8_mostAlike_15 : decode cX8_mostAlike 15 = .ok (.invokestatic 105, 3) := by decide +kernel
theorem dX8_mostAlike_18 : decode cX8_mostAlike 18 = .ok (.iconst 1, 1) := by decide +kernel
theorem dX8_mostAlike_19 : decode cX8_mostAlike 19 = .ok (.if_icmp .ne 16, 3) := by decide +kernel
theorem dX8_mostAlike_22 : decode cX8_mostAlike 22 = .ok (.iload_n 3, 1) := by decide +kernel
theorem dX8_mostAlike_23 : decode cX8_mostAlike 23 = .ok (.iload_n 0, 1) := by decide +kernel
theorem dX8_mostAlike_24 : decode cX8_mostAlike 24 = .ok (.iload 4, 2) := by decide +kernel
theorem dX8_mostAlike_26 : decode cX8_mostAlike 26 = .ok (.iload_n 1, 1) := by decide +kernel
theorem dX8_mostAlike_27 : decode cX8_mostAlike 27 = .ok (.iload_n 2, 1) := by decide +kernel
theorem dX8_mostAlike_28 : decode cX8_mostAlike 28 = .ok (.invokestatic 332, 3) := by decide +kernel
theorem dX8_mostAlike_31 : decode cX8_mostAlike 31 = .ok (.invokestatic 336, 3) := by decide +kernel
theorem dX8_mostAlike_34 : decode cX8_mostAlike 34 = .ok (.istore_n 3, 1) := by decide +kernel
theorem dX8_mostAlike_35 : decode cX8_mostAlike 35 = .ok (.iinc 4 1, 3) := by decide +kernel
theorem dX8_mostAlike_38 : decode cX8_mostAlike 38 = .ok (.goto (-33), 3) := by decide +kernel
theorem dX8_mostAlike_41 : decode cX8_mostAlike 41 = .ok (.iload_n 3, 1) := by decide +kernel
theorem dX8_mostAlike_42 : decode cX8_mostAlike 42 = .ok (.ireturn, 1) := by decide +kernel
theorem dX8_countAlike_0 : decode cX8_countAlike 0 = .ok (.iconst 0, 1) := by decide +kernel
theorem dX8_countAlike_1 : decode cX8_countAlike 1 = .ok (.istore 4, 2) := by decide +kernel
theorem dX8_countAlike_3 : decode cX8_countAlike 3 = .ok (.iconst 0, 1) := by decide +kernel
theorem dX8_countAlike_4 : decode cX8_countAlike 4 = .ok (.istore 5, 2) := by decide +kernel
theorem dX8_countAlike_6 : decode cX8_countAlike 6 = .ok (.iload 5, 2) := by decide +kernel
theorem dX8_countAlike_8 : decode cX8_countAlike 8 = .ok (.bipush 6, 2) := by decide +kernel
theorem dX8_countAlike_10 : decode cX8_countAlike 10 = .ok (.if_icmp .ge 52, 3) := by decide +kernel
theorem dX8_countAlike_13 : decode cX8_countAlike 13 = .ok (.iload_n 0, 1) := by decide +kernel
theorem dX8_countAlike_14 : decode cX8_countAlike 14 = .ok (.iload 5, 2) := by decide +kernel
theorem dX8_countAlike_16 : decode cX8_countAlike 16 = .ok (.invokestatic 105, 3) := by decide +kernel
theorem dX8_countAlike_19 : decode cX8_countAlike 19 = .ok (.iconst 1, 1) := by decide +kernel
theorem dX8_countAlike_20 : decode cX8_countAlike 20 = .ok (.if_icmp .ne 36, 3) := by decide +kernel
theorem dX8_countAlike_23 : decode cX8_countAlike 23 = .ok (.iload 5, 2) := by decide +kernel
theorem dX8_countAlike_25 : decode cX8_countAlike 25 = .ok (.iload_n 2, 1) := by decide +kernel
theorem dX8_countAlike_26 : decode cX8_countAlike 26 = .ok (.iload_n 3, 1) := by decide +kernel
theorem dX8_countAlike_27 : decode cX8_countAlike 27 = .ok (.invokestatic 187, 3) := by decide +kernel
theorem dX8_countAlike_30 : decode cX8_countAlike 30 = .ok (.iload_n 1, 1) := by decide +kernel
theorem dX8_countAlike_31 : decode cX8_countAlike 31 = .ok (.iload_n 2, 1) := by decide +kernel
theorem dX8_countAlike_32 : decode cX8_countAlike 32 = .ok (.iload_n 3, 1) := by decide +kernel
theorem dX8_countAlike_33 : decode cX8_countAlike 33 = .ok (.invokestatic 187, 3) := by decide +kernel
theorem dX8_countAlike_36 : decode cX8_countAlike 36 = .ok (.if_icmp .ne 20, 3) := by decide +kernel
theorem dX8_countAlike_39 : decode cX8_countAlike 39 = .ok (.iload 5, 2) := by decide +kernel
theorem dX8_countAlike_41 : decode cX8_countAlike 41 = .ok (.iload_n 3, 1) := by decide +kernel
theorem dX8_countAlike_42 : decode cX8_countAlike 42 = .ok (.invokestatic 191, 3) := by decide +kernel
theorem dX8_countAlike_45 : decode cX8_countAlike 45 = .ok (.iload_n 1, 1) := by decide +kernel
theorem dX8_countAlike_46 : decode cX8_countAlike 46 = .ok (.iload_n 3, 1) := by decide +kernel
theorem dX8_countAlike_47 : decode cX8_countAlike 47 = .ok (.invokestatic 191, 3) := by decide +kernel
theorem dX8_countAlike_50 : decode cX8_countAlike 50 = .ok (.if_icmp .ne 6, 3) := by decide +kernel
theorem dX8_countAlike_53 : decode cX8_countAlike 53 = .ok (.iinc 4 1, 3) := by decide +kernel
theorem dX8_countAlike_56 : decode cX8_countAlike 56 = .ok (.iinc 5 1, 3) := by decide +kernel
theorem dX8_countAlike_59 : decode cX8_countAlike 59 = .ok (.goto (-53), 3) := by decide +kernel
theorem dX8_countAlike_62 : decode cX8_countAlike 62 = .ok (.iload 4, 2) := by decide +kernel
theorem dX8_countAlike_64 : decode cX8_countAlike 64 = .ok (.ireturn, 1) := by decide +kernel
theorem dX9_init_0 : decode cX9_init 0 = .ok (.aload_n 0, 1) := by decide +kernel
theorem dX9_init_1 : decode cX9_init 1 = .ok (.invokespecial 1, 3) := by decide +kernel
theorem dX9_init_4 : decode cX9_init 4 = .ok (.aload_n 0, 1) := by decide +kernel
theorem dX9_init_5 : decode cX9_init 5 = .ok (.bipush 118, 2) := by decide +kernel
theorem dX9_init_7 : decode cX9_init 7 = .ok (.newarray .int, 2) := by decide +kernel
theorem dX9_init_9 : decode cX9_init 9 = .ok (.putfield 7, 3) := by decide +kernel
theorem dX9_init_12 : decode cX9_init 12 = .ok (.aload_n 0, 1) := by decide +kernel
theorem dX9_init_13 : decode cX9_init 13 = .ok (.sipush 236, 3) := by decide +kernel
theorem dX9_init_16 : decode cX9_init 16 = .ok (.newarray .int, 2) := by decide +kernel
theorem dX9_init_18 : decode cX9_init 18 = .ok (.putfield 13, 3) := by decide +kernel
theorem dX9_init_21 : decode cX9_init 21 = .ok (.aload_n 0, 1) := by decide +kernel
theorem dX9_init_22 : decode cX9_init 22 = .ok (.iconst 2, 1) := by decide +kernel
theorem dX9_init_23 : decode cX9_init 23 = .ok (.newarray .boolean, 2) := by decide +kernel
theorem dX9_init_25 : decode cX9_init 25 = .ok (.putfield 16, 3) := by decide +kernel
theorem dX9_init_28 : decode cX9_init 28 = .ok (.aload_n 0, 1) := by decide +kernel
theorem dX9_init_29 : decode cX9_init 29 = .ok (.iconst 3, 1) := by decide +kernel
theorem dX9_init_30 : decode cX9_init 30 = .ok (.newarray .int, 2) := by decide +kernel
theorem dX9_init_32 : decode cX9_init 32 = .ok (.putfield 20, 3) := by decide +kernel
theorem dX9_init_35 : decode cX9_init 35 = .ok (.aload_n 0, 1) := by decide +kernel
theorem dX9_init_36 : decode cX9_init 36 = .ok (.lconst 1, 1) := by decide +kernel
theorem dX9_init_37 : decode cX9_init 37 = .ok (.putfield 23, 3) := by decide +kernel
theorem dX9_init_40 : decode cX9_init 40 = .ok (.aload_n 0, 1) := by decide +kernel
theorem dX9_init_41 : decode cX9_init 41 = .ok (.bipush 54, 2) := by decide +kernel
theorem dX9_init_43 : decode cX9_init 43 = .ok (.newarray .int, 2) := by decide +kernel
theorem dX9_init_45 : decode cX9_init 45 = .ok (.putfield 27, 3) := by decide +kernel
theorem dX9_init_48 : decode cX9_init 48 = .ok (.aload_n 0, 1) := by decide +kernel
theorem dX9_init_49 : decode cX9_init 49 = .ok (.bipush 7, 2) := by decide +kernel
theorem dX9_init_51 : decode cX9_init 51 = .ok (.newarray .int, 2) := by decide +kernel
theorem dX9_init_53 : decode cX9_init 53 = .ok (.putfield 30, 3) := by decide +kernel
theorem dX9_init_56 : decode cX9_init 56 = .ok (.aload_n 0, 1) := by decide +kernel
theorem dX9_init_57 : decode cX9_init 57 = .ok (.bipush 100, 2) := by decide +kernel
theorem dX9_init_59 : decode cX9_init 59 = .ok (.newarray .int, 2) := by decide +kernel
theorem dX9_init_61 : decode cX9_init 61 = .ok (.putfield 33, 3) := by decide +kernel
theorem dX9_init_64 : decode cX9_init 64 = .ok (.aload_n 0, 1) := by decide +kernel
theorem dX9_init_65 : decode cX9_init 65 = .ok (.bipush 100, 2) := by decide +kernel
theorem dX9_init_67 : decode cX9_init 67 = .ok (.newarray .int, 2) := by decide +kernel
theorem dX9_init_69 : decode cX9_init 69 = .ok (.putfield 36, 3) := by decide +kernel
theorem dX9_init_72 : decode cX9_init 72 = .ok (.aload_n 0, 1) := by decide +kernel
theorem dX9_init_73 : decode cX9_init 73 = .ok (.sipush 150, 3) := by decide +kernel
theorem dX9_init_76 : decode cX9_init 76 = .ok (.newarray .int, 2) := by decide +kernel
theorem dX9_init_78 : decode cX9_init 78 = .ok (.putfield 39, 3) := by decide +kernel
theorem dX9_init_81 : decode cX9_init 81 = .ok (.aload_n 0, 1) := by decide +kernel
theorem dX9_init_82 : decode cX9_init 82 = .ok (.bipush 78, 2) := by decide +kernel
theorem dX9_init_84 : decode cX9_init 84 = .ok (.newarray .int, 2) := by decide +kernel
theorem dX9_init_86 : decode cX9_init 86 = .ok (.putfield 42, 3) := by decide +kernel
theorem dX9_init_89 : decode cX9_init 89 = .ok (.aload_n 0, 1) := by decide +kernel
theorem dX9_init_90 : decode cX9_init 90 = .ok (.iconst 4, 1) := by decide +kernel
theorem dX9_init_91 : decode cX9_init 91 = .ok (.newarray .int, 2) := by decide +kernel
theorem dX9_init_93 : decode cX9_init 93 = .ok (.putfield 45, 3) := by decide +kernel
theorem dX9_init_96 : decode cX9_init 96 = .ok (.aload_n 0, 1) := by decide +kernel
theorem dX9_init_97 : decode cX9_init 97 = .ok (.getfield 7, 3) := by decide +kernel
theorem dX9_init_100 : decode cX9_init 100 = .ok (.iconst 4, 1) := by decide +kernel
theorem dX9_init_101 : decode cX9_init 101 = .ok (.invokestatic 48, 3) := by decide +kernel
theorem dX9_init_104 : decode cX9_init 104 = .ok (.return_, 1) := by decide +kernel
theorem dX9_in_0 : decode cX9_in 0 = .ok (.lload_n 0, 1) := by decide +kernel
theorem dX9_in_1 : decode cX9_in 1 = .ok (.lload_n 2, 1) := by decide +kernel
theorem dX9_in_2 : decode cX9_in 2 = .ok (.lcmp, 1) := by decide +kernel
theorem dX9_in_3 : decode cX9_in 3 = .ok (.ifCond .lt 14, 3) := by decide +kernel
theorem dX9_in_6 : decode cX9_in 6 = .ok (.lload_n 0, 1) := by decide +kernel
theorem dX9_in_7 : decode cX9_in 7 = .ok (.lload 4, 2) := by decide +kernel
theorem dX9_in_9 : decode cX9_in 9 = .ok (.lcmp, 1) := by decide +kernel
theorem dX9_in_10 : decode cX9_in 10 = .ok (.ifCond .gt 7, 3) := by decide +kernel
theorem dX9_in_13 : decode cX9_in 13 = .ok (.iconst 1, 1) := by decide +kernel
theorem dX9_in_14 : decode cX9_in 14 = .ok (.goto 4, 3) := by decide +kernel
theorem dX9_in_17 : decode cX9_in 17 = .ok (.iconst 0, 1) := by decide +kernel
theorem dX9_in_18 : decode cX9_in 18 = .ok (.ireturn, 1) := by decide +kernel
theorem dX9_bad_0 : decode cX9_bad 0 = .ok (.aload_n 0, 1) := by decide +kernel
theorem dX9_bad_1 : decode cX9_bad 1 = .ok (.getfield 20, 3) := by decide +kernel
theorem dX9_bad_4 : decode cX9_bad 4 = .ok (.iconst 0, 1) := by decide +kernel
theorem dX9_bad_5 : decode cX9_bad 5 = .ok (.dup2, 1) := by decide +kernel
theorem dX9_bad_6 : decode cX9_bad 6 = .ok (.iaload, 1) := by decide +kernel
theorem dX9_bad_7 : decode cX9_bad 7 = .ok (.iconst 1, 1) := by decide +kernel
theorem dX9_bad_8 : decode cX9_bad 8 = .ok (.iadd, 1) := by decide +kernel
theorem dX9_bad_9 : decode cX9_bad 9 = .ok (.iastore, 1) := by decide +kernel
theorem dX9_bad_10 : decode cX9_bad 10 = .ok (.iload_n 1, 1) := by decide +kernel
theorem dX9_bad_11 : decode cX9_bad 11 = .ok (.ireturn, 1) := by decide +kernel
theorem dX9_no_0 : decode cX9_no 0 = .ok (.aload_n 0, 1) := by decide +kernel
theorem dX9_no_1 : decode cX9_no 1 = .ok (.getfield 20, 3) := by decide +kernel
theorem dX9_no_4 : decode cX9_no 4 = .ok (.iconst 1, 1) := by decide +kernel
theorem dX9_no_5 : decode cX9_no 5 = .ok (.dup2, 1) := by decide +kernel
theorem dX9_no_6 : decode cX9_no 6 = .ok (.iaload, 1) := by decide +kernel
theorem dX9_no_7 : decode cX9_no 7 = .ok (.iconst 1, 1) := by decide +kernel
theorem dX9_no_8 : decode cX9_no 8 = .ok (.iadd, 1) := by decide +kernel
theorem dX9_no_9 : decode cX9_no 9 = .ok (.iastore, 1) := by decide +kernel
theorem dX9_no_10 : decode cX9_no 10 = .ok (.bipush (-3), 2) := by decide +kernel
theorem dX9_no_12 : decode cX9_no 12 = .ok (.ireturn, 1) := by decide +kernel
theorem dX9_full_0 : decode cX9_full 0 = .ok (.aload_n 0, 1) := by decide +kernel
theorem dX9_full_1 : decode cX9_full 1 = .ok (.getfield 20, 3) := by decide +kernel
theorem dX9_full_4 : decode cX9_full 4 = .ok (.iconst 2, 1) := by decide +kernel
theorem dX9_full_5 : decode cX9_full 5 = .ok (.dup2, 1) := by decide +kernel
theorem dX9_full_6 : decode cX9_full 6 = .ok (.iaload, 1) := by decide +kernel
theorem dX9_full_7 : decode cX9_full 7 = .ok (.iconst 1, 1) := by decide +kernel
theorem dX9_full_8 : decode cX9_full 8 = .ok (.iadd, 1) := by decide +kernel
theorem dX9_full_9 : decode cX9_full 9 = .ok (.iastore, 1) := by decide +kernel
theorem dX9_full_10 : decode cX9_full 10 = .ok (.bipush (-4), 2) := by decide +kernel
theorem dX9_full_12 : decode cX9_full 12 = .ok (.ireturn, 1) := by decide +kernel
theorem dX9_bits_0 : decode cX9_bits 0 = .ok (.iconst 0, 1) := by decide +kernel
theorem dX9_bits_1 : decode cX9_bits 1 = .ok (.istore_n 1, 1) := by decide +kernel
theorem dX9_bits_2 : decode cX9_bits 2 = .ok (.iload_n 0, 1) := by decide +kernel
theorem dX9_bits_3 : decode cX9_bits 3 = .ok (.istore_n 2, 1) := by decide +kernel
theorem dX9_bits_4 : decode cX9_bits 4 = .ok (.iload_n 2, 1) := by decide +kernel
theorem dX9_bits_5 : decode cX9_bits 5 = .ok (.ifCond .le 16, 3) := by decide +kernel
theorem dX9_bits_8 : decode cX9_bits 8 = .ok (.iload_n 1, 1) := by decide +kernel
theorem dX9_bits_9 : decode cX9_bits 9 = .ok (.iload_n 2, 1) := by decide +kernel
theorem dX9_bits_10 : decode cX9_bits 10 = .ok (.iconst 1, 1) := by decide +kernel
theorem dX9_bits_11 : decode cX9_bits 11 = .ok (.iand, 1) := by decide +kernel
theorem dX9_bits_12 : decode cX9_bits 12 = .ok (.iadd, 1) := by decide +kernel
theorem dX9_bits_13 : decode cX9_bits 13 = .ok (.istore_n 1, 1) := by decide +kernel
theorem dX9_bits_14 : decode cX9_bits 14 = .ok (.iload_n 2, 1) := by decide +kernel
theorem dX9_bits_15 : decode cX9_bits 15 = .ok (.iconst 1, 1) := by decide +kernel
theorem dX9_bits_16 : decode cX9_bits 16 = .ok (.ishr, 1) := by decide +kernel
theorem dX9_bits_17 : decode cX9_bits 17 = .ok (.istore_n 2, 1) := by decide +kernel
theorem dX9_bits_18 : decode cX9_bits 18 = .ok (.goto (-14), 3) := by decide +kernel
theorem dX9_bits_21 : decode cX9_bits 21 = .ok (.iload_n 1, 1) := by decide +kernel
theorem dX9_bits_22 : decode cX9_bits 22 = .ok (.ireturn, 1) := by decide +kernel
theorem dX9_has_0 : decode cX9_has 0 = .ok (.iload_n 0, 1) := by decide +kernel
theorem dX9_has_1 : decode cX9_has 1 = .ok (.iload_n 1, 1) := by decide +kernel
theorem dX9_has_2 : decode cX9_has 2 = .ok (.ishr, 1) := by decide +kernel
theorem dX9_has_3 : decode cX9_has 3 = .ok (.iconst 1, 1) := by decide +kernel
theorem dX9_has_4 : decode cX9_has 4 = .ok (.iand, 1) := by decide +kernel
theorem dX9_has_5 : decode cX9_has 5 = .ok (.iconst 1, 1) := by decide +kernel
theorem dX9_has_6 : decode cX9_has 6 = .ok (.if_icmp .ne 7, 3) := by decide +kernel
theorem dX9_has_9 : decode cX9_has 9 = .ok (.iconst 1, 1) := by decide +kernel
theorem dX9_has_10 : decode cX9_has 10 = .ok (.goto 4, 3) := by decide +kernel
theorem dX9_has_13 : decode cX9_has 13 = .ok (.iconst 0, 1) := by decide +kernel
theorem dX9_has_14 : decode cX9_has 14 = .ok (.ireturn, 1) := by decide +kernel
theorem dX9_begin_0 : decode cX9_begin 0 = .ok (.iconst 0, 1) := by decide +kernel
theorem dX9_begin_1 : decode cX9_begin 1 = .ok (.istore_n 2, 1) := by decide +kernel
theorem dX9_begin_2 : decode cX9_begin 2 = .ok (.iload_n 2, 1) := by decide +kernel
theorem dX9_begin_3 : decode cX9_begin 3 = .ok (.bipush 78, 2) := by decide +kernel
theorem dX9_begin_5 : decode cX9_begin 5 = .ok (.if_icmp .ge 13, 3) := by decide +kernel
theorem dX9_begin_8 : decode cX9_begin 8 = .ok (.aload_n 0, 1) := by decide +kernel
theorem dX9_begin_9 : decode cX9_begin 9 = .ok (.iload_n 2, 1) := by decide +kernel
theorem dX9_begin_10 : decode cX9_begin 10 = .ok (.iconst 0, 1) := by decide +kernel
theorem dX9_begin_11 : decode cX9_begin 11 = .ok (.iastore, 1) := by decide +kernel
theorem dX9_begin_12 : decode cX9_begin 12 = .ok (.iinc 2 1, 3) := by decide +kernel
theorem dX9_begin_15 : decode cX9_begin 15 = .ok (.goto (-13), 3) := by decide +kernel
theorem dX9_begin_18 : decode cX9_begin 18 = .ok (.aload_n 0, 1) := by decide +kernel
theorem dX9_begin_19 : decode cX9_begin 19 = .ok (.bipush 8, 2) := by decide +kernel
theorem dX9_begin_21 : decode cX9_begin 21 = .ok (.iload_n 1, 1) := by decide +kernel
theorem dX9_begin_22 : decode cX9_begin 22 = .ok (.iastore, 1) := by decide +kernel
theorem dX9_begin_23 : decode cX9_begin 23 = .ok (.return_, 1) := by decide +kernel
theorem dX9_many_0 : decode cX9_many 0 = .ok (.aload_n 0, 1) := by decide +kernel
theorem dX9_many_1 : decode cX9_many 1 = .ok (.getfield 7, 3) := by decide +kernel
theorem dX9_many_4 : decode cX9_many 4 = .ok (.iconst 0, 1) := by decide +kernel
theorem dX9_many_5 : decode cX9_many 5 = .ok (.iaload, 1) := by decide +kernel
theorem dX9_many_6 : decode cX9_many 6 = .ok (.ireturn, 1) := by decide +kernel
theorem dX9_isIdea_0 : decode cX9_isIdea 0 = .ok (.iload_n 1, 1) := by decide +kernel
theorem dX9_isIdea_1 : decode cX9_isIdea 1 = .ok (.i2l, 1) := by decide +kernel
theorem dX9_isIdea_2 : decode cX9_isIdea 2 = .ok (.lconst 0, 1) := by decide +kernel
theorem dX9_isIdea_3 : decode cX9_isIdea 3 = .ok (.aload_n 0, 1) := by decide +kernel
theorem dX9_isIdea_4 : decode cX9_isIdea 4 = .ok (.invokevirtual 52, 3) := by decide +kernel
theorem dX9_isIdea_7 : decode cX9_isIdea 7 = .ok (.iconst 1, 1) := by decide +kernel
theorem dX9_isIdea_8 : decode cX9_isIdea 8 = .ok (.isub, 1) := by decide +kernel
theorem dX9_isIdea_9 : decode cX9_isIdea 9 = .ok (.i2l, 1) := by decide +kernel
theorem dX9_isIdea_10 : decode cX9_isIdea 10 = .ok (.invokestatic 56, 3) := by decide +kernel
theorem dX9_isIdea_13 : decode cX9_isIdea 13 = .ok (.ireturn, 1) := by decide +kernel
theorem dX9_isStop_0 : decode cX9_isStop 0 = .ok (.iload_n 0, 1) := by decide +kernel
theorem dX9_isStop_1 : decode cX9_isStop 1 = .ok (.i2l, 1) := by decide +kernel
theorem dX9_isStop_2 : decode cX9_isStop 2 = .ok (.lconst 0, 1) := by decide +kernel
theorem dX9_isStop_3 : decode cX9_isStop 3 = .ok (.ldc2_w 60, 3) := by decide +kernel
theorem dX9_isStop_6 : decode cX9_isStop 6 = .ok (.invokestatic 56, 3) := by decide +kernel
theorem dX9_isStop_9 : decode cX9_isStop 9 = .ok (.ireturn, 1) := by decide +kernel
theorem dX9_bus_0 : decode cX9_bus 0 = .ok (.iload_n 1, 1) := by decide +kernel
theorem dX9_bus_1 : decode cX9_bus 1 = .ok (.i2l, 1) := by decide +kernel
theorem dX9_bus_2 : decode cX9_bus 2 = .ok (.lconst 1, 1) := by decide +kernel
theorem dX9_bus_3 : decode cX9_bus 3 = .ok (.ldc2_w 62, 3) := by decide +kernel
theorem dX9_bus_6 : decode cX9_bus 6 = .ok (.invokestatic 56, 3) := by decide +kernel
theorem dX9_bus_9 : decode cX9_bus 9 = .ok (.ifCond .ne 10, 3) := by decide +kernel
theorem dX9_bus_12 : decode cX9_bus 12 = .ok (.aload_n 0, 1) := by decide +kernel
theorem dX9_bus_13 : decode cX9_bus 13 = .ok (.bipush (-2), 2) := by decide +kernel
theorem dX9_bus_15 : decode cX9_bus 15 = .ok (.invokevirtual 64, 3) := by decide +kernel
theorem dX9_bus_18 : decode cX9_bus 18 = .ok (.ireturn, 1) := by decide +kernel
theorem dX9_bus_19 : decode cX9_bus 19 = .ok (.aload_n 0, 1) := by decide +kernel
theorem dX9_bus_20 : decode cX9_bus 20 = .ok (.invokevirtual 52, 3) := by decide +kernel
theorem dX9_bus_23 : decode cX9_bus 23 = .ok (.istore_n 2, 1) := by decide +kernel
theorem dX9_bus_24 : decode cX9_bus 24 = .ok (.aload_n 0, 1) := by decide +kernel
theorem dX9_bus_25 : decode cX9_bus 25 = .ok (.getfield 7, 3) := by decide +kernel
theorem dX9_bus_28 : decode cX9_bus 28 = .ok (.iload_n 1, 1) := by decide +kernel
theorem dX9_bus_29 : decode cX9_bus 29 = .ok (.invokestatic 48, 3) := by decide +kernel
theorem dX9_bus_32 : decode cX9_bus 32 = .ok (.iload_n 2, 1) := by decide +kernel
theorem dX9_bus_33 : decode cX9_bus 33 = .ok (.ireturn, 1) := by decide +kernel
theorem dX9_room_0 : decode cX9_room 0 = .ok (.iload_n 1, 1) := by decide +kernel
theorem dX9_room_1 : decode cX9_room 1 = .ok (.i2l, 1) := by decide +kernel
theorem dX9_room_2 : decode cX9_room 2 = .ok (.lconst 1, 1) := by decide +kernel
theorem dX9_room_3 : decode cX9_room 3 = .ok (.ldc2_w 62, 3) := by decide +kernel
theorem dX9_room_6 : decode cX9_room 6 = .ok (.invokestatic 56, 3) := by decide +kernel
theorem dX9_room_9 : decode cX9_room 9 = .ok (.ifCond .ne 10, 3) := by decide +kernel
theorem dX9_room_12 : decode cX9_room 12 = .ok (.aload_n 0, 1) := by decide +kernel
theorem dX9_room_13 : decode cX9_room 13 = .ok (.bipush (-2), 2) := by decide +kernel
theorem dX9_room_15 : decode cX9_room 15 = .ok (.invokevirtual 64, 3) := by decide +kernel
theorem dX9_room_18 : decode cX9_room 18 = .ok (.ireturn, 1) := by decide +kernel
theorem dX9_room_19 : decode cX9_room 19 = .ok (.aload_n 0, 1) := by decide +kernel
theorem dX9_room_20 : decode cX9_room 20 = .ok (.getfield 7, 3) := by decide +kernel
theorem dX9_room_23 : decode cX9_room 23 = .ok (.bipush 8, 2) := by decide +kernel
theorem dX9_room_25 : decode cX9_room 25 = .ok (.iaload, 1) := by decide +kernel
theorem dX9_room_26 : decode cX9_room 26 = .ok (.istore_n 2, 1) := by decide +kernel
theorem dX9_room_27 : decode cX9_room 27 = .ok (.aload_n 0, 1) := by decide +kernel
theorem dX9_room_28 : decode cX9_room 28 = .ok (.getfield 7, 3) := by decide +kernel
theorem dX9_room_31 : decode cX9_room 31 = .ok (.bipush 8, 2) := by decide +kernel
theorem dX9_room_33 : decode cX9_room 33 = .ok (.iload_n 1, 1) := by decide +kernel
theorem dX9_room_34 : decode cX9_room 34 = .ok (.iastore, 1) := by decide +kernel
theorem dX9_room_35 : decode cX9_room 35 = .ok (.aload_n 0, 1) := by decide +kernel
theorem dX9_room_36 : decode cX9_room 36 = .ok (.getfield 7, 3) := by decide +kernel
theorem dX9_room_39 : decode cX9_room 39 = .ok (.iconst 2, 1) := by decide +kernel
theorem dX9_room_40 : decode cX9_room 40 = .ok (.iconst 0, 1) := by decide +kernel
theorem dX9_room_41 : decode cX9_room 41 = .ok (.iastore, 1) := by decide +kernel
theorem dX9_room_42 : decode cX9_room 42 = .ok (.iload_n 2, 1) := by decide +kernel
theorem dX9_room_43 : decode cX9_room 43 = .ok (.ireturn, 1) := by decide +kernel
theorem dX9_bridge_0 : decode cX9_bridge 0 = .ok (.iload_n 1, 1) := by decide +kernel
theorem dX9_bridge_1 : decode cX9_bridge 1 = .ok (.invokestatic 68, 3) := by decide +kernel
theorem dX9_bridge_4 : decode cX9_bridge 4 = .ok (.ifCond .eq 15, 3) := by decide +kernel
theorem dX9_bridge_7 : decode cX9_bridge 7 = .ok (.iload_n 2, 1) := by decide +kernel
theorem dX9_bridge_8 : decode cX9_bridge 8 = .ok (.i2l, 1) := by decide +kernel
theorem dX9_bridge_9 : decode cX9_bridge 9 = .ok (.lconst 0, 1) := by decide +kernel
theorem dX9_bridge_10 : decode cX9_bridge 10 = .ok (.ldc2_w 60, 3) := by decide +kernel
theorem dX9_bridge_13 : decode cX9_bridge 13 = .ok (.invokestatic 56, 3) := by decide +kernel
theorem dX9_bridge_16 : decode cX9_bridge 16 = .ok (.ifCond .ne 10, 3) := by decide +kernel
theorem dX9_bridge_19 : decode cX9_bridge 19 = .ok (.aload_n 0, 1) := by decide +kernel
theorem dX9_bridge_20 : decode cX9_bridge 20 = .ok (.bipush (-2), 2) := by decide +kernel
theorem dX9_bridge_22 : decode cX9_bridge 22 = .ok (.invokevirtual 64, 3) := by decide +kernel
theorem dX9_bridge_25 : decode cX9_bridge 25 = .ok (.ireturn, 1) := by decide +kernel
theorem dX9_bridge_26 : decode cX9_bridge 26 = .ok (.aload_n 0, 1) := by decide +kernel
theorem dX9_bridge_27 : decode cX9_bridge 27 = .ok (.getfield 7, 3) := by decide +kernel
theorem dX9_bridge_30 : decode cX9_bridge 30 = .ok (.bipush 9, 2) := by decide +kernel
theorem dX9_bridge_32 : decode cX9_bridge 32 = .ok (.iload_n 1, 1) := by decide +kernel
theorem dX9_bridge_33 : decode cX9_bridge 33 = .ok (.iadd, 1) := by decide +kernel
theorem dX9_bridge_34 : decode cX9_bridge 34 = .ok (.iaload, 1) := by decide +kernel
theorem dX9_bridge_35 : decode cX9_bridge 35 = .ok (.istore_n 3, 1) := by decide +kernel
theorem dX9_bridge_36 : decode cX9_bridge 36 = .ok (.aload_n 0, 1) := by decide +kernel
theorem dX9_bridge_37 : decode cX9_bridge 37 = .ok (.getfield 7, 3) := by decide +kernel
theorem dX9_bridge_40 : decode cX9_bridge 40 = .ok (.bipush 9, 2) := by decide +kernel
theorem dX9_bridge_42 : decode cX9_bridge 42 = .ok (.iload_n 1, 1) := by decide +kernel
theorem dX9_bridge_43 : decode cX9_bridge 43 = .ok (.iadd, 1) := by decide +kernel
theorem dX9_bridge_44 : decode cX9_bridge 44 = .ok (.iload_n 2, 1) := by decide +kernel
theorem dX9_bridge_45 : decode cX9_bridge 45 = .ok (.iastore, 1) := by decide +kernel
theorem dX9_bridge_46 : decode cX9_bridge 46 = .ok (.aload_n 0, 1) := by decide +kernel
theorem dX9_bridge_47 : decode cX9_bridge 47 = .ok (.getfield 7, 3) := by decide +kernel
theorem dX9_bridge_50 : decode cX9_bridge 50 = .ok (.iconst 2, 1) := by decide +kernel
theorem dX9_bridge_51 : decode cX9_bridge 51 = .ok (.iconst 0, 1) := by decide +kernel
theorem dX9_bridge_52 : decode cX9_bridge 52 = .ok (.iastore, 1) := by decide +kernel
theorem dX9_bridge_53 : decode cX9_bridge 53 = .ok (.iload_n 3, 1) := by decide +kernel
theorem dX9_bridge_54 : decode cX9_bridge 54 = .ok (.ireturn, 1) := by decide +kernel
theorem dX9_layIdea_0 : decode cX9_layIdea 0 = .ok (.aload_n 0, 1) := by decide +kernel
theorem dX9_layIdea_1 : decode cX9_layIdea 1 = .ok (.iconst 0, 1) := by decide +kernel
theorem dX9_layIdea_2 : decode cX9_layIdea 2 = .ok (.iaload, 1) := by decide +kernel
theorem dX9_layIdea_3 : decode cX9_layIdea 3 = .ok (.istore 5, 2) := by decide +kernel
theorem dX9_layIdea_5 : decode cX9_layIdea 5 = .ok (.aload_n 0, 1) := by decide +kernel
theorem dX9_layIdea_6 : decode cX9_layIdea 6 = .ok (.bipush 19, 2) := by decide +kernel
theorem dX9_layIdea_8 : decode cX9_layIdea 8 = .ok (.iload 5, 2) := by decide +kernel
theorem dX9_layIdea_10 : decode cX9_layIdea 10 = .ok (.iadd, 1) := by decide +kernel
theorem dX9_layIdea_11 : decode cX9_layIdea 11 = .ok (.iload_n 1, 1) := by decide +kernel
theorem dX9_layIdea_12 : decode cX9_layIdea 12 = .ok (.iastore, 1) := by decide +kernel
theorem dX9_layIdea_13 : decode cX9_layIdea 13 = .ok (.aload_n 0, 1) := by decide +kernel
theorem dX9_layIdea_14 : decode cX9_layIdea 14 = .ok (.bipush 26, 2) := by decide +kernel
theorem dX9_layIdea_16 : decode cX9_layIdea 16 = .ok (.iload 5, 2) := by decide +kernel
theorem dX9_layIdea_18 : decode cX9_layIdea 18 = .ok (.iadd, 1) := by decide +kernel
theorem dX9_layIdea_19 : decode cX9_layIdea 19 = .ok (.iload_n 2, 1) := by decide +kernel
theorem dX9_layIdea_20 : decode cX9_layIdea 20 = .ok (.iastore, 1) := by decide +kernel
theorem dX9_layIdea_21 : decode cX9_layIdea 21 = .ok (.aload_n 0, 1) := by decide +kernel
theorem dX9_layIdea_22 : decode cX9_layIdea 22 = .ok (.bipush 33, 2) := by decide +kernel
theorem dX9_layIdea_24 : decode cX9_layIdea 24 = .ok (.iload 5, 2) := by decide +kernel
theorem dX9_layIdea_26 : decode cX9_layIdea 26 = .ok (.iadd, 1) := by decide +kernel
theorem dX9_layIdea_27 : decode cX9_layIdea 27 = .ok (.iload_n 3, 1) := by decide +kernel
theorem dX9_layIdea_28 : decode cX9_layIdea 28 = .ok (.iastore, 1) := by decide +kernel
theorem dX9_layIdea_29 : decode cX9_layIdea 29 = .ok (.aload_n 0, 1) := by decide +kernel
theorem dX9_layIdea_30 : decode cX9_layIdea 30 = .ok (.bipush 40, 2) := by decide +kernel
theorem dX9_layIdea_32 : decode cX9_layIdea 32 = .ok (.iload 5, 2) := by decide +kernel
theorem dX9_layIdea_34 : decode cX9_layIdea 34 = .ok (.iadd, 1) := by decide +kernel
theorem dX9_layIdea_35 : decode cX9_layIdea 35 = .ok (.iload 4, 2) := by decide +kernel
theorem dX9_layIdea_37 : decode cX9_layIdea 37 = .ok (.iastore, 1) := by decide +kernel
theorem dX9_layIdea_38 : decode cX9_layIdea 38 = .ok (.aload_n 0, 1) := by decide +kernel
theorem dX9_layIdea_39 : decode cX9_layIdea 39 = .ok (.bipush 47, 2) := by decide +kernel
theorem dX9_layIdea_41 : decode cX9_layIdea 41 = .ok (.iload 5, 2) := by decide +kernel
theorem dX9_layIdea_43 : decode cX9_layIdea 43 = .ok (.iadd, 1) := by decide +kernel
theorem dX9_layIdea_44 : decode cX9_layIdea 44 = .ok (.iconst 0, 1) := by decide +kernel
theorem dX9_layIdea_45 : decode cX9_layIdea 45 = .ok (.iastore, 1) := by decide +kernel
theorem dX9_layIdea_46 : decode cX9_layIdea 46 = .ok (.aload_n 0, 1) := by decide +kernel
theorem dX9_layIdea_47 : decode cX9_layIdea 47 = .ok (.iconst 0, 1) := by decide +kernel
theorem dX9_layIdea_48 : decode cX9_layIdea 48 = .ok (.dup2, 1) := by decide +kernel
theorem dX9_layIdea_49 : decode cX9_layIdea 49 = .ok (.iaload, 1) := by decide +kernel
theorem dX9_layIdea_50 : decode cX9_layIdea 50 = .ok (.iconst 1, 1) := by decide +kernel
theorem dX9_layIdea_51 : decode cX9_layIdea 51 = .ok (.iadd, 1) := by decide +kernel
theorem dX9_layIdea_52 : decode cX9_layIdea 52 = .ok (.iastore, 1) := by decide +kernel
theorem dX9_layIdea_53 : decode cX9_layIdea 53 = .ok (.return_, 1) := by decide +kernel
theorem dX9_idea_0 : decode cX9_idea 0 = .ok (.iload_n 1, 1) := by decide +kernel
theorem dX9_idea_1 : decode cX9_idea 1 = .ok (.i2l, 1) := by decide +kernel
theorem dX9_idea_2 : decode cX9_idea 2 = .ok (.lconst 0, 1) := by decide +kernel
theorem dX9_idea_3 : decode cX9_idea 3 = .ok (.ldc2_w 72, 3) := by decide +kernel
theorem dX9_idea_6 : decode cX9_idea 6 = .ok (.invokestatic 56, 3) := by decide +kernel
theorem dX9_idea_9 : decode cX9_idea 9 = .ok (.ifCond .eq 43, 3) := by decide +kernel
theorem dX9_idea_12 : decode cX9_idea 12 = .ok (.iload_n 2, 1) := by decide +kernel
theorem dX9_idea_13 : decode cX9_idea 13 = .ok (.i2l, 1) := by decide +kernel
theorem dX9_idea_14 : decode cX9_idea 14 = .ok (.lconst 1, 1) := by decide +kernel
theorem dX9_idea_15 : decode cX9_idea 15 = .ok (.ldc2_w 60, 3) := by decide +kernel
theorem dX9_idea_18 : decode cX9_idea 18 = .ok (.invokestatic 56, 3) := by decide +kernel
theorem dX9_idea_21 : decode cX9_idea 21 = .ok (.ifCond .eq 31, 3) := by decide +kernel
theorem dX9_idea_24 : decode cX9_idea 24 = .ok (.iload_n 3, 1) := by decide +kernel
theorem dX9_idea_25 : decode cX9_idea 25 = .ok (.i2l, 1) := by decide +kernel
theorem dX9_idea_26 : decode cX9_idea 26 = .ok (.lconst 0, 1) := by decide +kernel
theorem dX9_idea_27 : decode cX9_idea 27 = .ok (.ldc2_w 74, 3) := by decide +kernel
theorem dX9_idea_30 : decode cX9_idea 30 = .ok (.invokestatic 56, 3) := by decide +kernel
theorem dX9_idea_33 : decode cX9_idea 33 = .ok (.ifCond .eq 19, 3) := by decide +kernel
theorem dX9_idea_36 : decode cX9_idea 36 = .ok (.iload 4, 2) := by decide +kernel
theorem dX9_idea_38 : decode cX9_idea 38 = .ok (.i2l, 1) := by decide +kernel
theorem dX9_idea_39 : decode cX9_idea 39 = .ok (.iload_n 3, 1) := by decide +kernel
theorem dX9_idea_40 : decode cX9_idea 40 = .ok (.i2l, 1) := by decide +kernel
theorem dX9_idea_41 : decode cX9_idea 41 = .ok (.lconst 1, 1) := by decide +kernel
theorem dX9_idea_42 : decode cX9_idea 42 = .ok (.ladd, 1) := by decide +kernel
theorem dX9_idea_43 : decode cX9_idea 43 = .ok (.ldc2_w 60, 3) := by decide +kernel
theorem dX9_idea_46 : decode cX9_idea 46 = .ok (.invokestatic 56, 3) := by decide +kernel
theorem dX9_idea_49 : decode cX9_idea 49 = .ok (.ifCond .ne 10, 3) := by decide +kernel
theorem dX9_idea_52 : decode cX9_idea 52 = .ok (.aload_n 0, 1) := by decide +kernel
theorem dX9_idea_53 : decode cX9_idea 53 = .ok (.bipush (-2), 2) := by decide +kernel
theorem dX9_idea_55 : decode cX9_idea 55 = .ok (.invokevirtual 64, 3) := by decide +kernel
theorem dX9_idea_58 : decode cX9_idea 58 = .ok (.ireturn, 1) := by decide +kernel
theorem dX9_idea_59 : decode cX9_idea 59 = .ok (.aload_n 0, 1) := by decide +kernel
theorem dX9_idea_60 : decode cX9_idea 60 = .ok (.invokevirtual 52, 3) := by decide +kernel
theorem dX9_idea_63 : decode cX9_idea 63 = .ok (.bipush 7, 2) := by decide +kernel
theorem dX9_idea_65 : decode cX9_idea 65 = .ok (.if_icmp .ne 8, 3) := by decide +kernel
theorem dX9_idea_68 : decode cX9_idea 68 = .ok (.aload_n 0, 1) := by decide +kernel
theorem dX9_idea_69 : decode cX9_idea 69 = .ok (.invokevirtual 76, 3) := by decide +kernel
theorem dX9_idea_72 : decode cX9_idea 72 = .ok (.ireturn, 1) := by decide +kernel
theorem dX9_idea_73 : decode cX9_idea 73 = .ok (.aload_n 0, 1) := by decide +kernel
theorem dX9_idea_74 : decode cX9_idea 74 = .ok (.getfield 7, 3) := by decide +kernel
theorem dX9_idea_77 : decode cX9_idea 77 = .ok (.iload_n 1, 1) := by decide +kernel
theorem dX9_idea_78 : decode cX9_idea 78 = .ok (.iload_n 2, 1) := by decide +kernel
theorem dX9_idea_79 : decode cX9_idea 79 = .ok (.iload_n 3, 1) := by decide +kernel
theorem dX9_idea_80 : decode cX9_idea 80 = .ok (.iload 4, 2) := by decide +kernel
theorem dX9_idea_82 : decode cX9_idea 82 = .ok (.invokestatic 79, 3) := by decide +kernel
theorem dX9_idea_85 : decode cX9_idea 85 = .ok (.aload_n 0, 1) := by decide +kernel
theorem dX9_idea_86 : decode cX9_idea 86 = .ok (.getfield 7, 3) := by decide +kernel
theorem dX9_idea_89 : decode cX9_idea 89 = .ok (.iconst 2, 1) := by decide +kernel
theorem dX9_idea_90 : decode cX9_idea 90 = .ok (.iconst 0, 1) := by decide +kernel
theorem dX9_idea_91 : decode cX9_idea 91 = .ok (.iastore, 1) := by decide +kernel
theorem dX9_idea_92 : decode cX9_idea 92 = .ok (.aload_n 0, 1) := by decide +kernel
theorem dX9_idea_93 : decode cX9_idea 93 = .ok (.invokevirtual 52, 3) := by decide +kernel
theorem dX9_idea_96 : decode cX9_idea 96 = .ok (.iconst 1, 1) := by decide +kernel
theorem dX9_idea_97 : decode cX9_idea 97 = .ok (.isub, 1) := by decide +kernel
theorem dX9_idea_98 : decode cX9_idea 98 = .ok (.ireturn, 1) := by decide +kernel
theorem dX9_layFoes_0 : decode cX9_layFoes 0 = .ok (.aload_n 0, 1) := by decide +kernel
theorem dX9_layFoes_1 : decode cX9_layFoes 1 = .ok (.bipush 47, 2) := by decide +kernel
theorem dX9_layFoes_3 : decode cX9_layFoes 3 = .ok (.iload_n 1, 1) := by decide +kernel
theorem dX9_layFoes_4 : decode cX9_layFoes 4 = .ok (.iadd, 1) := by decide +kernel
theorem dX9_layFoes_5 : decode cX9_layFoes 5 = .ok (.iload_n 3, 1) := by decide +kernel
theorem dX9_layFoes_6 : decode cX9_layFoes 6 = .ok (.ifCond .eq 16, 3) := by decide +kernel
theorem dX9_layFoes_9 : decode cX9_layFoes 9 = .ok (.aload_n 0, 1) := by decide +kernel
theorem dX9_layFoes_10 : decode cX9_layFoes 10 = .ok (.bipush 47, 2) := by decide +kernel
theorem dX9_layFoes_12 : decode cX9_layFoes 12 = .ok (.iload_n 1, 1) := by decide +kernel
theorem dX9_layFoes_13 : decode cX9_layFoes 13 = .ok (.iadd, 1) := by decide +kernel
theorem dX9_layFoes_14 : decode cX9_layFoes 14 = .ok (.iaload, 1) := by decide +kernel
theorem dX9_layFoes_15 : decode cX9_layFoes 15 = .ok (.iconst 1, 1) := by decide +kernel
theorem dX9_layFoes_16 : decode cX9_layFoes 16 = .ok (.iload_n 2, 1) := by decide +kernel
theorem dX9_layFoes_17 : decode cX9_layFoes 17 = .ok (.ishl, 1) := by decide +kernel
theorem dX9_layFoes_18 : decode cX9_layFoes 18 = .ok (.ior, 1) := by decide +kernel
theorem dX9_layFoes_19 : decode cX9_layFoes 19 = .ok (.goto 15, 3) := by decide +kernel
theorem dX9_layFoes_22 : decode cX9_layFoes 22 = .ok (.aload_n 0, 1) := by decide +kernel
theorem dX9_layFoes_23 : decode cX9_layFoes 23 = .ok (.bipush 47, 2) := by decide +kernel
theorem dX9_layFoes_25 : decode cX9_layFoes 25 = .ok (.iload_n 1, 1) := by decide +kernel
theorem dX9_layFoes_26 : decode cX9_layFoes 26 = .ok (.iadd, 1) := by decide +kernel
theorem dX9_layFoes_27 : decode cX9_layFoes 27 = .ok (.iaload, 1) := by decide +kernel
theorem dX9_layFoes_28 : decode cX9_layFoes 28 = .ok (.iconst 1, 1) := by decide +kernel
theorem dX9_layFoes_29 : decode cX9_layFoes 29 = .ok (.iload_n 2, 1) := by decide +kernel
theorem dX9_layFoes_30 : decode cX9_layFoes 30 = .ok (.ishl, 1) := by decide +kernel
theorem dX9_layFoes_31 : decode cX9_layFoes 31 = .ok (.iconst (-1), 1) := by decide +kernel
theorem dX9_layFoes_32 : decode cX9_layFoes 32 = .ok (.ixor, 1) := by decide +kernel
theorem dX9_layFoes_33 : decode cX9_layFoes 33 = .ok (.iand, 1) := by decide +kernel
theorem dX9_layFoes_34 : decode cX9_layFoes 34 = .ok (.iastore, 1) := by decide +kernel
theorem dX9_layFoes_35 : decode cX9_layFoes 35 = .ok (.aload_n 0, 1) := by decide +kernel
theorem dX9_layFoes_36 : decode cX9_layFoes 36 = .ok (.bipush 47, 2) := by decide +kernel
theorem dX9_layFoes_38 : decode cX9_layFoes 38 = .ok (.iload_n 2, 1) := by decide +kernel
theorem dX9_layFoes_39 : decode cX9_layFoes 39 = .ok (.iadd, 1) := by decide +kernel
theorem dX9_layFoes_40 : decode cX9_layFoes 40 = .ok (.iload_n 3, 1) := by decide +kernel
theorem dX9_layFoes_41 : decode cX9_layFoes 41 = .ok (.ifCond .eq 16, 3) := by decide +kernel
theorem dX9_layFoes_44 : decode cX9_layFoes 44 = .ok (.aload_n 0, 1) := by decide +kernel
theorem dX9_layFoes_45 : decode cX9_layFoes 45 = .ok (.bipush 47, 2) := by decide +kernel
theorem dX9_layFoes_47 : decode cX9_layFoes 47 = .ok (.iload_n 2, 1) := by decide +kernel
theorem dX9_layFoes_48 : decode cX9_layFoes 48 = .ok (.iadd, 1) := by decide +kernel
theorem dX9_layFoes_49 : decode cX9_layFoes 49 = .ok (.iaload, 1) := by decide +kernel
theorem dX9_layFoes_50 : decode cX9_layFoes 50 = .ok (.iconst 1, 1) := by decide +kernel
theorem dX9_layFoes_51 : decode cX9_layFoes 51 = .ok (.iload_n 1, 1) := by decide +kernel
theorem dX9_layFoes_52 : decode cX9_layFoes 52 = .ok (.ishl, 1) := by decide +kernel
theorem dX9_layFoes_53 : decode cX9_layFoes 53 = .ok (.ior, 1) := by decide +kernel
theorem dX9_layFoes_54 : decode cX9_layFoes 54 = .ok (.goto 15, 3) := by decide +kernel
theorem dX9_layFoes_57 : decode cX9_layFoes 57 = .ok (.aload_n 0, 1) := by decide +kernel
theorem dX9_layFoes_58 : decode cX9_layFoes 58 = .ok (.bipush 47, 2) := by decide +kernel
theorem dX9_layFoes_60 : decode cX9_layFoes 60 = .ok (.iload_n 2, 1) := by decide +kernel
theorem dX9_layFoes_61 : decode cX9_layFoes 61 = .ok (.iadd, 1) := by decide +kernel
theorem dX9_layFoes_62 : decode cX9_layFoes 62 = .ok (.iaload, 1) := by decide +kernel
theorem dX9_layFoes_63 : decode cX9_layFoes 63 = .ok (.iconst 1, 1) := by decide +kernel
theorem dX9_layFoes_64 : decode cX9_layFoes 64 = .ok (.iload_n 1, 1) := by decide +kernel
theorem dX9_layFoes_65 : decode cX9_layFoes 65 = .ok (.ishl, 1) := by decide +kernel
theorem dX9_layFoes_66 : decode cX9_layFoes 66 = .ok (.iconst (-1), 1) := by decide +kernel
theorem dX9_layFoes_67 : decode cX9_layFoes 67 = .ok (.ixor, 1) := by decide +kernel
theorem dX9_layFoes_68 : decode cX9_layFoes 68 = .ok (.iand, 1) := by decide +kernel
theorem dX9_layFoes_69 : decode cX9_layFoes 69 = .ok (.iastore, 1) := by decide +kernel
theorem dX9_layFoes_70 : decode cX9_layFoes 70 = .ok (.return_, 1) := by decide +kernel
theorem dX9_quarrel_0 : decode cX9_quarrel 0 = .ok (.aload_n 0, 1) := by decide +kernel
theorem dX9_quarrel_1 : decode cX9_quarrel 1 = .ok (.iload_n 1, 1) := by decide +kernel
theorem dX9_quarrel_2 : decode cX9_quarrel 2 = .ok (.invokevirtual 83, 3) := by decide +kernel
theorem dX9_quarrel_5 : decode cX9_quarrel 5 = .ok (.ifCond .eq 26, 3) := by decide +kernel
theorem dX9_quarrel_8 : decode cX9_quarrel 8 = .ok (.aload_n 0, 1) := by decide +kernel
theorem dX9_quarrel_9 : decode cX9_quarrel 9 = .ok (.iload_n 2, 1) := by decide +kernel
theorem dX9_quarrel_10 : decode cX9_quarrel 10 = .ok (.invokevirtual 83, 3) := by decide +kernel
theorem dX9_quarrel_13 : decode cX9_quarrel 13 = .ok (.ifCond .eq 18, 3) := by decide +kernel
theorem dX9_quarrel_16 : decode cX9_quarrel 16 = .ok (.iload_n 1, 1) := by decide +kernel
theorem dX9_quarrel_17 : decode cX9_quarrel 17 = .ok (.iload_n 2, 1) := by decide +kernel
theorem dX9_quarrel_18 : decode cX9_quarrel 18 = .ok (.if_icmp .eq 13, 3) := by decide +kernel
theorem dX9_quarrel_21 : decode cX9_quarrel 21 = .ok (.iload_n 3, 1) := by decide +kernel
theorem dX9_quarrel_22 : decode cX9_quarrel 22 = .ok (.i2l, 1) := by decide +kernel
theorem dX9_quarrel_23 : decode cX9_quarrel 23 = .ok (.lconst 0, 1) := by decide +kernel
theorem dX9_quarrel_24 : decode cX9_quarrel 24 = .ok (.lconst 1, 1) := by decide +kernel
theorem dX9_quarrel_25 : decode cX9_quarrel 25 = .ok (.invokestatic 56, 3) := by decide +kernel
theorem dX9_quarrel_28 : decode cX9_quarrel 28 = .ok (.ifCond .ne 10, 3) := by decide +kernel
theorem dX9_quarrel_31 : decode cX9_quarrel 31 = .ok (.aload_n 0, 1) := by decide +kernel
theorem dX9_quarrel_32 : decode cX9_quarrel 32 = .ok (.bipush (-2), 2) := by decide +kernel
theorem dX9_quarrel_34 : decode cX9_quarrel 34 = .ok (.invokevirtual 64, 3) := by decide +kernel
theorem dX9_quarrel_37 : decode cX9_quarrel 37 = .ok (.ireturn, 1) := by decide +kernel
theorem dX9_quarrel_38 : decode cX9_quarrel 38 = .ok (.aload_n 0, 1) := by decide +kernel
theorem dX9_quarrel_39 : decode cX9_quarrel 39 = .ok (.getfield 7, 3) := by decide +kernel
theorem dX9_quarrel_42 : decode cX9_quarrel 42 = .ok (.bipush 47, 2) := by decide +kernel
theorem dX9_quarrel_44 : decode cX9_quarrel 44 = .ok (.iload_n 1, 1) := by decide +kernel
theorem dX9_quarrel_45 : decode cX9_quarrel 45 = .ok (.iadd, 1) := by decide +kernel
theorem dX9_quarrel_46 : decode cX9_quarrel 46 = .ok (.iaload, 1) := by decide +kernel
theorem dX9_quarrel_47 : decode cX9_quarrel 47 = .ok (.iload_n 2, 1) := by decide +kernel
theorem dX9_quarrel_48 : decode cX9_quarrel 48 = .ok (.ishr, 1) := by decide +kernel
theorem dX9_quarrel_49 : decode cX9_quarrel 49 = .ok (.iconst 1, 1) := by decide +kernel
theorem dX9_quarrel_50 : decode cX9_quarrel 50 = .ok (.iand, 1) := by decide +kernel
theorem dX9_quarrel_51 : decode cX9_quarrel 51 = .ok (.istore 4, 2) := by decide +kernel
theorem dX9_quarrel_53 : decode cX9_quarrel 53 = .ok (.aload_n 0, 1) := by decide +kernel
theorem dX9_quarrel_54 : decode cX9_quarrel 54 = .ok (.getfield 7, 3) := by decide +kernel
theorem dX9_quarrel_57 : decode cX9_quarrel 57 = .ok (.iload_n 1, 1) := by decide +kernel
theorem dX9_quarrel_58 : decode cX9_quarrel 58 = .ok (.iload_n 2, 1) := by decide +kernel
theorem dX9_quarrel_59 : decode cX9_quarrel 59 = .ok (.iload_n 3, 1) := by decide +kernel
theorem dX9_quarrel_60 : decode cX9_quarrel 60 = .ok (.iconst 1, 1) := by decide +kernel
theorem dX9_quarrel_61 : decode cX9_quarrel 61 = .ok (.if_icmp .ne 7, 3) := by decide +kernel
theorem dX9_quarrel_64 : decode cX9_quarrel 64 = .ok (.iconst 1, 1) := by decide +kernel
theorem dX9_quarrel_65 : decode cX9_quarrel 65 = .ok (.goto 4, 3) := by decide +kernel
theorem dX9_quarrel_68 : decode cX9_quarrel 68 = .ok (.iconst 0, 1) := by decide +kernel
theorem dX9_quarrel_69 : decode cX9_quarrel 69 = .ok (.invokestatic 86, 3) := by decide +kernel
theorem dX9_quarrel_72 : decode cX9_quarrel 72 = .ok (.aload_n 0, 1) := by decide +kernel
theorem dX9_quarrel_73 : decode cX9_quarrel 73 = .ok (.getfield 7, 3) := by decide +kernel
theorem dX9_quarrel_76 : decode cX9_quarrel 76 = .ok (.iconst 2, 1) := by decide +kernel
theorem dX9_quarrel_77 : decode cX9_quarrel 77 = .ok (.iconst 0, 1) := by decide +kernel
theorem dX9_quarrel_78 : decode cX9_quarrel 78 = .ok (.iastore, 1) := by decide +kernel
theorem dX9_quarrel_79 : decode cX9_quarrel 79 = .ok (.iload 4, 2) := by decide +kernel
theorem dX9_quarrel_81 : decode cX9_quarrel 81 = .ok (.ireturn, 1) := by decide +kernel
theorem dX9_swayAs_0 : decode cX9_swayAs 0 = .ok (.iload_n 1, 1) := by decide +kernel
theorem dX9_swayAs_1 : decode cX9_swayAs 1 = .ok (.iconst 1, 1) := by decide +kernel
theorem dX9_swayAs_2 : decode cX9_swayAs 2 = .ok (.iadd, 1) := by decide +kernel
theorem dX9_swayAs_3 : decode cX9_swayAs 3 = .ok (.iconst 2, 1) := by decide +kernel
theorem dX9_swayAs_4 : decode cX9_swayAs 4 = .ok (.idiv, 1) := by decide +kernel
theorem dX9_swayAs_5 : decode cX9_swayAs 5 = .ok (.istore_n 3, 1) := by decide +kernel
theorem dX9_swayAs_6 : decode cX9_swayAs 6 = .ok (.iload_n 0, 1) := by decide +kernel
theorem dX9_swayAs_7 : decode cX9_swayAs 7 = .ok (.tableswitch 56 1 5 #[33, 35, 56, 50, 54], 33) := by decide +kernel
theorem dX9_swayAs_40 : decode cX9_swayAs 40 = .ok (.iload_n 3, 1) := by decide +kernel
theorem dX9_swayAs_41 : decode cX9_swayAs 41 = .ok (.ireturn, 1) := by decide +kernel
theorem dX9_swayAs_42 : decode cX9_swayAs 42 = .ok (.iload_n 2, 1) := by decide +kernel
theorem dX9_swayAs_43 : decode cX9_swayAs 43 = .ok (.iconst 2, 1) := by decide +kernel
theorem dX9_swayAs_44 : decode cX9_swayAs 44 = .ok (.irem, 1) := by decide +kernel
theorem dX9_swayAs_45 : decode cX9_swayAs 45 = .ok (.iconst 1, 1) := by decide +kernel
theorem dX9_swayAs_46 : decode cX9_swayAs 46 = .ok (.if_icmp .ne 9, 3) := by decide +kernel
theorem dX9_swayAs_49 : decode cX9_swayAs 49 = .ok (.iconst 2, 1) := by decide +kernel
theorem dX9_swayAs_50 : decode cX9_swayAs 50 = .ok (.iload_n 1, 1) := by decide +kernel
theorem dX9_swayAs_51 : decode cX9_swayAs 51 = .ok (.imul, 1) := by decide +kernel
theorem dX9_swayAs_52 : decode cX9_swayAs 52 = .ok (.goto 4, 3) := by decide +kernel
theorem dX9_swayAs_55 : decode cX9_swayAs 55 = .ok (.iload_n 1, 1) := by decide +kernel
theorem dX9_swayAs_56 : decode cX9_swayAs 56 = .ok (.ireturn, 1) := by decide +kernel
theorem dX9_swayAs_57 : decode cX9_swayAs 57 = .ok (.iload_n 3, 1) := by decide +kernel
theorem dX9_swayAs_58 : decode cX9_swayAs 58 = .ok (.iconst 1, 1) := by decide +kernel
theorem dX9_swayAs_59 : decode cX9_swayAs 59 = .ok (.iadd, 1) := by decide +kernel
theorem dX9_swayAs_60 : decode cX9_swayAs 60 = .ok (.ireturn, 1) := by decide +kernel
theorem dX9_swayAs_61 : decode cX9_swayAs 61 = .ok (.iconst 0, 1) := by decide +kernel
theorem dX9_swayAs_62 : decode cX9_swayAs 62 = .ok (.ireturn, 1) := by decide +kernel
theorem dX9_swayAs_63 : decode cX9_swayAs 63 = .ok (.iload_n 1, 1) := by decide +kernel
theorem dX9_swayAs_64 : decode cX9_swayAs 64 = .ok (.ireturn, 1) := by decide +kernel
theorem dX9_tallAs_0 : decode cX9_tallAs 0 = .ok (.iload_n 0, 1) := by decide +kernel
theorem dX9_tallAs_1 : decode cX9_tallAs 1 = .ok (.tableswitch 47 1 5 #[35, 47, 37, 39, 45], 35) := by decide +kernel
theorem dX9_tallAs_36 : decode cX9_tallAs 36 = .ok (.iconst 2, 1) := by decide +kernel
theorem dX9_tallAs_37 : decode cX9_tallAs 37 = .ok (.ireturn, 1) := by decide +kernel
theorem dX9_tallAs_38 : decode cX9_tallAs 38 = .ok (.iconst 5, 1) := by decide +kernel
theorem dX9_tallAs_39 : decode cX9_tallAs 39 = .ok (.ireturn, 1) := by decide +kernel
theorem dX9_tallAs_40 : decode cX9_tallAs 40 = .ok (.iconst 2, 1) := by decide +kernel
theorem dX9_tallAs_41 : decode cX9_tallAs 41 = .ok (.iload_n 1, 1) := by decide +kernel
theorem dX9_tallAs_42 : decode cX9_tallAs 42 = .ok (.iconst 3, 1) := by decide +kernel
theorem dX9_tallAs_43 : decode cX9_tallAs 43 = .ok (.idiv, 1) := by decide +kernel
theorem dX9_tallAs_44 : decode cX9_tallAs 44 = .ok (.iadd, 1) := by decide +kernel
theorem dX9_tallAs_45 : decode cX9_tallAs 45 = .ok (.ireturn, 1) := by decide +kernel
theorem dX9_tallAs_46 : decode cX9_tallAs 46 = .ok (.iconst 4, 1) := by decide +kernel
theorem dX9_tallAs_47 : decode cX9_tallAs 47 = .ok (.ireturn, 1) := by decide +kernel
theorem dX9_tallAs_48 : decode cX9_tallAs 48 = .ok (.iconst 3, 1) := by decide +kernel
theorem dX9_tallAs_49 : decode cX9_tallAs 49 = .ok (.ireturn, 1) := by decide +kernel
theorem dX9_layHand_0 : decode cX9_layHand 0 = .ok (.iconst 0, 1) := by decide +kernel
theorem dX9_layHand_1 : decode cX9_layHand 1 = .ok (.istore_n 1, 1) := by decide +kernel
theorem dX9_layHand_2 : decode cX9_layHand 2 = .ok (.iload_n 1, 1) := by decide +kernel
theorem dX9_layHand_3 : decode cX9_layHand 3 = .ok (.bipush 54, 2) := by decide +kernel
theorem dX9_layHand_5 : decode cX9_layHand 5 = .ok (.if_icmp .ge 21, 3) := by decide +kernel
theorem dX9_layHand_8 : decode cX9_layHand 8 = .ok (.aload_n 0, 1) := by decide +kernel
theorem dX9_layHand_9 : decode cX9_layHand 9 = .ok (.getfield 27, 3) := by decide +kernel
theorem dX9_layHand_12 : decode cX9_layHand 12 = .ok (.iload_n 1, 1) := by decide +kernel
theorem dX9_layHand_13 : decode cX9_layHand 13 = .ok (.aload_n 0, 1) := by decide +kernel
theorem dX9_layHand_14 : decode cX9_layHand 14 = .ok (.getfield 7, 3) := by decide +kernel
theorem dX9_layHand_17 : decode cX9_layHand 17 = .ok (.iload_n 1, 1) := by decide +kernel
theorem dX9_layHand_18 : decode cX9_layHand 18 = .ok (.iaload, 1) := by decide +kernel
theorem dX9_layHand_19 : decode cX9_layHand 19 = .ok (.iastore, 1) := by decide +kernel
theorem dX9_layHand_20 : decode cX9_layHand 20 = .ok (.iinc 1 1, 3) := by decide +kernel
theorem dX9_layHand_23 : decode cX9_layHand 23 = .ok (.goto (-21), 3) := by decide +kernel
theorem dX9_layHand_26 : decode cX9_layHand 26 = .ok (.return_, 1) := by decide +kernel
theorem dX9_layStart_0 : decode cX9_layStart 0 = .ok (.aload_n 0, 1) := by decide +kernel
theorem dX9_layStart_1 : decode cX9_layStart 1 = .ok (.invokevirtual 90, 3) := by decide +kernel
theorem dX9_layStart_4 : decode cX9_layStart 4 = .ok (.aload_n 0, 1) := by decide +kernel
theorem dX9_layStart_5 : decode cX9_layStart 5 = .ok (.getfield 27, 3) := by decide +kernel
theorem dX9_layStart_8 : decode cX9_layStart 8 = .ok (.iconst 3, 1) := by decide +kernel
theorem dX9_layStart_9 : decode cX9_layStart 9 = .ok (.iconst 0, 1) := by decide +kernel
theorem dX9_layStart_10 : decode cX9_layStart 10 = .ok (.iastore, 1) := by decide +kernel
theorem dX9_layStart_11 : decode cX9_layStart 11 = .ok (.aload_n 0, 1) := by decide +kernel
theorem dX9_layStart_12 : decode cX9_layStart 12 = .ok (.getfield 27, 3) := by decide +kernel
theorem dX9_layStart_15 : decode cX9_layStart 15 = .ok (.iconst 4, 1) := by decide +kernel
theorem dX9_layStart_16 : decode cX9_layStart 16 = .ok (.iconst 0, 1) := by decide +kernel
theorem dX9_layStart_17 : decode cX9_layStart 17 = .ok (.iastore, 1) := by decide +kernel
theorem dX9_layStart_18 : decode cX9_layStart 18 = .ok (.aload_n 0, 1) := by decide +kernel
theorem dX9_layStart_19 : decode cX9_layStart 19 = .ok (.getfield 27, 3) := by decide +kernel
theorem dX9_layStart_22 : decode cX9_layStart 22 = .ok (.iconst 5, 1) := by decide +kernel
theorem dX9_layStart_23 : decode cX9_layStart 23 = .ok (.iconst 0, 1) := by decide +kernel
theorem dX9_layStart_24 : decode cX9_layStart 24 = .ok (.iastore, 1) := by decide +kernel
theorem dX9_layStart_25 : decode cX9_layStart 25 = .ok (.aload_n 0, 1) := by decide +kernel
theorem dX9_layStart_26 : decode cX9_layStart 26 = .ok (.getfield 27, 3) := by decide +kernel
theorem dX9_layStart_29 : decode cX9_layStart 29 = .ok (.bipush 6, 2) := by decide +kernel
theorem dX9_layStart_31 : decode cX9_layStart 31 = .ok (.iconst 0, 1) := by decide +kernel
theorem dX9_layStart_32 : decode cX9_layStart 32 = .ok (.iastore, 1) := by decide +kernel
theorem dX9_layStart_33 : decode cX9_layStart 33 = .ok (.aload_n 0, 1) := by decide +kernel
theorem dX9_layStart_34 : decode cX9_layStart 34 = .ok (.getfield 27, 3) := by decide +kernel
theorem dX9_layStart_37 : decode cX9_layStart 37 = .ok (.bipush 7, 2) := by decide +kernel
theorem dX9_layStart_39 : decode cX9_layStart 39 = .ok (.iconst 0, 1) := by decide +kernel
theorem dX9_layStart_40 : decode cX9_layStart 40 = .ok (.iastore, 1) := by decide +kernel
theorem dX9_layStart_41 : decode cX9_layStart 41 = .ok (.return_, 1) := by decide +kernel
theorem dX9_swayOf_0 : decode cX9_swayOf 0 = .ok (.aload_n 0, 1) := by decide +kernel
theorem dX9_swayOf_1 : decode cX9_swayOf 1 = .ok (.getfield 27, 3) := by decide +kernel
theorem dX9_swayOf_4 : decode cX9_swayOf 4 = .ok (.bipush 19, 2) := by decide +kernel
theorem dX9_swayOf_6 : decode cX9_swayOf 6 = .ok (.iload_n 1, 1) := by decide +kernel
theorem dX9_swayOf_7 : decode cX9_swayOf 7 = .ok (.iadd, 1) := by decide +kernel
theorem dX9_swayOf_8 : decode cX9_swayOf 8 = .ok (.iaload, 1) := by decide +kernel
theorem dX9_swayOf_9 : decode cX9_swayOf 9 = .ok (.aload_n 0, 1) := by decide +kernel
theorem dX9_swayOf_10 : decode cX9_swayOf 10 = .ok (.getfield 27, 3) := by decide +kernel
theorem dX9_swayOf_13 : decode cX9_swayOf 13 = .ok (.bipush 26, 2) := by decide +kernel
theorem dX9_swayOf_15 : decode cX9_swayOf 15 = .ok (.iload_n 1, 1) := by decide +kernel
theorem dX9_swayOf_16 : decode cX9_swayOf 16 = .ok (.iadd, 1) := by decide +kernel
theorem dX9_swayOf_17 : decode cX9_swayOf 17 = .ok (.iaload, 1) := by decide +kernel
theorem dX9_swayOf_18 : decode cX9_swayOf 18 = .ok (.iload_n 2, 1) := by decide +kernel
theorem dX9_swayOf_19 : decode cX9_swayOf 19 = .ok (.invokestatic 93, 3) := by decide +kernel
theorem dX9_swayOf_22 : decode cX9_swayOf 22 = .ok (.ireturn, 1) := by decide +kernel
theorem dX9_swayOfAll_0 : decode cX9_swayOfAll 0 = .ok (.iconst 0, 1) := by decide +kernel
theorem dX9_swayOfAll_1 : decode cX9_swayOfAll 1 = .ok (.istore_n 3, 1) := by decide +kernel
theorem dX9_swayOfAll_2 : decode cX9_swayOfAll 2 = .ok (.iconst 0, 1) := by decide +kernel
theorem dX9_swayOfAll_3 : decode cX9_swayOfAll 3 = .ok (.istore 4, 2) := by decide +kernel
theorem dX9_swayOfAll_5 : decode cX9_swayOfAll 5 = .ok (.iload 4, 2) := by decide +kernel
theorem dX9_swayOfAll_7 : decode cX9_swayOfAll 7 = .ok (.aload_n 0, 1) := by decide +kernel
theorem dX9_swayOfAll_8 : decode cX9_swayOfAll 8 = .ok (.invokevirtual 52, 3) := by decide +kernel
theorem dX9_swayOfAll_11 : decode cX9_swayOfAll 11 = .ok (.if_icmp .ge 32, 3) := by decide +kernel
theorem dX9_swayOfAll_14 : decode cX9_swayOfAll 14 = .ok (.iload_n 3, 1) := by decide +kernel
theorem dX9_swayOfAll_15 : decode cX9_swayOfAll 15 = .ok (.iload_n 1, 1) := by decide +kernel
theorem dX9_swayOfAll_16 : decode cX9_swayOfAll 16 = .ok (.iload 4, 2) := by decide +kernel
theorem dX9_swayOfAll_18 : decode cX9_swayOfAll 18 = .ok (.invokestatic 97, 3) := by decide +kernel
theorem dX9_swayOfAll_21 : decode cX9_swayOfAll 21 = .ok (.ifCond .eq 13, 3) := by decide +kernel
theorem dX9_swayOfAll_24 : decode cX9_swayOfAll 24 = .ok (.aload_n 0, 1) := by decide +kernel
theorem dX9_swayOfAll_25 : decode cX9_swayOfAll 25 = .ok (.iload 4, 2) := by decide +kernel
theorem dX9_swayOfAll_27 : decode cX9_swayOfAll 27 = .ok (.iload_n 2, 1) := by decide +kernel
theorem dX9_swayOfAll_28 : decode cX9_swayOfAll 28 = .ok (.invokevirtual 101, 3) := by decide +kernel
theorem dX9_swayOfAll_31 : decode cX9_swayOfAll 31 = .ok (.goto 4, 3) := by decide +kernel
theorem dX9_swayOfAll_34 : decode cX9_swayOfAll 34 = .ok (.iconst 0, 1) := by decide +kernel
theorem dX9_swayOfAll_35 : decode cX9_swayOfAll 35 = .ok (.iadd, 1) := by decide +kernel
theorem dX9_swayOfAll_36 : decode cX9_swayOfAll 36 = .ok (.istore_n 3, 1) := by decide +kernel
theorem dX9_swayOfAll_37 : decode cX9_swayOfAll 37 = .ok (.iinc 4 1, 3) := by decide +kernel
theorem dX9_swayOfAll_40 : decode cX9_swayOfAll 40 = .ok (.goto (-35), 3) := by decide +kernel
theorem dX9_swayOfAll_43 : decode cX9_swayOfAll 43 = .ok (.iload_n 3, 1) := by decide +kernel
theorem dX9_swayOfAll_44 : decode cX9_swayOfAll 44 = .ok (.ireturn, 1) := by decide +kernel
theorem dX9_goStop_0 : decode cX9_goStop 0 = .ok (.aload_n 0, 1) := by decide +kernel
theorem dX9_goStop_1 : decode cX9_goStop 1 = .ok (.getfield 27, 3) := by decide +kernel
theorem dX9_goStop_4 : decode cX9_goStop 4 = .ok (.iconst 3, 1) := by decide +kernel
theorem dX9_goStop_5 : decode cX9_goStop 5 = .ok (.iaload, 1) := by decide +kernel
theorem dX9_goStop_6 : decode cX9_goStop 6 = .ok (.istore_n 1, 1) := by decide +kernel
theorem dX9_goStop_7 : decode cX9_goStop 7 = .ok (.iconst 0, 1) := by decide +kernel
theorem dX9_goStop_8 : decode cX9_goStop 8 = .ok (.istore_n 2, 1) := by decide +kernel
theorem dX9_goStop_9 : decode cX9_goStop 9 = .ok (.iload_n 2, 1) := by decide +kernel
theorem dX9_goStop_10 : decode cX9_goStop 10 = .ok (.aload_n 0, 1) := by decide +kernel
theorem dX9_goStop_11 : decode cX9_goStop 11 = .ok (.invokevirtual 52, 3) := by decide +kernel
theorem dX9_goStop_14 : decode cX9_goStop 14 = .ok (.if_icmp .ge 40, 3) := by decide +kernel
theorem dX9_goStop_17 : decode cX9_goStop 17 = .ok (.aload_n 0, 1) := by decide +kernel
theorem dX9_goStop_18 : decode cX9_goStop 18 = .ok (.getfield 27, 3) := by decide +kernel
theorem dX9_goStop_21 : decode cX9_goStop 21 = .ok (.iconst 4, 1) := by decide +kernel
theorem dX9_goStop_22 : decode cX9_goStop 22 = .ok (.dup2, 1) := by decide +kernel
theorem dX9_goStop_23 : decode cX9_goStop 23 = .ok (.iaload, 1) := by decide +kernel
theorem dX9_goStop_24 : decode cX9_goStop 24 = .ok (.aload_n 0, 1) := by decide +kernel
theorem dX9_goStop_25 : decode cX9_goStop 25 = .ok (.getfield 27, 3) := by decide +kernel
theorem dX9_goStop_28 : decode cX9_goStop 28 = .ok (.bipush 40, 2) := by decide +kernel
theorem dX9_goStop_30 : decode cX9_goStop 30 = .ok (.iload_n 2, 1) := by decide +kernel
theorem dX9_goStop_31 : decode cX9_goStop 31 = .ok (.iadd, 1) := by decide +kernel
theorem dX9_goStop_32 : decode cX9_goStop 32 = .ok (.iaload, 1) := by decide +kernel
theorem dX9_goStop_33 : decode cX9_goStop 33 = .ok (.iload_n 1, 1) := by decide +kernel
theorem dX9_goStop_34 : decode cX9_goStop 34 = .ok (.if_icmp .ne 11, 3) := by decide +kernel
theorem dX9_goStop_37 : decode cX9_goStop 37 = .ok (.iconst 1, 1) := by decide +kernel
theorem dX9_goStop_38 : decode cX9_goStop 38 = .ok (.iload_n 2, 1) := by decide +kernel
theorem dX9_goStop_39 : decode cX9_goStop 39 = .ok (.ishl, 1) := by decide +kernel
theorem dX9_goStop_40 : decode cX9_goStop 40 = .ok (.iconst (-1), 1) := by decide +kernel
theorem dX9_goStop_41 : decode cX9_goStop 41 = .ok (.ixor, 1) := by decide +kernel
theorem dX9_goStop_42 : decode cX9_goStop 42 = .ok (.goto 4, 3) := by decide +kernel
theorem dX9_goStop_45 : decode cX9_goStop 45 = .ok (.iconst (-1), 1) := by decide +kernel
theorem dX9_goStop_46 : decode cX9_goStop 46 = .ok (.iand, 1) := by decide +kernel
theorem dX9_goStop_47 : decode cX9_goStop 47 = .ok (.iastore, 1) := by decide +kernel
theorem dX9_goStop_48 : decode cX9_goStop 48 = .ok (.iinc 2 1, 3) := by decide +kernel
theorem dX9_goStop_51 : decode cX9_goStop 51 = .ok (.goto (-42), 3) := by decide +kernel
theorem dX9_goStop_54 : decode cX9_goStop 54 = .ok (.iconst 0, 1) := by decide +kernel
theorem dX9_goStop_55 : decode cX9_goStop 55 = .ok (.istore_n 2, 1) := by decide +kernel
theorem dX9_goStop_56 : decode cX9_goStop 56 = .ok (.iload_n 2, 1) := by decide +kernel
theorem dX9_goStop_57 : decode cX9_goStop 57 = .ok (.aload_n 0, 1) := by decide +kernel
theorem dX9_goStop_58 : decode cX9_goStop 58 = .ok (.invokevirtual 52, 3) := by decide +kernel
theorem dX9_goStop_61 : decode cX9_goStop 61 = .ok (.if_icmp .ge 107, 3) := by decide +kernel
theorem dX9_goStop_64 : decode cX9_goStop 64 = .ok (.aload_n 0, 1) := by decide +kernel
theorem dX9_goStop_65 : decode cX9_goStop 65 = .ok (.getfield 27, 3) := by decide +kernel
theorem dX9_goStop_68 : decode cX9_goStop 68 = .ok (.bipush 33, 2) := by decide +kernel
theorem dX9_goStop_70 : decode cX9_goStop 70 = .ok (.iload_n 2, 1) := by decide +kernel
theorem dX9_goStop_71 : decode cX9_goStop 71 = .ok (.iadd, 1) := by decide +kernel
theorem dX9_goStop_72 : decode cX9_goStop 72 = .ok (.iaload, 1) := by decide +kernel
theorem dX9_goStop_73 : decode cX9_goStop 73 = .ok (.iload_n 1, 1) := by decide +kernel
theorem dX9_goStop_74 : decode cX9_goStop 74 = .ok (.if_icmp .ne 88, 3) := by decide +kernel
theorem dX9_goStop_77 : decode cX9_goStop 77 = .ok (.aload_n 0, 1) := by decide +kernel
theorem dX9_goStop_78 : decode cX9_goStop 78 = .ok (.getfield 27, 3) := by decide +kernel
theorem dX9_goStop_81 : decode cX9_goStop 81 = .ok (.iconst 4, 1) := by decide +kernel
theorem dX9_goStop_82 : decode cX9_goStop 82 = .ok (.iaload, 1) := by decide +kernel
theorem dX9_goStop_83 : decode cX9_goStop 83 = .ok (.invokestatic 105, 3) := by decide +kernel
theorem dX9_goStop_86 : decode cX9_goStop 86 = .ok (.aload_n 0, 1) := by decide +kernel
theorem dX9_goStop_87 : decode cX9_goStop 87 = .ok (.getfield 27, 3) := by decide +kernel
theorem dX9_goStop_90 : decode cX9_goStop 90 = .ok (.bipush 8, 2) := by decide +kernel
theorem dX9_goStop_92 : decode cX9_goStop 92 = .ok (.iaload, 1) := by decide +kernel
theorem dX9_goStop_93 : decode cX9_goStop 93 = .ok (.if_icmp .ge 26, 3) := by decide +kernel
theorem dX9_goStop_96 : decode cX9_goStop 96 = .ok (.aload_n 0, 1) := by decide +kernel
theorem dX9_goStop_97 : decode cX9_goStop 97 = .ok (.getfield 27, 3) := by decide +kernel
theorem dX9_goStop_100 : decode cX9_goStop 100 = .ok (.iconst 4, 1) := by decide +kernel
theorem dX9_goStop_101 : decode cX9_goStop 101 = .ok (.iaload, 1) := by decide +kernel
theorem dX9_goStop_102 : decode cX9_goStop 102 = .ok (.aload_n 0, 1) := by decide +kernel
theorem dX9_goStop_103 : decode cX9_goStop 103 = .ok (.getfield 27, 3) := by decide +kernel
theorem dX9_goStop_106 : decode cX9_goStop 106 = .ok (.bipush 47, 2) := by decide +kernel
theorem dX9_goStop_108 : decode cX9_goStop 108 = .ok (.iload_n 2, 1) := by decide +kernel
theorem dX9_goStop_109 : decode cX9_goStop 109 = .ok (.iadd, 1) := by decide +kernel
theorem dX9_goStop_110 : decode cX9_goStop 110 = .ok (.iaload, 1) := by decide +kernel
theorem dX9_goStop_111 : decode cX9_goStop 111 = .ok (.iand, 1) := by decide +kernel
theorem dX9_goStop_112 : decode cX9_goStop 112 = .ok (.ifCond .ne 7, 3) := by decide +kernel
theorem dX9_goStop_115 : decode cX9_goStop 115 = .ok (.iconst 1, 1) := by decide +kernel
theorem dX9_goStop_116 : decode cX9_goStop 116 = .ok (.goto 4, 3) := by decide +kernel
theorem dX9_goStop_119 : decode cX9_goStop 119 = .ok (.iconst 0, 1) := by decide +kernel
theorem dX9_goStop_120 : decode cX9_goStop 120 = .ok (.istore_n 3, 1) := by decide +kernel
theorem dX9_goStop_121 : decode cX9_goStop 121 = .ok (.aload_n 0, 1) := by decide +kernel
theorem dX9_goStop_122 : decode cX9_goStop 122 = .ok (.getfield 27, 3) := by decide +kernel
theorem dX9_goStop_125 : decode cX9_goStop 125 = .ok (.iconst 4, 1) := by decide +kernel
theorem dX9_goStop_126 : decode cX9_goStop 126 = .ok (.dup2, 1) := by decide +kernel
theorem dX9_goStop_127 : decode cX9_goStop 127 = .ok (.iaload, 1) := by decide +kernel
theorem dX9_goStop_128 : decode cX9_goStop 128 = .ok (.iload_n 3, 1) := by decide +kernel
theorem dX9_goStop_129 : decode cX9_goStop 129 = .ok (.ifCond .eq 9, 3) := by decide +kernel
theorem dX9_goStop_132 : decode cX9_goStop 132 = .ok (.iconst 1, 1) := by decide +kernel
theorem dX9_goStop_133 : decode cX9_goStop 133 = .ok (.iload_n 2, 1) := by decide +kernel
theorem dX9_goStop_134 : decode cX9_goStop 134 = .ok (.ishl, 1) := by decide +kernel
theorem dX9_goStop_135 : decode cX9_goStop 135 = .ok (.goto 4, 3) := by decide +kernel
theorem dX9_goStop_138 : decode cX9_goStop 138 = .ok (.iconst 0, 1) := by decide +kernel
theorem dX9_goStop_139 : decode cX9_goStop 139 = .ok (.ior, 1) := by decide +kernel
theorem dX9_goStop_140 : decode cX9_goStop 140 = .ok (.iastore, 1) := by decide +kernel
theorem dX9_goStop_141 : decode cX9_goStop 141 = .ok (.aload_n 0, 1) := by decide +kernel
theorem dX9_goStop_142 : decode cX9_goStop 142 = .ok (.getfield 27, 3) := by decide +kernel
theorem dX9_goStop_145 : decode cX9_goStop 145 = .ok (.bipush 6, 2) := by decide +kernel
theorem dX9_goStop_147 : decode cX9_goStop 147 = .ok (.dup2, 1) := by decide +kernel
theorem dX9_goStop_148 : decode cX9_goStop 148 = .ok (.iaload, 1) := by decide +kernel
theorem dX9_goStop_149 : decode cX9_goStop 149 = .ok (.iload_n 3, 1) := by decide +kernel
theorem dX9_goStop_150 : decode cX9_goStop 150 = .ok (.ifCond .eq 7, 3) := by decide +kernel
theorem dX9_goStop_153 : decode cX9_goStop 153 = .ok (.iconst 0, 1) := by decide +kernel
theorem dX9_goStop_154 : decode cX9_goStop 154 = .ok (.goto 6, 3) := by decide +kernel
theorem dX9_goStop_157 : decode cX9_goStop 157 = .ok (.iconst 1, 1) := by decide +kernel
theorem dX9_goStop_158 : decode cX9_goStop 158 = .ok (.iload_n 2, 1) := by decide +kernel
theorem dX9_goStop_159 : decode cX9_goStop 159 = .ok (.ishl, 1) := by decide +kernel
theorem dX9_goStop_160 : decode cX9_goStop 160 = .ok (.ior, 1) := by decide +kernel
theorem dX9_goStop_161 : decode cX9_goStop 161 = .ok (.iastore, 1) := by decide +kernel
theorem dX9_goStop_162 : decode cX9_goStop 162 = .ok (.iinc 2 1, 3) := by decide +kernel
theorem dX9_goStop_165 : decode cX9_goStop 165 = .ok (.goto (-109), 3) := by decide +kernel
theorem dX9_goStop_168 : decode cX9_goStop 168 = .ok (.iconst 0, 1) := by decide +kernel
theorem dX9_goStop_169 : decode cX9_goStop 169 = .ok (.istore_n 2, 1) := by decide +kernel
theorem dX9_goStop_170 : decode cX9_goStop 170 = .ok (.iload_n 2, 1) := by decide +kernel
theorem dX9_goStop_171 : decode cX9_goStop 171 = .ok (.aload_n 0, 1) := by decide +kernel
theorem dX9_goStop_172 : decode cX9_goStop 172 = .ok (.invokevirtual 52, 3) := by decide +kernel
theorem dX9_goStop_175 : decode cX9_goStop 175 = .ok (.if_icmp .ge 107, 3) := by decide +kernel
theorem dX9_goStop_178 : decode cX9_goStop 178 = .ok (.aload_n 0, 1) := by decide +kernel
theorem dX9_goStop_179 : decode cX9_goStop 179 = .ok (.getfield 27, 3) := by decide +kernel
theorem dX9_goStop_182 : decode cX9_goStop 182 = .ok (.bipush 9, 2) := by decide +kernel
theorem dX9_goStop_184 : decode cX9_goStop 184 = .ok (.iload_n 1, 1) := by decide +kernel
theorem dX9_goStop_185 : decode cX9_goStop 185 = .ok (.iadd, 1) := by decide +kernel
theorem dX9_goStop_186 : decode cX9_goStop 186 = .ok (.iaload, 1) := by decide +kernel
theorem dX9_goStop_187 : decode cX9_goStop 187 = .ok (.ifCond .le 95, 3) := by decide +kernel
theorem dX9_goStop_190 : decode cX9_goStop 190 = .ok (.aload_n 0, 1) := by decide +kernel
theorem dX9_goStop_191 : decode cX9_goStop 191 = .ok (.getfield 27, 3) := by decide +kernel
theorem dX9_goStop_194 : decode cX9_goStop 194 = .ok (.iconst 4, 1) := by decide +kernel
theorem dX9_goStop_195 : decode cX9_goStop 195 = .ok (.iaload, 1) := by decide +kernel
theorem dX9_goStop_196 : decode cX9_goStop 196 = .ok (.iload_n 2, 1) := by decide +kernel
theorem dX9_goStop_197 : decode cX9_goStop 197 = .ok (.invokestatic 97, 3) := by decide +kernel
theorem dX9_goStop_200 : decode cX9_goStop 200 = .ok (.ifCond .eq 32, 3) := by decide +kernel
theorem dX9_goStop_203 : decode cX9_goStop 203 = .ok (.aload_n 0, 1) := by decide +kernel
theorem dX9_goStop_204 : decode cX9_goStop 204 = .ok (.getfield 27, 3) := by decide +kernel
theorem dX9_goStop_207 : decode cX9_goStop 207 = .ok (.bipush 19, 2) := by decide +kernel
theorem dX9_goStop_209 : decode cX9_goStop 209 = .ok (.iload_n 2, 1) := by decide +kernel
theorem dX9_goStop_210 : decode cX9_goStop 210 = .ok (.iadd, 1) := by decide +kernel
theorem dX9_goStop_211 : decode cX9_goStop 211 = .ok (.iaload, 1) := by decide +kernel
theorem dX9_goStop_212 : decode cX9_goStop 212 = .ok (.iload_n 1, 1) := by decide +kernel
theorem dX9_goStop_213 : decode cX9_goStop 213 = .ok (.invokestatic 108, 3) := by decide +kernel
theorem dX9_goStop_216 : decode cX9_goStop 216 = .ok (.aload_n 0, 1) := by decide +kernel
theorem dX9_goStop_217 : decode cX9_goStop 217 = .ok (.getfield 27, 3) := by decide +kernel
theorem dX9_goStop_220 : decode cX9_goStop 220 = .ok (.bipush 9, 2) := by decide +kernel
theorem dX9_goStop_222 : decode cX9_goStop 222 = .ok (.iload_n 1, 1) := by decide +kernel
theorem dX9_goStop_223 : decode cX9_goStop 223 = .ok (.iadd, 1) := by decide +kernel
theorem dX9_goStop_224 : decode cX9_goStop 224 = .ok (.iaload, 1) := by decide +kernel
theorem dX9_goStop_225 : decode cX9_goStop 225 = .ok (.if_icmp .le 7, 3) := by decide +kernel
theorem dX9_goStop_228 : decode cX9_goStop 228 = .ok (.iconst 1, 1) := by decide +kernel
theorem dX9_goStop_229 : decode cX9_goStop 229 = .ok (.goto 4, 3) := by decide +kernel
theorem dX9_goStop_232 : decode cX9_goStop 232 = .ok (.iconst 0, 1) := by decide +kernel
theorem dX9_goStop_233 : decode cX9_goStop 233 = .ok (.istore_n 3, 1) := by decide +kernel
theorem dX9_goStop_234 : decode cX9_goStop 234 = .ok (.aload_n 0, 1) := by decide +kernel
theorem dX9_goStop_235 : decode cX9_goStop 235 = .ok (.getfield 27, 3) := by decide +kernel
theorem dX9_goStop_238 : decode cX9_goStop 238 = .ok (.iconst 5, 1) := by decide +kernel
theorem dX9_goStop_239 : decode cX9_goStop 239 = .ok (.dup2, 1) := by decide +kernel
theorem dX9_goStop_240 : decode cX9_goStop 240 = .ok (.iaload, 1) := by decide +kernel
theorem dX9_goStop_241 : decode cX9_goStop 241 = .ok (.iload_n 3, 1) := by decide +kernel
theorem dX9_goStop_242 : decode cX9_goStop 242 = .ok (.ifCond .eq 9, 3) := by decide +kernel
theorem dX9_goStop_245 : decode cX9_goStop 245 = .ok (.iconst 1, 1) := by decide +kernel
theorem dX9_goStop_246 : decode cX9_goStop 246 = .ok (.iload_n 2, 1) := by decide +kernel
theorem dX9_goStop_247 : decode cX9_goStop 247 = .ok (.ishl, 1) := by decide +kernel
theorem dX9_goStop_248 : decode cX9_goStop 248 = .ok (.goto 4, 3) := by decide +kernel
theorem dX9_goStop_251 : decode cX9_goStop 251 = .ok (.iconst 0, 1) := by decide +kernel
theorem dX9_goStop_252 : decode cX9_goStop 252 = .ok (.ior, 1) := by decide +kernel
theorem dX9_goStop_253 : decode cX9_goStop 253 = .ok (.iastore, 1) := by decide +kernel
theorem dX9_goStop_254 : decode cX9_goStop 254 = .ok (.aload_n 0, 1) := by decide +kernel
theorem dX9_goStop_255 : decode cX9_goStop 255 = .ok (.getfield 27, 3) := by decide +kernel
theorem dX9_goStop_258 : decode cX9_goStop 258 = .ok (.iconst 4, 1) := by decide +kernel
theorem dX9_goStop_259 : decode cX9_goStop 259 = .ok (.dup2, 1) := by decide +kernel
theorem dX9_goStop_260 : decode cX9_goStop 260 = .ok (.iaload, 1) := by decide +kernel
theorem dX9_goStop_261 : decode cX9_goStop 261 = .ok (.iload_n 3, 1) := by decide +kernel
theorem dX9_goStop_262 : decode cX9_goStop 262 = .ok (.ifCond .eq 11, 3) := by decide +kernel
theorem dX9_goStop_265 : decode cX9_goStop 265 = .ok (.iconst 1, 1) := by decide +kernel
theorem dX9_goStop_266 : decode cX9_goStop 266 = .ok (.iload_n 2, 1) := by decide +kernel
theorem dX9_goStop_267 : decode cX9_goStop 267 = .ok (.ishl, 1) := by decide +kernel
theorem dX9_goStop_268 : decode cX9_goStop 268 = .ok (.iconst (-1), 1) := by decide +kernel
theorem dX9_goStop_269 : decode cX9_goStop 269 = .ok (.ixor, 1) := by decide +kernel
theorem dX9_goStop_270 : decode cX9_goStop 270 = .ok (.goto 4, 3) := by decide +kernel
theorem dX9_goStop_273 : decode cX9_goStop 273 = .ok (.iconst (-1), 1) := by decide +kernel
theorem dX9_goStop_274 : decode cX9_goStop 274 = .ok (.iand, 1) := by decide +kernel
theorem dX9_goStop_275 : decode cX9_goStop 275 = .ok (.iastore, 1) := by decide +kernel
theorem dX9_goStop_276 : decode cX9_goStop 276 = .ok (.iinc 2 1, 3) := by decide +kernel
theorem dX9_goStop_279 : decode cX9_goStop 279 = .ok (.goto (-109), 3) := by decide +kernel
theorem dX9_goStop_282 : decode cX9_goStop 282 = .ok (.aload_n 0, 1) := by decide +kernel
theorem dX9_goStop_283 : decode cX9_goStop 283 = .ok (.getfield 27, 3) := by decide +kernel
theorem dX9_goStop_286 : decode cX9_goStop 286 = .ok (.bipush 7, 2) := by decide +kernel
theorem dX9_goStop_288 : decode cX9_goStop 288 = .ok (.dup2, 1) := by decide +kernel
theorem dX9_goStop_289 : decode cX9_goStop 289 = .ok (.iaload, 1) := by decide +kernel
theorem dX9_goStop_290 : decode cX9_goStop 290 = .ok (.aload_n 0, 1) := by decide +kernel
theorem dX9_goStop_291 : decode cX9_goStop 291 = .ok (.aload_n 0, 1) := by decide +kernel
theorem dX9_goStop_292 : decode cX9_goStop 292 = .ok (.getfield 27, 3) := by decide +kernel
theorem dX9_goStop_295 : decode cX9_goStop 295 = .ok (.iconst 4, 1) := by decide +kernel
theorem dX9_goStop_296 : decode cX9_goStop 296 = .ok (.iaload, 1) := by decide +kernel
theorem dX9_goStop_297 : decode cX9_goStop 297 = .ok (.iload_n 1, 1) := by decide +kernel
theorem dX9_goStop_298 : decode cX9_goStop 298 = .ok (.invokevirtual 111, 3) := by decide +kernel
theorem dX9_goStop_301 : decode cX9_goStop 301 = .ok (.iadd, 1) := by decide +kernel
theorem dX9_goStop_302 : decode cX9_goStop 302 = .ok (.iastore, 1) := by decide +kernel
theorem dX9_goStop_303 : decode cX9_goStop 303 = .ok (.aload_n 0, 1) := by decide +kernel
theorem dX9_goStop_304 : decode cX9_goStop 304 = .ok (.getfield 27, 3) := by decide +kernel
theorem dX9_goStop_307 : decode cX9_goStop 307 = .ok (.iconst 3, 1) := by decide +kernel
theorem dX9_goStop_308 : decode cX9_goStop 308 = .ok (.dup2, 1) := by decide +kernel
theorem dX9_goStop_309 : decode cX9_goStop 309 = .ok (.iaload, 1) := by decide +kernel
theorem dX9_goStop_310 : decode cX9_goStop 310 = .ok (.iconst 1, 1) := by decide +kernel
theorem dX9_goStop_311 : decode cX9_goStop 311 = .ok (.iadd, 1) := by decide +kernel
theorem dX9_goStop_312 : decode cX9_goStop 312 = .ok (.iastore, 1) := by decide +kernel
theorem dX9_goStop_313 : decode cX9_goStop 313 = .ok (.return_, 1) := by decide +kernel
theorem dX9_goTill_0 : decode cX9_goTill 0 = .ok (.aload_n 0, 1) := by decide +kernel
theorem dX9_goTill_1 : decode cX9_goTill 1 = .ok (.getfield 27, 3) := by decide +kernel
theorem dX9_goTill_4 : decode cX9_goTill 4 = .ok (.iconst 3, 1) := by decide +kernel
theorem dX9_goTill_5 : decode cX9_goTill 5 = .ok (.iaload, 1) := by decide +kernel
theorem dX9_goTill_6 : decode cX9_goTill 6 = .ok (.iload_n 1, 1) := by decide +kernel
theorem dX9_goTill_7 : decode cX9_goTill 7 = .ok (.if_icmp .ge 10, 3) := by decide +kernel
theorem dX9_goTill_10 : decode cX9_goTill 10 = .ok (.aload_n 0, 1) := by decide +kernel
theorem dX9_goTill_11 : decode cX9_goTill 11 = .ok (.invokevirtual 114, 3) := by decide +kernel
theorem dX9_goTill_14 : decode cX9_goTill 14 = .ok (.goto (-14), 3) := by decide +kernel
theorem dX9_goTill_17 : decode cX9_goTill 17 = .ok (.return_, 1) := by decide +kernel
theorem dX9_keep_0 : decode cX9_keep 0 = .ok (.aload_n 0, 1) := by decide +kernel
theorem dX9_keep_1 : decode cX9_keep 1 = .ok (.getfield 7, 3) := by decide +kernel
theorem dX9_keep_4 : decode cX9_keep 4 = .ok (.iconst 2, 1) := by decide +kernel
theorem dX9_keep_5 : decode cX9_keep 5 = .ok (.iaload, 1) := by decide +kernel
theorem dX9_keep_6 : decode cX9_keep 6 = .ok (.bipush 8, 2) := by decide +kernel
theorem dX9_keep_8 : decode cX9_keep 8 = .ok (.if_icmp .ne 43, 3) := by decide +kernel
theorem dX9_keep_11 : decode cX9_keep 11 = .ok (.iconst 0, 1) := by decide +kernel
theorem dX9_keep_12 : decode cX9_keep 12 = .ok (.istore_n 1, 1) := by decide +kernel
theorem dX9_keep_13 : decode cX9_keep 13 = .ok (.iload_n 1, 1) := by decide +kernel
theorem dX9_keep_14 : decode cX9_keep 14 = .ok (.bipush 35, 2) := by decide +kernel
theorem dX9_keep_16 : decode cX9_keep 16 = .ok (.if_icmp .ge 27, 3) := by decide +kernel
theorem dX9_keep_19 : decode cX9_keep 19 = .ok (.aload_n 0, 1) := by decide +kernel
theorem dX9_keep_20 : decode cX9_keep 20 = .ok (.getfield 7, 3) := by decide +kernel
theorem dX9_keep_23 : decode cX9_keep 23 = .ok (.bipush 78, 2) := by decide +kernel
theorem dX9_keep_25 : decode cX9_keep 25 = .ok (.iload_n 1, 1) := by decide +kernel
theorem dX9_keep_26 : decode cX9_keep 26 = .ok (.iadd, 1) := by decide +kernel
theorem dX9_keep_27 : decode cX9_keep 27 = .ok (.aload_n 0, 1) := by decide +kernel
theorem dX9_keep_28 : decode cX9_keep 28 = .ok (.getfield 7, 3) := by decide +kernel
theorem dX9_keep_31 : decode cX9_keep 31 = .ok (.bipush 83, 2) := by decide +kernel
theorem dX9_keep_33 : decode cX9_keep 33 = .ok (.iload_n 1, 1) := by decide +kernel
theorem dX9_keep_34 : decode cX9_keep 34 = .ok (.iadd, 1) := by decide +kernel
theorem dX9_keep_35 : decode cX9_keep 35 = .ok (.iaload, 1) := by decide +kernel
theorem dX9_keep_36 : decode cX9_keep 36 = .ok (.iastore, 1) := by decide +kernel
theorem dX9_keep_37 : decode cX9_keep 37 = .ok (.iinc 1 1, 3) := by decide +kernel
theorem dX9_keep_40 : decode cX9_keep 40 = .ok (.goto (-27), 3) := by decide +kernel
theorem dX9_keep_43 : decode cX9_keep 43 = .ok (.aload_n 0, 1) := by decide +kernel
theorem dX9_keep_44 : decode cX9_keep 44 = .ok (.getfield 7, 3) := by decide +kernel
theorem dX9_keep_47 : decode cX9_keep 47 = .ok (.iconst 2, 1) := by decide +kernel
theorem dX9_keep_48 : decode cX9_keep 48 = .ok (.bipush 7, 2) := by decide +kernel
theorem dX9_keep_50 : decode cX9_keep 50 = .ok (.iastore, 1) := by decide +kernel
theorem dX9_keep_51 : decode cX9_keep 51 = .ok (.iconst 0, 1) := by decide +kernel
theorem dX9_keep_52 : decode cX9_keep 52 = .ok (.istore_n 1, 1) := by decide +kernel
theorem dX9_keep_53 : decode cX9_keep 53 = .ok (.iload_n 1, 1) := by decide +kernel
theorem dX9_keep_54 : decode cX9_keep 54 = .ok (.iconst 5, 1) := by decide +kernel
theorem dX9_keep_55 : decode cX9_keep 55 = .ok (.if_icmp .ge 35, 3) := by decide +kernel
theorem dX9_keep_58 : decode cX9_keep 58 = .ok (.aload_n 0, 1) := by decide +kernel
theorem dX9_keep_59 : decode cX9_keep 59 = .ok (.getfield 7, 3) := by decide +kernel
theorem dX9_keep_62 : decode cX9_keep 62 = .ok (.bipush 78, 2) := by decide +kernel
theorem dX9_keep_64 : decode cX9_keep 64 = .ok (.iconst 5, 1) := by decide +kernel
theorem dX9_keep_65 : decode cX9_keep 65 = .ok (.aload_n 0, 1) := by decide +kernel
theorem dX9_keep_66 : decode cX9_keep 66 = .ok (.getfield 7, 3) := by decide +kernel
theorem dX9_keep_69 : decode cX9_keep 69 = .ok (.iconst 2, 1) := by decide +kernel
theorem dX9_keep_70 : decode cX9_keep 70 = .ok (.iaload, 1) := by decide +kernel
theorem dX9_keep_71 : decode cX9_keep 71 = .ok (.imul, 1) := by decide +kernel
theorem dX9_keep_72 : decode cX9_keep 72 = .ok (.iadd, 1) := by decide +kernel
theorem dX9_keep_73 : decode cX9_keep 73 = .ok (.iload_n 1, 1) := by decide +kernel
theorem dX9_keep_74 : decode cX9_keep 74 = .ok (.iadd, 1) := by decide +kernel
theorem dX9_keep_75 : decode cX9_keep 75 = .ok (.aload_n 0, 1) := by decide +kernel
theorem dX9_keep_76 : decode cX9_keep 76 = .ok (.getfield 7, 3) := by decide +kernel
theorem dX9_keep_79 : decode cX9_keep 79 = .ok (.iconst 3, 1) := by decide +kernel
theorem dX9_keep_80 : decode cX9_keep 80 = .ok (.iload_n 1, 1) := by decide +kernel
theorem dX9_keep_81 : decode cX9_keep 81 = .ok (.iadd, 1) := by decide +kernel
theorem dX9_keep_82 : decode cX9_keep 82 = .ok (.iaload, 1) := by decide +kernel
theorem dX9_keep_83 : decode cX9_keep 83 = .ok (.iastore, 1) := by decide +kernel
theorem dX9_keep_84 : decode cX9_keep 84 = .ok (.iinc 1 1, 3) := by decide +kernel
theorem dX9_keep_87 : decode cX9_keep 87 = .ok (.goto (-34), 3) := by decide +kernel
theorem dX9_keep_90 : decode cX9_keep 90 = .ok (.aload_n 0, 1) := by decide +kernel
theorem dX9_keep_91 : decode cX9_keep 91 = .ok (.getfield 7, 3) := by decide +kernel
theorem dX9_keep_94 : decode cX9_keep 94 = .ok (.iconst 2, 1) := by decide +kernel
theorem dX9_keep_95 : decode cX9_keep 95 = .ok (.dup2, 1) := by decide +kernel
theorem dX9_keep_96 : decode cX9_keep 96 = .ok (.iaload, 1) := by decide +kernel
theorem dX9_keep_97 : decode cX9_keep 97 = .ok (.iconst 1, 1) := by decide +kernel
theorem dX9_keep_98 : decode cX9_keep 98 = .ok (.iadd, 1) := by decide +kernel
theorem dX9_keep_99 : decode cX9_keep 99 = .ok (.iastore, 1) := by decide +kernel
theorem dX9_keep_100 : decode cX9_keep 100 = .ok (.return_, 1) := by decide +kernel
theorem dX9_drive_0 : decode cX9_drive 0 = .ok (.iload_n 1, 1) := by decide +kernel
theorem dX9_drive_1 : decode cX9_drive 1 = .ok (.i2l, 1) := by decide +kernel
theorem dX9_drive_2 : decode cX9_drive 2 = .ok (.lconst 1, 1) := by decide +kernel
theorem dX9_drive_3 : decode cX9_drive 3 = .ok (.ldc2_w 117, 3) := by decide +kernel
theorem dX9_drive_6 : decode cX9_drive 6 = .ok (.invokestatic 56, 3) := by decide +kernel
theorem dX9_drive_9 : decode cX9_drive 9 = .ok (.ifCond .ne 10, 3) := by decide +kernel
theorem dX9_drive_12 : decode cX9_drive 12 = .ok (.aload_n 0, 1) := by decide +kernel
theorem dX9_drive_13 : decode cX9_drive 13 = .ok (.bipush (-2), 2) := by decide +kernel
theorem dX9_drive_15 : decode cX9_drive 15 = .ok (.invokevirtual 64, 3) := by decide +kernel
theorem dX9_drive_18 : decode cX9_drive 18 = .ok (.ireturn, 1) := by decide +kernel
theorem dX9_drive_19 : decode cX9_drive 19 = .ok (.aload_n 0, 1) := by decide +kernel
theorem dX9_drive_20 : decode cX9_drive 20 = .ok (.getfield 7, 3) := by decide +kernel
theorem dX9_drive_23 : decode cX9_drive 23 = .ok (.iconst 3, 1) := by decide +kernel
theorem dX9_drive_24 : decode cX9_drive 24 = .ok (.iaload, 1) := by decide +kernel
theorem dX9_drive_25 : decode cX9_drive 25 = .ok (.iload_n 1, 1) := by decide +kernel
theorem dX9_drive_26 : decode cX9_drive 26 = .ok (.iadd, 1) := by decide +kernel
theorem dX9_drive_27 : decode cX9_drive 27 = .ok (.bipush 10, 2) := by decide +kernel
theorem dX9_drive_29 : decode cX9_drive 29 = .ok (.if_icmp .le 8, 3) := by decide +kernel
theorem dX9_drive_32 : decode cX9_drive 32 = .ok (.aload_n 0, 1) := by decide +kernel
theorem dX9_drive_33 : decode cX9_drive 33 = .ok (.invokevirtual 119, 3) := by decide +kernel
theorem dX9_drive_36 : decode cX9_drive 36 = .ok (.ireturn, 1) := by decide +kernel
theorem dX9_drive_37 : decode cX9_drive 37 = .ok (.aload_n 0, 1) := by decide +kernel
theorem dX9_drive_38 : decode cX9_drive 38 = .ok (.getfield 7, 3) := by decide +kernel
theorem dX9_drive_41 : decode cX9_drive 41 = .ok (.bipush 7, 2) := by decide +kernel
theorem dX9_drive_43 : decode cX9_drive 43 = .ok (.iaload, 1) := by decide +kernel
theorem dX9_drive_44 : decode cX9_drive 44 = .ok (.istore_n 2, 1) := by decide +kernel
theorem dX9_drive_45 : decode cX9_drive 45 = .ok (.aload_n 0, 1) := by decide +kernel
theorem dX9_drive_46 : decode cX9_drive 46 = .ok (.invokevirtual 122, 3) := by decide +kernel
theorem dX9_drive_49 : decode cX9_drive 49 = .ok (.aload_n 0, 1) := by decide +kernel
theorem dX9_drive_50 : decode cX9_drive 50 = .ok (.invokevirtual 90, 3) := by decide +kernel
theorem dX9_drive_53 : decode cX9_drive 53 = .ok (.aload_n 0, 1) := by decide +kernel
theorem dX9_drive_54 : decode cX9_drive 54 = .ok (.aload_n 0, 1) := by decide +kernel
theorem dX9_drive_55 : decode cX9_drive 55 = .ok (.getfield 7, 3) := by decide +kernel
theorem dX9_drive_58 : decode cX9_drive 58 = .ok (.iconst 3, 1) := by decide +kernel
theorem dX9_drive_59 : decode cX9_drive 59 = .ok (.iaload, 1) := by decide +kernel
theorem dX9_drive_60 : decode cX9_drive 60 = .ok (.iload_n 1, 1) := by decide +kernel
theorem dX9_drive_61 : decode cX9_drive 61 = .ok (.iadd, 1) := by decide +kernel
theorem dX9_drive_62 : decode cX9_drive 62 = .ok (.invokevirtual 125, 3) := by decide +kernel
theorem dX9_drive_65 : decode cX9_drive 65 = .ok (.iconst 0, 1) := by decide +kernel
theorem dX9_drive_66 : decode cX9_drive 66 = .ok (.istore_n 3, 1) := by decide +kernel
theorem dX9_drive_67 : decode cX9_drive 67 = .ok (.iload_n 3, 1) := by decide +kernel
theorem dX9_drive_68 : decode cX9_drive 68 = .ok (.iconst 5, 1) := by decide +kernel
theorem dX9_drive_69 : decode cX9_drive 69 = .ok (.if_icmp .ge 25, 3) := by decide +kernel
theorem dX9_drive_72 : decode cX9_drive 72 = .ok (.aload_n 0, 1) := by decide +kernel
theorem dX9_drive_73 : decode cX9_drive 73 = .ok (.getfield 7, 3) := by decide +kernel
theorem dX9_drive_76 : decode cX9_drive 76 = .ok (.iconst 3, 1) := by decide +kernel
theorem dX9_drive_77 : decode cX9_drive 77 = .ok (.iload_n 3, 1) := by decide +kernel
theorem dX9_drive_78 : decode cX9_drive 78 = .ok (.iadd, 1) := by decide +kernel
theorem dX9_drive_79 : decode cX9_drive 79 = .ok (.aload_n 0, 1) := by decide +kernel
theorem dX9_drive_80 : decode cX9_drive 80 = .ok (.getfield 27, 3) := by decide +kernel
theorem dX9_drive_83 : decode cX9_drive 83 = .ok (.iconst 3, 1) := by decide +kernel
theorem dX9_drive_84 : decode cX9_drive 84 = .ok (.iload_n 3, 1) := by decide +kernel
theorem dX9_drive_85 : decode cX9_drive 85 = .ok (.iadd, 1) := by decide +kernel
theorem dX9_drive_86 : decode cX9_drive 86 = .ok (.iaload, 1) := by decide +kernel
theorem dX9_drive_87 : decode cX9_drive 87 = .ok (.iastore, 1) := by decide +kernel
theorem dX9_drive_88 : decode cX9_drive 88 = .ok (.iinc 3 1, 3) := by decide +kernel
theorem dX9_drive_91 : decode cX9_drive 91 = .ok (.goto (-24), 3) := by decide +kernel
theorem dX9_drive_94 : decode cX9_drive 94 = .ok (.aload_n 0, 1) := by decide +kernel
theorem dX9_drive_95 : decode cX9_drive 95 = .ok (.getfield 7, 3) := by decide +kernel
theorem dX9_drive_98 : decode cX9_drive 98 = .ok (.bipush 7, 2) := by decide +kernel
theorem dX9_drive_100 : decode cX9_drive 100 = .ok (.iaload, 1) := by decide +kernel
theorem dX9_drive_101 : decode cX9_drive 101 = .ok (.iload_n 2, 1) := by decide +kernel
theorem dX9_drive_102 : decode cX9_drive 102 = .ok (.isub, 1) := by decide +kernel
theorem dX9_drive_103 : decode cX9_drive 103 = .ok (.ireturn, 1) := by decide +kernel
theorem dX9_puts_0 : decode cX9_puts 0 = .ok (.aload_n 0, 1) := by decide +kernel
theorem dX9_puts_1 : decode cX9_puts 1 = .ok (.iload_n 1, 1) := by decide +kernel
theorem dX9_puts_2 : decode cX9_puts 2 = .ok (.invokevirtual 83, 3) := by decide +kernel
theorem dX9_puts_5 : decode cX9_puts 5 = .ok (.ifCond .ne 10, 3) := by decide +kernel
theorem dX9_puts_8 : decode cX9_puts 8 = .ok (.aload_n 0, 1) := by decide +kernel
theorem dX9_puts_9 : decode cX9_puts 9 = .ok (.bipush (-2), 2) := by decide +kernel
theorem dX9_puts_11 : decode cX9_puts 11 = .ok (.invokevirtual 64, 3) := by decide +kernel
theorem dX9_puts_14 : decode cX9_puts 14 = .ok (.ireturn, 1) := by decide +kernel
theorem dX9_puts_15 : decode cX9_puts 15 = .ok (.aload_n 0, 1) := by decide +kernel
theorem dX9_puts_16 : decode cX9_puts 16 = .ok (.getfield 7, 3) := by decide +kernel
theorem dX9_puts_19 : decode cX9_puts 19 = .ok (.iconst 4, 1) := by decide +kernel
theorem dX9_puts_20 : decode cX9_puts 20 = .ok (.iaload, 1) := by decide +kernel
theorem dX9_puts_21 : decode cX9_puts 21 = .ok (.iload_n 1, 1) := by decide +kernel
theorem dX9_puts_22 : decode cX9_puts 22 = .ok (.invokestatic 97, 3) := by decide +kernel
theorem dX9_puts_25 : decode cX9_puts 25 = .ok (.ifCond .ne 8, 3) := by decide +kernel
theorem dX9_puts_28 : decode cX9_puts 28 = .ok (.aload_n 0, 1) := by decide +kernel
theorem dX9_puts_29 : decode cX9_puts 29 = .ok (.invokevirtual 119, 3) := by decide +kernel
theorem dX9_puts_32 : decode cX9_puts 32 = .ok (.ireturn, 1) := by decide +kernel
theorem dX9_puts_33 : decode cX9_puts 33 = .ok (.aload_n 0, 1) := by decide +kernel
theorem dX9_puts_34 : decode cX9_puts 34 = .ok (.invokevirtual 122, 3) := by decide +kernel
theorem dX9_puts_37 : decode cX9_puts 37 = .ok (.aload_n 0, 1) := by decide +kernel
theorem dX9_puts_38 : decode cX9_puts 38 = .ok (.getfield 7, 3) := by decide +kernel
theorem dX9_puts_41 : decode cX9_puts 41 = .ok (.iconst 4, 1) := by decide +kernel
theorem dX9_puts_42 : decode cX9_puts 42 = .ok (.dup2, 1) := by decide +kernel
theorem dX9_puts_43 : decode cX9_puts 43 = .ok (.iaload, 1) := by decide +kernel
theorem dX9_puts_44 : decode cX9_puts 44 = .ok (.iconst 1, 1) := by decide +kernel
theorem dX9_puts_45 : decode cX9_puts 45 = .ok (.iload_n 1, 1) := by decide +kernel
theorem dX9_puts_46 : decode cX9_puts 46 = .ok (.ishl, 1) := by decide +kernel
theorem dX9_puts_47 : decode cX9_puts 47 = .ok (.iconst (-1), 1) := by decide +kernel
theorem dX9_puts_48 : decode cX9_puts 48 = .ok (.ixor, 1) := by decide +kernel
theorem dX9_puts_49 : decode cX9_puts 49 = .ok (.iand, 1) := by decide +kernel
theorem dX9_puts_50 : decode cX9_puts 50 = .ok (.iastore, 1) := by decide +kernel
theorem dX9_puts_51 : decode cX9_puts 51 = .ok (.aload_n 0, 1) := by decide +kernel
theorem dX9_puts_52 : decode cX9_puts 52 = .ok (.getfield 7, 3) := by decide +kernel
theorem dX9_puts_55 : decode cX9_puts 55 = .ok (.iconst 4, 1) := by decide +kernel
theorem dX9_puts_56 : decode cX9_puts 56 = .ok (.iaload, 1) := by decide +kernel
theorem dX9_puts_57 : decode cX9_puts 57 = .ok (.invokestatic 105, 3) := by decide +kernel
theorem dX9_puts_60 : decode cX9_puts 60 = .ok (.ireturn, 1) := by decide +kernel
theorem dX9_undo_0 : decode cX9_undo 0 = .ok (.aload_n 0, 1) := by decide +kernel
theorem dX9_undo_1 : decode cX9_undo 1 = .ok (.getfield 7, 3) := by decide +kernel
theorem dX9_undo_4 : decode cX9_undo 4 = .ok (.iconst 2, 1) := by decide +kernel
theorem dX9_undo_5 : decode cX9_undo 5 = .ok (.iaload, 1) := by decide +kernel
theorem dX9_undo_6 : decode cX9_undo 6 = .ok (.ifCond .ne 8, 3) := by decide +kernel
theorem dX9_undo_9 : decode cX9_undo 9 = .ok (.aload_n 0, 1) := by decide +kernel
theorem dX9_undo_10 : decode cX9_undo 10 = .ok (.invokevirtual 119, 3) := by decide +kernel
theorem dX9_undo_13 : decode cX9_undo 13 = .ok (.ireturn, 1) := by decide +kernel
theorem dX9_undo_14 : decode cX9_undo 14 = .ok (.aload_n 0, 1) := by decide +kernel
theorem dX9_undo_15 : decode cX9_undo 15 = .ok (.getfield 7, 3) := by decide +kernel
theorem dX9_undo_18 : decode cX9_undo 18 = .ok (.iconst 2, 1) := by decide +kernel
theorem dX9_undo_19 : decode cX9_undo 19 = .ok (.dup2, 1) := by decide +kernel
theorem dX9_undo_20 : decode cX9_undo 20 = .ok (.iaload, 1) := by decide +kernel
theorem dX9_undo_21 : decode cX9_undo 21 = .ok (.iconst 1, 1) := by decide +kernel
theorem dX9_undo_22 : decode cX9_undo 22 = .ok (.isub, 1) := by decide +kernel
theorem dX9_undo_23 : decode cX9_undo 23 = .ok (.iastore, 1) := by decide +kernel
theorem dX9_undo_24 : decode cX9_undo 24 = .ok (.iconst 0, 1) := by decide +kernel
theorem dX9_undo_25 : decode cX9_undo 25 = .ok (.istore_n 1, 1) := by decide +kernel
theorem dX9_undo_26 : decode cX9_undo 26 = .ok (.iload_n 1, 1) := by decide +kernel
theorem dX9_undo_27 : decode cX9_undo 27 = .ok (.iconst 5, 1) := by decide +kernel
theorem dX9_undo_28 : decode cX9_undo 28 = .ok (.if_icmp .ge 35, 3) := by decide +kernel
theorem dX9_undo_31 : decode cX9_undo 31 = .ok (.aload_n 0, 1) := by decide +kernel
theorem dX9_undo_32 : decode cX9_undo 32 = .ok (.getfield 7, 3) := by decide +kernel
theorem dX9_undo_35 : decode cX9_undo 35 = .ok (.iconst 3, 1) := by decide +kernel
theorem dX9_undo_36 : decode cX9_undo 36 = .ok (.iload_n 1, 1) := by decide +kernel
theorem dX9_undo_37 : decode cX9_undo 37 = .ok (.iadd, 1) := by decide +kernel
theorem dX9_undo_38 : decode cX9_undo 38 = .ok (.aload_n 0, 1) := by decide +kernel
theorem dX9_undo_39 : decode cX9_undo 39 = .ok (.getfield 7, 3) := by decide +kernel
theorem dX9_undo_42 : decode cX9_undo 42 = .ok (.bipush 78, 2) := by decide +kernel
theorem dX9_undo_44 : decode cX9_undo 44 = .ok (.iconst 5, 1) := by decide +kernel
theorem dX9_undo_45 : decode cX9_undo 45 = .ok (.aload_n 0, 1) := by decide +kernel
theorem dX9_undo_46 : decode cX9_undo 46 = .ok (.getfield 7, 3) := by decide +kernel
theorem dX9_undo_49 : decode cX9_undo 49 = .ok (.iconst 2, 1) := by decide +kernel
theorem dX9_undo_50 : decode cX9_undo 50 = .ok (.iaload, 1) := by decide +kernel
theorem dX9_undo_51 : decode cX9_undo 51 = .ok (.imul, 1) := by decide +kernel
theorem dX9_undo_52 : decode cX9_undo 52 = .ok (.iadd, 1) := by decide +kernel
theorem dX9_undo_53 : decode cX9_undo 53 = .ok (.iload_n 1, 1) := by decide +kernel
theorem dX9_undo_54 : decode cX9_undo 54 = .ok (.iadd, 1) := by decide +kernel
theorem dX9_undo_55 : decode cX9_undo 55 = .ok (.iaload, 1) := by decide +kernel
theorem dX9_undo_56 : decode cX9_undo 56 = .ok (.iastore, 1) := by decide +kernel
theorem dX9_undo_57 : decode cX9_undo 57 = .ok (.iinc 1 1, 3) := by decide +kernel
theorem dX9_undo_60 : decode cX9_undo 60 = .ok (.goto (-34), 3) := by decide +kernel
theorem dX9_undo_63 : decode cX9_undo 63 = .ok (.aload_n 0, 1) := by decide +kernel
theorem dX9_undo_64 : decode cX9_undo 64 = .ok (.getfield 7, 3) := by decide +kernel
theorem dX9_undo_67 : decode cX9_undo 67 = .ok (.iconst 3, 1) := by decide +kernel
theorem dX9_undo_68 : decode cX9_undo 68 = .ok (.iaload, 1) := by decide +kernel
theorem dX9_undo_69 : decode cX9_undo 69 = .ok (.ireturn, 1) := by decide +kernel
theorem dX9_of_0 : decode cX9_of 0 = .ok (.aload_n 0, 1) := by decide +kernel
theorem dX9_of_1 : decode cX9_of 1 = .ok (.iload_n 1, 1) := by decide +kernel
theorem dX9_of_2 : decode cX9_of 2 = .ok (.invokevirtual 83, 3) := by decide +kernel
theorem dX9_of_5 : decode cX9_of 5 = .ok (.ifCond .eq 15, 3) := by decide +kernel
theorem dX9_of_8 : decode cX9_of 8 = .ok (.iload_n 2, 1) := by decide +kernel
theorem dX9_of_9 : decode cX9_of 9 = .ok (.i2l, 1) := by decide +kernel
theorem dX9_of_10 : decode cX9_of 10 = .ok (.lconst 0, 1) := by decide +kernel
theorem dX9_of_11 : decode cX9_of 11 = .ok (.ldc2_w 72, 3) := by decide +kernel
theorem dX9_of_14 : decode cX9_of 14 = .ok (.invokestatic 56, 3) := by decide +kernel
theorem dX9_of_17 : decode cX9_of 17 = .ok (.ifCond .ne 10, 3) := by decide +kernel
theorem dX9_of_20 : decode cX9_of 20 = .ok (.aload_n 0, 1) := by decide +kernel
theorem dX9_of_21 : decode cX9_of 21 = .ok (.bipush (-2), 2) := by decide +kernel
theorem dX9_of_23 : decode cX9_of 23 = .ok (.invokevirtual 64, 3) := by decide +kernel
theorem dX9_of_26 : decode cX9_of 26 = .ok (.ireturn, 1) := by decide +kernel
theorem dX9_of_27 : decode cX9_of 27 = .ok (.iload_n 2, 1) := by decide +kernel
theorem dX9_of_28 : decode cX9_of 28 = .ok (.tableswitch 87 0 4 #[36, 46, 56, 66, 76], 36) := by decide +kernel
theorem dX9_of_64 : decode cX9_of 64 = .ok (.aload_n 0, 1) := by decide +kernel
theorem dX9_of_65 : decode cX9_of 65 = .ok (.getfield 7, 3) := by decide +kernel
theorem dX9_of_68 : decode cX9_of 68 = .ok (.bipush 19, 2) := by decide +kernel
theorem dX9_of_70 : decode cX9_of 70 = .ok (.iload_n 1, 1) := by decide +kernel
theorem dX9_of_71 : decode cX9_of 71 = .ok (.iadd, 1) := by decide +kernel
theorem dX9_of_72 : decode cX9_of 72 = .ok (.iaload, 1) := by decide +kernel
theorem dX9_of_73 : decode cX9_of 73 = .ok (.ireturn, 1) := by decide +kernel
theorem dX9_of_74 : decode cX9_of 74 = .ok (.aload_n 0, 1) := by decide +kernel
theorem dX9_of_75 : decode cX9_of 75 = .ok (.getfield 7, 3) := by decide +kernel
theorem dX9_of_78 : decode cX9_of 78 = .ok (.bipush 26, 2) := by decide +kernel
theorem dX9_of_80 : decode cX9_of 80 = .ok (.iload_n 1, 1) := by decide +kernel
theorem dX9_of_81 : decode cX9_of 81 = .ok (.iadd, 1) := by decide +kernel
theorem dX9_of_82 : decode cX9_of 82 = .ok (.iaload, 1) := by decide +kernel
theorem dX9_of_83 : decode cX9_of 83 = .ok (.ireturn, 1) := by decide +kernel
theorem dX9_of_84 : decode cX9_of 84 = .ok (.aload_n 0, 1) := by decide +kernel
theorem dX9_of_85 : decode cX9_of 85 = .ok (.getfield 7, 3) := by decide +kernel
theorem dX9_of_88 : decode cX9_of 88 = .ok (.bipush 33, 2) := by decide +kernel
theorem dX9_of_90 : decode cX9_of 90 = .ok (.iload_n 1, 1) := by decide +kernel
theorem dX9_of_91 : decode cX9_of 91 = .ok (.iadd, 1) := by decide +kernel
theorem dX9_of_92 : decode cX9_of 92 = .ok (.iaload, 1) := by decide +kernel
theorem dX9_of_93 : decode cX9_of 93 = .ok (.ireturn, 1) := by decide +kernel
theorem dX9_of_94 : decode cX9_of 94 = .ok (.aload_n 0, 1) := by decide +kernel
theorem dX9_of_95 : decode cX9_of 95 = .ok (.getfield 7, 3) := by decide +kernel
theorem dX9_of_98 : decode cX9_of 98 = .ok (.bipush 40, 2) := by decide +kernel
theorem dX9_of_100 : decode cX9_of 100 = .ok (.iload_n 1, 1) := by decide +kernel
theorem dX9_of_101 : decode cX9_of 101 = .ok (.iadd, 1) := by decide +kernel
theorem dX9_of_102 : decode cX9_of 102 = .ok (.iaload, 1) := by decide +kernel
theorem dX9_of_103 : decode cX9_of 103 = .ok (.ireturn, 1) := by decide +kernel
theorem dX9_of_104 : decode cX9_of 104 = .ok (.aload_n 0, 1) := by decide +kernel
theorem dX9_of_105 : decode cX9_of 105 = .ok (.getfield 7, 3) := by decide +kernel
theorem dX9_of_108 : decode cX9_of 108 = .ok (.iconst 4, 1) := by decide +kernel
theorem dX9_of_109 : decode cX9_of 109 = .ok (.iaload, 1) := by decide +kernel
theorem dX9_of_110 : decode cX9_of 110 = .ok (.iload_n 1, 1) := by decide +kernel
theorem dX9_of_111 : decode cX9_of 111 = .ok (.ishr, 1) := by decide +kernel
theorem dX9_of_112 : decode cX9_of 112 = .ok (.iconst 1, 1) := by decide +kernel
theorem dX9_of_113 : decode cX9_of 113 = .ok (.iand, 1) := by decide +kernel
theorem dX9_of_114 : decode cX9_of 114 = .ok (.ireturn, 1) := by decide +kernel
theorem dX9_of_115 : decode cX9_of 115 = .ok (.aload_n 0, 1) := by decide +kernel
theorem dX9_of_116 : decode cX9_of 116 = .ok (.getfield 7, 3) := by decide +kernel
theorem dX9_of_119 : decode cX9_of 119 = .ok (.bipush 47, 2) := by decide +kernel
theorem dX9_of_121 : decode cX9_of 121 = .ok (.iload_n 1, 1) := by decide +kernel
theorem dX9_of_122 : decode cX9_of 122 = .ok (.iadd, 1) := by decide +kernel
theorem dX9_of_123 : decode cX9_of 123 = .ok (.iaload, 1) := by decide +kernel
theorem dX9_of_124 : decode cX9_of 124 = .ok (.ireturn, 1) := by decide +kernel
theorem dX9_sways_0 : decode cX9_sways 0 = .ok (.aload_n 0, 1) := by decide +kernel
theorem dX9_sways_1 : decode cX9_sways 1 = .ok (.iload_n 1, 1) := by decide +kernel
theorem dX9_sways_2 : decode cX9_sways 2 = .ok (.invokevirtual 83, 3) := by decide +kernel
theorem dX9_sways_5 : decode cX9_sways 5 = .ok (.ifCond .eq 20, 3) := by decide +kernel
theorem dX9_sways_8 : decode cX9_sways 8 = .ok (.iload_n 2, 1) := by decide +kernel
theorem dX9_sways_9 : decode cX9_sways 9 = .ok (.invokestatic 68, 3) := by decide +kernel
theorem dX9_sways_12 : decode cX9_sways 12 = .ok (.ifCond .eq 13, 3) := by decide +kernel
theorem dX9_sways_15 : decode cX9_sways 15 = .ok (.iload_n 3, 1) := by decide +kernel
theorem dX9_sways_16 : decode cX9_sways 16 = .ok (.i2l, 1) := by decide +kernel
theorem dX9_sways_17 : decode cX9_sways 17 = .ok (.lconst 0, 1) := by decide +kernel
theorem dX9_sways_18 : decode cX9_sways 18 = .ok (.lconst 1, 1) := by decide +kernel
theorem dX9_sways_19 : decode cX9_sways 19 = .ok (.invokestatic 56, 3) := by decide +kernel
theorem dX9_sways_22 : decode cX9_sways 22 = .ok (.ifCond .ne 10, 3) := by decide +kernel
theorem dX9_sways_25 : decode cX9_sways 25 = .ok (.aload_n 0, 1) := by decide +kernel
theorem dX9_sways_26 : decode cX9_sways 26 = .ok (.bipush (-2), 2) := by decide +kernel
theorem dX9_sways_28 : decode cX9_sways 28 = .ok (.invokevirtual 64, 3) := by decide +kernel
theorem dX9_sways_31 : decode cX9_sways 31 = .ok (.ireturn, 1) := by decide +kernel
theorem dX9_sways_32 : decode cX9_sways 32 = .ok (.iload_n 3, 1) := by decide +kernel
theorem dX9_sways_33 : decode cX9_sways 33 = .ok (.ifCond .ne 28, 3) := by decide +kernel
theorem dX9_sways_36 : decode cX9_sways 36 = .ok (.aload_n 0, 1) := by decide +kernel
theorem dX9_sways_37 : decode cX9_sways 37 = .ok (.getfield 7, 3) := by decide +kernel
theorem dX9_sways_40 : decode cX9_sways 40 = .ok (.bipush 19, 2) := by decide +kernel
theorem dX9_sways_42 : decode cX9_sways 42 = .ok (.iload_n 1, 1) := by decide +kernel
theorem dX9_sways_43 : decode cX9_sways 43 = .ok (.iadd, 1) := by decide +kernel
theorem dX9_sways_44 : decode cX9_sways 44 = .ok (.iaload, 1) := by decide +kernel
theorem dX9_sways_45 : decode cX9_sways 45 = .ok (.aload_n 0, 1) := by decide +kernel
theorem dX9_sways_46 : decode cX9_sways 46 = .ok (.getfield 7, 3) := by decide +kernel
theorem dX9_sways_49 : decode cX9_sways 49 = .ok (.bipush 26, 2) := by decide +kernel
theorem dX9_sways_51 : decode cX9_sways 51 = .ok (.iload_n 1, 1) := by decide +kernel
theorem dX9_sways_52 : decode cX9_sways 52 = .ok (.iadd, 1) := by decide +kernel
theorem dX9_sways_53 : decode cX9_sways 53 = .ok (.iaload, 1) := by decide +kernel
theorem dX9_sways_54 : decode cX9_sways 54 = .ok (.iload_n 2, 1) := by decide +kernel
theorem dX9_sways_55 : decode cX9_sways 55 = .ok (.invokestatic 93, 3) := by decide +kernel
theorem dX9_sways_58 : decode cX9_sways 58 = .ok (.goto 16, 3) := by decide +kernel
theorem dX9_sways_61 : decode cX9_sways 61 = .ok (.aload_n 0, 1) := by decide +kernel
theorem dX9_sways_62 : decode cX9_sways 62 = .ok (.getfield 7, 3) := by decide +kernel
theorem dX9_sways_65 : decode cX9_sways 65 = .ok (.bipush 19, 2) := by decide +kernel
theorem dX9_sways_67 : decode cX9_sways 67 = .ok (.iload_n 1, 1) := by decide +kernel
theorem dX9_sways_68 : decode cX9_sways 68 = .ok (.iadd, 1) := by decide +kernel
theorem dX9_sways_69 : decode cX9_sways 69 = .ok (.iaload, 1) := by decide +kernel
theorem dX9_sways_70 : decode cX9_sways 70 = .ok (.iload_n 2, 1) := by decide +kernel
theorem dX9_sways_71 : decode cX9_sways 71 = .ok (.invokestatic 108, 3) := by decide +kernel
theorem dX9_sways_74 : decode cX9_sways 74 = .ok (.ireturn, 1) := by decide +kernel
theorem dX9_now_0 : decode cX9_now 0 = .ok (.iload_n 1, 1) := by decide +kernel
theorem dX9_now_1 : decode cX9_now 1 = .ok (.i2l, 1) := by decide +kernel
theorem dX9_now_2 : decode cX9_now 2 = .ok (.lconst 0, 1) := by decide +kernel
theorem dX9_now_3 : decode cX9_now 3 = .ok (.ldc2_w 129, 3) := by decide +kernel
theorem dX9_now_6 : decode cX9_now 6 = .ok (.invokestatic 56, 3) := by decide +kernel
theorem dX9_now_9 : decode cX9_now 9 = .ok (.ifCond .eq 14, 3) := by decide +kernel
theorem dX9_now_12 : decode cX9_now 12 = .ok (.aload_n 0, 1) := by decide +kernel
theorem dX9_now_13 : decode cX9_now 13 = .ok (.getfield 7, 3) := by decide +kernel
theorem dX9_now_16 : decode cX9_now 16 = .ok (.iconst 3, 1) := by decide +kernel
theorem dX9_now_17 : decode cX9_now 17 = .ok (.iload_n 1, 1) := by decide +kernel
theorem dX9_now_18 : decode cX9_now 18 = .ok (.iadd, 1) := by decide +kernel
theorem dX9_now_19 : decode cX9_now 19 = .ok (.iaload, 1) := by decide +kernel
theorem dX9_now_20 : decode cX9_now 20 = .ok (.goto 9, 3) := by decide +kernel
theorem dX9_now_23 : decode cX9_now 23 = .ok (.aload_n 0, 1) := by decide +kernel
theorem dX9_now_24 : decode cX9_now 24 = .ok (.bipush (-2), 2) := by decide +kernel
theorem dX9_now_26 : decode cX9_now 26 = .ok (.invokevirtual 64, 3) := by decide +kernel
theorem dX9_now_29 : decode cX9_now 29 = .ok (.ireturn, 1) := by decide +kernel
theorem dX9_then_0 : decode cX9_then 0 = .ok (.iload_n 1, 1) := by decide +kernel
theorem dX9_then_1 : decode cX9_then 1 = .ok (.i2l, 1) := by decide +kernel
theorem dX9_then_2 : decode cX9_then 2 = .ok (.aload_n 0, 1) := by decide +kernel
theorem dX9_then_3 : decode cX9_then 3 = .ok (.getfield 7, 3) := by decide +kernel
theorem dX9_then_6 : decode cX9_then 6 = .ok (.iconst 3, 1) := by decide +kernel
theorem dX9_then_7 : decode cX9_then 7 = .ok (.iaload, 1) := by decide +kernel
theorem dX9_then_8 : decode cX9_then 8 = .ok (.i2l, 1) := by decide +kernel
theorem dX9_then_9 : decode cX9_then 9 = .ok (.ldc2_w 60, 3) := by decide +kernel
theorem dX9_then_12 : decode cX9_then 12 = .ok (.invokestatic 56, 3) := by decide +kernel
theorem dX9_then_15 : decode cX9_then 15 = .ok (.ifCond .eq 15, 3) := by decide +kernel
theorem dX9_then_18 : decode cX9_then 18 = .ok (.iload_n 2, 1) := by decide +kernel
theorem dX9_then_19 : decode cX9_then 19 = .ok (.i2l, 1) := by decide +kernel
theorem dX9_then_20 : decode cX9_then 20 = .ok (.lconst 0, 1) := by decide +kernel
theorem dX9_then_21 : decode cX9_then 21 = .ok (.ldc2_w 131, 3) := by decide +kernel
theorem dX9_then_24 : decode cX9_then 24 = .ok (.invokestatic 56, 3) := by decide +kernel
theorem dX9_then_27 : decode cX9_then 27 = .ok (.ifCond .ne 10, 3) := by decide +kernel
theorem dX9_then_30 : decode cX9_then 30 = .ok (.aload_n 0, 1) := by decide +kernel
theorem dX9_then_31 : decode cX9_then 31 = .ok (.bipush (-2), 2) := by decide +kernel
theorem dX9_then_33 : decode cX9_then 33 = .ok (.invokevirtual 64, 3) := by decide +kernel
theorem dX9_then_36 : decode cX9_then 36 = .ok (.ireturn, 1) := by decide +kernel
theorem dX9_then_37 : decode cX9_then 37 = .ok (.aload_n 0, 1) := by decide +kernel
theorem dX9_then_38 : decode cX9_then 38 = .ok (.invokevirtual 90, 3) := by decide +kernel
theorem dX9_then_41 : decode cX9_then 41 = .ok (.aload_n 0, 1) := by decide +kernel
theorem dX9_then_42 : decode cX9_then 42 = .ok (.iload_n 1, 1) := by decide +kernel
theorem dX9_then_43 : decode cX9_then 43 = .ok (.iconst 1, 1) := by decide +kernel
theorem dX9_then_44 : decode cX9_then 44 = .ok (.iadd, 1) := by decide +kernel
theorem dX9_then_45 : decode cX9_then 45 = .ok (.invokevirtual 125, 3) := by decide +kernel
theorem dX9_then_48 : decode cX9_then 48 = .ok (.iload_n 2, 1) := by decide +kernel
theorem dX9_then_49 : decode cX9_then 49 = .ok (.ifCond .ne 12, 3) := by decide +kernel
theorem dX9_then_52 : decode cX9_then 52 = .ok (.aload_n 0, 1) := by decide +kernel
theorem dX9_then_53 : decode cX9_then 53 = .ok (.getfield 27, 3) := by decide +kernel
theorem dX9_then_56 : decode cX9_then 56 = .ok (.iconst 4, 1) := by decide +kernel
theorem dX9_then_57 : decode cX9_then 57 = .ok (.iaload, 1) := by decide +kernel
theorem dX9_then_58 : decode cX9_then 58 = .ok (.goto 29, 3) := by decide +kernel
theorem dX9_then_61 : decode cX9_then 61 = .ok (.iload_n 2, 1) := by decide +kernel
theorem dX9_then_62 : decode cX9_then 62 = .ok (.iconst 1, 1) := by decide +kernel
theorem dX9_then_63 : decode cX9_then 63 = .ok (.if_icmp .ne 17, 3) := by decide +kernel
theorem dX9_then_66 : decode cX9_then 66 = .ok (.aload_n 0, 1) := by decide +kernel
theorem dX9_then_67 : decode cX9_then 67 = .ok (.aload_n 0, 1) := by decide +kernel
theorem dX9_then_68 : decode cX9_then 68 = .ok (.getfield 27, 3) := by decide +kernel
theorem dX9_then_71 : decode cX9_then 71 = .ok (.iconst 4, 1) := by decide +kernel
theorem dX9_then_72 : decode cX9_then 72 = .ok (.iaload, 1) := by decide +kernel
theorem dX9_then_73 : decode cX9_then 73 = .ok (.iload_n 1, 1) := by decide +kernel
theorem dX9_then_74 : decode cX9_then 74 = .ok (.invokevirtual 111, 3) := by decide +kernel
theorem dX9_then_77 : decode cX9_then 77 = .ok (.goto 10, 3) := by decide +kernel
theorem dX9_then_80 : decode cX9_then 80 = .ok (.aload_n 0, 1) := by decide +kernel
theorem dX9_then_81 : decode cX9_then 81 = .ok (.getfield 27, 3) := by decide +kernel
theorem dX9_then_84 : decode cX9_then 84 = .ok (.bipush 7, 2) := by decide +kernel
theorem dX9_then_86 : decode cX9_then 86 = .ok (.iaload, 1) := by decide +kernel
theorem dX9_then_87 : decode cX9_then 87 = .ok (.ireturn, 1) := by decide +kernel
theorem dX9_end_0 : decode cX9_end 0 = .ok (.iload_n 1, 1) := by decide +kernel
theorem dX9_end_1 : decode cX9_end 1 = .ok (.i2l, 1) := by decide +kernel
theorem dX9_end_2 : decode cX9_end 2 = .ok (.lconst 0, 1) := by decide +kernel
theorem dX9_end_3 : decode cX9_end 3 = .ok (.ldc2_w 131, 3) := by decide +kernel
theorem dX9_end_6 : decode cX9_end 6 = .ok (.invokestatic 56, 3) := by decide +kernel
theorem dX9_end_9 : decode cX9_end 9 = .ok (.ifCond .ne 10, 3) := by decide +kernel
theorem dX9_end_12 : decode cX9_end 12 = .ok (.aload_n 0, 1) := by decide +kernel
theorem dX9_end_13 : decode cX9_end 13 = .ok (.bipush (-2), 2) := by decide +kernel
theorem dX9_end_15 : decode cX9_end 15 = .ok (.invokevirtual 64, 3) := by decide +kernel
theorem dX9_end_18 : decode cX9_end 18 = .ok (.ireturn, 1) := by decide +kernel
theorem dX9_end_19 : decode cX9_end 19 = .ok (.aload_n 0, 1) := by decide +kernel
theorem dX9_end_20 : decode cX9_end 20 = .ok (.invokevirtual 90, 3) := by decide +kernel
theorem dX9_end_23 : decode cX9_end 23 = .ok (.aload_n 0, 1) := by decide +kernel
theorem dX9_end_24 : decode cX9_end 24 = .ok (.bipush 10, 2) := by decide +kernel
theorem dX9_end_26 : decode cX9_end 26 = .ok (.invokevirtual 125, 3) := by decide +kernel
theorem dX9_end_29 : decode cX9_end 29 = .ok (.aload_n 0, 1) := by decide +kernel
theorem dX9_end_30 : decode cX9_end 30 = .ok (.getfield 27, 3) := by decide +kernel
theorem dX9_end_33 : decode cX9_end 33 = .ok (.iload_n 1, 1) := by decide +kernel
theorem dX9_end_34 : decode cX9_end 34 = .ok (.ifCond .ne 7, 3) := by decide +kernel
theorem dX9_end_37 : decode cX9_end 37 = .ok (.iconst 5, 1) := by decide +kernel
theorem dX9_end_38 : decode cX9_end 38 = .ok (.goto 15, 3) := by decide +kernel
theorem dX9_end_41 : decode cX9_end 41 = .ok (.iload_n 1, 1) := by decide +kernel
theorem dX9_end_42 : decode cX9_end 42 = .ok (.iconst 1, 1) := by decide +kernel
theorem dX9_end_43 : decode cX9_end 43 = .ok (.if_icmp .ne 8, 3) := by decide +kernel
theorem dX9_end_46 : decode cX9_end 46 = .ok (.bipush 6, 2) := by decide +kernel
theorem dX9_end_48 : decode cX9_end 48 = .ok (.goto 5, 3) := by decide +kernel
theorem dX9_end_51 : decode cX9_end 51 = .ok (.bipush 7, 2) := by decide +kernel
theorem dX9_end_53 : decode cX9_end 53 = .ok (.iaload, 1) := by decide +kernel
theorem dX9_end_54 : decode cX9_end 54 = .ok (.ireturn, 1) := by decide +kernel
theorem dX9_layDecks_0 : decode cX9_layDecks 0 = .ok (.iload_n 1, 1) := by decide +kernel
theorem dX9_layDecks_1 : decode cX9_layDecks 1 = .ok (.istore_n 3, 1) := by decide +kernel
theorem dX9_layDecks_2 : decode cX9_layDecks 2 = .ok (.iconst 1, 1) := by decide +kernel
theorem dX9_layDecks_3 : decode cX9_layDecks 3 = .ok (.istore 4, 2) := by decide +kernel
theorem dX9_layDecks_5 : decode cX9_layDecks 5 = .ok (.aload_n 0, 1) := by decide +kernel
theorem dX9_layDecks_6 : decode cX9_layDecks 6 = .ok (.invokevirtual 52, 3) := by decide +kernel
theorem dX9_layDecks_9 : decode cX9_layDecks 9 = .ok (.iconst 1, 1) := by decide +kernel
theorem dX9_layDecks_10 : decode cX9_layDecks 10 = .ok (.isub, 1) := by decide +kernel
theorem dX9_layDecks_11 : decode cX9_layDecks 11 = .ok (.istore 5, 2) := by decide +kernel
theorem dX9_layDecks_13 : decode cX9_layDecks 13 = .ok (.iload 5, 2) := by decide +kernel
theorem dX9_layDecks_15 : decode cX9_layDecks 15 = .ok (.ifCond .lt 91, 3) := by decide +kernel
theorem dX9_layDecks_18 : decode cX9_layDecks 18 = .ok (.aload_n 0, 1) := by decide +kernel
theorem dX9_layDecks_19 : decode cX9_layDecks 19 = .ok (.getfield 30, 3) := by decide +kernel
theorem dX9_layDecks_22 : decode cX9_layDecks 22 = .ok (.iload 5, 2) := by decide +kernel
theorem dX9_layDecks_24 : decode cX9_layDecks 24 = .ok (.iload_n 3, 1) := by decide +kernel
theorem dX9_layDecks_25 : decode cX9_layDecks 25 = .ok (.iload_n 2, 1) := by decide +kernel
theorem dX9_layDecks_26 : decode cX9_layDecks 26 = .ok (.irem, 1) := by decide +kernel
theorem dX9_layDecks_27 : decode cX9_layDecks 27 = .ok (.iastore, 1) := by decide +kernel
theorem dX9_layDecks_28 : decode cX9_layDecks 28 = .ok (.iload_n 3, 1) := by decide +kernel
theorem dX9_layDecks_29 : decode cX9_layDecks 29 = .ok (.iload_n 2, 1) := by decide +kernel
theorem dX9_layDecks_30 : decode cX9_layDecks 30 = .ok (.idiv, 1) := by decide +kernel
theorem dX9_layDecks_31 : decode cX9_layDecks 31 = .ok (.istore_n 3, 1) := by decide +kernel
theorem dX9_layDecks_32 : decode cX9_layDecks 32 = .ok (.iload 5, 2) := by decide +kernel
theorem dX9_layDecks_34 : decode cX9_layDecks 34 = .ok (.iconst 1, 1) := by decide +kernel
theorem dX9_layDecks_35 : decode cX9_layDecks 35 = .ok (.iadd, 1) := by decide +kernel
theorem dX9_layDecks_36 : decode cX9_layDecks 36 = .ok (.istore 6, 2) := by decide +kernel
theorem dX9_layDecks_38 : decode cX9_layDecks 38 = .ok (.iload 6, 2) := by decide +kernel
theorem dX9_layDecks_40 : decode cX9_layDecks 40 = .ok (.aload_n 0, 1) := by decide +kernel
theorem dX9_layDecks_41 : decode cX9_layDecks 41 = .ok (.invokevirtual 52, 3) := by decide +kernel
theorem dX9_layDecks_44 : decode cX9_layDecks 44 = .ok (.if_icmp .ge 56, 3) := by decide +kernel
theorem dX9_layDecks_47 : decode cX9_layDecks 47 = .ok (.iload 4, 2) := by decide +kernel
theorem dX9_layDecks_49 : decode cX9_layDecks 49 = .ok (.ifCond .eq 42, 3) := by decide +kernel
theorem dX9_layDecks_52 : decode cX9_layDecks 52 = .ok (.aload_n 0, 1) := by decide +kernel
theorem dX9_layDecks_53 : decode cX9_layDecks 53 = .ok (.getfield 30, 3) := by decide +kernel
theorem dX9_layDecks_56 : decode cX9_layDecks 56 = .ok (.iload 6, 2) := by decide +kernel
theorem dX9_layDecks_58 : decode cX9_layDecks 58 = .ok (.iaload, 1) := by decide +kernel
theorem dX9_layDecks_59 : decode cX9_layDecks 59 = .ok (.aload_n 0, 1) := by decide +kernel
theorem dX9_layDecks_60 : decode cX9_layDecks 60 = .ok (.getfield 30, 3) := by decide +kernel
theorem dX9_layDecks_63 : decode cX9_layDecks 63 = .ok (.iload 5, 2) := by decide +kernel
theorem dX9_layDecks_65 : decode cX9_layDecks 65 = .ok (.iaload, 1) := by decide +kernel
theorem dX9_layDecks_66 : decode cX9_layDecks 66 = .ok (.if_icmp .ne 21, 3) := by decide +kernel
theorem dX9_layDecks_69 : decode cX9_layDecks 69 = .ok (.aload_n 0, 1) := by decide +kernel
theorem dX9_layDecks_70 : decode cX9_layDecks 70 = .ok (.getfield 7, 3) := by decide +kernel
theorem dX9_layDecks_73 : decode cX9_layDecks 73 = .ok (.bipush 47, 2) := by decide +kernel
theorem dX9_layDecks_75 : decode cX9_layDecks 75 = .ok (.iload 5, 2) := by decide +kernel
theorem dX9_layDecks_77 : decode cX9_layDecks 77 = .ok (.iadd, 1) := by decide +kernel
theorem dX9_layDecks_78 : decode cX9_layDecks 78 = .ok (.iaload, 1) := by decide +kernel
theorem dX9_layDecks_79 : decode cX9_layDecks 79 = .ok (.iload 6, 2) := by decide +kernel
theorem dX9_layDecks_81 : decode cX9_layDecks 81 = .ok (.invokestatic 97, 3) := by decide +kernel
theorem dX9_layDecks_84 : decode cX9_layDecks 84 = .ok (.ifCond .ne 7, 3) := by decide +kernel
theorem dX9_layDecks_87 : decode cX9_layDecks 87 = .ok (.iconst 1, 1) := by decide +kernel
theorem dX9_layDecks_88 : decode cX9_layDecks 88 = .ok (.goto 4, 3) := by decide +kernel
theorem dX9_layDecks_91 : decode cX9_layDecks 91 = .ok (.iconst 0, 1) := by decide +kernel
theorem dX9_layDecks_92 : decode cX9_layDecks 92 = .ok (.istore 4, 2) := by decide +kernel
theorem dX9_layDecks_94 : decode cX9_layDecks 94 = .ok (.iinc 6 1, 3) := by decide +kernel
theorem dX9_layDecks_97 : decode cX9_layDecks 97 = .ok (.goto (-59), 3) := by decide +kernel
theorem dX9_layDecks_100 : decode cX9_layDecks 100 = .ok (.iinc 5 (-1), 3) := by decide +kernel
theorem dX9_layDecks_103 : decode cX9_layDecks 103 = .ok (.goto (-90), 3) := by decide +kernel
theorem dX9_layDecks_106 : decode cX9_layDecks 106 = .ok (.iload 4, 2) := by decide +kernel
theorem dX9_layDecks_108 : decode cX9_layDecks 108 = .ok (.ireturn, 1) := by decide +kernel
theorem dX9_fewestDecks_0 : decode cX9_fewestDecks 0 = .ok (.iconst 1, 1) := by decide +kernel
theorem dX9_fewestDecks_1 : decode cX9_fewestDecks 1 = .ok (.istore_n 1, 1) := by decide +kernel
theorem dX9_fewestDecks_2 : decode cX9_fewestDecks 2 = .ok (.iload_n 1, 1) := by decide +kernel
theorem dX9_fewestDecks_3 : decode cX9_fewestDecks 3 = .ok (.aload_n 0, 1) := by decide +kernel
theorem dX9_fewestDecks_4 : decode cX9_fewestDecks 4 = .ok (.invokevirtual 52, 3) := by decide +kernel
theorem dX9_fewestDecks_7 : decode cX9_fewestDecks 7 = .ok (.if_icmp .ge 55, 3) := by decide +kernel
theorem dX9_fewestDecks_10 : decode cX9_fewestDecks 10 = .ok (.iconst 1, 1) := by decide +kernel
theorem dX9_fewestDecks_11 : decode cX9_fewestDecks 11 = .ok (.istore_n 2, 1) := by decide +kernel
theorem dX9_fewestDecks_12 : decode cX9_fewestDecks 12 = .ok (.iconst 0, 1) := by decide +kernel
theorem dX9_fewestDecks_13 : decode cX9_fewestDecks 13 = .ok (.istore_n 3, 1) := by decide +kernel
theorem dX9_fewestDecks_14 : decode cX9_fewestDecks 14 = .ok (.iload_n 3, 1) := by decide +kernel
theorem dX9_fewestDecks_15 : decode cX9_fewestDecks 15 = .ok (.aload_n 0, 1) := by decide +kernel
theorem dX9_fewestDecks_16 : decode cX9_fewestDecks 16 = .ok (.invokevirtual 52, 3) := by decide +kernel
theorem dX9_fewestDecks_19 : decode cX9_fewestDecks 19 = .ok (.if_icmp .ge 13, 3) := by decide +kernel
theorem dX9_fewestDecks_22 : decode cX9_fewestDecks 22 = .ok (.iload_n 2, 1) := by decide +kernel
theorem dX9_fewestDecks_23 : decode cX9_fewestDecks 23 = .ok (.iload_n 1, 1) := by decide +kernel
theorem dX9_fewestDecks_24 : decode cX9_fewestDecks 24 = .ok (.imul, 1) := by decide +kernel
theorem dX9_fewestDecks_25 : decode cX9_fewestDecks 25 = .ok (.istore_n 2, 1) := by decide +kernel
theorem dX9_fewestDecks_26 : decode cX9_fewestDecks 26 = .ok (.iinc 3 1, 3) := by decide +kernel
theorem dX9_fewestDecks_29 : decode cX9_fewestDecks 29 = .ok (.goto (-15), 3) := by decide +kernel
theorem dX9_fewestDecks_32 : decode cX9_fewestDecks 32 = .ok (.iconst 0, 1) := by decide +kernel
theorem dX9_fewestDecks_33 : decode cX9_fewestDecks 33 = .ok (.istore_n 3, 1) := by decide +kernel
theorem dX9_fewestDecks_34 : decode cX9_fewestDecks 34 = .ok (.iload_n 3, 1) := by decide +kernel
theorem dX9_fewestDecks_35 : decode cX9_fewestDecks 35 = .ok (.iload_n 2, 1) := by decide +kernel
theorem dX9_fewestDecks_36 : decode cX9_fewestDecks 36 = .ok (.if_icmp .ge 20, 3) := by decide +kernel
theorem dX9_fewestDecks_39 : decode cX9_fewestDecks 39 = .ok (.aload_n 0, 1) := by decide +kernel
theorem dX9_fewestDecks_40 : decode cX9_fewestDecks 40 = .ok (.iload_n 3, 1) := by decide +kernel
theorem dX9_fewestDecks_41 : decode cX9_fewestDecks 41 = .ok (.iload_n 1, 1) := by decide +kernel
theorem dX9_fewestDecks_42 : decode cX9_fewestDecks 42 = .ok (.invokevirtual 133, 3) := by decide +kernel
theorem dX9_fewestDecks_45 : decode cX9_fewestDecks 45 = .ok (.ifCond .eq 5, 3) := by decide +kernel
theorem dX9_fewestDecks_48 : decode cX9_fewestDecks 48 = .ok (.iload_n 1, 1) := by decide +kernel
theorem dX9_fewestDecks_49 : decode cX9_fewestDecks 49 = .ok (.ireturn, 1) := by decide +kernel
theorem dX9_fewestDecks_50 : decode cX9_fewestDecks 50 = .ok (.iinc 3 1, 3) := by decide +kernel
theorem dX9_fewestDecks_53 : decode cX9_fewestDecks 53 = .ok (.goto (-19), 3) := by decide +kernel
theorem dX9_fewestDecks_56 : decode cX9_fewestDecks 56 = .ok (.iinc 1 1, 3) := by decide +kernel
theorem dX9_fewestDecks_59 : decode cX9_fewestDecks 59 = .ok (.goto (-57), 3) := by decide +kernel
theorem dX9_fewestDecks_62 : decode cX9_fewestDecks 62 = .ok (.iconst 0, 1) := by decide +kernel
theorem dX9_fewestDecks_63 : decode cX9_fewestDecks 63 = .ok (.istore_n 1, 1) := by decide +kernel
theorem dX9_fewestDecks_64 : decode cX9_fewestDecks 64 = .ok (.iload_n 1, 1) := by decide +kernel
theorem dX9_fewestDecks_65 : decode cX9_fewestDecks 65 = .ok (.aload_n 0, 1) := by decide +kernel
theorem dX9_fewestDecks_66 : decode cX9_fewestDecks 66 = .ok (.invokevirtual 52, 3) := by decide +kernel
theorem dX9_fewestDecks_69 : decode cX9_fewestDecks 69 = .ok (.if_icmp .ge 16, 3) := by decide +kernel
theorem dX9_fewestDecks_72 : decode cX9_fewestDecks 72 = .ok (.aload_n 0, 1) := by decide +kernel
theorem dX9_fewestDecks_73 : decode cX9_fewestDecks 73 = .ok (.getfield 30, 3) := by decide +kernel
theorem dX9_fewestDecks_76 : decode cX9_fewestDecks 76 = .ok (.iload_n 1, 1) := by decide +kernel
theorem dX9_fewestDecks_77 : decode cX9_fewestDecks 77 = .ok (.iload_n 1, 1) := by decide +kernel
theorem dX9_fewestDecks_78 : decode cX9_fewestDecks 78 = .ok (.iastore, 1) := by decide +kernel
theorem dX9_fewestDecks_79 : decode cX9_fewestDecks 79 = .ok (.iinc 1 1, 3) := by decide +kernel
theorem dX9_fewestDecks_82 : decode cX9_fewestDecks 82 = .ok (.goto (-18), 3) := by decide +kernel
theorem dX9_fewestDecks_85 : decode cX9_fewestDecks 85 = .ok (.aload_n 0, 1) := by decide +kernel
theorem dX9_fewestDecks_86 : decode cX9_fewestDecks 86 = .ok (.invokevirtual 52, 3) := by decide +kernel
theorem dX9_fewestDecks_89 : decode cX9_fewestDecks 89 = .ok (.ireturn, 1) := by decide +kernel
theorem dX9_decks_0 : decode cX9_decks 0 = .ok (.iload_n 1, 1) := by decide +kernel
theorem dX9_decks_1 : decode cX9_decks 1 = .ok (.i2l, 1) := by decide +kernel
theorem dX9_decks_2 : decode cX9_decks 2 = .ok (.ldc2_w 136, 3) := by decide +kernel
theorem dX9_decks_5 : decode cX9_decks 5 = .ok (.aload_n 0, 1) := by decide +kernel
theorem dX9_decks_6 : decode cX9_decks 6 = .ok (.invokevirtual 52, 3) := by decide +kernel
theorem dX9_decks_9 : decode cX9_decks 9 = .ok (.iconst 1, 1) := by decide +kernel
theorem dX9_decks_10 : decode cX9_decks 10 = .ok (.isub, 1) := by decide +kernel
theorem dX9_decks_11 : decode cX9_decks 11 = .ok (.i2l, 1) := by decide +kernel
theorem dX9_decks_12 : decode cX9_decks 12 = .ok (.invokestatic 56, 3) := by decide +kernel
theorem dX9_decks_15 : decode cX9_decks 15 = .ok (.ifCond .ne 10, 3) := by decide +kernel
theorem dX9_decks_18 : decode cX9_decks 18 = .ok (.aload_n 0, 1) := by decide +kernel
theorem dX9_decks_19 : decode cX9_decks 19 = .ok (.bipush (-10), 2) := by decide +kernel
theorem dX9_decks_21 : decode cX9_decks 21 = .ok (.invokevirtual 64, 3) := by decide +kernel
theorem dX9_decks_24 : decode cX9_decks 24 = .ok (.ireturn, 1) := by decide +kernel
theorem dX9_decks_25 : decode cX9_decks 25 = .ok (.aload_n 0, 1) := by decide +kernel
theorem dX9_decks_26 : decode cX9_decks 26 = .ok (.invokevirtual 138, 3) := by decide +kernel
theorem dX9_decks_29 : decode cX9_decks 29 = .ok (.istore_n 2, 1) := by decide +kernel
theorem dX9_decks_30 : decode cX9_decks 30 = .ok (.iload_n 1, 1) := by decide +kernel
theorem dX9_decks_31 : decode cX9_decks 31 = .ok (.iconst (-1), 1) := by decide +kernel
theorem dX9_decks_32 : decode cX9_decks 32 = .ok (.if_icmp .ne 7, 3) := by decide +kernel
theorem dX9_decks_35 : decode cX9_decks 35 = .ok (.iload_n 2, 1) := by decide +kernel
theorem dX9_decks_36 : decode cX9_decks 36 = .ok (.goto 9, 3) := by decide +kernel
theorem dX9_decks_39 : decode cX9_decks 39 = .ok (.aload_n 0, 1) := by decide +kernel
theorem dX9_decks_40 : decode cX9_decks 40 = .ok (.getfield 30, 3) := by decide +kernel
theorem dX9_decks_43 : decode cX9_decks 43 = .ok (.iload_n 1, 1) := by decide +kernel
theorem dX9_decks_44 : decode cX9_decks 44 = .ok (.iaload, 1) := by decide +kernel
theorem dX9_decks_45 : decode cX9_decks 45 = .ok (.ireturn, 1) := by decide +kernel
theorem dX9_manyLost_0 : decode cX9_manyLost 0 = .ok (.aload_n 0, 1) := by decide +kernel
theorem dX9_manyLost_1 : decode cX9_manyLost 1 = .ok (.getfield 27, 3) := by decide +kernel
theorem dX9_manyLost_4 : decode cX9_manyLost 4 = .ok (.bipush 6, 2) := by decide +kernel
theorem dX9_manyLost_6 : decode cX9_manyLost 6 = .ok (.iaload, 1) := by decide +kernel
theorem dX9_manyLost_7 : decode cX9_manyLost 7 = .ok (.invokestatic 105, 3) := by decide +kernel
theorem dX9_manyLost_10 : decode cX9_manyLost 10 = .ok (.aload_n 0, 1) := by decide +kernel
theorem dX9_manyLost_11 : decode cX9_manyLost 11 = .ok (.getfield 27, 3) := by decide +kernel
theorem dX9_manyLost_14 : decode cX9_manyLost 14 = .ok (.iconst 5, 1) := by decide +kernel
theorem dX9_manyLost_15 : decode cX9_manyLost 15 = .ok (.iaload, 1) := by decide +kernel
theorem dX9_manyLost_16 : decode cX9_manyLost 16 = .ok (.invokestatic 105, 3) := by decide +kernel
theorem dX9_manyLost_19 : decode cX9_manyLost 19 = .ok (.iadd, 1) := by decide +kernel
theorem dX9_manyLost_20 : decode cX9_manyLost 20 = .ok (.ireturn, 1) := by decide +kernel
theorem dX9_better_0 : decode cX9_better 0 = .ok (.aload_n 0, 1) := by decide +kernel
theorem dX9_better_1 : decode cX9_better 1 = .ok (.invokevirtual 141, 3) := by decide +kernel
theorem dX9_better_4 : decode cX9_better 4 = .ok (.aload_n 0, 1) := by decide +kernel
theorem dX9_better_5 : decode cX9_better 5 = .ok (.bipush 10, 2) := by decide +kernel
theorem dX9_better_7 : decode cX9_better 7 = .ok (.invokevirtual 125, 3) := by decide +kernel
theorem dX9_better_10 : decode cX9_better 10 = .ok (.iconst (-1), 1) := by decide +kernel
theorem dX9_better_11 : decode cX9_better 11 = .ok (.istore_n 1, 1) := by decide +kernel
theorem dX9_better_12 : decode cX9_better 12 = .ok (.aload_n 0, 1) := by decide +kernel
theorem dX9_better_13 : decode cX9_better 13 = .ok (.invokevirtual 144, 3) := by decide +kernel
theorem dX9_better_16 : decode cX9_better 16 = .ok (.istore_n 2, 1) := by decide +kernel
theorem dX9_better_17 : decode cX9_better 17 = .ok (.iconst 0, 1) := by decide +kernel
theorem dX9_better_18 : decode cX9_better 18 = .ok (.istore_n 3, 1) := by decide +kernel
theorem dX9_better_19 : decode cX9_better 19 = .ok (.iload_n 3, 1) := by decide +kernel
theorem dX9_better_20 : decode cX9_better 20 = .ok (.aload_n 0, 1) := by decide +kernel
theorem dX9_better_21 : decode cX9_better 21 = .ok (.invokevirtual 52, 3) := by decide +kernel
theorem dX9_better_24 : decode cX9_better 24 = .ok (.if_icmp .ge 90, 3) := by decide +kernel
theorem dX9_better_27 : decode cX9_better 27 = .ok (.iconst 0, 1) := by decide +kernel
theorem dX9_better_28 : decode cX9_better 28 = .ok (.istore 4, 2) := by decide +kernel
theorem dX9_better_30 : decode cX9_better 30 = .ok (.iload 4, 2) := by decide +kernel
theorem dX9_better_32 : decode cX9_better 32 = .ok (.aload_n 0, 1) := by decide +kernel
theorem dX9_better_33 : decode cX9_better 33 = .ok (.getfield 7, 3) := by decide +kernel
theorem dX9_better_36 : decode cX9_better 36 = .ok (.bipush 40, 2) := by decide +kernel
theorem dX9_better_38 : decode cX9_better 38 = .ok (.iload_n 3, 1) := by decide +kernel
theorem dX9_better_39 : decode cX9_better 39 = .ok (.iadd, 1) := by decide +kernel
theorem dX9_better_40 : decode cX9_better 40 = .ok (.iaload, 1) := by decide +kernel
theorem dX9_better_41 : decode cX9_better 41 = .ok (.if_icmp .ge 67, 3) := by decide +kernel
theorem dX9_better_44 : decode cX9_better 44 = .ok (.aload_n 0, 1) := by decide +kernel
theorem dX9_better_45 : decode cX9_better 45 = .ok (.invokevirtual 141, 3) := by decide +kernel
theorem dX9_better_48 : decode cX9_better 48 = .ok (.aload_n 0, 1) := by decide +kernel
theorem dX9_better_49 : decode cX9_better 49 = .ok (.getfield 27, 3) := by decide +kernel
theorem dX9_better_52 : decode cX9_better 52 = .ok (.bipush 33, 2) := by decide +kernel
theorem dX9_better_54 : decode cX9_better 54 = .ok (.iload_n 3, 1) := by decide +kernel
theorem dX9_better_55 : decode cX9_better 55 = .ok (.iadd, 1) := by decide +kernel
theorem dX9_better_56 : decode cX9_better 56 = .ok (.iload 4, 2) := by decide +kernel
theorem dX9_better_58 : decode cX9_better 58 = .ok (.iastore, 1) := by decide +kernel
theorem dX9_better_59 : decode cX9_better 59 = .ok (.aload_n 0, 1) := by decide +kernel
theorem dX9_better_60 : decode cX9_better 60 = .ok (.bipush 10, 2) := by decide +kernel
theorem dX9_better_62 : decode cX9_better 62 = .ok (.invokevirtual 125, 3) := by decide +kernel
theorem dX9_better_65 : decode cX9_better 65 = .ok (.aload_n 0, 1) := by decide +kernel
theorem dX9_better_66 : decode cX9_better 66 = .ok (.invokevirtual 144, 3) := by decide +kernel
theorem dX9_better_69 : decode cX9_better 69 = .ok (.iload_n 2, 1) := by decide +kernel
theorem dX9_better_70 : decode cX9_better 70 = .ok (.if_icmp .ge 13, 3) := by decide +kernel
theorem dX9_better_73 : decode cX9_better 73 = .ok (.bipush 10, 2) := by decide +kernel
theorem dX9_better_75 : decode cX9_better 75 = .ok (.iload_n 3, 1) := by decide +kernel
theorem dX9_better_76 : decode cX9_better 76 = .ok (.imul, 1) := by decide +kernel
theorem dX9_better_77 : decode cX9_better 77 = .ok (.iload 4, 2) := by decide +kernel
theorem dX9_better_79 : decode cX9_better 79 = .ok (.iadd, 1) := by decide +kernel
theorem dX9_better_80 : decode cX9_better 80 = .ok (.goto 4, 3) := by decide +kernel
theorem dX9_better_83 : decode cX9_better 83 = .ok (.iload_n 1, 1) := by decide +kernel
theorem dX9_better_84 : decode cX9_better 84 = .ok (.istore_n 1, 1) := by decide +kernel
theorem dX9_better_85 : decode cX9_better 85 = .ok (.aload_n 0, 1) := by decide +kernel
theorem dX9_better_86 : decode cX9_better 86 = .ok (.invokevirtual 144, 3) := by decide +kernel
theorem dX9_better_89 : decode cX9_better 89 = .ok (.iload_n 2, 1) := by decide +kernel
theorem dX9_better_90 : decode cX9_better 90 = .ok (.if_icmp .ge 10, 3) := by decide +kernel
theorem dX9_better_93 : decode cX9_better 93 = .ok (.aload_n 0, 1) := by decide +kernel
theorem dX9_better_94 : decode cX9_better 94 = .ok (.invokevirtual 144, 3) := by decide +kernel
theorem dX9_better_97 : decode cX9_better 97 = .ok (.goto 4, 3) := by decide +kernel
theorem dX9_better_100 : decode cX9_better 100 = .ok (.iload_n 2, 1) := by decide +kernel
theorem dX9_better_101 : decode cX9_better 101 = .ok (.istore_n 2, 1) := by decide +kernel
theorem dX9_better_102 : decode cX9_better 102 = .ok (.iinc 4 1, 3) := by decide +kernel
theorem dX9_better_105 : decode cX9_better 105 = .ok (.goto (-75), 3) := by decide +kernel
theorem dX9_better_108 : decode cX9_better 108 = .ok (.iinc 3 1, 3) := by decide +kernel
theorem dX9_better_111 : decode cX9_better 111 = .ok (.goto (-92), 3) := by decide +kernel
theorem dX9_better_114 : decode cX9_better 114 = .ok (.iload_n 1, 1) := by decide +kernel
theorem dX9_better_115 : decode cX9_better 115 = .ok (.ireturn, 1) := by decide +kernel
theorem dX9_raise_0 : decode cX9_raise 0 = .ok (.iconst 0, 1) := by decide +kernel
theorem dX9_raise_1 : decode cX9_raise 1 = .ok (.istore_n 1, 1) := by decide +kernel
theorem dX9_raise_2 : decode cX9_raise 2 = .ok (.iload_n 1, 1) := by decide +kernel
theorem dX9_raise_3 : decode cX9_raise 3 = .ok (.bipush 10, 2) := by decide +kernel
theorem dX9_raise_5 : decode cX9_raise 5 = .ok (.if_icmp .ge 73, 3) := by decide +kernel
theorem dX9_raise_8 : decode cX9_raise 8 = .ok (.aload_n 0, 1) := by decide +kernel
theorem dX9_raise_9 : decode cX9_raise 9 = .ok (.invokevirtual 141, 3) := by decide +kernel
theorem dX9_raise_12 : decode cX9_raise 12 = .ok (.iconst 0, 1) := by decide +kernel
theorem dX9_raise_13 : decode cX9_raise 13 = .ok (.istore_n 2, 1) := by decide +kernel
theorem dX9_raise_14 : decode cX9_raise 14 = .ok (.iload_n 2, 1) := by decide +kernel
theorem dX9_raise_15 : decode cX9_raise 15 = .ok (.bipush 10, 2) := by decide +kernel
theorem dX9_raise_17 : decode cX9_raise 17 = .ok (.if_icmp .ge 38, 3) := by decide +kernel
theorem dX9_raise_20 : decode cX9_raise 20 = .ok (.aload_n 0, 1) := by decide +kernel
theorem dX9_raise_21 : decode cX9_raise 21 = .ok (.getfield 27, 3) := by decide +kernel
theorem dX9_raise_24 : decode cX9_raise 24 = .ok (.bipush 9, 2) := by decide +kernel
theorem dX9_raise_26 : decode cX9_raise 26 = .ok (.iload_n 2, 1) := by decide +kernel
theorem dX9_raise_27 : decode cX9_raise 27 = .ok (.iadd, 1) := by decide +kernel
theorem dX9_raise_28 : decode cX9_raise 28 = .ok (.dup2, 1) := by decide +kernel
theorem dX9_raise_29 : decode cX9_raise 29 = .ok (.iaload, 1) := by decide +kernel
theorem dX9_raise_30 : decode cX9_raise 30 = .ok (.aload_n 0, 1) := by decide +kernel
theorem dX9_raise_31 : decode cX9_raise 31 = .ok (.getfield 27, 3) := by decide +kernel
theorem dX9_raise_34 : decode cX9_raise 34 = .ok (.bipush 9, 2) := by decide +kernel
theorem dX9_raise_36 : decode cX9_raise 36 = .ok (.iload_n 2, 1) := by decide +kernel
theorem dX9_raise_37 : decode cX9_raise 37 = .ok (.iadd, 1) := by decide +kernel
theorem dX9_raise_38 : decode cX9_raise 38 = .ok (.iaload, 1) := by decide +kernel
theorem dX9_raise_39 : decode cX9_raise 39 = .ok (.ifCond .le 7, 3) := by decide +kernel
theorem dX9_raise_42 : decode cX9_raise 42 = .ok (.iload_n 1, 1) := by decide +kernel
theorem dX9_raise_43 : decode cX9_raise 43 = .ok (.goto 4, 3) := by decide +kernel
theorem dX9_raise_46 : decode cX9_raise 46 = .ok (.iconst 0, 1) := by decide +kernel
theorem dX9_raise_47 : decode cX9_raise 47 = .ok (.iadd, 1) := by decide +kernel
theorem dX9_raise_48 : decode cX9_raise 48 = .ok (.iastore, 1) := by decide +kernel
theorem dX9_raise_49 : decode cX9_raise 49 = .ok (.iinc 2 1, 3) := by decide +kernel
theorem dX9_raise_52 : decode cX9_raise 52 = .ok (.goto (-38), 3) := by decide +kernel
theorem dX9_raise_55 : decode cX9_raise 55 = .ok (.aload_n 0, 1) := by decide +kernel
theorem dX9_raise_56 : decode cX9_raise 56 = .ok (.bipush 10, 2) := by decide +kernel
theorem dX9_raise_58 : decode cX9_raise 58 = .ok (.invokevirtual 125, 3) := by decide +kernel
theorem dX9_raise_61 : decode cX9_raise 61 = .ok (.aload_n 0, 1) := by decide +kernel
theorem dX9_raise_62 : decode cX9_raise 62 = .ok (.getfield 27, 3) := by decide +kernel
theorem dX9_raise_65 : decode cX9_raise 65 = .ok (.iconst 5, 1) := by decide +kernel
theorem dX9_raise_66 : decode cX9_raise 66 = .ok (.iaload, 1) := by decide +kernel
theorem dX9_raise_67 : decode cX9_raise 67 = .ok (.ifCond .ne 5, 3) := by decide +kernel
theorem dX9_raise_70 : decode cX9_raise 70 = .ok (.iload_n 1, 1) := by decide +kernel
theorem dX9_raise_71 : decode cX9_raise 71 = .ok (.ireturn, 1) := by decide +kernel
theorem dX9_raise_72 : decode cX9_raise 72 = .ok (.iinc 1 1, 3) := by decide +kernel
theorem dX9_raise_75 : decode cX9_raise 75 = .ok (.goto (-73), 3) := by decide +kernel
theorem dX9_raise_78 : decode cX9_raise 78 = .ok (.iconst (-1), 1) := by decide +kernel
theorem dX9_raise_79 : decode cX9_raise 79 = .ok (.ireturn, 1) := by decide +kernel
theorem dX9_upstairs_0 : decode cX9_upstairs 0 = .ok (.iload_n 1, 1) := by decide +kernel
theorem dX9_upstairs_1 : decode cX9_upstairs 1 = .ok (.invokestatic 68, 3) := by decide +kernel
theorem dX9_upstairs_4 : decode cX9_upstairs 4 = .ok (.ifCond .eq 27, 3) := by decide +kernel
theorem dX9_upstairs_7 : decode cX9_upstairs 7 = .ok (.iload_n 2, 1) := by decide +kernel
theorem dX9_upstairs_8 : decode cX9_upstairs 8 = .ok (.i2l, 1) := by decide +kernel
theorem dX9_upstairs_9 : decode cX9_upstairs 9 = .ok (.lconst 0, 1) := by decide +kernel
theorem dX9_upstairs_10 : decode cX9_upstairs 10 = .ok (.ldc2_w 147, 3) := by decide +kernel
theorem dX9_upstairs_13 : decode cX9_upstairs 13 = .ok (.invokestatic 56, 3) := by decide +kernel
theorem dX9_upstairs_16 : decode cX9_upstairs 16 = .ok (.ifCond .eq 15, 3) := by decide +kernel
theorem dX9_upstairs_19 : decode cX9_upstairs 19 = .ok (.iload_n 3, 1) := by decide +kernel
theorem dX9_upstairs_20 : decode cX9_upstairs 20 = .ok (.i2l, 1) := by decide +kernel
theorem dX9_upstairs_21 : decode cX9_upstairs 21 = .ok (.lconst 0, 1) := by decide +kernel
theorem dX9_upstairs_22 : decode cX9_upstairs 22 = .ok (.ldc2_w 131, 3) := by decide +kernel
theorem dX9_upstairs_25 : decode cX9_upstairs 25 = .ok (.invokestatic 56, 3) := by decide +kernel
theorem dX9_upstairs_28 : decode cX9_upstairs 28 = .ok (.ifCond .ne 10, 3) := by decide +kernel
theorem dX9_upstairs_31 : decode cX9_upstairs 31 = .ok (.aload_n 0, 1) := by decide +kernel
theorem dX9_upstairs_32 : decode cX9_upstairs 32 = .ok (.bipush (-2), 2) := by decide +kernel
theorem dX9_upstairs_34 : decode cX9_upstairs 34 = .ok (.invokevirtual 64, 3) := by decide +kernel
theorem dX9_upstairs_37 : decode cX9_upstairs 37 = .ok (.ireturn, 1) := by decide +kernel
theorem dX9_upstairs_38 : decode cX9_upstairs 38 = .ok (.iconst 0, 1) := by decide +kernel
theorem dX9_upstairs_39 : decode cX9_upstairs 39 = .ok (.istore 4, 2) := by decide +kernel
theorem dX9_upstairs_41 : decode cX9_upstairs 41 = .ok (.iconst 1, 1) := by decide +kernel
theorem dX9_upstairs_42 : decode cX9_upstairs 42 = .ok (.aload_n 0, 1) := by decide +kernel
theorem dX9_upstairs_43 : decode cX9_upstairs 43 = .ok (.invokevirtual 52, 3) := by decide +kernel
theorem dX9_upstairs_46 : decode cX9_upstairs 46 = .ok (.ishl, 1) := by decide +kernel
theorem dX9_upstairs_47 : decode cX9_upstairs 47 = .ok (.iconst 1, 1) := by decide +kernel
theorem dX9_upstairs_48 : decode cX9_upstairs 48 = .ok (.isub, 1) := by decide +kernel
theorem dX9_upstairs_49 : decode cX9_upstairs 49 = .ok (.istore 5, 2) := by decide +kernel
theorem dX9_upstairs_51 : decode cX9_upstairs 51 = .ok (.iconst 0, 1) := by decide +kernel
theorem dX9_upstairs_52 : decode cX9_upstairs 52 = .ok (.istore 6, 2) := by decide +kernel
theorem dX9_upstairs_54 : decode cX9_upstairs 54 = .ok (.aload_n 0, 1) := by decide +kernel
theorem dX9_upstairs_55 : decode cX9_upstairs 55 = .ok (.invokevirtual 90, 3) := by decide +kernel
theorem dX9_upstairs_58 : decode cX9_upstairs 58 = .ok (.iconst 0, 1) := by decide +kernel
theorem dX9_upstairs_59 : decode cX9_upstairs 59 = .ok (.istore 7, 2) := by decide +kernel
theorem dX9_upstairs_61 : decode cX9_upstairs 61 = .ok (.iload 7, 2) := by decide +kernel
theorem dX9_upstairs_63 : decode cX9_upstairs 63 = .ok (.iconst 1, 1) := by decide +kernel
theorem dX9_upstairs_64 : decode cX9_upstairs 64 = .ok (.aload_n 0, 1) := by decide +kernel
theorem dX9_upstairs_65 : decode cX9_upstairs 65 = .ok (.invokevirtual 52, 3) := by decide +kernel
theorem dX9_upstairs_68 : decode cX9_upstairs 68 = .ok (.ishl, 1) := by decide +kernel
theorem dX9_upstairs_69 : decode cX9_upstairs 69 = .ok (.if_icmp .ge 145, 3) := by decide +kernel
theorem dX9_upstairs_72 : decode cX9_upstairs 72 = .ok (.iload 7, 2) := by decide +kernel
theorem dX9_upstairs_74 : decode cX9_upstairs 74 = .ok (.invokestatic 105, 3) := by decide +kernel
theorem dX9_upstairs_77 : decode cX9_upstairs 77 = .ok (.aload_n 0, 1) := by decide +kernel
theorem dX9_upstairs_78 : decode cX9_upstairs 78 = .ok (.getfield 7, 3) := by decide +kernel
theorem dX9_upstairs_81 : decode cX9_upstairs 81 = .ok (.bipush 8, 2) := by decide +kernel
theorem dX9_upstairs_83 : decode cX9_upstairs 83 = .ok (.iaload, 1) := by decide +kernel
theorem dX9_upstairs_84 : decode cX9_upstairs 84 = .ok (.if_icmp .gt 18, 3) := by decide +kernel
theorem dX9_upstairs_87 : decode cX9_upstairs 87 = .ok (.aload_n 0, 1) := by decide +kernel
theorem dX9_upstairs_88 : decode cX9_upstairs 88 = .ok (.iload 7, 2) := by decide +kernel
theorem dX9_upstairs_90 : decode cX9_upstairs 90 = .ok (.iload_n 1, 1) := by decide +kernel
theorem dX9_upstairs_91 : decode cX9_upstairs 91 = .ok (.invokevirtual 111, 3) := by decide +kernel
theorem dX9_upstairs_94 : decode cX9_upstairs 94 = .ok (.iload_n 2, 1) := by decide +kernel
theorem dX9_upstairs_95 : decode cX9_upstairs 95 = .ok (.if_icmp .ne 7, 3) := by decide +kernel
theorem dX9_upstairs_98 : decode cX9_upstairs 98 = .ok (.iconst 1, 1) := by decide +kernel
theorem dX9_upstairs_99 : decode cX9_upstairs 99 = .ok (.goto 4, 3) := by decide +kernel
theorem dX9_upstairs_102 : decode cX9_upstairs 102 = .ok (.iconst 0, 1) := by decide +kernel
theorem dX9_upstairs_103 : decode cX9_upstairs 103 = .ok (.istore 8, 2) := by decide +kernel
theorem dX9_upstairs_105 : decode cX9_upstairs 105 = .ok (.iconst 0, 1) := by decide +kernel
theorem dX9_upstairs_106 : decode cX9_upstairs 106 = .ok (.istore 9, 2) := by decide +kernel
theorem dX9_upstairs_108 : decode cX9_upstairs 108 = .ok (.iload 9, 2) := by decide +kernel
theorem dX9_upstairs_110 : decode cX9_upstairs 110 = .ok (.aload_n 0, 1) := by decide +kernel
theorem dX9_upstairs_111 : decode cX9_upstairs 111 = .ok (.invokevirtual 52, 3) := by decide +kernel
theorem dX9_upstairs_114 : decode cX9_upstairs 114 = .ok (.if_icmp .ge 47, 3) := by decide +kernel
theorem dX9_upstairs_117 : decode cX9_upstairs 117 = .ok (.iload 8, 2) := by decide +kernel
theorem dX9_upstairs_119 : decode cX9_upstairs 119 = .ok (.ifCond .eq 33, 3) := by decide +kernel
theorem dX9_upstairs_122 : decode cX9_upstairs 122 = .ok (.iload 7, 2) := by decide +kernel
theorem dX9_upstairs_124 : decode cX9_upstairs 124 = .ok (.iload 9, 2) := by decide +kernel
theorem dX9_upstairs_126 : decode cX9_upstairs 126 = .ok (.invokestatic 97, 3) := by decide +kernel
theorem dX9_upstairs_129 : decode cX9_upstairs 129 = .ok (.ifCond .eq 19, 3) := by decide +kernel
theorem dX9_upstairs_132 : decode cX9_upstairs 132 = .ok (.iload 7, 2) := by decide +kernel
theorem dX9_upstairs_134 : decode cX9_upstairs 134 = .ok (.aload_n 0, 1) := by decide +kernel
theorem dX9_upstairs_135 : decode cX9_upstairs 135 = .ok (.getfield 7, 3) := by decide +kernel
theorem dX9_upstairs_138 : decode cX9_upstairs 138 = .ok (.bipush 47, 2) := by decide +kernel
theorem dX9_upstairs_140 : decode cX9_upstairs 140 = .ok (.iload 9, 2) := by decide +kernel
theorem dX9_upstairs_142 : decode cX9_upstairs 142 = .ok (.iadd, 1) := by decide +kernel
theorem dX9_upstairs_143 : decode cX9_upstairs 143 = .ok (.iaload, 1) := by decide +kernel
theorem dX9_upstairs_144 : decode cX9_upstairs 144 = .ok (.iand, 1) := by decide +kernel
theorem dX9_upstairs_145 : decode cX9_upstairs 145 = .ok (.ifCond .ne 7, 3) := by decide +kernel
theorem dX9_upstairs_148 : decode cX9_upstairs 148 = .ok (.iconst 1, 1) := by decide +kernel
theorem dX9_upstairs_149 : decode cX9_upstairs 149 = .ok (.goto 4, 3) := by decide +kernel
theorem dX9_upstairs_152 : decode cX9_upstairs 152 = .ok (.iconst 0, 1) := by decide +kernel
theorem dX9_upstairs_153 : decode cX9_upstairs 153 = .ok (.istore 8, 2) := by decide +kernel
theorem dX9_upstairs_155 : decode cX9_upstairs 155 = .ok (.iinc 9 1, 3) := by decide +kernel
theorem dX9_upstairs_158 : decode cX9_upstairs 158 = .ok (.goto (-50), 3) := by decide +kernel
theorem dX9_upstairs_161 : decode cX9_upstairs 161 = .ok (.iload 5, 2) := by decide +kernel
theorem dX9_upstairs_163 : decode cX9_upstairs 163 = .ok (.iload 8, 2) := by decide +kernel
theorem dX9_upstairs_165 : decode cX9_upstairs 165 = .ok (.ifCond .eq 8, 3) := by decide +kernel
theorem dX9_upstairs_168 : decode cX9_upstairs 168 = .ok (.iload 7, 2) := by decide +kernel
theorem dX9_upstairs_170 : decode cX9_upstairs 170 = .ok (.goto 4, 3) := by decide +kernel
theorem dX9_upstairs_173 : decode cX9_upstairs 173 = .ok (.iconst (-1), 1) := by decide +kernel
theorem dX9_upstairs_174 : decode cX9_upstairs 174 = .ok (.iand, 1) := by decide +kernel
theorem dX9_upstairs_175 : decode cX9_upstairs 175 = .ok (.istore 5, 2) := by decide +kernel
theorem dX9_upstairs_177 : decode cX9_upstairs 177 = .ok (.iload 6, 2) := by decide +kernel
theorem dX9_upstairs_179 : decode cX9_upstairs 179 = .ok (.iload 8, 2) := by decide +kernel
theorem dX9_upstairs_181 : decode cX9_upstairs 181 = .ok (.ifCond .eq 8, 3) := by decide +kernel
theorem dX9_upstairs_184 : decode cX9_upstairs 184 = .ok (.iload 7, 2) := by decide +kernel
theorem dX9_upstairs_186 : decode cX9_upstairs 186 = .ok (.goto 4, 3) := by decide +kernel
theorem dX9_upstairs_189 : decode cX9_upstairs 189 = .ok (.iconst 0, 1) := by decide +kernel
theorem dX9_upstairs_190 : decode cX9_upstairs 190 = .ok (.ior, 1) := by decide +kernel
theorem dX9_upstairs_191 : decode cX9_upstairs 191 = .ok (.istore 6, 2) := by decide +kernel
theorem dX9_upstairs_193 : decode cX9_upstairs 193 = .ok (.iload 4, 2) := by decide +kernel
theorem dX9_upstairs_195 : decode cX9_upstairs 195 = .ok (.iload 8, 2) := by decide +kernel
theorem dX9_upstairs_197 : decode cX9_upstairs 197 = .ok (.ifCond .eq 7, 3) := by decide +kernel
theorem dX9_upstairs_200 : decode cX9_upstairs 200 = .ok (.iconst 1, 1) := by decide +kernel
theorem dX9_upstairs_201 : decode cX9_upstairs 201 = .ok (.goto 4, 3) := by decide +kernel
theorem dX9_upstairs_204 : decode cX9_upstairs 204 = .ok (.iconst 0, 1) := by decide +kernel
theorem dX9_upstairs_205 : decode cX9_upstairs 205 = .ok (.iadd, 1) := by decide +kernel
theorem dX9_upstairs_206 : decode cX9_upstairs 206 = .ok (.istore 4, 2) := by decide +kernel
theorem dX9_upstairs_208 : decode cX9_upstairs 208 = .ok (.iinc 7 1, 3) := by decide +kernel
theorem dX9_upstairs_211 : decode cX9_upstairs 211 = .ok (.goto (-150), 3) := by decide +kernel
theorem dX9_upstairs_214 : decode cX9_upstairs 214 = .ok (.iload_n 3, 1) := by decide +kernel
theorem dX9_upstairs_215 : decode cX9_upstairs 215 = .ok (.ifCond .ne 8, 3) := by decide +kernel
theorem dX9_upstairs_218 : decode cX9_upstairs 218 = .ok (.iload 4, 2) := by decide +kernel
theorem dX9_upstairs_220 : decode cX9_upstairs 220 = .ok (.goto 24, 3) := by decide +kernel
theorem dX9_upstairs_223 : decode cX9_upstairs 223 = .ok (.iload_n 3, 1) := by decide +kernel
theorem dX9_upstairs_224 : decode cX9_upstairs 224 = .ok (.iconst 2, 1) := by decide +kernel
theorem dX9_upstairs_225 : decode cX9_upstairs 225 = .ok (.if_icmp .ne 8, 3) := by decide +kernel
theorem dX9_upstairs_228 : decode cX9_upstairs 228 = .ok (.iload 6, 2) := by decide +kernel
theorem dX9_upstairs_230 : decode cX9_upstairs 230 = .ok (.goto 14, 3) := by decide +kernel
theorem dX9_upstairs_233 : decode cX9_upstairs 233 = .ok (.iload 4, 2) := by decide +kernel
theorem dX9_upstairs_235 : decode cX9_upstairs 235 = .ok (.ifCond .ne 7, 3) := by decide +kernel
theorem dX9_upstairs_238 : decode cX9_upstairs 238 = .ok (.iconst (-1), 1) := by decide +kernel
theorem dX9_upstairs_239 : decode cX9_upstairs 239 = .ok (.goto 5, 3) := by decide +kernel
theorem dX9_upstairs_242 : decode cX9_upstairs 242 = .ok (.iload 5, 2) := by decide +kernel
theorem dX9_upstairs_244 : decode cX9_upstairs 244 = .ok (.ireturn, 1) := by decide +kernel
theorem dX9_note_0 : decode cX9_note 0 = .ok (.aload_n 0, 1) := by decide +kernel
theorem dX9_note_1 : decode cX9_note 1 = .ok (.iload_n 1, 1) := by decide +kernel
theorem dX9_note_2 : decode cX9_note 2 = .ok (.invokevirtual 83, 3) := by decide +kernel
theorem dX9_note_5 : decode cX9_note 5 = .ok (.ifCond .eq 35, 3) := by decide +kernel
theorem dX9_note_8 : decode cX9_note 8 = .ok (.iload_n 2, 1) := by decide +kernel
theorem dX9_note_9 : decode cX9_note 9 = .ok (.invokestatic 68, 3) := by decide +kernel
theorem dX9_note_12 : decode cX9_note 12 = .ok (.ifCond .eq 28, 3) := by decide +kernel
theorem dX9_note_15 : decode cX9_note 15 = .ok (.iload_n 3, 1) := by decide +kernel
theorem dX9_note_16 : decode cX9_note 16 = .ok (.i2l, 1) := by decide +kernel
theorem dX9_note_17 : decode cX9_note 17 = .ok (.lconst 0, 1) := by decide +kernel
theorem dX9_note_18 : decode cX9_note 18 = .ok (.ldc2_w 149, 3) := by decide +kernel
theorem dX9_note_21 : decode cX9_note 21 = .ok (.invokestatic 56, 3) := by decide +kernel
theorem dX9_note_24 : decode cX9_note 24 = .ok (.ifCond .eq 16, 3) := by decide +kernel
theorem dX9_note_27 : decode cX9_note 27 = .ok (.iload 4, 2) := by decide +kernel
theorem dX9_note_29 : decode cX9_note 29 = .ok (.i2l, 1) := by decide +kernel
theorem dX9_note_30 : decode cX9_note 30 = .ok (.lconst 0, 1) := by decide +kernel
theorem dX9_note_31 : decode cX9_note 31 = .ok (.ldc2_w 60, 3) := by decide +kernel
theorem dX9_note_34 : decode cX9_note 34 = .ok (.invokestatic 56, 3) := by decide +kernel
theorem dX9_note_37 : decode cX9_note 37 = .ok (.ifCond .ne 10, 3) := by decide +kernel
theorem dX9_note_40 : decode cX9_note 40 = .ok (.aload_n 0, 1) := by decide +kernel
theorem dX9_note_41 : decode cX9_note 41 = .ok (.bipush (-2), 2) := by decide +kernel
theorem dX9_note_43 : decode cX9_note 43 = .ok (.invokevirtual 64, 3) := by decide +kernel
theorem dX9_note_46 : decode cX9_note 46 = .ok (.ireturn, 1) := by decide +kernel
theorem dX9_note_47 : decode cX9_note 47 = .ok (.aload_n 0, 1) := by decide +kernel
theorem dX9_note_48 : decode cX9_note 48 = .ok (.getfield 7, 3) := by decide +kernel
theorem dX9_note_51 : decode cX9_note 51 = .ok (.iconst 1, 1) := by decide +kernel
theorem dX9_note_52 : decode cX9_note 52 = .ok (.iaload, 1) := by decide +kernel
theorem dX9_note_53 : decode cX9_note 53 = .ok (.bipush 6, 2) := by decide +kernel
theorem dX9_note_55 : decode cX9_note 55 = .ok (.if_icmp .ne 8, 3) := by decide +kernel
theorem dX9_note_58 : decode cX9_note 58 = .ok (.aload_n 0, 1) := by decide +kernel
theorem dX9_note_59 : decode cX9_note 59 = .ok (.invokevirtual 76, 3) := by decide +kernel
theorem dX9_note_62 : decode cX9_note 62 = .ok (.ireturn, 1) := by decide +kernel
theorem dX9_note_63 : decode cX9_note 63 = .ok (.bipush 54, 2) := by decide +kernel
theorem dX9_note_65 : decode cX9_note 65 = .ok (.iconst 4, 1) := by decide +kernel
theorem dX9_note_66 : decode cX9_note 66 = .ok (.aload_n 0, 1) := by decide +kernel
theorem dX9_note_67 : decode cX9_note 67 = .ok (.getfield 7, 3) := by decide +kernel
theorem dX9_note_70 : decode cX9_note 70 = .ok (.iconst 1, 1) := by decide +kernel
theorem dX9_note_71 : decode cX9_note 71 = .ok (.iaload, 1) := by decide +kernel
theorem dX9_note_72 : decode cX9_note 72 = .ok (.imul, 1) := by decide +kernel
theorem dX9_note_73 : decode cX9_note 73 = .ok (.iadd, 1) := by decide +kernel
theorem dX9_note_74 : decode cX9_note 74 = .ok (.istore 5, 2) := by decide +kernel
theorem dX9_note_76 : decode cX9_note 76 = .ok (.aload_n 0, 1) := by decide +kernel
theorem dX9_note_77 : decode cX9_note 77 = .ok (.getfield 7, 3) := by decide +kernel
theorem dX9_note_80 : decode cX9_note 80 = .ok (.iload 5, 2) := by decide +kernel
theorem dX9_note_82 : decode cX9_note 82 = .ok (.iload_n 1, 1) := by decide +kernel
theorem dX9_note_83 : decode cX9_note 83 = .ok (.iastore, 1) := by decide +kernel
theorem dX9_note_84 : decode cX9_note 84 = .ok (.aload_n 0, 1) := by decide +kernel
theorem dX9_note_85 : decode cX9_note 85 = .ok (.getfield 7, 3) := by decide +kernel
theorem dX9_note_88 : decode cX9_note 88 = .ok (.iload 5, 2) := by decide +kernel
theorem dX9_note_90 : decode cX9_note 90 = .ok (.iconst 1, 1) := by decide +kernel
theorem dX9_note_91 : decode cX9_note 91 = .ok (.iadd, 1) := by decide +kernel
theorem dX9_note_92 : decode cX9_note 92 = .ok (.iload_n 2, 1) := by decide +kernel
theorem dX9_note_93 : decode cX9_note 93 = .ok (.iastore, 1) := by decide +kernel
theorem dX9_note_94 : decode cX9_note 94 = .ok (.aload_n 0, 1) := by decide +kernel
theorem dX9_note_95 : decode cX9_note 95 = .ok (.getfield 7, 3) := by decide +kernel
theorem dX9_note_98 : decode cX9_note 98 = .ok (.iload 5, 2) := by decide +kernel
theorem dX9_note_100 : decode cX9_note 100 = .ok (.iconst 2, 1) := by decide +kernel
theorem dX9_note_101 : decode cX9_note 101 = .ok (.iadd, 1) := by decide +kernel
theorem dX9_note_102 : decode cX9_note 102 = .ok (.iload_n 3, 1) := by decide +kernel
theorem dX9_note_103 : decode cX9_note 103 = .ok (.iastore, 1) := by decide +kernel
theorem dX9_note_104 : decode cX9_note 104 = .ok (.aload_n 0, 1) := by decide +kernel
theorem dX9_note_105 : decode cX9_note 105 = .ok (.getfield 7, 3) := by decide +kernel
theorem dX9_note_108 : decode cX9_note 108 = .ok (.iload 5, 2) := by decide +kernel
theorem dX9_note_110 : decode cX9_note 110 = .ok (.iconst 3, 1) := by decide +kernel
theorem dX9_note_111 : decode cX9_note 111 = .ok (.iadd, 1) := by decide +kernel
theorem dX9_note_112 : decode cX9_note 112 = .ok (.iload 4, 2) := by decide +kernel
theorem dX9_note_114 : decode cX9_note 114 = .ok (.iastore, 1) := by decide +kernel
theorem dX9_note_115 : decode cX9_note 115 = .ok (.aload_n 0, 1) := by decide +kernel
theorem dX9_note_116 : decode cX9_note 116 = .ok (.getfield 7, 3) := by decide +kernel
theorem dX9_note_119 : decode cX9_note 119 = .ok (.iconst 1, 1) := by decide +kernel
theorem dX9_note_120 : decode cX9_note 120 = .ok (.dup2, 1) := by decide +kernel
theorem dX9_note_121 : decode cX9_note 121 = .ok (.iaload, 1) := by decide +kernel
theorem dX9_note_122 : decode cX9_note 122 = .ok (.iconst 1, 1) := by decide +kernel
theorem dX9_note_123 : decode cX9_note 123 = .ok (.iadd, 1) := by decide +kernel
theorem dX9_note_124 : decode cX9_note 124 = .ok (.iastore, 1) := by decide +kernel
theorem dX9_note_125 : decode cX9_note 125 = .ok (.aload_n 0, 1) := by decide +kernel
theorem dX9_note_126 : decode cX9_note 126 = .ok (.getfield 7, 3) := by decide +kernel
theorem dX9_note_129 : decode cX9_note 129 = .ok (.iconst 1, 1) := by decide +kernel
theorem dX9_note_130 : decode cX9_note 130 = .ok (.iaload, 1) := by decide +kernel
theorem dX9_note_131 : decode cX9_note 131 = .ok (.ireturn, 1) := by decide +kernel
theorem dX9_forget_0 : decode cX9_forget 0 = .ok (.aload_n 0, 1) := by decide +kernel
theorem dX9_forget_1 : decode cX9_forget 1 = .ok (.getfield 7, 3) := by decide +kernel
theorem dX9_forget_4 : decode cX9_forget 4 = .ok (.iconst 1, 1) := by decide +kernel
theorem dX9_forget_5 : decode cX9_forget 5 = .ok (.iaload, 1) := by decide +kernel
theorem dX9_forget_6 : decode cX9_forget 6 = .ok (.istore_n 1, 1) := by decide +kernel
theorem dX9_forget_7 : decode cX9_forget 7 = .ok (.aload_n 0, 1) := by decide +kernel
theorem dX9_forget_8 : decode cX9_forget 8 = .ok (.getfield 7, 3) := by decide +kernel
theorem dX9_forget_11 : decode cX9_forget 11 = .ok (.iconst 1, 1) := by decide +kernel
theorem dX9_forget_12 : decode cX9_forget 12 = .ok (.iconst 0, 1) := by decide +kernel
theorem dX9_forget_13 : decode cX9_forget 13 = .ok (.iastore, 1) := by decide +kernel
theorem dX9_forget_14 : decode cX9_forget 14 = .ok (.iload_n 1, 1) := by decide +kernel
theorem dX9_forget_15 : decode cX9_forget 15 = .ok (.ireturn, 1) := by decide +kernel
theorem dX9_kindsOf_0 : decode cX9_kindsOf 0 = .ok (.iconst 0, 1) := by decide +kernel
theorem dX9_kindsOf_1 : decode cX9_kindsOf 1 = .ok (.istore_n 2, 1) := by decide +kernel
theorem dX9_kindsOf_2 : decode cX9_kindsOf 2 = .ok (.iconst 0, 1) := by decide +kernel
theorem dX9_kindsOf_3 : decode cX9_kindsOf 3 = .ok (.istore_n 3, 1) := by decide +kernel
theorem dX9_kindsOf_4 : decode cX9_kindsOf 4 = .ok (.iload_n 3, 1) := by decide +kernel
theorem dX9_kindsOf_5 : decode cX9_kindsOf 5 = .ok (.bipush 6, 2) := by decide +kernel
theorem dX9_kindsOf_7 : decode cX9_kindsOf 7 = .ok (.if_icmp .ge 147, 3) := by decide +kernel
theorem dX9_kindsOf_10 : decode cX9_kindsOf 10 = .ok (.iconst 1, 1) := by decide +kernel
theorem dX9_kindsOf_11 : decode cX9_kindsOf 11 = .ok (.istore 4, 2) := by decide +kernel
theorem dX9_kindsOf_13 : decode cX9_kindsOf 13 = .ok (.iconst 0, 1) := by decide +kernel
theorem dX9_kindsOf_14 : decode cX9_kindsOf 14 = .ok (.istore 5, 2) := by decide +kernel
theorem dX9_kindsOf_16 : decode cX9_kindsOf 16 = .ok (.iload 5, 2) := by decide +kernel
theorem dX9_kindsOf_18 : decode cX9_kindsOf 18 = .ok (.aload_n 0, 1) := by decide +kernel
theorem dX9_kindsOf_19 : decode cX9_kindsOf 19 = .ok (.getfield 7, 3) := by decide +kernel
theorem dX9_kindsOf_22 : decode cX9_kindsOf 22 = .ok (.iconst 1, 1) := by decide +kernel
theorem dX9_kindsOf_23 : decode cX9_kindsOf 23 = .ok (.iaload, 1) := by decide +kernel
theorem dX9_kindsOf_24 : decode cX9_kindsOf 24 = .ok (.if_icmp .ge 109, 3) := by decide +kernel
theorem dX9_kindsOf_27 : decode cX9_kindsOf 27 = .ok (.bipush 54, 2) := by decide +kernel
theorem dX9_kindsOf_29 : decode cX9_kindsOf 29 = .ok (.iconst 4, 1) := by decide +kernel
theorem dX9_kindsOf_30 : decode cX9_kindsOf 30 = .ok (.iload 5, 2) := by decide +kernel
theorem dX9_kindsOf_32 : decode cX9_kindsOf 32 = .ok (.imul, 1) := by decide +kernel
theorem dX9_kindsOf_33 : decode cX9_kindsOf 33 = .ok (.iadd, 1) := by decide +kernel
theorem dX9_kindsOf_34 : decode cX9_kindsOf 34 = .ok (.istore 6, 2) := by decide +kernel
theorem dX9_kindsOf_36 : decode cX9_kindsOf 36 = .ok (.aload_n 0, 1) := by decide +kernel
theorem dX9_kindsOf_37 : decode cX9_kindsOf 37 = .ok (.getfield 7, 3) := by decide +kernel
theorem dX9_kindsOf_40 : decode cX9_kindsOf 40 = .ok (.iload 6, 2) := by decide +kernel
theorem dX9_kindsOf_42 : decode cX9_kindsOf 42 = .ok (.iconst 1, 1) := by decide +kernel
theorem dX9_kindsOf_43 : decode cX9_kindsOf 43 = .ok (.iadd, 1) := by decide +kernel
theorem dX9_kindsOf_44 : decode cX9_kindsOf 44 = .ok (.iaload, 1) := by decide +kernel
theorem dX9_kindsOf_45 : decode cX9_kindsOf 45 = .ok (.istore 7, 2) := by decide +kernel
theorem dX9_kindsOf_47 : decode cX9_kindsOf 47 = .ok (.iload_n 3, 1) := by decide +kernel
theorem dX9_kindsOf_48 : decode cX9_kindsOf 48 = .ok (.aload_n 0, 1) := by decide +kernel
theorem dX9_kindsOf_49 : decode cX9_kindsOf 49 = .ok (.getfield 7, 3) := by decide +kernel
theorem dX9_kindsOf_52 : decode cX9_kindsOf 52 = .ok (.bipush 26, 2) := by decide +kernel
theorem dX9_kindsOf_54 : decode cX9_kindsOf 54 = .ok (.iload_n 1, 1) := by decide +kernel
theorem dX9_kindsOf_55 : decode cX9_kindsOf 55 = .ok (.iadd, 1) := by decide +kernel
theorem dX9_kindsOf_56 : decode cX9_kindsOf 56 = .ok (.iaload, 1) := by decide +kernel
theorem dX9_kindsOf_57 : decode cX9_kindsOf 57 = .ok (.iload 7, 2) := by decide +kernel
theorem dX9_kindsOf_59 : decode cX9_kindsOf 59 = .ok (.invokestatic 93, 3) := by decide +kernel
theorem dX9_kindsOf_62 : decode cX9_kindsOf 62 = .ok (.aload_n 0, 1) := by decide +kernel
theorem dX9_kindsOf_63 : decode cX9_kindsOf 63 = .ok (.getfield 7, 3) := by decide +kernel
theorem dX9_kindsOf_66 : decode cX9_kindsOf 66 = .ok (.iload 6, 2) := by decide +kernel
theorem dX9_kindsOf_68 : decode cX9_kindsOf 68 = .ok (.iconst 2, 1) := by decide +kernel
theorem dX9_kindsOf_69 : decode cX9_kindsOf 69 = .ok (.iadd, 1) := by decide +kernel
theorem dX9_kindsOf_70 : decode cX9_kindsOf 70 = .ok (.iaload, 1) := by decide +kernel
theorem dX9_kindsOf_71 : decode cX9_kindsOf 71 = .ok (.if_icmp .ne 25, 3) := by decide +kernel
theorem dX9_kindsOf_74 : decode cX9_kindsOf 74 = .ok (.iload_n 3, 1) := by decide +kernel
theorem dX9_kindsOf_75 : decode cX9_kindsOf 75 = .ok (.iload 7, 2) := by decide +kernel
theorem dX9_kindsOf_77 : decode cX9_kindsOf 77 = .ok (.invokestatic 108, 3) := by decide +kernel
theorem dX9_kindsOf_80 : decode cX9_kindsOf 80 = .ok (.aload_n 0, 1) := by decide +kernel
theorem dX9_kindsOf_81 : decode cX9_kindsOf 81 = .ok (.getfield 7, 3) := by decide +kernel
theorem dX9_kindsOf_84 : decode cX9_kindsOf 84 = .ok (.iload 6, 2) := by decide +kernel
theorem dX9_kindsOf_86 : decode cX9_kindsOf 86 = .ok (.iconst 3, 1) := by decide +kernel
theorem dX9_kindsOf_87 : decode cX9_kindsOf 87 = .ok (.iadd, 1) := by decide +kernel
theorem dX9_kindsOf_88 : decode cX9_kindsOf 88 = .ok (.iaload, 1) := by decide +kernel
theorem dX9_kindsOf_89 : decode cX9_kindsOf 89 = .ok (.if_icmp .ne 7, 3) := by decide +kernel
theorem dX9_kindsOf_92 : decode cX9_kindsOf 92 = .ok (.iconst 1, 1) := by decide +kernel
theorem dX9_kindsOf_93 : decode cX9_kindsOf 93 = .ok (.goto 4, 3) := by decide +kernel
theorem dX9_kindsOf_96 : decode cX9_kindsOf 96 = .ok (.iconst 0, 1) := by decide +kernel
theorem dX9_kindsOf_97 : decode cX9_kindsOf 97 = .ok (.istore 8, 2) := by decide +kernel
theorem dX9_kindsOf_99 : decode cX9_kindsOf 99 = .ok (.iload 4, 2) := by decide +kernel
theorem dX9_kindsOf_101 : decode cX9_kindsOf 101 = .ok (.ifCond .eq 23, 3) := by decide +kernel
theorem dX9_kindsOf_104 : decode cX9_kindsOf 104 = .ok (.aload_n 0, 1) := by decide +kernel
theorem dX9_kindsOf_105 : decode cX9_kindsOf 105 = .ok (.getfield 7, 3) := by decide +kernel
theorem dX9_kindsOf_108 : decode cX9_kindsOf 108 = .ok (.iload 6, 2) := by decide +kernel
theorem dX9_kindsOf_110 : decode cX9_kindsOf 110 = .ok (.iaload, 1) := by decide +kernel
theorem dX9_kindsOf_111 : decode cX9_kindsOf 111 = .ok (.iload_n 1, 1) := by decide +kernel
theorem dX9_kindsOf_112 : decode cX9_kindsOf 112 = .ok (.if_icmp .ne 8, 3) := by decide +kernel
theorem dX9_kindsOf_115 : decode cX9_kindsOf 115 = .ok (.iload 8, 2) := by decide +kernel
theorem dX9_kindsOf_117 : decode cX9_kindsOf 117 = .ok (.ifCond .eq 7, 3) := by decide +kernel
theorem dX9_kindsOf_120 : decode cX9_kindsOf 120 = .ok (.iconst 1, 1) := by decide +kernel
theorem dX9_kindsOf_121 : decode cX9_kindsOf 121 = .ok (.goto 4, 3) := by decide +kernel
theorem dX9_kindsOf_124 : decode cX9_kindsOf 124 = .ok (.iconst 0, 1) := by decide +kernel
theorem dX9_kindsOf_125 : decode cX9_kindsOf 125 = .ok (.istore 4, 2) := by decide +kernel
theorem dX9_kindsOf_127 : decode cX9_kindsOf 127 = .ok (.iinc 5 1, 3) := by decide +kernel
theorem dX9_kindsOf_130 : decode cX9_kindsOf 130 = .ok (.goto (-114), 3) := by decide +kernel
theorem dX9_kindsOf_133 : decode cX9_kindsOf 133 = .ok (.iload_n 2, 1) := by decide +kernel
theorem dX9_kindsOf_134 : decode cX9_kindsOf 134 = .ok (.iload 4, 2) := by decide +kernel
theorem dX9_kindsOf_136 : decode cX9_kindsOf 136 = .ok (.ifCond .eq 9, 3) := by decide +kernel
theorem dX9_kindsOf_139 : decode cX9_kindsOf 139 = .ok (.iconst 1, 1) := by decide +kernel
theorem dX9_kindsOf_140 : decode cX9_kindsOf 140 = .ok (.iload_n 3, 1) := by decide +kernel
theorem dX9_kindsOf_141 : decode cX9_kindsOf 141 = .ok (.ishl, 1) := by decide +kernel
theorem dX9_kindsOf_142 : decode cX9_kindsOf 142 = .ok (.goto 4, 3) := by decide +kernel
theorem dX9_kindsOf_145 : decode cX9_kindsOf 145 = .ok (.iconst 0, 1) := by decide +kernel
theorem dX9_kindsOf_146 : decode cX9_kindsOf 146 = .ok (.ior, 1) := by decide +kernel
theorem dX9_kindsOf_147 : decode cX9_kindsOf 147 = .ok (.istore_n 2, 1) := by decide +kernel
theorem dX9_kindsOf_148 : decode cX9_kindsOf 148 = .ok (.iinc 3 1, 3) := by decide +kernel
theorem dX9_kindsOf_151 : decode cX9_kindsOf 151 = .ok (.goto (-147), 3) := by decide +kernel
theorem dX9_kindsOf_154 : decode cX9_kindsOf 154 = .ok (.iload_n 2, 1) := by decide +kernel
theorem dX9_kindsOf_155 : decode cX9_kindsOf 155 = .ok (.ireturn, 1) := by decide +kernel
theorem dX9_is_0 : decode cX9_is 0 = .ok (.aload_n 0, 1) := by decide +kernel
theorem dX9_is_1 : decode cX9_is 1 = .ok (.iload_n 1, 1) := by decide +kernel
theorem dX9_is_2 : decode cX9_is 2 = .ok (.invokevirtual 83, 3) := by decide +kernel
theorem dX9_is_5 : decode cX9_is 5 = .ok (.ifCond .eq 11, 3) := by decide +kernel
theorem dX9_is_8 : decode cX9_is 8 = .ok (.aload_n 0, 1) := by decide +kernel
theorem dX9_is_9 : decode cX9_is 9 = .ok (.iload_n 1, 1) := by decide +kernel
theorem dX9_is_10 : decode cX9_is 10 = .ok (.invokevirtual 151, 3) := by decide +kernel
theorem dX9_is_13 : decode cX9_is 13 = .ok (.goto 9, 3) := by decide +kernel
theorem dX9_is_16 : decode cX9_is 16 = .ok (.aload_n 0, 1) := by decide +kernel
theorem dX9_is_17 : decode cX9_is 17 = .ok (.bipush (-2), 2) := by decide +kernel
theorem dX9_is_19 : decode cX9_is 19 = .ok (.invokevirtual 64, 3) := by decide +kernel
theorem dX9_is_22 : decode cX9_is 22 = .ok (.ireturn, 1) := by decide +kernel
theorem dX9_areAlike_0 : decode cX9_areAlike 0 = .ok (.iload_n 0, 1) := by decide +kernel
theorem dX9_areAlike_1 : decode cX9_areAlike 1 = .ok (.iload_n 2, 1) := by decide +kernel
theorem dX9_areAlike_2 : decode cX9_areAlike 2 = .ok (.iload_n 3, 1) := by decide +kernel
theorem dX9_areAlike_3 : decode cX9_areAlike 3 = .ok (.invokestatic 93, 3) := by decide +kernel
theorem dX9_areAlike_6 : decode cX9_areAlike 6 = .ok (.iload_n 1, 1) := by decide +kernel
theorem dX9_areAlike_7 : decode cX9_areAlike 7 = .ok (.iload_n 2, 1) := by decide +kernel
theorem dX9_areAlike_8 : decode cX9_areAlike 8 = .ok (.iload_n 3, 1) := by decide +kernel
theorem dX9_areAlike_9 : decode cX9_areAlike 9 = .ok (.invokestatic 93, 3) := by decide +kernel
theorem dX9_areAlike_12 : decode cX9_areAlike 12 = .ok (.if_icmp .ne 20, 3) := by decide +kernel
theorem dX9_areAlike_15 : decode cX9_areAlike 15 = .ok (.iload_n 0, 1) := by decide +kernel
theorem dX9_areAlike_16 : decode cX9_areAlike 16 = .ok (.iload_n 3, 1) := by decide +kernel
theorem dX9_areAlike_17 : decode cX9_areAlike 17 = .ok (.invokestatic 108, 3) := by decide +kernel
theorem dX9_areAlike_20 : decode cX9_areAlike 20 = .ok (.iload_n 1, 1) := by decide +kernel
theorem dX9_areAlike_21 : decode cX9_areAlike 21 = .ok (.iload_n 3, 1) := by decide +kernel
theorem dX9_areAlike_22 : decode cX9_areAlike 22 = .ok (.invokestatic 108, 3) := by decide +kernel
theorem dX9_areAlike_25 : decode cX9_areAlike 25 = .ok (.if_icmp .ne 7, 3) := by decide +kernel
theorem dX9_areAlike_28 : decode cX9_areAlike 28 = .ok (.iconst 1, 1) := by decide +kernel
theorem dX9_areAlike_29 : decode cX9_areAlike 29 = .ok (.goto 4, 3) := by decide +kernel
theorem dX9_areAlike_32 : decode cX9_areAlike 32 = .ok (.iconst 0, 1) := by decide +kernel
theorem dX9_areAlike_33 : decode cX9_areAlike 33 = .ok (.ireturn, 1) := by decide +kernel
theorem dX9_look_0 : decode cX9_look 0 = .ok (.aload_n 0, 1) := by decide +kernel
theorem dX9_look_1 : decode cX9_look 1 = .ok (.iload_n 1, 1) := by decide +kernel
theorem dX9_look_2 : decode cX9_look 2 = .ok (.invokevirtual 83, 3) := by decide +kernel
theorem dX9_look_5 : decode cX9_look 5 = .ok (.ifCond .ne 10, 3) := by decide +kernel
theorem dX9_look_8 : decode cX9_look 8 = .ok (.aload_n 0, 1) := by decide +kernel
theorem dX9_look_9 : decode cX9_look 9 = .ok (.bipush (-2), 2) := by decide +kernel
theorem dX9_look_11 : decode cX9_look 11 = .ok (.invokevirtual 64, 3) := by decide +kernel
theorem dX9_look_14 : decode cX9_look 14 = .ok (.ireturn, 1) := by decide +kernel
theorem dX9_look_15 : decode cX9_look 15 = .ok (.aload_n 0, 1) := by decide +kernel
theorem dX9_look_16 : decode cX9_look 16 = .ok (.iload_n 1, 1) := by decide +kernel
theorem dX9_look_17 : decode cX9_look 17 = .ok (.invokevirtual 151, 3) := by decide +kernel
theorem dX9_look_20 : decode cX9_look 20 = .ok (.istore_n 2, 1) := by decide +kernel
theorem dX9_look_21 : decode cX9_look 21 = .ok (.iconst (-1), 1) := by decide +kernel
theorem dX9_look_22 : decode cX9_look 22 = .ok (.istore_n 3, 1) := by decide +kernel
theorem dX9_look_23 : decode cX9_look 23 = .ok (.ldc 154, 2) := by decide +kernel
theorem dX9_look_25 : decode cX9_look 25 = .ok (.istore 4, 2) := by decide +kernel
theorem dX9_look_27 : decode cX9_look 27 = .ok (.iconst 0, 1) := by decide +kernel
theorem dX9_look_28 : decode cX9_look 28 = .ok (.istore 5, 2) := by decide +kernel
theorem dX9_look_30 : decode cX9_look 30 = .ok (.iload 5, 2) := by decide +kernel
theorem dX9_look_32 : decode cX9_look 32 = .ok (.bipush 10, 2) := by decide +kernel
theorem dX9_look_34 : decode cX9_look 34 = .ok (.if_icmp .ge 146, 3) := by decide +kernel
theorem dX9_look_37 : decode cX9_look 37 = .ok (.iload_n 2, 1) := by decide +kernel
theorem dX9_look_38 : decode cX9_look 38 = .ok (.ifCond .le 142, 3) := by decide +kernel
theorem dX9_look_41 : decode cX9_look 41 = .ok (.iconst 0, 1) := by decide +kernel
theorem dX9_look_42 : decode cX9_look 42 = .ok (.istore 6, 2) := by decide +kernel
theorem dX9_look_44 : decode cX9_look 44 = .ok (.iconst 0, 1) := by decide +kernel
theorem dX9_look_45 : decode cX9_look 45 = .ok (.istore 7, 2) := by decide +kernel
theorem dX9_look_47 : decode cX9_look 47 = .ok (.iload 7, 2) := by decide +kernel
theorem dX9_look_49 : decode cX9_look 49 = .ok (.bipush 6, 2) := by decide +kernel
theorem dX9_look_51 : decode cX9_look 51 = .ok (.if_icmp .ge 93, 3) := by decide +kernel
theorem dX9_look_54 : decode cX9_look 54 = .ok (.iconst 0, 1) := by decide +kernel
theorem dX9_look_55 : decode cX9_look 55 = .ok (.istore 8, 2) := by decide +kernel
theorem dX9_look_57 : decode cX9_look 57 = .ok (.iconst 0, 1) := by decide +kernel
theorem dX9_look_58 : decode cX9_look 58 = .ok (.istore 9, 2) := by decide +kernel
theorem dX9_look_60 : decode cX9_look 60 = .ok (.iload 9, 2) := by decide +kernel
theorem dX9_look_62 : decode cX9_look 62 = .ok (.bipush 6, 2) := by decide +kernel
theorem dX9_look_64 : decode cX9_look 64 = .ok (.if_icmp .ge 58, 3) := by decide +kernel
theorem dX9_look_67 : decode cX9_look 67 = .ok (.iload_n 2, 1) := by decide +kernel
theorem dX9_look_68 : decode cX9_look 68 = .ok (.iload 7, 2) := by decide +kernel
theorem dX9_look_70 : decode cX9_look 70 = .ok (.invokestatic 97, 3) := by decide +kernel
theorem dX9_look_73 : decode cX9_look 73 = .ok (.ifCond .eq 49, 3) := by decide +kernel
theorem dX9_look_76 : decode cX9_look 76 = .ok (.iload 8, 2) := by decide +kernel
theorem dX9_look_78 : decode cX9_look 78 = .ok (.iload_n 2, 1) := by decide +kernel
theorem dX9_look_79 : decode cX9_look 79 = .ok (.iload 9, 2) := by decide +kernel
theorem dX9_look_81 : decode cX9_look 81 = .ok (.invokestatic 97, 3) := by decide +kernel
theorem dX9_look_84 : decode cX9_look 84 = .ok (.ifCond .eq 28, 3) := by decide +kernel
theorem dX9_look_87 : decode cX9_look 87 = .ok (.iload 7, 2) := by decide +kernel
theorem dX9_look_89 : decode cX9_look 89 = .ok (.iload 9, 2) := by decide +kernel
theorem dX9_look_91 : decode cX9_look 91 = .ok (.aload_n 0, 1) := by decide +kernel
theorem dX9_look_92 : decode cX9_look 92 = .ok (.getfield 7, 3) := by decide +kernel
theorem dX9_look_95 : decode cX9_look 95 = .ok (.bipush 26, 2) := by decide +kernel
theorem dX9_look_97 : decode cX9_look 97 = .ok (.iload_n 1, 1) := by decide +kernel
theorem dX9_look_98 : decode cX9_look 98 = .ok (.iadd, 1) := by decide +kernel
theorem dX9_look_99 : decode cX9_look 99 = .ok (.iaload, 1) := by decide +kernel
theorem dX9_look_100 : decode cX9_look 100 = .ok (.iload 5, 2) := by decide +kernel
theorem dX9_look_102 : decode cX9_look 102 = .ok (.invokestatic 155, 3) := by decide +kernel
theorem dX9_look_105 : decode cX9_look 105 = .ok (.ifCond .eq 7, 3) := by decide +kernel
theorem dX9_look_108 : decode cX9_look 108 = .ok (.iconst 1, 1) := by decide +kernel
theorem dX9_look_109 : decode cX9_look 109 = .ok (.goto 4, 3) := by decide +kernel
theorem dX9_look_112 : decode cX9_look 112 = .ok (.iconst 0, 1) := by decide +kernel
theorem dX9_look_113 : decode cX9_look 113 = .ok (.iadd, 1) := by decide +kernel
theorem dX9_look_114 : decode cX9_look 114 = .ok (.istore 8, 2) := by decide +kernel
theorem dX9_look_116 : decode cX9_look 116 = .ok (.iinc 9 1, 3) := by decide +kernel
theorem dX9_look_119 : decode cX9_look 119 = .ok (.goto (-59), 3) := by decide +kernel
theorem dX9_look_122 : decode cX9_look 122 = .ok (.iload 8, 2) := by decide +kernel
theorem dX9_look_124 : decode cX9_look 124 = .ok (.iload 6, 2) := by decide +kernel
theorem dX9_look_126 : decode cX9_look 126 = .ok (.if_icmp .le 8, 3) := by decide +kernel
theorem dX9_look_129 : decode cX9_look 129 = .ok (.iload 8, 2) := by decide +kernel
theorem dX9_look_131 : decode cX9_look 131 = .ok (.goto 5, 3) := by decide +kernel
theorem dX9_look_134 : decode cX9_look 134 = .ok (.iload 6, 2) := by decide +kernel
theorem dX9_look_136 : decode cX9_look 136 = .ok (.istore 6, 2) := by decide +kernel
theorem dX9_look_138 : decode cX9_look 138 = .ok (.iinc 7 1, 3) := by decide +kernel
theorem dX9_look_141 : decode cX9_look 141 = .ok (.goto (-94), 3) := by decide +kernel
theorem dX9_look_144 : decode cX9_look 144 = .ok (.iload 6, 2) := by decide +kernel
theorem dX9_look_146 : decode cX9_look 146 = .ok (.iload 4, 2) := by decide +kernel
theorem dX9_look_148 : decode cX9_look 148 = .ok (.if_icmp .ge 8, 3) := by decide +kernel
theorem dX9_look_151 : decode cX9_look 151 = .ok (.iload 5, 2) := by decide +kernel
theorem dX9_look_153 : decode cX9_look 153 = .ok (.goto 4, 3) := by decide +kernel
theorem dX9_look_156 : decode cX9_look 156 = .ok (.iload_n 3, 1) := by decide +kernel
theorem dX9_look_157 : decode cX9_look 157 = .ok (.istore_n 3, 1) := by decide +kernel
theorem dX9_look_158 : decode cX9_look 158 = .ok (.iload 6, 2) := by decide +kernel
theorem dX9_look_160 : decode cX9_look 160 = .ok (.iload 4, 2) := by decide +kernel
theorem dX9_look_162 : decode cX9_look 162 = .ok (.if_icmp .ge 8, 3) := by decide +kernel
theorem dX9_look_165 : decode cX9_look 165 = .ok (.iload 6, 2) := by decide +kernel
theorem dX9_look_167 : decode cX9_look 167 = .ok (.goto 5, 3) := by decide +kernel
theorem dX9_look_170 : decode cX9_look 170 = .ok (.iload 4, 2) := by decide +kernel
theorem dX9_look_172 : decode cX9_look 172 = .ok (.istore 4, 2) := by decide +kernel
theorem dX9_look_174 : decode cX9_look 174 = .ok (.iinc 5 1, 3) := by decide +kernel
theorem dX9_look_177 : decode cX9_look 177 = .ok (.goto (-147), 3) := by decide +kernel
theorem dX9_look_180 : decode cX9_look 180 = .ok (.iload_n 3, 1) := by decide +kernel
theorem dX9_look_181 : decode cX9_look 181 = .ok (.ireturn, 1) := by decide +kernel
theorem dX9_fraction_0 : decode cX9_fraction 0 = .ok (.lload_n 1, 1) := by decide +kernel
theorem dX9_fraction_1 : decode cX9_fraction 1 = .ok (.lstore 5, 2) := by decide +kernel
theorem dX9_fraction_3 : decode cX9_fraction 3 = .ok (.lload_n 3, 1) := by decide +kernel
theorem dX9_fraction_4 : decode cX9_fraction 4 = .ok (.lstore 7, 2) := by decide +kernel
theorem dX9_fraction_6 : decode cX9_fraction 6 = .ok (.lload 7, 2) := by decide +kernel
theorem dX9_fraction_8 : decode cX9_fraction 8 = .ok (.lconst 0, 1) := by decide +kernel
theorem dX9_fraction_9 : decode cX9_fraction 9 = .ok (.lcmp, 1) := by decide +kernel
theorem dX9_fraction_10 : decode cX9_fraction 10 = .ok (.ifCond .eq 21, 3) := by decide +kernel
theorem dX9_fraction_13 : decode cX9_fraction 13 = .ok (.lload 5, 2) := by decide +kernel
theorem dX9_fraction_15 : decode cX9_fraction 15 = .ok (.lload 7, 2) := by decide +kernel
theorem dX9_fraction_17 : decode cX9_fraction 17 = .ok (.lrem, 1) := by decide +kernel
theorem dX9_fraction_18 : decode cX9_fraction 18 = .ok (.lstore 9, 2) := by decide +kernel
theorem dX9_fraction_20 : decode cX9_fraction 20 = .ok (.lload 7, 2) := by decide +kernel
theorem dX9_fraction_22 : decode cX9_fraction 22 = .ok (.lstore 5, 2) := by decide +kernel
theorem dX9_fraction_24 : decode cX9_fraction 24 = .ok (.lload 9, 2) := by decide +kernel
theorem dX9_fraction_26 : decode cX9_fraction 26 = .ok (.lstore 7, 2) := by decide +kernel
theorem dX9_fraction_28 : decode cX9_fraction 28 = .ok (.goto (-22), 3) := by decide +kernel
theorem dX9_fraction_31 : decode cX9_fraction 31 = .ok (.aload_n 0, 1) := by decide +kernel
theorem dX9_fraction_32 : decode cX9_fraction 32 = .ok (.lload_n 1, 1) := by decide +kernel
theorem dX9_fraction_33 : decode cX9_fraction 33 = .ok (.lload 5, 2) := by decide +kernel
theorem dX9_fraction_35 : decode cX9_fraction 35 = .ok (.ldiv, 1) := by decide +kernel
theorem dX9_fraction_36 : decode cX9_fraction 36 = .ok (.putfield 159, 3) := by decide +kernel
theorem dX9_fraction_39 : decode cX9_fraction 39 = .ok (.aload_n 0, 1) := by decide +kernel
theorem dX9_fraction_40 : decode cX9_fraction 40 = .ok (.lload_n 3, 1) := by decide +kernel
theorem dX9_fraction_41 : decode cX9_fraction 41 = .ok (.lload 5, 2) := by decide +kernel
theorem dX9_fraction_43 : decode cX9_fraction 43 = .ok (.ldiv, 1) := by decide +kernel
theorem dX9_fraction_44 : decode cX9_fraction 44 = .ok (.putfield 23, 3) := by decide +kernel
theorem dX9_fraction_47 : decode cX9_fraction 47 = .ok (.return_, 1) := by decide +kernel
theorem dX9_fare_0 : decode cX9_fare 0 = .ok (.iload_n 1, 1) := by decide +kernel
theorem dX9_fare_1 : decode cX9_fare 1 = .ok (.i2l, 1) := by decide +kernel
theorem dX9_fare_2 : decode cX9_fare 2 = .ok (.lconst 1, 1) := by decide +kernel
theorem dX9_fare_3 : decode cX9_fare 3 = .ok (.ldc2_w 162, 3) := by decide +kernel
theorem dX9_fare_6 : decode cX9_fare 6 = .ok (.invokestatic 56, 3) := by decide +kernel
theorem dX9_fare_9 : decode cX9_fare 9 = .ok (.ifCond .ne 10, 3) := by decide +kernel
theorem dX9_fare_12 : decode cX9_fare 12 = .ok (.aload_n 0, 1) := by decide +kernel
theorem dX9_fare_13 : decode cX9_fare 13 = .ok (.bipush (-2), 2) := by decide +kernel
theorem dX9_fare_15 : decode cX9_fare 15 = .ok (.invokevirtual 64, 3) := by decide +kernel
theorem dX9_fare_18 : decode cX9_fare 18 = .ok (.ireturn, 1) := by decide +kernel
theorem dX9_fare_19 : decode cX9_fare 19 = .ok (.aload_n 0, 1) := by decide +kernel
theorem dX9_fare_20 : decode cX9_fare 20 = .ok (.invokevirtual 90, 3) := by decide +kernel
theorem dX9_fare_23 : decode cX9_fare 23 = .ok (.aload_n 0, 1) := by decide +kernel
theorem dX9_fare_24 : decode cX9_fare 24 = .ok (.bipush 10, 2) := by decide +kernel
theorem dX9_fare_26 : decode cX9_fare 26 = .ok (.invokevirtual 125, 3) := by decide +kernel
theorem dX9_fare_29 : decode cX9_fare 29 = .ok (.aload_n 0, 1) := by decide +kernel
theorem dX9_fare_30 : decode cX9_fare 30 = .ok (.aload_n 0, 1) := by decide +kernel
theorem dX9_fare_31 : decode cX9_fare 31 = .ok (.getfield 27, 3) := by decide +kernel
theorem dX9_fare_34 : decode cX9_fare 34 = .ok (.bipush 7, 2) := by decide +kernel
theorem dX9_fare_36 : decode cX9_fare 36 = .ok (.iaload, 1) := by decide +kernel
theorem dX9_fare_37 : decode cX9_fare 37 = .ok (.i2l, 1) := by decide +kernel
theorem dX9_fare_38 : decode cX9_fare 38 = .ok (.iload_n 1, 1) := by decide +kernel
theorem dX9_fare_39 : decode cX9_fare 39 = .ok (.i2l, 1) := by decide +kernel
theorem dX9_fare_40 : decode cX9_fare 40 = .ok (.invokevirtual 164, 3) := by decide +kernel
theorem dX9_fare_43 : decode cX9_fare 43 = .ok (.iconst 1, 1) := by decide +kernel
theorem dX9_fare_44 : decode cX9_fare 44 = .ok (.ireturn, 1) := by decide +kernel
theorem dX9_layPair_0 : decode cX9_layPair 0 = .ok (.aload_n 0, 1) := by decide +kernel
theorem dX9_layPair_1 : decode cX9_layPair 1 = .ok (.invokevirtual 141, 3) := by decide +kernel
theorem dX9_layPair_4 : decode cX9_layPair 4 = .ok (.aload_n 0, 1) := by decide +kernel
theorem dX9_layPair_5 : decode cX9_layPair 5 = .ok (.getfield 27, 3) := by decide +kernel
theorem dX9_layPair_8 : decode cX9_layPair 8 = .ok (.bipush 33, 2) := by decide +kernel
theorem dX9_layPair_10 : decode cX9_layPair 10 = .ok (.iload_n 1, 1) := by decide +kernel
theorem dX9_layPair_11 : decode cX9_layPair 11 = .ok (.iadd, 1) := by decide +kernel
theorem dX9_layPair_12 : decode cX9_layPair 12 = .ok (.iload_n 3, 1) := by decide +kernel
theorem dX9_layPair_13 : decode cX9_layPair 13 = .ok (.bipush 10, 2) := by decide +kernel
theorem dX9_layPair_15 : decode cX9_layPair 15 = .ok (.idiv, 1) := by decide +kernel
theorem dX9_layPair_16 : decode cX9_layPair 16 = .ok (.iastore, 1) := by decide +kernel
theorem dX9_layPair_17 : decode cX9_layPair 17 = .ok (.aload_n 0, 1) := by decide +kernel
theorem dX9_layPair_18 : decode cX9_layPair 18 = .ok (.getfield 27, 3) := by decide +kernel
theorem dX9_layPair_21 : decode cX9_layPair 21 = .ok (.bipush 33, 2) := by decide +kernel
theorem dX9_layPair_23 : decode cX9_layPair 23 = .ok (.iload_n 2, 1) := by decide +kernel
theorem dX9_layPair_24 : decode cX9_layPair 24 = .ok (.iadd, 1) := by decide +kernel
theorem dX9_layPair_25 : decode cX9_layPair 25 = .ok (.iload_n 3, 1) := by decide +kernel
theorem dX9_layPair_26 : decode cX9_layPair 26 = .ok (.bipush 10, 2) := by decide +kernel
theorem dX9_layPair_28 : decode cX9_layPair 28 = .ok (.irem, 1) := by decide +kernel
theorem dX9_layPair_29 : decode cX9_layPair 29 = .ok (.iastore, 1) := by decide +kernel
theorem dX9_layPair_30 : decode cX9_layPair 30 = .ok (.aload_n 0, 1) := by decide +kernel
theorem dX9_layPair_31 : decode cX9_layPair 31 = .ok (.getfield 33, 3) := by decide +kernel
theorem dX9_layPair_34 : decode cX9_layPair 34 = .ok (.iload_n 3, 1) := by decide +kernel
theorem dX9_layPair_35 : decode cX9_layPair 35 = .ok (.iconst 0, 1) := by decide +kernel
theorem dX9_layPair_36 : decode cX9_layPair 36 = .ok (.iastore, 1) := by decide +kernel
theorem dX9_layPair_37 : decode cX9_layPair 37 = .ok (.aload_n 0, 1) := by decide +kernel
theorem dX9_layPair_38 : decode cX9_layPair 38 = .ok (.getfield 36, 3) := by decide +kernel
theorem dX9_layPair_41 : decode cX9_layPair 41 = .ok (.iload_n 3, 1) := by decide +kernel
theorem dX9_layPair_42 : decode cX9_layPair 42 = .ok (.iconst 0, 1) := by decide +kernel
theorem dX9_layPair_43 : decode cX9_layPair 43 = .ok (.iastore, 1) := by decide +kernel
theorem dX9_layPair_44 : decode cX9_layPair 44 = .ok (.aload_n 0, 1) := by decide +kernel
theorem dX9_layPair_45 : decode cX9_layPair 45 = .ok (.getfield 27, 3) := by decide +kernel
theorem dX9_layPair_48 : decode cX9_layPair 48 = .ok (.iconst 3, 1) := by decide +kernel
theorem dX9_layPair_49 : decode cX9_layPair 49 = .ok (.iaload, 1) := by decide +kernel
theorem dX9_layPair_50 : decode cX9_layPair 50 = .ok (.bipush 10, 2) := by decide +kernel
theorem dX9_layPair_52 : decode cX9_layPair 52 = .ok (.if_icmp .ge 48, 3) := by decide +kernel
theorem dX9_layPair_55 : decode cX9_layPair 55 = .ok (.aload_n 0, 1) := by decide +kernel
theorem dX9_layPair_56 : decode cX9_layPair 56 = .ok (.invokevirtual 114, 3) := by decide +kernel
theorem dX9_layPair_59 : decode cX9_layPair 59 = .ok (.aload_n 0, 1) := by decide +kernel
theorem dX9_layPair_60 : decode cX9_layPair 60 = .ok (.getfield 33, 3) := by decide +kernel
theorem dX9_layPair_63 : decode cX9_layPair 63 = .ok (.iload_n 3, 1) := by decide +kernel
theorem dX9_layPair_64 : decode cX9_layPair 64 = .ok (.dup2, 1) := by decide +kernel
theorem dX9_layPair_65 : decode cX9_layPair 65 = .ok (.iaload, 1) := by decide +kernel
theorem dX9_layPair_66 : decode cX9_layPair 66 = .ok (.aload_n 0, 1) := by decide +kernel
theorem dX9_layPair_67 : decode cX9_layPair 67 = .ok (.getfield 27, 3) := by decide +kernel
theorem dX9_layPair_70 : decode cX9_layPair 70 = .ok (.iconst 4, 1) := by decide +kernel
theorem dX9_layPair_71 : decode cX9_layPair 71 = .ok (.iaload, 1) := by decide +kernel
theorem dX9_layPair_72 : decode cX9_layPair 72 = .ok (.iload_n 1, 1) := by decide +kernel
theorem dX9_layPair_73 : decode cX9_layPair 73 = .ok (.ishr, 1) := by decide +kernel
theorem dX9_layPair_74 : decode cX9_layPair 74 = .ok (.iconst 1, 1) := by decide +kernel
theorem dX9_layPair_75 : decode cX9_layPair 75 = .ok (.iand, 1) := by decide +kernel
theorem dX9_layPair_76 : decode cX9_layPair 76 = .ok (.iadd, 1) := by decide +kernel
theorem dX9_layPair_77 : decode cX9_layPair 77 = .ok (.iastore, 1) := by decide +kernel
theorem dX9_layPair_78 : decode cX9_layPair 78 = .ok (.aload_n 0, 1) := by decide +kernel
theorem dX9_layPair_79 : decode cX9_layPair 79 = .ok (.getfield 36, 3) := by decide +kernel
theorem dX9_layPair_82 : decode cX9_layPair 82 = .ok (.iload_n 3, 1) := by decide +kernel
theorem dX9_layPair_83 : decode cX9_layPair 83 = .ok (.dup2, 1) := by decide +kernel
theorem dX9_layPair_84 : decode cX9_layPair 84 = .ok (.iaload, 1) := by decide +kernel
theorem dX9_layPair_85 : decode cX9_layPair 85 = .ok (.aload_n 0, 1) := by decide +kernel
theorem dX9_layPair_86 : decode cX9_layPair 86 = .ok (.getfield 27, 3) := by decide +kernel
theorem dX9_layPair_89 : decode cX9_layPair 89 = .ok (.iconst 4, 1) := by decide +kernel
theorem dX9_layPair_90 : decode cX9_layPair 90 = .ok (.iaload, 1) := by decide +kernel
theorem dX9_layPair_91 : decode cX9_layPair 91 = .ok (.iload_n 2, 1) := by decide +kernel
theorem dX9_layPair_92 : decode cX9_layPair 92 = .ok (.ishr, 1) := by decide +kernel
theorem dX9_layPair_93 : decode cX9_layPair 93 = .ok (.iconst 1, 1) := by decide +kernel
theorem dX9_layPair_94 : decode cX9_layPair 94 = .ok (.iand, 1) := by decide +kernel
theorem dX9_layPair_95 : decode cX9_layPair 95 = .ok (.iadd, 1) := by decide +kernel
theorem dX9_layPair_96 : decode cX9_layPair 96 = .ok (.iastore, 1) := by decide +kernel
theorem dX9_layPair_97 : decode cX9_layPair 97 = .ok (.goto (-53), 3) := by decide +kernel
theorem dX9_layPair_100 : decode cX9_layPair 100 = .ok (.return_, 1) := by decide +kernel
theorem dX9_isPair_0 : decode cX9_isPair 0 = .ok (.iload_n 3, 1) := by decide +kernel
theorem dX9_isPair_1 : decode cX9_isPair 1 = .ok (.bipush 10, 2) := by decide +kernel
theorem dX9_isPair_3 : decode cX9_isPair 3 = .ok (.idiv, 1) := by decide +kernel
theorem dX9_isPair_4 : decode cX9_isPair 4 = .ok (.aload_n 0, 1) := by decide +kernel
theorem dX9_isPair_5 : decode cX9_isPair 5 = .ok (.getfield 7, 3) := by decide +kernel
theorem dX9_isPair_8 : decode cX9_isPair 8 = .ok (.bipush 40, 2) := by decide +kernel
theorem dX9_isPair_10 : decode cX9_isPair 10 = .ok (.iload_n 1, 1) := by decide +kernel
theorem dX9_isPair_11 : decode cX9_isPair 11 = .ok (.iadd, 1) := by decide +kernel
theorem dX9_isPair_12 : decode cX9_isPair 12 = .ok (.iaload, 1) := by decide +kernel
theorem dX9_isPair_13 : decode cX9_isPair 13 = .ok (.if_icmp .ge 23, 3) := by decide +kernel
theorem dX9_isPair_16 : decode cX9_isPair 16 = .ok (.iload_n 3, 1) := by decide +kernel
theorem dX9_isPair_17 : decode cX9_isPair 17 = .ok (.bipush 10, 2) := by decide +kernel
theorem dX9_isPair_19 : decode cX9_isPair 19 = .ok (.irem, 1) := by decide +kernel
theorem dX9_isPair_20 : decode cX9_isPair 20 = .ok (.aload_n 0, 1) := by decide +kernel
theorem dX9_isPair_21 : decode cX9_isPair 21 = .ok (.getfield 7, 3) := by decide +kernel
theorem dX9_isPair_24 : decode cX9_isPair 24 = .ok (.bipush 40, 2) := by decide +kernel
theorem dX9_isPair_26 : decode cX9_isPair 26 = .ok (.iload_n 2, 1) := by decide +kernel
theorem dX9_isPair_27 : decode cX9_isPair 27 = .ok (.iadd, 1) := by decide +kernel
theorem dX9_isPair_28 : decode cX9_isPair 28 = .ok (.iaload, 1) := by decide +kernel
theorem dX9_isPair_29 : decode cX9_isPair 29 = .ok (.if_icmp .ge 7, 3) := by decide +kernel
theorem dX9_isPair_32 : decode cX9_isPair 32 = .ok (.iconst 1, 1) := by decide +kernel
theorem dX9_isPair_33 : decode cX9_isPair 33 = .ok (.goto 4, 3) := by decide +kernel
theorem dX9_isPair_36 : decode cX9_isPair 36 = .ok (.iconst 0, 1) := by decide +kernel
theorem dX9_isPair_37 : decode cX9_isPair 37 = .ok (.ireturn, 1) := by decide +kernel
theorem dX9_rests_0 : decode cX9_rests 0 = .ok (.iconst 1, 1) := by decide +kernel
theorem dX9_rests_1 : decode cX9_rests 1 = .ok (.istore 4, 2) := by decide +kernel
theorem dX9_rests_3 : decode cX9_rests 3 = .ok (.iconst 0, 1) := by decide +kernel
theorem dX9_rests_4 : decode cX9_rests 4 = .ok (.istore 5, 2) := by decide +kernel
theorem dX9_rests_6 : decode cX9_rests 6 = .ok (.iload 5, 2) := by decide +kernel
theorem dX9_rests_8 : decode cX9_rests 8 = .ok (.aload_n 0, 1) := by decide +kernel
theorem dX9_rests_9 : decode cX9_rests 9 = .ok (.getfield 7, 3) := by decide +kernel
theorem dX9_rests_12 : decode cX9_rests 12 = .ok (.bipush 40, 2) := by decide +kernel
theorem dX9_rests_14 : decode cX9_rests 14 = .ok (.iload_n 1, 1) := by decide +kernel
theorem dX9_rests_15 : decode cX9_rests 15 = .ok (.iadd, 1) := by decide +kernel
theorem dX9_rests_16 : decode cX9_rests 16 = .ok (.iaload, 1) := by decide +kernel
theorem dX9_rests_17 : decode cX9_rests 17 = .ok (.if_icmp .ge 45, 3) := by decide +kernel
theorem dX9_rests_20 : decode cX9_rests 20 = .ok (.iload 4, 2) := by decide +kernel
theorem dX9_rests_22 : decode cX9_rests 22 = .ok (.ifCond .eq 31, 3) := by decide +kernel
theorem dX9_rests_25 : decode cX9_rests 25 = .ok (.aload_n 0, 1) := by decide +kernel
theorem dX9_rests_26 : decode cX9_rests 26 = .ok (.getfield 33, 3) := by decide +kernel
theorem dX9_rests_29 : decode cX9_rests 29 = .ok (.bipush 10, 2) := by decide +kernel
theorem dX9_rests_31 : decode cX9_rests 31 = .ok (.iload 5, 2) := by decide +kernel
theorem dX9_rests_33 : decode cX9_rests 33 = .ok (.imul, 1) := by decide +kernel
theorem dX9_rests_34 : decode cX9_rests 34 = .ok (.iload_n 3, 1) := by decide +kernel
theorem dX9_rests_35 : decode cX9_rests 35 = .ok (.bipush 10, 2) := by decide +kernel
theorem dX9_rests_37 : decode cX9_rests 37 = .ok (.irem, 1) := by decide +kernel
theorem dX9_rests_38 : decode cX9_rests 38 = .ok (.iadd, 1) := by decide +kernel
theorem dX9_rests_39 : decode cX9_rests 39 = .ok (.iaload, 1) := by decide +kernel
theorem dX9_rests_40 : decode cX9_rests 40 = .ok (.aload_n 0, 1) := by decide +kernel
theorem dX9_rests_41 : decode cX9_rests 41 = .ok (.getfield 33, 3) := by decide +kernel
theorem dX9_rests_44 : decode cX9_rests 44 = .ok (.iload_n 3, 1) := by decide +kernel
theorem dX9_rests_45 : decode cX9_rests 45 = .ok (.iaload, 1) := by decide +kernel
theorem dX9_rests_46 : decode cX9_rests 46 = .ok (.if_icmp .gt 7, 3) := by decide +kernel
theorem dX9_rests_49 : decode cX9_rests 49 = .ok (.iconst 1, 1) := by decide +kernel
theorem dX9_rests_50 : decode cX9_rests 50 = .ok (.goto 4, 3) := by decide +kernel
theorem dX9_rests_53 : decode cX9_rests 53 = .ok (.iconst 0, 1) := by decide +kernel
theorem dX9_rests_54 : decode cX9_rests 54 = .ok (.istore 4, 2) := by decide +kernel
theorem dX9_rests_56 : decode cX9_rests 56 = .ok (.iinc 5 1, 3) := by decide +kernel
theorem dX9_rests_59 : decode cX9_rests 59 = .ok (.goto (-53), 3) := by decide +kernel
theorem dX9_rests_62 : decode cX9_rests 62 = .ok (.iconst 0, 1) := by decide +kernel
theorem dX9_rests_63 : decode cX9_rests 63 = .ok (.istore 5, 2) := by decide +kernel
theorem dX9_rests_65 : decode cX9_rests 65 = .ok (.iload 5, 2) := by decide +kernel
theorem dX9_rests_67 : decode cX9_rests 67 = .ok (.aload_n 0, 1) := by decide +kernel
theorem dX9_rests_68 : decode cX9_rests 68 = .ok (.getfield 7, 3) := by decide +kernel
theorem dX9_rests_71 : decode cX9_rests 71 = .ok (.bipush 40, 2) := by decide +kernel
theorem dX9_rests_73 : decode cX9_rests 73 = .ok (.iload_n 2, 1) := by decide +kernel
theorem dX9_rests_74 : decode cX9_rests 74 = .ok (.iadd, 1) := by decide +kernel
theorem dX9_rests_75 : decode cX9_rests 75 = .ok (.iaload, 1) := by decide +kernel
theorem dX9_rests_76 : decode cX9_rests 76 = .ok (.if_icmp .ge 45, 3) := by decide +kernel
theorem dX9_rests_79 : decode cX9_rests 79 = .ok (.iload 4, 2) := by decide +kernel
theorem dX9_rests_81 : decode cX9_rests 81 = .ok (.ifCond .eq 31, 3) := by decide +kernel
theorem dX9_rests_84 : decode cX9_rests 84 = .ok (.aload_n 0, 1) := by decide +kernel
theorem dX9_rests_85 : decode cX9_rests 85 = .ok (.getfield 36, 3) := by decide +kernel
theorem dX9_rests_88 : decode cX9_rests 88 = .ok (.iload_n 3, 1) := by decide +kernel
theorem dX9_rests_89 : decode cX9_rests 89 = .ok (.bipush 10, 2) := by decide +kernel
theorem dX9_rests_91 : decode cX9_rests 91 = .ok (.idiv, 1) := by decide +kernel
theorem dX9_rests_92 : decode cX9_rests 92 = .ok (.bipush 10, 2) := by decide +kernel
theorem dX9_rests_94 : decode cX9_rests 94 = .ok (.imul, 1) := by decide +kernel
theorem dX9_rests_95 : decode cX9_rests 95 = .ok (.iload 5, 2) := by decide +kernel
theorem dX9_rests_97 : decode cX9_rests 97 = .ok (.iadd, 1) := by decide +kernel
theorem dX9_rests_98 : decode cX9_rests 98 = .ok (.iaload, 1) := by decide +kernel
theorem dX9_rests_99 : decode cX9_rests 99 = .ok (.aload_n 0, 1) := by decide +kernel
theorem dX9_rests_100 : decode cX9_rests 100 = .ok (.getfield 36, 3) := by decide +kernel
theorem dX9_rests_103 : decode cX9_rests 103 = .ok (.iload_n 3, 1) := by decide +kernel
theorem dX9_rests_104 : decode cX9_rests 104 = .ok (.iaload, 1) := by decide +kernel
theorem dX9_rests_105 : decode cX9_rests 105 = .ok (.if_icmp .gt 7, 3) := by decide +kernel
theorem dX9_rests_108 : decode cX9_rests 108 = .ok (.iconst 1, 1) := by decide +kernel
theorem dX9_rests_109 : decode cX9_rests 109 = .ok (.goto 4, 3) := by decide +kernel
theorem dX9_rests_112 : decode cX9_rests 112 = .ok (.iconst 0, 1) := by decide +kernel
theorem dX9_rests_113 : decode cX9_rests 113 = .ok (.istore 4, 2) := by decide +kernel
theorem dX9_rests_115 : decode cX9_rests 115 = .ok (.iinc 5 1, 3) := by decide +kernel
theorem dX9_rests_118 : decode cX9_rests 118 = .ok (.goto (-53), 3) := by decide +kernel
theorem dX9_rests_121 : decode cX9_rests 121 = .ok (.iload 4, 2) := by decide +kernel
theorem dX9_rests_123 : decode cX9_rests 123 = .ok (.ireturn, 1) := by decide +kernel
theorem dX9_two_0 : decode cX9_two 0 = .ok (.aload_n 0, 1) := by decide +kernel
theorem dX9_two_1 : decode cX9_two 1 = .ok (.iload_n 1, 1) := by decide +kernel
theorem dX9_two_2 : decode cX9_two 2 = .ok (.invokevirtual 83, 3) := by decide +kernel
theorem dX9_two_5 : decode cX9_two 5 = .ok (.ifCond .eq 21, 3) := by decide +kernel
theorem dX9_two_8 : decode cX9_two 8 = .ok (.aload_n 0, 1) := by decide +kernel
theorem dX9_two_9 : decode cX9_two 9 = .ok (.iload_n 2, 1) := by decide +kernel
theorem dX9_two_10 : decode cX9_two 10 = .ok (.invokevirtual 83, 3) := by decide +kernel
theorem dX9_two_13 : decode cX9_two 13 = .ok (.ifCond .eq 13, 3) := by decide +kernel
theorem dX9_two_16 : decode cX9_two 16 = .ok (.iload_n 1, 1) := by decide +kernel
theorem dX9_two_17 : decode cX9_two 17 = .ok (.iload_n 2, 1) := by decide +kernel
theorem dX9_two_18 : decode cX9_two 18 = .ok (.if_icmp .eq 8, 3) := by decide +kernel
theorem dX9_two_21 : decode cX9_two 21 = .ok (.iload_n 3, 1) := by decide +kernel
theorem dX9_two_22 : decode cX9_two 22 = .ok (.iconst (-1), 1) := by decide +kernel
theorem dX9_two_23 : decode cX9_two 23 = .ok (.if_icmp .ge 10, 3) := by decide +kernel
theorem dX9_two_26 : decode cX9_two 26 = .ok (.aload_n 0, 1) := by decide +kernel
theorem dX9_two_27 : decode cX9_two 27 = .ok (.bipush (-10), 2) := by decide +kernel
theorem dX9_two_29 : decode cX9_two 29 = .ok (.invokevirtual 64, 3) := by decide +kernel
theorem dX9_two_32 : decode cX9_two 32 = .ok (.ireturn, 1) := by decide +kernel
theorem dX9_two_33 : decode cX9_two 33 = .ok (.iconst 0, 1) := by decide +kernel
theorem dX9_two_34 : decode cX9_two 34 = .ok (.istore 4, 2) := by decide +kernel
theorem dX9_two_36 : decode cX9_two 36 = .ok (.iload 4, 2) := by decide +kernel
theorem dX9_two_38 : decode cX9_two 38 = .ok (.bipush 100, 2) := by decide +kernel
theorem dX9_two_40 : decode cX9_two 40 = .ok (.if_icmp .ge 28, 3) := by decide +kernel
theorem dX9_two_43 : decode cX9_two 43 = .ok (.aload_n 0, 1) := by decide +kernel
theorem dX9_two_44 : decode cX9_two 44 = .ok (.iload_n 1, 1) := by decide +kernel
theorem dX9_two_45 : decode cX9_two 45 = .ok (.iload_n 2, 1) := by decide +kernel
theorem dX9_two_46 : decode cX9_two 46 = .ok (.iload 4, 2) := by decide +kernel
theorem dX9_two_48 : decode cX9_two 48 = .ok (.invokevirtual 168, 3) := by decide +kernel
theorem dX9_two_51 : decode cX9_two 51 = .ok (.ifCond .eq 11, 3) := by decide +kernel
theorem dX9_two_54 : decode cX9_two 54 = .ok (.aload_n 0, 1) := by decide +kernel
theorem dX9_two_55 : decode cX9_two 55 = .ok (.iload_n 1, 1) := by decide +kernel
theorem dX9_two_56 : decode cX9_two 56 = .ok (.iload_n 2, 1) := by decide +kernel
theorem dX9_two_57 : decode cX9_two 57 = .ok (.iload 4, 2) := by decide +kernel
theorem dX9_two_59 : decode cX9_two 59 = .ok (.invokevirtual 172, 3) := by decide +kernel
theorem dX9_two_62 : decode cX9_two 62 = .ok (.iinc 4 1, 3) := by decide +kernel
theorem dX9_two_65 : decode cX9_two 65 = .ok (.goto (-29), 3) := by decide +kernel
theorem dX9_two_68 : decode cX9_two 68 = .ok (.iconst 0, 1) := by decide +kernel
theorem dX9_two_69 : decode cX9_two 69 = .ok (.istore 4, 2) := by decide +kernel
theorem dX9_two_71 : decode cX9_two 71 = .ok (.bipush (-5), 2) := by decide +kernel
theorem dX9_two_73 : decode cX9_two 73 = .ok (.istore 5, 2) := by decide +kernel
theorem dX9_two_75 : decode cX9_two 75 = .ok (.iconst 0, 1) := by decide +kernel
theorem dX9_two_76 : decode cX9_two 76 = .ok (.istore 6, 2) := by decide +kernel
theorem dX9_two_78 : decode cX9_two 78 = .ok (.iload 6, 2) := by decide +kernel
theorem dX9_two_80 : decode cX9_two 80 = .ok (.bipush 100, 2) := by decide +kernel
theorem dX9_two_82 : decode cX9_two 82 = .ok (.if_icmp .ge 49, 3) := by decide +kernel
theorem dX9_two_85 : decode cX9_two 85 = .ok (.aload_n 0, 1) := by decide +kernel
theorem dX9_two_86 : decode cX9_two 86 = .ok (.iload_n 1, 1) := by decide +kernel
theorem dX9_two_87 : decode cX9_two 87 = .ok (.iload_n 2, 1) := by decide +kernel
theorem dX9_two_88 : decode cX9_two 88 = .ok (.iload 6, 2) := by decide +kernel
theorem dX9_two_90 : decode cX9_two 90 = .ok (.invokevirtual 168, 3) := by decide +kernel
theorem dX9_two_93 : decode cX9_two 93 = .ok (.ifCond .eq 32, 3) := by decide +kernel
theorem dX9_two_96 : decode cX9_two 96 = .ok (.aload_n 0, 1) := by decide +kernel
theorem dX9_two_97 : decode cX9_two 97 = .ok (.iload_n 1, 1) := by decide +kernel
theorem dX9_two_98 : decode cX9_two 98 = .ok (.iload_n 2, 1) := by decide +kernel
theorem dX9_two_99 : decode cX9_two 99 = .ok (.iload 6, 2) := by decide +kernel
theorem dX9_two_101 : decode cX9_two 101 = .ok (.invokevirtual 176, 3) := by decide +kernel
theorem dX9_two_104 : decode cX9_two 104 = .ok (.ifCond .eq 21, 3) := by decide +kernel
theorem dX9_two_107 : decode cX9_two 107 = .ok (.iload 4, 2) := by decide +kernel
theorem dX9_two_109 : decode cX9_two 109 = .ok (.iload_n 3, 1) := by decide +kernel
theorem dX9_two_110 : decode cX9_two 110 = .ok (.if_icmp .ne 8, 3) := by decide +kernel
theorem dX9_two_113 : decode cX9_two 113 = .ok (.iload 6, 2) := by decide +kernel
theorem dX9_two_115 : decode cX9_two 115 = .ok (.goto 5, 3) := by decide +kernel
theorem dX9_two_118 : decode cX9_two 118 = .ok (.iload 5, 2) := by decide +kernel
theorem dX9_two_120 : decode cX9_two 120 = .ok (.istore 5, 2) := by decide +kernel
theorem dX9_two_122 : decode cX9_two 122 = .ok (.iinc 4 1, 3) := by decide +kernel
theorem dX9_two_125 : decode cX9_two 125 = .ok (.iinc 6 1, 3) := by decide +kernel
theorem dX9_two_128 : decode cX9_two 128 = .ok (.goto (-50), 3) := by decide +kernel
theorem dX9_two_131 : decode cX9_two 131 = .ok (.iload_n 3, 1) := by decide +kernel
theorem dX9_two_132 : decode cX9_two 132 = .ok (.iconst (-1), 1) := by decide +kernel
theorem dX9_two_133 : decode cX9_two 133 = .ok (.if_icmp .ne 8, 3) := by decide +kernel
theorem dX9_two_136 : decode cX9_two 136 = .ok (.iload 4, 2) := by decide +kernel
theorem dX9_two_138 : decode cX9_two 138 = .ok (.goto 5, 3) := by decide +kernel
theorem dX9_two_141 : decode cX9_two 141 = .ok (.iload 5, 2) := by decide +kernel
theorem dX9_two_143 : decode cX9_two 143 = .ok (.ireturn, 1) := by decide +kernel
theorem dX9_bell_0 : decode cX9_bell 0 = .ok (.iload_n 1, 1) := by decide +kernel
theorem dX9_bell_1 : decode cX9_bell 1 = .ok (.i2l, 1) := by decide +kernel
theorem dX9_bell_2 : decode cX9_bell 2 = .ok (.lconst 0, 1) := by decide +kernel
theorem dX9_bell_3 : decode cX9_bell 3 = .ok (.ldc2_w 117, 3) := by decide +kernel
theorem dX9_bell_6 : decode cX9_bell 6 = .ok (.invokestatic 56, 3) := by decide +kernel
theorem dX9_bell_9 : decode cX9_bell 9 = .ok (.ifCond .ne 10, 3) := by decide +kernel
theorem dX9_bell_12 : decode cX9_bell 12 = .ok (.aload_n 0, 1) := by decide +kernel
theorem dX9_bell_13 : decode cX9_bell 13 = .ok (.bipush (-2), 2) := by decide +kernel
theorem dX9_bell_15 : decode cX9_bell 15 = .ok (.invokevirtual 64, 3) := by decide +kernel
theorem dX9_bell_18 : decode cX9_bell 18 = .ok (.ireturn, 1) := by decide +kernel
theorem dX9_bell_19 : decode cX9_bell 19 = .ok (.aload_n 0, 1) := by decide +kernel
theorem dX9_bell_20 : decode cX9_bell 20 = .ok (.invokevirtual 90, 3) := by decide +kernel
theorem dX9_bell_23 : decode cX9_bell 23 = .ok (.aload_n 0, 1) := by decide +kernel
theorem dX9_bell_24 : decode cX9_bell 24 = .ok (.getfield 27, 3) := by decide +kernel
theorem dX9_bell_27 : decode cX9_bell 27 = .ok (.iconst 3, 1) := by decide +kernel
theorem dX9_bell_28 : decode cX9_bell 28 = .ok (.iaload, 1) := by decide +kernel
theorem dX9_bell_29 : decode cX9_bell 29 = .ok (.bipush 10, 2) := by decide +kernel
theorem dX9_bell_31 : decode cX9_bell 31 = .ok (.if_icmp .ne 8, 3) := by decide +kernel
theorem dX9_bell_34 : decode cX9_bell 34 = .ok (.bipush 9, 2) := by decide +kernel
theorem dX9_bell_36 : decode cX9_bell 36 = .ok (.goto 9, 3) := by decide +kernel
theorem dX9_bell_39 : decode cX9_bell 39 = .ok (.aload_n 0, 1) := by decide +kernel
theorem dX9_bell_40 : decode cX9_bell 40 = .ok (.getfield 27, 3) := by decide +kernel
theorem dX9_bell_43 : decode cX9_bell 43 = .ok (.iconst 3, 1) := by decide +kernel
theorem dX9_bell_44 : decode cX9_bell 44 = .ok (.iaload, 1) := by decide +kernel
theorem dX9_bell_45 : decode cX9_bell 45 = .ok (.istore_n 2, 1) := by decide +kernel
theorem dX9_bell_46 : decode cX9_bell 46 = .ok (.aload_n 0, 1) := by decide +kernel
theorem dX9_bell_47 : decode cX9_bell 47 = .ok (.aload_n 0, 1) := by decide +kernel
theorem dX9_bell_48 : decode cX9_bell 48 = .ok (.aload_n 0, 1) := by decide +kernel
theorem dX9_bell_49 : decode cX9_bell 49 = .ok (.getfield 27, 3) := by decide +kernel
theorem dX9_bell_52 : decode cX9_bell 52 = .ok (.iconst 4, 1) := by decide +kernel
theorem dX9_bell_53 : decode cX9_bell 53 = .ok (.iaload, 1) := by decide +kernel
theorem dX9_bell_54 : decode cX9_bell 54 = .ok (.iload_n 2, 1) := by decide +kernel
theorem dX9_bell_55 : decode cX9_bell 55 = .ok (.invokevirtual 111, 3) := by decide +kernel
theorem dX9_bell_58 : decode cX9_bell 58 = .ok (.i2l, 1) := by decide +kernel
theorem dX9_bell_59 : decode cX9_bell 59 = .ok (.bipush 10, 2) := by decide +kernel
theorem dX9_bell_61 : decode cX9_bell 61 = .ok (.iload_n 1, 1) := by decide +kernel
theorem dX9_bell_62 : decode cX9_bell 62 = .ok (.isub, 1) := by decide +kernel
theorem dX9_bell_63 : decode cX9_bell 63 = .ok (.i2l, 1) := by decide +kernel
theorem dX9_bell_64 : decode cX9_bell 64 = .ok (.lmul, 1) := by decide +kernel
theorem dX9_bell_65 : decode cX9_bell 65 = .ok (.ldc2_w 117, 3) := by decide +kernel
theorem dX9_bell_68 : decode cX9_bell 68 = .ok (.invokevirtual 164, 3) := by decide +kernel
theorem dX9_bell_71 : decode cX9_bell 71 = .ok (.iconst 1, 1) := by decide +kernel
theorem dX9_bell_72 : decode cX9_bell 72 = .ok (.ireturn, 1) := by decide +kernel
theorem dX9_days_0 : decode cX9_days 0 = .ok (.iload_n 1, 1) := by decide +kernel
theorem dX9_days_1 : decode cX9_days 1 = .ok (.i2l, 1) := by decide +kernel
theorem dX9_days_2 : decode cX9_days 2 = .ok (.lconst 0, 1) := by decide +kernel
theorem dX9_days_3 : decode cX9_days 3 = .ok (.ldc2_w 179, 3) := by decide +kernel
theorem dX9_days_6 : decode cX9_days 6 = .ok (.invokestatic 56, 3) := by decide +kernel
theorem dX9_days_9 : decode cX9_days 9 = .ok (.ifCond .eq 15, 3) := by decide +kernel
theorem dX9_days_12 : decode cX9_days 12 = .ok (.iload_n 2, 1) := by decide +kernel
theorem dX9_days_13 : decode cX9_days 13 = .ok (.i2l, 1) := by decide +kernel
theorem dX9_days_14 : decode cX9_days 14 = .ok (.lconst 0, 1) := by decide +kernel
theorem dX9_days_15 : decode cX9_days 15 = .ok (.ldc2_w 162, 3) := by decide +kernel
theorem dX9_days_18 : decode cX9_days 18 = .ok (.invokestatic 56, 3) := by decide +kernel
theorem dX9_days_21 : decode cX9_days 21 = .ok (.ifCond .ne 10, 3) := by decide +kernel
theorem dX9_days_24 : decode cX9_days 24 = .ok (.aload_n 0, 1) := by decide +kernel
theorem dX9_days_25 : decode cX9_days 25 = .ok (.bipush (-2), 2) := by decide +kernel
theorem dX9_days_27 : decode cX9_days 27 = .ok (.invokevirtual 64, 3) := by decide +kernel
theorem dX9_days_30 : decode cX9_days 30 = .ok (.ireturn, 1) := by decide +kernel
theorem dX9_days_31 : decode cX9_days 31 = .ok (.iload_n 1, 1) := by decide +kernel
theorem dX9_days_32 : decode cX9_days 32 = .ok (.i2l, 1) := by decide +kernel
theorem dX9_days_33 : decode cX9_days 33 = .ok (.lstore_n 3, 1) := by decide +kernel
theorem dX9_days_34 : decode cX9_days 34 = .ok (.iconst 0, 1) := by decide +kernel
theorem dX9_days_35 : decode cX9_days 35 = .ok (.istore 5, 2) := by decide +kernel
theorem dX9_days_37 : decode cX9_days 37 = .ok (.iconst 0, 1) := by decide +kernel
theorem dX9_days_38 : decode cX9_days 38 = .ok (.istore 6, 2) := by decide +kernel
theorem dX9_days_40 : decode cX9_days 40 = .ok (.iload 6, 2) := by decide +kernel
theorem dX9_days_42 : decode cX9_days 42 = .ok (.iload_n 2, 1) := by decide +kernel
theorem dX9_days_43 : decode cX9_days 43 = .ok (.if_icmp .ge 91, 3) := by decide +kernel
theorem dX9_days_46 : decode cX9_days 46 = .ok (.aload_n 0, 1) := by decide +kernel
theorem dX9_days_47 : decode cX9_days 47 = .ok (.invokevirtual 141, 3) := by decide +kernel
theorem dX9_days_50 : decode cX9_days 50 = .ok (.iconst 0, 1) := by decide +kernel
theorem dX9_days_51 : decode cX9_days 51 = .ok (.istore 7, 2) := by decide +kernel
theorem dX9_days_53 : decode cX9_days 53 = .ok (.iload 7, 2) := by decide +kernel
theorem dX9_days_55 : decode cX9_days 55 = .ok (.aload_n 0, 1) := by decide +kernel
theorem dX9_days_56 : decode cX9_days 56 = .ok (.invokevirtual 52, 3) := by decide +kernel
theorem dX9_days_59 : decode cX9_days 59 = .ok (.if_icmp .ge 51, 3) := by decide +kernel
theorem dX9_days_62 : decode cX9_days 62 = .ok (.lload_n 3, 1) := by decide +kernel
theorem dX9_days_63 : decode cX9_days 63 = .ok (.ldc2_w 181, 3) := by decide +kernel
theorem dX9_days_66 : decode cX9_days 66 = .ok (.lmul, 1) := by decide +kernel
theorem dX9_days_67 : decode cX9_days 67 = .ok (.ldc2_w 183, 3) := by decide +kernel
theorem dX9_days_70 : decode cX9_days 70 = .ok (.ladd, 1) := by decide +kernel
theorem dX9_days_71 : decode cX9_days 71 = .ok (.ldc2_w 185, 3) := by decide +kernel
theorem dX9_days_74 : decode cX9_days 74 = .ok (.lrem, 1) := by decide +kernel
theorem dX9_days_75 : decode cX9_days 75 = .ok (.lstore_n 3, 1) := by decide +kernel
theorem dX9_days_76 : decode cX9_days 76 = .ok (.aload_n 0, 1) := by decide +kernel
theorem dX9_days_77 : decode cX9_days 77 = .ok (.getfield 27, 3) := by decide +kernel
theorem dX9_days_80 : decode cX9_days 80 = .ok (.bipush 33, 2) := by decide +kernel
theorem dX9_days_82 : decode cX9_days 82 = .ok (.iload 7, 2) := by decide +kernel
theorem dX9_days_84 : decode cX9_days 84 = .ok (.iadd, 1) := by decide +kernel
theorem dX9_days_85 : decode cX9_days 85 = .ok (.lload_n 3, 1) := by decide +kernel
theorem dX9_days_86 : decode cX9_days 86 = .ok (.ldc2_w 187, 3) := by decide +kernel
theorem dX9_days_89 : decode cX9_days 89 = .ok (.ldiv, 1) := by decide +kernel
theorem dX9_days_90 : decode cX9_days 90 = .ok (.aload_n 0, 1) := by decide +kernel
theorem dX9_days_91 : decode cX9_days 91 = .ok (.getfield 27, 3) := by decide +kernel
theorem dX9_days_94 : decode cX9_days 94 = .ok (.bipush 40, 2) := by decide +kernel
theorem dX9_days_96 : decode cX9_days 96 = .ok (.iload 7, 2) := by decide +kernel
theorem dX9_days_98 : decode cX9_days 98 = .ok (.iadd, 1) := by decide +kernel
theorem dX9_days_99 : decode cX9_days 99 = .ok (.iaload, 1) := by decide +kernel
theorem dX9_days_100 : decode cX9_days 100 = .ok (.i2l, 1) := by decide +kernel
theorem dX9_days_101 : decode cX9_days 101 = .ok (.lrem, 1) := by decide +kernel
theorem dX9_days_102 : decode cX9_days 102 = .ok (.l2i, 1) := by decide +kernel
theorem dX9_days_103 : decode cX9_days 103 = .ok (.iastore, 1) := by decide +kernel
theorem dX9_days_104 : decode cX9_days 104 = .ok (.iinc 7 1, 3) := by decide +kernel
theorem dX9_days_107 : decode cX9_days 107 = .ok (.goto (-54), 3) := by decide +kernel
theorem dX9_days_110 : decode cX9_days 110 = .ok (.aload_n 0, 1) := by decide +kernel
theorem dX9_days_111 : decode cX9_days 111 = .ok (.bipush 10, 2) := by decide +kernel
theorem dX9_days_113 : decode cX9_days 113 = .ok (.invokevirtual 125, 3) := by decide +kernel
theorem dX9_days_116 : decode cX9_days 116 = .ok (.iload 5, 2) := by decide +kernel
theorem dX9_days_118 : decode cX9_days 118 = .ok (.aload_n 0, 1) := by decide +kernel
theorem dX9_days_119 : decode cX9_days 119 = .ok (.getfield 27, 3) := by decide +kernel
theorem dX9_days_122 : decode cX9_days 122 = .ok (.bipush 7, 2) := by decide +kernel
theorem dX9_days_124 : decode cX9_days 124 = .ok (.iaload, 1) := by decide +kernel
theorem dX9_days_125 : decode cX9_days 125 = .ok (.iadd, 1) := by decide +kernel
theorem dX9_days_126 : decode cX9_days 126 = .ok (.istore 5, 2) := by decide +kernel
theorem dX9_days_128 : decode cX9_days 128 = .ok (.iinc 6 1, 3) := by decide +kernel
theorem dX9_days_131 : decode cX9_days 131 = .ok (.goto (-91), 3) := by decide +kernel
theorem dX9_days_134 : decode cX9_days 134 = .ok (.iload 5, 2) := by decide +kernel
theorem dX9_days_136 : decode cX9_days 136 = .ok (.ireturn, 1) := by decide +kernel
theorem dX9_type_0 : decode cX9_type 0 = .ok (.iload_n 1, 1) := by decide +kernel
theorem dX9_type_1 : decode cX9_type 1 = .ok (.i2l, 1) := by decide +kernel
theorem dX9_type_2 : decode cX9_type 2 = .ok (.lconst 0, 1) := by decide +kernel
theorem dX9_type_3 : decode cX9_type 3 = .ok (.ldc2_w 189, 3) := by decide +kernel
theorem dX9_type_6 : decode cX9_type 6 = .ok (.invokestatic 56, 3) := by decide +kernel
theorem dX9_type_9 : decode cX9_type 9 = .ok (.ifCond .ne 10, 3) := by decide +kernel
theorem dX9_type_12 : decode cX9_type 12 = .ok (.aload_n 0, 1) := by decide +kernel
theorem dX9_type_13 : decode cX9_type 13 = .ok (.bipush (-2), 2) := by decide +kernel
theorem dX9_type_15 : decode cX9_type 15 = .ok (.invokevirtual 64, 3) := by decide +kernel
theorem dX9_type_18 : decode cX9_type 18 = .ok (.ireturn, 1) := by decide +kernel
theorem dX9_type_19 : decode cX9_type 19 = .ok (.aload_n 0, 1) := by decide +kernel
theorem dX9_type_20 : decode cX9_type 20 = .ok (.getfield 191, 3) := by decide +kernel
theorem dX9_type_23 : decode cX9_type 23 = .ok (.sipush 150, 3) := by decide +kernel
theorem dX9_type_26 : decode cX9_type 26 = .ok (.if_icmp .ne 8, 3) := by decide +kernel
theorem dX9_type_29 : decode cX9_type 29 = .ok (.aload_n 0, 1) := by decide +kernel
theorem dX9_type_30 : decode cX9_type 30 = .ok (.invokevirtual 76, 3) := by decide +kernel
theorem dX9_type_33 : decode cX9_type 33 = .ok (.ireturn, 1) := by decide +kernel
theorem dX9_type_34 : decode cX9_type 34 = .ok (.aload_n 0, 1) := by decide +kernel
theorem dX9_type_35 : decode cX9_type 35 = .ok (.getfield 39, 3) := by decide +kernel
theorem dX9_type_38 : decode cX9_type 38 = .ok (.aload_n 0, 1) := by decide +kernel
theorem dX9_type_39 : decode cX9_type 39 = .ok (.getfield 191, 3) := by decide +kernel
theorem dX9_type_42 : decode cX9_type 42 = .ok (.iload_n 1, 1) := by decide +kernel
theorem dX9_type_43 : decode cX9_type 43 = .ok (.iastore, 1) := by decide +kernel
theorem dX9_type_44 : decode cX9_type 44 = .ok (.aload_n 0, 1) := by decide +kernel
theorem dX9_type_45 : decode cX9_type 45 = .ok (.dup, 1) := by decide +kernel
theorem dX9_type_46 : decode cX9_type 46 = .ok (.getfield 191, 3) := by decide +kernel
theorem dX9_type_49 : decode cX9_type 49 = .ok (.iconst 1, 1) := by decide +kernel
theorem dX9_type_50 : decode cX9_type 50 = .ok (.iadd, 1) := by decide +kernel
theorem dX9_type_51 : decode cX9_type 51 = .ok (.putfield 191, 3) := by decide +kernel
theorem dX9_type_54 : decode cX9_type 54 = .ok (.aload_n 0, 1) := by decide +kernel
theorem dX9_type_55 : decode cX9_type 55 = .ok (.getfield 191, 3) := by decide +kernel
theorem dX9_type_58 : decode cX9_type 58 = .ok (.ireturn, 1) := by decide +kernel
theorem dX9_clear_0 : decode cX9_clear 0 = .ok (.aload_n 0, 1) := by decide +kernel
theorem dX9_clear_1 : decode cX9_clear 1 = .ok (.getfield 191, 3) := by decide +kernel
theorem dX9_clear_4 : decode cX9_clear 4 = .ok (.istore_n 1, 1) := by decide +kernel
theorem dX9_clear_5 : decode cX9_clear 5 = .ok (.aload_n 0, 1) := by decide +kernel
theorem dX9_clear_6 : decode cX9_clear 6 = .ok (.iconst 0, 1) := by decide +kernel
theorem dX9_clear_7 : decode cX9_clear 7 = .ok (.putfield 191, 3) := by decide +kernel
theorem dX9_clear_10 : decode cX9_clear 10 = .ok (.iload_n 1, 1) := by decide +kernel
theorem dX9_clear_11 : decode cX9_clear 11 = .ok (.ireturn, 1) := by decide +kernel
theorem dX9_isSmall_0 : decode cX9_isSmall 0 = .ok (.iload_n 0, 1) := by decide +kernel
theorem dX9_isSmall_1 : decode cX9_isSmall 1 = .ok (.i2l, 1) := by decide +kernel
theorem dX9_isSmall_2 : decode cX9_isSmall 2 = .ok (.ldc2_w 195, 3) := by decide +kernel
theorem dX9_isSmall_5 : decode cX9_isSmall 5 = .ok (.ldc2_w 197, 3) := by decide +kernel
theorem dX9_isSmall_8 : decode cX9_isSmall 8 = .ok (.invokestatic 56, 3) := by decide +kernel
theorem dX9_isSmall_11 : decode cX9_isSmall 11 = .ok (.ireturn, 1) := by decide +kernel
theorem dX9_isFigure_0 : decode cX9_isFigure 0 = .ok (.iload_n 0, 1) := by decide +kernel
theorem dX9_isFigure_1 : decode cX9_isFigure 1 = .ok (.i2l, 1) := by decide +kernel
theorem dX9_isFigure_2 : decode cX9_isFigure 2 = .ok (.ldc2_w 199, 3) := by decide +kernel
theorem dX9_isFigure_5 : decode cX9_isFigure 5 = .ok (.ldc2_w 201, 3) := by decide +kernel
theorem dX9_isFigure_8 : decode cX9_isFigure 8 = .ok (.invokestatic 56, 3) := by decide +kernel
theorem dX9_isFigure_11 : decode cX9_isFigure 11 = .ok (.ireturn, 1) := by decide +kernel
theorem dX9_lookAt_0 : decode cX9_lookAt 0 = .ok (.aload_n 0, 1) := by decide +kernel
theorem dX9_lookAt_1 : decode cX9_lookAt 1 = .ok (.iload_n 1, 1) := by decide +kernel
theorem dX9_lookAt_2 : decode cX9_lookAt 2 = .ok (.putfield 203, 3) := by decide +kernel
theorem dX9_lookAt_5 : decode cX9_lookAt 5 = .ok (.aload_n 0, 1) := by decide +kernel
theorem dX9_lookAt_6 : decode cX9_lookAt 6 = .ok (.getfield 203, 3) := by decide +kernel
theorem dX9_lookAt_9 : decode cX9_lookAt 9 = .ok (.aload_n 0, 1) := by decide +kernel
theorem dX9_lookAt_10 : decode cX9_lookAt 10 = .ok (.getfield 191, 3) := by decide +kernel
theorem dX9_lookAt_13 : decode cX9_lookAt 13 = .ok (.if_icmp .ge 30, 3) := by decide +kernel
theorem dX9_lookAt_16 : decode cX9_lookAt 16 = .ok (.aload_n 0, 1) := by decide +kernel
theorem dX9_lookAt_17 : decode cX9_lookAt 17 = .ok (.getfield 39, 3) := by decide +kernel
theorem dX9_lookAt_20 : decode cX9_lookAt 20 = .ok (.aload_n 0, 1) := by decide +kernel
theorem dX9_lookAt_21 : decode cX9_lookAt 21 = .ok (.getfield 203, 3) := by decide +kernel
theorem dX9_lookAt_24 : decode cX9_lookAt 24 = .ok (.iaload, 1) := by decide +kernel
theorem dX9_lookAt_25 : decode cX9_lookAt 25 = .ok (.bipush 32, 2) := by decide +kernel
theorem dX9_lookAt_27 : decode cX9_lookAt 27 = .ok (.if_icmp .ne 16, 3) := by decide +kernel
theorem dX9_lookAt_30 : decode cX9_lookAt 30 = .ok (.aload_n 0, 1) := by decide +kernel
theorem dX9_lookAt_31 : decode cX9_lookAt 31 = .ok (.dup, 1) := by decide +kernel
theorem dX9_lookAt_32 : decode cX9_lookAt 32 = .ok (.getfield 203, 3) := by decide +kernel
theorem dX9_lookAt_35 : decode cX9_lookAt 35 = .ok (.iconst 1, 1) := by decide +kernel
theorem dX9_lookAt_36 : decode cX9_lookAt 36 = .ok (.iadd, 1) := by decide +kernel
theorem dX9_lookAt_37 : decode cX9_lookAt 37 = .ok (.putfield 203, 3) := by decide +kernel
theorem dX9_lookAt_40 : decode cX9_lookAt 40 = .ok (.goto (-35), 3) := by decide +kernel
theorem dX9_lookAt_43 : decode cX9_lookAt 43 = .ok (.aload_n 0, 1) := by decide +kernel
theorem dX9_lookAt_44 : decode cX9_lookAt 44 = .ok (.iconst 0, 1) := by decide +kernel
theorem dX9_lookAt_45 : decode cX9_lookAt 45 = .ok (.putfield 206, 3) := by decide +kernel
theorem dX9_lookAt_48 : decode cX9_lookAt 48 = .ok (.aload_n 0, 1) := by decide +kernel
theorem dX9_lookAt_49 : decode cX9_lookAt 49 = .ok (.iconst 0, 1) := by decide +kernel
theorem dX9_lookAt_50 : decode cX9_lookAt 50 = .ok (.putfield 209, 3) := by decide +kernel
theorem dX9_lookAt_53 : decode cX9_lookAt 53 = .ok (.aload_n 0, 1) := by decide +kernel
theorem dX9_lookAt_54 : decode cX9_lookAt 54 = .ok (.iconst 0, 1) := by decide +kernel
theorem dX9_lookAt_55 : decode cX9_lookAt 55 = .ok (.putfield 212, 3) := by decide +kernel
theorem dX9_lookAt_58 : decode cX9_lookAt 58 = .ok (.aload_n 0, 1) := by decide +kernel
theorem dX9_lookAt_59 : decode cX9_lookAt 59 = .ok (.getfield 203, 3) := by decide +kernel
theorem dX9_lookAt_62 : decode cX9_lookAt 62 = .ok (.aload_n 0, 1) := by decide +kernel
theorem dX9_lookAt_63 : decode cX9_lookAt 63 = .ok (.getfield 191, 3) := by decide +kernel
theorem dX9_lookAt_66 : decode cX9_lookAt 66 = .ok (.if_icmp .ne 4, 3) := by decide +kernel
theorem dX9_lookAt_69 : decode cX9_lookAt 69 = .ok (.return_, 1) := by decide +kernel
theorem dX9_lookAt_70 : decode cX9_lookAt 70 = .ok (.aload_n 0, 1) := by decide +kernel
theorem dX9_lookAt_71 : decode cX9_lookAt 71 = .ok (.getfield 39, 3) := by decide +kernel
theorem dX9_lookAt_74 : decode cX9_lookAt 74 = .ok (.aload_n 0, 1) := by decide +kernel
theorem dX9_lookAt_75 : decode cX9_lookAt 75 = .ok (.getfield 203, 3) := by decide +kernel
theorem dX9_lookAt_78 : decode cX9_lookAt 78 = .ok (.iaload, 1) := by decide +kernel
theorem dX9_lookAt_79 : decode cX9_lookAt 79 = .ok (.istore_n 2, 1) := by decide +kernel
theorem dX9_lookAt_80 : decode cX9_lookAt 80 = .ok (.aload_n 0, 1) := by decide +kernel
theorem dX9_lookAt_81 : decode cX9_lookAt 81 = .ok (.iload_n 2, 1) := by decide +kernel
theorem dX9_lookAt_82 : decode cX9_lookAt 82 = .ok (.invokestatic 215, 3) := by decide +kernel
theorem dX9_lookAt_85 : decode cX9_lookAt 85 = .ok (.ifCond .eq 7, 3) := by decide +kernel
theorem dX9_lookAt_88 : decode cX9_lookAt 88 = .ok (.iconst 1, 1) := by decide +kernel
theorem dX9_lookAt_89 : decode cX9_lookAt 89 = .ok (.goto 25, 3) := by decide +kernel
theorem dX9_lookAt_92 : decode cX9_lookAt 92 = .ok (.iload_n 2, 1) := by decide +kernel
theorem dX9_lookAt_93 : decode cX9_lookAt 93 = .ok (.invokestatic 218, 3) := by decide +kernel
theorem dX9_lookAt_96 : decode cX9_lookAt 96 = .ok (.ifCond .eq 7, 3) := by decide +kernel
theorem dX9_lookAt_99 : decode cX9_lookAt 99 = .ok (.iconst 2, 1) := by decide +kernel
theorem dX9_lookAt_100 : decode cX9_lookAt 100 = .ok (.goto 14, 3) := by decide +kernel
theorem dX9_lookAt_103 : decode cX9_lookAt 103 = .ok (.iload_n 2, 1) := by decide +kernel
theorem dX9_lookAt_104 : decode cX9_lookAt 104 = .ok (.bipush 59, 2) := by decide +kernel
theorem dX9_lookAt_106 : decode cX9_lookAt 106 = .ok (.if_icmp .ne 7, 3) := by decide +kernel
theorem dX9_lookAt_109 : decode cX9_lookAt 109 = .ok (.iconst 3, 1) := by decide +kernel
theorem dX9_lookAt_110 : decode cX9_lookAt 110 = .ok (.goto 4, 3) := by decide +kernel
theorem dX9_lookAt_113 : decode cX9_lookAt 113 = .ok (.iconst 4, 1) := by decide +kernel
theorem dX9_lookAt_114 : decode cX9_lookAt 114 = .ok (.putfield 209, 3) := by decide +kernel
theorem dX9_lookAt_117 : decode cX9_lookAt 117 = .ok (.aload_n 0, 1) := by decide +kernel
theorem dX9_lookAt_118 : decode cX9_lookAt 118 = .ok (.iconst 1, 1) := by decide +kernel
theorem dX9_lookAt_119 : decode cX9_lookAt 119 = .ok (.putfield 206, 3) := by decide +kernel
theorem dX9_lookAt_122 : decode cX9_lookAt 122 = .ok (.aload_n 0, 1) := by decide +kernel
theorem dX9_lookAt_123 : decode cX9_lookAt 123 = .ok (.getfield 209, 3) := by decide +kernel
theorem dX9_lookAt_126 : decode cX9_lookAt 126 = .ok (.iconst 3, 1) := by decide +kernel
theorem dX9_lookAt_127 : decode cX9_lookAt 127 = .ok (.if_icmp .ge 7, 3) := by decide +kernel
theorem dX9_lookAt_130 : decode cX9_lookAt 130 = .ok (.iconst 1, 1) := by decide +kernel
theorem dX9_lookAt_131 : decode cX9_lookAt 131 = .ok (.goto 4, 3) := by decide +kernel
theorem dX9_lookAt_134 : decode cX9_lookAt 134 = .ok (.iconst 0, 1) := by decide +kernel
theorem dX9_lookAt_135 : decode cX9_lookAt 135 = .ok (.istore_n 3, 1) := by decide +kernel
theorem dX9_lookAt_136 : decode cX9_lookAt 136 = .ok (.iload_n 3, 1) := by decide +kernel
theorem dX9_lookAt_137 : decode cX9_lookAt 137 = .ok (.ifCond .eq 78, 3) := by decide +kernel
theorem dX9_lookAt_140 : decode cX9_lookAt 140 = .ok (.aload_n 0, 1) := by decide +kernel
theorem dX9_lookAt_141 : decode cX9_lookAt 141 = .ok (.getfield 203, 3) := by decide +kernel
theorem dX9_lookAt_144 : decode cX9_lookAt 144 = .ok (.aload_n 0, 1) := by decide +kernel
theorem dX9_lookAt_145 : decode cX9_lookAt 145 = .ok (.getfield 206, 3) := by decide +kernel
theorem dX9_lookAt_148 : decode cX9_lookAt 148 = .ok (.iadd, 1) := by decide +kernel
theorem dX9_lookAt_149 : decode cX9_lookAt 149 = .ok (.aload_n 0, 1) := by decide +kernel
theorem dX9_lookAt_150 : decode cX9_lookAt 150 = .ok (.getfield 191, 3) := by decide +kernel
theorem dX9_lookAt_153 : decode cX9_lookAt 153 = .ok (.if_icmp .ge 62, 3) := by decide +kernel
theorem dX9_lookAt_156 : decode cX9_lookAt 156 = .ok (.aload_n 0, 1) := by decide +kernel
theorem dX9_lookAt_157 : decode cX9_lookAt 157 = .ok (.getfield 39, 3) := by decide +kernel
theorem dX9_lookAt_160 : decode cX9_lookAt 160 = .ok (.aload_n 0, 1) := by decide +kernel
theorem dX9_lookAt_161 : decode cX9_lookAt 161 = .ok (.getfield 203, 3) := by decide +kernel
theorem dX9_lookAt_164 : decode cX9_lookAt 164 = .ok (.aload_n 0, 1) := by decide +kernel
theorem dX9_lookAt_165 : decode cX9_lookAt 165 = .ok (.getfield 206, 3) := by decide +kernel
theorem dX9_lookAt_168 : decode cX9_lookAt 168 = .ok (.iadd, 1) := by decide +kernel
theorem dX9_lookAt_169 : decode cX9_lookAt 169 = .ok (.iaload, 1) := by decide +kernel
theorem dX9_lookAt_170 : decode cX9_lookAt 170 = .ok (.istore 4, 2) := by decide +kernel
theorem dX9_lookAt_172 : decode cX9_lookAt 172 = .ok (.aload_n 0, 1) := by decide +kernel
theorem dX9_lookAt_173 : decode cX9_lookAt 173 = .ok (.getfield 209, 3) := by decide +kernel
theorem dX9_lookAt_176 : decode cX9_lookAt 176 = .ok (.iconst 1, 1) := by decide +kernel
theorem dX9_lookAt_177 : decode cX9_lookAt 177 = .ok (.if_icmp .ne 11, 3) := by decide +kernel
theorem dX9_lookAt_180 : decode cX9_lookAt 180 = .ok (.iload 4, 2) := by decide +kernel
theorem dX9_lookAt_182 : decode cX9_lookAt 182 = .ok (.invokestatic 215, 3) := by decide +kernel
theorem dX9_lookAt_185 : decode cX9_lookAt 185 = .ok (.goto 8, 3) := by decide +kernel
theorem dX9_lookAt_188 : decode cX9_lookAt 188 = .ok (.iload 4, 2) := by decide +kernel
theorem dX9_lookAt_190 : decode cX9_lookAt 190 = .ok (.invokestatic 218, 3) := by decide +kernel
theorem dX9_lookAt_193 : decode cX9_lookAt 193 = .ok (.istore_n 3, 1) := by decide +kernel
theorem dX9_lookAt_194 : decode cX9_lookAt 194 = .ok (.aload_n 0, 1) := by decide +kernel
theorem dX9_lookAt_195 : decode cX9_lookAt 195 = .ok (.dup, 1) := by decide +kernel
theorem dX9_lookAt_196 : decode cX9_lookAt 196 = .ok (.getfield 206, 3) := by decide +kernel
theorem dX9_lookAt_199 : decode cX9_lookAt 199 = .ok (.iload_n 3, 1) := by decide +kernel
theorem dX9_lookAt_200 : decode cX9_lookAt 200 = .ok (.ifCond .eq 7, 3) := by decide +kernel
theorem dX9_lookAt_203 : decode cX9_lookAt 203 = .ok (.iconst 1, 1) := by decide +kernel
theorem dX9_lookAt_204 : decode cX9_lookAt 204 = .ok (.goto 4, 3) := by decide +kernel
theorem dX9_lookAt_207 : decode cX9_lookAt 207 = .ok (.iconst 0, 1) := by decide +kernel
theorem dX9_lookAt_208 : decode cX9_lookAt 208 = .ok (.iadd, 1) := by decide +kernel
theorem dX9_lookAt_209 : decode cX9_lookAt 209 = .ok (.putfield 206, 3) := by decide +kernel
theorem dX9_lookAt_212 : decode cX9_lookAt 212 = .ok (.goto (-76), 3) := by decide +kernel
theorem dX9_lookAt_215 : decode cX9_lookAt 215 = .ok (.iconst 0, 1) := by decide +kernel
theorem dX9_lookAt_216 : decode cX9_lookAt 216 = .ok (.istore 4, 2) := by decide +kernel
theorem dX9_lookAt_218 : decode cX9_lookAt 218 = .ok (.iload 4, 2) := by decide +kernel
theorem dX9_lookAt_220 : decode cX9_lookAt 220 = .ok (.aload_n 0, 1) := by decide +kernel
theorem dX9_lookAt_221 : decode cX9_lookAt 221 = .ok (.getfield 206, 3) := by decide +kernel
theorem dX9_lookAt_224 : decode cX9_lookAt 224 = .ok (.if_icmp .ge 50, 3) := by decide +kernel
theorem dX9_lookAt_227 : decode cX9_lookAt 227 = .ok (.iload 4, 2) := by decide +kernel
theorem dX9_lookAt_229 : decode cX9_lookAt 229 = .ok (.iconst 2, 1) := by decide +kernel
theorem dX9_lookAt_230 : decode cX9_lookAt 230 = .ok (.if_icmp .ge 44, 3) := by decide +kernel
theorem dX9_lookAt_233 : decode cX9_lookAt 233 = .ok (.aload_n 0, 1) := by decide +kernel
theorem dX9_lookAt_234 : decode cX9_lookAt 234 = .ok (.getfield 209, 3) := by decide +kernel
theorem dX9_lookAt_237 : decode cX9_lookAt 237 = .ok (.iconst 2, 1) := by decide +kernel
theorem dX9_lookAt_238 : decode cX9_lookAt 238 = .ok (.if_icmp .ne 36, 3) := by decide +kernel
theorem dX9_lookAt_241 : decode cX9_lookAt 241 = .ok (.aload_n 0, 1) := by decide +kernel
theorem dX9_lookAt_242 : decode cX9_lookAt 242 = .ok (.bipush 10, 2) := by decide +kernel
theorem dX9_lookAt_244 : decode cX9_lookAt 244 = .ok (.aload_n 0, 1) := by decide +kernel
theorem dX9_lookAt_245 : decode cX9_lookAt 245 = .ok (.getfield 212, 3) := by decide +kernel
theorem dX9_lookAt_248 : decode cX9_lookAt 248 = .ok (.imul, 1) := by decide +kernel
theorem dX9_lookAt_249 : decode cX9_lookAt 249 = .ok (.aload_n 0, 1) := by decide +kernel
theorem dX9_lookAt_250 : decode cX9_lookAt 250 = .ok (.getfield 39, 3) := by decide +kernel
theorem dX9_lookAt_253 : decode cX9_lookAt 253 = .ok (.aload_n 0, 1) := by decide +kernel
theorem dX9_lookAt_254 : decode cX9_lookAt 254 = .ok (.getfield 203, 3) := by decide +kernel
theorem dX9_lookAt_257 : decode cX9_lookAt 257 = .ok (.iload 4, 2) := by decide +kernel
theorem dX9_lookAt_259 : decode cX9_lookAt 259 = .ok (.iadd, 1) := by decide +kernel
theorem dX9_lookAt_260 : decode cX9_lookAt 260 = .ok (.iaload, 1) := by decide +kernel
theorem dX9_lookAt_261 : decode cX9_lookAt 261 = .ok (.iadd, 1) := by decide +kernel
theorem dX9_lookAt_262 : decode cX9_lookAt 262 = .ok (.bipush 48, 2) := by decide +kernel
theorem dX9_lookAt_264 : decode cX9_lookAt 264 = .ok (.isub, 1) := by decide +kernel
theorem dX9_lookAt_265 : decode cX9_lookAt 265 = .ok (.putfield 212, 3) := by decide +kernel
theorem dX9_lookAt_268 : decode cX9_lookAt 268 = .ok (.iinc 4 1, 3) := by decide +kernel
theorem dX9_lookAt_271 : decode cX9_lookAt 271 = .ok (.goto (-53), 3) := by decide +kernel
theorem dX9_lookAt_274 : decode cX9_lookAt 274 = .ok (.aload_n 0, 1) := by decide +kernel
theorem dX9_lookAt_275 : decode cX9_lookAt 275 = .ok (.aload_n 0, 1) := by decide +kernel
theorem dX9_lookAt_276 : decode cX9_lookAt 276 = .ok (.getfield 209, 3) := by decide +kernel
theorem dX9_lookAt_279 : decode cX9_lookAt 279 = .ok (.iconst 2, 1) := by decide +kernel
theorem dX9_lookAt_280 : decode cX9_lookAt 280 = .ok (.if_icmp .ne 15, 3) := by decide +kernel
theorem dX9_lookAt_283 : decode cX9_lookAt 283 = .ok (.aload_n 0, 1) := by decide +kernel
theorem dX9_lookAt_284 : decode cX9_lookAt 284 = .ok (.getfield 206, 3) := by decide +kernel
theorem dX9_lookAt_287 : decode cX9_lookAt 287 = .ok (.iconst 2, 1) := by decide +kernel
theorem dX9_lookAt_288 : decode cX9_lookAt 288 = .ok (.if_icmp .le 7, 3) := by decide +kernel
theorem dX9_lookAt_291 : decode cX9_lookAt 291 = .ok (.iconst 4, 1) := by decide +kernel
theorem dX9_lookAt_292 : decode cX9_lookAt 292 = .ok (.goto 7, 3) := by decide +kernel
theorem dX9_lookAt_295 : decode cX9_lookAt 295 = .ok (.aload_n 0, 1) := by decide +kernel
theorem dX9_lookAt_296 : decode cX9_lookAt 296 = .ok (.getfield 209, 3) := by decide +kernel
theorem dX9_lookAt_299 : decode cX9_lookAt 299 = .ok (.putfield 209, 3) := by decide +kernel
theorem dX9_lookAt_302 : decode cX9_lookAt 302 = .ok (.return_, 1) := by decide +kernel
theorem dX9_goBehind_0 : decode cX9_goBehind 0 = .ok (.aload_n 0, 1) := by decide +kernel
theorem dX9_goBehind_1 : decode cX9_goBehind 1 = .ok (.aload_n 0, 1) := by decide +kernel
theorem dX9_goBehind_2 : decode cX9_goBehind 2 = .ok (.getfield 203, 3) := by decide +kernel
theorem dX9_goBehind_5 : decode cX9_goBehind 5 = .ok (.aload_n 0, 1) := by decide +kernel
theorem dX9_goBehind_6 : decode cX9_goBehind 6 = .ok (.getfield 206, 3) := by decide +kernel
theorem dX9_goBehind_9 : decode cX9_goBehind 9 = .ok (.iadd, 1) := by decide +kernel
theorem dX9_goBehind_10 : decode cX9_goBehind 10 = .ok (.invokevirtual 221, 3) := by decide +kernel
theorem dX9_goBehind_13 : decode cX9_goBehind 13 = .ok (.return_, 1) := by decide +kernel
theorem dX9_spells_0 : decode cX9_spells 0 = .ok (.aload_n 0, 1) := by decide +kernel
theorem dX9_spells_1 : decode cX9_spells 1 = .ok (.getfield 209, 3) := by decide +kernel
theorem dX9_spells_4 : decode cX9_spells 4 = .ok (.iconst 1, 1) := by decide +kernel
theorem dX9_spells_5 : decode cX9_spells 5 = .ok (.if_icmp .ne 15, 3) := by decide +kernel
theorem dX9_spells_8 : decode cX9_spells 8 = .ok (.aload_n 0, 1) := by decide +kernel
theorem dX9_spells_9 : decode cX9_spells 9 = .ok (.getfield 206, 3) := by decide +kernel
theorem dX9_spells_12 : decode cX9_spells 12 = .ok (.iload_n 1, 1) := by decide +kernel
theorem dX9_spells_13 : decode cX9_spells 13 = .ok (.if_icmp .ne 7, 3) := by decide +kernel
theorem dX9_spells_16 : decode cX9_spells 16 = .ok (.iconst 1, 1) := by decide +kernel
theorem dX9_spells_17 : decode cX9_spells 17 = .ok (.goto 4, 3) := by decide +kernel
theorem dX9_spells_20 : decode cX9_spells 20 = .ok (.iconst 0, 1) := by decide +kernel
theorem dX9_spells_21 : decode cX9_spells 21 = .ok (.istore 8, 2) := by decide +kernel
theorem dX9_spells_23 : decode cX9_spells 23 = .ok (.iconst 0, 1) := by decide +kernel
theorem dX9_spells_24 : decode cX9_spells 24 = .ok (.istore 9, 2) := by decide +kernel
theorem dX9_spells_26 : decode cX9_spells 26 = .ok (.iload 9, 2) := by decide +kernel
theorem dX9_spells_28 : decode cX9_spells 28 = .ok (.iload_n 1, 1) := by decide +kernel
theorem dX9_spells_29 : decode cX9_spells 29 = .ok (.if_icmp .ge 90, 3) := by decide +kernel
theorem dX9_spells_32 : decode cX9_spells 32 = .ok (.iload 8, 2) := by decide +kernel
theorem dX9_spells_34 : decode cX9_spells 34 = .ok (.ifCond .eq 85, 3) := by decide +kernel
theorem dX9_spells_37 : decode cX9_spells 37 = .ok (.aload_n 0, 1) := by decide +kernel
theorem dX9_spells_38 : decode cX9_spells 38 = .ok (.getfield 39, 3) := by decide +kernel
theorem dX9_spells_41 : decode cX9_spells 41 = .ok (.aload_n 0, 1) := by decide +kernel
theorem dX9_spells_42 : decode cX9_spells 42 = .ok (.getfield 203, 3) := by decide +kernel
theorem dX9_spells_45 : decode cX9_spells 45 = .ok (.iload 9, 2) := by decide +kernel
theorem dX9_spells_47 : decode cX9_spells 47 = .ok (.iadd, 1) := by decide +kernel
theorem dX9_spells_48 : decode cX9_spells 48 = .ok (.iaload, 1) := by decide +kernel
theorem dX9_spells_49 : decode cX9_spells 49 = .ok (.iload 9, 2) := by decide +kernel
theorem dX9_spells_51 : decode cX9_spells 51 = .ok (.ifCond .ne 7, 3) := by decide +kernel
theorem dX9_spells_54 : decode cX9_spells 54 = .ok (.iload_n 2, 1) := by decide +kernel
theorem dX9_spells_55 : decode cX9_spells 55 = .ok (.goto 48, 3) := by decide +kernel
theorem dX9_spells_58 : decode cX9_spells 58 = .ok (.iload 9, 2) := by decide +kernel
theorem dX9_spells_60 : decode cX9_spells 60 = .ok (.iconst 1, 1) := by decide +kernel
theorem dX9_spells_61 : decode cX9_spells 61 = .ok (.if_icmp .ne 7, 3) := by decide +kernel
theorem dX9_spells_64 : decode cX9_spells 64 = .ok (.iload_n 3, 1) := by decide +kernel
theorem dX9_spells_65 : decode cX9_spells 65 = .ok (.goto 38, 3) := by decide +kernel
theorem dX9_spells_68 : decode cX9_spells 68 = .ok (.iload 9, 2) := by decide +kernel
theorem dX9_spells_70 : decode cX9_spells 70 = .ok (.iconst 2, 1) := by decide +kernel
theorem dX9_spells_71 : decode cX9_spells 71 = .ok (.if_icmp .ne 8, 3) := by decide +kernel
theorem dX9_spells_74 : decode cX9_spells 74 = .ok (.iload 4, 2) := by decide +kernel
theorem dX9_spells_76 : decode cX9_spells 76 = .ok (.goto 27, 3) := by decide +kernel
theorem dX9_spells_79 : decode cX9_spells 79 = .ok (.iload 9, 2) := by decide +kernel
theorem dX9_spells_81 : decode cX9_spells 81 = .ok (.iconst 3, 1) := by decide +kernel
theorem dX9_spells_82 : decode cX9_spells 82 = .ok (.if_icmp .ne 8, 3) := by decide +kernel
theorem dX9_spells_85 : decode cX9_spells 85 = .ok (.iload 5, 2) := by decide +kernel
theorem dX9_spells_87 : decode cX9_spells 87 = .ok (.goto 16, 3) := by decide +kernel
theorem dX9_spells_90 : decode cX9_spells 90 = .ok (.iload 9, 2) := by decide +kernel
theorem dX9_spells_92 : decode cX9_spells 92 = .ok (.iconst 4, 1) := by decide +kernel
theorem dX9_spells_93 : decode cX9_spells 93 = .ok (.if_icmp .ne 8, 3) := by decide +kernel
theorem dX9_spells_96 : decode cX9_spells 96 = .ok (.iload 6, 2) := by decide +kernel
theorem dX9_spells_98 : decode cX9_spells 98 = .ok (.goto 5, 3) := by decide +kernel
theorem dX9_spells_101 : decode cX9_spells 101 = .ok (.iload 7, 2) := by decide +kernel
theorem dX9_spells_103 : decode cX9_spells 103 = .ok (.if_icmp .ne 7, 3) := by decide +kernel
theorem dX9_spells_106 : decode cX9_spells 106 = .ok (.iconst 1, 1) := by decide +kernel
theorem dX9_spells_107 : decode cX9_spells 107 = .ok (.goto 4, 3) := by decide +kernel
theorem dX9_spells_110 : decode cX9_spells 110 = .ok (.iconst 0, 1) := by decide +kernel
theorem dX9_spells_111 : decode cX9_spells 111 = .ok (.istore 8, 2) := by decide +kernel
theorem dX9_spells_113 : decode cX9_spells 113 = .ok (.iinc 9 1, 3) := by decide +kernel
theorem dX9_spells_116 : decode cX9_spells 116 = .ok (.goto (-90), 3) := by decide +kernel
theorem dX9_spells_119 : decode cX9_spells 119 = .ok (.iload 8, 2) := by decide +kernel
theorem dX9_spells_121 : decode cX9_spells 121 = .ok (.ireturn, 1) := by decide +kernel
theorem dX9_takes_0 : decode cX9_takes 0 = .ok (.aload_n 0, 1) := by decide +kernel
theorem dX9_takes_1 : decode cX9_takes 1 = .ok (.getfield 209, 3) := by decide +kernel
theorem dX9_takes_4 : decode cX9_takes 4 = .ok (.iconst 2, 1) := by decide +kernel
theorem dX9_takes_5 : decode cX9_takes 5 = .ok (.if_icmp .ne 18, 3) := by decide +kernel
theorem dX9_takes_8 : decode cX9_takes 8 = .ok (.aload_n 0, 1) := by decide +kernel
theorem dX9_takes_9 : decode cX9_takes 9 = .ok (.getfield 212, 3) := by decide +kernel
theorem dX9_takes_12 : decode cX9_takes 12 = .ok (.i2l, 1) := by decide +kernel
theorem dX9_takes_13 : decode cX9_takes 13 = .ok (.iload_n 2, 1) := by decide +kernel
theorem dX9_takes_14 : decode cX9_takes 14 = .ok (.i2l, 1) := by decide +kernel
theorem dX9_takes_15 : decode cX9_takes 15 = .ok (.iload_n 3, 1) := by decide +kernel
theorem dX9_takes_16 : decode cX9_takes 16 = .ok (.i2l, 1) := by decide +kernel
theorem dX9_takes_17 : decode cX9_takes 17 = .ok (.invokestatic 56, 3) := by decide +kernel
theorem dX9_takes_20 : decode cX9_takes 20 = .ok (.ifCond .ne 5, 3) := by decide +kernel
theorem dX9_takes_23 : decode cX9_takes 23 = .ok (.iconst 0, 1) := by decide +kernel
theorem dX9_takes_24 : decode cX9_takes 24 = .ok (.ireturn, 1) := by decide +kernel
theorem dX9_takes_25 : decode cX9_takes 25 = .ok (.aload_n 0, 1) := by decide +kernel
theorem dX9_takes_26 : decode cX9_takes 26 = .ok (.getfield 45, 3) := by decide +kernel
theorem dX9_takes_29 : decode cX9_takes 29 = .ok (.iload_n 1, 1) := by decide +kernel
theorem dX9_takes_30 : decode cX9_takes 30 = .ok (.aload_n 0, 1) := by decide +kernel
theorem dX9_takes_31 : decode cX9_takes 31 = .ok (.getfield 212, 3) := by decide +kernel
theorem dX9_takes_34 : decode cX9_takes 34 = .ok (.iastore, 1) := by decide +kernel
theorem dX9_takes_35 : decode cX9_takes 35 = .ok (.aload_n 0, 1) := by decide +kernel
theorem dX9_takes_36 : decode cX9_takes 36 = .ok (.invokevirtual 224, 3) := by decide +kernel
theorem dX9_takes_39 : decode cX9_takes 39 = .ok (.iconst 1, 1) := by decide +kernel
theorem dX9_takes_40 : decode cX9_takes 40 = .ok (.ireturn, 1) := by decide +kernel
theorem dX9_takesBus_0 : decode cX9_takesBus 0 = .ok (.aload_n 0, 1) := by decide +kernel
theorem dX9_takesBus_1 : decode cX9_takesBus 1 = .ok (.iconst 3, 1) := by decide +kernel
theorem dX9_takesBus_2 : decode cX9_takesBus 2 = .ok (.bipush 98, 2) := by decide +kernel
theorem dX9_takesBus_4 : decode cX9_takesBus 4 = .ok (.bipush 117, 2) := by decide +kernel
theorem dX9_takesBus_6 : decode cX9_takesBus 6 = .ok (.bipush 115, 2) := by decide +kernel
theorem dX9_takesBus_8 : decode cX9_takesBus 8 = .ok (.iconst 0, 1) := by decide +kernel
theorem dX9_takesBus_9 : decode cX9_takesBus 9 = .ok (.iconst 0, 1) := by decide +kernel
theorem dX9_takesBus_10 : decode cX9_takesBus 10 = .ok (.iconst 0, 1) := by decide +kernel
theorem dX9_takesBus_11 : decode cX9_takesBus 11 = .ok (.invokevirtual 227, 3) := by decide +kernel
theorem dX9_takesBus_14 : decode cX9_takesBus 14 = .ok (.ifCond .ne 5, 3) := by decide +kernel
theorem dX9_takesBus_17 : decode cX9_takesBus 17 = .ok (.iconst 0, 1) := by decide +kernel
theorem dX9_takesBus_18 : decode cX9_takesBus 18 = .ok (.ireturn, 1) := by decide +kernel
theorem dX9_takesBus_19 : decode cX9_takesBus 19 = .ok (.aload_n 0, 1) := by decide +kernel
theorem dX9_takesBus_20 : decode cX9_takesBus 20 = .ok (.invokevirtual 224, 3) := by decide +kernel
theorem dX9_takesBus_23 : decode cX9_takesBus 23 = .ok (.aload_n 0, 1) := by decide +kernel
theorem dX9_takesBus_24 : decode cX9_takesBus 24 = .ok (.iconst 0, 1) := by decide +kernel
theorem dX9_takesBus_25 : decode cX9_takesBus 25 = .ok (.iconst 1, 1) := by decide +kernel
theorem dX9_takesBus_26 : decode cX9_takesBus 26 = .ok (.bipush 7, 2) := by decide +kernel
theorem dX9_takesBus_28 : decode cX9_takesBus 28 = .ok (.invokevirtual 231, 3) := by decide +kernel
theorem dX9_takesBus_31 : decode cX9_takesBus 31 = .ok (.ifCond .ne 5, 3) := by decide +kernel
theorem dX9_takesBus_34 : decode cX9_takesBus 34 = .ok (.iconst 0, 1) := by decide +kernel
theorem dX9_takesBus_35 : decode cX9_takesBus 35 = .ok (.ireturn, 1) := by decide +kernel
theorem dX9_takesBus_36 : decode cX9_takesBus 36 = .ok (.aload_n 0, 1) := by decide +kernel
theorem dX9_takesBus_37 : decode cX9_takesBus 37 = .ok (.getfield 42, 3) := by decide +kernel
theorem dX9_takesBus_40 : decode cX9_takesBus 40 = .ok (.aload_n 0, 1) := by decide +kernel
theorem dX9_takesBus_41 : decode cX9_takesBus 41 = .ok (.getfield 45, 3) := by decide +kernel
theorem dX9_takesBus_44 : decode cX9_takesBus 44 = .ok (.iconst 0, 1) := by decide +kernel
theorem dX9_takesBus_45 : decode cX9_takesBus 45 = .ok (.iaload, 1) := by decide +kernel
theorem dX9_takesBus_46 : decode cX9_takesBus 46 = .ok (.invokestatic 48, 3) := by decide +kernel
theorem dX9_takesBus_49 : decode cX9_takesBus 49 = .ok (.aload_n 0, 1) := by decide +kernel
theorem dX9_takesBus_50 : decode cX9_takesBus 50 = .ok (.getfield 209, 3) := by decide +kernel
theorem dX9_takesBus_53 : decode cX9_takesBus 53 = .ok (.iconst 3, 1) := by decide +kernel
theorem dX9_takesBus_54 : decode cX9_takesBus 54 = .ok (.if_icmp .ne 7, 3) := by decide +kernel
theorem dX9_takesBus_57 : decode cX9_takesBus 57 = .ok (.iconst 1, 1) := by decide +kernel
theorem dX9_takesBus_58 : decode cX9_takesBus 58 = .ok (.goto 4, 3) := by decide +kernel
theorem dX9_takesBus_61 : decode cX9_takesBus 61 = .ok (.iconst 0, 1) := by decide +kernel
theorem dX9_takesBus_62 : decode cX9_takesBus 62 = .ok (.ireturn, 1) := by decide +kernel
theorem dX9_takesBridge_0 : decode cX9_takesBridge 0 = .ok (.aload_n 0, 1) := by decide +kernel
theorem dX9_takesBridge_1 : decode cX9_takesBridge 1 = .ok (.invokevirtual 224, 3) := by decide +kernel
theorem dX9_takesBridge_4 : decode cX9_takesBridge 4 = .ok (.aload_n 0, 1) := by decide +kernel
theorem dX9_takesBridge_5 : decode cX9_takesBridge 5 = .ok (.iconst 0, 1) := by decide +kernel
theorem dX9_takesBridge_6 : decode cX9_takesBridge 6 = .ok (.iconst 0, 1) := by decide +kernel
theorem dX9_takesBridge_7 : decode cX9_takesBridge 7 = .ok (.bipush 9, 2) := by decide +kernel
theorem dX9_takesBridge_9 : decode cX9_takesBridge 9 = .ok (.invokevirtual 231, 3) := by decide +kernel
theorem dX9_takesBridge_12 : decode cX9_takesBridge 12 = .ok (.ifCond .eq 14, 3) := by decide +kernel
theorem dX9_takesBridge_15 : decode cX9_takesBridge 15 = .ok (.aload_n 0, 1) := by decide +kernel
theorem dX9_takesBridge_16 : decode cX9_takesBridge 16 = .ok (.iconst 1, 1) := by decide +kernel
theorem dX9_takesBridge_17 : decode cX9_takesBridge 17 = .ok (.iconst 1, 1) := by decide +kernel
theorem dX9_takesBridge_18 : decode cX9_takesBridge 18 = .ok (.bipush 9, 2) := by decide +kernel
theorem dX9_takesBridge_20 : decode cX9_takesBridge 20 = .ok (.invokevirtual 231, 3) := by decide +kernel
theorem dX9_takesBridge_23 : decode cX9_takesBridge 23 = .ok (.ifCond .ne 5, 3) := by decide +kernel
theorem dX9_takesBridge_26 : decode cX9_takesBridge 26 = .ok (.iconst 0, 1) := by decide +kernel
theorem dX9_takesBridge_27 : decode cX9_takesBridge 27 = .ok (.ireturn, 1) := by decide +kernel
theorem dX9_takesBridge_28 : decode cX9_takesBridge 28 = .ok (.aload_n 0, 1) := by decide +kernel
theorem dX9_takesBridge_29 : decode cX9_takesBridge 29 = .ok (.getfield 42, 3) := by decide +kernel
theorem dX9_takesBridge_32 : decode cX9_takesBridge 32 = .ok (.bipush 9, 2) := by decide +kernel
theorem dX9_takesBridge_34 : decode cX9_takesBridge 34 = .ok (.aload_n 0, 1) := by decide +kernel
theorem dX9_takesBridge_35 : decode cX9_takesBridge 35 = .ok (.getfield 45, 3) := by decide +kernel
theorem dX9_takesBridge_38 : decode cX9_takesBridge 38 = .ok (.iconst 0, 1) := by decide +kernel
theorem dX9_takesBridge_39 : decode cX9_takesBridge 39 = .ok (.iaload, 1) := by decide +kernel
theorem dX9_takesBridge_40 : decode cX9_takesBridge 40 = .ok (.iadd, 1) := by decide +kernel
theorem dX9_takesBridge_41 : decode cX9_takesBridge 41 = .ok (.aload_n 0, 1) := by decide +kernel
theorem dX9_takesBridge_42 : decode cX9_takesBridge 42 = .ok (.getfield 45, 3) := by decide +kernel
theorem dX9_takesBridge_45 : decode cX9_takesBridge 45 = .ok (.iconst 1, 1) := by decide +kernel
theorem dX9_takesBridge_46 : decode cX9_takesBridge 46 = .ok (.iaload, 1) := by decide +kernel
theorem dX9_takesBridge_47 : decode cX9_takesBridge 47 = .ok (.iastore, 1) := by decide +kernel
theorem dX9_takesBridge_48 : decode cX9_takesBridge 48 = .ok (.iconst 1, 1) := by decide +kernel
theorem dX9_takesBridge_49 : decode cX9_takesBridge 49 = .ok (.ireturn, 1) := by decide +kernel
theorem dX9_takesIdea_0 : decode cX9_takesIdea 0 = .ok (.aload_n 0, 1) := by decide +kernel
theorem dX9_takesIdea_1 : decode cX9_takesIdea 1 = .ok (.getfield 42, 3) := by decide +kernel
theorem dX9_takesIdea_4 : decode cX9_takesIdea 4 = .ok (.iconst 0, 1) := by decide +kernel
theorem dX9_takesIdea_5 : decode cX9_takesIdea 5 = .ok (.iaload, 1) := by decide +kernel
theorem dX9_takesIdea_6 : decode cX9_takesIdea 6 = .ok (.bipush 7, 2) := by decide +kernel
theorem dX9_takesIdea_8 : decode cX9_takesIdea 8 = .ok (.if_icmp .ne 5, 3) := by decide +kernel
theorem dX9_takesIdea_11 : decode cX9_takesIdea 11 = .ok (.iconst 0, 1) := by decide +kernel
theorem dX9_takesIdea_12 : decode cX9_takesIdea 12 = .ok (.ireturn, 1) := by decide +kernel
theorem dX9_takesIdea_13 : decode cX9_takesIdea 13 = .ok (.aload_n 0, 1) := by decide +kernel
theorem dX9_takesIdea_14 : decode cX9_takesIdea 14 = .ok (.invokevirtual 224, 3) := by decide +kernel
theorem dX9_takesIdea_17 : decode cX9_takesIdea 17 = .ok (.aload_n 0, 1) := by decide +kernel
theorem dX9_takesIdea_18 : decode cX9_takesIdea 18 = .ok (.iconst 0, 1) := by decide +kernel
theorem dX9_takesIdea_19 : decode cX9_takesIdea 19 = .ok (.iconst 0, 1) := by decide +kernel
theorem dX9_takesIdea_20 : decode cX9_takesIdea 20 = .ok (.iconst 5, 1) := by decide +kernel
theorem dX9_takesIdea_21 : decode cX9_takesIdea 21 = .ok (.invokevirtual 231, 3) := by decide +kernel
theorem dX9_takesIdea_24 : decode cX9_takesIdea 24 = .ok (.ifCond .eq 43, 3) := by decide +kernel
theorem dX9_takesIdea_27 : decode cX9_takesIdea 27 = .ok (.aload_n 0, 1) := by decide +kernel
theorem dX9_takesIdea_28 : decode cX9_takesIdea 28 = .ok (.iconst 1, 1) := by decide +kernel
theorem dX9_takesIdea_29 : decode cX9_takesIdea 29 = .ok (.iconst 1, 1) := by decide +kernel
theorem dX9_takesIdea_30 : decode cX9_takesIdea 30 = .ok (.bipush 9, 2) := by decide +kernel
theorem dX9_takesIdea_32 : decode cX9_takesIdea 32 = .ok (.invokevirtual 231, 3) := by decide +kernel
theorem dX9_takesIdea_35 : decode cX9_takesIdea 35 = .ok (.ifCond .eq 32, 3) := by decide +kernel
theorem dX9_takesIdea_38 : decode cX9_takesIdea 38 = .ok (.aload_n 0, 1) := by decide +kernel
theorem dX9_takesIdea_39 : decode cX9_takesIdea 39 = .ok (.iconst 2, 1) := by decide +kernel
theorem dX9_takesIdea_40 : decode cX9_takesIdea 40 = .ok (.iconst 0, 1) := by decide +kernel
theorem dX9_takesIdea_41 : decode cX9_takesIdea 41 = .ok (.bipush 8, 2) := by decide +kernel
theorem dX9_takesIdea_43 : decode cX9_takesIdea 43 = .ok (.invokevirtual 231, 3) := by decide +kernel
theorem dX9_takesIdea_46 : decode cX9_takesIdea 46 = .ok (.ifCond .eq 21, 3) := by decide +kernel
theorem dX9_takesIdea_49 : decode cX9_takesIdea 49 = .ok (.aload_n 0, 1) := by decide +kernel
theorem dX9_takesIdea_50 : decode cX9_takesIdea 50 = .ok (.iconst 3, 1) := by decide +kernel
theorem dX9_takesIdea_51 : decode cX9_takesIdea 51 = .ok (.aload_n 0, 1) := by decide +kernel
theorem dX9_takesIdea_52 : decode cX9_takesIdea 52 = .ok (.getfield 45, 3) := by decide +kernel
theorem dX9_takesIdea_55 : decode cX9_takesIdea 55 = .ok (.iconst 2, 1) := by decide +kernel
theorem dX9_takesIdea_56 : decode cX9_takesIdea 56 = .ok (.iaload, 1) := by decide +kernel
theorem dX9_takesIdea_57 : decode cX9_takesIdea 57 = .ok (.iconst 1, 1) := by decide +kernel
theorem dX9_takesIdea_58 : decode cX9_takesIdea 58 = .ok (.iadd, 1) := by decide +kernel
theorem dX9_takesIdea_59 : decode cX9_takesIdea 59 = .ok (.bipush 9, 2) := by decide +kernel
theorem dX9_takesIdea_61 : decode cX9_takesIdea 61 = .ok (.invokevirtual 231, 3) := by decide +kernel
theorem dX9_takesIdea_64 : decode cX9_takesIdea 64 = .ok (.ifCond .ne 5, 3) := by decide +kernel
theorem dX9_takesIdea_67 : decode cX9_takesIdea 67 = .ok (.iconst 0, 1) := by decide +kernel
theorem dX9_takesIdea_68 : decode cX9_takesIdea 68 = .ok (.ireturn, 1) := by decide +kernel
theorem dX9_takesIdea_69 : decode cX9_takesIdea 69 = .ok (.aload_n 0, 1) := by decide +kernel
theorem dX9_takesIdea_70 : decode cX9_takesIdea 70 = .ok (.getfield 42, 3) := by decide +kernel
theorem dX9_takesIdea_73 : decode cX9_takesIdea 73 = .ok (.aload_n 0, 1) := by decide +kernel
theorem dX9_takesIdea_74 : decode cX9_takesIdea 74 = .ok (.getfield 45, 3) := by decide +kernel
theorem dX9_takesIdea_77 : decode cX9_takesIdea 77 = .ok (.iconst 0, 1) := by decide +kernel
theorem dX9_takesIdea_78 : decode cX9_takesIdea 78 = .ok (.iaload, 1) := by decide +kernel
theorem dX9_takesIdea_79 : decode cX9_takesIdea 79 = .ok (.aload_n 0, 1) := by decide +kernel
theorem dX9_takesIdea_80 : decode cX9_takesIdea 80 = .ok (.getfield 45, 3) := by decide +kernel
theorem dX9_takesIdea_83 : decode cX9_takesIdea 83 = .ok (.iconst 1, 1) := by decide +kernel
theorem dX9_takesIdea_84 : decode cX9_takesIdea 84 = .ok (.iaload, 1) := by decide +kernel
theorem dX9_takesIdea_85 : decode cX9_takesIdea 85 = .ok (.aload_n 0, 1) := by decide +kernel
theorem dX9_takesIdea_86 : decode cX9_takesIdea 86 = .ok (.getfield 45, 3) := by decide +kernel
theorem dX9_takesIdea_89 : decode cX9_takesIdea 89 = .ok (.iconst 2, 1) := by decide +kernel
theorem dX9_takesIdea_90 : decode cX9_takesIdea 90 = .ok (.iaload, 1) := by decide +kernel
theorem dX9_takesIdea_91 : decode cX9_takesIdea 91 = .ok (.aload_n 0, 1) := by decide +kernel
theorem dX9_takesIdea_92 : decode cX9_takesIdea 92 = .ok (.getfield 45, 3) := by decide +kernel
theorem dX9_takesIdea_95 : decode cX9_takesIdea 95 = .ok (.iconst 3, 1) := by decide +kernel
theorem dX9_takesIdea_96 : decode cX9_takesIdea 96 = .ok (.iaload, 1) := by decide +kernel
theorem dX9_takesIdea_97 : decode cX9_takesIdea 97 = .ok (.invokestatic 79, 3) := by decide +kernel
theorem dX9_takesIdea_100 : decode cX9_takesIdea 100 = .ok (.iconst 1, 1) := by decide +kernel
theorem dX9_takesIdea_101 : decode cX9_takesIdea 101 = .ok (.ireturn, 1) := by decide +kernel
theorem dX9_takesQuarrel_0 : decode cX9_takesQuarrel 0 = .ok (.aload_n 0, 1) := by decide +kernel
theorem dX9_takesQuarrel_1 : decode cX9_takesQuarrel 1 = .ok (.invokevirtual 224, 3) := by decide +kernel
theorem dX9_takesQuarrel_4 : decode cX9_takesQuarrel 4 = .ok (.aload_n 0, 1) := by decide +kernel
theorem dX9_takesQuarrel_5 : decode cX9_takesQuarrel 5 = .ok (.iconst 0, 1) := by decide +kernel
theorem dX9_takesQuarrel_6 : decode cX9_takesQuarrel 6 = .ok (.iconst 0, 1) := by decide +kernel
theorem dX9_takesQuarrel_7 : decode cX9_takesQuarrel 7 = .ok (.aload_n 0, 1) := by decide +kernel
theorem dX9_takesQuarrel_8 : decode cX9_takesQuarrel 8 = .ok (.getfield 42, 3) := by decide +kernel
theorem dX9_takesQuarrel_11 : decode cX9_takesQuarrel 11 = .ok (.iconst 0, 1) := by decide +kernel
theorem dX9_takesQuarrel_12 : decode cX9_takesQuarrel 12 = .ok (.iaload, 1) := by decide +kernel
theorem dX9_takesQuarrel_13 : decode cX9_takesQuarrel 13 = .ok (.iconst 1, 1) := by decide +kernel
theorem dX9_takesQuarrel_14 : decode cX9_takesQuarrel 14 = .ok (.isub, 1) := by decide +kernel
theorem dX9_takesQuarrel_15 : decode cX9_takesQuarrel 15 = .ok (.invokevirtual 231, 3) := by decide +kernel
theorem dX9_takesQuarrel_18 : decode cX9_takesQuarrel 18 = .ok (.ifCond .eq 41, 3) := by decide +kernel
theorem dX9_takesQuarrel_21 : decode cX9_takesQuarrel 21 = .ok (.aload_n 0, 1) := by decide +kernel
theorem dX9_takesQuarrel_22 : decode cX9_takesQuarrel 22 = .ok (.getfield 209, 3) := by decide +kernel
theorem dX9_takesQuarrel_25 : decode cX9_takesQuarrel 25 = .ok (.iconst 2, 1) := by decide +kernel
theorem dX9_takesQuarrel_26 : decode cX9_takesQuarrel 26 = .ok (.if_icmp .ne 33, 3) := by decide +kernel
theorem dX9_takesQuarrel_29 : decode cX9_takesQuarrel 29 = .ok (.aload_n 0, 1) := by decide +kernel
theorem dX9_takesQuarrel_30 : decode cX9_takesQuarrel 30 = .ok (.getfield 212, 3) := by decide +kernel
theorem dX9_takesQuarrel_33 : decode cX9_takesQuarrel 33 = .ok (.aload_n 0, 1) := by decide +kernel
theorem dX9_takesQuarrel_34 : decode cX9_takesQuarrel 34 = .ok (.getfield 45, 3) := by decide +kernel
theorem dX9_takesQuarrel_37 : decode cX9_takesQuarrel 37 = .ok (.iconst 0, 1) := by decide +kernel
theorem dX9_takesQuarrel_38 : decode cX9_takesQuarrel 38 = .ok (.iaload, 1) := by decide +kernel
theorem dX9_takesQuarrel_39 : decode cX9_takesQuarrel 39 = .ok (.if_icmp .eq 20, 3) := by decide +kernel
theorem dX9_takesQuarrel_42 : decode cX9_takesQuarrel 42 = .ok (.aload_n 0, 1) := by decide +kernel
theorem dX9_takesQuarrel_43 : decode cX9_takesQuarrel 43 = .ok (.iconst 1, 1) := by decide +kernel
theorem dX9_takesQuarrel_44 : decode cX9_takesQuarrel 44 = .ok (.iconst 0, 1) := by decide +kernel
theorem dX9_takesQuarrel_45 : decode cX9_takesQuarrel 45 = .ok (.aload_n 0, 1) := by decide +kernel
theorem dX9_takesQuarrel_46 : decode cX9_takesQuarrel 46 = .ok (.getfield 42, 3) := by decide +kernel
theorem dX9_takesQuarrel_49 : decode cX9_takesQuarrel 49 = .ok (.iconst 0, 1) := by decide +kernel
theorem dX9_takesQuarrel_50 : decode cX9_takesQuarrel 50 = .ok (.iaload, 1) := by decide +kernel
theorem dX9_takesQuarrel_51 : decode cX9_takesQuarrel 51 = .ok (.iconst 1, 1) := by decide +kernel
theorem dX9_takesQuarrel_52 : decode cX9_takesQuarrel 52 = .ok (.isub, 1) := by decide +kernel
theorem dX9_takesQuarrel_53 : decode cX9_takesQuarrel 53 = .ok (.invokevirtual 231, 3) := by decide +kernel
theorem dX9_takesQuarrel_56 : decode cX9_takesQuarrel 56 = .ok (.ifCond .ne 5, 3) := by decide +kernel
theorem dX9_takesQuarrel_59 : decode cX9_takesQuarrel 59 = .ok (.iconst 0, 1) := by decide +kernel
theorem dX9_takesQuarrel_60 : decode cX9_takesQuarrel 60 = .ok (.ireturn, 1) := by decide +kernel
theorem dX9_takesQuarrel_61 : decode cX9_takesQuarrel 61 = .ok (.aload_n 0, 1) := by decide +kernel
theorem dX9_takesQuarrel_62 : decode cX9_takesQuarrel 62 = .ok (.getfield 42, 3) := by decide +kernel
theorem dX9_takesQuarrel_65 : decode cX9_takesQuarrel 65 = .ok (.aload_n 0, 1) := by decide +kernel
theorem dX9_takesQuarrel_66 : decode cX9_takesQuarrel 66 = .ok (.getfield 45, 3) := by decide +kernel
theorem dX9_takesQuarrel_69 : decode cX9_takesQuarrel 69 = .ok (.iconst 0, 1) := by decide +kernel
theorem dX9_takesQuarrel_70 : decode cX9_takesQuarrel 70 = .ok (.iaload, 1) := by decide +kernel
theorem dX9_takesQuarrel_71 : decode cX9_takesQuarrel 71 = .ok (.aload_n 0, 1) := by decide +kernel
theorem dX9_takesQuarrel_72 : decode cX9_takesQuarrel 72 = .ok (.getfield 45, 3) := by decide +kernel
theorem dX9_takesQuarrel_75 : decode cX9_takesQuarrel 75 = .ok (.iconst 1, 1) := by decide +kernel
theorem dX9_takesQuarrel_76 : decode cX9_takesQuarrel 76 = .ok (.iaload, 1) := by decide +kernel
theorem dX9_takesQuarrel_77 : decode cX9_takesQuarrel 77 = .ok (.iconst 1, 1) := by decide +kernel
theorem dX9_takesQuarrel_78 : decode cX9_takesQuarrel 78 = .ok (.invokestatic 86, 3) := by decide +kernel
theorem dX9_takesQuarrel_81 : decode cX9_takesQuarrel 81 = .ok (.iconst 1, 1) := by decide +kernel
theorem dX9_takesQuarrel_82 : decode cX9_takesQuarrel 82 = .ok (.ireturn, 1) := by decide +kernel
theorem dX9_takesItem_0 : decode cX9_takesItem 0 = .ok (.aload_n 0, 1) := by decide +kernel
theorem dX9_takesItem_1 : decode cX9_takesItem 1 = .ok (.bipush 6, 2) := by decide +kernel
theorem dX9_takesItem_3 : decode cX9_takesItem 3 = .ok (.bipush 98, 2) := by decide +kernel
theorem dX9_takesItem_5 : decode cX9_takesItem 5 = .ok (.bipush 114, 2) := by decide +kernel
theorem dX9_takesItem_7 : decode cX9_takesItem 7 = .ok (.bipush 105, 2) := by decide +kernel
theorem dX9_takesItem_9 : decode cX9_takesItem 9 = .ok (.bipush 100, 2) := by decide +kernel
theorem dX9_takesItem_11 : decode cX9_takesItem 11 = .ok (.bipush 103, 2) := by decide +kernel
theorem dX9_takesItem_13 : decode cX9_takesItem 13 = .ok (.bipush 101, 2) := by decide +kernel
theorem dX9_takesItem_15 : decode cX9_takesItem 15 = .ok (.invokevirtual 227, 3) := by decide +kernel
theorem dX9_takesItem_18 : decode cX9_takesItem 18 = .ok (.ifCond .eq 8, 3) := by decide +kernel
theorem dX9_takesItem_21 : decode cX9_takesItem 21 = .ok (.aload_n 0, 1) := by decide +kernel
theorem dX9_takesItem_22 : decode cX9_takesItem 22 = .ok (.invokevirtual 234, 3) := by decide +kernel
theorem dX9_takesItem_25 : decode cX9_takesItem 25 = .ok (.ireturn, 1) := by decide +kernel
theorem dX9_takesItem_26 : decode cX9_takesItem 26 = .ok (.aload_n 0, 1) := by decide +kernel
theorem dX9_takesItem_27 : decode cX9_takesItem 27 = .ok (.iconst 4, 1) := by decide +kernel
theorem dX9_takesItem_28 : decode cX9_takesItem 28 = .ok (.bipush 105, 2) := by decide +kernel
theorem dX9_takesItem_30 : decode cX9_takesItem 30 = .ok (.bipush 100, 2) := by decide +kernel
theorem dX9_takesItem_32 : decode cX9_takesItem 32 = .ok (.bipush 101, 2) := by decide +kernel
theorem dX9_takesItem_34 : decode cX9_takesItem 34 = .ok (.bipush 97, 2) := by decide +kernel
theorem dX9_takesItem_36 : decode cX9_takesItem 36 = .ok (.iconst 0, 1) := by decide +kernel
theorem dX9_takesItem_37 : decode cX9_takesItem 37 = .ok (.iconst 0, 1) := by decide +kernel
theorem dX9_takesItem_38 : decode cX9_takesItem 38 = .ok (.invokevirtual 227, 3) := by decide +kernel
theorem dX9_takesItem_41 : decode cX9_takesItem 41 = .ok (.ifCond .eq 8, 3) := by decide +kernel
theorem dX9_takesItem_44 : decode cX9_takesItem 44 = .ok (.aload_n 0, 1) := by decide +kernel
theorem dX9_takesItem_45 : decode cX9_takesItem 45 = .ok (.invokevirtual 238, 3) := by decide +kernel
theorem dX9_takesItem_48 : decode cX9_takesItem 48 = .ok (.ireturn, 1) := by decide +kernel
theorem dX9_takesItem_49 : decode cX9_takesItem 49 = .ok (.aload_n 0, 1) := by decide +kernel
theorem dX9_takesItem_50 : decode cX9_takesItem 50 = .ok (.invokevirtual 241, 3) := by decide +kernel
theorem dX9_takesItem_53 : decode cX9_takesItem 53 = .ok (.ifCond .eq 14, 3) := by decide +kernel
theorem dX9_takesItem_56 : decode cX9_takesItem 56 = .ok (.aload_n 0, 1) := by decide +kernel
theorem dX9_takesItem_57 : decode cX9_takesItem 57 = .ok (.invokevirtual 244, 3) := by decide +kernel
theorem dX9_takesItem_60 : decode cX9_takesItem 60 = .ok (.ifCond .eq 7, 3) := by decide +kernel
theorem dX9_takesItem_63 : decode cX9_takesItem 63 = .ok (.iconst 1, 1) := by decide +kernel
theorem dX9_takesItem_64 : decode cX9_takesItem 64 = .ok (.goto 4, 3) := by decide +kernel
theorem dX9_takesItem_67 : decode cX9_takesItem 67 = .ok (.iconst 0, 1) := by decide +kernel
theorem dX9_takesItem_68 : decode cX9_takesItem 68 = .ok (.ireturn, 1) := by decide +kernel
theorem dX9_isQuarrel_0 : decode cX9_isQuarrel 0 = .ok (.aload_n 0, 1) := by decide +kernel
theorem dX9_isQuarrel_1 : decode cX9_isQuarrel 1 = .ok (.getfield 209, 3) := by decide +kernel
theorem dX9_isQuarrel_4 : decode cX9_isQuarrel 4 = .ok (.iconst 1, 1) := by decide +kernel
theorem dX9_isQuarrel_5 : decode cX9_isQuarrel 5 = .ok (.if_icmp .ne 16, 3) := by decide +kernel
theorem dX9_isQuarrel_8 : decode cX9_isQuarrel 8 = .ok (.aload_n 0, 1) := by decide +kernel
theorem dX9_isQuarrel_9 : decode cX9_isQuarrel 9 = .ok (.getfield 206, 3) := by decide +kernel
theorem dX9_isQuarrel_12 : decode cX9_isQuarrel 12 = .ok (.bipush 7, 2) := by decide +kernel
theorem dX9_isQuarrel_14 : decode cX9_isQuarrel 14 = .ok (.if_icmp .ne 7, 3) := by decide +kernel
theorem dX9_isQuarrel_17 : decode cX9_isQuarrel 17 = .ok (.iconst 1, 1) := by decide +kernel
theorem dX9_isQuarrel_18 : decode cX9_isQuarrel 18 = .ok (.goto 4, 3) := by decide +kernel
theorem dX9_isQuarrel_21 : decode cX9_isQuarrel 21 = .ok (.iconst 0, 1) := by decide +kernel
theorem dX9_isQuarrel_22 : decode cX9_isQuarrel 22 = .ok (.istore_n 1, 1) := by decide +kernel
theorem dX9_isQuarrel_23 : decode cX9_isQuarrel 23 = .ok (.aload_n 0, 1) := by decide +kernel
theorem dX9_isQuarrel_24 : decode cX9_isQuarrel 24 = .ok (.iload_n 1, 1) := by decide +kernel
theorem dX9_isQuarrel_25 : decode cX9_isQuarrel 25 = .ok (.ifCond .eq 8, 3) := by decide +kernel
theorem dX9_isQuarrel_28 : decode cX9_isQuarrel 28 = .ok (.bipush 6, 2) := by decide +kernel
theorem dX9_isQuarrel_30 : decode cX9_isQuarrel 30 = .ok (.goto 7, 3) := by decide +kernel
theorem dX9_isQuarrel_33 : decode cX9_isQuarrel 33 = .ok (.aload_n 0, 1) := by decide +kernel
theorem dX9_isQuarrel_34 : decode cX9_isQuarrel 34 = .ok (.getfield 206, 3) := by decide +kernel
theorem dX9_isQuarrel_37 : decode cX9_isQuarrel 37 = .ok (.putfield 206, 3) := by decide +kernel
theorem dX9_isQuarrel_40 : decode cX9_isQuarrel 40 = .ok (.aload_n 0, 1) := by decide +kernel
theorem dX9_isQuarrel_41 : decode cX9_isQuarrel 41 = .ok (.bipush 6, 2) := by decide +kernel
theorem dX9_isQuarrel_43 : decode cX9_isQuarrel 43 = .ok (.bipush 113, 2) := by decide +kernel
theorem dX9_isQuarrel_45 : decode cX9_isQuarrel 45 = .ok (.bipush 117, 2) := by decide +kernel
theorem dX9_isQuarrel_47 : decode cX9_isQuarrel 47 = .ok (.bipush 97, 2) := by decide +kernel
theorem dX9_isQuarrel_49 : decode cX9_isQuarrel 49 = .ok (.bipush 114, 2) := by decide +kernel
theorem dX9_isQuarrel_51 : decode cX9_isQuarrel 51 = .ok (.bipush 114, 2) := by decide +kernel
theorem dX9_isQuarrel_53 : decode cX9_isQuarrel 53 = .ok (.bipush 101, 2) := by decide +kernel
theorem dX9_isQuarrel_55 : decode cX9_isQuarrel 55 = .ok (.invokevirtual 227, 3) := by decide +kernel
theorem dX9_isQuarrel_58 : decode cX9_isQuarrel 58 = .ok (.istore_n 2, 1) := by decide +kernel
theorem dX9_isQuarrel_59 : decode cX9_isQuarrel 59 = .ok (.aload_n 0, 1) := by decide +kernel
theorem dX9_isQuarrel_60 : decode cX9_isQuarrel 60 = .ok (.iload_n 1, 1) := by decide +kernel
theorem dX9_isQuarrel_61 : decode cX9_isQuarrel 61 = .ok (.ifCond .eq 8, 3) := by decide +kernel
theorem dX9_isQuarrel_64 : decode cX9_isQuarrel 64 = .ok (.bipush 7, 2) := by decide +kernel
theorem dX9_isQuarrel_66 : decode cX9_isQuarrel 66 = .ok (.goto 7, 3) := by decide +kernel
theorem dX9_isQuarrel_69 : decode cX9_isQuarrel 69 = .ok (.aload_n 0, 1) := by decide +kernel
theorem dX9_isQuarrel_70 : decode cX9_isQuarrel 70 = .ok (.getfield 206, 3) := by decide +kernel
theorem dX9_isQuarrel_73 : decode cX9_isQuarrel 73 = .ok (.putfield 206, 3) := by decide +kernel
theorem dX9_isQuarrel_76 : decode cX9_isQuarrel 76 = .ok (.iload_n 1, 1) := by decide +kernel
theorem dX9_isQuarrel_77 : decode cX9_isQuarrel 77 = .ok (.ifCond .eq 28, 3) := by decide +kernel
theorem dX9_isQuarrel_80 : decode cX9_isQuarrel 80 = .ok (.iload_n 2, 1) := by decide +kernel
theorem dX9_isQuarrel_81 : decode cX9_isQuarrel 81 = .ok (.ifCond .eq 24, 3) := by decide +kernel
theorem dX9_isQuarrel_84 : decode cX9_isQuarrel 84 = .ok (.aload_n 0, 1) := by decide +kernel
theorem dX9_isQuarrel_85 : decode cX9_isQuarrel 85 = .ok (.getfield 39, 3) := by decide +kernel
theorem dX9_isQuarrel_88 : decode cX9_isQuarrel 88 = .ok (.aload_n 0, 1) := by decide +kernel
theorem dX9_isQuarrel_89 : decode cX9_isQuarrel 89 = .ok (.getfield 203, 3) := by decide +kernel
theorem dX9_isQuarrel_92 : decode cX9_isQuarrel 92 = .ok (.bipush 6, 2) := by decide +kernel
theorem dX9_isQuarrel_94 : decode cX9_isQuarrel 94 = .ok (.iadd, 1) := by decide +kernel
theorem dX9_isQuarrel_95 : decode cX9_isQuarrel 95 = .ok (.iaload, 1) := by decide +kernel
theorem dX9_isQuarrel_96 : decode cX9_isQuarrel 96 = .ok (.bipush 108, 2) := by decide +kernel
theorem dX9_isQuarrel_98 : decode cX9_isQuarrel 98 = .ok (.if_icmp .ne 7, 3) := by decide +kernel
theorem dX9_isQuarrel_101 : decode cX9_isQuarrel 101 = .ok (.iconst 1, 1) := by decide +kernel
theorem dX9_isQuarrel_102 : decode cX9_isQuarrel 102 = .ok (.goto 4, 3) := by decide +kernel
theorem dX9_isQuarrel_105 : decode cX9_isQuarrel 105 = .ok (.iconst 0, 1) := by decide +kernel
theorem dX9_isQuarrel_106 : decode cX9_isQuarrel 106 = .ok (.ireturn, 1) := by decide +kernel
theorem dX9_read_0 : decode cX9_read 0 = .ok (.aload_n 0, 1) := by decide +kernel
theorem dX9_read_1 : decode cX9_read 1 = .ok (.iconst 0, 1) := by decide +kernel
theorem dX9_read_2 : decode cX9_read 2 = .ok (.invokevirtual 221, 3) := by decide +kernel
theorem dX9_read_5 : decode cX9_read 5 = .ok (.aload_n 0, 1) := by decide +kernel
theorem dX9_read_6 : decode cX9_read 6 = .ok (.invokevirtual 247, 3) := by decide +kernel
theorem dX9_read_9 : decode cX9_read 9 = .ok (.ifCond .ne 11, 3) := by decide +kernel
theorem dX9_read_12 : decode cX9_read 12 = .ok (.bipush (-10), 2) := by decide +kernel
theorem dX9_read_14 : decode cX9_read 14 = .ok (.aload_n 0, 1) := by decide +kernel
theorem dX9_read_15 : decode cX9_read 15 = .ok (.getfield 203, 3) := by decide +kernel
theorem dX9_read_18 : decode cX9_read 18 = .ok (.isub, 1) := by decide +kernel
theorem dX9_read_19 : decode cX9_read 19 = .ok (.ireturn, 1) := by decide +kernel
theorem dX9_read_20 : decode cX9_read 20 = .ok (.aload_n 0, 1) := by decide +kernel
theorem dX9_read_21 : decode cX9_read 21 = .ok (.invokevirtual 224, 3) := by decide +kernel
theorem dX9_read_24 : decode cX9_read 24 = .ok (.iconst 1, 1) := by decide +kernel
theorem dX9_read_25 : decode cX9_read 25 = .ok (.istore_n 1, 1) := by decide +kernel
theorem dX9_read_26 : decode cX9_read 26 = .ok (.aload_n 0, 1) := by decide +kernel
theorem dX9_read_27 : decode cX9_read 27 = .ok (.getfield 209, 3) := by decide +kernel
theorem dX9_read_30 : decode cX9_read 30 = .ok (.ifCond .eq 36, 3) := by decide +kernel
theorem dX9_read_33 : decode cX9_read 33 = .ok (.aload_n 0, 1) := by decide +kernel
theorem dX9_read_34 : decode cX9_read 34 = .ok (.invokevirtual 250, 3) := by decide +kernel
theorem dX9_read_37 : decode cX9_read 37 = .ok (.ifCond .eq 11, 3) := by decide +kernel
theorem dX9_read_40 : decode cX9_read 40 = .ok (.aload_n 0, 1) := by decide +kernel
theorem dX9_read_41 : decode cX9_read 41 = .ok (.getfield 209, 3) := by decide +kernel
theorem dX9_read_44 : decode cX9_read 44 = .ok (.iconst 3, 1) := by decide +kernel
theorem dX9_read_45 : decode cX9_read 45 = .ok (.if_icmp .eq 11, 3) := by decide +kernel
theorem dX9_read_48 : decode cX9_read 48 = .ok (.bipush (-10), 2) := by decide +kernel
theorem dX9_read_50 : decode cX9_read 50 = .ok (.aload_n 0, 1) := by decide +kernel
theorem dX9_read_51 : decode cX9_read 51 = .ok (.getfield 203, 3) := by decide +kernel
theorem dX9_read_54 : decode cX9_read 54 = .ok (.isub, 1) := by decide +kernel
theorem dX9_read_55 : decode cX9_read 55 = .ok (.ireturn, 1) := by decide +kernel
theorem dX9_read_56 : decode cX9_read 56 = .ok (.aload_n 0, 1) := by decide +kernel
theorem dX9_read_57 : decode cX9_read 57 = .ok (.invokevirtual 224, 3) := by decide +kernel
theorem dX9_read_60 : decode cX9_read 60 = .ok (.iinc 1 1, 3) := by decide +kernel
theorem dX9_read_63 : decode cX9_read 63 = .ok (.goto (-37), 3) := by decide +kernel
theorem dX9_read_66 : decode cX9_read 66 = .ok (.iconst 0, 1) := by decide +kernel
theorem dX9_read_67 : decode cX9_read 67 = .ok (.istore_n 2, 1) := by decide +kernel
theorem dX9_read_68 : decode cX9_read 68 = .ok (.iload_n 2, 1) := by decide +kernel
theorem dX9_read_69 : decode cX9_read 69 = .ok (.bipush 78, 2) := by decide +kernel
theorem dX9_read_71 : decode cX9_read 71 = .ok (.if_icmp .ge 21, 3) := by decide +kernel
theorem dX9_read_74 : decode cX9_read 74 = .ok (.aload_n 0, 1) := by decide +kernel
theorem dX9_read_75 : decode cX9_read 75 = .ok (.getfield 7, 3) := by decide +kernel
theorem dX9_read_78 : decode cX9_read 78 = .ok (.iload_n 2, 1) := by decide +kernel
theorem dX9_read_79 : decode cX9_read 79 = .ok (.aload_n 0, 1) := by decide +kernel
theorem dX9_read_80 : decode cX9_read 80 = .ok (.getfield 42, 3) := by decide +kernel
theorem dX9_read_83 : decode cX9_read 83 = .ok (.iload_n 2, 1) := by decide +kernel
theorem dX9_read_84 : decode cX9_read 84 = .ok (.iaload, 1) := by decide +kernel
theorem dX9_read_85 : decode cX9_read 85 = .ok (.iastore, 1) := by decide +kernel
theorem dX9_read_86 : decode cX9_read 86 = .ok (.iinc 2 1, 3) := by decide +kernel
theorem dX9_read_89 : decode cX9_read 89 = .ok (.goto (-21), 3) := by decide +kernel
theorem dX9_read_92 : decode cX9_read 92 = .ok (.iload_n 1, 1) := by decide +kernel
theorem dX9_read_93 : decode cX9_read 93 = .ok (.ireturn, 1) := by decide +kernel
theorem dX9_part_0 : decode cX9_part 0 = .ok (.iload_n 1, 1) := by decide +kernel
theorem dX9_part_1 : decode cX9_part 1 = .ok (.ifCond .ne 10, 3) := by decide +kernel
theorem dX9_part_4 : decode cX9_part 4 = .ok (.aload_n 0, 1) := by decide +kernel
theorem dX9_part_5 : decode cX9_part 5 = .ok (.getfield 159, 3) := by decide +kernel
theorem dX9_part_8 : decode cX9_part 8 = .ok (.goto 22, 3) := by decide +kernel
theorem dX9_part_11 : decode cX9_part 11 = .ok (.iload_n 1, 1) := by decide +kernel
theorem dX9_part_12 : decode cX9_part 12 = .ok (.iconst 1, 1) := by decide +kernel
theorem dX9_part_13 : decode cX9_part 13 = .ok (.if_icmp .ne 10, 3) := by decide +kernel
theorem dX9_part_16 : decode cX9_part 16 = .ok (.aload_n 0, 1) := by decide +kernel
theorem dX9_part_17 : decode cX9_part 17 = .ok (.getfield 23, 3) := by decide +kernel
theorem dX9_part_20 : decode cX9_part 20 = .ok (.goto 10, 3) := by decide +kernel
theorem dX9_part_23 : decode cX9_part 23 = .ok (.aload_n 0, 1) := by decide +kernel
theorem dX9_part_24 : decode cX9_part 24 = .ok (.bipush (-2), 2) := by decide +kernel
theorem dX9_part_26 : decode cX9_part 26 = .ok (.invokevirtual 64, 3) := by decide +kernel
theorem dX9_part_29 : decode cX9_part 29 = .ok (.i2l, 1) := by decide +kernel
theorem dX9_part_30 : decode cX9_part 30 = .ok (.lreturn, 1) := by decide +kernel
theorem dX9_image_0 : decode cX9_image 0 = .ok (.iload_n 1, 1) := by decide +kernel
theorem dX9_image_1 : decode cX9_image 1 = .ok (.i2l, 1) := by decide +kernel
theorem dX9_image_2 : decode cX9_image 2 = .ok (.lconst 0, 1) := by decide +kernel
theorem dX9_image_3 : decode cX9_image 3 = .ok (.lconst 1, 1) := by decide +kernel
theorem dX9_image_4 : decode cX9_image 4 = .ok (.invokestatic 56, 3) := by decide +kernel
theorem dX9_image_7 : decode cX9_image 7 = .ok (.ifCond .ne 10, 3) := by decide +kernel
theorem dX9_image_10 : decode cX9_image 10 = .ok (.aload_n 0, 1) := by decide +kernel
theorem dX9_image_11 : decode cX9_image 11 = .ok (.bipush (-2), 2) := by decide +kernel
theorem dX9_image_13 : decode cX9_image 13 = .ok (.invokevirtual 64, 3) := by decide +kernel
theorem dX9_image_16 : decode cX9_image 16 = .ok (.ireturn, 1) := by decide +kernel
theorem dX9_image_17 : decode cX9_image 17 = .ok (.iconst 0, 1) := by decide +kernel
theorem dX9_image_18 : decode cX9_image 18 = .ok (.istore_n 2, 1) := by decide +kernel
theorem dX9_image_19 : decode cX9_image 19 = .ok (.iload_n 2, 1) := by decide +kernel
theorem dX9_image_20 : decode cX9_image 20 = .ok (.bipush 118, 2) := by decide +kernel
theorem dX9_image_22 : decode cX9_image 22 = .ok (.if_icmp .ge 26, 3) := by decide +kernel
theorem dX9_image_25 : decode cX9_image 25 = .ok (.aload_n 0, 1) := by decide +kernel
theorem dX9_image_26 : decode cX9_image 26 = .ok (.getfield 13, 3) := by decide +kernel
theorem dX9_image_29 : decode cX9_image 29 = .ok (.bipush 118, 2) := by decide +kernel
theorem dX9_image_31 : decode cX9_image 31 = .ok (.iload_n 1, 1) := by decide +kernel
theorem dX9_image_32 : decode cX9_image 32 = .ok (.imul, 1) := by decide +kernel
theorem dX9_image_33 : decode cX9_image 33 = .ok (.iload_n 2, 1) := by decide +kernel
theorem dX9_image_34 : decode cX9_image 34 = .ok (.iadd, 1) := by decide +kernel
theorem dX9_image_35 : decode cX9_image 35 = .ok (.aload_n 0, 1) := by decide +kernel
theorem dX9_image_36 : decode cX9_image 36 = .ok (.getfield 7, 3) := by decide +kernel
theorem dX9_image_39 : decode cX9_image 39 = .ok (.iload_n 2, 1) := by decide +kernel
theorem dX9_image_40 : decode cX9_image 40 = .ok (.iaload, 1) := by decide +kernel
theorem dX9_image_41 : decode cX9_image 41 = .ok (.iastore, 1) := by decide +kernel
theorem dX9_image_42 : decode cX9_image 42 = .ok (.iinc 2 1, 3) := by decide +kernel
theorem dX9_image_45 : decode cX9_image 45 = .ok (.goto (-26), 3) := by decide +kernel
theorem dX9_image_48 : decode cX9_image 48 = .ok (.aload_n 0, 1) := by decide +kernel
theorem dX9_image_49 : decode cX9_image 49 = .ok (.getfield 16, 3) := by decide +kernel
theorem dX9_image_52 : decode cX9_image 52 = .ok (.iload_n 1, 1) := by decide +kernel
theorem dX9_image_53 : decode cX9_image 53 = .ok (.iconst 1, 1) := by decide +kernel
theorem dX9_image_54 : decode cX9_image 54 = .ok (.bastore, 1) := by decide +kernel
theorem dX9_image_55 : decode cX9_image 55 = .ok (.iconst 1, 1) := by decide +kernel
theorem dX9_image_56 : decode cX9_image 56 = .ok (.ireturn, 1) := by decide +kernel
theorem dX9_from_0 : decode cX9_from 0 = .ok (.iload_n 1, 1) := by decide +kernel
theorem dX9_from_1 : decode cX9_from 1 = .ok (.i2l, 1) := by decide +kernel
theorem dX9_from_2 : decode cX9_from 2 = .ok (.lconst 0, 1) := by decide +kernel
theorem dX9_from_3 : decode cX9_from 3 = .ok (.lconst 1, 1) := by decide +kernel
theorem dX9_from_4 : decode cX9_from 4 = .ok (.invokestatic 56, 3) := by decide +kernel
theorem dX9_from_7 : decode cX9_from 7 = .ok (.ifCond .ne 10, 3) := by decide +kernel
theorem dX9_from_10 : decode cX9_from 10 = .ok (.aload_n 0, 1) := by decide +kernel
theorem dX9_from_11 : decode cX9_from 11 = .ok (.bipush (-2), 2) := by decide +kernel
theorem dX9_from_13 : decode cX9_from 13 = .ok (.invokevirtual 64, 3) := by decide +kernel
theorem dX9_from_16 : decode cX9_from 16 = .ok (.ireturn, 1) := by decide +kernel
theorem dX9_from_17 : decode cX9_from 17 = .ok (.aload_n 0, 1) := by decide +kernel
theorem dX9_from_18 : decode cX9_from 18 = .ok (.getfield 16, 3) := by decide +kernel
theorem dX9_from_21 : decode cX9_from 21 = .ok (.iload_n 1, 1) := by decide +kernel
theorem dX9_from_22 : decode cX9_from 22 = .ok (.baload, 1) := by decide +kernel
theorem dX9_from_23 : decode cX9_from 23 = .ok (.ifCond .ne 8, 3) := by decide +kernel
theorem dX9_from_26 : decode cX9_from 26 = .ok (.aload_n 0, 1) := by decide +kernel
theorem dX9_from_27 : decode cX9_from 27 = .ok (.invokevirtual 119, 3) := by decide +kernel
theorem dX9_from_30 : decode cX9_from 30 = .ok (.ireturn, 1) := by decide +kernel
theorem dX9_from_31 : decode cX9_from 31 = .ok (.iconst 0, 1) := by decide +kernel
theorem dX9_from_32 : decode cX9_from 32 = .ok (.istore_n 2, 1) := by decide +kernel
theorem dX9_from_33 : decode cX9_from 33 = .ok (.iload_n 2, 1) := by decide +kernel
theorem dX9_from_34 : decode cX9_from 34 = .ok (.bipush 118, 2) := by decide +kernel
theorem dX9_from_36 : decode cX9_from 36 = .ok (.if_icmp .ge 26, 3) := by decide +kernel
theorem dX9_from_39 : decode cX9_from 39 = .ok (.aload_n 0, 1) := by decide +kernel
theorem dX9_from_40 : decode cX9_from 40 = .ok (.getfield 7, 3) := by decide +kernel
theorem dX9_from_43 : decode cX9_from 43 = .ok (.iload_n 2, 1) := by decide +kernel
theorem dX9_from_44 : decode cX9_from 44 = .ok (.aload_n 0, 1) := by decide +kernel
theorem dX9_from_45 : decode cX9_from 45 = .ok (.getfield 13, 3) := by decide +kernel
theorem dX9_from_48 : decode cX9_from 48 = .ok (.bipush 118, 2) := by decide +kernel
theorem dX9_from_50 : decode cX9_from 50 = .ok (.iload_n 1, 1) := by decide +kernel
theorem dX9_from_51 : decode cX9_from 51 = .ok (.imul, 1) := by decide +kernel
theorem dX9_from_52 : decode cX9_from 52 = .ok (.iload_n 2, 1) := by decide +kernel
theorem dX9_from_53 : decode cX9_from 53 = .ok (.iadd, 1) := by decide +kernel
theorem dX9_from_54 : decode cX9_from 54 = .ok (.iaload, 1) := by decide +kernel
theorem dX9_from_55 : decode cX9_from 55 = .ok (.iastore, 1) := by decide +kernel
theorem dX9_from_56 : decode cX9_from 56 = .ok (.iinc 2 1, 3) := by decide +kernel
theorem dX9_from_59 : decode cX9_from 59 = .ok (.goto (-26), 3) := by decide +kernel
theorem dX9_from_62 : decode cX9_from 62 = .ok (.iconst 1, 1) := by decide +kernel
theorem dX9_from_63 : decode cX9_from 63 = .ok (.ireturn, 1) := by decide +kernel
theorem dX9_status_0 : decode cX9_status 0 = .ok (.iload_n 1, 1) := by decide +kernel
theorem dX9_status_1 : decode cX9_status 1 = .ok (.i2l, 1) := by decide +kernel
theorem dX9_status_2 : decode cX9_status 2 = .ok (.lconst 0, 1) := by decide +kernel
theorem dX9_status_3 : decode cX9_status 3 = .ok (.ldc2_w 131, 3) := by decide +kernel
theorem dX9_status_6 : decode cX9_status 6 = .ok (.invokestatic 56, 3) := by decide +kernel
theorem dX9_status_9 : decode cX9_status 9 = .ok (.ifCond .eq 12, 3) := by decide +kernel
theorem dX9_status_12 : decode cX9_status 12 = .ok (.aload_n 0, 1) := by decide +kernel
theorem dX9_status_13 : decode cX9_status 13 = .ok (.getfield 20, 3) := by decide +kernel
theorem dX9_status_16 : decode cX9_status 16 = .ok (.iload_n 1, 1) := by decide +kernel
theorem dX9_status_17 : decode cX9_status 17 = .ok (.iaload, 1) := by decide +kernel
theorem dX9_status_18 : decode cX9_status 18 = .ok (.goto 8, 3) := by decide +kernel
theorem dX9_status_21 : decode cX9_status 21 = .ok (.aload_n 0, 1) := by decide +kernel
theorem dX9_status_22 : decode cX9_status 22 = .ok (.iconst (-1), 1) := by decide +kernel
theorem dX9_status_23 : decode cX9_status 23 = .ok (.invokevirtual 64, 3) := by decide +kernel
theorem dX9_status_26 : decode cX9_status 26 = .ok (.ireturn, 1) := by decide +kernel
theorem dX9_manyQuarrels_0 : decode cX9_manyQuarrels 0 = .ok (.iconst 0, 1) := by decide +kernel
theorem dX9_manyQuarrels_1 : decode cX9_manyQuarrels 1 = .ok (.istore_n 1, 1) := by decide +kernel
theorem dX9_manyQuarrels_2 : decode cX9_manyQuarrels 2 = .ok (.iconst 0, 1) := by decide +kernel
theorem dX9_manyQuarrels_3 : decode cX9_manyQuarrels 3 = .ok (.istore_n 2, 1) := by decide +kernel
theorem dX9_manyQuarrels_4 : decode cX9_manyQuarrels 4 = .ok (.iload_n 2, 1) := by decide +kernel
theorem dX9_manyQuarrels_5 : decode cX9_manyQuarrels 5 = .ok (.aload_n 0, 1) := by decide +kernel
theorem dX9_manyQuarrels_6 : decode cX9_manyQuarrels 6 = .ok (.invokevirtual 52, 3) := by decide +kernel
theorem dX9_manyQuarrels_9 : decode cX9_manyQuarrels 9 = .ok (.if_icmp .ge 24, 3) := by decide +kernel
theorem dX9_manyQuarrels_12 : decode cX9_manyQuarrels 12 = .ok (.iload_n 1, 1) := by decide +kernel
theorem dX9_manyQuarrels_13 : decode cX9_manyQuarrels 13 = .ok (.aload_n 0, 1) := by decide +kernel
theorem dX9_manyQuarrels_14 : decode cX9_manyQuarrels 14 = .ok (.getfield 7, 3) := by decide +kernel
theorem dX9_manyQuarrels_17 : decode cX9_manyQuarrels 17 = .ok (.bipush 47, 2) := by decide +kernel
theorem dX9_manyQuarrels_19 : decode cX9_manyQuarrels 19 = .ok (.iload_n 2, 1) := by decide +kernel
theorem dX9_manyQuarrels_20 : decode cX9_manyQuarrels 20 = .ok (.iadd, 1) := by decide +kernel
theorem dX9_manyQuarrels_21 : decode cX9_manyQuarrels 21 = .ok (.iaload, 1) := by decide +kernel
theorem dX9_manyQuarrels_22 : decode cX9_manyQuarrels 22 = .ok (.invokestatic 105, 3) := by decide +kernel
theorem dX9_manyQuarrels_25 : decode cX9_manyQuarrels 25 = .ok (.iadd, 1) := by decide +kernel
theorem dX9_manyQuarrels_26 : decode cX9_manyQuarrels 26 = .ok (.istore_n 1, 1) := by decide +kernel
theorem dX9_manyQuarrels_27 : decode cX9_manyQuarrels 27 = .ok (.iinc 2 1, 3) := by decide +kernel
theorem dX9_manyQuarrels_30 : decode cX9_manyQuarrels 30 = .ok (.goto (-26), 3) := by decide +kernel
theorem dX9_manyQuarrels_33 : decode cX9_manyQuarrels 33 = .ok (.iload_n 1, 1) := by decide +kernel
theorem dX9_manyQuarrels_34 : decode cX9_manyQuarrels 34 = .ok (.iconst 2, 1) := by decide +kernel
theorem dX9_manyQuarrels_35 : decode cX9_manyQuarrels 35 = .ok (.idiv, 1) := by decide +kernel
theorem dX9_manyQuarrels_36 : decode cX9_manyQuarrels 36 = .ok (.ireturn, 1) := by decide +kernel
theorem dX9_manyBridges_0 : decode cX9_manyBridges 0 = .ok (.iconst 0, 1) := by decide +kernel
theorem dX9_manyBridges_1 : decode cX9_manyBridges 1 = .ok (.istore_n 1, 1) := by decide +kernel
theorem dX9_manyBridges_2 : decode cX9_manyBridges 2 = .ok (.iconst 0, 1) := by decide +kernel
theorem dX9_manyBridges_3 : decode cX9_manyBridges 3 = .ok (.istore_n 2, 1) := by decide +kernel
theorem dX9_manyBridges_4 : decode cX9_manyBridges 4 = .ok (.iload_n 2, 1) := by decide +kernel
theorem dX9_manyBridges_5 : decode cX9_manyBridges 5 = .ok (.bipush 10, 2) := by decide +kernel
theorem dX9_manyBridges_7 : decode cX9_manyBridges 7 = .ok (.if_icmp .ge 29, 3) := by decide +kernel
theorem dX9_manyBridges_10 : decode cX9_manyBridges 10 = .ok (.iload_n 1, 1) := by decide +kernel
theorem dX9_manyBridges_11 : decode cX9_manyBridges 11 = .ok (.aload_n 0, 1) := by decide +kernel
theorem dX9_manyBridges_12 : decode cX9_manyBridges 12 = .ok (.getfield 7, 3) := by decide +kernel
theorem dX9_manyBridges_15 : decode cX9_manyBridges 15 = .ok (.bipush 9, 2) := by decide +kernel
theorem dX9_manyBridges_17 : decode cX9_manyBridges 17 = .ok (.iload_n 2, 1) := by decide +kernel
theorem dX9_manyBridges_18 : decode cX9_manyBridges 18 = .ok (.iadd, 1) := by decide +kernel
theorem dX9_manyBridges_19 : decode cX9_manyBridges 19 = .ok (.iaload, 1) := by decide +kernel
theorem dX9_manyBridges_20 : decode cX9_manyBridges 20 = .ok (.ifCond .le 7, 3) := by decide +kernel
theorem dX9_manyBridges_23 : decode cX9_manyBridges 23 = .ok (.iconst 1, 1) := by decide +kernel
theorem dX9_manyBridges_24 : decode cX9_manyBridges 24 = .ok (.goto 4, 3) := by decide +kernel
theorem dX9_manyBridges_27 : decode cX9_manyBridges 27 = .ok (.iconst 0, 1) := by decide +kernel
theorem dX9_manyBridges_28 : decode cX9_manyBridges 28 = .ok (.iadd, 1) := by decide +kernel
theorem dX9_manyBridges_29 : decode cX9_manyBridges 29 = .ok (.istore_n 1, 1) := by decide +kernel
theorem dX9_manyBridges_30 : decode cX9_manyBridges 30 = .ok (.iinc 2 1, 3) := by decide +kernel
theorem dX9_manyBridges_33 : decode cX9_manyBridges 33 = .ok (.goto (-29), 3) := by decide +kernel
theorem dX9_manyBridges_36 : decode cX9_manyBridges 36 = .ok (.iload_n 1, 1) := by decide +kernel
theorem dX9_manyBridges_37 : decode cX9_manyBridges 37 = .ok (.ireturn, 1) := by decide +kernel
theorem dX9_counted_0 : decode cX9_counted 0 = .ok (.iload_n 1, 1) := by decide +kernel
theorem dX9_counted_1 : decode cX9_counted 1 = .ok (.tableswitch 76 0 5 #[39, 44, 52, 57, 62, 69], 39) := by decide +kernel
theorem dX9_counted_40 : decode cX9_counted 40 = .ok (.aload_n 0, 1) := by decide +kernel
theorem dX9_counted_41 : decode cX9_counted 41 = .ok (.invokevirtual 52, 3) := by decide +kernel
theorem dX9_counted_44 : decode cX9_counted 44 = .ok (.ireturn, 1) := by decide +kernel
theorem dX9_counted_45 : decode cX9_counted 45 = .ok (.aload_n 0, 1) := by decide +kernel
theorem dX9_counted_46 : decode cX9_counted 46 = .ok (.getfield 7, 3) := by decide +kernel
theorem dX9_counted_49 : decode cX9_counted 49 = .ok (.bipush 8, 2) := by decide +kernel
theorem dX9_counted_51 : decode cX9_counted 51 = .ok (.iaload, 1) := by decide +kernel
theorem dX9_counted_52 : decode cX9_counted 52 = .ok (.ireturn, 1) := by decide +kernel
theorem dX9_counted_53 : decode cX9_counted 53 = .ok (.aload_n 0, 1) := by decide +kernel
theorem dX9_counted_54 : decode cX9_counted 54 = .ok (.invokevirtual 253, 3) := by decide +kernel
theorem dX9_counted_57 : decode cX9_counted 57 = .ok (.ireturn, 1) := by decide +kernel
theorem dX9_counted_58 : decode cX9_counted 58 = .ok (.aload_n 0, 1) := by decide +kernel
theorem dX9_counted_59 : decode cX9_counted 59 = .ok (.invokevirtual 256, 3) := by decide +kernel
theorem dX9_counted_62 : decode cX9_counted 62 = .ok (.ireturn, 1) := by decide +kernel
theorem dX9_counted_63 : decode cX9_counted 63 = .ok (.aload_n 0, 1) := by decide +kernel
theorem dX9_counted_64 : decode cX9_counted 64 = .ok (.getfield 7, 3) := by decide +kernel
theorem dX9_counted_67 : decode cX9_counted 67 = .ok (.iconst 1, 1) := by decide +kernel
theorem dX9_counted_68 : decode cX9_counted 68 = .ok (.iaload, 1) := by decide +kernel
theorem dX9_counted_69 : decode cX9_counted 69 = .ok (.ireturn, 1) := by decide +kernel
theorem dX9_counted_70 : decode cX9_counted 70 = .ok (.aload_n 0, 1) := by decide +kernel
theorem dX9_counted_71 : decode cX9_counted 71 = .ok (.getfield 7, 3) := by decide +kernel
theorem dX9_counted_74 : decode cX9_counted 74 = .ok (.iconst 2, 1) := by decide +kernel
theorem dX9_counted_75 : decode cX9_counted 75 = .ok (.iaload, 1) := by decide +kernel
theorem dX9_counted_76 : decode cX9_counted 76 = .ok (.ireturn, 1) := by decide +kernel
theorem dX9_counted_77 : decode cX9_counted 77 = .ok (.aload_n 0, 1) := by decide +kernel
theorem dX9_counted_78 : decode cX9_counted 78 = .ok (.getfield 191, 3) := by decide +kernel
theorem dX9_counted_81 : decode cX9_counted 81 = .ok (.ireturn, 1) := by decide +kernel
theorem dX9_count_0 : decode cX9_count 0 = .ok (.iload_n 1, 1) := by decide +kernel
theorem dX9_count_1 : decode cX9_count 1 = .ok (.i2l, 1) := by decide +kernel
theorem dX9_count_2 : decode cX9_count 2 = .ok (.lconst 0, 1) := by decide +kernel
theorem dX9_count_3 : decode cX9_count 3 = .ok (.ldc2_w 259, 3) := by decide +kernel
theorem dX9_count_6 : decode cX9_count 6 = .ok (.invokestatic 56, 3) := by decide +kernel
theorem dX9_count_9 : decode cX9_count 9 = .ok (.ifCond .eq 11, 3) := by decide +kernel
theorem dX9_count_12 : decode cX9_count 12 = .ok (.aload_n 0, 1) := by decide +kernel
theorem dX9_count_13 : decode cX9_count 13 = .ok (.iload_n 1, 1) := by decide +kernel
theorem dX9_count_14 : decode cX9_count 14 = .ok (.invokevirtual 261, 3) := by decide +kernel
theorem dX9_count_17 : decode cX9_count 17 = .ok (.goto 9, 3) := by decide +kernel
theorem dX9_count_20 : decode cX9_count 20 = .ok (.aload_n 0, 1) := by decide +kernel
theorem dX9_count_21 : decode cX9_count 21 = .ok (.bipush (-2), 2) := by decide +kernel
theorem dX9_count_23 : decode cX9_count 23 = .ok (.invokevirtual 64, 3) := by decide +kernel
theorem dX9_count_26 : decode cX9_count 26 = .ok (.ireturn, 1) := by decide +kernel
theorem dX9_sums_0 : decode cX9_sums 0 = .ok (.lload_n 1, 1) := by decide +kernel
theorem dX9_sums_1 : decode cX9_sums 1 = .ok (.lstore 5, 2) := by decide +kernel
theorem dX9_sums_3 : decode cX9_sums 3 = .ok (.iconst 0, 1) := by decide +kernel
theorem dX9_sums_4 : decode cX9_sums 4 = .ok (.istore 7, 2) := by decide +kernel
theorem dX9_sums_6 : decode cX9_sums 6 = .ok (.iload 7, 2) := by decide +kernel
theorem dX9_sums_8 : decode cX9_sums 8 = .ok (.iload 4, 2) := by decide +kernel
theorem dX9_sums_10 : decode cX9_sums 10 = .ok (.if_icmp .ge 28, 3) := by decide +kernel
theorem dX9_sums_13 : decode cX9_sums 13 = .ok (.ldc2_w 264, 3) := by decide +kernel
theorem dX9_sums_16 : decode cX9_sums 16 = .ok (.lload 5, 2) := by decide +kernel
theorem dX9_sums_18 : decode cX9_sums 18 = .ok (.lmul, 1) := by decide +kernel
theorem dX9_sums_19 : decode cX9_sums 19 = .ok (.aload_n 0, 1) := by decide +kernel
theorem dX9_sums_20 : decode cX9_sums 20 = .ok (.getfield 7, 3) := by decide +kernel
theorem dX9_sums_23 : decode cX9_sums 23 = .ok (.iload_n 3, 1) := by decide +kernel
theorem dX9_sums_24 : decode cX9_sums 24 = .ok (.iload 7, 2) := by decide +kernel
theorem dX9_sums_26 : decode cX9_sums 26 = .ok (.iadd, 1) := by decide +kernel
theorem dX9_sums_27 : decode cX9_sums 27 = .ok (.iaload, 1) := by decide +kernel
theorem dX9_sums_28 : decode cX9_sums 28 = .ok (.i2l, 1) := by decide +kernel
theorem dX9_sums_29 : decode cX9_sums 29 = .ok (.ladd, 1) := by decide +kernel
theorem dX9_sums_30 : decode cX9_sums 30 = .ok (.lstore 5, 2) := by decide +kernel
theorem dX9_sums_32 : decode cX9_sums 32 = .ok (.iinc 7 1, 3) := by decide +kernel
theorem dX9_sums_35 : decode cX9_sums 35 = .ok (.goto (-29), 3) := by decide +kernel
theorem dX9_sums_38 : decode cX9_sums 38 = .ok (.lload 5, 2) := by decide +kernel
theorem dX9_sums_40 : decode cX9_sums 40 = .ok (.lreturn, 1) := by decide +kernel
theorem dX9_digest_0 : decode cX9_digest 0 = .ok (.ldc2_w 266, 3) := by decide +kernel
theorem dX9_digest_3 : decode cX9_digest 3 = .ok (.lstore_n 1, 1) := by decide +kernel
theorem dX9_digest_4 : decode cX9_digest 4 = .ok (.iconst 0, 1) := by decide +kernel
theorem dX9_digest_5 : decode cX9_digest 5 = .ok (.istore_n 3, 1) := by decide +kernel
theorem dX9_digest_6 : decode cX9_digest 6 = .ok (.iload_n 3, 1) := by decide +kernel
theorem dX9_digest_7 : decode cX9_digest 7 = .ok (.bipush 7, 2) := by decide +kernel
theorem dX9_digest_9 : decode cX9_digest 9 = .ok (.if_icmp .ge 22, 3) := by decide +kernel
theorem dX9_digest_12 : decode cX9_digest 12 = .ok (.ldc2_w 264, 3) := by decide +kernel
theorem dX9_digest_15 : decode cX9_digest 15 = .ok (.lload_n 1, 1) := by decide +kernel
theorem dX9_digest_16 : decode cX9_digest 16 = .ok (.lmul, 1) := by decide +kernel
theorem dX9_digest_17 : decode cX9_digest 17 = .ok (.aload_n 0, 1) := by decide +kernel
theorem dX9_digest_18 : decode cX9_digest 18 = .ok (.iload_n 3, 1) := by decide +kernel
theorem dX9_digest_19 : decode cX9_digest 19 = .ok (.invokevirtual 261, 3) := by decide +kernel
theorem dX9_digest_22 : decode cX9_digest 22 = .ok (.i2l, 1) := by decide +kernel
theorem dX9_digest_23 : decode cX9_digest 23 = .ok (.ladd, 1) := by decide +kernel
theorem dX9_digest_24 : decode cX9_digest 24 = .ok (.lstore_n 1, 1) := by decide +kernel
theorem dX9_digest_25 : decode cX9_digest 25 = .ok (.iinc 3 1, 3) := by decide +kernel
theorem dX9_digest_28 : decode cX9_digest 28 = .ok (.goto (-22), 3) := by decide +kernel
theorem dX9_digest_31 : decode cX9_digest 31 = .ok (.aload_n 0, 1) := by decide +kernel
theorem dX9_digest_32 : decode cX9_digest 32 = .ok (.lload_n 1, 1) := by decide +kernel
theorem dX9_digest_33 : decode cX9_digest 33 = .ok (.iconst 3, 1) := by decide +kernel
theorem dX9_digest_34 : decode cX9_digest 34 = .ok (.iconst 5, 1) := by decide +kernel
theorem dX9_digest_35 : decode cX9_digest 35 = .ok (.invokevirtual 268, 3) := by decide +kernel
theorem dX9_digest_38 : decode cX9_digest 38 = .ok (.lstore_n 1, 1) := by decide +kernel
theorem dX9_digest_39 : decode cX9_digest 39 = .ok (.aload_n 0, 1) := by decide +kernel
theorem dX9_digest_40 : decode cX9_digest 40 = .ok (.lload_n 1, 1) := by decide +kernel
theorem dX9_digest_41 : decode cX9_digest 41 = .ok (.bipush 9, 2) := by decide +kernel
theorem dX9_digest_43 : decode cX9_digest 43 = .ok (.bipush 10, 2) := by decide +kernel
theorem dX9_digest_45 : decode cX9_digest 45 = .ok (.invokevirtual 268, 3) := by decide +kernel
theorem dX9_digest_48 : decode cX9_digest 48 = .ok (.lstore_n 1, 1) := by decide +kernel
theorem dX9_digest_49 : decode cX9_digest 49 = .ok (.iconst 0, 1) := by decide +kernel
theorem dX9_digest_50 : decode cX9_digest 50 = .ok (.istore_n 3, 1) := by decide +kernel
theorem dX9_digest_51 : decode cX9_digest 51 = .ok (.iload_n 3, 1) := by decide +kernel
theorem dX9_digest_52 : decode cX9_digest 52 = .ok (.aload_n 0, 1) := by decide +kernel
theorem dX9_digest_53 : decode cX9_digest 53 = .ok (.invokevirtual 52, 3) := by decide +kernel
theorem dX9_digest_56 : decode cX9_digest 56 = .ok (.if_icmp .ge 88, 3) := by decide +kernel
theorem dX9_digest_59 : decode cX9_digest 59 = .ok (.ldc2_w 264, 3) := by decide +kernel
theorem dX9_digest_62 : decode cX9_digest 62 = .ok (.ldc2_w 264, 3) := by decide +kernel
theorem dX9_digest_65 : decode cX9_digest 65 = .ok (.lload_n 1, 1) := by decide +kernel
theorem dX9_digest_66 : decode cX9_digest 66 = .ok (.lmul, 1) := by decide +kernel
theorem dX9_digest_67 : decode cX9_digest 67 = .ok (.aload_n 0, 1) := by decide +kernel
theorem dX9_digest_68 : decode cX9_digest 68 = .ok (.getfield 7, 3) := by decide +kernel
theorem dX9_digest_71 : decode cX9_digest 71 = .ok (.bipush 19, 2) := by decide +kernel
theorem dX9_digest_73 : decode cX9_digest 73 = .ok (.iload_n 3, 1) := by decide +kernel
theorem dX9_digest_74 : decode cX9_digest 74 = .ok (.iadd, 1) := by decide +kernel
theorem dX9_digest_75 : decode cX9_digest 75 = .ok (.iaload, 1) := by decide +kernel
theorem dX9_digest_76 : decode cX9_digest 76 = .ok (.i2l, 1) := by decide +kernel
theorem dX9_digest_77 : decode cX9_digest 77 = .ok (.ladd, 1) := by decide +kernel
theorem dX9_digest_78 : decode cX9_digest 78 = .ok (.lmul, 1) := by decide +kernel
theorem dX9_digest_79 : decode cX9_digest 79 = .ok (.aload_n 0, 1) := by decide +kernel
theorem dX9_digest_80 : decode cX9_digest 80 = .ok (.getfield 7, 3) := by decide +kernel
theorem dX9_digest_83 : decode cX9_digest 83 = .ok (.bipush 26, 2) := by decide +kernel
theorem dX9_digest_85 : decode cX9_digest 85 = .ok (.iload_n 3, 1) := by decide +kernel
theorem dX9_digest_86 : decode cX9_digest 86 = .ok (.iadd, 1) := by decide +kernel
theorem dX9_digest_87 : decode cX9_digest 87 = .ok (.iaload, 1) := by decide +kernel
theorem dX9_digest_88 : decode cX9_digest 88 = .ok (.i2l, 1) := by decide +kernel
theorem dX9_digest_89 : decode cX9_digest 89 = .ok (.ladd, 1) := by decide +kernel
theorem dX9_digest_90 : decode cX9_digest 90 = .ok (.lstore_n 1, 1) := by decide +kernel
theorem dX9_digest_91 : decode cX9_digest 91 = .ok (.ldc2_w 264, 3) := by decide +kernel
theorem dX9_digest_94 : decode cX9_digest 94 = .ok (.ldc2_w 264, 3) := by decide +kernel
theorem dX9_digest_97 : decode cX9_digest 97 = .ok (.ldc2_w 264, 3) := by decide +kernel
theorem dX9_digest_100 : decode cX9_digest 100 = .ok (.lload_n 1, 1) := by decide +kernel
theorem dX9_digest_101 : decode cX9_digest 101 = .ok (.lmul, 1) := by decide +kernel
theorem dX9_digest_102 : decode cX9_digest 102 = .ok (.aload_n 0, 1) := by decide +kernel
theorem dX9_digest_103 : decode cX9_digest 103 = .ok (.getfield 7, 3) := by decide +kernel
theorem dX9_digest_106 : decode cX9_digest 106 = .ok (.bipush 33, 2) := by decide +kernel
theorem dX9_digest_108 : decode cX9_digest 108 = .ok (.iload_n 3, 1) := by decide +kernel
theorem dX9_digest_109 : decode cX9_digest 109 = .ok (.iadd, 1) := by decide +kernel
theorem dX9_digest_110 : decode cX9_digest 110 = .ok (.iaload, 1) := by decide +kernel
theorem dX9_digest_111 : decode cX9_digest 111 = .ok (.i2l, 1) := by decide +kernel
theorem dX9_digest_112 : decode cX9_digest 112 = .ok (.ladd, 1) := by decide +kernel
theorem dX9_digest_113 : decode cX9_digest 113 = .ok (.lmul, 1) := by decide +kernel
theorem dX9_digest_114 : decode cX9_digest 114 = .ok (.aload_n 0, 1) := by decide +kernel
theorem dX9_digest_115 : decode cX9_digest 115 = .ok (.getfield 7, 3) := by decide +kernel
theorem dX9_digest_118 : decode cX9_digest 118 = .ok (.bipush 40, 2) := by decide +kernel
theorem dX9_digest_120 : decode cX9_digest 120 = .ok (.iload_n 3, 1) := by decide +kernel
theorem dX9_digest_121 : decode cX9_digest 121 = .ok (.iadd, 1) := by decide +kernel
theorem dX9_digest_122 : decode cX9_digest 122 = .ok (.iaload, 1) := by decide +kernel
theorem dX9_digest_123 : decode cX9_digest 123 = .ok (.i2l, 1) := by decide +kernel
theorem dX9_digest_124 : decode cX9_digest 124 = .ok (.ladd, 1) := by decide +kernel
theorem dX9_digest_125 : decode cX9_digest 125 = .ok (.lmul, 1) := by decide +kernel
theorem dX9_digest_126 : decode cX9_digest 126 = .ok (.aload_n 0, 1) := by decide +kernel
theorem dX9_digest_127 : decode cX9_digest 127 = .ok (.getfield 7, 3) := by decide +kernel
theorem dX9_digest_130 : decode cX9_digest 130 = .ok (.bipush 47, 2) := by decide +kernel
theorem dX9_digest_132 : decode cX9_digest 132 = .ok (.iload_n 3, 1) := by decide +kernel
theorem dX9_digest_133 : decode cX9_digest 133 = .ok (.iadd, 1) := by decide +kernel
theorem dX9_digest_134 : decode cX9_digest 134 = .ok (.iaload, 1) := by decide +kernel
theorem dX9_digest_135 : decode cX9_digest 135 = .ok (.i2l, 1) := by decide +kernel
theorem dX9_digest_136 : decode cX9_digest 136 = .ok (.ladd, 1) := by decide +kernel
theorem dX9_digest_137 : decode cX9_digest 137 = .ok (.lstore_n 1, 1) := by decide +kernel
theorem dX9_digest_138 : decode cX9_digest 138 = .ok (.iinc 3 1, 3) := by decide +kernel
theorem dX9_digest_141 : decode cX9_digest 141 = .ok (.goto (-90), 3) := by decide +kernel
theorem dX9_digest_144 : decode cX9_digest 144 = .ok (.aload_n 0, 1) := by decide +kernel
theorem dX9_digest_145 : decode cX9_digest 145 = .ok (.lload_n 1, 1) := by decide +kernel
theorem dX9_digest_146 : decode cX9_digest 146 = .ok (.bipush 54, 2) := by decide +kernel
theorem dX9_digest_148 : decode cX9_digest 148 = .ok (.iconst 4, 1) := by decide +kernel
theorem dX9_digest_149 : decode cX9_digest 149 = .ok (.aload_n 0, 1) := by decide +kernel
theorem dX9_digest_150 : decode cX9_digest 150 = .ok (.getfield 7, 3) := by decide +kernel
theorem dX9_digest_153 : decode cX9_digest 153 = .ok (.iconst 1, 1) := by decide +kernel
theorem dX9_digest_154 : decode cX9_digest 154 = .ok (.iaload, 1) := by decide +kernel
theorem dX9_digest_155 : decode cX9_digest 155 = .ok (.imul, 1) := by decide +kernel
theorem dX9_digest_156 : decode cX9_digest 156 = .ok (.invokevirtual 268, 3) := by decide +kernel
theorem dX9_digest_159 : decode cX9_digest 159 = .ok (.lstore_n 1, 1) := by decide +kernel
theorem dX9_digest_160 : decode cX9_digest 160 = .ok (.ldc2_w 264, 3) := by decide +kernel
theorem dX9_digest_163 : decode cX9_digest 163 = .ok (.ldc2_w 264, 3) := by decide +kernel
theorem dX9_digest_166 : decode cX9_digest 166 = .ok (.lload_n 1, 1) := by decide +kernel
theorem dX9_digest_167 : decode cX9_digest 167 = .ok (.lmul, 1) := by decide +kernel
theorem dX9_digest_168 : decode cX9_digest 168 = .ok (.aload_n 0, 1) := by decide +kernel
theorem dX9_digest_169 : decode cX9_digest 169 = .ok (.getfield 159, 3) := by decide +kernel
theorem dX9_digest_172 : decode cX9_digest 172 = .ok (.ladd, 1) := by decide +kernel
theorem dX9_digest_173 : decode cX9_digest 173 = .ok (.lmul, 1) := by decide +kernel
theorem dX9_digest_174 : decode cX9_digest 174 = .ok (.aload_n 0, 1) := by decide +kernel
theorem dX9_digest_175 : decode cX9_digest 175 = .ok (.getfield 23, 3) := by decide +kernel
theorem dX9_digest_178 : decode cX9_digest 178 = .ok (.ladd, 1) := by decide +kernel
theorem dX9_digest_179 : decode cX9_digest 179 = .ok (.lreturn, 1) := by decide +kernel
theorem dJ6_bitCount_0f7a4_0 : decode cJ6_bitCount_0f7a4 0 = .ok (.iload_n 0, 1) := by decide +kernel
theorem dJ6_bitCount_0f7a4_1 : decode cJ6_bitCount_0f7a4 1 = .ok (.iload_n 0, 1) := by decide +kernel
theorem dJ6_bitCount_0f7a4_2 : decode cJ6_bitCount_0f7a4 2 = .ok (.iconst 1, 1) := by decide +kernel
theorem dJ6_bitCount_0f7a4_3 : decode cJ6_bitCount_0f7a4 3 = .ok (.iushr, 1) := by decide +kernel
theorem dJ6_bitCount_0f7a4_4 : decode cJ6_bitCount_0f7a4 4 = .ok (.ldc_w 265, 3) := by decide +kernel
theorem dJ6_bitCount_0f7a4_7 : decode cJ6_bitCount_0f7a4 7 = .ok (.iand, 1) := by decide +kernel
theorem dJ6_bitCount_0f7a4_8 : decode cJ6_bitCount_0f7a4 8 = .ok (.isub, 1) := by decide +kernel
theorem dJ6_bitCount_0f7a4_9 : decode cJ6_bitCount_0f7a4 9 = .ok (.istore_n 0, 1) := by decide +kernel
theorem dJ6_bitCount_0f7a4_10 : decode cJ6_bitCount_0f7a4 10 = .ok (.iload_n 0, 1) := by decide +kernel
theorem dJ6_bitCount_0f7a4_11 : decode cJ6_bitCount_0f7a4 11 = .ok (.ldc_w 266, 3) := by decide +kernel
theorem dJ6_bitCount_0f7a4_14 : decode cJ6_bitCount_0f7a4 14 = .ok (.iand, 1) := by decide +kernel
theorem dJ6_bitCount_0f7a4_15 : decode cJ6_bitCount_0f7a4 15 = .ok (.iload_n 0, 1) := by decide +kernel
theorem dJ6_bitCount_0f7a4_16 : decode cJ6_bitCount_0f7a4 16 = .ok (.iconst 2, 1) := by decide +kernel
theorem dJ6_bitCount_0f7a4_17 : decode cJ6_bitCount_0f7a4 17 = .ok (.iushr, 1) := by decide +kernel
theorem dJ6_bitCount_0f7a4_18 : decode cJ6_bitCount_0f7a4 18 = .ok (.ldc_w 266, 3) := by decide +kernel
theorem dJ6_bitCount_0f7a4_21 : decode cJ6_bitCount_0f7a4 21 = .ok (.iand, 1) := by decide +kernel
theorem dJ6_bitCount_0f7a4_22 : decode cJ6_bitCount_0f7a4 22 = .ok (.iadd, 1) := by decide +kernel
theorem dJ6_bitCount_0f7a4_23 : decode cJ6_bitCount_0f7a4 23 = .ok (.istore_n 0, 1) := by decide +kernel
theorem dJ6_bitCount_0f7a4_24 : decode cJ6_bitCount_0f7a4 24 = .ok (.iload_n 0, 1) := by decide +kernel
theorem dJ6_bitCount_0f7a4_25 : decode cJ6_bitCount_0f7a4 25 = .ok (.iload_n 0, 1) := by decide +kernel
theorem dJ6_bitCount_0f7a4_26 : decode cJ6_bitCount_0f7a4 26 = .ok (.iconst 4, 1) := by decide +kernel
theorem dJ6_bitCount_0f7a4_27 : decode cJ6_bitCount_0f7a4 27 = .ok (.iushr, 1) := by decide +kernel
theorem dJ6_bitCount_0f7a4_28 : decode cJ6_bitCount_0f7a4 28 = .ok (.iadd, 1) := by decide +kernel
theorem dJ6_bitCount_0f7a4_29 : decode cJ6_bitCount_0f7a4 29 = .ok (.ldc_w 267, 3) := by decide +kernel
theorem dJ6_bitCount_0f7a4_32 : decode cJ6_bitCount_0f7a4 32 = .ok (.iand, 1) := by decide +kernel
theorem dJ6_bitCount_0f7a4_33 : decode cJ6_bitCount_0f7a4 33 = .ok (.istore_n 0, 1) := by decide +kernel
theorem dJ6_bitCount_0f7a4_34 : decode cJ6_bitCount_0f7a4 34 = .ok (.iload_n 0, 1) := by decide +kernel
theorem dJ6_bitCount_0f7a4_35 : decode cJ6_bitCount_0f7a4 35 = .ok (.iload_n 0, 1) := by decide +kernel
theorem dJ6_bitCount_0f7a4_36 : decode cJ6_bitCount_0f7a4 36 = .ok (.bipush 8, 2) := by decide +kernel
theorem dJ6_bitCount_0f7a4_38 : decode cJ6_bitCount_0f7a4 38 = .ok (.iushr, 1) := by decide +kernel
theorem dJ6_bitCount_0f7a4_39 : decode cJ6_bitCount_0f7a4 39 = .ok (.iadd, 1) := by decide +kernel
theorem dJ6_bitCount_0f7a4_40 : decode cJ6_bitCount_0f7a4 40 = .ok (.istore_n 0, 1) := by decide +kernel
theorem dJ6_bitCount_0f7a4_41 : decode cJ6_bitCount_0f7a4 41 = .ok (.iload_n 0, 1) := by decide +kernel
theorem dJ6_bitCount_0f7a4_42 : decode cJ6_bitCount_0f7a4 42 = .ok (.iload_n 0, 1) := by decide +kernel
theorem dJ6_bitCount_0f7a4_43 : decode cJ6_bitCount_0f7a4 43 = .ok (.bipush 16, 2) := by decide +kernel
theorem dJ6_bitCount_0f7a4_45 : decode cJ6_bitCount_0f7a4 45 = .ok (.iushr, 1) := by decide +kernel
theorem dJ6_bitCount_0f7a4_46 : decode cJ6_bitCount_0f7a4 46 = .ok (.iadd, 1) := by decide +kernel
theorem dJ6_bitCount_0f7a4_47 : decode cJ6_bitCount_0f7a4 47 = .ok (.istore_n 0, 1) := by decide +kernel
theorem dJ6_bitCount_0f7a4_48 : decode cJ6_bitCount_0f7a4 48 = .ok (.iload_n 0, 1) := by decide +kernel
theorem dJ6_bitCount_0f7a4_49 : decode cJ6_bitCount_0f7a4 49 = .ok (.bipush 63, 2) := by decide +kernel
theorem dJ6_bitCount_0f7a4_51 : decode cJ6_bitCount_0f7a4 51 = .ok (.iand, 1) := by decide +kernel
theorem dJ6_bitCount_0f7a4_52 : decode cJ6_bitCount_0f7a4 52 = .ok (.ireturn, 1) := by decide +kernel
theorem dJ9_max_7cf53_0 : decode cJ9_max_7cf53 0 = .ok (.iload_n 0, 1) := by decide +kernel
theorem dJ9_max_7cf53_1 : decode cJ9_max_7cf53 1 = .ok (.iload_n 1, 1) := by decide +kernel
theorem dJ9_max_7cf53_2 : decode cJ9_max_7cf53 2 = .ok (.if_icmp .lt 7, 3) := by decide +kernel
theorem dJ9_max_7cf53_5 : decode cJ9_max_7cf53 5 = .ok (.iload_n 0, 1) := by decide +kernel
theorem dJ9_max_7cf53_6 : decode cJ9_max_7cf53 6 = .ok (.goto 4, 3) := by decide +kernel
theorem dJ9_max_7cf53_9 : decode cJ9_max_7cf53 9 = .ok (.iload_n 1, 1) := by decide +kernel
theorem dJ9_max_7cf53_10 : decode cJ9_max_7cf53 10 = .ok (.ireturn, 1) := by decide +kernel
theorem dJ9_min_7cf53_0 : decode cJ9_min_7cf53 0 = .ok (.iload_n 0, 1) := by decide +kernel
theorem dJ9_min_7cf53_1 : decode cJ9_min_7cf53 1 = .ok (.iload_n 1, 1) := by decide +kernel
theorem dJ9_min_7cf53_2 : decode cJ9_min_7cf53 2 = .ok (.if_icmp .gt 7, 3) := by decide +kernel
theorem dJ9_min_7cf53_5 : decode cJ9_min_7cf53 5 = .ok (.iload_n 0, 1) := by decide +kernel
theorem dJ9_min_7cf53_6 : decode cJ9_min_7cf53 6 = .ok (.goto 4, 3) := by decide +kernel
theorem dJ9_min_7cf53_9 : decode cJ9_min_7cf53 9 = .ok (.iload_n 1, 1) := by decide +kernel
theorem dJ9_min_7cf53_10 : decode cJ9_min_7cf53 10 = .ok (.ireturn, 1) := by decide +kernel
theorem dJ0_length_8abf5_0 : decode cJ0_length_8abf5 0 = .ok (.aload_n 0, 1) := by decide +kernel
theorem dJ0_length_8abf5_1 : decode cJ0_length_8abf5 1 = .ok (.getfield 9, 3) := by decide +kernel
theorem dJ0_length_8abf5_4 : decode cJ0_length_8abf5 4 = .ok (.arraylength, 1) := by decide +kernel
theorem dJ0_length_8abf5_5 : decode cJ0_length_8abf5 5 = .ok (.aload_n 0, 1) := by decide +kernel
theorem dJ0_length_8abf5_6 : decode cJ0_length_8abf5 6 = .ok (.invokevirtual 335, 3) := by decide +kernel
theorem dJ0_length_8abf5_9 : decode cJ0_length_8abf5 9 = .ok (.ishr, 1) := by decide +kernel
theorem dJ0_length_8abf5_10 : decode cJ0_length_8abf5 10 = .ok (.ireturn, 1) := by decide +kernel
theorem dJ0_charAt_5068e_0 : decode cJ0_charAt_5068e 0 = .ok (.aload_n 0, 1) := by decide +kernel
theorem dJ0_charAt_5068e_1 : decode cJ0_charAt_5068e 1 = .ok (.invokevirtual 492, 3) := by decide +kernel
theorem dJ0_charAt_5068e_4 : decode cJ0_charAt_5068e 4 = .ok (.ifCond .eq 12, 3) := by decide +kernel
theorem dJ0_charAt_5068e_7 : decode cJ0_charAt_5068e 7 = .ok (.aload_n 0, 1) := by decide +kernel
theorem dJ0_charAt_5068e_8 : decode cJ0_charAt_5068e 8 = .ok (.getfield 9, 3) := by decide +kernel
theorem dJ0_charAt_5068e_11 : decode cJ0_charAt_5068e 11 = .ok (.iload_n 1, 1) := by decide +kernel
theorem dJ0_charAt_5068e_12 : decode cJ0_charAt_5068e 12 = .ok (.invokestatic 495, 3) := by decide +kernel
theorem dJ0_charAt_5068e_15 : decode cJ0_charAt_5068e 15 = .ok (.ireturn, 1) := by decide +kernel
theorem dJ0_charAt_5068e_16 : decode cJ0_charAt_5068e 16 = .ok (.aload_n 0, 1) := by decide +kernel
theorem dJ0_charAt_5068e_17 : decode cJ0_charAt_5068e 17 = .ok (.getfield 9, 3) := by decide +kernel
theorem dJ0_charAt_5068e_20 : decode cJ0_charAt_5068e 20 = .ok (.iload_n 1, 1) := by decide +kernel
theorem dJ0_charAt_5068e_21 : decode cJ0_charAt_5068e 21 = .ok (.invokestatic 498, 3) := by decide +kernel
theorem dJ0_charAt_5068e_24 : decode cJ0_charAt_5068e 24 = .ok (.ireturn, 1) := by decide +kernel
theorem dJ0_coder_7d493_0 : decode cJ0_coder_7d493 0 = .ok (.getstatic 38, 3) := by decide +kernel
theorem dJ0_coder_7d493_3 : decode cJ0_coder_7d493 3 = .ok (.ifCond .eq 10, 3) := by decide +kernel
theorem dJ0_coder_7d493_6 : decode cJ0_coder_7d493 6 = .ok (.aload_n 0, 1) := by decide +kernel
theorem dJ0_coder_7d493_7 : decode cJ0_coder_7d493 7 = .ok (.getfield 15, 3) := by decide +kernel
theorem dJ0_coder_7d493_10 : decode cJ0_coder_7d493 10 = .ok (.goto 4, 3) := by decide +kernel
theorem dJ0_coder_7d493_13 : decode cJ0_coder_7d493 13 = .ok (.iconst 1, 1) := by decide +kernel
theorem dJ0_coder_7d493_14 : decode cJ0_coder_7d493 14 = .ok (.ireturn, 1) := by decide +kernel
theorem dJ0_isLatin1_aae02_0 : decode cJ0_isLatin1_aae02 0 = .ok (.getstatic 38, 3) := by decide +kernel
theorem dJ0_isLatin1_aae02_3 : decode cJ0_isLatin1_aae02 3 = .ok (.ifCond .eq 14, 3) := by decide +kernel
theorem dJ0_isLatin1_aae02_6 : decode cJ0_isLatin1_aae02 6 = .ok (.aload_n 0, 1) := by decide +kernel
theorem dJ0_isLatin1_aae02_7 : decode cJ0_isLatin1_aae02 7 = .ok (.getfield 15, 3) := by decide +kernel
theorem dJ0_isLatin1_aae02_10 : decode cJ0_isLatin1_aae02 10 = .ok (.ifCond .ne 7, 3) := by decide +kernel
theorem dJ0_isLatin1_aae02_13 : decode cJ0_isLatin1_aae02 13 = .ok (.iconst 1, 1) := by decide +kernel
theorem dJ0_isLatin1_aae02_14 : decode cJ0_isLatin1_aae02 14 = .ok (.goto 4, 3) := by decide +kernel
theorem dJ0_isLatin1_aae02_17 : decode cJ0_isLatin1_aae02 17 = .ok (.iconst 0, 1) := by decide +kernel
theorem dJ0_isLatin1_aae02_18 : decode cJ0_isLatin1_aae02 18 = .ok (.ireturn, 1) := by decide +kernel
theorem dJ0_checkIndex_df160_0 : decode cJ0_checkIndex_df160 0 = .ok (.iload_n 0, 1) := by decide +kernel
theorem dJ0_checkIndex_df160_1 : decode cJ0_checkIndex_df160 1 = .ok (.iload_n 1, 1) := by decide +kernel
theorem dJ0_checkIndex_df160_2 : decode cJ0_checkIndex_df160 2 = .ok (.getstatic 1053, 3) := by decide +kernel
theorem dJ0_checkIndex_df160_5 : decode cJ0_checkIndex_df160 5 = .ok (.invokestatic 1059, 3) := by decide +kernel
theorem dJ0_checkIndex_df160_8 : decode cJ0_checkIndex_df160 8 = .ok (.pop, 1) := by decide +kernel
theorem dJ0_checkIndex_df160_9 : decode cJ0_checkIndex_df160 9 = .ok (.return_, 1) := by decide +kernel
theorem dJ1_charAt_3b067_0 : decode cJ1_charAt_3b067 0 = .ok (.iload_n 1, 1) := by decide +kernel
theorem dJ1_charAt_3b067_1 : decode cJ1_charAt_3b067 1 = .ok (.aload_n 0, 1) := by decide +kernel
theorem dJ1_charAt_3b067_2 : decode cJ1_charAt_3b067 2 = .ok (.arraylength, 1) := by decide +kernel
theorem dJ1_charAt_3b067_3 : decode cJ1_charAt_3b067 3 = .ok (.invokestatic 9, 3) := by decide +kernel
theorem dJ1_charAt_3b067_6 : decode cJ1_charAt_3b067 6 = .ok (.aload_n 0, 1) := by decide +kernel
theorem dJ1_charAt_3b067_7 : decode cJ1_charAt_3b067 7 = .ok (.iload_n 1, 1) := by decide +kernel
theorem dJ1_charAt_3b067_8 : decode cJ1_charAt_3b067 8 = .ok (.baload, 1) := by decide +kernel
theorem dJ1_charAt_3b067_9 : decode cJ1_charAt_3b067 9 = .ok (.sipush 255, 3) := by decide +kernel
theorem dJ1_charAt_3b067_12 : decode cJ1_charAt_3b067 12 = .ok (.iand, 1) := by decide +kernel
theorem dJ1_charAt_3b067_13 : decode cJ1_charAt_3b067 13 = .ok (.i2c, 1) := by decide +kernel
theorem dJ1_charAt_3b067_14 : decode cJ1_charAt_3b067 14 = .ok (.ireturn, 1) := by decide +kernel
theorem dJ2_getChar_3b067_0 : decode cJ2_getChar_3b067 0 = .ok (.getstatic 44, 3) := by decide +kernel
theorem dJ2_getChar_3b067_3 : decode cJ2_getChar_3b067 3 = .ok (.ifCond .ne 25, 3) := by decide +kernel
theorem dJ2_getChar_3b067_6 : decode cJ2_getChar_3b067 6 = .ok (.iload_n 1, 1) := by decide +kernel
theorem dJ2_getChar_3b067_7 : decode cJ2_getChar_3b067 7 = .ok (.ifCond .lt 11, 3) := by decide +kernel
theorem dJ2_getChar_3b067_10 : decode cJ2_getChar_3b067 10 = .ok (.iload_n 1, 1) := by decide +kernel
theorem dJ2_getChar_3b067_11 : decode cJ2_getChar_3b067 11 = .ok (.aload_n 0, 1) := by decide +kernel
theorem dJ2_getChar_3b067_12 : decode cJ2_getChar_3b067 12 = .ok (.invokestatic 48, 3) := by decide +kernel
theorem dJ2_getChar_3b067_15 : decode cJ2_getChar_3b067 15 = .ok (.if_icmp .lt 13, 3) := by decide +kernel
theorem dJ2_getChar_3b067_18 : decode cJ2_getChar_3b067 18 = .ok (.new 52, 3) := by decide +kernel
theorem dJ2_getChar_3b067_21 : decode cJ2_getChar_3b067 21 = .ok (.dup, 1) := by decide +kernel
theorem dJ2_getChar_3b067_22 : decode cJ2_getChar_3b067 22 = .ok (.ldc 54, 2) := by decide +kernel
theorem dJ2_getChar_3b067_24 : decode cJ2_getChar_3b067 24 = .ok (.invokespecial 56, 3) := by decide +kernel
theorem dJ2_getChar_3b067_27 : decode cJ2_getChar_3b067 27 = .ok (.athrow, 1) := by decide +kernel
theorem dJ2_getChar_3b067_28 : decode cJ2_getChar_3b067 28 = .ok (.iload_n 1, 1) := by decide +kernel
theorem dJ2_getChar_3b067_29 : decode cJ2_getChar_3b067 29 = .ok (.iconst 1, 1) := by decide +kernel
theorem dJ2_getChar_3b067_30 : decode cJ2_getChar_3b067 30 = .ok (.ishl, 1) := by decide +kernel
theorem dJ2_getChar_3b067_31 : decode cJ2_getChar_3b067 31 = .ok (.istore_n 1, 1) := by decide +kernel
theorem dJ2_getChar_3b067_32 : decode cJ2_getChar_3b067 32 = .ok (.aload_n 0, 1) := by decide +kernel
theorem dJ2_getChar_3b067_33 : decode cJ2_getChar_3b067 33 = .ok (.iload_n 1, 1) := by decide +kernel
theorem dJ2_getChar_3b067_34 : decode cJ2_getChar_3b067 34 = .ok (.iinc 1 1, 3) := by decide +kernel
theorem dJ2_getChar_3b067_37 : decode cJ2_getChar_3b067 37 = .ok (.baload, 1) := by decide +kernel
theorem dJ2_getChar_3b067_38 : decode cJ2_getChar_3b067 38 = .ok (.sipush 255, 3) := by decide +kernel
theorem dJ2_getChar_3b067_41 : decode cJ2_getChar_3b067 41 = .ok (.iand, 1) := by decide +kernel
theorem dJ2_getChar_3b067_42 : decode cJ2_getChar_3b067 42 = .ok (.getstatic 59, 3) := by decide +kernel
theorem dJ2_getChar_3b067_45 : decode cJ2_getChar_3b067 45 = .ok (.ishl, 1) := by decide +kernel
theorem dJ2_getChar_3b067_46 : decode cJ2_getChar_3b067 46 = .ok (.aload_n 0, 1) := by decide +kernel
theorem dJ2_getChar_3b067_47 : decode cJ2_getChar_3b067 47 = .ok (.iload_n 1, 1) := by decide +kernel
theorem dJ2_getChar_3b067_48 : decode cJ2_getChar_3b067 48 = .ok (.baload, 1) := by decide +kernel
theorem dJ2_getChar_3b067_49 : decode cJ2_getChar_3b067 49 = .ok (.sipush 255, 3) := by decide +kernel
theorem dJ2_getChar_3b067_52 : decode cJ2_getChar_3b067 52 = .ok (.iand, 1) := by decide +kernel
theorem dJ2_getChar_3b067_53 : decode cJ2_getChar_3b067 53 = .ok (.getstatic 63, 3) := by decide +kernel
theorem dJ2_getChar_3b067_56 : decode cJ2_getChar_3b067 56 = .ok (.ishl, 1) := by decide +kernel
theorem dJ2_getChar_3b067_57 : decode cJ2_getChar_3b067 57 = .ok (.ior, 1) := by decide +kernel
theorem dJ2_getChar_3b067_58 : decode cJ2_getChar_3b067 58 = .ok (.i2c, 1) := by decide +kernel
theorem dJ2_getChar_3b067_59 : decode cJ2_getChar_3b067 59 = .ok (.ireturn, 1) := by decide +kernel
theorem dJ2_length_9d52b_0 : decode cJ2_length_9d52b 0 = .ok (.aload_n 0, 1) := by decide +kernel
theorem dJ2_length_9d52b_1 : decode cJ2_length_9d52b 1 = .ok (.arraylength, 1) := by decide +kernel
theorem dJ2_length_9d52b_2 : decode cJ2_length_9d52b 2 = .ok (.iconst 1, 1) := by decide +kernel
theorem dJ2_length_9d52b_3 : decode cJ2_length_9d52b 3 = .ok (.ishr, 1) := by decide +kernel
theorem dJ2_length_9d52b_4 : decode cJ2_length_9d52b 4 = .ok (.ireturn, 1) := by decide +kernel
theorem dJ2_charAt_3b067_0 : decode cJ2_charAt_3b067 0 = .ok (.iload_n 1, 1) := by decide +kernel
theorem dJ2_charAt_3b067_1 : decode cJ2_charAt_3b067 1 = .ok (.aload_n 0, 1) := by decide +kernel
theorem dJ2_charAt_3b067_2 : decode cJ2_charAt_3b067 2 = .ok (.invokestatic 67, 3) := by decide +kernel
theorem dJ2_charAt_3b067_5 : decode cJ2_charAt_3b067 5 = .ok (.aload_n 0, 1) := by decide +kernel
theorem dJ2_charAt_3b067_6 : decode cJ2_charAt_3b067 6 = .ok (.iload_n 1, 1) := by decide +kernel
theorem dJ2_charAt_3b067_7 : decode cJ2_charAt_3b067 7 = .ok (.invokestatic 71, 3) := by decide +kernel
theorem dJ2_charAt_3b067_10 : decode cJ2_charAt_3b067 10 = .ok (.ireturn, 1) := by decide +kernel
theorem dJ2_checkIndex_2214a_0 : decode cJ2_checkIndex_2214a 0 = .ok (.iload_n 0, 1) := by decide +kernel
theorem dJ2_checkIndex_2214a_1 : decode cJ2_checkIndex_2214a 1 = .ok (.aload_n 1, 1) := by decide +kernel
theorem dJ2_checkIndex_2214a_2 : decode cJ2_checkIndex_2214a 2 = .ok (.invokestatic 48, 3) := by decide +kernel
theorem dJ2_checkIndex_2214a_5 : decode cJ2_checkIndex_2214a 5 = .ok (.invokestatic 414, 3) := by decide +kernel
theorem dJ2_checkIndex_2214a_8 : decode cJ2_checkIndex_2214a 8 = .ok (.return_, 1) := by decide +kernel
theorem dJ3_checkIndex_8e157_0 : decode cJ3_checkIndex_8e157 0 = .ok (.iload_n 0, 1) := by decide +kernel
theorem dJ3_checkIndex_8e157_1 : decode cJ3_checkIndex_8e157 1 = .ok (.ifCond .lt 8, 3) := by decide +kernel
theorem dJ3_checkIndex_8e157_4 : decode cJ3_checkIndex_8e157 4 = .ok (.iload_n 0, 1) := by decide +kernel
theorem dJ3_checkIndex_8e157_5 : decode cJ3_checkIndex_8e157 5 = .ok (.iload_n 1, 1) := by decide +kernel
theorem dJ3_checkIndex_8e157_6 : decode cJ3_checkIndex_8e157 6 = .ok (.if_icmp .lt 10, 3) := by decide +kernel
theorem dJ3_checkIndex_8e157_9 : decode cJ3_checkIndex_8e157 9 = .ok (.aload_n 2, 1) := by decide +kernel
theorem dJ3_checkIndex_8e157_10 : decode cJ3_checkIndex_8e157 10 = .ok (.iload_n 0, 1) := by decide +kernel
theorem dJ3_checkIndex_8e157_11 : decode cJ3_checkIndex_8e157 11 = .ok (.iload_n 1, 1) := by decide +kernel
theorem dJ3_checkIndex_8e157_12 : decode cJ3_checkIndex_8e157 12 = .ok (.invokestatic 95, 3) := by decide +kernel
theorem dJ3_checkIndex_8e157_15 : decode cJ3_checkIndex_8e157 15 = .ok (.athrow, 1) := by decide +kernel
theorem dJ3_checkIndex_8e157_16 : decode cJ3_checkIndex_8e157 16 = .ok (.iload_n 0, 1) := by decide +kernel
theorem dJ3_checkIndex_8e157_17 : decode cJ3_checkIndex_8e157 17 = .ok (.ireturn, 1) := by decide +kernel
theorem dL_law_0 : decode cL_law 0 = .ok (.new 7, 3) := by decide +kernel
theorem dL_law_3 : decode cL_law 3 = .ok (.dup, 1) := by decide +kernel
theorem dL_law_4 : decode cL_law 4 = .ok (.invokespecial 9, 3) := by decide +kernel
theorem dL_law_7 : decode cL_law 7 = .ok (.astore_n 1, 1) := by decide +kernel
theorem dL_law_8 : decode cL_law 8 = .ok (.new 10, 3) := by decide +kernel
theorem dL_law_11 : decode cL_law 11 = .ok (.dup, 1) := by decide +kernel
theorem dL_law_12 : decode cL_law 12 = .ok (.invokespecial 12, 3) := by decide +kernel
theorem dL_law_15 : decode cL_law 15 = .ok (.astore_n 2, 1) := by decide +kernel
theorem dL_law_16 : decode cL_law 16 = .ok (.iconst 0, 1) := by decide +kernel
theorem dL_law_17 : decode cL_law 17 = .ok (.istore_n 3, 1) := by decide +kernel
theorem dL_law_18 : decode cL_law 18 = .ok (.iload_n 3, 1) := by decide +kernel
theorem dL_law_19 : decode cL_law 19 = .ok (.aload_n 0, 1) := by decide +kernel
theorem dL_law_20 : decode cL_law 20 = .ok (.arraylength, 1) := by decide +kernel
theorem dL_law_21 : decode cL_law 21 = .ok (.iconst 5, 1) := by decide +kernel
theorem dL_law_22 : decode cL_law 22 = .ok (.isub, 1) := by decide +kernel
theorem dL_law_23 : decode cL_law 23 = .ok (.if_icmp .gt 1061, 3) := by decide +kernel
theorem dL_law_26 : decode cL_law 26 = .ok (.aload_n 0, 1) := by decide +kernel
theorem dL_law_27 : decode cL_law 27 = .ok (.iload_n 3, 1) := by decide +kernel
theorem dL_law_28 : decode cL_law 28 = .ok (.iaload, 1) := by decide +kernel
theorem dL_law_29 : decode cL_law 29 = .ok (.bipush 63, 2) := by decide +kernel
theorem dL_law_31 : decode cL_law 31 = .ok (.iand, 1) := by decide +kernel
theorem dL_law_32 : decode cL_law 32 = .ok (.tableswitch 1046 0 33 #[152, 175, 198, 231, 284, 327, 350, 363, 376, 399, 422, 435, 468, 511, 534, 567, 590, 613, 626, 639, 682, 735, 748, 771, 794, 817, 860, 883, 916, 940, 963, 986, 1009, 1032], 152) := by decide +kernel
theorem dL_law_184 : decode cL_law 184 = .ok (.aload_n 1, 1) := by decide +kernel
theorem dL_law_185 : decode cL_law 185 = .ok (.aload_n 0, 1) := by decide +kernel
theorem dL_law_186 : decode cL_law 186 = .ok (.iload_n 3, 1) := by decide +kernel
theorem dL_law_187 : decode cL_law 187 = .ok (.iconst 1, 1) := by decide +kernel
theorem dL_law_188 : decode cL_law 188 = .ok (.iadd, 1) := by decide +kernel
theorem dL_law_189 : decode cL_law 189 = .ok (.iaload, 1) := by decide +kernel
theorem dL_law_190 : decode cL_law 190 = .ok (.invokevirtual 13, 3) := by decide +kernel
theorem dL_law_193 : decode cL_law 193 = .ok (.aload_n 2, 1) := by decide +kernel
theorem dL_law_194 : decode cL_law 194 = .ok (.aload_n 0, 1) := by decide +kernel
theorem dL_law_195 : decode cL_law 195 = .ok (.iload_n 3, 1) := by decide +kernel
theorem dL_law_196 : decode cL_law 196 = .ok (.iconst 1, 1) := by decide +kernel
theorem dL_law_197 : decode cL_law 197 = .ok (.iadd, 1) := by decide +kernel
theorem dL_law_198 : decode cL_law 198 = .ok (.iaload, 1) := by decide +kernel
theorem dL_law_199 : decode cL_law 199 = .ok (.invokevirtual 17, 3) := by decide +kernel
theorem dL_law_202 : decode cL_law 202 = .ok (.if_icmp .eq 876, 3) := by decide +kernel
theorem dL_law_205 : decode cL_law 205 = .ok (.iconst 0, 1) := by decide +kernel
theorem dL_law_206 : decode cL_law 206 = .ok (.ireturn, 1) := by decide +kernel
theorem dL_law_207 : decode cL_law 207 = .ok (.aload_n 1, 1) := by decide +kernel
theorem dL_law_208 : decode cL_law 208 = .ok (.aload_n 0, 1) := by decide +kernel
theorem dL_law_209 : decode cL_law 209 = .ok (.iload_n 3, 1) := by decide +kernel
theorem dL_law_210 : decode cL_law 210 = .ok (.iconst 1, 1) := by decide +kernel
theorem dL_law_211 : decode cL_law 211 = .ok (.iadd, 1) := by decide +kernel
theorem dL_law_212 : decode cL_law 212 = .ok (.iaload, 1) := by decide +kernel
theorem dL_law_213 : decode cL_law 213 = .ok (.invokevirtual 18, 3) := by decide +kernel
theorem dL_law_216 : decode cL_law 216 = .ok (.aload_n 2, 1) := by decide +kernel
theorem dL_law_217 : decode cL_law 217 = .ok (.aload_n 0, 1) := by decide +kernel
theorem dL_law_218 : decode cL_law 218 = .ok (.iload_n 3, 1) := by decide +kernel
theorem dL_law_219 : decode cL_law 219 = .ok (.iconst 1, 1) := by decide +kernel
theorem dL_law_220 : decode cL_law 220 = .ok (.iadd, 1) := by decide +kernel
theorem dL_law_221 : decode cL_law 221 = .ok (.iaload, 1) := by decide +kernel
theorem dL_law_222 : decode cL_law 222 = .ok (.invokevirtual 21, 3) := by decide +kernel
theorem dL_law_225 : decode cL_law 225 = .ok (.if_icmp .eq 853, 3) := by decide +kernel
theorem dL_law_228 : decode cL_law 228 = .ok (.iconst 0, 1) := by decide +kernel
theorem dL_law_229 : decode cL_law 229 = .ok (.ireturn, 1) := by decide +kernel
theorem dL_law_230 : decode cL_law 230 = .ok (.aload_n 1, 1) := by decide +kernel
theorem dL_law_231 : decode cL_law 231 = .ok (.aload_n 0, 1) := by decide +kernel
theorem dL_law_232 : decode cL_law 232 = .ok (.iload_n 3, 1) := by decide +kernel
theorem dL_law_233 : decode cL_law 233 = .ok (.iconst 1, 1) := by decide +kernel
theorem dL_law_234 : decode cL_law 234 = .ok (.iadd, 1) := by decide +kernel
theorem dL_law_235 : decode cL_law 235 = .ok (.iaload, 1) := by decide +kernel
theorem dL_law_236 : decode cL_law 236 = .ok (.aload_n 0, 1) := by decide +kernel
theorem dL_law_237 : decode cL_law 237 = .ok (.iload_n 3, 1) := by decide +kernel
theorem dL_law_238 : decode cL_law 238 = .ok (.iconst 2, 1) := by decide +kernel
theorem dL_law_239 : decode cL_law 239 = .ok (.iadd, 1) := by decide +kernel
theorem dL_law_240 : decode cL_law 240 = .ok (.iaload, 1) := by decide +kernel
theorem dL_law_241 : decode cL_law 241 = .ok (.invokevirtual 22, 3) := by decide +kernel
theorem dL_law_244 : decode cL_law 244 = .ok (.aload_n 2, 1) := by decide +kernel
theorem dL_law_245 : decode cL_law 245 = .ok (.aload_n 0, 1) := by decide +kernel
theorem dL_law_246 : decode cL_law 246 = .ok (.iload_n 3, 1) := by decide +kernel
theorem dL_law_247 : decode cL_law 247 = .ok (.iconst 1, 1) := by decide +kernel
theorem dL_law_248 : decode cL_law 248 = .ok (.iadd, 1) := by decide +kernel
theorem dL_law_249 : decode cL_law 249 = .ok (.iaload, 1) := by decide +kernel
theorem dL_law_250 : decode cL_law 250 = .ok (.aload_n 0, 1) := by decide +kernel
theorem dL_law_251 : decode cL_law 251 = .ok (.iload_n 3, 1) := by decide +kernel
theorem dL_law_252 : decode cL_law 252 = .ok (.iconst 2, 1) := by decide +kernel
theorem dL_law_253 : decode cL_law 253 = .ok (.iadd, 1) := by decide +kernel
theorem dL_law_254 : decode cL_law 254 = .ok (.iaload, 1) := by decide +kernel
theorem dL_law_255 : decode cL_law 255 = .ok (.invokevirtual 26, 3) := by decide +kernel
theorem dL_law_258 : decode cL_law 258 = .ok (.if_icmp .eq 820, 3) := by decide +kernel
theorem dL_law_261 : decode cL_law 261 = .ok (.iconst 0, 1) := by decide +kernel
theorem dL_law_262 : decode cL_law 262 = .ok (.ireturn, 1) := by decide +kernel
theorem dL_law_263 : decode cL_law 263 = .ok (.aload_n 1, 1) := by decide +kernel
theorem dL_law_264 : decode cL_law 264 = .ok (.aload_n 0, 1) := by decide +kernel
theorem dL_law_265 : decode cL_law 265 = .ok (.iload_n 3, 1) := by decide +kernel
theorem dL_law_266 : decode cL_law 266 = .ok (.iconst 1, 1) := by decide +kernel
theorem dL_law_267 : decode cL_law 267 = .ok (.iadd, 1) := by decide +kernel
theorem dL_law_268 : decode cL_law 268 = .ok (.iaload, 1) := by decide +kernel
theorem dL_law_269 : decode cL_law 269 = .ok (.aload_n 0, 1) := by decide +kernel
theorem dL_law_270 : decode cL_law 270 = .ok (.iload_n 3, 1) := by decide +kernel
theorem dL_law_271 : decode cL_law 271 = .ok (.iconst 2, 1) := by decide +kernel
theorem dL_law_272 : decode cL_law 272 = .ok (.iadd, 1) := by decide +kernel
theorem dL_law_273 : decode cL_law 273 = .ok (.iaload, 1) := by decide +kernel
theorem dL_law_274 : decode cL_law 274 = .ok (.aload_n 0, 1) := by decide +kernel
theorem dL_law_275 : decode cL_law 275 = .ok (.iload_n 3, 1) := by decide +kernel
theorem dL_law_276 : decode cL_law 276 = .ok (.iconst 3, 1) := by decide +kernel
theorem dL_law_277 : decode cL_law 277 = .ok (.iadd, 1) := by decide +kernel
theorem dL_law_278 : decode cL_law 278 = .ok (.iaload, 1) := by decide +kernel
theorem dL_law_279 : decode cL_law 279 = .ok (.aload_n 0, 1) := by decide +kernel
theorem dL_law_280 : decode cL_law 280 = .ok (.iload_n 3, 1) := by decide +kernel
theorem dL_law_281 : decode cL_law 281 = .ok (.iconst 4, 1) := by decide +kernel
theorem dL_law_282 : decode cL_law 282 = .ok (.iadd, 1) := by decide +kernel
theorem dL_law_283 : decode cL_law 283 = .ok (.iaload, 1) := by decide +kernel
theorem dL_law_284 : decode cL_law 284 = .ok (.invokevirtual 27, 3) := by decide +kernel
theorem dL_law_287 : decode cL_law 287 = .ok (.aload_n 2, 1) := by decide +kernel
theorem dL_law_288 : decode cL_law 288 = .ok (.aload_n 0, 1) := by decide +kernel
theorem dL_law_289 : decode cL_law 289 = .ok (.iload_n 3, 1) := by decide +kernel
theorem dL_law_290 : decode cL_law 290 = .ok (.iconst 1, 1) := by decide +kernel
theorem dL_law_291 : decode cL_law 291 = .ok (.iadd, 1) := by decide +kernel
theorem dL_law_292 : decode cL_law 292 = .ok (.iaload, 1) := by decide +kernel
theorem dL_law_293 : decode cL_law 293 = .ok (.aload_n 0, 1) := by decide +kernel
theorem dL_law_294 : decode cL_law 294 = .ok (.iload_n 3, 1) := by decide +kernel
theorem dL_law_295 : decode cL_law 295 = .ok (.iconst 2, 1) := by decide +kernel
theorem dL_law_296 : decode cL_law 296 = .ok (.iadd, 1) := by decide +kernel
theorem dL_law_297 : decode cL_law 297 = .ok (.iaload, 1) := by decide +kernel
theorem dL_law_298 : decode cL_law 298 = .ok (.aload_n 0, 1) := by decide +kernel
theorem dL_law_299 : decode cL_law 299 = .ok (.iload_n 3, 1) := by decide +kernel
theorem dL_law_300 : decode cL_law 300 = .ok (.iconst 3, 1) := by decide +kernel
theorem dL_law_301 : decode cL_law 301 = .ok (.iadd, 1) := by decide +kernel
theorem dL_law_302 : decode cL_law 302 = .ok (.iaload, 1) := by decide +kernel
theorem dL_law_303 : decode cL_law 303 = .ok (.aload_n 0, 1) := by decide +kernel
theorem dL_law_304 : decode cL_law 304 = .ok (.iload_n 3, 1) := by decide +kernel
theorem dL_law_305 : decode cL_law 305 = .ok (.iconst 4, 1) := by decide +kernel
theorem dL_law_306 : decode cL_law 306 = .ok (.iadd, 1) := by decide +kernel
theorem dL_law_307 : decode cL_law 307 = .ok (.iaload, 1) := by decide +kernel
theorem dL_law_308 : decode cL_law 308 = .ok (.invokevirtual 31, 3) := by decide +kernel
theorem dL_law_311 : decode cL_law 311 = .ok (.if_icmp .eq 767, 3) := by decide +kernel
theorem dL_law_314 : decode cL_law 314 = .ok (.iconst 0, 1) := by decide +kernel
theorem dL_law_315 : decode cL_law 315 = .ok (.ireturn, 1) := by decide +kernel
theorem dL_law_316 : decode cL_law 316 = .ok (.aload_n 1, 1) := by decide +kernel
theorem dL_law_317 : decode cL_law 317 = .ok (.aload_n 0, 1) := by decide +kernel
theorem dL_law_318 : decode cL_law 318 = .ok (.iload_n 3, 1) := by decide +kernel
theorem dL_law_319 : decode cL_law 319 = .ok (.iconst 1, 1) := by decide +kernel
theorem dL_law_320 : decode cL_law 320 = .ok (.iadd, 1) := by decide +kernel
theorem dL_law_321 : decode cL_law 321 = .ok (.iaload, 1) := by decide +kernel
theorem dL_law_322 : decode cL_law 322 = .ok (.aload_n 0, 1) := by decide +kernel
theorem dL_law_323 : decode cL_law 323 = .ok (.iload_n 3, 1) := by decide +kernel
theorem dL_law_324 : decode cL_law 324 = .ok (.iconst 2, 1) := by decide +kernel
theorem dL_law_325 : decode cL_law 325 = .ok (.iadd, 1) := by decide +kernel
theorem dL_law_326 : decode cL_law 326 = .ok (.iaload, 1) := by decide +kernel
theorem dL_law_327 : decode cL_law 327 = .ok (.aload_n 0, 1) := by decide +kernel
theorem dL_law_328 : decode cL_law 328 = .ok (.iload_n 3, 1) := by decide +kernel
theorem dL_law_329 : decode cL_law 329 = .ok (.iconst 3, 1) := by decide +kernel
theorem dL_law_330 : decode cL_law 330 = .ok (.iadd, 1) := by decide +kernel
theorem dL_law_331 : decode cL_law 331 = .ok (.iaload, 1) := by decide +kernel
theorem dL_law_332 : decode cL_law 332 = .ok (.invokevirtual 32, 3) := by decide +kernel
theorem dL_law_335 : decode cL_law 335 = .ok (.aload_n 2, 1) := by decide +kernel
theorem dL_law_336 : decode cL_law 336 = .ok (.aload_n 0, 1) := by decide +kernel
theorem dL_law_337 : decode cL_law 337 = .ok (.iload_n 3, 1) := by decide +kernel
theorem dL_law_338 : decode cL_law 338 = .ok (.iconst 1, 1) := by decide +kernel
theorem dL_law_339 : decode cL_law 339 = .ok (.iadd, 1) := by decide +kernel
theorem dL_law_340 : decode cL_law 340 = .ok (.iaload, 1) := by decide +kernel
theorem dL_law_341 : decode cL_law 341 = .ok (.aload_n 0, 1) := by decide +kernel
theorem dL_law_342 : decode cL_law 342 = .ok (.iload_n 3, 1) := by decide +kernel
theorem dL_law_343 : decode cL_law 343 = .ok (.iconst 2, 1) := by decide +kernel
theorem dL_law_344 : decode cL_law 344 = .ok (.iadd, 1) := by decide +kernel
theorem dL_law_345 : decode cL_law 345 = .ok (.iaload, 1) := by decide +kernel
theorem dL_law_346 : decode cL_law 346 = .ok (.aload_n 0, 1) := by decide +kernel
theorem dL_law_347 : decode cL_law 347 = .ok (.iload_n 3, 1) := by decide +kernel
theorem dL_law_348 : decode cL_law 348 = .ok (.iconst 3, 1) := by decide +kernel
theorem dL_law_349 : decode cL_law 349 = .ok (.iadd, 1) := by decide +kernel
theorem dL_law_350 : decode cL_law 350 = .ok (.iaload, 1) := by decide +kernel
theorem dL_law_351 : decode cL_law 351 = .ok (.invokevirtual 36, 3) := by decide +kernel
theorem dL_law_354 : decode cL_law 354 = .ok (.if_icmp .eq 724, 3) := by decide +kernel
theorem dL_law_357 : decode cL_law 357 = .ok (.iconst 0, 1) := by decide +kernel
theorem dL_law_358 : decode cL_law 358 = .ok (.ireturn, 1) := by decide +kernel
theorem dL_law_359 : decode cL_law 359 = .ok (.aload_n 1, 1) := by decide +kernel
theorem dL_law_360 : decode cL_law 360 = .ok (.aload_n 0, 1) := by decide +kernel
theorem dL_law_361 : decode cL_law 361 = .ok (.iload_n 3, 1) := by decide +kernel
theorem dL_law_362 : decode cL_law 362 = .ok (.iconst 1, 1) := by decide +kernel
theorem dL_law_363 : decode cL_law 363 = .ok (.iadd, 1) := by decide +kernel
theorem dL_law_364 : decode cL_law 364 = .ok (.iaload, 1) := by decide +kernel
theorem dL_law_365 : decode cL_law 365 = .ok (.invokevirtual 37, 3) := by decide +kernel
theorem dL_law_368 : decode cL_law 368 = .ok (.aload_n 2, 1) := by decide +kernel
theorem dL_law_369 : decode cL_law 369 = .ok (.aload_n 0, 1) := by decide +kernel
theorem dL_law_370 : decode cL_law 370 = .ok (.iload_n 3, 1) := by decide +kernel
theorem dL_law_371 : decode cL_law 371 = .ok (.iconst 1, 1) := by decide +kernel
theorem dL_law_372 : decode cL_law 372 = .ok (.iadd, 1) := by decide +kernel
theorem dL_law_373 : decode cL_law 373 = .ok (.iaload, 1) := by decide +kernel
theorem dL_law_374 : decode cL_law 374 = .ok (.invokevirtual 40, 3) := by decide +kernel
theorem dL_law_377 : decode cL_law 377 = .ok (.if_icmp .eq 701, 3) := by decide +kernel
theorem dL_law_380 : decode cL_law 380 = .ok (.iconst 0, 1) := by decide +kernel
theorem dL_law_381 : decode cL_law 381 = .ok (.ireturn, 1) := by decide +kernel
theorem dL_law_382 : decode cL_law 382 = .ok (.aload_n 1, 1) := by decide +kernel
theorem dL_law_383 : decode cL_law 383 = .ok (.invokevirtual 41, 3) := by decide +kernel
theorem dL_law_386 : decode cL_law 386 = .ok (.aload_n 2, 1) := by decide +kernel
theorem dL_law_387 : decode cL_law 387 = .ok (.invokevirtual 45, 3) := by decide +kernel
theorem dL_law_390 : decode cL_law 390 = .ok (.if_icmp .eq 688, 3) := by decide +kernel
theorem dL_law_393 : decode cL_law 393 = .ok (.iconst 0, 1) := by decide +kernel
theorem dL_law_394 : decode cL_law 394 = .ok (.ireturn, 1) := by decide +kernel
theorem dL_law_395 : decode cL_law 395 = .ok (.aload_n 1, 1) := by decide +kernel
theorem dL_law_396 : decode cL_law 396 = .ok (.invokevirtual 46, 3) := by decide +kernel
theorem dL_law_399 : decode cL_law 399 = .ok (.aload_n 2, 1) := by decide +kernel
theorem dL_law_400 : decode cL_law 400 = .ok (.invokevirtual 49, 3) := by decide +kernel
theorem dL_law_403 : decode cL_law 403 = .ok (.if_icmp .eq 675, 3) := by decide +kernel
theorem dL_law_406 : decode cL_law 406 = .ok (.iconst 0, 1) := by decide +kernel
theorem dL_law_407 : decode cL_law 407 = .ok (.ireturn, 1) := by decide +kernel
theorem dL_law_408 : decode cL_law 408 = .ok (.aload_n 1, 1) := by decide +kernel
theorem dL_law_409 : decode cL_law 409 = .ok (.aload_n 0, 1) := by decide +kernel
theorem dL_law_410 : decode cL_law 410 = .ok (.iload_n 3, 1) := by decide +kernel
theorem dL_law_411 : decode cL_law 411 = .ok (.iconst 1, 1) := by decide +kernel
theorem dL_law_412 : decode cL_law 412 = .ok (.iadd, 1) := by decide +kernel
theorem dL_law_413 : decode cL_law 413 = .ok (.iaload, 1) := by decide +kernel
theorem dL_law_414 : decode cL_law 414 = .ok (.invokevirtual 50, 3) := by decide +kernel
theorem dL_law_417 : decode cL_law 417 = .ok (.aload_n 2, 1) := by decide +kernel
theorem dL_law_418 : decode cL_law 418 = .ok (.aload_n 0, 1) := by decide +kernel
theorem dL_law_419 : decode cL_law 419 = .ok (.iload_n 3, 1) := by decide +kernel
theorem dL_law_420 : decode cL_law 420 = .ok (.iconst 1, 1) := by decide +kernel
theorem dL_law_421 : decode cL_law 421 = .ok (.iadd, 1) := by decide +kernel
theorem dL_law_422 : decode cL_law 422 = .ok (.iaload, 1) := by decide +kernel
theorem dL_law_423 : decode cL_law 423 = .ok (.invokevirtual 53, 3) := by decide +kernel
theorem dL_law_426 : decode cL_law 426 = .ok (.if_icmp .eq 652, 3) := by decide +kernel
theorem dL_law_429 : decode cL_law 429 = .ok (.iconst 0, 1) := by decide +kernel
theorem dL_law_430 : decode cL_law 430 = .ok (.ireturn, 1) := by decide +kernel
theorem dL_law_431 : decode cL_law 431 = .ok (.aload_n 1, 1) := by decide +kernel
theorem dL_law_432 : decode cL_law 432 = .ok (.aload_n 0, 1) := by decide +kernel
theorem dL_law_433 : decode cL_law 433 = .ok (.iload_n 3, 1) := by decide +kernel
theorem dL_law_434 : decode cL_law 434 = .ok (.iconst 1, 1) := by decide +kernel
theorem dL_law_435 : decode cL_law 435 = .ok (.iadd, 1) := by decide +kernel
theorem dL_law_436 : decode cL_law 436 = .ok (.iaload, 1) := by decide +kernel
theorem dL_law_437 : decode cL_law 437 = .ok (.invokevirtual 54, 3) := by decide +kernel
theorem dL_law_440 : decode cL_law 440 = .ok (.aload_n 2, 1) := by decide +kernel
theorem dL_law_441 : decode cL_law 441 = .ok (.aload_n 0, 1) := by decide +kernel
theorem dL_law_442 : decode cL_law 442 = .ok (.iload_n 3, 1) := by decide +kernel
theorem dL_law_443 : decode cL_law 443 = .ok (.iconst 1, 1) := by decide +kernel
theorem dL_law_444 : decode cL_law 444 = .ok (.iadd, 1) := by decide +kernel
theorem dL_law_445 : decode cL_law 445 = .ok (.iaload, 1) := by decide +kernel
theorem dL_law_446 : decode cL_law 446 = .ok (.invokevirtual 57, 3) := by decide +kernel
theorem dL_law_449 : decode cL_law 449 = .ok (.if_icmp .eq 629, 3) := by decide +kernel
theorem dL_law_452 : decode cL_law 452 = .ok (.iconst 0, 1) := by decide +kernel
theorem dL_law_453 : decode cL_law 453 = .ok (.ireturn, 1) := by decide +kernel
theorem dL_law_454 : decode cL_law 454 = .ok (.aload_n 1, 1) := by decide +kernel
theorem dL_law_455 : decode cL_law 455 = .ok (.invokevirtual 58, 3) := by decide +kernel
theorem dL_law_458 : decode cL_law 458 = .ok (.aload_n 2, 1) := by decide +kernel
theorem dL_law_459 : decode cL_law 459 = .ok (.invokevirtual 61, 3) := by decide +kernel
theorem dL_law_462 : decode cL_law 462 = .ok (.if_icmp .eq 616, 3) := by decide +kernel
theorem dL_law_465 : decode cL_law 465 = .ok (.iconst 0, 1) := by decide +kernel
theorem dL_law_466 : decode cL_law 466 = .ok (.ireturn, 1) := by decide +kernel
theorem dL_law_467 : decode cL_law 467 = .ok (.aload_n 1, 1) := by decide +kernel
theorem dL_law_468 : decode cL_law 468 = .ok (.aload_n 0, 1) := by decide +kernel
theorem dL_law_469 : decode cL_law 469 = .ok (.iload_n 3, 1) := by decide +kernel
theorem dL_law_470 : decode cL_law 470 = .ok (.iconst 1, 1) := by decide +kernel
theorem dL_law_471 : decode cL_law 471 = .ok (.iadd, 1) := by decide +kernel
theorem dL_law_472 : decode cL_law 472 = .ok (.iaload, 1) := by decide +kernel
theorem dL_law_473 : decode cL_law 473 = .ok (.aload_n 0, 1) := by decide +kernel
theorem dL_law_474 : decode cL_law 474 = .ok (.iload_n 3, 1) := by decide +kernel
theorem dL_law_475 : decode cL_law 475 = .ok (.iconst 2, 1) := by decide +kernel
theorem dL_law_476 : decode cL_law 476 = .ok (.iadd, 1) := by decide +kernel
theorem dL_law_477 : decode cL_law 477 = .ok (.iaload, 1) := by decide +kernel
theorem dL_law_478 : decode cL_law 478 = .ok (.invokevirtual 62, 3) := by decide +kernel
theorem dL_law_481 : decode cL_law 481 = .ok (.aload_n 2, 1) := by decide +kernel
theorem dL_law_482 : decode cL_law 482 = .ok (.aload_n 0, 1) := by decide +kernel
theorem dL_law_483 : decode cL_law 483 = .ok (.iload_n 3, 1) := by decide +kernel
theorem dL_law_484 : decode cL_law 484 = .ok (.iconst 1, 1) := by decide +kernel
theorem dL_law_485 : decode cL_law 485 = .ok (.iadd, 1) := by decide +kernel
theorem dL_law_486 : decode cL_law 486 = .ok (.iaload, 1) := by decide +kernel
theorem dL_law_487 : decode cL_law 487 = .ok (.aload_n 0, 1) := by decide +kernel
theorem dL_law_488 : decode cL_law 488 = .ok (.iload_n 3, 1) := by decide +kernel
theorem dL_law_489 : decode cL_law 489 = .ok (.iconst 2, 1) := by decide +kernel
theorem dL_law_490 : decode cL_law 490 = .ok (.iadd, 1) := by decide +kernel
theorem dL_law_491 : decode cL_law 491 = .ok (.iaload, 1) := by decide +kernel
theorem dL_law_492 : decode cL_law 492 = .ok (.invokevirtual 65, 3) := by decide +kernel
theorem dL_law_495 : decode cL_law 495 = .ok (.if_icmp .eq 583, 3) := by decide +kernel
theorem dL_law_498 : decode cL_law 498 = .ok (.iconst 0, 1) := by decide +kernel
theorem dL_law_499 : decode cL_law 499 = .ok (.ireturn, 1) := by decide +kernel
theorem dL_law_500 : decode cL_law 500 = .ok (.aload_n 1, 1) := by decide +kernel
theorem dL_law_501 : decode cL_law 501 = .ok (.aload_n 0, 1) := by decide +kernel
theorem dL_law_502 : decode cL_law 502 = .ok (.iload_n 3, 1) := by decide +kernel
theorem dL_law_503 : decode cL_law 503 = .ok (.iconst 1, 1) := by decide +kernel
theorem dL_law_504 : decode cL_law 504 = .ok (.iadd, 1) := by decide +kernel
theorem dL_law_505 : decode cL_law 505 = .ok (.iaload, 1) := by decide +kernel
theorem dL_law_506 : decode cL_law 506 = .ok (.aload_n 0, 1) := by decide +kernel
theorem dL_law_507 : decode cL_law 507 = .ok (.iload_n 3, 1) := by decide +kernel
theorem dL_law_508 : decode cL_law 508 = .ok (.iconst 2, 1) := by decide +kernel
theorem dL_law_509 : decode cL_law 509 = .ok (.iadd, 1) := by decide +kernel
theorem dL_law_510 : decode cL_law 510 = .ok (.iaload, 1) := by decide +kernel
theorem dL_law_511 : decode cL_law 511 = .ok (.aload_n 0, 1) := by decide +kernel
theorem dL_law_512 : decode cL_law 512 = .ok (.iload_n 3, 1) := by decide +kernel
theorem dL_law_513 : decode cL_law 513 = .ok (.iconst 3, 1) := by decide +kernel
theorem dL_law_514 : decode cL_law 514 = .ok (.iadd, 1) := by decide +kernel
theorem dL_law_515 : decode cL_law 515 = .ok (.iaload, 1) := by decide +kernel
theorem dL_law_516 : decode cL_law 516 = .ok (.invokevirtual 66, 3) := by decide +kernel
theorem dL_law_519 : decode cL_law 519 = .ok (.aload_n 2, 1) := by decide +kernel
theorem dL_law_520 : decode cL_law 520 = .ok (.aload_n 0, 1) := by decide +kernel
theorem dL_law_521 : decode cL_law 521 = .ok (.iload_n 3, 1) := by decide +kernel
theorem dL_law_522 : decode cL_law 522 = .ok (.iconst 1, 1) := by decide +kernel
theorem dL_law_523 : decode cL_law 523 = .ok (.iadd, 1) := by decide +kernel
theorem dL_law_524 : decode cL_law 524 = .ok (.iaload, 1) := by decide +kernel
theorem dL_law_525 : decode cL_law 525 = .ok (.aload_n 0, 1) := by decide +kernel
theorem dL_law_526 : decode cL_law 526 = .ok (.iload_n 3, 1) := by decide +kernel
theorem dL_law_527 : decode cL_law 527 = .ok (.iconst 2, 1) := by decide +kernel
theorem dL_law_528 : decode cL_law 528 = .ok (.iadd, 1) := by decide +kernel
theorem dL_law_529 : decode cL_law 529 = .ok (.iaload, 1) := by decide +kernel
theorem dL_law_530 : decode cL_law 530 = .ok (.aload_n 0, 1) := by decide +kernel
theorem dL_law_531 : decode cL_law 531 = .ok (.iload_n 3, 1) := by decide +kernel
theorem dL_law_532 : decode cL_law 532 = .ok (.iconst 3, 1) := by decide +kernel
theorem dL_law_533 : decode cL_law 533 = .ok (.iadd, 1) := by decide +kernel
theorem dL_law_534 : decode cL_law 534 = .ok (.iaload, 1) := by decide +kernel
theorem dL_law_535 : decode cL_law 535 = .ok (.invokevirtual 69, 3) := by decide +kernel
theorem dL_law_538 : decode cL_law 538 = .ok (.if_icmp .eq 540, 3) := by decide +kernel
theorem dL_law_541 : decode cL_law 541 = .ok (.iconst 0, 1) := by decide +kernel
theorem dL_law_542 : decode cL_law 542 = .ok (.ireturn, 1) := by decide +kernel
theorem dL_law_543 : decode cL_law 543 = .ok (.aload_n 1, 1) := by decide +kernel
theorem dL_law_544 : decode cL_law 544 = .ok (.aload_n 0, 1) := by decide +kernel
theorem dL_law_545 : decode cL_law 545 = .ok (.iload_n 3, 1) := by decide +kernel
theorem dL_law_546 : decode cL_law 546 = .ok (.iconst 1, 1) := by decide +kernel
theorem dL_law_547 : decode cL_law 547 = .ok (.iadd, 1) := by decide +kernel
theorem dL_law_548 : decode cL_law 548 = .ok (.iaload, 1) := by decide +kernel
theorem dL_law_549 : decode cL_law 549 = .ok (.invokevirtual 70, 3) := by decide +kernel
theorem dL_law_552 : decode cL_law 552 = .ok (.aload_n 2, 1) := by decide +kernel
theorem dL_law_553 : decode cL_law 553 = .ok (.aload_n 0, 1) := by decide +kernel
theorem dL_law_554 : decode cL_law 554 = .ok (.iload_n 3, 1) := by decide +kernel
theorem dL_law_555 : decode cL_law 555 = .ok (.iconst 1, 1) := by decide +kernel
theorem dL_law_556 : decode cL_law 556 = .ok (.iadd, 1) := by decide +kernel
theorem dL_law_557 : decode cL_law 557 = .ok (.iaload, 1) := by decide +kernel
theorem dL_law_558 : decode cL_law 558 = .ok (.invokevirtual 73, 3) := by decide +kernel
theorem dL_law_561 : decode cL_law 561 = .ok (.if_icmp .eq 517, 3) := by decide +kernel
theorem dL_law_564 : decode cL_law 564 = .ok (.iconst 0, 1) := by decide +kernel
theorem dL_law_565 : decode cL_law 565 = .ok (.ireturn, 1) := by decide +kernel
theorem dL_law_566 : decode cL_law 566 = .ok (.aload_n 1, 1) := by decide +kernel
theorem dL_law_567 : decode cL_law 567 = .ok (.aload_n 0, 1) := by decide +kernel
theorem dL_law_568 : decode cL_law 568 = .ok (.iload_n 3, 1) := by decide +kernel
theorem dL_law_569 : decode cL_law 569 = .ok (.iconst 1, 1) := by decide +kernel
theorem dL_law_570 : decode cL_law 570 = .ok (.iadd, 1) := by decide +kernel
theorem dL_law_571 : decode cL_law 571 = .ok (.iaload, 1) := by decide +kernel
theorem dL_law_572 : decode cL_law 572 = .ok (.aload_n 0, 1) := by decide +kernel
theorem dL_law_573 : decode cL_law 573 = .ok (.iload_n 3, 1) := by decide +kernel
theorem dL_law_574 : decode cL_law 574 = .ok (.iconst 2, 1) := by decide +kernel
theorem dL_law_575 : decode cL_law 575 = .ok (.iadd, 1) := by decide +kernel
theorem dL_law_576 : decode cL_law 576 = .ok (.iaload, 1) := by decide +kernel
theorem dL_law_577 : decode cL_law 577 = .ok (.invokevirtual 74, 3) := by decide +kernel
theorem dL_law_580 : decode cL_law 580 = .ok (.aload_n 2, 1) := by decide +kernel
theorem dL_law_581 : decode cL_law 581 = .ok (.aload_n 0, 1) := by decide +kernel
theorem dL_law_582 : decode cL_law 582 = .ok (.iload_n 3, 1) := by decide +kernel
theorem dL_law_583 : decode cL_law 583 = .ok (.iconst 1, 1) := by decide +kernel
theorem dL_law_584 : decode cL_law 584 = .ok (.iadd, 1) := by decide +kernel
theorem dL_law_585 : decode cL_law 585 = .ok (.iaload, 1) := by decide +kernel
theorem dL_law_586 : decode cL_law 586 = .ok (.aload_n 0, 1) := by decide +kernel
theorem dL_law_587 : decode cL_law 587 = .ok (.iload_n 3, 1) := by decide +kernel
theorem dL_law_588 : decode cL_law 588 = .ok (.iconst 2, 1) := by decide +kernel
theorem dL_law_589 : decode cL_law 589 = .ok (.iadd, 1) := by decide +kernel
theorem dL_law_590 : decode cL_law 590 = .ok (.iaload, 1) := by decide +kernel
theorem dL_law_591 : decode cL_law 591 = .ok (.invokevirtual 77, 3) := by decide +kernel
theorem dL_law_594 : decode cL_law 594 = .ok (.if_icmp .eq 484, 3) := by decide +kernel
theorem dL_law_597 : decode cL_law 597 = .ok (.iconst 0, 1) := by decide +kernel
theorem dL_law_598 : decode cL_law 598 = .ok (.ireturn, 1) := by decide +kernel
theorem dL_law_599 : decode cL_law 599 = .ok (.aload_n 1, 1) := by decide +kernel
theorem dL_law_600 : decode cL_law 600 = .ok (.aload_n 0, 1) := by decide +kernel
theorem dL_law_601 : decode cL_law 601 = .ok (.iload_n 3, 1) := by decide +kernel
theorem dL_law_602 : decode cL_law 602 = .ok (.iconst 1, 1) := by decide +kernel
theorem dL_law_603 : decode cL_law 603 = .ok (.iadd, 1) := by decide +kernel
theorem dL_law_604 : decode cL_law 604 = .ok (.iaload, 1) := by decide +kernel
theorem dL_law_605 : decode cL_law 605 = .ok (.invokevirtual 78, 3) := by decide +kernel
theorem dL_law_608 : decode cL_law 608 = .ok (.aload_n 2, 1) := by decide +kernel
theorem dL_law_609 : decode cL_law 609 = .ok (.aload_n 0, 1) := by decide +kernel
theorem dL_law_610 : decode cL_law 610 = .ok (.iload_n 3, 1) := by decide +kernel
theorem dL_law_611 : decode cL_law 611 = .ok (.iconst 1, 1) := by decide +kernel
theorem dL_law_612 : decode cL_law 612 = .ok (.iadd, 1) := by decide +kernel
theorem dL_law_613 : decode cL_law 613 = .ok (.iaload, 1) := by decide +kernel
theorem dL_law_614 : decode cL_law 614 = .ok (.invokevirtual 81, 3) := by decide +kernel
theorem dL_law_617 : decode cL_law 617 = .ok (.if_icmp .eq 461, 3) := by decide +kernel
theorem dL_law_620 : decode cL_law 620 = .ok (.iconst 0, 1) := by decide +kernel
theorem dL_law_621 : decode cL_law 621 = .ok (.ireturn, 1) := by decide +kernel
theorem dL_law_622 : decode cL_law 622 = .ok (.aload_n 1, 1) := by decide +kernel
theorem dL_law_623 : decode cL_law 623 = .ok (.aload_n 0, 1) := by decide +kernel
theorem dL_law_624 : decode cL_law 624 = .ok (.iload_n 3, 1) := by decide +kernel
theorem dL_law_625 : decode cL_law 625 = .ok (.iconst 1, 1) := by decide +kernel
theorem dL_law_626 : decode cL_law 626 = .ok (.iadd, 1) := by decide +kernel
theorem dL_law_627 : decode cL_law 627 = .ok (.iaload, 1) := by decide +kernel
theorem dL_law_628 : decode cL_law 628 = .ok (.invokevirtual 82, 3) := by decide +kernel
theorem dL_law_631 : decode cL_law 631 = .ok (.aload_n 2, 1) := by decide +kernel
theorem dL_law_632 : decode cL_law 632 = .ok (.aload_n 0, 1) := by decide +kernel
theorem dL_law_633 : decode cL_law 633 = .ok (.iload_n 3, 1) := by decide +kernel
theorem dL_law_634 : decode cL_law 634 = .ok (.iconst 1, 1) := by decide +kernel
theorem dL_law_635 : decode cL_law 635 = .ok (.iadd, 1) := by decide +kernel
theorem dL_law_636 : decode cL_law 636 = .ok (.iaload, 1) := by decide +kernel
theorem dL_law_637 : decode cL_law 637 = .ok (.invokevirtual 85, 3) := by decide +kernel
theorem dL_law_640 : decode cL_law 640 = .ok (.if_icmp .eq 438, 3) := by decide +kernel
theorem dL_law_643 : decode cL_law 643 = .ok (.iconst 0, 1) := by decide +kernel
theorem dL_law_644 : decode cL_law 644 = .ok (.ireturn, 1) := by decide +kernel
theorem dL_law_645 : decode cL_law 645 = .ok (.aload_n 1, 1) := by decide +kernel
theorem dL_law_646 : decode cL_law 646 = .ok (.invokevirtual 86, 3) := by decide +kernel
theorem dL_law_649 : decode cL_law 649 = .ok (.aload_n 2, 1) := by decide +kernel
theorem dL_law_650 : decode cL_law 650 = .ok (.invokevirtual 89, 3) := by decide +kernel
theorem dL_law_653 : decode cL_law 653 = .ok (.if_icmp .eq 425, 3) := by decide +kernel
theorem dL_law_656 : decode cL_law 656 = .ok (.iconst 0, 1) := by decide +kernel
theorem dL_law_657 : decode cL_law 657 = .ok (.ireturn, 1) := by decide +kernel
theorem dL_law_658 : decode cL_law 658 = .ok (.aload_n 1, 1) := by decide +kernel
theorem dL_law_659 : decode cL_law 659 = .ok (.invokevirtual 90, 3) := by decide +kernel
theorem dL_law_662 : decode cL_law 662 = .ok (.aload_n 2, 1) := by decide +kernel
theorem dL_law_663 : decode cL_law 663 = .ok (.invokevirtual 93, 3) := by decide +kernel
theorem dL_law_666 : decode cL_law 666 = .ok (.if_icmp .eq 412, 3) := by decide +kernel
theorem dL_law_669 : decode cL_law 669 = .ok (.iconst 0, 1) := by decide +kernel
theorem dL_law_670 : decode cL_law 670 = .ok (.ireturn, 1) := by decide +kernel
theorem dL_law_671 : decode cL_law 671 = .ok (.aload_n 1, 1) := by decide +kernel
theorem dL_law_672 : decode cL_law 672 = .ok (.aload_n 0, 1) := by decide +kernel
theorem dL_law_673 : decode cL_law 673 = .ok (.iload_n 3, 1) := by decide +kernel
theorem dL_law_674 : decode cL_law 674 = .ok (.iconst 1, 1) := by decide +kernel
theorem dL_law_675 : decode cL_law 675 = .ok (.iadd, 1) := by decide +kernel
theorem dL_law_676 : decode cL_law 676 = .ok (.iaload, 1) := by decide +kernel
theorem dL_law_677 : decode cL_law 677 = .ok (.aload_n 0, 1) := by decide +kernel
theorem dL_law_678 : decode cL_law 678 = .ok (.iload_n 3, 1) := by decide +kernel
theorem dL_law_679 : decode cL_law 679 = .ok (.iconst 2, 1) := by decide +kernel
theorem dL_law_680 : decode cL_law 680 = .ok (.iadd, 1) := by decide +kernel
theorem dL_law_681 : decode cL_law 681 = .ok (.iaload, 1) := by decide +kernel
theorem dL_law_682 : decode cL_law 682 = .ok (.aload_n 0, 1) := by decide +kernel
theorem dL_law_683 : decode cL_law 683 = .ok (.iload_n 3, 1) := by decide +kernel
theorem dL_law_684 : decode cL_law 684 = .ok (.iconst 3, 1) := by decide +kernel
theorem dL_law_685 : decode cL_law 685 = .ok (.iadd, 1) := by decide +kernel
theorem dL_law_686 : decode cL_law 686 = .ok (.iaload, 1) := by decide +kernel
theorem dL_law_687 : decode cL_law 687 = .ok (.invokevirtual 94, 3) := by decide +kernel
theorem dL_law_690 : decode cL_law 690 = .ok (.aload_n 2, 1) := by decide +kernel
theorem dL_law_691 : decode cL_law 691 = .ok (.aload_n 0, 1) := by decide +kernel
theorem dL_law_692 : decode cL_law 692 = .ok (.iload_n 3, 1) := by decide +kernel
theorem dL_law_693 : decode cL_law 693 = .ok (.iconst 1, 1) := by decide +kernel
theorem dL_law_694 : decode cL_law 694 = .ok (.iadd, 1) := by decide +kernel
theorem dL_law_695 : decode cL_law 695 = .ok (.iaload, 1) := by decide +kernel
theorem dL_law_696 : decode cL_law 696 = .ok (.aload_n 0, 1) := by decide +kernel
theorem dL_law_697 : decode cL_law 697 = .ok (.iload_n 3, 1) := by decide +kernel
theorem dL_law_698 : decode cL_law 698 = .ok (.iconst 2, 1) := by decide +kernel
theorem dL_law_699 : decode cL_law 699 = .ok (.iadd, 1) := by decide +kernel
theorem dL_law_700 : decode cL_law 700 = .ok (.iaload, 1) := by decide +kernel
theorem dL_law_701 : decode cL_law 701 = .ok (.aload_n 0, 1) := by decide +kernel
theorem dL_law_702 : decode cL_law 702 = .ok (.iload_n 3, 1) := by decide +kernel
theorem dL_law_703 : decode cL_law 703 = .ok (.iconst 3, 1) := by decide +kernel
theorem dL_law_704 : decode cL_law 704 = .ok (.iadd, 1) := by decide +kernel
theorem dL_law_705 : decode cL_law 705 = .ok (.iaload, 1) := by decide +kernel
theorem dL_law_706 : decode cL_law 706 = .ok (.invokevirtual 97, 3) := by decide +kernel
theorem dL_law_709 : decode cL_law 709 = .ok (.if_icmp .eq 369, 3) := by decide +kernel
theorem dL_law_712 : decode cL_law 712 = .ok (.iconst 0, 1) := by decide +kernel
theorem dL_law_713 : decode cL_law 713 = .ok (.ireturn, 1) := by decide +kernel
theorem dL_law_714 : decode cL_law 714 = .ok (.aload_n 1, 1) := by decide +kernel
theorem dL_law_715 : decode cL_law 715 = .ok (.aload_n 0, 1) := by decide +kernel
theorem dL_law_716 : decode cL_law 716 = .ok (.iload_n 3, 1) := by decide +kernel
theorem dL_law_717 : decode cL_law 717 = .ok (.iconst 1, 1) := by decide +kernel
theorem dL_law_718 : decode cL_law 718 = .ok (.iadd, 1) := by decide +kernel
theorem dL_law_719 : decode cL_law 719 = .ok (.iaload, 1) := by decide +kernel
theorem dL_law_720 : decode cL_law 720 = .ok (.aload_n 0, 1) := by decide +kernel
theorem dL_law_721 : decode cL_law 721 = .ok (.iload_n 3, 1) := by decide +kernel
theorem dL_law_722 : decode cL_law 722 = .ok (.iconst 2, 1) := by decide +kernel
theorem dL_law_723 : decode cL_law 723 = .ok (.iadd, 1) := by decide +kernel
theorem dL_law_724 : decode cL_law 724 = .ok (.iaload, 1) := by decide +kernel
theorem dL_law_725 : decode cL_law 725 = .ok (.aload_n 0, 1) := by decide +kernel
theorem dL_law_726 : decode cL_law 726 = .ok (.iload_n 3, 1) := by decide +kernel
theorem dL_law_727 : decode cL_law 727 = .ok (.iconst 3, 1) := by decide +kernel
theorem dL_law_728 : decode cL_law 728 = .ok (.iadd, 1) := by decide +kernel
theorem dL_law_729 : decode cL_law 729 = .ok (.iaload, 1) := by decide +kernel
theorem dL_law_730 : decode cL_law 730 = .ok (.aload_n 0, 1) := by decide +kernel
theorem dL_law_731 : decode cL_law 731 = .ok (.iload_n 3, 1) := by decide +kernel
theorem dL_law_732 : decode cL_law 732 = .ok (.iconst 4, 1) := by decide +kernel
theorem dL_law_733 : decode cL_law 733 = .ok (.iadd, 1) := by decide +kernel
theorem dL_law_734 : decode cL_law 734 = .ok (.iaload, 1) := by decide +kernel
theorem dL_law_735 : decode cL_law 735 = .ok (.invokevirtual 98, 3) := by decide +kernel
theorem dL_law_738 : decode cL_law 738 = .ok (.aload_n 2, 1) := by decide +kernel
theorem dL_law_739 : decode cL_law 739 = .ok (.aload_n 0, 1) := by decide +kernel
theorem dL_law_740 : decode cL_law 740 = .ok (.iload_n 3, 1) := by decide +kernel
theorem dL_law_741 : decode cL_law 741 = .ok (.iconst 1, 1) := by decide +kernel
theorem dL_law_742 : decode cL_law 742 = .ok (.iadd, 1) := by decide +kernel
theorem dL_law_743 : decode cL_law 743 = .ok (.iaload, 1) := by decide +kernel
theorem dL_law_744 : decode cL_law 744 = .ok (.aload_n 0, 1) := by decide +kernel
theorem dL_law_745 : decode cL_law 745 = .ok (.iload_n 3, 1) := by decide +kernel
theorem dL_law_746 : decode cL_law 746 = .ok (.iconst 2, 1) := by decide +kernel
theorem dL_law_747 : decode cL_law 747 = .ok (.iadd, 1) := by decide +kernel
theorem dL_law_748 : decode cL_law 748 = .ok (.iaload, 1) := by decide +kernel
theorem dL_law_749 : decode cL_law 749 = .ok (.aload_n 0, 1) := by decide +kernel
theorem dL_law_750 : decode cL_law 750 = .ok (.iload_n 3, 1) := by decide +kernel
theorem dL_law_751 : decode cL_law 751 = .ok (.iconst 3, 1) := by decide +kernel
theorem dL_law_752 : decode cL_law 752 = .ok (.iadd, 1) := by decide +kernel
theorem dL_law_753 : decode cL_law 753 = .ok (.iaload, 1) := by decide +kernel
theorem dL_law_754 : decode cL_law 754 = .ok (.aload_n 0, 1) := by decide +kernel
theorem dL_law_755 : decode cL_law 755 = .ok (.iload_n 3, 1) := by decide +kernel
theorem dL_law_756 : decode cL_law 756 = .ok (.iconst 4, 1) := by decide +kernel
theorem dL_law_757 : decode cL_law 757 = .ok (.iadd, 1) := by decide +kernel
theorem dL_law_758 : decode cL_law 758 = .ok (.iaload, 1) := by decide +kernel
theorem dL_law_759 : decode cL_law 759 = .ok (.invokevirtual 101, 3) := by decide +kernel
theorem dL_law_762 : decode cL_law 762 = .ok (.if_icmp .eq 316, 3) := by decide +kernel
theorem dL_law_765 : decode cL_law 765 = .ok (.iconst 0, 1) := by decide +kernel
theorem dL_law_766 : decode cL_law 766 = .ok (.ireturn, 1) := by decide +kernel
theorem dL_law_767 : decode cL_law 767 = .ok (.aload_n 1, 1) := by decide +kernel
theorem dL_law_768 : decode cL_law 768 = .ok (.invokevirtual 102, 3) := by decide +kernel
theorem dL_law_771 : decode cL_law 771 = .ok (.aload_n 2, 1) := by decide +kernel
theorem dL_law_772 : decode cL_law 772 = .ok (.invokevirtual 105, 3) := by decide +kernel
theorem dL_law_775 : decode cL_law 775 = .ok (.if_icmp .eq 303, 3) := by decide +kernel
theorem dL_law_778 : decode cL_law 778 = .ok (.iconst 0, 1) := by decide +kernel
theorem dL_law_779 : decode cL_law 779 = .ok (.ireturn, 1) := by decide +kernel
theorem dL_law_780 : decode cL_law 780 = .ok (.aload_n 1, 1) := by decide +kernel
theorem dL_law_781 : decode cL_law 781 = .ok (.aload_n 0, 1) := by decide +kernel
theorem dL_law_782 : decode cL_law 782 = .ok (.iload_n 3, 1) := by decide +kernel
theorem dL_law_783 : decode cL_law 783 = .ok (.iconst 1, 1) := by decide +kernel
theorem dL_law_784 : decode cL_law 784 = .ok (.iadd, 1) := by decide +kernel
theorem dL_law_785 : decode cL_law 785 = .ok (.iaload, 1) := by decide +kernel
theorem dL_law_786 : decode cL_law 786 = .ok (.invokevirtual 106, 3) := by decide +kernel
theorem dL_law_789 : decode cL_law 789 = .ok (.aload_n 2, 1) := by decide +kernel
theorem dL_law_790 : decode cL_law 790 = .ok (.aload_n 0, 1) := by decide +kernel
theorem dL_law_791 : decode cL_law 791 = .ok (.iload_n 3, 1) := by decide +kernel
theorem dL_law_792 : decode cL_law 792 = .ok (.iconst 1, 1) := by decide +kernel
theorem dL_law_793 : decode cL_law 793 = .ok (.iadd, 1) := by decide +kernel
theorem dL_law_794 : decode cL_law 794 = .ok (.iaload, 1) := by decide +kernel
theorem dL_law_795 : decode cL_law 795 = .ok (.invokevirtual 109, 3) := by decide +kernel
theorem dL_law_798 : decode cL_law 798 = .ok (.if_icmp .eq 280, 3) := by decide +kernel
theorem dL_law_801 : decode cL_law 801 = .ok (.iconst 0, 1) := by decide +kernel
theorem dL_law_802 : decode cL_law 802 = .ok (.ireturn, 1) := by decide +kernel
theorem dL_law_803 : decode cL_law 803 = .ok (.aload_n 1, 1) := by decide +kernel
theorem dL_law_804 : decode cL_law 804 = .ok (.aload_n 0, 1) := by decide +kernel
theorem dL_law_805 : decode cL_law 805 = .ok (.iload_n 3, 1) := by decide +kernel
theorem dL_law_806 : decode cL_law 806 = .ok (.iconst 1, 1) := by decide +kernel
theorem dL_law_807 : decode cL_law 807 = .ok (.iadd, 1) := by decide +kernel
theorem dL_law_808 : decode cL_law 808 = .ok (.iaload, 1) := by decide +kernel
theorem dL_law_809 : decode cL_law 809 = .ok (.invokevirtual 110, 3) := by decide +kernel
theorem dL_law_812 : decode cL_law 812 = .ok (.aload_n 2, 1) := by decide +kernel
theorem dL_law_813 : decode cL_law 813 = .ok (.aload_n 0, 1) := by decide +kernel
theorem dL_law_814 : decode cL_law 814 = .ok (.iload_n 3, 1) := by decide +kernel
theorem dL_law_815 : decode cL_law 815 = .ok (.iconst 1, 1) := by decide +kernel
theorem dL_law_816 : decode cL_law 816 = .ok (.iadd, 1) := by decide +kernel
theorem dL_law_817 : decode cL_law 817 = .ok (.iaload, 1) := by decide +kernel
theorem dL_law_818 : decode cL_law 818 = .ok (.invokevirtual 113, 3) := by decide +kernel
theorem dL_law_821 : decode cL_law 821 = .ok (.if_icmp .eq 257, 3) := by decide +kernel
theorem dL_law_824 : decode cL_law 824 = .ok (.iconst 0, 1) := by decide +kernel
theorem dL_law_825 : decode cL_law 825 = .ok (.ireturn, 1) := by decide +kernel
theorem dL_law_826 : decode cL_law 826 = .ok (.aload_n 1, 1) := by decide +kernel
theorem dL_law_827 : decode cL_law 827 = .ok (.aload_n 0, 1) := by decide +kernel
theorem dL_law_828 : decode cL_law 828 = .ok (.iload_n 3, 1) := by decide +kernel
theorem dL_law_829 : decode cL_law 829 = .ok (.iconst 1, 1) := by decide +kernel
theorem dL_law_830 : decode cL_law 830 = .ok (.iadd, 1) := by decide +kernel
theorem dL_law_831 : decode cL_law 831 = .ok (.iaload, 1) := by decide +kernel
theorem dL_law_832 : decode cL_law 832 = .ok (.invokevirtual 114, 3) := by decide +kernel
theorem dL_law_835 : decode cL_law 835 = .ok (.aload_n 2, 1) := by decide +kernel
theorem dL_law_836 : decode cL_law 836 = .ok (.aload_n 0, 1) := by decide +kernel
theorem dL_law_837 : decode cL_law 837 = .ok (.iload_n 3, 1) := by decide +kernel
theorem dL_law_838 : decode cL_law 838 = .ok (.iconst 1, 1) := by decide +kernel
theorem dL_law_839 : decode cL_law 839 = .ok (.iadd, 1) := by decide +kernel
theorem dL_law_840 : decode cL_law 840 = .ok (.iaload, 1) := by decide +kernel
theorem dL_law_841 : decode cL_law 841 = .ok (.invokevirtual 117, 3) := by decide +kernel
theorem dL_law_844 : decode cL_law 844 = .ok (.if_icmp .eq 234, 3) := by decide +kernel
theorem dL_law_847 : decode cL_law 847 = .ok (.iconst 0, 1) := by decide +kernel
theorem dL_law_848 : decode cL_law 848 = .ok (.ireturn, 1) := by decide +kernel
theorem dL_law_849 : decode cL_law 849 = .ok (.aload_n 1, 1) := by decide +kernel
theorem dL_law_850 : decode cL_law 850 = .ok (.aload_n 0, 1) := by decide +kernel
theorem dL_law_851 : decode cL_law 851 = .ok (.iload_n 3, 1) := by decide +kernel
theorem dL_law_852 : decode cL_law 852 = .ok (.iconst 1, 1) := by decide +kernel
theorem dL_law_853 : decode cL_law 853 = .ok (.iadd, 1) := by decide +kernel
theorem dL_law_854 : decode cL_law 854 = .ok (.iaload, 1) := by decide +kernel
theorem dL_law_855 : decode cL_law 855 = .ok (.aload_n 0, 1) := by decide +kernel
theorem dL_law_856 : decode cL_law 856 = .ok (.iload_n 3, 1) := by decide +kernel
theorem dL_law_857 : decode cL_law 857 = .ok (.iconst 2, 1) := by decide +kernel
theorem dL_law_858 : decode cL_law 858 = .ok (.iadd, 1) := by decide +kernel
theorem dL_law_859 : decode cL_law 859 = .ok (.iaload, 1) := by decide +kernel
theorem dL_law_860 : decode cL_law 860 = .ok (.aload_n 0, 1) := by decide +kernel
theorem dL_law_861 : decode cL_law 861 = .ok (.iload_n 3, 1) := by decide +kernel
theorem dL_law_862 : decode cL_law 862 = .ok (.iconst 3, 1) := by decide +kernel
theorem dL_law_863 : decode cL_law 863 = .ok (.iadd, 1) := by decide +kernel
theorem dL_law_864 : decode cL_law 864 = .ok (.iaload, 1) := by decide +kernel
theorem dL_law_865 : decode cL_law 865 = .ok (.invokevirtual 118, 3) := by decide +kernel
theorem dL_law_868 : decode cL_law 868 = .ok (.aload_n 2, 1) := by decide +kernel
theorem dL_law_869 : decode cL_law 869 = .ok (.aload_n 0, 1) := by decide +kernel
theorem dL_law_870 : decode cL_law 870 = .ok (.iload_n 3, 1) := by decide +kernel
theorem dL_law_871 : decode cL_law 871 = .ok (.iconst 1, 1) := by decide +kernel
theorem dL_law_872 : decode cL_law 872 = .ok (.iadd, 1) := by decide +kernel
theorem dL_law_873 : decode cL_law 873 = .ok (.iaload, 1) := by decide +kernel
theorem dL_law_874 : decode cL_law 874 = .ok (.aload_n 0, 1) := by decide +kernel
theorem dL_law_875 : decode cL_law 875 = .ok (.iload_n 3, 1) := by decide +kernel
theorem dL_law_876 : decode cL_law 876 = .ok (.iconst 2, 1) := by decide +kernel
theorem dL_law_877 : decode cL_law 877 = .ok (.iadd, 1) := by decide +kernel
theorem dL_law_878 : decode cL_law 878 = .ok (.iaload, 1) := by decide +kernel
theorem dL_law_879 : decode cL_law 879 = .ok (.aload_n 0, 1) := by decide +kernel
theorem dL_law_880 : decode cL_law 880 = .ok (.iload_n 3, 1) := by decide +kernel
theorem dL_law_881 : decode cL_law 881 = .ok (.iconst 3, 1) := by decide +kernel
theorem dL_law_882 : decode cL_law 882 = .ok (.iadd, 1) := by decide +kernel
theorem dL_law_883 : decode cL_law 883 = .ok (.iaload, 1) := by decide +kernel
theorem dL_law_884 : decode cL_law 884 = .ok (.invokevirtual 121, 3) := by decide +kernel
theorem dL_law_887 : decode cL_law 887 = .ok (.if_icmp .eq 191, 3) := by decide +kernel
theorem dL_law_890 : decode cL_law 890 = .ok (.iconst 0, 1) := by decide +kernel
theorem dL_law_891 : decode cL_law 891 = .ok (.ireturn, 1) := by decide +kernel
theorem dL_law_892 : decode cL_law 892 = .ok (.aload_n 1, 1) := by decide +kernel
theorem dL_law_893 : decode cL_law 893 = .ok (.aload_n 0, 1) := by decide +kernel
theorem dL_law_894 : decode cL_law 894 = .ok (.iload_n 3, 1) := by decide +kernel
theorem dL_law_895 : decode cL_law 895 = .ok (.iconst 1, 1) := by decide +kernel
theorem dL_law_896 : decode cL_law 896 = .ok (.iadd, 1) := by decide +kernel
theorem dL_law_897 : decode cL_law 897 = .ok (.iaload, 1) := by decide +kernel
theorem dL_law_898 : decode cL_law 898 = .ok (.invokevirtual 122, 3) := by decide +kernel
theorem dL_law_901 : decode cL_law 901 = .ok (.aload_n 2, 1) := by decide +kernel
theorem dL_law_902 : decode cL_law 902 = .ok (.aload_n 0, 1) := by decide +kernel
theorem dL_law_903 : decode cL_law 903 = .ok (.iload_n 3, 1) := by decide +kernel
theorem dL_law_904 : decode cL_law 904 = .ok (.iconst 1, 1) := by decide +kernel
theorem dL_law_905 : decode cL_law 905 = .ok (.iadd, 1) := by decide +kernel
theorem dL_law_906 : decode cL_law 906 = .ok (.iaload, 1) := by decide +kernel
theorem dL_law_907 : decode cL_law 907 = .ok (.invokevirtual 125, 3) := by decide +kernel
theorem dL_law_910 : decode cL_law 910 = .ok (.if_icmp .eq 168, 3) := by decide +kernel
theorem dL_law_913 : decode cL_law 913 = .ok (.iconst 0, 1) := by decide +kernel
theorem dL_law_914 : decode cL_law 914 = .ok (.ireturn, 1) := by decide +kernel
theorem dL_law_915 : decode cL_law 915 = .ok (.aload_n 1, 1) := by decide +kernel
theorem dL_law_916 : decode cL_law 916 = .ok (.aload_n 0, 1) := by decide +kernel
theorem dL_law_917 : decode cL_law 917 = .ok (.iload_n 3, 1) := by decide +kernel
theorem dL_law_918 : decode cL_law 918 = .ok (.iconst 1, 1) := by decide +kernel
theorem dL_law_919 : decode cL_law 919 = .ok (.iadd, 1) := by decide +kernel
theorem dL_law_920 : decode cL_law 920 = .ok (.iaload, 1) := by decide +kernel
theorem dL_law_921 : decode cL_law 921 = .ok (.aload_n 0, 1) := by decide +kernel
theorem dL_law_922 : decode cL_law 922 = .ok (.iload_n 3, 1) := by decide +kernel
theorem dL_law_923 : decode cL_law 923 = .ok (.iconst 2, 1) := by decide +kernel
theorem dL_law_924 : decode cL_law 924 = .ok (.iadd, 1) := by decide +kernel
theorem dL_law_925 : decode cL_law 925 = .ok (.iaload, 1) := by decide +kernel
theorem dL_law_926 : decode cL_law 926 = .ok (.invokevirtual 126, 3) := by decide +kernel
theorem dL_law_929 : decode cL_law 929 = .ok (.aload_n 2, 1) := by decide +kernel
theorem dL_law_930 : decode cL_law 930 = .ok (.aload_n 0, 1) := by decide +kernel
theorem dL_law_931 : decode cL_law 931 = .ok (.iload_n 3, 1) := by decide +kernel
theorem dL_law_932 : decode cL_law 932 = .ok (.iconst 1, 1) := by decide +kernel
theorem dL_law_933 : decode cL_law 933 = .ok (.iadd, 1) := by decide +kernel
theorem dL_law_934 : decode cL_law 934 = .ok (.iaload, 1) := by decide +kernel
theorem dL_law_935 : decode cL_law 935 = .ok (.aload_n 0, 1) := by decide +kernel
theorem dL_law_936 : decode cL_law 936 = .ok (.iload_n 3, 1) := by decide +kernel
theorem dL_law_937 : decode cL_law 937 = .ok (.iconst 2, 1) := by decide +kernel
theorem dL_law_938 : decode cL_law 938 = .ok (.iadd, 1) := by decide +kernel
theorem dL_law_939 : decode cL_law 939 = .ok (.iaload, 1) := by decide +kernel
theorem dL_law_940 : decode cL_law 940 = .ok (.invokevirtual 129, 3) := by decide +kernel
theorem dL_law_943 : decode cL_law 943 = .ok (.if_icmp .eq 135, 3) := by decide +kernel
theorem dL_law_946 : decode cL_law 946 = .ok (.iconst 0, 1) := by decide +kernel
theorem dL_law_947 : decode cL_law 947 = .ok (.ireturn, 1) := by decide +kernel
theorem dL_law_948 : decode cL_law 948 = .ok (.aload_n 1, 1) := by decide +kernel
theorem dL_law_949 : decode cL_law 949 = .ok (.aload_n 0, 1) := by decide +kernel
theorem dL_law_950 : decode cL_law 950 = .ok (.iload_n 3, 1) := by decide +kernel
theorem dL_law_951 : decode cL_law 951 = .ok (.iconst 1, 1) := by decide +kernel
theorem dL_law_952 : decode cL_law 952 = .ok (.iadd, 1) := by decide +kernel
theorem dL_law_953 : decode cL_law 953 = .ok (.iaload, 1) := by decide +kernel
theorem dL_law_954 : decode cL_law 954 = .ok (.invokevirtual 130, 3) := by decide +kernel
theorem dL_law_957 : decode cL_law 957 = .ok (.aload_n 2, 1) := by decide +kernel
theorem dL_law_958 : decode cL_law 958 = .ok (.aload_n 0, 1) := by decide +kernel
theorem dL_law_959 : decode cL_law 959 = .ok (.iload_n 3, 1) := by decide +kernel
theorem dL_law_960 : decode cL_law 960 = .ok (.iconst 1, 1) := by decide +kernel
theorem dL_law_961 : decode cL_law 961 = .ok (.iadd, 1) := by decide +kernel
theorem dL_law_962 : decode cL_law 962 = .ok (.iaload, 1) := by decide +kernel
theorem dL_law_963 : decode cL_law 963 = .ok (.invokevirtual 134, 3) := by decide +kernel
theorem dL_law_966 : decode cL_law 966 = .ok (.lcmp, 1) := by decide +kernel
theorem dL_law_967 : decode cL_law 967 = .ok (.ifCond .eq 111, 3) := by decide +kernel
theorem dL_law_970 : decode cL_law 970 = .ok (.iconst 0, 1) := by decide +kernel
theorem dL_law_971 : decode cL_law 971 = .ok (.ireturn, 1) := by decide +kernel
theorem dL_law_972 : decode cL_law 972 = .ok (.aload_n 1, 1) := by decide +kernel
theorem dL_law_973 : decode cL_law 973 = .ok (.aload_n 0, 1) := by decide +kernel
theorem dL_law_974 : decode cL_law 974 = .ok (.iload_n 3, 1) := by decide +kernel
theorem dL_law_975 : decode cL_law 975 = .ok (.iconst 1, 1) := by decide +kernel
theorem dL_law_976 : decode cL_law 976 = .ok (.iadd, 1) := by decide +kernel
theorem dL_law_977 : decode cL_law 977 = .ok (.iaload, 1) := by decide +kernel
theorem dL_law_978 : decode cL_law 978 = .ok (.invokevirtual 135, 3) := by decide +kernel
theorem dL_law_981 : decode cL_law 981 = .ok (.aload_n 2, 1) := by decide +kernel
theorem dL_law_982 : decode cL_law 982 = .ok (.aload_n 0, 1) := by decide +kernel
theorem dL_law_983 : decode cL_law 983 = .ok (.iload_n 3, 1) := by decide +kernel
theorem dL_law_984 : decode cL_law 984 = .ok (.iconst 1, 1) := by decide +kernel
theorem dL_law_985 : decode cL_law 985 = .ok (.iadd, 1) := by decide +kernel
theorem dL_law_986 : decode cL_law 986 = .ok (.iaload, 1) := by decide +kernel
theorem dL_law_987 : decode cL_law 987 = .ok (.invokevirtual 138, 3) := by decide +kernel
theorem dL_law_990 : decode cL_law 990 = .ok (.if_icmp .eq 88, 3) := by decide +kernel
theorem dL_law_993 : decode cL_law 993 = .ok (.iconst 0, 1) := by decide +kernel
theorem dL_law_994 : decode cL_law 994 = .ok (.ireturn, 1) := by decide +kernel
theorem dL_law_995 : decode cL_law 995 = .ok (.aload_n 1, 1) := by decide +kernel
theorem dL_law_996 : decode cL_law 996 = .ok (.aload_n 0, 1) := by decide +kernel
theorem dL_law_997 : decode cL_law 997 = .ok (.iload_n 3, 1) := by decide +kernel
theorem dL_law_998 : decode cL_law 998 = .ok (.iconst 1, 1) := by decide +kernel
theorem dL_law_999 : decode cL_law 999 = .ok (.iadd, 1) := by decide +kernel
theorem dL_law_1000 : decode cL_law 1000 = .ok (.iaload, 1) := by decide +kernel
theorem dL_law_1001 : decode cL_law 1001 = .ok (.invokevirtual 139, 3) := by decide +kernel
theorem dL_law_1004 : decode cL_law 1004 = .ok (.aload_n 2, 1) := by decide +kernel
theorem dL_law_1005 : decode cL_law 1005 = .ok (.aload_n 0, 1) := by decide +kernel
theorem dL_law_1006 : decode cL_law 1006 = .ok (.iload_n 3, 1) := by decide +kernel
theorem dL_law_1007 : decode cL_law 1007 = .ok (.iconst 1, 1) := by decide +kernel
theorem dL_law_1008 : decode cL_law 1008 = .ok (.iadd, 1) := by decide +kernel
theorem dL_law_1009 : decode cL_law 1009 = .ok (.iaload, 1) := by decide +kernel
theorem dL_law_1010 : decode cL_law 1010 = .ok (.invokevirtual 142, 3) := by decide +kernel
theorem dL_law_1013 : decode cL_law 1013 = .ok (.if_icmp .eq 65, 3) := by decide +kernel
theorem dL_law_1016 : decode cL_law 1016 = .ok (.iconst 0, 1) := by decide +kernel
theorem dL_law_1017 : decode cL_law 1017 = .ok (.ireturn, 1) := by decide +kernel
theorem dL_law_1018 : decode cL_law 1018 = .ok (.aload_n 1, 1) := by decide +kernel
theorem dL_law_1019 : decode cL_law 1019 = .ok (.aload_n 0, 1) := by decide +kernel
theorem dL_law_1020 : decode cL_law 1020 = .ok (.iload_n 3, 1) := by decide +kernel
theorem dL_law_1021 : decode cL_law 1021 = .ok (.iconst 1, 1) := by decide +kernel
theorem dL_law_1022 : decode cL_law 1022 = .ok (.iadd, 1) := by decide +kernel
theorem dL_law_1023 : decode cL_law 1023 = .ok (.iaload, 1) := by decide +kernel
theorem dL_law_1024 : decode cL_law 1024 = .ok (.invokevirtual 143, 3) := by decide +kernel
theorem dL_law_1027 : decode cL_law 1027 = .ok (.aload_n 2, 1) := by decide +kernel
theorem dL_law_1028 : decode cL_law 1028 = .ok (.aload_n 0, 1) := by decide +kernel
theorem dL_law_1029 : decode cL_law 1029 = .ok (.iload_n 3, 1) := by decide +kernel
theorem dL_law_1030 : decode cL_law 1030 = .ok (.iconst 1, 1) := by decide +kernel
theorem dL_law_1031 : decode cL_law 1031 = .ok (.iadd, 1) := by decide +kernel
theorem dL_law_1032 : decode cL_law 1032 = .ok (.iaload, 1) := by decide +kernel
theorem dL_law_1033 : decode cL_law 1033 = .ok (.invokevirtual 146, 3) := by decide +kernel
theorem dL_law_1036 : decode cL_law 1036 = .ok (.if_icmp .eq 42, 3) := by decide +kernel
theorem dL_law_1039 : decode cL_law 1039 = .ok (.iconst 0, 1) := by decide +kernel
theorem dL_law_1040 : decode cL_law 1040 = .ok (.ireturn, 1) := by decide +kernel
theorem dL_law_1041 : decode cL_law 1041 = .ok (.aload_n 1, 1) := by decide +kernel
theorem dL_law_1042 : decode cL_law 1042 = .ok (.aload_n 0, 1) := by decide +kernel
theorem dL_law_1043 : decode cL_law 1043 = .ok (.iload_n 3, 1) := by decide +kernel
theorem dL_law_1044 : decode cL_law 1044 = .ok (.iconst 1, 1) := by decide +kernel
theorem dL_law_1045 : decode cL_law 1045 = .ok (.iadd, 1) := by decide +kernel
theorem dL_law_1046 : decode cL_law 1046 = .ok (.iaload, 1) := by decide +kernel
theorem dL_law_1047 : decode cL_law 1047 = .ok (.invokevirtual 147, 3) := by decide +kernel
theorem dL_law_1050 : decode cL_law 1050 = .ok (.aload_n 2, 1) := by decide +kernel
theorem dL_law_1051 : decode cL_law 1051 = .ok (.aload_n 0, 1) := by decide +kernel
theorem dL_law_1052 : decode cL_law 1052 = .ok (.iload_n 3, 1) := by decide +kernel
theorem dL_law_1053 : decode cL_law 1053 = .ok (.iconst 1, 1) := by decide +kernel
theorem dL_law_1054 : decode cL_law 1054 = .ok (.iadd, 1) := by decide +kernel
theorem dL_law_1055 : decode cL_law 1055 = .ok (.iaload, 1) := by decide +kernel
theorem dL_law_1056 : decode cL_law 1056 = .ok (.invokevirtual 150, 3) := by decide +kernel
theorem dL_law_1059 : decode cL_law 1059 = .ok (.if_icmp .eq 19, 3) := by decide +kernel
theorem dL_law_1062 : decode cL_law 1062 = .ok (.iconst 0, 1) := by decide +kernel
theorem dL_law_1063 : decode cL_law 1063 = .ok (.ireturn, 1) := by decide +kernel
theorem dL_law_1064 : decode cL_law 1064 = .ok (.aload_n 1, 1) := by decide +kernel
theorem dL_law_1065 : decode cL_law 1065 = .ok (.invokevirtual 151, 3) := by decide +kernel
theorem dL_law_1068 : decode cL_law 1068 = .ok (.aload_n 2, 1) := by decide +kernel
theorem dL_law_1069 : decode cL_law 1069 = .ok (.invokevirtual 155, 3) := by decide +kernel
theorem dL_law_1072 : decode cL_law 1072 = .ok (.lcmp, 1) := by decide +kernel
theorem dL_law_1073 : decode cL_law 1073 = .ok (.ifCond .eq 5, 3) := by decide +kernel
theorem dL_law_1076 : decode cL_law 1076 = .ok (.iconst 0, 1) := by decide +kernel
theorem dL_law_1077 : decode cL_law 1077 = .ok (.ireturn, 1) := by decide +kernel
theorem dL_law_1078 : decode cL_law 1078 = .ok (.iinc 3 5, 3) := by decide +kernel
theorem dL_law_1081 : decode cL_law 1081 = .ok (.goto (-1063), 3) := by decide +kernel
theorem dL_law_1084 : decode cL_law 1084 = .ok (.iconst 1, 1) := by decide +kernel
theorem dL_law_1085 : decode cL_law 1085 = .ok (.ireturn, 1) := by decide +kernel
end
section
/-! THE FRAME: an abstract heap (kinds and sizes of the cells; what they hold by cell and place, as ints, longs, references), how the machine's heap shows it, and the judgement xJ: 'if the pure computation o answers x, the machine goes as x says'. -/
abbrev Hp : Type := List (Nat × Nat) × (Nat → Nat → Int32) × (Nat → Nat → Int64) × (Nat → Nat → Option Nat)
def xn (h : Hp) : Nat := h.1.length
def xm (h : Hp) : Nat := (h.1.map Prod.snd).sum
/-- what the claim's start fixes: the first address of ours, the classes' numbers and slots, the array classes, where the literals lie -/
abbrev xEnv : Type := Nat × va_G × (Nat → ClassId) × (Nat → Nat) × (Nat → Nat)
def xA (η : xEnv) : Nat → Prop := fun q => η.1 ≤ q
/-- abstract values: a reference is a cell's number; a 'float' is a literal's number (the program has no floats) -/
def cv (η : xEnv) : Value → Value
  | .ref k => .ref (η.1 + k)
  | .float i => .ref (η.2.2.2.1 i.toNat)
  | v => v
def cq (η : xEnv) (q : Nat × Value) : Nat × Value := (q.1, cv η q.2)
theorem cv_cat (η : xEnv) (v : Value) : (cv η v).category = v.category := by cases v <;> rfl
def xty (ci : Nat) : Nat → FieldType := match ci with
  | 0 => tyX0
  | 1 => tyX1
  | 2 => tyX2
  | 3 => tyX3
  | 4 => tyX4
  | 5 => tyX5
  | 6 => tyX6
  | 7 => tyX7
  | 8 => tyX8
  | _ => tyX9
def xv (η : xEnv) (h : Hp) (k : Nat) (ty : FieldType) (j : Nat) : Value := match ty with
  | .long => .long (h.2.2.1 k j)
  | .object _ => va_rf ((h.2.2.2 k j).map (fun r => η.1 + r))
  | .array _ => va_rf ((h.2.2.2 k j).map (fun r => η.1 + r))
  | _ => .int (h.2.1 k j)
def xfs (η : xEnv) (h : Hp) (k : Nat) (ci N : Nat) : List Value := (List.range N).map (fun j => xv η h k (xty ci j) j)
def xe (η : xEnv) (h : Hp) (k : Nat) (s : Nat × Nat) : va_E :=
  if s.1 = 10 then .inl (η.2.2.1 0, s.2, .inl (h.2.1 k))
  else if s.1 = 11 then .inl (η.2.2.1 1, s.2, .inl (h.2.1 k))
  else if s.1 = 12 then .inl (η.2.2.1 2, s.2, .inr (.inr (.inr (.inr (fun j => (h.2.2.2 k j).map (fun r => η.1 + r))))))
  else if s.1 = 13 then .inl (η.2.2.1 3, s.2, .inr (.inr (.inr (.inr (fun j => (h.2.2.2 k j).map (fun r => η.1 + r))))))
  else .inr (s.1, xfs η h k s.1 s.2)
def xw (η : xEnv) (h : Hp) : va_W := h.1.mapIdx (fun k s => (η.1 + k, xe η h k s))
def xt (η : xEnv) : List (ClassId × FieldType) := [(η.2.2.1 0, .int), (η.2.2.1 1, .boolean), (η.2.2.1 2, .object RX0), (η.2.2.1 3, .object RX5)]
theorem xw_get {η : xEnv} {h : Hp} {k : Nat} {s : Nat × Nat} (hk : h.1[k]? = some s) : (xw η h)[k]? = some (η.1 + k, xe η h k s) := by
  simp [xw, List.getElem?_mapIdx, hk]
theorem xw_inv {η : xEnv} {h : Hp} {k : Nat} {q : Nat × va_E} (hq : (xw η h)[k]? = some q) : ∃ s, h.1[k]? = some s ∧ q = (η.1 + k, xe η h k s) := by
  simp only [xw, List.getElem?_mapIdx, Option.map_eq_some_iff] at hq
  obtain ⟨s, h1, h2⟩ := hq
  exact ⟨s, h1, h2.symm⟩
theorem xw_len (η : xEnv) (h : Hp) : (xw η h).length = xn h := by simp [xw, xn]
theorem xw_D (η : xEnv) (h : Hp) : va_D (xA η) (xw η h) := by
  refine ⟨fun i j p q hi hj e => ?_, fun k q hk => ?_⟩
  · obtain ⟨_, -, rfl⟩ := xw_inv hi
    obtain ⟨_, -, rfl⟩ := xw_inv hj
    have e' : η.1 + i = η.1 + j := e
    omega
  · obtain ⟨_, -, rfl⟩ := xw_inv hk
    exact Nat.le_add_right _ _
/-- the words that every method has: the tables' steady ones -/
def xT : List Cond := lw_tbl.filter (fun w => goodWord w)
theorem xT_mem {w : Cond} (h : w ∈ lw_tbl) (g : goodWord w = true) : w ∈ xT := List.mem_filter.mpr ⟨h, g⟩
theorem xT_of {w : Cond} (h : w ∈ tables_1) (g : goodWord w = true) : w ∈ xT := xT_mem (List.mem_append_right _ h) g
theorem xT_good {y : MethodName} {b : ByteArray} {n : Nat} {ret : Option FieldType} (h : Cond.code y b n ret ∈ xT) : GoodIn xT (Cond.code y b n ret :: xT) := by
  intro w hw
  have hx : w ∈ xT := (List.mem_cons.mp hw).elim (fun e => e ▸ h) id
  exact ⟨hx, good_of_word (List.mem_filter.mp hx).2⟩
/-- what is carried of the tables beside the steady words -/
def xnest : List Cond := lw_tbl.filter (fun w => match w with | .methodLinkNest .. => true | _ => false)
def xlit : List Nat := [3, 6, 4, 7]
def xbyt : List (List Int32) := [[98, 117, 115], [98, 114, 105, 100, 103, 101], [105, 100, 101, 97], [113, 117, 97, 114, 114, 101, 108]]
def xU (η : xEnv) (U : State) : Prop :=
  va_K η.2.1 vwCl (xt η) U ∧ (∀ w ∈ xnest, va_Nw w U) ∧ (va_AO RX5 U ∧ va_AO RX0 U) ∧
  (vk_R RX4 35 "bus" (η.2.2.2.1 0) U ∧ vk_R RX4 54 "bridge" (η.2.2.2.1 1) U ∧ vk_R RX4 59 "idea" (η.2.2.2.1 2) U ∧ vk_R RX4 64 "quarrel" (η.2.2.2.1 3) U) ∧
  vk_S 4 xlit xbyt η.2.2.2.1 η.2.2.2.2 (xA η) U U.heap ∧ va_Z "java/lang/String" "COMPACT_STRINGS" "Z" (.int 1) (xA η) U U.heap
end
section
theorem xU_blind {η : xEnv} {U : State} {g : JFrame} {mk : MethodId} {a : Array Value} (h : xU η U) : xU η (U.calling g mk a) := by
  obtain ⟨h1, h2, ⟨h3, h4⟩, ⟨r1, r2, r3, r4⟩, h6, h7⟩ := h
  refine ⟨va_K.moved (u := U) (U := U.calling g mk a) (Vm.Alike.refl U.vm) h1, fun w hw => ?_, ⟨va_AO.moved (u := U) (U := U.calling g mk a) (Vm.Alike.refl U.vm) h3, va_AO.moved (u := U) (U := U.calling g mk a) (Vm.Alike.refl U.vm) h4⟩, ⟨r1.same rfl, r2.same rfl, r3.same rfl, r4.same rfl⟩, vk_S.moved (u := U) (U := U.calling g mk a) (Vm.Alike.refl U.vm) h6, va_Z.moved (u := U) (U := U.calling g mk a) (Vm.Alike.refl U.vm) h7⟩
  have hn := (List.mem_filter.mp hw).2
  have ho : w.onTables = true := by cases w <;> first | rfl | (simp at hn)
  exact va_Nw.same ho (u := U) (U := U.calling g mk a) rfl (h2 w hw)
theorem xU_at {η : xEnv} {s U : State} {H : Heap} {locs : List Loc} (h : xU η s) (hS : va_S (xA η) s.heap H locs) (hU : U.heap = H) (hW : s.WarmedH U.vm) : xU η U := by
  obtain ⟨h1, h2, ⟨h3, h4⟩, ⟨r1, r2, r3, r4⟩, h6, h7⟩ := h
  refine ⟨va_K.moved hW.alike h1, fun w hw => ?_, ⟨va_AO.moved hW.alike h3, va_AO.moved hW.alike h4⟩, ⟨r1.warm hW, r2.warm hW, r3.warm hW, r4.warm hW⟩, vk_S.moved hW.alike (vk_S.kept h6 (fun a h1 h2 => by rw [hU]; exact hS.2.1 a h1 h2)), va_Z.moved hW.alike (va_Z.kept h7 (fun a h1 h2 => by rw [hU]; exact hS.2.1 a h1 h2))⟩
  have hn := (List.mem_filter.mp hw).2
  cases w with
  | methodLinkNest a i x b => exact va_Nw.warmM hW (h2 _ hw)
  | _ => simp at hn
/-- a method's own data: code, class, name, answer's type, locals, how deep its calls go -/
abbrev xI : Type := ByteArray × String × String × Option FieldType × Nat × Nat
/-- a call's data: the launch, the start, the counts at its begin, its answer and the heap at its end -/
abbrev xK : Type := Launch × xEnv × (Nat × Nat) × (Option Value × Hp)
def xR (ι : xI) (κ : xK) : Jvm.Room := { frames := ι.2.2.2.2.2, cells := xn κ.2.2.2.2 - κ.2.2.1.1, slots := xm κ.2.2.2.2 - κ.2.2.1.2, locals := 60 * ι.2.2.2.2.2 }
/-- what a contract's end says: the answer, the heap as the abstract one, nothing else changed -/
def xQ (η : xEnv) (r : Option Value) (hf : Hp) : Array Value → State → Outcome → State → Prop := fun _ st oc t =>
  oc = .returned (r.map (cv η)) ∧ va_P η.2.1 vwCl (xw η hf) t.heap ∧ va_F (xA η) st t
def xZ (κ : xK) (below : List Frame) (args : Array Value) (s : State) : State → Prop := MQ below (xQ κ.2.1 κ.2.2.2.1 κ.2.2.2.2) args s (xn κ.2.2.2.2 - κ.2.2.1.1) (xm κ.2.2.2.2 - κ.2.2.1.2) (xA κ.2.1)
/-- what is known in a method's body -/
def xAm (ι : xI) (κ : xK) (p : Program) (s : State) (m : MethodId) (args : Array Value) (meth : Method) (c : Code) : Prop :=
  p.tables.exec = Jvm.exec ∧ c.code = ι.1 ∧ meth.sig.returnType = ι.2.2.2.1 ∧ c.maxLocals = ι.2.2.2.2.1 ∧
  s.vm.findClass ι.2.1 = some m.cls ∧ (∀ w ∈ xT, w.before args s = true) ∧ meth.locks = false ∧ meth.name = ι.2.2.1 ∧
  xU κ.2.1 s ∧ s.heap.size = κ.2.1.1 + κ.2.2.1.1
def xG (ι : xI) (κ : xK) (pc : Nat) (L : List (Nat × Value)) (st : List Value) (h : Hp) : Prop :=
  κ.2.2.1.1 ≤ xn h → κ.2.2.1.2 ≤ xm h → ∀ (p : Program) (e : Env) (s : State) (m : MethodId) (args : Array Value) (below : List Frame) (meth : Method) (c : Code), xAm ι κ p s m args meth c →
  ∀ (H : Heap) (locs : List Loc) (ls : Array Slot), lv_has ls ι.2.2.2.2.1 (L.map (cq κ.2.1)) → va_P κ.2.1.2.1 vwCl (xw κ.2.1 h) H → va_S (xA κ.2.1) s.heap H locs →
    W p κ.1 e (xR ι κ) s m args below meth c H locs (xn h - κ.2.2.1.1) (xm h - κ.2.2.1.2) (xZ κ below args s) (F0 m pc ls (st.map (cv κ.2.1)))
def xB (κ : xK) (h : Hp) : Prop := xn h ≤ xn κ.2.2.2.2 ∧ xm h ≤ xm κ.2.2.2.2
def xJ {X : Type} (ι : xI) (κ : xK) (K : X → Prop) (pc : Nat) (L : List (Nat × Value)) (st : List Value) (h : Hp) (o : Option X) : Prop :=
  ∀ x, o = some x → K x → xB κ h ∧ xG ι κ pc L st h
/-- A CONTRACT: with these abstract arguments, from this abstract heap, method y answers r and leaves the abstract heap hf; d: how deep its calls go -/
def xC (l : Launch) (η : xEnv) (y : MethodName) (b : ByteArray) (n : Nat) (ret : Option FieldType) (d : Nat) (as : List Value) (h : Hp) (r : Option Value) (hf : Hp) : Prop :=
  (xn h ≤ xn hf ∧ xm h ≤ xm hf) ∧
  Met l y (Cond.code y b n ret :: xT) ({ frames := d, cells := xn hf - xn h, slots := xm hf - xm h, locals := 60 * d } : Jvm.Room)
    (va_Pc (as.map (cv η)) (fun U => U.heap.size = η.1 + xn h ∧ va_P η.2.1 vwCl (xw η h) U.heap ∧ xU η U)) (xQ η r hf) (xn hf - xn h) (xm hf - xm h) (xA η)
theorem xw_size {η : xEnv} {h : Hp} {H : Heap} (hP : va_P η.2.1 vwCl (xw η h) H) (hz : η.1 ≤ H.size) : η.1 + xn h ≤ H.size := by
  rcases Nat.eq_zero_or_pos (xn h) with h0 | h0
  · omega
  · have hl : xn h - 1 < h.1.length := by unfold xn at h0 ⊢; omega
    have h1 := (hP (xn h - 1) _ (xw_get (List.getElem?_eq_getElem hl))).lt
    have h2 : η.1 + (xn h - 1) < H.size := h1
    omega
/-- the heap's size, out of the counts -/
theorem xW_size {p : Program} {l : Launch} {e : Env} {R : Jvm.Room} {s : State} {m : MethodId} {args : Array Value} {below : List Frame} {meth : Method} {c : Code} {H : Heap} {locs : List Loc} {cells slots : Nat} {Q : State → Prop} {g : JFrame} (k : H.size ≤ s.heap.size + cells → W p l e R s m args below meth c H locs cells slots Q g) : W p l e R s m args below meth c H locs cells slots Q g := by
  intro T hT X
  have h := X.same.2.2.1
  have h2 : H.size ≤ s.heap.size + cells := by rw [← hT]; exact h
  exact k h2 T hT X
theorem lv_args_cv (η : xEnv) : ∀ (as : List Value) (i : Nat), lv_args i (as.map (cv η)) = (lv_args i as).map (cq η)
  | [], _ => rfl
  | v :: vs, i => by
    show (i, cv η v) :: lv_args (if (cv η v).category = 2 then i + 2 else i + 1) (vs.map (cv η)) = (i, cv η v) :: (lv_args (if v.category = 2 then i + 2 else i + 1) vs).map (cq η)
    rw [cv_cat, lv_args_cv η vs]
theorem lg_sl_cv (η : xEnv) : ∀ (as : List Value), (lg_sl (as.map (cv η))).length = (lg_sl as).length
  | [] => rfl
  | v :: vs => by
    have ih := lg_sl_cv η vs
    simp only [lg_sl, List.map_cons, List.flatMap_cons, List.length_append, cv_cat] at ih ⊢
    rw [ih]
    split <;> rfl
/-- a contract out of the body's walk -/
theorem xC_of {l : Launch} {η : xEnv} {y : MethodName} {b : ByteArray} {n d : Nat} {ret : Option FieldType} {as : List Value} {h : Hp} {r : Option Value} {hf : Hp} {X : Type} {x : X} {o : Option X}
    (hy : plainName y.cls = true) (hn : (lg_sl as).length ≤ n) (ho : o = some x) (K : xK → X → Prop) (hK : K (l, η, (xn h, xm h), (r, hf)) x)
    (body : ∀ κ : xK, xJ (b, y.cls, y.name, ret, n, d) κ (K κ) 0 (lv_args 0 as) [] h o) : xC l η y b n ret d as h r hf := by
  obtain ⟨hB, hG⟩ := body (l, η, (xn h, xm h), (r, hf)) x ho hK
  refine ⟨hB, Met.ofW (cc := b) (maxL := n) (ret := ret) hy rfl ?_⟩
  intro p e s m args below meth c s₁ B hml hv
  obtain ⟨rfl, hsz, hP, hU⟩ := hv
  have hts := atoms_spec (ws := Cond.code y b n ret :: xT) B.pre
  have hl := lv_entry (as.map (cv η)) (n := n) (by rw [lg_sl_cv]; exact hn)
  rw [lg_entry_eq]
  have hk := hG (Nat.le_refl _) (Nat.le_refl _) p e s m _ below meth c ⟨B.exec, B.bytes, B.returns, hml, findClass_of_methodNamed B.named, fun w hw => hts w (List.mem_cons_of_mem _ hw), B.notSynchronized, (name_of_methodNamed B.named B.method).1, hU, hsz⟩ s.heap [] _ (by rw [← lv_args_cv]; exact hl) hP va_S.rf
  rw [Nat.sub_self, Nat.sub_self] at hk
  exact hk
end
section
theorem xl_at {η : xEnv} {ls : Array Slot} {nL : Nat} {L : List (Nat × Value)} (h : lv_has ls nL (L.map (cq η))) {j i : Nat} {v : Value} (hj : L[j]? = some (i, v)) : ls[i]? = some (.val (cv η v)) := lv_at h j (by rw [List.getElem?_map, hj]; rfl)
theorem xl_f1 (η : xEnv) (i : Nat) : ∀ L : List (Nat × Value), (L.map (cq η)).filter (fun q => !(q.1 == i) && !(q.1 + 1 == i && q.2.category == 2)) = (L.filter (fun q => !(q.1 == i) && !(q.1 + 1 == i && q.2.category == 2))).map (cq η)
  | [] => rfl
  | q :: L => by
    have ih := xl_f1 η i L
    simp only [List.map_cons, List.filter_cons, cq, cv_cat] at ih ⊢
    split <;> simp_all [cq]
theorem xl_f2 (η : xEnv) (i : Nat) : ∀ L : List (Nat × Value), (L.map (cq η)).filter (fun q => !(q.1 == i) && (!(q.1 == i + 1) && !(q.1 + 1 == i && q.2.category == 2))) = (L.filter (fun q => !(q.1 == i) && (!(q.1 == i + 1) && !(q.1 + 1 == i && q.2.category == 2)))).map (cq η)
  | [] => rfl
  | q :: L => by
    have ih := xl_f2 η i L
    simp only [List.map_cons, List.filter_cons, cq, cv_cat] at ih ⊢
    split <;> simp_all [cq]
section XR
variable {X : Type} {ι : xI} {κ : xK} {K : X → Prop} {pc : Nat} {L L' : List (Nat × Value)} {st : List Value} {h : Hp} {o : Option X}
/-- fewer locals, in another order -/
theorem j_pick (ks : List Nat) (hl : lv_pick L ks = L') (k : xJ ι κ K pc L' st h o) : xJ ι κ K pc L st h o := fun v e kv => ⟨(k v e kv).1, fun a b p e' s m args below meth c hA H locs ls h1 h2 h3 => (k v e kv).2 a b p e' s m args below meth c hA H locs ls (by
  refine ⟨h1.1, h1.2.1, fun q hq => ?_⟩
  rw [← hl] at hq
  obtain ⟨q0, hq0, rfl⟩ := List.mem_map.mp hq
  obtain ⟨k, -, hk⟩ := List.mem_filterMap.mp hq0
  exact h1.2.2 _ (List.mem_map.mpr ⟨q0, List.mem_of_getElem? hk, rfl⟩)) h2 h3⟩
/-- a place that is come to from several sides -/
theorem j_have {α : Type} {Lf : α → List (Nat × Value)} {Sf : α → List Value} {Hf : α → Hp} {jf : α → Option X} {pj : Nat} (hj : ∀ a, xJ ι κ K pj (Lf a) (Sf a) (Hf a) (jf a)) (kk : (∀ a, xJ ι κ K pj (Lf a) (Sf a) (Hf a) (jf a)) → xJ ι κ K pc L st h o) : xJ ι κ K pc L st h o := kk hj
/-- a loop with fuel -/
def xloop {σ ρ : Type} (body : σ → Option (σ ⊕ ρ)) : Nat → σ → Option ρ
  | 0, _ => none
  | n + 1, s => match body s with
    | none => none
    | some (.inl s') => xloop body n s'
    | some (.inr r) => some r
def xKl {σ ρ : Type} (ι : xI) (κ : xK) (K : X → Prop) (pc : Nat) (Lf : σ → List (Nat × Value)) (Hf : σ → Hp) (k : ρ → Option X) : σ ⊕ ρ → Prop
  | .inl s => xB κ (Hf s) ∧ xG ι κ pc (Lf s) [] (Hf s)
  | .inr r => ∃ x, k r = some x ∧ K x
theorem j_loop {σ ρ : Type} {body : σ → Option (σ ⊕ ρ)} {k : ρ → Option X} {Lf : σ → List (Nat × Value)} {Hf : σ → Hp} (hb : ∀ s, xJ ι κ (xKl ι κ K pc Lf Hf k) pc (Lf s) [] (Hf s) (body s)) : ∀ (n : Nat) (s : σ), xJ ι κ K pc (Lf s) [] (Hf s) ((xloop body n s).bind k)
  | 0, s => fun x e _ => by simp [xloop] at e
  | n + 1, s => fun x e kx => by
    cases hs : body s with
    | none => simp [xloop, hs] at e
    | some v =>
      cases v with
      | inl s' =>
        simp only [xloop, hs] at e
        exact hb s (.inl s') hs (j_loop hb n s' x e kx)
      | inr r =>
        simp only [xloop, hs, Option.bind_some] at e
        exact hb s (.inr r) hs ⟨x, e, kx⟩
/-- the loop goes on: its head is reached again -/
theorem j_again {σ ρ : Type} {k : ρ → Option X} {Lf : σ → List (Nat × Value)} {Hf : σ → Hp} (s : σ) (hL : L = Lf s) (hH : h = Hf s) : xJ ι κ (xKl ι κ K pc Lf Hf k) pc L [] h (some (.inl s)) := by
  subst hL; subst hH
  intro x e kx
  cases e
  exact kx
/-- the loop is left -/
theorem j_exit {σ ρ : Type} {k : ρ → Option X} {Lf : σ → List (Nat × Value)} {Hf : σ → Hp} {pl : Nat} (r : ρ) (hr : xJ ι κ K pc L st h (k r)) : xJ ι κ (xKl ι κ K pl Lf Hf k) pc L st h (some (.inr r)) := by
  intro x e kx
  cases e
  obtain ⟨x2, e2, k2⟩ := kx
  exact hr x2 e2 k2

theorem j_iadd {x y : Int32} (hd : decode ι.1 pc = .ok (.iadd, 1)) (k : xJ ι κ K (pc + 1) L (.int (x + y) :: st) h o) : xJ ι κ K pc L (.int y :: .int x :: st) h o := fun v e kv => ⟨(k v e kv).1, fun a b p e' s m args below meth c hA H locs ls h1 h2 h3 => lv_iadd hA.1 hA.2.1 hd ((k v e kv).2 a b p e' s m args below meth c hA H locs ls h1 h2 h3)⟩
theorem j_isub {x y : Int32} (hd : decode ι.1 pc = .ok (.isub, 1)) (k : xJ ι κ K (pc + 1) L (.int (x - y) :: st) h o) : xJ ι κ K pc L (.int y :: .int x :: st) h o := fun v e kv => ⟨(k v e kv).1, fun a b p e' s m args below meth c hA H locs ls h1 h2 h3 => lv_isub hA.1 hA.2.1 hd ((k v e kv).2 a b p e' s m args below meth c hA H locs ls h1 h2 h3)⟩
theorem j_imul {x y : Int32} (hd : decode ι.1 pc = .ok (.imul, 1)) (k : xJ ι κ K (pc + 1) L (.int (x * y) :: st) h o) : xJ ι κ K pc L (.int y :: .int x :: st) h o := fun v e kv => ⟨(k v e kv).1, fun a b p e' s m args below meth c hA H locs ls h1 h2 h3 => lv_imul hA.1 hA.2.1 hd ((k v e kv).2 a b p e' s m args below meth c hA H locs ls h1 h2 h3)⟩
theorem j_iand {x y : Int32} (hd : decode ι.1 pc = .ok (.iand, 1)) (k : xJ ι κ K (pc + 1) L (.int (x &&& y) :: st) h o) : xJ ι κ K pc L (.int y :: .int x :: st) h o := fun v e kv => ⟨(k v e kv).1, fun a b p e' s m args below meth c hA H locs ls h1 h2 h3 => lv_iand hA.1 hA.2.1 hd ((k v e kv).2 a b p e' s m args below meth c hA H locs ls h1 h2 h3)⟩
theorem j_ior {x y : Int32} (hd : decode ι.1 pc = .ok (.ior, 1)) (k : xJ ι κ K (pc + 1) L (.int (x ||| y) :: st) h o) : xJ ι κ K pc L (.int y :: .int x :: st) h o := fun v e kv => ⟨(k v e kv).1, fun a b p e' s m args below meth c hA H locs ls h1 h2 h3 => lv_ior hA.1 hA.2.1 hd ((k v e kv).2 a b p e' s m args below meth c hA H locs ls h1 h2 h3)⟩
theorem j_ixor {x y : Int32} (hd : decode ι.1 pc = .ok (.ixor, 1)) (k : xJ ι κ K (pc + 1) L (.int (x ^^^ y) :: st) h o) : xJ ι κ K pc L (.int y :: .int x :: st) h o := fun v e kv => ⟨(k v e kv).1, fun a b p e' s m args below meth c hA H locs ls h1 h2 h3 => lv_ixor hA.1 hA.2.1 hd ((k v e kv).2 a b p e' s m args below meth c hA H locs ls h1 h2 h3)⟩
theorem j_ishl {x y : Int32} (hd : decode ι.1 pc = .ok (.ishl, 1)) (k : xJ ι κ K (pc + 1) L (.int (x <<< (y &&& 31)) :: st) h o) : xJ ι κ K pc L (.int y :: .int x :: st) h o := fun v e kv => ⟨(k v e kv).1, fun a b p e' s m args below meth c hA H locs ls h1 h2 h3 => lv_ishl hA.1 hA.2.1 hd ((k v e kv).2 a b p e' s m args below meth c hA H locs ls h1 h2 h3)⟩
theorem j_ishr {x y : Int32} (hd : decode ι.1 pc = .ok (.ishr, 1)) (k : xJ ι κ K (pc + 1) L (.int (x >>> (y &&& 31)) :: st) h o) : xJ ι κ K pc L (.int y :: .int x :: st) h o := fun v e kv => ⟨(k v e kv).1, fun a b p e' s m args below meth c hA H locs ls h1 h2 h3 => lv_ishr hA.1 hA.2.1 hd ((k v e kv).2 a b p e' s m args below meth c hA H locs ls h1 h2 h3)⟩
theorem j_iushr {x y : Int32} (hd : decode ι.1 pc = .ok (.iushr, 1)) (k : xJ ι κ K (pc + 1) L (.int (x.toUInt32 >>> (y.toUInt32 &&& Int32.toUInt32 31)).toInt32 :: st) h o) : xJ ι κ K pc L (.int y :: .int x :: st) h o := fun v e kv => ⟨(k v e kv).1, fun a b p e' s m args below meth c hA H locs ls h1 h2 h3 => lv_iushr hA.1 hA.2.1 hd rfl ((k v e kv).2 a b p e' s m args below meth c hA H locs ls h1 h2 h3)⟩
theorem j_ladd {x y : Int64} (hd : decode ι.1 pc = .ok (.ladd, 1)) (k : xJ ι κ K (pc + 1) L (.long (x + y) :: st) h o) : xJ ι κ K pc L (.long y :: .long x :: st) h o := fun v e kv => ⟨(k v e kv).1, fun a b p e' s m args below meth c hA H locs ls h1 h2 h3 => lv_ladd hA.1 hA.2.1 hd ((k v e kv).2 a b p e' s m args below meth c hA H locs ls h1 h2 h3)⟩
theorem j_lmul {x y : Int64} (hd : decode ι.1 pc = .ok (.lmul, 1)) (k : xJ ι κ K (pc + 1) L (.long (x * y) :: st) h o) : xJ ι κ K pc L (.long y :: .long x :: st) h o := fun v e kv => ⟨(k v e kv).1, fun a b p e' s m args below meth c hA H locs ls h1 h2 h3 => lv_lmul hA.1 hA.2.1 hd ((k v e kv).2 a b p e' s m args below meth c hA H locs ls h1 h2 h3)⟩
theorem j_lcmp {x y : Int64} (hd : decode ι.1 pc = .ok (.lcmp, 1)) (k : xJ ι κ K (pc + 1) L (.int (lg_cmp x y) :: st) h o) : xJ ι κ K pc L (.long y :: .long x :: st) h o := fun v e kv => ⟨(k v e kv).1, fun a b p e' s m args below meth c hA H locs ls h1 h2 h3 => W.lcmp hA.1 hA.2.1 hd ((k v e kv).2 a b p e' s m args below meth c hA H locs ls h1 h2 h3)⟩
theorem j_i2l {x : Int32} (hd : decode ι.1 pc = .ok (.i2l, 1)) (k : xJ ι κ K (pc + 1) L (.long x.toInt64 :: st) h o) : xJ ι κ K pc L (.int x :: st) h o := fun v e kv => ⟨(k v e kv).1, fun a b p e' s m args below meth c hA H locs ls h1 h2 h3 => lv_i2l hA.1 hA.2.1 hd rfl ((k v e kv).2 a b p e' s m args below meth c hA H locs ls h1 h2 h3)⟩
theorem j_l2i {x : Int64} (hd : decode ι.1 pc = .ok (.l2i, 1)) (k : xJ ι κ K (pc + 1) L (.int x.toInt32 :: st) h o) : xJ ι κ K pc L (.long x :: st) h o := fun v e kv => ⟨(k v e kv).1, fun a b p e' s m args below meth c hA H locs ls h1 h2 h3 => lv_l2i hA.1 hA.2.1 hd rfl ((k v e kv).2 a b p e' s m args below meth c hA H locs ls h1 h2 h3)⟩
theorem j_iconst {n : Int} {x : Int32} (hd : decode ι.1 pc = .ok (.iconst n, 1)) (hx : Int32.ofInt n = x) (k : xJ ι κ K (pc + 1) L (.int x :: st) h o) : xJ ι κ K pc L (st) h o := fun v e kv => ⟨(k v e kv).1, fun a b p e' s m args below meth c hA H locs ls h1 h2 h3 => lv_iconst hA.1 hA.2.1 hd hx ((k v e kv).2 a b p e' s m args below meth c hA H locs ls h1 h2 h3)⟩
theorem j_bipush {n : Int} {x : Int32} (hd : decode ι.1 pc = .ok (.bipush n, 2)) (hx : (Int8.ofInt n).toInt32 = x) (k : xJ ι κ K (pc + 2) L (.int x :: st) h o) : xJ ι κ K pc L (st) h o := fun v e kv => ⟨(k v e kv).1, fun a b p e' s m args below meth c hA H locs ls h1 h2 h3 => lv_bipush hA.1 hA.2.1 hd hx ((k v e kv).2 a b p e' s m args below meth c hA H locs ls h1 h2 h3)⟩
theorem j_sipush {n : Int} {x : Int32} (hd : decode ι.1 pc = .ok (.sipush n, 3)) (hx : (Int16.ofInt n).toInt32 = x) (k : xJ ι κ K (pc + 3) L (.int x :: st) h o) : xJ ι κ K pc L (st) h o := fun v e kv => ⟨(k v e kv).1, fun a b p e' s m args below meth c hA H locs ls h1 h2 h3 => lv_sipush hA.1 hA.2.1 hd hx ((k v e kv).2 a b p e' s m args below meth c hA H locs ls h1 h2 h3)⟩
theorem j_lconst {n : Fin 2} {x : Int64} (hd : decode ι.1 pc = .ok (.lconst n, 1)) (hx : Int64.ofNat (n : Nat) = x) (k : xJ ι κ K (pc + 1) L (.long x :: st) h o) : xJ ι κ K pc L (st) h o := fun v e kv => ⟨(k v e kv).1, fun a b p e' s m args below meth c hA H locs ls h1 h2 h3 => lv_lconst hA.1 hA.2.1 hd hx ((k v e kv).2 a b p e' s m args below meth c hA H locs ls h1 h2 h3)⟩
theorem j_ldc {i : Nat} {x : Int32} (hd : decode ι.1 pc = .ok (.ldc i, 2)) (hx : Cond.constant ι.2.1 i x ∈ xT) (k : xJ ι κ K (pc + 2) L (.int x :: st) h o) : xJ ι κ K pc L (st) h o := fun v e kv => ⟨(k v e kv).1, fun a b p e' s m args below meth c hA H locs ls h1 h2 h3 => lv_ldc hA.1 hA.2.1 hA.2.2.2.2.1 (hA.2.2.2.2.2.1 _ hx) hd ((k v e kv).2 a b p e' s m args below meth c hA H locs ls h1 h2 h3)⟩
theorem j_ldcw {i : Nat} {x : Int32} (hd : decode ι.1 pc = .ok (.ldc_w i, 3)) (hx : Cond.constant ι.2.1 i x ∈ xT) (k : xJ ι κ K (pc + 3) L (.int x :: st) h o) : xJ ι κ K pc L (st) h o := fun v e kv => ⟨(k v e kv).1, fun a b p e' s m args below meth c hA H locs ls h1 h2 h3 => lv_ldcw hA.1 hA.2.1 hA.2.2.2.2.1 (hA.2.2.2.2.2.1 _ hx) hd ((k v e kv).2 a b p e' s m args below meth c hA H locs ls h1 h2 h3)⟩
theorem j_ldc2 {i : Nat} {x : Int64} (hd : decode ι.1 pc = .ok (.ldc2_w i, 3)) (hx : Cond.constantLong ι.2.1 i x ∈ xT) (k : xJ ι κ K (pc + 3) L (.long x :: st) h o) : xJ ι κ K pc L (st) h o := fun v e kv => ⟨(k v e kv).1, fun a b p e' s m args below meth c hA H locs ls h1 h2 h3 => lv_ldc2 hA.1 hA.2.1 hA.2.2.2.2.1 (hA.2.2.2.2.2.1 _ hx) hd ((k v e kv).2 a b p e' s m args below meth c hA H locs ls h1 h2 h3)⟩
theorem j_dup {v0 : Value} (hd : decode ι.1 pc = .ok (.dup, 1)) (hv : v0.category = 1) (k : xJ ι κ K (pc + 1) L (v0 :: v0 :: st) h o) : xJ ι κ K pc L (v0 :: st) h o := fun v e kv => ⟨(k v e kv).1, fun a b p e' s m args below meth c hA H locs ls h1 h2 h3 => lv_dup hA.1 hA.2.1 hd (by rw [cv_cat]; exact hv) ((k v e kv).2 a b p e' s m args below meth c hA H locs ls h1 h2 h3)⟩
theorem j_dup2 {v0 v1 : Value} (hd : decode ι.1 pc = .ok (.dup2, 1)) (hv : v0.category = 1) (hv1 : v1.category = 1) (k : xJ ι κ K (pc + 1) L (v0 :: v1 :: v0 :: v1 :: st) h o) : xJ ι κ K pc L (v0 :: v1 :: st) h o := fun v e kv => ⟨(k v e kv).1, fun a b p e' s m args below meth c hA H locs ls h1 h2 h3 => lv_dup2_11 hA.1 hA.2.1 hd (by rw [cv_cat]; exact hv) (by rw [cv_cat]; exact hv1) ((k v e kv).2 a b p e' s m args below meth c hA H locs ls h1 h2 h3)⟩
theorem j_pop {v0 : Value} (hd : decode ι.1 pc = .ok (.pop, 1)) (hv : v0.category = 1) (k : xJ ι κ K (pc + 1) L (st) h o) : xJ ι κ K pc L (v0 :: st) h o := fun v e kv => ⟨(k v e kv).1, fun a b p e' s m args below meth c hA H locs ls h1 h2 h3 => lv_pop hA.1 hA.2.1 hd (by rw [cv_cat]; exact hv) ((k v e kv).2 a b p e' s m args below meth c hA H locs ls h1 h2 h3)⟩
theorem j_iload_n {f : Fin 4} {i : Nat} {x : Int32} (j : Nat) (hd : decode ι.1 pc = .ok (.iload_n f, 1)) (hi : (f : Nat) = i) (hj : L[j]? = some (i, .int x)) (k : xJ ι κ K (pc + 1) L (.int x :: st) h o) : xJ ι κ K pc L (st) h o := fun v e kv => ⟨(k v e kv).1, fun a b p e' s m args below meth c hA H locs ls h1 h2 h3 => lv_iload_n hA.1 hA.2.1 hd hi (xl_at h1 hj) ((k v e kv).2 a b p e' s m args below meth c hA H locs ls h1 h2 h3)⟩
theorem j_iload {i : Nat} {x : Int32} (j : Nat) (hd : decode ι.1 pc = .ok (.iload i, 2)) (hj : L[j]? = some (i, .int x)) (k : xJ ι κ K (pc + 2) L (.int x :: st) h o) : xJ ι κ K pc L (st) h o := fun v e kv => ⟨(k v e kv).1, fun a b p e' s m args below meth c hA H locs ls h1 h2 h3 => lv_iload hA.1 hA.2.1 hd (xl_at h1 hj) ((k v e kv).2 a b p e' s m args below meth c hA H locs ls h1 h2 h3)⟩
theorem j_lload_n {f : Fin 4} {i : Nat} {x : Int64} (j : Nat) (hd : decode ι.1 pc = .ok (.lload_n f, 1)) (hi : (f : Nat) = i) (hj : L[j]? = some (i, .long x)) (k : xJ ι κ K (pc + 1) L (.long x :: st) h o) : xJ ι κ K pc L (st) h o := fun v e kv => ⟨(k v e kv).1, fun a b p e' s m args below meth c hA H locs ls h1 h2 h3 => lv_lload_n hA.1 hA.2.1 hd hi (xl_at h1 hj) ((k v e kv).2 a b p e' s m args below meth c hA H locs ls h1 h2 h3)⟩
theorem j_lload {i : Nat} {x : Int64} (j : Nat) (hd : decode ι.1 pc = .ok (.lload i, 2)) (hj : L[j]? = some (i, .long x)) (k : xJ ι κ K (pc + 2) L (.long x :: st) h o) : xJ ι κ K pc L (st) h o := fun v e kv => ⟨(k v e kv).1, fun a b p e' s m args below meth c hA H locs ls h1 h2 h3 => lv_lload hA.1 hA.2.1 hd (xl_at h1 hj) ((k v e kv).2 a b p e' s m args below meth c hA H locs ls h1 h2 h3)⟩
theorem j_aload_n {f : Fin 4} {i : Nat} {x : Nat} (j : Nat) (hd : decode ι.1 pc = .ok (.aload_n f, 1)) (hi : (f : Nat) = i) (hj : L[j]? = some (i, .ref x)) (k : xJ ι κ K (pc + 1) L (.ref x :: st) h o) : xJ ι κ K pc L (st) h o := fun v e kv => ⟨(k v e kv).1, fun a b p e' s m args below meth c hA H locs ls h1 h2 h3 => lv_aload_n hA.1 hA.2.1 hd hi (xl_at h1 hj) ((k v e kv).2 a b p e' s m args below meth c hA H locs ls h1 h2 h3)⟩
theorem j_sload_n {f : Fin 4} {i : Nat} {x : UInt32} (j : Nat) (hd : decode ι.1 pc = .ok (.aload_n f, 1)) (hi : (f : Nat) = i) (hj : L[j]? = some (i, .float x)) (k : xJ ι κ K (pc + 1) L (.float x :: st) h o) : xJ ι κ K pc L (st) h o := fun v e kv => ⟨(k v e kv).1, fun a b p e' s m args below meth c hA H locs ls h1 h2 h3 => lv_aload_n hA.1 hA.2.1 hd hi (xl_at h1 hj) ((k v e kv).2 a b p e' s m args below meth c hA H locs ls h1 h2 h3)⟩
theorem j_istore_n {f : Fin 4} {i : Nat} {x : Int32} (hd : decode ι.1 pc = .ok (.istore_n f, 1)) (hi : (f : Nat) = i) (hn : i < ι.2.2.2.2.1) (hL : (i, Value.int x) :: L.filter (fun q => !(q.1 == i) && !(q.1 + 1 == i && q.2.category == 2)) = L') (k : xJ ι κ K (pc + 1) L' st h o) : xJ ι κ K pc L (.int x :: st) h o := fun v e kv => ⟨(k v e kv).1, fun a b p e' s m args below meth c hA H locs ls h1 h2 h3 => lv_istore_n (lv' := L'.map (cq κ.2.1)) hA.1 hA.2.1 hd hi h1 hn (by rw [xl_f1 κ.2.1, ← hL]; rfl) (fun ls' h1' => (k v e kv).2 a b p e' s m args below meth c hA H locs ls' h1' h2 h3)⟩
theorem j_istore {i : Nat} {x : Int32} (hd : decode ι.1 pc = .ok (.istore i, 2)) (hn : i < ι.2.2.2.2.1) (hL : (i, Value.int x) :: L.filter (fun q => !(q.1 == i) && !(q.1 + 1 == i && q.2.category == 2)) = L') (k : xJ ι κ K (pc + 2) L' st h o) : xJ ι κ K pc L (.int x :: st) h o := fun v e kv => ⟨(k v e kv).1, fun a b p e' s m args below meth c hA H locs ls h1 h2 h3 => lv_istore (lv' := L'.map (cq κ.2.1)) hA.1 hA.2.1 hd h1 hn (by rw [xl_f1 κ.2.1, ← hL]; rfl) (fun ls' h1' => (k v e kv).2 a b p e' s m args below meth c hA H locs ls' h1' h2 h3)⟩
theorem j_astore_n {f : Fin 4} {i : Nat} {x : Nat} (hd : decode ι.1 pc = .ok (.astore_n f, 1)) (hi : (f : Nat) = i) (hn : i < ι.2.2.2.2.1) (hL : (i, Value.ref x) :: L.filter (fun q => !(q.1 == i) && !(q.1 + 1 == i && q.2.category == 2)) = L') (k : xJ ι κ K (pc + 1) L' st h o) : xJ ι κ K pc L (.ref x :: st) h o := fun v e kv => ⟨(k v e kv).1, fun a b p e' s m args below meth c hA H locs ls h1 h2 h3 => lv_astore_n (lv' := L'.map (cq κ.2.1)) hA.1 hA.2.1 hd hi h1 hn (by rw [xl_f1 κ.2.1, ← hL]; rfl) (fun ls' h1' => (k v e kv).2 a b p e' s m args below meth c hA H locs ls' h1' h2 h3)⟩
theorem j_lstore_n {f : Fin 4} {i : Nat} {x : Int64} (hd : decode ι.1 pc = .ok (.lstore_n f, 1)) (hi : (f : Nat) = i) (hn : i + 1 < ι.2.2.2.2.1) (hL : (i, Value.long x) :: L.filter (fun q => !(q.1 == i) && (!(q.1 == i + 1) && !(q.1 + 1 == i && q.2.category == 2))) = L') (k : xJ ι κ K (pc + 1) L' st h o) : xJ ι κ K pc L (.long x :: st) h o := fun v e kv => ⟨(k v e kv).1, fun a b p e' s m args below meth c hA H locs ls h1 h2 h3 => lv_lstore_n (lv' := L'.map (cq κ.2.1)) hA.1 hA.2.1 hd hi h1 hn (by rw [xl_f2 κ.2.1, ← hL]; rfl) (fun ls' h1' => (k v e kv).2 a b p e' s m args below meth c hA H locs ls' h1' h2 h3)⟩
theorem j_lstore {i : Nat} {x : Int64} (hd : decode ι.1 pc = .ok (.lstore i, 2)) (hn : i + 1 < ι.2.2.2.2.1) (hL : (i, Value.long x) :: L.filter (fun q => !(q.1 == i) && (!(q.1 == i + 1) && !(q.1 + 1 == i && q.2.category == 2))) = L') (k : xJ ι κ K (pc + 2) L' st h o) : xJ ι κ K pc L (.long x :: st) h o := fun v e kv => ⟨(k v e kv).1, fun a b p e' s m args below meth c hA H locs ls h1 h2 h3 => lv_lstore (lv' := L'.map (cq κ.2.1)) hA.1 hA.2.1 hd h1 hn (by rw [xl_f2 κ.2.1, ← hL]; rfl) (fun ls' h1' => (k v e kv).2 a b p e' s m args below meth c hA H locs ls' h1' h2 h3)⟩
theorem j_iinc {i : Nat} {n : Int} {x y : Int32} (j : Nat) (hd : decode ι.1 pc = .ok (.iinc i n, 3)) (hj : L[j]? = some (i, .int x)) (hy : x + Int32.ofInt n = y) (hn : i < ι.2.2.2.2.1) (hL : (i, Value.int y) :: L.filter (fun q => !(q.1 == i) && !(q.1 + 1 == i && q.2.category == 2)) = L') (k : xJ ι κ K (pc + 3) L' st h o) : xJ ι κ K pc L st h o := fun v e kv => ⟨(k v e kv).1, fun a b p e' s m args below meth c hA H locs ls h1 h2 h3 => lv_iinc (k := j) (lv' := L'.map (cq κ.2.1)) hA.1 hA.2.1 hd h1 (by rw [List.getElem?_map, hj]; rfl) hy hn (by rw [xl_f1 κ.2.1, ← hL]; rfl) (fun ls' h1' => (k v e kv).2 a b p e' s m args below meth c hA H locs ls' h1' h2 h3)⟩
theorem j_goto {off : Int} {tgt : Nat} (hd : decode ι.1 pc = .ok (.goto off, 3)) (ht : (pc : Int) + off = (tgt : Int)) (k : xJ ι κ K tgt L st h o) : xJ ι κ K pc L st h o := fun v e kv => ⟨(k v e kv).1, fun a b p e' s m args below meth c hA H locs ls h1 h2 h3 => lv_goto hA.1 hA.2.1 hd ht ((k v e kv).2 a b p e' s m args below meth c hA H locs ls h1 h2 h3)⟩
theorem j_idiv {x y : Int32} (hd : decode ι.1 pc = .ok (.idiv, 1)) (k : ¬ y = 0 → xJ ι κ K (pc + 1) L (.int (x / y) :: st) h o) : xJ ι κ K pc L (.int y :: .int x :: st) h (if y = 0 then none else o) := fun v e kv => by
  by_cases hy : y = 0
  · rw [if_pos hy] at e; cases e
  · rw [if_neg hy] at e
    exact ⟨(k hy v e kv).1, fun a b p e' s m args below meth c hA H locs ls h1 h2 h3 => lv_idiv hA.1 hA.2.1 hd hy ((k hy v e kv).2 a b p e' s m args below meth c hA H locs ls h1 h2 h3)⟩
theorem j_irem {x y : Int32} (hd : decode ι.1 pc = .ok (.irem, 1)) (k : ¬ y = 0 → xJ ι κ K (pc + 1) L (.int (x - x / y * y) :: st) h o) : xJ ι κ K pc L (.int y :: .int x :: st) h (if y = 0 then none else o) := fun v e kv => by
  by_cases hy : y = 0
  · rw [if_pos hy] at e; cases e
  · rw [if_neg hy] at e
    exact ⟨(k hy v e kv).1, fun a b p e' s m args below meth c hA H locs ls h1 h2 h3 => lv_irem hA.1 hA.2.1 hd hy ((k hy v e kv).2 a b p e' s m args below meth c hA H locs ls h1 h2 h3)⟩
theorem j_ldiv {x y : Int64} (hd : decode ι.1 pc = .ok (.ldiv, 1)) (k : ¬ y = 0 → xJ ι κ K (pc + 1) L (.long (x / y) :: st) h o) : xJ ι κ K pc L (.long y :: .long x :: st) h (if y = 0 then none else o) := fun v e kv => by
  by_cases hy : y = 0
  · rw [if_pos hy] at e; cases e
  · rw [if_neg hy] at e
    exact ⟨(k hy v e kv).1, fun a b p e' s m args below meth c hA H locs ls h1 h2 h3 => lv_ldiv hA.1 hA.2.1 hd hy ((k hy v e kv).2 a b p e' s m args below meth c hA H locs ls h1 h2 h3)⟩
theorem j_lrem {x y : Int64} (hd : decode ι.1 pc = .ok (.lrem, 1)) (k : ¬ y = 0 → xJ ι κ K (pc + 1) L (.long (x - x / y * y) :: st) h o) : xJ ι κ K pc L (.long y :: .long x :: st) h (if y = 0 then none else o) := fun v e kv => by
  by_cases hy : y = 0
  · rw [if_pos hy] at e; cases e
  · rw [if_neg hy] at e
    exact ⟨(k hy v e kv).1, fun a b p e' s m args below meth c hA H locs ls h1 h2 h3 => lv_lrem hA.1 hA.2.1 hd hy ((k hy v e kv).2 a b p e' s m args below meth c hA H locs ls h1 h2 h3)⟩
theorem j_if_eq {x : Int32} {off : Int} {tgt : Nat} {o1 o2 : Option X} (hd : decode ι.1 pc = .ok (.ifCond .eq off, 3)) (ht : (pc : Int) + off = (tgt : Int)) (kt : x = 0 → xJ ι κ K tgt L st h o1) (kf : ¬ x = 0 → xJ ι κ K (pc + 3) L st h o2) : xJ ι κ K pc L (.int x :: st) h (if x = 0 then o1 else o2) := fun v e kv => by
  refine ⟨?_, fun a b p e' s m args below meth c hA H locs ls h1 h2 h3 => lv_if_eq hA.1 hA.2.1 hd ht (fun hc => (kt hc v (by rw [if_pos hc] at e; exact e) kv).2 a b p e' s m args below meth c hA H locs ls h1 h2 h3) (fun hc => (kf hc v (by rw [if_neg hc] at e; exact e) kv).2 a b p e' s m args below meth c hA H locs ls h1 h2 h3)⟩
  by_cases hc : x = 0
  · exact (kt hc v (by rw [if_pos hc] at e; exact e) kv).1
  · exact (kf hc v (by rw [if_neg hc] at e; exact e) kv).1
theorem j_icmp_eq {x y : Int32} {off : Int} {tgt : Nat} {o1 o2 : Option X} (hd : decode ι.1 pc = .ok (.if_icmp .eq off, 3)) (ht : (pc : Int) + off = (tgt : Int)) (kt : x = y → xJ ι κ K tgt L st h o1) (kf : ¬ x = y → xJ ι κ K (pc + 3) L st h o2) : xJ ι κ K pc L (.int y :: .int x :: st) h (if x = y then o1 else o2) := fun v e kv => by
  refine ⟨?_, fun a b p e' s m args below meth c hA H locs ls h1 h2 h3 => lv_icmp_eq hA.1 hA.2.1 hd ht (fun hc => (kt hc v (by rw [if_pos hc] at e; exact e) kv).2 a b p e' s m args below meth c hA H locs ls h1 h2 h3) (fun hc => (kf hc v (by rw [if_neg hc] at e; exact e) kv).2 a b p e' s m args below meth c hA H locs ls h1 h2 h3)⟩
  by_cases hc : x = y
  · exact (kt hc v (by rw [if_pos hc] at e; exact e) kv).1
  · exact (kf hc v (by rw [if_neg hc] at e; exact e) kv).1
theorem j_if_ne {x : Int32} {off : Int} {tgt : Nat} {o1 o2 : Option X} (hd : decode ι.1 pc = .ok (.ifCond .ne off, 3)) (ht : (pc : Int) + off = (tgt : Int)) (kt : x = 0 → xJ ι κ K (pc + 3) L st h o1) (kf : ¬ x = 0 → xJ ι κ K tgt L st h o2) : xJ ι κ K pc L (.int x :: st) h (if x = 0 then o1 else o2) := fun v e kv => by
  refine ⟨?_, fun a b p e' s m args below meth c hA H locs ls h1 h2 h3 => lv_if_ne hA.1 hA.2.1 hd ht (fun hc => (kf hc v (by rw [if_neg hc] at e; exact e) kv).2 a b p e' s m args below meth c hA H locs ls h1 h2 h3) (fun hc => (kt hc v (by rw [if_pos hc] at e; exact e) kv).2 a b p e' s m args below meth c hA H locs ls h1 h2 h3)⟩
  by_cases hc : x = 0
  · exact (kt hc v (by rw [if_pos hc] at e; exact e) kv).1
  · exact (kf hc v (by rw [if_neg hc] at e; exact e) kv).1
theorem j_icmp_ne {x y : Int32} {off : Int} {tgt : Nat} {o1 o2 : Option X} (hd : decode ι.1 pc = .ok (.if_icmp .ne off, 3)) (ht : (pc : Int) + off = (tgt : Int)) (kt : x = y → xJ ι κ K (pc + 3) L st h o1) (kf : ¬ x = y → xJ ι κ K tgt L st h o2) : xJ ι κ K pc L (.int y :: .int x :: st) h (if x = y then o1 else o2) := fun v e kv => by
  refine ⟨?_, fun a b p e' s m args below meth c hA H locs ls h1 h2 h3 => lv_icmp_ne hA.1 hA.2.1 hd ht (fun hc => (kf hc v (by rw [if_neg hc] at e; exact e) kv).2 a b p e' s m args below meth c hA H locs ls h1 h2 h3) (fun hc => (kt hc v (by rw [if_pos hc] at e; exact e) kv).2 a b p e' s m args below meth c hA H locs ls h1 h2 h3)⟩
  by_cases hc : x = y
  · exact (kt hc v (by rw [if_pos hc] at e; exact e) kv).1
  · exact (kf hc v (by rw [if_neg hc] at e; exact e) kv).1
theorem j_if_lt {x : Int32} {off : Int} {tgt : Nat} {o1 o2 : Option X} (hd : decode ι.1 pc = .ok (.ifCond .lt off, 3)) (ht : (pc : Int) + off = (tgt : Int)) (kt : x < 0 → xJ ι κ K tgt L st h o1) (kf : ¬ x < 0 → xJ ι κ K (pc + 3) L st h o2) : xJ ι κ K pc L (.int x :: st) h (if x < 0 then o1 else o2) := fun v e kv => by
  refine ⟨?_, fun a b p e' s m args below meth c hA H locs ls h1 h2 h3 => lv_if_lt hA.1 hA.2.1 hd ht (fun hc => (kt hc v (by rw [if_pos hc] at e; exact e) kv).2 a b p e' s m args below meth c hA H locs ls h1 h2 h3) (fun hc => (kf hc v (by rw [if_neg hc] at e; exact e) kv).2 a b p e' s m args below meth c hA H locs ls h1 h2 h3)⟩
  by_cases hc : x < 0
  · exact (kt hc v (by rw [if_pos hc] at e; exact e) kv).1
  · exact (kf hc v (by rw [if_neg hc] at e; exact e) kv).1
theorem j_icmp_lt {x y : Int32} {off : Int} {tgt : Nat} {o1 o2 : Option X} (hd : decode ι.1 pc = .ok (.if_icmp .lt off, 3)) (ht : (pc : Int) + off = (tgt : Int)) (kt : x < y → xJ ι κ K tgt L st h o1) (kf : ¬ x < y → xJ ι κ K (pc + 3) L st h o2) : xJ ι κ K pc L (.int y :: .int x :: st) h (if x < y then o1 else o2) := fun v e kv => by
  refine ⟨?_, fun a b p e' s m args below meth c hA H locs ls h1 h2 h3 => lv_icmp_lt hA.1 hA.2.1 hd ht (fun hc => (kt hc v (by rw [if_pos hc] at e; exact e) kv).2 a b p e' s m args below meth c hA H locs ls h1 h2 h3) (fun hc => (kf hc v (by rw [if_neg hc] at e; exact e) kv).2 a b p e' s m args below meth c hA H locs ls h1 h2 h3)⟩
  by_cases hc : x < y
  · exact (kt hc v (by rw [if_pos hc] at e; exact e) kv).1
  · exact (kf hc v (by rw [if_neg hc] at e; exact e) kv).1
theorem j_if_ge {x : Int32} {off : Int} {tgt : Nat} {o1 o2 : Option X} (hd : decode ι.1 pc = .ok (.ifCond .ge off, 3)) (ht : (pc : Int) + off = (tgt : Int)) (kt : 0 ≤ x → xJ ι κ K tgt L st h o1) (kf : ¬ 0 ≤ x → xJ ι κ K (pc + 3) L st h o2) : xJ ι κ K pc L (.int x :: st) h (if 0 ≤ x then o1 else o2) := fun v e kv => by
  refine ⟨?_, fun a b p e' s m args below meth c hA H locs ls h1 h2 h3 => lv_if_ge hA.1 hA.2.1 hd ht (fun hc => (kt hc v (by rw [if_pos hc] at e; exact e) kv).2 a b p e' s m args below meth c hA H locs ls h1 h2 h3) (fun hc => (kf hc v (by rw [if_neg hc] at e; exact e) kv).2 a b p e' s m args below meth c hA H locs ls h1 h2 h3)⟩
  by_cases hc : 0 ≤ x
  · exact (kt hc v (by rw [if_pos hc] at e; exact e) kv).1
  · exact (kf hc v (by rw [if_neg hc] at e; exact e) kv).1
theorem j_icmp_ge {x y : Int32} {off : Int} {tgt : Nat} {o1 o2 : Option X} (hd : decode ι.1 pc = .ok (.if_icmp .ge off, 3)) (ht : (pc : Int) + off = (tgt : Int)) (kt : y ≤ x → xJ ι κ K tgt L st h o1) (kf : ¬ y ≤ x → xJ ι κ K (pc + 3) L st h o2) : xJ ι κ K pc L (.int y :: .int x :: st) h (if y ≤ x then o1 else o2) := fun v e kv => by
  refine ⟨?_, fun a b p e' s m args below meth c hA H locs ls h1 h2 h3 => lv_icmp_ge hA.1 hA.2.1 hd ht (fun hc => (kt hc v (by rw [if_pos hc] at e; exact e) kv).2 a b p e' s m args below meth c hA H locs ls h1 h2 h3) (fun hc => (kf hc v (by rw [if_neg hc] at e; exact e) kv).2 a b p e' s m args below meth c hA H locs ls h1 h2 h3)⟩
  by_cases hc : y ≤ x
  · exact (kt hc v (by rw [if_pos hc] at e; exact e) kv).1
  · exact (kf hc v (by rw [if_neg hc] at e; exact e) kv).1
theorem j_if_gt {x : Int32} {off : Int} {tgt : Nat} {o1 o2 : Option X} (hd : decode ι.1 pc = .ok (.ifCond .gt off, 3)) (ht : (pc : Int) + off = (tgt : Int)) (kt : 0 < x → xJ ι κ K tgt L st h o1) (kf : ¬ 0 < x → xJ ι κ K (pc + 3) L st h o2) : xJ ι κ K pc L (.int x :: st) h (if 0 < x then o1 else o2) := fun v e kv => by
  refine ⟨?_, fun a b p e' s m args below meth c hA H locs ls h1 h2 h3 => lv_if_gt hA.1 hA.2.1 hd ht (fun hc => (kt hc v (by rw [if_pos hc] at e; exact e) kv).2 a b p e' s m args below meth c hA H locs ls h1 h2 h3) (fun hc => (kf hc v (by rw [if_neg hc] at e; exact e) kv).2 a b p e' s m args below meth c hA H locs ls h1 h2 h3)⟩
  by_cases hc : 0 < x
  · exact (kt hc v (by rw [if_pos hc] at e; exact e) kv).1
  · exact (kf hc v (by rw [if_neg hc] at e; exact e) kv).1
theorem j_icmp_gt {x y : Int32} {off : Int} {tgt : Nat} {o1 o2 : Option X} (hd : decode ι.1 pc = .ok (.if_icmp .gt off, 3)) (ht : (pc : Int) + off = (tgt : Int)) (kt : y < x → xJ ι κ K tgt L st h o1) (kf : ¬ y < x → xJ ι κ K (pc + 3) L st h o2) : xJ ι κ K pc L (.int y :: .int x :: st) h (if y < x then o1 else o2) := fun v e kv => by
  refine ⟨?_, fun a b p e' s m args below meth c hA H locs ls h1 h2 h3 => lv_icmp_gt hA.1 hA.2.1 hd ht (fun hc => (kt hc v (by rw [if_pos hc] at e; exact e) kv).2 a b p e' s m args below meth c hA H locs ls h1 h2 h3) (fun hc => (kf hc v (by rw [if_neg hc] at e; exact e) kv).2 a b p e' s m args below meth c hA H locs ls h1 h2 h3)⟩
  by_cases hc : y < x
  · exact (kt hc v (by rw [if_pos hc] at e; exact e) kv).1
  · exact (kf hc v (by rw [if_neg hc] at e; exact e) kv).1
theorem j_if_le {x : Int32} {off : Int} {tgt : Nat} {o1 o2 : Option X} (hd : decode ι.1 pc = .ok (.ifCond .le off, 3)) (ht : (pc : Int) + off = (tgt : Int)) (kt : x ≤ 0 → xJ ι κ K tgt L st h o1) (kf : ¬ x ≤ 0 → xJ ι κ K (pc + 3) L st h o2) : xJ ι κ K pc L (.int x :: st) h (if x ≤ 0 then o1 else o2) := fun v e kv => by
  refine ⟨?_, fun a b p e' s m args below meth c hA H locs ls h1 h2 h3 => lv_if_le hA.1 hA.2.1 hd ht (fun hc => (kt hc v (by rw [if_pos hc] at e; exact e) kv).2 a b p e' s m args below meth c hA H locs ls h1 h2 h3) (fun hc => (kf hc v (by rw [if_neg hc] at e; exact e) kv).2 a b p e' s m args below meth c hA H locs ls h1 h2 h3)⟩
  by_cases hc : x ≤ 0
  · exact (kt hc v (by rw [if_pos hc] at e; exact e) kv).1
  · exact (kf hc v (by rw [if_neg hc] at e; exact e) kv).1
theorem j_icmp_le {x y : Int32} {off : Int} {tgt : Nat} {o1 o2 : Option X} (hd : decode ι.1 pc = .ok (.if_icmp .le off, 3)) (ht : (pc : Int) + off = (tgt : Int)) (kt : x ≤ y → xJ ι κ K tgt L st h o1) (kf : ¬ x ≤ y → xJ ι κ K (pc + 3) L st h o2) : xJ ι κ K pc L (.int y :: .int x :: st) h (if x ≤ y then o1 else o2) := fun v e kv => by
  refine ⟨?_, fun a b p e' s m args below meth c hA H locs ls h1 h2 h3 => lv_icmp_le hA.1 hA.2.1 hd ht (fun hc => (kt hc v (by rw [if_pos hc] at e; exact e) kv).2 a b p e' s m args below meth c hA H locs ls h1 h2 h3) (fun hc => (kf hc v (by rw [if_neg hc] at e; exact e) kv).2 a b p e' s m args below meth c hA H locs ls h1 h2 h3)⟩
  by_cases hc : x ≤ y
  · exact (kt hc v (by rw [if_pos hc] at e; exact e) kv).1
  · exact (kf hc v (by rw [if_neg hc] at e; exact e) kv).1
theorem j_tabv {dflt lo hi : Int} {offs : Array Int} {len : Nat} {x w : Int32} {off : Int} {tgt : Nat} {o1 o2 : Option X} (hd : decode ι.1 pc = .ok (.tableswitch dflt lo hi offs, len)) (g1 : ¬ w.toInt < lo) (g2 : ¬ hi < w.toInt) (ho : offs[(w.toInt - lo).toNat]? = some off) (ht : (pc : Int) + off = (tgt : Int)) (kt : x = w → xJ ι κ K tgt L st h o1) (kf : ¬ x = w → xJ ι κ K pc L (.int x :: st) h o2) : xJ ι κ K pc L (.int x :: st) h (if x = w then o1 else o2) := fun v e kv => by
  by_cases hc : x = w
  · rw [if_pos hc] at e
    subst hc
    exact ⟨(kt rfl v e kv).1, fun a b p e' s m args below meth c hA H locs ls h1 h2 h3 => lv_tableIn hA.1 hA.2.1 hd g1 g2 ho ht ((kt rfl v e kv).2 a b p e' s m args below meth c hA H locs ls h1 h2 h3)⟩
  · rw [if_neg hc] at e
    exact kf hc v e kv
theorem j_tabd {dflt lo hi : Int} {offs : Array Int} {len : Nat} {x : Int32} {tgt : Nat} (hd : decode ι.1 pc = .ok (.tableswitch dflt lo hi offs, len)) (hx : x.toInt < lo ∨ hi < x.toInt) (ht : (pc : Int) + dflt = (tgt : Int)) (k : xJ ι κ K tgt L st h o) : xJ ι κ K pc L (.int x :: st) h o := fun v e kv => ⟨(k v e kv).1, fun a b p e' s m args below meth c hA H locs ls h1 h2 h3 => lv_tableOut hA.1 hA.2.1 hd hx ht ((k v e kv).2 a b p e' s m args below meth c hA H locs ls h1 h2 h3)⟩
theorem j_lokv {dflt : Int} {ps : Array (Int × Int)} {len : Nat} {x w : Int32} {off : Int} {tgt : Nat} {o1 o2 : Option X} (hd : decode ι.1 pc = .ok (.lookupswitch dflt ps, len)) (hp : (ps.toList.zip (ps.toList.drop 1)).all (fun (a, next) => a.1 < next.1) = true) (ho : Op.lookupswitch.offset ps.toList dflt w.toInt = off) (ht : (pc : Int) + off = (tgt : Int)) (kt : x = w → xJ ι κ K tgt L st h o1) (kf : ¬ x = w → xJ ι κ K pc L (.int x :: st) h o2) : xJ ι κ K pc L (.int x :: st) h (if x = w then o1 else o2) := fun v e kv => by
  by_cases hc : x = w
  · rw [if_pos hc] at e
    subst hc
    exact ⟨(kt rfl v e kv).1, fun a b p e' s m args below meth c hA H locs ls h1 h2 h3 => lv_lookup hA.1 hA.2.1 hd hp ho ht ((kt rfl v e kv).2 a b p e' s m args below meth c hA H locs ls h1 h2 h3)⟩
  · rw [if_neg hc] at e
    exact kf hc v e kv
theorem j_lokd {dflt : Int} {ps : Array (Int × Int)} {len : Nat} {x : Int32} {tgt : Nat} (hd : decode ι.1 pc = .ok (.lookupswitch dflt ps, len)) (hp : (ps.toList.zip (ps.toList.drop 1)).all (fun (a, next) => a.1 < next.1) = true) (ho : Op.lookupswitch.offset ps.toList dflt x.toInt = dflt) (ht : (pc : Int) + dflt = (tgt : Int)) (k : xJ ι κ K tgt L st h o) : xJ ι κ K pc L (.int x :: st) h o := fun v e kv => ⟨(k v e kv).1, fun a b p e' s m args below meth c hA H locs ls h1 h2 h3 => lv_lookup hA.1 hA.2.1 hd hp ho ht ((k v e kv).2 a b p e' s m args below meth c hA H locs ls h1 h2 h3)⟩

theorem j_iret {v0 : Int32} (x : X) (hd : decode ι.1 pc = .ok (.ireturn, 1)) (hr : ι.2.2.2.1 = some .int) (hk : K x → κ.2.2.2.1 = some (.int v0) ∧ κ.2.2.2.2 = h) : xJ ι κ K pc L [.int v0] h (some x) := fun v e kv => by
  cases e
  obtain ⟨hk1, hk2⟩ := hk kv
  refine ⟨by unfold xB; rw [hk2]; exact ⟨Nat.le_refl _, Nat.le_refl _⟩, fun a b p e' s m args below meth c hA H locs ls h1 h2 h3 => ?_⟩
  have hl := hA.2.2.2.2.2.2.1
  unfold xZ
  rw [hk2]
  exact W.iret hA.1 hA.2.1 (hA.2.2.1.trans hr) (fun t ht hW => ⟨by rw [hk1]; rfl, by rw [ht]; exact h2, h3.F ht⟩) h3.2.2 hd hl
theorem j_zret {v0 : Int32} (x : X) (hd : decode ι.1 pc = .ok (.ireturn, 1)) (hr : ι.2.2.2.1 = some .boolean) (hz : narrow .boolean (.int v0) = .int v0) (hk : K x → κ.2.2.2.1 = some (.int v0) ∧ κ.2.2.2.2 = h) : xJ ι κ K pc L [.int v0] h (some x) := fun v e kv => by
  cases e
  obtain ⟨hk1, hk2⟩ := hk kv
  refine ⟨by unfold xB; rw [hk2]; exact ⟨Nat.le_refl _, Nat.le_refl _⟩, fun a b p e' s m args below meth c hA H locs ls h1 h2 h3 => ?_⟩
  have hl := hA.2.2.2.2.2.2.1
  unfold xZ
  rw [hk2]
  exact W.zret hA.1 hA.2.1 (hA.2.2.1.trans hr) hz (fun t ht hW => ⟨by rw [hk1]; rfl, by rw [ht]; exact h2, h3.F ht⟩) h3.2.2 hd hl
theorem j_lret {v0 : Int64} (x : X) (hd : decode ι.1 pc = .ok (.lreturn, 1)) (hr : ι.2.2.2.1 = some .long) (hk : K x → κ.2.2.2.1 = some (.long v0) ∧ κ.2.2.2.2 = h) : xJ ι κ K pc L [.long v0] h (some x) := fun v e kv => by
  cases e
  obtain ⟨hk1, hk2⟩ := hk kv
  refine ⟨by unfold xB; rw [hk2]; exact ⟨Nat.le_refl _, Nat.le_refl _⟩, fun a b p e' s m args below meth c hA H locs ls h1 h2 h3 => ?_⟩
  have hl := hA.2.2.2.2.2.2.1
  unfold xZ
  rw [hk2]
  exact W.lret hA.1 hA.2.1 (hA.2.2.1.trans hr) (fun t ht hW => ⟨by rw [hk1]; rfl, by rw [ht]; exact h2, h3.F ht⟩) h3.2.2 hd hl
theorem j_vret (x : X) (hd : decode ι.1 pc = .ok (.return_, 1)) (hr : ι.2.2.2.1 = none) (hk : K x → κ.2.2.2.1 = none ∧ κ.2.2.2.2 = h) : xJ ι κ K pc L [] h (some x) := fun v e kv => by
  cases e
  obtain ⟨hk1, hk2⟩ := hk kv
  refine ⟨by unfold xB; rw [hk2]; exact ⟨Nat.le_refl _, Nat.le_refl _⟩, fun a b p e' s m args below meth c hA H locs ls h1 h2 h3 => ?_⟩
  have hl := hA.2.2.2.2.2.2.1
  unfold xZ
  rw [hk2]
  exact W.vret hA.1 hA.2.1 (hA.2.2.1.trans hr) (fun t ht hW => ⟨by rw [hk1]; rfl, by rw [ht]; exact h2, h3.F ht⟩) h3.2.2 hd hl
end XR
end
section
/-! what the heap's instructions do to the abstract heap -/
def sI (h : Hp) (a j : Nat) (x : Int32) : Hp := (h.1, fun a' j' => if a' = a ∧ j' = j then x else h.2.1 a' j', h.2.2)
def sL (h : Hp) (a j : Nat) (x : Int64) : Hp := (h.1, h.2.1, fun a' j' => if a' = a ∧ j' = j then x else h.2.2.1 a' j', h.2.2.2)
def sR (h : Hp) (a j : Nat) (r : Nat) : Hp := (h.1, h.2.1, h.2.2.1, fun a' j' => if a' = a ∧ j' = j then some r else h.2.2.2 a' j')
def xgI (h : Hp) (a : Nat) (s : Nat × Nat) (j : Nat) : Option Int32 := if h.1[a]? = some s then some (h.2.1 a j) else none
def xgL (h : Hp) (a : Nat) (s : Nat × Nat) (j : Nat) : Option Int64 := if h.1[a]? = some s then some (h.2.2.1 a j) else none
def xgR (h : Hp) (a : Nat) (s : Nat × Nat) (j : Nat) : Option Nat := if h.1[a]? = some s then h.2.2.2 a j else none
def xpI (h : Hp) (a : Nat) (s : Nat × Nat) (j : Nat) (x : Int32) : Option Hp := if h.1[a]? = some s then some (sI h a j x) else none
def xpL (h : Hp) (a : Nat) (s : Nat × Nat) (j : Nat) (x : Int64) : Option Hp := if h.1[a]? = some s then some (sL h a j x) else none
def xpR (h : Hp) (a : Nat) (s : Nat × Nat) (j : Nat) (r : Nat) : Option Hp := if h.1[a]? = some s then some (sR h a j r) else none
def xat {α : Type} (h : Hp) (a : Nat) (s : Nat × Nat) (o : Option α) : Option α := if h.1[a]? = some s then o else none
def xaI (h : Hp) (a kk : Nat) (i : Int32) : Option Int32 := (h.1[a]?).bind fun s => if s.1 = kk ∧ 0 ≤ i.toInt ∧ i.toInt < s.2 then some (h.2.1 a i.toNatClampNeg) else none
def xaR (h : Hp) (a kk : Nat) (i : Int32) : Option Nat := (h.1[a]?).bind fun s => if s.1 = kk ∧ 0 ≤ i.toInt ∧ i.toInt < s.2 then h.2.2.2 a i.toNatClampNeg else none
def xsI (h : Hp) (a : Nat) (i : Int32) (x : Int32) : Option Hp := (h.1[a]?).bind fun s => if s.1 = 10 ∧ 0 ≤ i.toInt ∧ i.toInt < s.2 then some (sI h a i.toNatClampNeg x) else none
def xsZ (h : Hp) (a : Nat) (i : Int32) (x : Int32) : Option Hp := (h.1[a]?).bind fun s => if s.1 = 11 ∧ 0 ≤ i.toInt ∧ i.toInt < s.2 then some (sI h a i.toNatClampNeg (vp_nar .boolean x)) else none
def xsR (h : Hp) (a kk : Nat) (i : Int32) (r : Nat) (sr : Nat × Nat) : Option Hp := (h.1[a]?).bind fun s => if s.1 = kk ∧ h.1[r]? = some sr ∧ 0 ≤ i.toInt ∧ i.toInt < s.2 then some (sR h a i.toNatClampNeg r) else none
def xal (h : Hp) (a : Nat) : Option Int32 := (h.1[a]?).bind fun s => if s.1 = 10 then some (Int32.ofNat s.2) else none
def xadd (h : Hp) (s : Nat × Nat) : Hp := (h.1 ++ [s], fun a j => if a = h.1.length then 0 else h.2.1 a j, fun a j => if a = h.1.length then 0 else h.2.2.1 a j, fun a j => if a = h.1.length then none else h.2.2.2 a j)
def xnew (h : Hp) (s : Nat × Nat) : Option (Nat × Hp) := some (h.1.length, xadd h s)
def xna (h : Hp) (kk : Nat) (n : Int32) : Option (Nat × Hp) := if 0 ≤ n.toInt ∧ n.toInt ≤ 1000000 then some (h.1.length, xadd h (kk, n.toNatClampNeg)) else none
def scp (h : Hp) (a0 : Nat) (sp : Int32) (a1 : Nat) (dp n : Int32) : Hp := (h.1, fun a j => if a = a1 then va_cpy (h.2.1 a0) (h.2.1 a1) sp.toNatClampNeg dp.toNatClampNeg n.toNatClampNeg j else h.2.1 a j, h.2.2)
def xcp (h : Hp) (a0 : Nat) (sp : Int32) (a1 : Nat) (dp n : Int32) : Option Hp := (h.1[a0]?).bind fun s0 => (h.1[a1]?).bind fun s1 => if s0.1 = 10 ∧ s1.1 = 10 ∧ 0 ≤ sp.toInt ∧ 0 ≤ dp.toInt ∧ 0 ≤ n.toInt ∧ sp.toInt + n.toInt ≤ s0.2 ∧ dp.toInt + n.toInt ≤ s1.2 then some (scp h a0 sp a1 dp n) else none
/-- the classes by their numbers -/
def xr (ci : Nat) : String := match ci with
  | 0 => RX0 | 1 => RX1 | 2 => RX2 | 3 => RX3 | 4 => RX4 | 5 => RX5 | 6 => RX6 | 7 => RX7 | 8 => RX8 | _ => RX9
def xtb (ci : Nat) : u_T := match ci with
  | 0 => TX0 | 1 => TX1 | 2 => TX2 | 3 => TX3 | 4 => TX4 | 5 => TX5 | 6 => TX6 | 7 => TX7 | 8 => TX8 | _ => TX9
def xnf (ci : Nat) : Nat := match ci with
  | 0 => 16 | 1 => 1 | 2 => 2 | 3 => 3 | 4 => 8 | 5 => 5 | 6 => 3 | 7 => 4 | 8 => 12 | _ => 18
theorem xin0 : ∀ w ∈ u_ws RX0 TX0 16, w ∈ lw_tbl ∧ goodWord w = true := by decide +kernel
theorem xin1 : ∀ w ∈ u_ws RX1 TX1 1, w ∈ lw_tbl ∧ goodWord w = true := by decide +kernel
theorem xin2 : ∀ w ∈ u_ws RX2 TX2 2, w ∈ lw_tbl ∧ goodWord w = true := by decide +kernel
theorem xin3 : ∀ w ∈ u_ws RX3 TX3 3, w ∈ lw_tbl ∧ goodWord w = true := by decide +kernel
theorem xin4 : ∀ w ∈ u_ws RX4 TX4 8, w ∈ lw_tbl ∧ goodWord w = true := by decide +kernel
theorem xin5 : ∀ w ∈ u_ws RX5 TX5 5, w ∈ lw_tbl ∧ goodWord w = true := by decide +kernel
theorem xin6 : ∀ w ∈ u_ws RX6 TX6 3, w ∈ lw_tbl ∧ goodWord w = true := by decide +kernel
theorem xin7 : ∀ w ∈ u_ws RX7 TX7 4, w ∈ lw_tbl ∧ goodWord w = true := by decide +kernel
theorem xin8 : ∀ w ∈ u_ws RX8 TX8 12, w ∈ lw_tbl ∧ goodWord w = true := by decide +kernel
theorem xin9 : ∀ w ∈ u_ws RX9 TX9 18, w ∈ lw_tbl ∧ goodWord w = true := by decide +kernel
theorem xcls (ci : Nat) (hc : ci < 10) : vwCl[ci]? = some (xr ci, xtb ci, xnf ci) ∧ (∀ w ∈ u_ws (xr ci) (xtb ci) (xnf ci), w ∈ xT) ∧ (∀ k, k < xnf ci → parseFieldDescriptor (xtb ci k).2.2.1 = some (xty ci k)) ∧ (∀ a, a < xnf ci → ∀ b, b < xnf ci → a ≠ b → (xtb ci a).2.1 ≠ (xtb ci b).2.1) := by
  match ci, hc with
  | 0, _ => exact ⟨rfl, fun w h => xT_mem (xin0 w h).1 (xin0 w h).2, tyX0_ok, nmX0⟩
  | 1, _ => exact ⟨rfl, fun w h => xT_mem (xin1 w h).1 (xin1 w h).2, tyX1_ok, nmX1⟩
  | 2, _ => exact ⟨rfl, fun w h => xT_mem (xin2 w h).1 (xin2 w h).2, tyX2_ok, nmX2⟩
  | 3, _ => exact ⟨rfl, fun w h => xT_mem (xin3 w h).1 (xin3 w h).2, tyX3_ok, nmX3⟩
  | 4, _ => exact ⟨rfl, fun w h => xT_mem (xin4 w h).1 (xin4 w h).2, tyX4_ok, nmX4⟩
  | 5, _ => exact ⟨rfl, fun w h => xT_mem (xin5 w h).1 (xin5 w h).2, tyX5_ok, nmX5⟩
  | 6, _ => exact ⟨rfl, fun w h => xT_mem (xin6 w h).1 (xin6 w h).2, tyX6_ok, nmX6⟩
  | 7, _ => exact ⟨rfl, fun w h => xT_mem (xin7 w h).1 (xin7 w h).2, tyX7_ok, nmX7⟩
  | 8, _ => exact ⟨rfl, fun w h => xT_mem (xin8 w h).1 (xin8 w h).2, tyX8_ok, nmX8⟩
  | 9, _ => exact ⟨rfl, fun w h => xT_mem (xin9 w h).1 (xin9 w h).2, tyX9_ok, nmX9⟩
  | n + 10, h => omega
theorem xe_obj {η : xEnv} {h : Hp} {a ci N : Nat} (hc : ci < 10) : xe η h a (ci, N) = .inr (ci, xfs η h a ci N) := by
  unfold xe
  simp only
  rw [if_neg (by omega), if_neg (by omega), if_neg (by omega), if_neg (by omega)]
theorem xfs_get {η : xEnv} {h : Hp} {a ci N j : Nat} (hj : j < N) : (xfs η h a ci N)[j]? = some (xv η h a (xty ci j) j) := by
  simp [xfs, hj]
theorem xfs_set {η : xEnv} {h h' : Hp} {a ci N j : Nat} {v : Value} (hj : xv η h' a (xty ci j) j = v) (ho : ∀ k, k ≠ j → xv η h' a (xty ci k) k = xv η h a (xty ci k) k) : (xfs η h a ci N).set j v = xfs η h' a ci N := by
  apply List.ext_getElem?
  intro k
  by_cases hk : k = j
  · subst hk
    by_cases hN : k < N
    · rw [List.getElem?_set_self (by simp [xfs, hN]), xfs_get hN, hj]
    · rw [List.getElem?_eq_none (by simp [xfs]; omega), List.getElem?_eq_none (by simp [xfs]; omega)]
  · rw [List.getElem?_set_ne (Ne.symm hk)]
    simp only [xfs, List.getElem?_map]
    cases hx : (List.range N)[k]? with
    | none => rfl
    | some y =>
      have : y = k := by
        have := List.getElem?_eq_some_iff.mp hx
        obtain ⟨h1, h2⟩ := this
        simpa using h2.symm
      subst this
      simp [ho y hk]
theorem xw_set {η : xEnv} {h h' : Hp} {a : Nat} {s : Nat × Nat} {e : va_E} (hs : h.1[a]? = some s) (hh : h'.1 = h.1) (he : xe η h' a s = e) (ho : ∀ k s', k ≠ a → xe η h' k s' = xe η h k s') : (xw η h).set a (η.1 + a, e) = xw η h' := by
  apply List.ext_getElem?
  intro k
  have hl : a < h.1.length := (List.getElem?_eq_some_iff.mp hs).1
  by_cases hk : k = a
  · subst hk
    rw [List.getElem?_set_self (by rw [xw_len]; exact hl), xw_get (h := h') (s := s) (by rw [hh]; exact hs), he]
  · rw [List.getElem?_set_ne (Ne.symm hk)]
    cases hx : h.1[k]? with
    | none =>
      rw [List.getElem?_eq_none (by rw [xw_len]; simpa [xn] using hx), List.getElem?_eq_none (by rw [xw_len]; simpa [xn, hh] using hx)]
    | some s' =>
      rw [xw_get hx, xw_get (h := h') (by rw [hh]; exact hx), ho k s' hk]
theorem xe_off {η : xEnv} {h h' : Hp} {k : Nat} {s : Nat × Nat} (hI : h'.2.1 k = h.2.1 k) (hL : h'.2.2.1 k = h.2.2.1 k) (hR : h'.2.2.2 k = h.2.2.2 k) : xe η h' k s = xe η h k s := by
  unfold xe xfs xv
  rw [hI, hL, hR]
theorem xi_of {i : Int32} {n : Nat} (h1 : 0 ≤ i.toInt) (h2 : i.toInt < n) : vp_in i n := vp_in_iff.mpr ⟨h1, h2⟩
end
section
section XH
variable {X : Type} {ι : xI} {κ : xK} {K : X → Prop} {pc : Nat} {L : List (Nat × Value)} {st : List Value} {h : Hp}
theorem xif_some {α : Type} {c : Prop} {hc : Decidable c} {x y : α} (h : (if c then some x else none) = some y) : c ∧ x = y := by
  by_cases hq : c
  · rw [if_pos hq] at h; exact ⟨hq, Option.some.inj h⟩
  · rw [if_neg hq] at h; cases h
theorem xif_o {α : Type} {c : Prop} {hc : Decidable c} {x : Option α} {y : α} (h : (if c then x else none) = some y) : c ∧ x = some y := by
  by_cases hq : c
  · rw [if_pos hq] at h; exact ⟨hq, h⟩
  · rw [if_neg hq] at h; cases h
theorem j_getI {a idx : Nat} {f : Int32 → Option X} (ci N j : Nat) (hd : decode ι.1 pc = .ok (.getfield idx, 3)) (hl : Cond.fieldLink ι.2.1 idx (xtb ci j).1 (xtb ci j).2.1 (xtb ci j).2.2.1 ∈ xT) (hc : ci < 10) (hN : xnf ci = N) (hj : j < N) (hty : xty ci j = .int) (k : ∀ x, xJ ι κ K (pc + 3) L (.int x :: st) h (f x)) : xJ ι κ K pc L (.ref a :: st) h ((xgI h a (ci, N) j).bind f) := fun v e kv => by
  obtain ⟨x, e1, e2⟩ := Option.bind_eq_some_iff.mp e
  obtain ⟨hk, rfl⟩ := xif_some e1
  refine ⟨(k _ v e2 kv).1, fun b1 b2 p e' s m args below meth c hA H locs ls h1 h2 h3 => ?_⟩
  obtain ⟨c1, c2, c3, c4⟩ := xcls ci hc
  rw [hN] at c1 c2
  refine va_get hA.1 hA.2.1 hA.2.2.2.2.2.1 c2 hA.2.2.2.2.1 hA.2.2.2.2.2.2.2.2.1.1 h2 a (by rw [xw_get hk, xe_obj hc]) c1 j hj (hA.2.2.2.2.2.1 _ hl) (fun _ q => q) (by rw [xfs_get hj, hty]; rfl) hd ((k _ v e2 kv).2 b1 b2 p e' s m args below meth c hA H locs ls h1 h2 h3)
theorem j_getL {a idx : Nat} {f : Int64 → Option X} (ci N j : Nat) (hd : decode ι.1 pc = .ok (.getfield idx, 3)) (hl : Cond.fieldLink ι.2.1 idx (xtb ci j).1 (xtb ci j).2.1 (xtb ci j).2.2.1 ∈ xT) (hc : ci < 10) (hN : xnf ci = N) (hj : j < N) (hty : xty ci j = .long) (k : ∀ x, xJ ι κ K (pc + 3) L (.long x :: st) h (f x)) : xJ ι κ K pc L (.ref a :: st) h ((xgL h a (ci, N) j).bind f) := fun v e kv => by
  obtain ⟨x, e1, e2⟩ := Option.bind_eq_some_iff.mp e
  obtain ⟨hk, rfl⟩ := xif_some e1
  refine ⟨(k _ v e2 kv).1, fun b1 b2 p e' s m args below meth c hA H locs ls h1 h2 h3 => ?_⟩
  obtain ⟨c1, c2, c3, c4⟩ := xcls ci hc
  rw [hN] at c1 c2
  refine va_get hA.1 hA.2.1 hA.2.2.2.2.2.1 c2 hA.2.2.2.2.1 hA.2.2.2.2.2.2.2.2.1.1 h2 a (by rw [xw_get hk, xe_obj hc]) c1 j hj (hA.2.2.2.2.2.1 _ hl) (fun _ q => q) (by rw [xfs_get hj, hty]; rfl) hd ((k _ v e2 kv).2 b1 b2 p e' s m args below meth c hA H locs ls h1 h2 h3)
theorem j_getR {a idx : Nat} {f : Nat → Option X} (ci N j : Nat) (hd : decode ι.1 pc = .ok (.getfield idx, 3)) (hl : Cond.fieldLink ι.2.1 idx (xtb ci j).1 (xtb ci j).2.1 (xtb ci j).2.2.1 ∈ xT) (hc : ci < 10) (hN : xnf ci = N) (hj : j < N) (hty : ∀ (η : xEnv) (h : Hp) (a : Nat), xv η h a (xty ci j) j = va_rf ((h.2.2.2 a j).map (fun r => η.1 + r))) (k : ∀ x, xJ ι κ K (pc + 3) L (.ref x :: st) h (f x)) : xJ ι κ K pc L (.ref a :: st) h ((xgR h a (ci, N) j).bind f) := fun v e kv => by
  obtain ⟨x, e1, e2⟩ := Option.bind_eq_some_iff.mp e
  have hx := (xif_o e1).2
  have hk := (xif_o e1).1
  refine ⟨(k _ v e2 kv).1, fun b1 b2 p e' s m args below meth c hA H locs ls h1 h2 h3 => ?_⟩
  obtain ⟨c1, c2, c3, c4⟩ := xcls ci hc
  rw [hN] at c1 c2
  refine va_get hA.1 hA.2.1 hA.2.2.2.2.2.1 c2 hA.2.2.2.2.1 hA.2.2.2.2.2.2.2.2.1.1 h2 a (by rw [xw_get hk, xe_obj hc]) c1 j hj (hA.2.2.2.2.2.1 _ hl) (fun _ q => q) (by rw [xfs_get hj, hty, hx]; rfl) hd ((k _ v e2 kv).2 b1 b2 p e' s m args below meth c hA H locs ls h1 h2 h3)
theorem j_putI {a idx : Nat} {x : Int32} {f : Hp → Option X} (ci N j : Nat) (hd : decode ι.1 pc = .ok (.putfield idx, 3)) (hl : Cond.fieldLink ι.2.1 idx (xtb ci j).1 (xtb ci j).2.1 (xtb ci j).2.2.1 ∈ xT) (hc : ci < 10) (hN : xnf ci = N) (hj : j < N) (hty : xty ci j = .int) (hfin : (xtb ci j).2.2.2 = false) (k : ∀ h', xJ ι κ K (pc + 3) L st h' (f h')) : xJ ι κ K pc L (.int x :: .ref a :: st) h ((xpI h a (ci, N) j x).bind f) := fun v e kv => by
  obtain ⟨h', e1, e2⟩ := Option.bind_eq_some_iff.mp e
  obtain ⟨hk, rfl⟩ := xif_some e1
  refine ⟨(k _ v e2 kv).1, fun b1 b2 p e' s m args below meth c hA H locs ls h1 h2 h3 => ?_⟩
  obtain ⟨c1, c2, c3, c4⟩ := xcls ci hc
  rw [hN] at c1 c2 c3 c4
  refine va_put hA.1 hA.2.1 hA.2.2.2.2.2.1 c2 (xty ci) c3 c4 hA.2.2.2.2.1 hA.2.2.2.2.2.2.2.2.1.1 h2 (xw_D _ _) h3 a (by rw [xw_get hk, xe_obj hc]) c1 j hj (hA.2.2.2.2.2.1 _ hl) (fun _ q => q) hfin (ty := .int) (by rw [c3 j hj, hty]) rfl rfl (by simp [xfs]; exact hj) hd (fun H1 locs1 g1 g2 g3 => ?_)
  refine (k _ v e2 kv).2 b1 b2 p e' s m args below meth c hA H1 locs1 ls h1 ?_ g3
  rw [← xw_set (h' := sI h a j x) hk rfl (xe_obj hc) (fun k2 s' hk2 => xe_off ?_ ?_ ?_)]
  · rw [xfs_set (h' := sI h a j x)] at g1
    · exact g1
    · rw [hty]; simp [xv, sI, cv]
    · intro k2 hk2; unfold xv; simp [sI, hk2]
  all_goals (funext z; simp [sI, hk2])
theorem j_putL {a idx : Nat} {x : Int64} {f : Hp → Option X} (ci N j : Nat) (hd : decode ι.1 pc = .ok (.putfield idx, 3)) (hl : Cond.fieldLink ι.2.1 idx (xtb ci j).1 (xtb ci j).2.1 (xtb ci j).2.2.1 ∈ xT) (hc : ci < 10) (hN : xnf ci = N) (hj : j < N) (hty : xty ci j = .long) (hfin : (xtb ci j).2.2.2 = false) (k : ∀ h', xJ ι κ K (pc + 3) L st h' (f h')) : xJ ι κ K pc L (.long x :: .ref a :: st) h ((xpL h a (ci, N) j x).bind f) := fun v e kv => by
  obtain ⟨h', e1, e2⟩ := Option.bind_eq_some_iff.mp e
  obtain ⟨hk, rfl⟩ := xif_some e1
  refine ⟨(k _ v e2 kv).1, fun b1 b2 p e' s m args below meth c hA H locs ls h1 h2 h3 => ?_⟩
  obtain ⟨c1, c2, c3, c4⟩ := xcls ci hc
  rw [hN] at c1 c2 c3 c4
  refine va_put hA.1 hA.2.1 hA.2.2.2.2.2.1 c2 (xty ci) c3 c4 hA.2.2.2.2.1 hA.2.2.2.2.2.2.2.2.1.1 h2 (xw_D _ _) h3 a (by rw [xw_get hk, xe_obj hc]) c1 j hj (hA.2.2.2.2.2.1 _ hl) (fun _ q => q) hfin (ty := .long) (by rw [c3 j hj, hty]) rfl rfl (by simp [xfs]; exact hj) hd (fun H1 locs1 g1 g2 g3 => ?_)
  refine (k _ v e2 kv).2 b1 b2 p e' s m args below meth c hA H1 locs1 ls h1 ?_ g3
  rw [← xw_set (h' := sL h a j x) hk rfl (xe_obj hc) (fun k2 s' hk2 => xe_off ?_ ?_ ?_)]
  · rw [xfs_set (h' := sL h a j x)] at g1
    · exact g1
    · rw [hty]; simp [xv, sL, cv]
    · intro k2 hk2; unfold xv; simp [sL, hk2]
  all_goals (funext z; simp [sL, hk2])
theorem j_putR {a r idx : Nat} {f : Hp → Option X} (ci N j : Nat) (hd : decode ι.1 pc = .ok (.putfield idx, 3)) (hl : Cond.fieldLink ι.2.1 idx (xtb ci j).1 (xtb ci j).2.1 (xtb ci j).2.2.1 ∈ xT) (hc : ci < 10) (hN : xnf ci = N) (hj : j < N) (hty : (∃ C, xty ci j = .object C) ∨ ∃ C, xty ci j = .array C) (hfin : (xtb ci j).2.2.2 = true) (hi : ι.2.2.1 = "<init>") (hdecl : (xtb ci j).1 = ι.2.1) (k : ∀ h', xJ ι κ K (pc + 3) L st h' (f h')) : xJ ι κ K pc L (.ref r :: .ref a :: st) h ((xpR h a (ci, N) j r).bind f) := fun v e kv => by
  obtain ⟨h', e1, e2⟩ := Option.bind_eq_some_iff.mp e
  obtain ⟨hk, rfl⟩ := xif_some e1
  refine ⟨(k _ v e2 kv).1, fun b1 b2 p e' s m args below meth c hA H locs ls h1 h2 h3 => ?_⟩
  obtain ⟨c1, c2, c3, c4⟩ := xcls ci hc
  rw [hN] at c1 c2 c3 c4
  refine va_putF hA.1 hA.2.1 hA.2.2.2.2.2.1 c2 (xty ci) c3 c4 hA.2.2.2.2.1 hA.2.2.2.2.2.2.2.2.1.1 h2 (xw_D _ _) h3 a (by rw [xw_get hk, xe_obj hc]) c1 j hj (hA.2.2.2.2.2.1 _ hl) (fun _ q => q) hfin (hA.2.2.2.2.2.2.2.1.trans hi) hdecl (ty := xty ci j) (c3 j hj) (by rcases hty with ⟨C, q⟩ | ⟨C, q⟩ <;> rw [q] <;> rfl) (by rcases hty with ⟨C, q⟩ | ⟨C, q⟩ <;> rw [q] <;> rfl) (by simp [xfs]; exact hj) hd (fun H1 locs1 g1 g2 g3 => ?_)
  refine (k _ v e2 kv).2 b1 b2 p e' s m args below meth c hA H1 locs1 ls h1 ?_ g3
  rw [← xw_set (h' := sR h a j r) hk rfl (xe_obj hc) (fun k2 s' hk2 => xe_off ?_ ?_ ?_)]
  · rw [xfs_set (h' := sR h a j r)] at g1
    · exact g1
    · rcases hty with ⟨C, q⟩ | ⟨C, q⟩ <;> rw [q] <;> simp [xv, sR, va_rf, cv]
    · intro k2 hk2; unfold xv; simp [sR, hk2]
  all_goals (funext z; simp [sR, hk2])
theorem j_iald {a : Nat} {i : Int32} {f : Int32 → Option X} (hd : decode ι.1 pc = .ok (.iaload, 1)) (k : ∀ x, xJ ι κ K (pc + 1) L (.int x :: st) h (f x)) : xJ ι κ K pc L (.int i :: .ref a :: st) h ((xaI h a 10 i).bind f) := fun v e kv => by
  obtain ⟨x, e1, e2⟩ := Option.bind_eq_some_iff.mp e
  obtain ⟨⟨s1, s2⟩, hk, e3⟩ := Option.bind_eq_some_iff.mp e1
  obtain ⟨⟨q1, q2, q3⟩, rfl⟩ := xif_some e3
  simp only at q1 q3
  subst q1
  refine ⟨(k _ v e2 kv).1, fun b1 b2 p e' s m args below meth c hA H locs ls h1 h2 h3 => ?_⟩
  exact va_iald hA.1 hA.2.1 hA.2.2.2.2.2.2.2.2.1.1 h2 a 0 (cA := κ.2.1.2.2.1 0) (n := s2) (f := h.2.1 a) (by rw [xw_get hk]; rfl) rfl (xi_of q2 q3) hd ((k _ v e2 kv).2 b1 b2 p e' s m args below meth c hA H locs ls h1 h2 h3)
theorem j_zald {a : Nat} {i : Int32} {f : Int32 → Option X} (hd : decode ι.1 pc = .ok (.baload, 1)) (k : ∀ x, xJ ι κ K (pc + 1) L (.int x :: st) h (f x)) : xJ ι κ K pc L (.int i :: .ref a :: st) h ((xaI h a 11 i).bind f) := fun v e kv => by
  obtain ⟨x, e1, e2⟩ := Option.bind_eq_some_iff.mp e
  obtain ⟨⟨s1, s2⟩, hk, e3⟩ := Option.bind_eq_some_iff.mp e1
  obtain ⟨⟨q1, q2, q3⟩, rfl⟩ := xif_some e3
  simp only at q1 q3
  subst q1
  refine ⟨(k _ v e2 kv).1, fun b1 b2 p e' s m args below meth c hA H locs ls h1 h2 h3 => ?_⟩
  exact va_zald hA.1 hA.2.1 hA.2.2.2.2.2.2.2.2.1.1 h2 a 1 (cA := κ.2.1.2.2.1 1) (n := s2) (f := h.2.1 a) (by rw [xw_get hk]; rfl) rfl (xi_of q2 q3) hd ((k _ v e2 kv).2 b1 b2 p e' s m args below meth c hA H locs ls h1 h2 h3)
theorem j_aald12 {a : Nat} {i : Int32} {f : Nat → Option X} (hd : decode ι.1 pc = .ok (.aaload, 1)) (k : ∀ x, xJ ι κ K (pc + 1) L (.ref x :: st) h (f x)) : xJ ι κ K pc L (.int i :: .ref a :: st) h ((xaR h a 12 i).bind f) := fun v e kv => by
  obtain ⟨x, e1, e2⟩ := Option.bind_eq_some_iff.mp e
  obtain ⟨⟨s1, s2⟩, hk, e3⟩ := Option.bind_eq_some_iff.mp e1
  obtain ⟨⟨q1, q2, q3⟩, hx⟩ := xif_o e3
  simp only at q1 q3
  subst q1
  refine ⟨(k _ v e2 kv).1, fun b1 b2 p e' s m args below meth c hA H locs ls h1 h2 h3 => ?_⟩
  have hw := (k x v e2 kv).2 b1 b2 p e' s m args below meth c hA H locs ls h1 h2 h3
  refine va_aldq hA.1 hA.2.1 hA.2.2.2.2.2.2.2.2.1.1 h2 a 2 (cA := κ.2.1.2.2.1 2) (n := s2) (f := fun j => (h.2.2.2 a j).map (fun r => κ.2.1.1 + r)) (by rw [xw_get hk]; rfl) rfl (xi_of q2 q3) hd ?_
  rw [hx]
  exact hw
theorem j_aald13 {a : Nat} {i : Int32} {f : Nat → Option X} (hd : decode ι.1 pc = .ok (.aaload, 1)) (k : ∀ x, xJ ι κ K (pc + 1) L (.ref x :: st) h (f x)) : xJ ι κ K pc L (.int i :: .ref a :: st) h ((xaR h a 13 i).bind f) := fun v e kv => by
  obtain ⟨x, e1, e2⟩ := Option.bind_eq_some_iff.mp e
  obtain ⟨⟨s1, s2⟩, hk, e3⟩ := Option.bind_eq_some_iff.mp e1
  obtain ⟨⟨q1, q2, q3⟩, hx⟩ := xif_o e3
  simp only at q1 q3
  subst q1
  refine ⟨(k _ v e2 kv).1, fun b1 b2 p e' s m args below meth c hA H locs ls h1 h2 h3 => ?_⟩
  have hw := (k x v e2 kv).2 b1 b2 p e' s m args below meth c hA H locs ls h1 h2 h3
  refine va_aldq hA.1 hA.2.1 hA.2.2.2.2.2.2.2.2.1.1 h2 a 3 (cA := κ.2.1.2.2.1 3) (n := s2) (f := fun j => (h.2.2.2 a j).map (fun r => κ.2.1.1 + r)) (by rw [xw_get hk]; rfl) rfl (xi_of q2 q3) hd ?_
  rw [hx]
  exact hw
theorem j_iast {a : Nat} {i x : Int32} {f : Hp → Option X} (hd : decode ι.1 pc = .ok (.iastore, 1)) (k : ∀ h', xJ ι κ K (pc + 1) L st h' (f h')) : xJ ι κ K pc L (.int x :: .int i :: .ref a :: st) h ((xsI h a i x).bind f) := fun v e kv => by
  obtain ⟨h', e1, e2⟩ := Option.bind_eq_some_iff.mp e
  obtain ⟨⟨s1, s2⟩, hk, e3⟩ := Option.bind_eq_some_iff.mp e1
  obtain ⟨⟨q1, q2, q3⟩, rfl⟩ := xif_some e3
  simp only at q1 q3
  subst q1
  refine ⟨(k _ v e2 kv).1, fun b1 b2 p e' s m args below meth c hA H locs ls h1 h2 h3 => ?_⟩
  refine va_iast hA.1 hA.2.1 hA.2.2.2.2.2.2.2.2.1.1 h2 (xw_D _ _) h3 a 0 (cA := κ.2.1.2.2.1 0) (n := s2) (f := h.2.1 a) (by rw [xw_get hk]; rfl) rfl (xi_of q2 q3) hd (fun H1 locs1 g1 g2 g3 => ?_)
  refine (k _ v e2 kv).2 b1 b2 p e' s m args below meth c hA H1 locs1 ls h1 ?_ g3
  rw [← xw_set (h' := sI h a i.toNatClampNeg x) hk rfl ?_ (fun k2 s' hk2 => xe_off ?_ ?_ ?_)]
  · exact g1
  · unfold xe
    simp only [sI, upd]
    first | rfl | (simp; funext z; by_cases hz : z = i.toNatClampNeg <;> simp [hz, upd])
  all_goals (funext z; simp [sI, hk2])
theorem j_zast {a : Nat} {i x : Int32} {f : Hp → Option X} (hd : decode ι.1 pc = .ok (.bastore, 1)) (k : ∀ h', xJ ι κ K (pc + 1) L st h' (f h')) : xJ ι κ K pc L (.int x :: .int i :: .ref a :: st) h ((xsZ h a i x).bind f) := fun v e kv => by
  obtain ⟨h', e1, e2⟩ := Option.bind_eq_some_iff.mp e
  obtain ⟨⟨s1, s2⟩, hk, e3⟩ := Option.bind_eq_some_iff.mp e1
  obtain ⟨⟨q1, q2, q3⟩, rfl⟩ := xif_some e3
  simp only at q1 q3
  subst q1
  refine ⟨(k _ v e2 kv).1, fun b1 b2 p e' s m args below meth c hA H locs ls h1 h2 h3 => ?_⟩
  refine va_zast hA.1 hA.2.1 hA.2.2.2.2.2.2.2.2.1.1 h2 (xw_D _ _) h3 a 1 (cA := κ.2.1.2.2.1 1) (n := s2) (f := h.2.1 a) (by rw [xw_get hk]; rfl) rfl (xi_of q2 q3) hd (fun H1 locs1 g1 g2 g3 => ?_)
  refine (k _ v e2 kv).2 b1 b2 p e' s m args below meth c hA H1 locs1 ls h1 ?_ g3
  rw [← xw_set (h' := sI h a i.toNatClampNeg (vp_nar .boolean x)) hk rfl ?_ (fun k2 s' hk2 => xe_off ?_ ?_ ?_)]
  · exact g1
  · unfold xe
    simp only [sI, upd]
    first | rfl | (simp; funext z; by_cases hz : z = i.toNatClampNeg <;> simp [hz, upd])
  all_goals (funext z; simp [sI, hk2])
theorem j_aast12 {a r : Nat} {i : Int32} {f : Hp → Option X} (hd : decode ι.1 pc = .ok (.aastore, 1)) (k : ∀ h', xJ ι κ K (pc + 1) L st h' (f h')) : xJ ι κ K pc L (.ref r :: .int i :: .ref a :: st) h ((xsR h a 12 i r (0, 16)).bind f) := fun v e kv => by
  obtain ⟨h', e1, e2⟩ := Option.bind_eq_some_iff.mp e
  obtain ⟨⟨s1, s2⟩, hk, e3⟩ := Option.bind_eq_some_iff.mp e1
  obtain ⟨⟨q1, q0, q2, q3⟩, rfl⟩ := xif_some e3
  simp only at q1 q3
  subst q1
  refine ⟨(k _ v e2 kv).1, fun b1 b2 p e' s m args below meth c hA H locs ls h1 h2 h3 => ?_⟩
  refine va_astq hA.1 hA.2.1 hA.2.2.2.2.2.2.2.2.1.1 h2 (xw_D _ _) h3 a 2 r 0 (cA := κ.2.1.2.2.1 2) (r := (xr 0, xtb 0, xnf 0)) (n := s2) (vs := xfs κ.2.1 h r 0 16) (f := fun j => (h.2.2.2 a j).map (fun r => κ.2.1.1 + r)) (by rw [xw_get hk]; rfl) rfl (by rw [xw_get q0]; rfl) (xcls 0 (by decide)).1 (xi_of q2 q3) hd (fun H1 locs1 g1 g2 g3 => ?_)
  refine (k _ v e2 kv).2 b1 b2 p e' s m args below meth c hA H1 locs1 ls h1 ?_ g3
  rw [← xw_set (h' := sR h a i.toNatClampNeg r) hk rfl ?_ (fun k2 s' hk2 => xe_off ?_ ?_ ?_)]
  · exact g1
  · unfold xe
    simp [sR]
    funext z; by_cases hz : z = i.toNatClampNeg <;> simp [hz, va_up]
  all_goals (funext z; simp [sR, hk2])
theorem j_aast13 {a r : Nat} {i : Int32} {f : Hp → Option X} (hd : decode ι.1 pc = .ok (.aastore, 1)) (k : ∀ h', xJ ι κ K (pc + 1) L st h' (f h')) : xJ ι κ K pc L (.ref r :: .int i :: .ref a :: st) h ((xsR h a 13 i r (5, 5)).bind f) := fun v e kv => by
  obtain ⟨h', e1, e2⟩ := Option.bind_eq_some_iff.mp e
  obtain ⟨⟨s1, s2⟩, hk, e3⟩ := Option.bind_eq_some_iff.mp e1
  obtain ⟨⟨q1, q0, q2, q3⟩, rfl⟩ := xif_some e3
  simp only at q1 q3
  subst q1
  refine ⟨(k _ v e2 kv).1, fun b1 b2 p e' s m args below meth c hA H locs ls h1 h2 h3 => ?_⟩
  refine va_astq hA.1 hA.2.1 hA.2.2.2.2.2.2.2.2.1.1 h2 (xw_D _ _) h3 a 3 r 5 (cA := κ.2.1.2.2.1 3) (r := (xr 5, xtb 5, xnf 5)) (n := s2) (vs := xfs κ.2.1 h r 5 5) (f := fun j => (h.2.2.2 a j).map (fun r => κ.2.1.1 + r)) (by rw [xw_get hk]; rfl) rfl (by rw [xw_get q0]; rfl) (xcls 5 (by decide)).1 (xi_of q2 q3) hd (fun H1 locs1 g1 g2 g3 => ?_)
  refine (k _ v e2 kv).2 b1 b2 p e' s m args below meth c hA H1 locs1 ls h1 ?_ g3
  rw [← xw_set (h' := sR h a i.toNatClampNeg r) hk rfl ?_ (fun k2 s' hk2 => xe_off ?_ ?_ ?_)]
  · exact g1
  · unfold xe
    simp [sR]
    funext z; by_cases hz : z = i.toNatClampNeg <;> simp [hz, va_up]
  all_goals (funext z; simp [sR, hk2])
theorem j_alen {a : Nat} {f : Int32 → Option X} (hd : decode ι.1 pc = .ok (.arraylength, 1)) (k : ∀ x, xJ ι κ K (pc + 1) L (.int x :: st) h (f x)) : xJ ι κ K pc L (.ref a :: st) h ((xal h a).bind f) := fun v e kv => by
  obtain ⟨x, e1, e2⟩ := Option.bind_eq_some_iff.mp e
  obtain ⟨⟨s1, s2⟩, hk, e3⟩ := Option.bind_eq_some_iff.mp e1
  obtain ⟨q1, rfl⟩ := xif_some e3
  simp only at q1
  subst q1
  refine ⟨(k _ v e2 kv).1, fun b1 b2 p e' s m args below meth c hA H locs ls h1 h2 h3 => ?_⟩
  exact va_alen hA.1 hA.2.1 hA.2.2.2.2.2.2.2.2.1.1 h2 a 0 (cA := κ.2.1.2.2.1 0) (x := (s2, .inl (h.2.1 a))) (by rw [xw_get hk]; rfl) (ty := .int) rfl rfl hd ((k _ v e2 kv).2 b1 b2 p e' s m args below meth c hA H locs ls h1 h2 h3)
theorem j_copy {a0 a1 idx : Nat} {sp dp n : Int32} {f : Hp → Option X} (hd : decode ι.1 pc = .ok (.invokestatic idx, 3)) (hl : Cond.methodLink ι.2.1 idx arraycopyName ∈ xT) (hn : Cond.native arraycopyName ∈ xT) (hs : Cond.static arraycopyName ∈ xT) (hi : Cond.initialized "java/lang/System" ∈ xT) (hst : (st.map fun v => v.category).sum ≤ 8) (hdp : 2 ≤ ι.2.2.2.2.2) (k : ∀ h', xJ ι κ K (pc + 3) L st h' (f h')) : xJ ι κ K pc L (.int n :: .int dp :: .ref a1 :: .int sp :: .ref a0 :: st) h ((xcp h a0 sp a1 dp n).bind f) := fun v e kv => by
  obtain ⟨h', e1, e2⟩ := Option.bind_eq_some_iff.mp e
  obtain ⟨⟨s1, s2⟩, hk0, e3⟩ := Option.bind_eq_some_iff.mp e1
  obtain ⟨⟨t1, t2⟩, hk1, e4⟩ := Option.bind_eq_some_iff.mp e3
  obtain ⟨⟨q1, q2, q3, q4, q5, q6, q7⟩, rfl⟩ := xif_some e4
  simp only at q1 q2 q6 q7
  subst q1
  subst q2
  refine ⟨(k _ v e2 kv).1, fun b1 b2 p e' s m args below meth c hA H locs ls h1 h2 h3 => ?_⟩
  have nn : ∀ y : Int32, 0 ≤ y.toInt → ¬ y < 0 ∧ (y.toNatClampNeg : Int) = y.toInt := fun y hy => ⟨fun q => by have := Int32.lt_iff_toInt_lt.mp q; simp at this; omega, by show ((y.toInt.toNat : Nat) : Int) = y.toInt; omega⟩
  obtain ⟨g1, g2⟩ := nn sp q3
  obtain ⟨g3, g4⟩ := nn dp q4
  obtain ⟨g5, g6⟩ := nn n q5
  refine va_copyi hA.1 hA.2.1 (hA.2.2.2.1.trans h1.1.symm) hA.2.2.2.2.1 (hA.2.2.2.2.2.1 _ hl) (hA.2.2.2.2.2.1 _ hn) (hA.2.2.2.2.2.1 _ hs) (hA.2.2.2.2.2.1 _ hi) hA.2.2.2.2.2.2.2.2.1.1 h2 (xw_D _ _) h3 a0 a1 0 0 (c0 := κ.2.1.2.2.1 0) (c1 := κ.2.1.2.2.1 0) (n0 := s2) (n1 := t2) (f := h.2.1 a0) (g := h.2.1 a1) (ty := .int) (by rw [xw_get hk0]; rfl) (by rw [xw_get hk1]; rfl) rfl rfl rfl g1 g3 g5 (by omega) (by omega) (fun _ _ => rfl) ?_ ?_ hd (fun H1 locs1 z1 z2 z3 => ?_)
  · show 1 ≤ (xR ι κ).frames
    simp only [xR]; omega
  · show _ ≤ (xR ι κ).locals
    simp only [xR, List.map_map]
    have hq : (st.map ((fun v => v.category) ∘ cv κ.2.1)).sum = (st.map fun v => v.category).sum := by congr 1; apply List.map_congr_left; intro v _; exact cv_cat _ v
    have hw : nativeFrameWords "java/lang/System" "arraycopy" 5 ≤ 40 := by decide
    omega
  · refine (k _ v e2 kv).2 b1 b2 p e' s m args below meth c hA H1 locs1 ls h1 ?_ z3
    rw [← xw_set (h := h) (h' := scp h a0 sp a1 dp n) hk1 rfl ?_ (fun k2 s' hk2 => xe_off ?_ ?_ ?_)]
    · exact z1
    · unfold xe
      simp [scp]
    · funext z; simp [hk2, scp]
    · rfl
    · rfl
end XH
end
section
def xokt : FieldType → Bool
  | .int => true | .long => true | .object _ => true | .array _ => true | _ => false
theorem xokt_all : ∀ ci, ci < 10 → ∀ j, j < xnf ci → xokt (xty ci j) = true := by decide +kernel
theorem xadd_at {η : xEnv} {h : Hp} {s : Nat × Nat} {ty : FieldType} {j : Nat} (ho : xokt ty = true) : defaultValue ty = xv η (xadd h s) h.1.length ty j := by
  cases ty <;> first | (simp [xokt] at ho; done) | (simp [xv, xadd, va_rf, defaultValue])
theorem xw_add {η : xEnv} {h : Hp} {s : Nat × Nat} : xw η (xadd h s) = xw η h ++ [(η.1 + xn h, xe η (xadd h s) h.1.length s)] := by
  apply List.ext_getElem?
  intro k
  by_cases hk : k < h.1.length
  · rw [List.getElem?_append_left (by rw [xw_len]; exact hk)]
    have h1 : h.1[k]? = some h.1[k] := List.getElem?_eq_getElem hk
    rw [xw_get h1, xw_get (h := xadd h s) (s := h.1[k]) (by simp only [xadd]; rw [List.getElem?_append_left hk]; exact h1)]
    congr 2
    apply xe_off <;> (funext z; simp [xadd, Nat.ne_of_lt hk])
  · rw [List.getElem?_append_right (by rw [xw_len]; unfold xn; omega), xw_len]
    by_cases hk2 : k = h.1.length
    · subst hk2
      rw [xw_get (h := xadd h s) (s := s) (by simp [xadd])]
      simp [xn]
    · rw [List.getElem?_eq_none (by rw [xw_len]; simp only [xn, xadd, List.length_append, List.length_cons, List.length_nil]; omega), List.getElem?_eq_none (by simp only [List.length_cons, List.length_nil, xn]; omega)]
theorem xn_add (h : Hp) (s : Nat × Nat) : xn (xadd h s) = xn h + 1 := by simp [xn, xadd]
theorem xm_add (h : Hp) (s : Nat × Nat) : xm (xadd h s) = xm h + s.2 := by simp [xm, xadd]
/-- the new cell's address -/
theorem xq_eq {η : xEnv} {h : Hp} {H1 : Heap} {q : Nat} {e : va_E} (hP : va_P η.2.1 vwCl (xw η h ++ [(q, e)]) H1) (hD : va_D (xA η) (xw η h ++ [(q, e)])) (hz : H1.size ≤ η.1 + xn h + 1) : q = η.1 + xn h := by
  have hl : (xw η h ++ [(q, e)])[xn h]? = some (q, e) := by rw [List.getElem?_append_right (by rw [xw_len]; exact Nat.le_refl _), xw_len]; simp
  have h1 : q < H1.size := (hP _ _ hl).lt
  have h2 : η.1 ≤ q := hD.2 _ _ hl
  rcases Nat.lt_or_ge q (η.1 + xn h) with h3 | h3
  · exfalso
    have hk : q - η.1 < h.1.length := by unfold xn at h3; omega
    have h4 : (xw η h ++ [(q, e)])[q - η.1]? = some (η.1 + (q - η.1), xe η h (q - η.1) h.1[q - η.1]) := by
      rw [List.getElem?_append_left (by rw [xw_len]; exact hk), xw_get (List.getElem?_eq_getElem hk)]
    have h5 := hD.1 _ _ _ _ hl h4 (by show q = η.1 + (q - η.1); omega)
    unfold xn at h5
    omega
  · omega
theorem xcat (η : xEnv) (st : List Value) : ((st.map (cv η)).map fun v => v.category).sum = (st.map fun v => v.category).sum := by
  rw [List.map_map]; congr 1; apply List.map_congr_left; intro v _; exact cv_cat _ v
section XN
variable {X : Type} {ι : xI} {κ : xK} {K : X → Prop} {pc : Nat} {L : List (Nat × Value)} {st : List Value} {h : Hp}
theorem j_new {idx : Nat} {f : Nat × Hp → Option X} (ci N : Nat) (hd : decode ι.1 pc = .ok (.new idx, 3)) (hcl : Cond.classLink ι.2.1 idx (xr ci) ∈ xT) (hins : Cond.instantiable (xr ci) N ∈ xT) (hini : Cond.initialized (xr ci) ∈ xT) (hc : ci < 10) (hN : xnf ci = N) (k : ∀ q : Nat × Hp, xJ ι κ K (pc + 3) L (.ref q.1 :: st) q.2 (f q)) : xJ ι κ K pc L st h ((xnew h (ci, N)).bind f) := fun v e kv => by
  simp only [xnew, Option.bind_some] at e
  have hk := k _ v e kv
  have hB : xB κ (xadd h (ci, N)) := hk.1
  unfold xB at hB
  rw [xn_add, xm_add] at hB
  refine ⟨⟨by omega, by simp only at hB; omega⟩, fun b1 b2 p e' s m args below meth c hA H locs ls h1 h2 h3 => ?_⟩
  obtain ⟨c1, c2, c3, c4⟩ := xcls ci hc
  rw [hN] at c1 c2 c3 c4
  refine va_new (ci := ci) (fs := xfs κ.2.1 (xadd h (ci, N)) h.1.length ci N) hA.1 hA.2.1 hA.2.2.2.2.2.1 c2 (xty ci) c3 hA.2.2.2.2.1 (hA.2.2.2.2.2.1 _ hcl) (hA.2.2.2.2.2.1 _ hins) (hA.2.2.2.2.2.1 _ hini) hA.2.2.2.2.2.2.2.2.1.1 h2 (xw_D _ _) h3 ?_ c1 (fun j hj => ?_) ?_ ?_ hd (fun q H1 g1 g2 g3 => ?_)
  · intro q hq
    have := hA.2.2.2.2.2.2.2.2.2
    show κ.2.1.1 ≤ q
    omega
  · rw [vp_V, List.getD_eq_getElem?_getD, xfs_get hj]
    exact xadd_at (xokt_all ci hc j (by rw [hN]; exact hj))
  · show _ ≤ xn κ.2.2.2.2 - κ.2.2.1.1
    omega
  · show _ ≤ xm κ.2.2.2.2 - κ.2.2.1.2
    simp only at hB
    omega
  · have ee : xn h - κ.2.2.1.1 + 1 = xn (xadd h (ci, N)) - κ.2.2.1.1 := by rw [xn_add]; omega
    have em : xm h - κ.2.2.1.2 + N = xm (xadd h (ci, N)) - κ.2.2.1.2 := by rw [xm_add]; show _ = xm h + N - _; omega
    rw [ee, em]
    refine xW_size (fun hz => ?_)
    have hq : q = κ.2.1.1 + xn h := xq_eq g1 g2 (by rw [hA.2.2.2.2.2.2.2.2.2, xn_add] at hz; omega)
    subst hq
    refine hk.2 (by rw [xn_add]; omega) (by rw [xm_add]; omega) p e' s m args below meth c hA H1 locs ls h1 ?_ g3
    show va_P _ _ (xw κ.2.1 (xadd h (ci, N))) H1
    rw [xw_add, xe_obj hc]
    exact g1
theorem j_newa {n : Int32} {f : Nat × Hp → Option X} {aty : ArrayType} (kk t0 : Nat) {ty : FieldType} (hd : decode ι.1 pc = .ok (.newarray aty, 2)) (hty : newarray.typeOf aty = ty) (hcl : Cond.arrayClass ty ∈ xT) (ht : kk = 10 ∧ t0 = 0 ∧ ty = .int ∨ kk = 11 ∧ t0 = 1 ∧ ty = .boolean) (k : ∀ q : Nat × Hp, xJ ι κ K (pc + 2) L (.ref q.1 :: st) q.2 (f q)) : xJ ι κ K pc L (.int n :: st) h ((xna h kk n).bind f) := fun v e kv => by
  obtain ⟨x, e1, e2⟩ := Option.bind_eq_some_iff.mp e
  obtain ⟨⟨n0, n1⟩, rfl⟩ := xif_some e1
  have hk := k _ v e2 kv
  have hB : xB κ (xadd h (kk, n.toNatClampNeg)) := hk.1
  unfold xB at hB
  rw [xn_add, xm_add] at hB
  simp only at hB
  have hnn : (n.toNatClampNeg : Int) = n.toInt := by show ((n.toInt.toNat : Nat) : Int) = n.toInt; omega
  refine ⟨⟨by omega, by omega⟩, fun b1 b2 p e' s m args below meth c hA H locs ls h1 h2 h3 => ?_⟩
  have hU := hA.2.2.2.2.2.2.2.2.1
  refine va_newa (atype := aty) (ty := ty) (n := n) (N' := n.toNatClampNeg) (a0 := (n.toNatClampNeg, .inl (fun _ => 0))) hA.1 hA.2.1 (by rw [hty]; exact hA.2.2.2.2.2.1 _ hcl) hty hU.1 h2 (xw_D _ _) h3 ?_ (fun cA => ?_) ?_ rfl ?_ ?_ ?_ hd (fun q cA H1 g0 g1 g2 g3 => ?_)
  · intro q hq
    have := hA.2.2.2.2.2.2.2.2.2
    show κ.2.1.1 ≤ q
    omega
  · rcases ht with ⟨-, -, rfl⟩ | ⟨-, -, rfl⟩ <;> rfl
  · intro q; have := Int32.lt_iff_toInt_lt.mp q; simp at this; omega
  · have : componentBytes ty ≤ 8 := by rcases ht with ⟨-, -, rfl⟩ | ⟨-, -, rfl⟩ <;> decide
    have h2 : n.toNatClampNeg * componentBytes ty ≤ 1000000 * 8 := Nat.mul_le_mul (by omega) this
    omega
  · show _ ≤ xn κ.2.2.2.2 - κ.2.2.1.1
    omega
  · show _ ≤ xm κ.2.2.2.2 - κ.2.2.1.2
    omega
  · have ee : xn h - κ.2.2.1.1 + 1 = xn (xadd h (kk, n.toNatClampNeg)) - κ.2.2.1.1 := by rw [xn_add]; omega
    have em : xm h - κ.2.2.1.2 + n.toNatClampNeg = xm (xadd h (kk, n.toNatClampNeg)) - κ.2.2.1.2 := by rw [xm_add]; show _ = xm h + n.toNatClampNeg - _; omega
    rw [ee, em]
    refine xW_size (fun hz => ?_)
    have hq : q = κ.2.1.1 + xn h := xq_eq g1 g2 (by rw [hA.2.2.2.2.2.2.2.2.2, xn_add] at hz; omega)
    subst hq
    have hcA : cA = κ.2.1.2.2.1 t0 := by
      have z1 := (g0.2 4 (cA, ty) (by rw [List.getElem?_append_right (by simp [xt])]; simp [xt])).2
      rcases ht with ⟨-, rfl, rfl⟩ | ⟨-, rfl, rfl⟩
      · have z2 := (hU.1.2 0 (κ.2.1.2.2.1 0, .int) rfl).2
        exact Option.some.inj (z1.symm.trans z2)
      · have z2 := (hU.1.2 1 (κ.2.1.2.2.1 1, .boolean) rfl).2
        exact Option.some.inj (z1.symm.trans z2)
    subst hcA
    refine hk.2 (by rw [xn_add]; omega) (by rw [xm_add]; omega) p e' s m args below meth c hA H1 locs ls h1 ?_ g3
    show va_P _ _ (xw κ.2.1 (xadd h (kk, n.toNatClampNeg))) H1
    rw [xw_add]
    have he : xe κ.2.1 (xadd h (kk, n.toNatClampNeg)) h.1.length (kk, n.toNatClampNeg) = .inl (κ.2.1.2.2.1 t0, n.toNatClampNeg, .inl (fun _ => 0)) := by
      rcases ht with ⟨rfl, rfl, -⟩ | ⟨rfl, rfl, -⟩ <;> simp [xe, xadd]
    rw [he]
    exact g1
theorem j_newq {n : Int32} {idx : Nat} {f : Nat × Hp → Option X} (kk t0 ci : Nat) (hd : decode ι.1 pc = .ok (.anewarray idx, 3)) (hcl : Cond.classLink ι.2.1 idx (xr ci) ∈ xT) (ht : kk = 12 ∧ t0 = 2 ∧ ci = 0 ∨ kk = 13 ∧ t0 = 3 ∧ ci = 5) (k : ∀ q : Nat × Hp, xJ ι κ K (pc + 3) L (.ref q.1 :: st) q.2 (f q)) : xJ ι κ K pc L (.int n :: st) h ((xna h kk n).bind f) := fun v e kv => by
  obtain ⟨x, e1, e2⟩ := Option.bind_eq_some_iff.mp e
  obtain ⟨⟨n0, n1⟩, rfl⟩ := xif_some e1
  have hk := k _ v e2 kv
  have hB : xB κ (xadd h (kk, n.toNatClampNeg)) := hk.1
  unfold xB at hB
  rw [xn_add, xm_add] at hB
  simp only at hB
  have hnn : (n.toNatClampNeg : Int) = n.toInt := by show ((n.toInt.toNat : Nat) : Int) = n.toInt; omega
  refine ⟨⟨by omega, by omega⟩, fun b1 b2 p e' s m args below meth c hA H locs ls h1 h2 h3 => ?_⟩
  have hU := hA.2.2.2.2.2.2.2.2.1
  refine va_newq (C := xr ci) (n := n) (N' := n.toNatClampNeg) hA.1 hA.2.1 hA.2.2.2.2.1 (hA.2.2.2.2.2.1 _ hcl) ?_ hU.1 h2 (xw_D _ _) h3 ?_ ?_ rfl ?_ ?_ ?_ hd (fun q cA H1 g0 g1 g2 g3 => ?_)
  · rcases ht with ⟨-, -, rfl⟩ | ⟨-, -, rfl⟩
    · exact hU.2.2.1.2
    · exact hU.2.2.1.1
  · intro q hq
    have := hA.2.2.2.2.2.2.2.2.2
    show κ.2.1.1 ≤ q
    omega
  · intro q; have := Int32.lt_iff_toInt_lt.mp q; simp at this; omega
  · omega
  · show _ ≤ xn κ.2.2.2.2 - κ.2.2.1.1
    omega
  · show _ ≤ xm κ.2.2.2.2 - κ.2.2.1.2
    omega
  · have ee : xn h - κ.2.2.1.1 + 1 = xn (xadd h (kk, n.toNatClampNeg)) - κ.2.2.1.1 := by rw [xn_add]; omega
    have em : xm h - κ.2.2.1.2 + n.toNatClampNeg = xm (xadd h (kk, n.toNatClampNeg)) - κ.2.2.1.2 := by rw [xm_add]; show _ = xm h + n.toNatClampNeg - _; omega
    rw [ee, em]
    refine xW_size (fun hz => ?_)
    have hq : q = κ.2.1.1 + xn h := xq_eq g1 g2 (by rw [hA.2.2.2.2.2.2.2.2.2, xn_add] at hz; omega)
    subst hq
    have hcA : cA = κ.2.1.2.2.1 t0 := by
      have z1 := (g0.2 4 (cA, .object (xr ci)) (by rw [List.getElem?_append_right (by simp [xt])]; simp [xt])).2
      obtain ⟨_, _, -, -, -, z1⟩ := z1
      rcases ht with ⟨-, rfl, rfl⟩ | ⟨-, rfl, rfl⟩
      · obtain ⟨_, _, -, -, -, z2⟩ := (hU.1.2 2 (κ.2.1.2.2.1 2, .object RX0) rfl).2
        exact Option.some.inj (z1.symm.trans z2)
      · obtain ⟨_, _, -, -, -, z2⟩ := (hU.1.2 3 (κ.2.1.2.2.1 3, .object RX5) rfl).2
        exact Option.some.inj (z1.symm.trans z2)
    subst hcA
    refine hk.2 (by rw [xn_add]; omega) (by rw [xm_add]; omega) p e' s m args below meth c hA H1 locs ls h1 ?_ g3
    show va_P _ _ (xw κ.2.1 (xadd h (kk, n.toNatClampNeg))) H1
    rw [xw_add]
    have he : xe κ.2.1 (xadd h (kk, n.toNatClampNeg)) h.1.length (kk, n.toNatClampNeg) = .inl (κ.2.1.2.2.1 t0, n.toNatClampNeg, .inr (.inr (.inr (.inr (fun _ => none))))) := by
      rcases ht with ⟨rfl, rfl, -⟩ | ⟨rfl, rfl, -⟩ <;> simp [xe, xadd]
    rw [he]
    exact g1
theorem j_obj {a idx : Nat} {o : Option X} (hd : decode ι.1 pc = .ok (.invokespecial idx, 3)) (hl : Cond.methodLink ι.2.1 idx objectInit ∈ xT) (hi : Cond.instanceMethod objectInit ∈ xT) (hcd : Cond.code objectInit ⟨#[0xb1]⟩ 1 none ∈ xT) (hst : (st.map fun v => v.category).sum ≤ 8) (hdp : 1 ≤ ι.2.2.2.2.2) (k : xJ ι κ K (pc + 3) L st h o) : xJ ι κ K pc L (.ref a :: st) h o := fun v e kv => ⟨(k v e kv).1, fun b1 b2 p e' s m args below meth c hA H locs ls h1 h2 h3 => by
  refine W.objInit hA.1 hA.2.1 hA.2.2.2.2.1 (hA.2.2.2.2.2.1 _ hl) (hA.2.2.2.2.2.1 _ hi) (hA.2.2.2.2.2.1 _ hcd) rfl (h1.1.trans hA.2.2.2.1.symm) rfl hd ?_ ?_ ((k v e kv).2 b1 b2 p e' s m args below meth c hA H locs ls h1 h2 h3)
  · show 1 ≤ (xR ι κ).frames
    exact hdp
  · have := lv_room (m := m) (pc := pc) (ls := ls) (rest := st.map (cv κ.2.1)) (st := st.map (cv κ.2.1)) (by rw [xcat]; exact hst)
    show _ ≤ 60 * ι.2.2.2.2.2
    have h9 : 2 * (F0 m pc ls ((.ref a :: st).map (cv κ.2.1))).monitorRoom = 2 * (F0 m pc ls (st.map (cv κ.2.1))).monitorRoom := rfl
    omega⟩
end XN
end
section
/-- what the tables say of a method that is called -/
def xtg (y : MethodName) (b : ByteArray) (n : Nat) (ret : Option FieldType) (np : Nat) : Prop := Cond.code y b n ret ∈ xT ∧ Cond.initialized y.cls ∈ xT ∧ y.cls ≠ "java/lang/invoke/MethodHandle" ∧ y.cls ≠ "java/lang/invoke/VarHandle" ∧ (parseMethodDescriptor y.desc).map (fun d => d.parameters.length) = some np
theorem xcallW {p : Program} {l : Launch} {e : Env} {R : Jvm.Room} {s : State} {m : MethodId} {args : Array Value} {below : List Frame} {meth : Method} {c : Code} {H H0 : Heap} {locs : List Loc} {cells slots mc ms : Nat} {Q : State → Prop} {pc : Nat} {ls : Array Slot} {st0 rest : List Value} {η : xEnv} {r : Option Value} {hf : Hp} {a : Array Value}
    (hr : va_Run p l e R s m args below meth c H locs cells slots mc ms (F0 m pc ls st0) rest (xQ η r hf a) (xA η)) (hS : va_S (xA η) H0 H locs)
    (kk : ∀ (H1 : Heap) (locs1 : List Loc), va_P η.2.1 vwCl (xw η hf) H1 → va_S (xA η) H0 H1 locs1 → W p l e R s m args below meth c H1 locs1 (cells + mc) (slots + ms) Q (F0 m (pc + 3) ls ((r.map (cv η)).toList ++ rest))) : W p l e R s m args below meth c H locs cells slots Q (F0 m pc ls st0) := by
  intro T hT X
  obtain ⟨v, st₀, t, T', L, h0, X', hL, e1, e2, ⟨hv, hp, hz, hk⟩, st⟩ := hr T hT X
  cases hv
  rw [h0] at hz hk
  obtain ⟨t2, a1, b1⟩ := kk T'.heap (locs ++ L) (by rw [e1]; exact hp)
    ⟨Nat.le_trans hS.1 (by rw [e1]; exact hz), fun q h1 h2 => by rw [e1, hk q (Nat.lt_of_lt_of_le h1 hS.1) h2]; exact hS.2.1 q h1 h2, fun q hq => by
      rcases List.mem_append.mp hq with h | h
      · exact hS.2.2 q h
      · exact hL q h⟩ T' rfl X'
  exact ⟨t2, st t2 a1, b1⟩
theorem xpre {η : xEnv} {as : List Value} {h : Hp} : FrameBlind (va_Pc (as.map (cv η)) (fun U => U.heap.size = η.1 + xn h ∧ va_P η.2.1 vwCl (xw η h) U.heap ∧ xU η U)) := fun a U g mk q => ⟨q.1, q.2.1, q.2.2.1, xU_blind q.2.2.2⟩
section XQ
variable {X : Type} {ι : xI} {κ : xK} {K : X → Prop} {pc : Nat} {L : List (Nat × Value)} {st : List Value} {h : Hp}
/-- the counts at a call -/
theorem xcnt {h : Hp} {hf : Hp} (b1 : κ.2.2.1.1 ≤ xn h) (b2 : κ.2.2.1.2 ≤ xm h) (hc : xn h ≤ xn hf ∧ xm h ≤ xm hf) (hB : xB κ hf) : (xn h - κ.2.2.1.1 + (xn hf - xn h) ≤ xn κ.2.2.2.2 - κ.2.2.1.1 ∧ xm h - κ.2.2.1.2 + (xm hf - xm h) ≤ xm κ.2.2.2.2 - κ.2.2.1.2) ∧ xn h - κ.2.2.1.1 + (xn hf - xn h) = xn hf - κ.2.2.1.1 ∧ xm h - κ.2.2.1.2 + (xm hf - xm h) = xm hf - κ.2.2.1.2 := by
  obtain ⟨c1, c2⟩ := hB
  refine ⟨⟨?_, ?_⟩, ?_, ?_⟩ <;> omega
theorem j_callS {Y : Type} {oc : Option Y} {f : Y → Option X} {y : MethodName} {b : ByteArray} {n d np idx : Nat} {ret : Option FieldType} {as ST : List Value} (rv : Y → Option Value) (rh : Y → Hp) (hd : decode ι.1 pc = .ok (.invokestatic idx, 3)) (hl : Cond.methodLink ι.2.1 idx y ∈ xT) (ht : xtg y b n ret np) (hs : Cond.static y ∈ xT) (hC : ∀ x, oc = some x → xC κ.1 κ.2.1 y b n ret d as h (rv x) (rh x)) (hdp : d + 1 ≤ ι.2.2.2.2.2) (hn : n ≤ 40) (hnp : as.length = np) (hST : as.reverse ++ st = ST) (hst : (st.map fun v => v.category).sum ≤ 8) (k : ∀ x, xJ ι κ K (pc + 3) L ((rv x).toList ++ st) (rh x) (f x)) : xJ ι κ K pc L ST h ((oc).bind f) := fun v e kv => by
  obtain ⟨x, e1, e2⟩ := Option.bind_eq_some_iff.mp e
  obtain ⟨hm, hM⟩ := hC x e1
  obtain ⟨hB, hG⟩ := k x v e2 kv
  subst hST
  refine ⟨⟨Nat.le_trans hm.1 hB.1, Nat.le_trans hm.2 hB.2⟩, fun b1 b2 p e' s m args below meth c hA H locs ls h1 h2 h3 => ?_⟩
  obtain ⟨hf, hq1, hq2⟩ := xcnt b1 b2 hm hB
  have hts := hA.2.2.2.2.2.1
  have hU := hA.2.2.2.2.2.2.2.2.1
  have hR : d + 1 ≤ (xR ι κ).frames ∧ 8 + (n + 11) + 60 * d ≤ (xR ι κ).locals := ⟨hdp, by show _ ≤ 60 * ι.2.2.2.2.2; omega⟩
  refine xW_size (fun hz => ?_)
  have hsz : H.size = κ.2.1.1 + xn h := by
    have q1 := xw_size h2 (by have := h3.1; have := hA.2.2.2.2.2.2.2.2.2; omega)
    have q2 := hA.2.2.2.2.2.2.2.2.2
    omega
  refine xcallW (r := rv x) (hf := rh x) (rest := st.map (cv κ.2.1)) (va_runS (As := as.map (cv κ.2.1)) (rest := st.map (cv κ.2.1)) ⟨hA.1, hA.2.1, hA.2.2.2.1, hA.2.2.2.2.1, hts⟩ hM ⟨callB_of np hts (xT_good ht.1) rfl rfl rfl (hts _ ht.2.1) (hts _ hl) ht.2.2 hR, hts _ hs⟩ ⟨xpre, fun U hUh hW => ⟨by simp [cv], by rw [hUh]; exact hsz, by rw [hUh]; exact h2, xU_at hU h3 hUh hW⟩⟩ rfl (by rw [List.length_map]; exact hnp) h1.1 (by simp [cv]) (lv_room (by rw [xcat]; exact hst)) hd hf) h3 (fun H1 locs1 g1 g3 => ?_)
  rw [hq1, hq2]
  have hw := hG (Nat.le_trans b1 hm.1) (Nat.le_trans b2 hm.2) p e' s m args below meth c hA H1 locs1 ls h1 g1 g3
  have hmap : ((rv x).map (cv κ.2.1)).toList ++ st.map (cv κ.2.1) = ((rv x).toList ++ st).map (cv κ.2.1) := by
    rw [List.map_append]; congr 1; cases rv x <;> rfl
  rw [hmap]
  exact hw
theorem j_callSN {Y : Type} {oc : Option Y} {f : Y → Option X} {host : String} {y : MethodName} {b : ByteArray} {n d np idx : Nat} {ret : Option FieldType} {as ST : List Value} (rv : Y → Option Value) (rh : Y → Hp) (hd : decode ι.1 pc = .ok (.invokestatic idx, 3)) (hl : Cond.methodLinkNest ι.2.1 idx y host ∈ xnest) (ht : xtg y b n ret np) (hs : Cond.static y ∈ xT) (hC : ∀ x, oc = some x → xC κ.1 κ.2.1 y b n ret d as h (rv x) (rh x)) (hdp : d + 1 ≤ ι.2.2.2.2.2) (hn : n ≤ 40) (hnp : as.length = np) (hST : as.reverse ++ st = ST) (hst : (st.map fun v => v.category).sum ≤ 8) (k : ∀ x, xJ ι κ K (pc + 3) L ((rv x).toList ++ st) (rh x) (f x)) : xJ ι κ K pc L ST h ((oc).bind f) := fun v e kv => by
  obtain ⟨x, e1, e2⟩ := Option.bind_eq_some_iff.mp e
  obtain ⟨hm, hM⟩ := hC x e1
  obtain ⟨hB, hG⟩ := k x v e2 kv
  subst hST
  refine ⟨⟨Nat.le_trans hm.1 hB.1, Nat.le_trans hm.2 hB.2⟩, fun b1 b2 p e' s m args below meth c hA H locs ls h1 h2 h3 => ?_⟩
  obtain ⟨hf, hq1, hq2⟩ := xcnt b1 b2 hm hB
  have hts := hA.2.2.2.2.2.1
  have hU := hA.2.2.2.2.2.2.2.2.1
  have hR : d + 1 ≤ (xR ι κ).frames ∧ 8 + (n + 11) + 60 * d ≤ (xR ι κ).locals := ⟨hdp, by show _ ≤ 60 * ι.2.2.2.2.2; omega⟩
  refine xW_size (fun hz => ?_)
  have hsz : H.size = κ.2.1.1 + xn h := by
    have q1 := xw_size h2 (by have := h3.1; have := hA.2.2.2.2.2.2.2.2.2; omega)
    have q2 := hA.2.2.2.2.2.2.2.2.2
    omega
  refine xcallW (r := rv x) (hf := rh x) (rest := st.map (cv κ.2.1)) (va_runSN (As := as.map (cv κ.2.1)) (rest := st.map (cv κ.2.1)) ⟨hA.1, hA.2.1, hA.2.2.2.1, hA.2.2.2.2.1, hts⟩ hM ⟨va_cnB np hts (xT_good ht.1) rfl rfl rfl (hU.2.1 _ hl) (hts _ ht.2.1) ht.2.2 hR, hts _ hs, trivial⟩ ⟨xpre, fun U hUh hW => ⟨by simp [cv], by rw [hUh]; exact hsz, by rw [hUh]; exact h2, xU_at hU h3 hUh hW⟩⟩ rfl (by rw [List.length_map]; exact hnp) h1.1 (by simp [cv]) (lv_room (by rw [xcat]; exact hst)) hd hf) h3 (fun H1 locs1 g1 g3 => ?_)
  rw [hq1, hq2]
  have hw := hG (Nat.le_trans b1 hm.1) (Nat.le_trans b2 hm.2) p e' s m args below meth c hA H1 locs1 ls h1 g1 g3
  have hmap : ((rv x).map (cv κ.2.1)).toList ++ st.map (cv κ.2.1) = ((rv x).toList ++ st).map (cv κ.2.1) := by
    rw [List.map_append]; congr 1; cases rv x <;> rfl
  rw [hmap]
  exact hw
theorem j_callV {Y : Type} {oc : Option Y} {f : Y → Option X} {a : Nat} {y : MethodName} {b : ByteArray} {n d np idx : Nat} {ret : Option FieldType} {as ST : List Value} (rv : Y → Option Value) (rh : Y → Hp) (ci N : Nat) (hd : decode ι.1 pc = .ok (.invokevirtual idx, 3)) (hl : Cond.methodLink ι.2.1 idx y ∈ xT) (ht : xtg y b n ret np) (hi : Cond.instanceMethod y ∈ xT) (hse : Cond.selects y.cls y y ∈ xT) (hcl : xr ci = y.cls) (hc : ci < 10) (hC : ∀ x, oc = some x → xC κ.1 κ.2.1 y b n ret d (.ref a :: as) h (rv x) (rh x)) (hdp : d + 1 ≤ ι.2.2.2.2.2) (hn : n ≤ 40) (hnp : as.length = np) (hST : as.reverse ++ .ref a :: st = ST) (hst : (st.map fun v => v.category).sum ≤ 8) (k : ∀ x, xJ ι κ K (pc + 3) L ((rv x).toList ++ st) (rh x) (f x)) : xJ ι κ K pc L ST h ((xat h a (ci, N) oc).bind f) := fun v e kv => by
  obtain ⟨x, e1, e2⟩ := Option.bind_eq_some_iff.mp e
  obtain ⟨hk0, e1⟩ := xif_o e1
  obtain ⟨hm, hM⟩ := hC x e1
  obtain ⟨hB, hG⟩ := k x v e2 kv
  subst hST
  refine ⟨⟨Nat.le_trans hm.1 hB.1, Nat.le_trans hm.2 hB.2⟩, fun b1 b2 p e' s m args below meth c hA H locs ls h1 h2 h3 => ?_⟩
  obtain ⟨hf, hq1, hq2⟩ := xcnt b1 b2 hm hB
  have hts := hA.2.2.2.2.2.1
  have hU := hA.2.2.2.2.2.2.2.2.1
  have hR : d + 1 ≤ (xR ι κ).frames ∧ 8 + (n + 11) + 60 * d ≤ (xR ι κ).locals := ⟨hdp, by show _ ≤ 60 * ι.2.2.2.2.2; omega⟩
  refine xW_size (fun hz => ?_)
  have hsz : H.size = κ.2.1.1 + xn h := by
    have q1 := xw_size h2 (by have := h3.1; have := hA.2.2.2.2.2.2.2.2.2; omega)
    have q2 := hA.2.2.2.2.2.2.2.2.2
    omega
  have hrec := va_recv hU.1 h2 (xcls ci hc).1 (show (xw κ.2.1 h)[a]? = some (κ.2.1.1 + a, .inr (ci, xfs κ.2.1 h a ci N)) by rw [xw_get hk0, xe_obj hc])
  simp only [hcl] at hrec
  refine xcallW (r := rv x) (hf := rh x) (rest := st.map (cv κ.2.1)) (va_runV (b := κ.2.1.1 + a) (As := as.map (cv κ.2.1)) (rest := st.map (cv κ.2.1)) ⟨hA.1, hA.2.1, hA.2.2.2.1, hA.2.2.2.2.1, hts⟩ hM ⟨callB_of np hts (xT_good ht.1) rfl rfl rfl (hts _ ht.2.1) (hts _ hl) ht.2.2 hR, hts _ hi, hts _ hse⟩ ⟨xpre, hrec, fun U hUh hW => ⟨by simp [cv], by rw [hUh]; exact hsz, by rw [hUh]; exact h2, xU_at hU h3 hUh hW⟩⟩ rfl (by rw [List.length_map]; exact hnp) h1.1 (by simp [cv]) (lv_room (by rw [xcat]; exact hst)) hd hf) h3 (fun H1 locs1 g1 g3 => ?_)
  rw [hq1, hq2]
  have hw := hG (Nat.le_trans b1 hm.1) (Nat.le_trans b2 hm.2) p e' s m args below meth c hA H1 locs1 ls h1 g1 g3
  have hmap : ((rv x).map (cv κ.2.1)).toList ++ st.map (cv κ.2.1) = ((rv x).toList ++ st).map (cv κ.2.1) := by
    rw [List.map_append]; congr 1; cases rv x <;> rfl
  rw [hmap]
  exact hw
theorem j_callI {Y : Type} {oc : Option Y} {f : Y → Option X} {a : Nat} {y : MethodName} {b : ByteArray} {n d np idx : Nat} {as ST : List Value} (rv : Y → Option Value) (rh : Y → Hp) (hd : decode ι.1 pc = .ok (.invokespecial idx, 3)) (hl : Cond.methodLink ι.2.1 idx y ∈ xT) (ht : xtg y b n none np) (hi : Cond.instanceMethod y ∈ xT) (hnm : y.name = "<init>") (hC : ∀ x, oc = some x → xC κ.1 κ.2.1 y b n none d (.ref a :: as) h (rv x) (rh x)) (hdp : d + 1 ≤ ι.2.2.2.2.2) (hn : n ≤ 40) (hnp : as.length = np) (hST : as.reverse ++ .ref a :: st = ST) (hst : (st.map fun v => v.category).sum ≤ 8) (k : ∀ x, xJ ι κ K (pc + 3) L ((rv x).toList ++ st) (rh x) (f x)) : xJ ι κ K pc L ST h ((oc).bind f) := fun v e kv => by
  obtain ⟨x, e1, e2⟩ := Option.bind_eq_some_iff.mp e
  obtain ⟨hm, hM⟩ := hC x e1
  obtain ⟨hB, hG⟩ := k x v e2 kv
  subst hST
  refine ⟨⟨Nat.le_trans hm.1 hB.1, Nat.le_trans hm.2 hB.2⟩, fun b1 b2 p e' s m args below meth c hA H locs ls h1 h2 h3 => ?_⟩
  obtain ⟨hf, hq1, hq2⟩ := xcnt b1 b2 hm hB
  have hts := hA.2.2.2.2.2.1
  have hU := hA.2.2.2.2.2.2.2.2.1
  have hR : d + 1 ≤ (xR ι κ).frames ∧ 8 + (n + 11) + 60 * d ≤ (xR ι κ).locals := ⟨hdp, by show _ ≤ 60 * ι.2.2.2.2.2; omega⟩
  refine xW_size (fun hz => ?_)
  have hsz : H.size = κ.2.1.1 + xn h := by
    have q1 := xw_size h2 (by have := h3.1; have := hA.2.2.2.2.2.2.2.2.2; omega)
    have q2 := hA.2.2.2.2.2.2.2.2.2
    omega
  refine xcallW (r := rv x) (hf := rh x) (rest := st.map (cv κ.2.1)) (va_runI (b := κ.2.1.1 + a) (As := as.map (cv κ.2.1)) (rest := st.map (cv κ.2.1)) ⟨hA.1, hA.2.1, hA.2.2.2.1, hA.2.2.2.2.1, hts⟩ hM ⟨callB_of np hts (xT_good ht.1) rfl rfl rfl (hts _ ht.2.1) (hts _ hl) ht.2.2 hR, hnm, hts _ hi⟩ ⟨xpre, fun U hUh hW => ⟨by simp [cv], by rw [hUh]; exact hsz, by rw [hUh]; exact h2, xU_at hU h3 hUh hW⟩⟩ rfl (by rw [List.length_map]; exact hnp) h1.1 (by simp [cv]) (lv_room (by rw [xcat]; exact hst)) hd hf) h3 (fun H1 locs1 g1 g3 => ?_)
  rw [hq1, hq2]
  have hw := hG (Nat.le_trans b1 hm.1) (Nat.le_trans b2 hm.2) p e' s m args below meth c hA H1 locs1 ls h1 g1 g3
  have hmap : ((rv x).map (cv κ.2.1)).toList ++ st.map (cv κ.2.1) = ((rv x).toList ++ st).map (cv κ.2.1) := by
    rw [List.map_append]; congr 1; cases rv x <;> rfl
  rw [hmap]
  exact hw
theorem j_callIN {Y : Type} {oc : Option Y} {f : Y → Option X} {a : Nat} {host : String} {y : MethodName} {b : ByteArray} {n d np idx : Nat} {as ST : List Value} (rv : Y → Option Value) (rh : Y → Hp) (hd : decode ι.1 pc = .ok (.invokespecial idx, 3)) (hl : Cond.methodLinkNest ι.2.1 idx y host ∈ xnest) (ht : xtg y b n none np) (hi : Cond.instanceMethod y ∈ xT) (hnm : y.name = "<init>") (hC : ∀ x, oc = some x → xC κ.1 κ.2.1 y b n none d (.ref a :: as) h (rv x) (rh x)) (hdp : d + 1 ≤ ι.2.2.2.2.2) (hn : n ≤ 40) (hnp : as.length = np) (hST : as.reverse ++ .ref a :: st = ST) (hst : (st.map fun v => v.category).sum ≤ 8) (k : ∀ x, xJ ι κ K (pc + 3) L ((rv x).toList ++ st) (rh x) (f x)) : xJ ι κ K pc L ST h ((oc).bind f) := fun v e kv => by
  obtain ⟨x, e1, e2⟩ := Option.bind_eq_some_iff.mp e
  obtain ⟨hm, hM⟩ := hC x e1
  obtain ⟨hB, hG⟩ := k x v e2 kv
  subst hST
  refine ⟨⟨Nat.le_trans hm.1 hB.1, Nat.le_trans hm.2 hB.2⟩, fun b1 b2 p e' s m args below meth c hA H locs ls h1 h2 h3 => ?_⟩
  obtain ⟨hf, hq1, hq2⟩ := xcnt b1 b2 hm hB
  have hts := hA.2.2.2.2.2.1
  have hU := hA.2.2.2.2.2.2.2.2.1
  have hR : d + 1 ≤ (xR ι κ).frames ∧ 8 + (n + 11) + 60 * d ≤ (xR ι κ).locals := ⟨hdp, by show _ ≤ 60 * ι.2.2.2.2.2; omega⟩
  refine xW_size (fun hz => ?_)
  have hsz : H.size = κ.2.1.1 + xn h := by
    have q1 := xw_size h2 (by have := h3.1; have := hA.2.2.2.2.2.2.2.2.2; omega)
    have q2 := hA.2.2.2.2.2.2.2.2.2
    omega
  refine xcallW (r := rv x) (hf := rh x) (rest := st.map (cv κ.2.1)) (va_runIN (b := κ.2.1.1 + a) (As := as.map (cv κ.2.1)) (rest := st.map (cv κ.2.1)) ⟨hA.1, hA.2.1, hA.2.2.2.1, hA.2.2.2.2.1, hts⟩ hM ⟨va_cnB np hts (xT_good ht.1) rfl rfl rfl (hU.2.1 _ hl) (hts _ ht.2.1) ht.2.2 hR, hnm, hts _ hi⟩ ⟨xpre, fun U hUh hW => ⟨by simp [cv], by rw [hUh]; exact hsz, by rw [hUh]; exact h2, xU_at hU h3 hUh hW⟩⟩ rfl (by rw [List.length_map]; exact hnp) h1.1 (by simp [cv]) (lv_room (by rw [xcat]; exact hst)) hd hf) h3 (fun H1 locs1 g1 g3 => ?_)
  rw [hq1, hq2]
  have hw := hG (Nat.le_trans b1 hm.1) (Nat.le_trans b2 hm.2) p e' s m args below meth c hA H1 locs1 ls h1 g1 g3
  have hmap : ((rv x).map (cv κ.2.1)).toList ++ st.map (cv κ.2.1) = ((rv x).toList ++ st).map (cv κ.2.1) := by
    rw [List.map_append]; congr 1; cases rv x <;> rfl
  rw [hmap]
  exact hw
end XQ
end
section
theorem fl_RX5_7 : Cond.fieldLink RX5 7 "IdeasDeck$Ride" "stop" "I" ∈ xT := xT_of (List.mem_of_getElem? (i := 38) (by decide +kernel)) rfl
theorem fl_RX3_53 : Cond.fieldLink RX3 53 "IdeasDeck$Ride" "stop" "I" ∈ xT := xT_of (List.mem_of_getElem? (i := 39) (by decide +kernel)) rfl
theorem fl_RX8_141 : Cond.fieldLink RX8 141 "IdeasDeck$Ride" "stop" "I" ∈ xT := xT_of (List.mem_of_getElem? (i := 40) (by decide +kernel)) rfl
theorem fl_RX0_91 : Cond.fieldLink RX0 91 "IdeasDeck$Ride" "stop" "I" ∈ xT := xT_of (List.mem_of_getElem? (i := 41) (by decide +kernel)) rfl
theorem fl_RX5_13 : Cond.fieldLink RX5 13 "IdeasDeck$Ride" "up" "I" ∈ xT := xT_of (List.mem_of_getElem? (i := 42) (by decide +kernel)) rfl
theorem fl_RX7_54 : Cond.fieldLink RX7 54 "IdeasDeck$Ride" "up" "I" ∈ xT := xT_of (List.mem_of_getElem? (i := 43) (by decide +kernel)) rfl
theorem fl_RX8_166 : Cond.fieldLink RX8 166 "IdeasDeck$Ride" "up" "I" ∈ xT := xT_of (List.mem_of_getElem? (i := 44) (by decide +kernel)) rfl
theorem fl_RX0_109 : Cond.fieldLink RX0 109 "IdeasDeck$Ride" "up" "I" ∈ xT := xT_of (List.mem_of_getElem? (i := 45) (by decide +kernel)) rfl
theorem fl_RX5_16 : Cond.fieldLink RX5 16 "IdeasDeck$Ride" "scraped" "I" ∈ xT := xT_of (List.mem_of_getElem? (i := 46) (by decide +kernel)) rfl
theorem fl_RX3_62 : Cond.fieldLink RX3 62 "IdeasDeck$Ride" "scraped" "I" ∈ xT := xT_of (List.mem_of_getElem? (i := 47) (by decide +kernel)) rfl
theorem fl_RX0_131 : Cond.fieldLink RX0 131 "IdeasDeck$Ride" "scraped" "I" ∈ xT := xT_of (List.mem_of_getElem? (i := 48) (by decide +kernel)) rfl
theorem fl_RX8_194 : Cond.fieldLink RX8 194 "IdeasDeck$Ride" "scraped" "I" ∈ xT := xT_of (List.mem_of_getElem? (i := 49) (by decide +kernel)) rfl
theorem fl_RX5_19 : Cond.fieldLink RX5 19 "IdeasDeck$Ride" "left" "I" ∈ xT := xT_of (List.mem_of_getElem? (i := 50) (by decide +kernel)) rfl
theorem fl_RX3_59 : Cond.fieldLink RX3 59 "IdeasDeck$Ride" "left" "I" ∈ xT := xT_of (List.mem_of_getElem? (i := 51) (by decide +kernel)) rfl
theorem fl_RX0_122 : Cond.fieldLink RX0 122 "IdeasDeck$Ride" "left" "I" ∈ xT := xT_of (List.mem_of_getElem? (i := 52) (by decide +kernel)) rfl
theorem fl_RX8_197 : Cond.fieldLink RX8 197 "IdeasDeck$Ride" "left" "I" ∈ xT := xT_of (List.mem_of_getElem? (i := 53) (by decide +kernel)) rfl
theorem fl_RX5_22 : Cond.fieldLink RX5 22 "IdeasDeck$Ride" "levy" "I" ∈ xT := xT_of (List.mem_of_getElem? (i := 54) (by decide +kernel)) rfl
theorem fl_RX8_149 : Cond.fieldLink RX8 149 "IdeasDeck$Ride" "levy" "I" ∈ xT := xT_of (List.mem_of_getElem? (i := 55) (by decide +kernel)) rfl
theorem fl_RX0_106 : Cond.fieldLink RX0 106 "IdeasDeck$Ride" "levy" "I" ∈ xT := xT_of (List.mem_of_getElem? (i := 56) (by decide +kernel)) rfl
theorem fl_RX3_103 : Cond.fieldLink RX3 103 "IdeasDeck$Ride" "levy" "I" ∈ xT := xT_of (List.mem_of_getElem? (i := 57) (by decide +kernel)) rfl
theorem fl_RX0_9 : Cond.fieldLink RX0 9 "IdeasDeck$Bus" "room" "I" ∈ xT := xT_of (List.mem_of_getElem? (i := 71) (by decide +kernel)) rfl
theorem fl_RX8_81 : Cond.fieldLink RX8 81 "IdeasDeck$Bus" "room" "I" ∈ xT := xT_of (List.mem_of_getElem? (i := 72) (by decide +kernel)) rfl
theorem fl_RX6_34 : Cond.fieldLink RX6 34 "IdeasDeck$Bus" "room" "I" ∈ xT := xT_of (List.mem_of_getElem? (i := 73) (by decide +kernel)) rfl
theorem fl_RX4_76 : Cond.fieldLink RX4 76 "IdeasDeck$Bus" "room" "I" ∈ xT := xT_of (List.mem_of_getElem? (i := 74) (by decide +kernel)) rfl
theorem fl_RX0_15 : Cond.fieldLink RX0 15 "IdeasDeck$Bus" "heights" "[I" ∈ xT := xT_of (List.mem_of_getElem? (i := 75) (by decide +kernel)) rfl
theorem fl_RX8_87 : Cond.fieldLink RX8 87 "IdeasDeck$Bus" "heights" "[I" ∈ xT := xT_of (List.mem_of_getElem? (i := 76) (by decide +kernel)) rfl
theorem fl_RX4_86 : Cond.fieldLink RX4 86 "IdeasDeck$Bus" "heights" "[I" ∈ xT := xT_of (List.mem_of_getElem? (i := 77) (by decide +kernel)) rfl
theorem fl_RX6_13 : Cond.fieldLink RX6 13 "IdeasDeck$Bus" "ideas" "I" ∈ xT := xT_of (List.mem_of_getElem? (i := 78) (by decide +kernel)) rfl
theorem fl_RX8_74 : Cond.fieldLink RX8 74 "IdeasDeck$Bus" "ideas" "I" ∈ xT := xT_of (List.mem_of_getElem? (i := 79) (by decide +kernel)) rfl
theorem fl_RX0_57 : Cond.fieldLink RX0 57 "IdeasDeck$Bus" "ideas" "I" ∈ xT := xT_of (List.mem_of_getElem? (i := 80) (by decide +kernel)) rfl
theorem fl_RX1_19 : Cond.fieldLink RX1 19 "IdeasDeck$Bus" "ideas" "I" ∈ xT := xT_of (List.mem_of_getElem? (i := 81) (by decide +kernel)) rfl
theorem fl_RX4_89 : Cond.fieldLink RX4 89 "IdeasDeck$Bus" "ideas" "I" ∈ xT := xT_of (List.mem_of_getElem? (i := 82) (by decide +kernel)) rfl
theorem fl_RX3_81 : Cond.fieldLink RX3 81 "IdeasDeck$Bus" "ideas" "I" ∈ xT := xT_of (List.mem_of_getElem? (i := 83) (by decide +kernel)) rfl
theorem fl_RX0_19 : Cond.fieldLink RX0 19 "IdeasDeck$Bus" "kinds" "[I" ∈ xT := xT_of (List.mem_of_getElem? (i := 84) (by decide +kernel)) rfl
theorem fl_RX8_178 : Cond.fieldLink RX8 178 "IdeasDeck$Bus" "kinds" "[I" ∈ xT := xT_of (List.mem_of_getElem? (i := 85) (by decide +kernel)) rfl
theorem fl_RX0_22 : Cond.fieldLink RX0 22 "IdeasDeck$Bus" "feet" "[I" ∈ xT := xT_of (List.mem_of_getElem? (i := 86) (by decide +kernel)) rfl
theorem fl_RX8_181 : Cond.fieldLink RX8 181 "IdeasDeck$Bus" "feet" "[I" ∈ xT := xT_of (List.mem_of_getElem? (i := 87) (by decide +kernel)) rfl
theorem fl_RX0_25 : Cond.fieldLink RX0 25 "IdeasDeck$Bus" "ons" "[I" ∈ xT := xT_of (List.mem_of_getElem? (i := 88) (by decide +kernel)) rfl
theorem fl_RX3_36 : Cond.fieldLink RX3 36 "IdeasDeck$Bus" "ons" "[I" ∈ xT := xT_of (List.mem_of_getElem? (i := 89) (by decide +kernel)) rfl
theorem fl_RX8_155 : Cond.fieldLink RX8 155 "IdeasDeck$Bus" "ons" "[I" ∈ xT := xT_of (List.mem_of_getElem? (i := 90) (by decide +kernel)) rfl
theorem fl_RX0_28 : Cond.fieldLink RX0 28 "IdeasDeck$Bus" "offs" "[I" ∈ xT := xT_of (List.mem_of_getElem? (i := 91) (by decide +kernel)) rfl
theorem fl_RX7_24 : Cond.fieldLink RX7 24 "IdeasDeck$Bus" "offs" "[I" ∈ xT := xT_of (List.mem_of_getElem? (i := 92) (by decide +kernel)) rfl
theorem fl_RX3_84 : Cond.fieldLink RX3 84 "IdeasDeck$Bus" "offs" "[I" ∈ xT := xT_of (List.mem_of_getElem? (i := 93) (by decide +kernel)) rfl
theorem fl_RX8_184 : Cond.fieldLink RX8 184 "IdeasDeck$Bus" "offs" "[I" ∈ xT := xT_of (List.mem_of_getElem? (i := 94) (by decide +kernel)) rfl
theorem fl_RX0_31 : Cond.fieldLink RX0 31 "IdeasDeck$Bus" "quarrels" "[I" ∈ xT := xT_of (List.mem_of_getElem? (i := 95) (by decide +kernel)) rfl
theorem fl_RX1_28 : Cond.fieldLink RX1 28 "IdeasDeck$Bus" "quarrels" "[I" ∈ xT := xT_of (List.mem_of_getElem? (i := 96) (by decide +kernel)) rfl
theorem fl_RX8_102 : Cond.fieldLink RX8 102 "IdeasDeck$Bus" "quarrels" "[I" ∈ xT := xT_of (List.mem_of_getElem? (i := 97) (by decide +kernel)) rfl
theorem fl_RX0_60 : Cond.fieldLink RX0 60 "IdeasDeck$Bus" "notes" "I" ∈ xT := xT_of (List.mem_of_getElem? (i := 98) (by decide +kernel)) rfl
theorem fl_RX8_240 : Cond.fieldLink RX8 240 "IdeasDeck$Bus" "notes" "I" ∈ xT := xT_of (List.mem_of_getElem? (i := 99) (by decide +kernel)) rfl
theorem fl_RX0_34 : Cond.fieldLink RX0 34 "IdeasDeck$Bus" "noteIdeas" "[I" ∈ xT := xT_of (List.mem_of_getElem? (i := 100) (by decide +kernel)) rfl
theorem fl_RX0_37 : Cond.fieldLink RX0 37 "IdeasDeck$Bus" "noteStops" "[I" ∈ xT := xT_of (List.mem_of_getElem? (i := 101) (by decide +kernel)) rfl
theorem fl_RX0_40 : Cond.fieldLink RX0 40 "IdeasDeck$Bus" "noteSways" "[I" ∈ xT := xT_of (List.mem_of_getElem? (i := 102) (by decide +kernel)) rfl
theorem fl_RX0_43 : Cond.fieldLink RX0 43 "IdeasDeck$Bus" "noteTalls" "[I" ∈ xT := xT_of (List.mem_of_getElem? (i := 103) (by decide +kernel)) rfl
theorem fl_RX0_49 : Cond.fieldLink RX0 49 "IdeasDeck$Bus" "ride" "LIdeasDeck$Ride;" ∈ xT := xT_of (List.mem_of_getElem? (i := 104) (by decide +kernel)) rfl
theorem fl_RX3_22 : Cond.fieldLink RX3 22 "IdeasDeck$Bus" "ride" "LIdeasDeck$Ride;" ∈ xT := xT_of (List.mem_of_getElem? (i := 105) (by decide +kernel)) rfl
theorem fl_RX8_137 : Cond.fieldLink RX8 137 "IdeasDeck$Bus" "ride" "LIdeasDeck$Ride;" ∈ xT := xT_of (List.mem_of_getElem? (i := 106) (by decide +kernel)) rfl
theorem fl_RX0_53 : Cond.fieldLink RX0 53 "IdeasDeck$Bus" "past" "[LIdeasDeck$Ride;" ∈ xT := xT_of (List.mem_of_getElem? (i := 107) (by decide +kernel)) rfl
theorem fl_RX0_66 : Cond.fieldLink RX0 66 "IdeasDeck$Bus" "undoable" "I" ∈ xT := xT_of (List.mem_of_getElem? (i := 108) (by decide +kernel)) rfl
theorem fl_RX8_84 : Cond.fieldLink RX8 84 "IdeasDeck$Bus" "undoable" "I" ∈ xT := xT_of (List.mem_of_getElem? (i := 109) (by decide +kernel)) rfl
theorem fl_RX3_12 : Cond.fieldLink RX3 12 "IdeasDeck$Journey" "ride" "LIdeasDeck$Ride;" ∈ xT := xT_of (List.mem_of_getElem? (i := 152) (by decide +kernel)) rfl
theorem fl_RX7_50 : Cond.fieldLink RX7 50 "IdeasDeck$Journey" "ride" "LIdeasDeck$Ride;" ∈ xT := xT_of (List.mem_of_getElem? (i := 153) (by decide +kernel)) rfl
theorem fl_RX8_207 : Cond.fieldLink RX8 207 "IdeasDeck$Journey" "ride" "LIdeasDeck$Ride;" ∈ xT := xT_of (List.mem_of_getElem? (i := 154) (by decide +kernel)) rfl
theorem fl_RX3_18 : Cond.fieldLink RX3 18 "IdeasDeck$Journey" "boarding" "[I" ∈ xT := xT_of (List.mem_of_getElem? (i := 155) (by decide +kernel)) rfl
theorem fl_RX7_40 : Cond.fieldLink RX7 40 "IdeasDeck$Journey" "boarding" "[I" ∈ xT := xT_of (List.mem_of_getElem? (i := 156) (by decide +kernel)) rfl
theorem fl_RX3_45 : Cond.fieldLink RX3 45 "IdeasDeck$Journey" "lift" "I" ∈ xT := xT_of (List.mem_of_getElem? (i := 157) (by decide +kernel)) rfl
theorem fl_RX1_9 : Cond.fieldLink RX1 9 "IdeasDeck$Decks" "deckOf" "[I" ∈ xT := xT_of (List.mem_of_getElem? (i := 172) (by decide +kernel)) rfl
theorem fl_RX8_218 : Cond.fieldLink RX8 218 "IdeasDeck$Decks" "deckOf" "[I" ∈ xT := xT_of (List.mem_of_getElem? (i := 173) (by decide +kernel)) rfl
theorem fl_RX6_7 : Cond.fieldLink RX6 7 "IdeasDeck$Sets" "found" "I" ∈ xT := xT_of (List.mem_of_getElem? (i := 183) (by decide +kernel)) rfl
theorem fl_RX8_231 : Cond.fieldLink RX8 231 "IdeasDeck$Sets" "found" "I" ∈ xT := xT_of (List.mem_of_getElem? (i := 184) (by decide +kernel)) rfl
theorem fl_RX6_18 : Cond.fieldLink RX6 18 "IdeasDeck$Sets" "inAll" "I" ∈ xT := xT_of (List.mem_of_getElem? (i := 185) (by decide +kernel)) rfl
theorem fl_RX8_234 : Cond.fieldLink RX8 234 "IdeasDeck$Sets" "inAll" "I" ∈ xT := xT_of (List.mem_of_getElem? (i := 186) (by decide +kernel)) rfl
theorem fl_RX6_21 : Cond.fieldLink RX6 21 "IdeasDeck$Sets" "inSome" "I" ∈ xT := xT_of (List.mem_of_getElem? (i := 187) (by decide +kernel)) rfl
theorem fl_RX8_237 : Cond.fieldLink RX8 237 "IdeasDeck$Sets" "inSome" "I" ∈ xT := xT_of (List.mem_of_getElem? (i := 188) (by decide +kernel)) rfl
theorem fl_RX7_9 : Cond.fieldLink RX7 9 "IdeasDeck$Two" "gainsOfA" "[I" ∈ xT := xT_of (List.mem_of_getElem? (i := 202) (by decide +kernel)) rfl
theorem fl_RX7_15 : Cond.fieldLink RX7 15 "IdeasDeck$Two" "gainsOfB" "[I" ∈ xT := xT_of (List.mem_of_getElem? (i := 203) (by decide +kernel)) rfl
theorem fl_RX7_27 : Cond.fieldLink RX7 27 "IdeasDeck$Two" "choicesOfA" "I" ∈ xT := xT_of (List.mem_of_getElem? (i := 204) (by decide +kernel)) rfl
theorem fl_RX7_31 : Cond.fieldLink RX7 31 "IdeasDeck$Two" "choicesOfB" "I" ∈ xT := xT_of (List.mem_of_getElem? (i := 205) (by decide +kernel)) rfl
theorem fl_RX2_7 : Cond.fieldLink RX2 7 "IdeasDeck$Fraction" "above" "J" ∈ xT := xT_of (List.mem_of_getElem? (i := 221) (by decide +kernel)) rfl
theorem fl_RX8_278 : Cond.fieldLink RX8 278 "IdeasDeck$Fraction" "above" "J" ∈ xT := xT_of (List.mem_of_getElem? (i := 222) (by decide +kernel)) rfl
theorem fl_RX2_13 : Cond.fieldLink RX2 13 "IdeasDeck$Fraction" "below" "J" ∈ xT := xT_of (List.mem_of_getElem? (i := 223) (by decide +kernel)) rfl
theorem fl_RX8_282 : Cond.fieldLink RX8 282 "IdeasDeck$Fraction" "below" "J" ∈ xT := xT_of (List.mem_of_getElem? (i := 224) (by decide +kernel)) rfl
theorem fl_RX4_9 : Cond.fieldLink RX4 9 "IdeasDeck$Reader" "text" "[I" ∈ xT := xT_of (List.mem_of_getElem? (i := 238) (by decide +kernel)) rfl
theorem fl_RX4_22 : Cond.fieldLink RX4 22 "IdeasDeck$Reader" "length" "I" ∈ xT := xT_of (List.mem_of_getElem? (i := 239) (by decide +kernel)) rfl
theorem fl_RX8_113 : Cond.fieldLink RX8 113 "IdeasDeck$Reader" "length" "I" ∈ xT := xT_of (List.mem_of_getElem? (i := 240) (by decide +kernel)) rfl
theorem fl_RX4_18 : Cond.fieldLink RX4 18 "IdeasDeck$Reader" "told" "LIdeasDeck$Bus;" ∈ xT := xT_of (List.mem_of_getElem? (i := 241) (by decide +kernel)) rfl
theorem fl_RX8_127 : Cond.fieldLink RX8 127 "IdeasDeck$Reader" "told" "LIdeasDeck$Bus;" ∈ xT := xT_of (List.mem_of_getElem? (i := 242) (by decide +kernel)) rfl
theorem fl_RX4_45 : Cond.fieldLink RX4 45 "IdeasDeck$Reader" "items" "I" ∈ xT := xT_of (List.mem_of_getElem? (i := 243) (by decide +kernel)) rfl
theorem fl_RX8_134 : Cond.fieldLink RX8 134 "IdeasDeck$Reader" "items" "I" ∈ xT := xT_of (List.mem_of_getElem? (i := 244) (by decide +kernel)) rfl
theorem fl_RX8_124 : Cond.fieldLink RX8 124 "IdeasDeck$Reader" "place" "I" ∈ xT := xT_of (List.mem_of_getElem? (i := 245) (by decide +kernel)) rfl
theorem fl_RX4_100 : Cond.fieldLink RX4 100 "IdeasDeck$Reader" "place" "I" ∈ xT := xT_of (List.mem_of_getElem? (i := 246) (by decide +kernel)) rfl
theorem fl_RX4_29 : Cond.fieldLink RX4 29 "IdeasDeck$Reader" "next" "I" ∈ xT := xT_of (List.mem_of_getElem? (i := 247) (by decide +kernel)) rfl
theorem fl_RX4_48 : Cond.fieldLink RX4 48 "IdeasDeck$Reader" "token" "I" ∈ xT := xT_of (List.mem_of_getElem? (i := 248) (by decide +kernel)) rfl
theorem fl_RX4_73 : Cond.fieldLink RX4 73 "IdeasDeck$Reader" "number" "I" ∈ xT := xT_of (List.mem_of_getElem? (i := 249) (by decide +kernel)) rfl
theorem fl_RX8_12 : Cond.fieldLink RX8 12 "IdeasDeck" "bus" "LIdeasDeck$Bus;" ∈ xT := xT_of (List.mem_of_getElem? (i := 267) (by decide +kernel)) rfl
theorem fl_RX8_16 : Cond.fieldLink RX8 16 "IdeasDeck" "images" "[LIdeasDeck$Bus;" ∈ xT := xT_of (List.mem_of_getElem? (i := 268) (by decide +kernel)) rfl
theorem fl_RX8_20 : Cond.fieldLink RX8 20 "IdeasDeck" "kept" "[Z" ∈ xT := xT_of (List.mem_of_getElem? (i := 269) (by decide +kernel)) rfl
theorem fl_RX8_27 : Cond.fieldLink RX8 27 "IdeasDeck" "journey" "LIdeasDeck$Journey;" ∈ xT := xT_of (List.mem_of_getElem? (i := 270) (by decide +kernel)) rfl
theorem fl_RX8_34 : Cond.fieldLink RX8 34 "IdeasDeck" "parting" "LIdeasDeck$Decks;" ∈ xT := xT_of (List.mem_of_getElem? (i := 271) (by decide +kernel)) rfl
theorem fl_RX8_41 : Cond.fieldLink RX8 41 "IdeasDeck" "sets" "LIdeasDeck$Sets;" ∈ xT := xT_of (List.mem_of_getElem? (i := 272) (by decide +kernel)) rfl
theorem fl_RX8_48 : Cond.fieldLink RX8 48 "IdeasDeck" "game" "LIdeasDeck$Two;" ∈ xT := xT_of (List.mem_of_getElem? (i := 273) (by decide +kernel)) rfl
theorem fl_RX8_55 : Cond.fieldLink RX8 55 "IdeasDeck" "fraction" "LIdeasDeck$Fraction;" ∈ xT := xT_of (List.mem_of_getElem? (i := 274) (by decide +kernel)) rfl
theorem fl_RX8_62 : Cond.fieldLink RX8 62 "IdeasDeck" "reader" "LIdeasDeck$Reader;" ∈ xT := xT_of (List.mem_of_getElem? (i := 275) (by decide +kernel)) rfl
theorem fl_RX8_285 : Cond.fieldLink RX8 285 "IdeasDeck" "refusedBad" "I" ∈ xT := xT_of (List.mem_of_getElem? (i := 276) (by decide +kernel)) rfl
theorem fl_RX8_288 : Cond.fieldLink RX8 288 "IdeasDeck" "refusedNo" "I" ∈ xT := xT_of (List.mem_of_getElem? (i := 277) (by decide +kernel)) rfl
theorem fl_RX8_291 : Cond.fieldLink RX8 291 "IdeasDeck" "refusedFull" "I" ∈ xT := xT_of (List.mem_of_getElem? (i := 278) (by decide +kernel)) rfl
theorem fl_RJ0_38 : Cond.fieldLink RJ0 38 "java/lang/String" "COMPACT_STRINGS" "Z" ∈ xT := xT_of (List.mem_of_getElem? (i := 429) (by decide +kernel)) rfl
theorem fl_RJ0_1053 : Cond.fieldLink RJ0 1053 "jdk/internal/util/Preconditions" "SIOOBE_FORMATTER" "Ljava/util/function/BiFunction;" ∈ xT := xT_of (List.mem_of_getElem? (i := 445) (by decide +kernel)) rfl
theorem fl_RJ2_44 : Cond.fieldLink RJ2 44 "java/lang/StringUTF16" "$assertionsDisabled" "Z" ∈ xT := xT_of (List.mem_of_getElem? (i := 463) (by decide +kernel)) rfl
theorem fl_RJ2_59 : Cond.fieldLink RJ2 59 "java/lang/StringUTF16" "HI_BYTE_SHIFT" "I" ∈ xT := xT_of (List.mem_of_getElem? (i := 465) (by decide +kernel)) rfl
theorem fl_RJ2_63 : Cond.fieldLink RJ2 63 "java/lang/StringUTF16" "LO_BYTE_SHIFT" "I" ∈ xT := xT_of (List.mem_of_getElem? (i := 467) (by decide +kernel)) rfl
theorem fl_RX9_7 : Cond.fieldLink RX9 7 "IdeasDeckModel" "told" "[I" ∈ xT := xT_of (List.mem_of_getElem? (i := 848) (by decide +kernel)) rfl
theorem fl_RX9_13 : Cond.fieldLink RX9 13 "IdeasDeckModel" "kept" "[I" ∈ xT := xT_of (List.mem_of_getElem? (i := 849) (by decide +kernel)) rfl
theorem fl_RX9_16 : Cond.fieldLink RX9 16 "IdeasDeckModel" "isKept" "[Z" ∈ xT := xT_of (List.mem_of_getElem? (i := 850) (by decide +kernel)) rfl
theorem fl_RX9_20 : Cond.fieldLink RX9 20 "IdeasDeckModel" "refused" "[I" ∈ xT := xT_of (List.mem_of_getElem? (i := 851) (by decide +kernel)) rfl
theorem fl_RX9_159 : Cond.fieldLink RX9 159 "IdeasDeckModel" "above" "J" ∈ xT := xT_of (List.mem_of_getElem? (i := 852) (by decide +kernel)) rfl
theorem fl_RX9_23 : Cond.fieldLink RX9 23 "IdeasDeckModel" "below" "J" ∈ xT := xT_of (List.mem_of_getElem? (i := 853) (by decide +kernel)) rfl
theorem fl_RX9_27 : Cond.fieldLink RX9 27 "IdeasDeckModel" "hand" "[I" ∈ xT := xT_of (List.mem_of_getElem? (i := 854) (by decide +kernel)) rfl
theorem fl_RX9_30 : Cond.fieldLink RX9 30 "IdeasDeckModel" "lies" "[I" ∈ xT := xT_of (List.mem_of_getElem? (i := 855) (by decide +kernel)) rfl
theorem fl_RX9_33 : Cond.fieldLink RX9 33 "IdeasDeckModel" "his" "[I" ∈ xT := xT_of (List.mem_of_getElem? (i := 856) (by decide +kernel)) rfl
theorem fl_RX9_36 : Cond.fieldLink RX9 36 "IdeasDeckModel" "theirs" "[I" ∈ xT := xT_of (List.mem_of_getElem? (i := 857) (by decide +kernel)) rfl
theorem fl_RX9_39 : Cond.fieldLink RX9 39 "IdeasDeckModel" "bytes" "[I" ∈ xT := xT_of (List.mem_of_getElem? (i := 858) (by decide +kernel)) rfl
theorem fl_RX9_191 : Cond.fieldLink RX9 191 "IdeasDeckModel" "bytesLong" "I" ∈ xT := xT_of (List.mem_of_getElem? (i := 859) (by decide +kernel)) rfl
theorem fl_RX9_203 : Cond.fieldLink RX9 203 "IdeasDeckModel" "tokenAt" "I" ∈ xT := xT_of (List.mem_of_getElem? (i := 860) (by decide +kernel)) rfl
theorem fl_RX9_206 : Cond.fieldLink RX9 206 "IdeasDeckModel" "tokenLong" "I" ∈ xT := xT_of (List.mem_of_getElem? (i := 861) (by decide +kernel)) rfl
theorem fl_RX9_209 : Cond.fieldLink RX9 209 "IdeasDeckModel" "token" "I" ∈ xT := xT_of (List.mem_of_getElem? (i := 862) (by decide +kernel)) rfl
theorem fl_RX9_212 : Cond.fieldLink RX9 212 "IdeasDeckModel" "value" "I" ∈ xT := xT_of (List.mem_of_getElem? (i := 863) (by decide +kernel)) rfl
theorem fl_RX9_42 : Cond.fieldLink RX9 42 "IdeasDeckModel" "anew" "[I" ∈ xT := xT_of (List.mem_of_getElem? (i := 864) (by decide +kernel)) rfl
theorem fl_RX9_45 : Cond.fieldLink RX9 45 "IdeasDeckModel" "values" "[I" ∈ xT := xT_of (List.mem_of_getElem? (i := 865) (by decide +kernel)) rfl
theorem fl_RJ0_9 : Cond.fieldLink RJ0 9 "java/lang/String" "value" "[B" ∈ xT := xT_of (List.mem_of_getElem? (i := 1233) (by decide +kernel)) rfl
theorem fl_RJ0_15 : Cond.fieldLink RJ0 15 "java/lang/String" "coder" "B" ∈ xT := xT_of (List.mem_of_getElem? (i := 1234) (by decide +kernel)) rfl
theorem ml_RL_9 : Cond.methodLink RL 9 yX8_init ∈ xT := xT_of (List.mem_of_getElem? (i := 20) (by decide +kernel)) rfl
theorem ml_RX8_3 : Cond.methodLink RX8 3 objectInit ∈ xT := xT_of (List.mem_of_getElem? (i := 23) (by decide +kernel)) rfl
theorem ml_RX8_11 : Cond.methodLink RX8 11 yX0_init ∈ xT := xT_of (List.mem_of_getElem? (i := 28) (by decide +kernel)) rfl
theorem ml_RX0_3 : Cond.methodLink RX0 3 objectInit ∈ xT := xT_of (List.mem_of_getElem? (i := 31) (by decide +kernel)) rfl
theorem ml_RX5_1 : Cond.methodLink RX5 1 objectInit ∈ xT := xT_of (List.mem_of_getElem? (i := 37) (by decide +kernel)) rfl
theorem ml_RX3_3 : Cond.methodLink RX3 3 objectInit ∈ xT := xT_of (List.mem_of_getElem? (i := 149) (by decide +kernel)) rfl
theorem ml_RX1_3 : Cond.methodLink RX1 3 objectInit ∈ xT := xT_of (List.mem_of_getElem? (i := 171) (by decide +kernel)) rfl
theorem ml_RX6_1 : Cond.methodLink RX6 1 objectInit ∈ xT := xT_of (List.mem_of_getElem? (i := 182) (by decide +kernel)) rfl
theorem ml_RX7_3 : Cond.methodLink RX7 3 objectInit ∈ xT := xT_of (List.mem_of_getElem? (i := 201) (by decide +kernel)) rfl
theorem ml_RX2_1 : Cond.methodLink RX2 1 objectInit ∈ xT := xT_of (List.mem_of_getElem? (i := 220) (by decide +kernel)) rfl
theorem ml_RX4_3 : Cond.methodLink RX4 3 objectInit ∈ xT := xT_of (List.mem_of_getElem? (i := 235) (by decide +kernel)) rfl
theorem ml_RX4_17 : Cond.methodLink RX4 17 yX0_init ∈ xT := xT_of (List.mem_of_getElem? (i := 237) (by decide +kernel)) rfl
theorem ml_RL_13 : Cond.methodLink RL 13 yX8_bus ∈ xT := xT_of (List.mem_of_getElem? (i := 304) (by decide +kernel)) rfl
theorem ml_RX8_66 : Cond.methodLink RX8 66 yX8_within ∈ xT := xT_of (List.mem_of_getElem? (i := 308) (by decide +kernel)) rfl
theorem ml_RX8_70 : Cond.methodLink RX8 70 yX8_refuseBad ∈ xT := xT_of (List.mem_of_getElem? (i := 311) (by decide +kernel)) rfl
theorem ml_RX8_78 : Cond.methodLink RX8 78 yX0_startAnew ∈ xT := xT_of (List.mem_of_getElem? (i := 315) (by decide +kernel)) rfl
theorem ml_RX0_63 : Cond.methodLink RX0 63 yX5_startAnew ∈ xT := xT_of (List.mem_of_getElem? (i := 319) (by decide +kernel)) rfl
theorem ml_RL_18 : Cond.methodLink RL 18 yX8_room ∈ xT := xT_of (List.mem_of_getElem? (i := 323) (by decide +kernel)) rfl
theorem ml_RL_22 : Cond.methodLink RL 22 yX8_bridge ∈ xT := xT_of (List.mem_of_getElem? (i := 327) (by decide +kernel)) rfl
theorem ml_RL_27 : Cond.methodLink RL 27 yX8_idea ∈ xT := xT_of (List.mem_of_getElem? (i := 331) (by decide +kernel)) rfl
theorem ml_RX8_91 : Cond.methodLink RX8 91 yX8_refuseFull ∈ xT := xT_of (List.mem_of_getElem? (i := 335) (by decide +kernel)) rfl
theorem ml_RX8_94 : Cond.methodLink RX8 94 yX0_addIdea ∈ xT := xT_of (List.mem_of_getElem? (i := 339) (by decide +kernel)) rfl
theorem ml_RL_32 : Cond.methodLink RL 32 yX8_quarrel ∈ xT := xT_of (List.mem_of_getElem? (i := 343) (by decide +kernel)) rfl
theorem ml_RX8_98 : Cond.methodLink RX8 98 yX0_hasTwo ∈ xT := xT_of (List.mem_of_getElem? (i := 347) (by decide +kernel)) rfl
theorem ml_RX0_83 : Cond.methodLink RX0 83 yX0_has ∈ xT := xT_of (List.mem_of_getElem? (i := 351) (by decide +kernel)) rfl
theorem ml_RX8_105 : Cond.methodLink RX8 105 yX8_bit ∈ xT := xT_of (List.mem_of_getElem? (i := 356) (by decide +kernel)) rfl
theorem ml_RX8_109 : Cond.methodLink RX8 109 yX0_setQuarrel ∈ xT := xT_of (List.mem_of_getElem? (i := 359) (by decide +kernel)) rfl
theorem ml_RX0_87 : Cond.methodLink RX0 87 yX0_hasTwo ∈ xT := xT_of (List.mem_of_getElem? (i := 363) (by decide +kernel)) rfl
theorem ml_RL_37 : Cond.methodLink RL 37 yX8_type ∈ xT := xT_of (List.mem_of_getElem? (i := 364) (by decide +kernel)) rfl
theorem ml_RX8_116 : Cond.methodLink RX8 116 yX4_addByte ∈ xT := xT_of (List.mem_of_getElem? (i := 368) (by decide +kernel)) rfl
theorem ml_RL_41 : Cond.methodLink RL 41 yX8_clear ∈ xT := xT_of (List.mem_of_getElem? (i := 372) (by decide +kernel)) rfl
theorem ml_RL_46 : Cond.methodLink RL 46 yX8_read ∈ xT := xT_of (List.mem_of_getElem? (i := 376) (by decide +kernel)) rfl
theorem ml_RX8_120 : Cond.methodLink RX8 120 yX4_readBus ∈ xT := xT_of (List.mem_of_getElem? (i := 380) (by decide +kernel)) rfl
theorem ml_RX4_26 : Cond.methodLink RX4 26 yX0_startAnew ∈ xT := xT_of (List.mem_of_getElem? (i := 384) (by decide +kernel)) rfl
theorem ml_RX4_32 : Cond.methodLink RX4 32 yX4_step ∈ xT := xT_of (List.mem_of_getElem? (i := 385) (by decide +kernel)) rfl
theorem ml_RX4_116 : Cond.methodLink RX4 116 yX4_endOfBlanks ∈ xT := xT_of (List.mem_of_getElem? (i := 389) (by decide +kernel)) rfl
theorem ml_RX4_108 : Cond.methodLink RX4 108 yX4_byteAt ∈ xT := xT_of (List.mem_of_getElem? (i := 393) (by decide +kernel)) rfl
theorem ml_RX4_119 : Cond.methodLink RX4 119 yX4_isLetter ∈ xT := xT_of (List.mem_of_getElem? (i := 397) (by decide +kernel)) rfl
theorem ml_RX4_123 : Cond.methodLink RX4 123 yX4_endOfLetters ∈ xT := xT_of (List.mem_of_getElem? (i := 401) (by decide +kernel)) rfl
theorem ml_RX4_126 : Cond.methodLink RX4 126 yX4_isFigure ∈ xT := xT_of (List.mem_of_getElem? (i := 405) (by decide +kernel)) rfl
theorem ml_RX4_129 : Cond.methodLink RX4 129 yX4_endOfFigures ∈ xT := xT_of (List.mem_of_getElem? (i := 408) (by decide +kernel)) rfl
theorem ml_RX4_132 : Cond.methodLink RX4 132 yX4_valueOfFigures ∈ xT := xT_of (List.mem_of_getElem? (i := 412) (by decide +kernel)) rfl
theorem ml_RX4_37 : Cond.methodLink RX4 37 yX4_isWord ∈ xT := xT_of (List.mem_of_getElem? (i := 417) (by decide +kernel)) rfl
theorem ml_RX4_103 : Cond.methodLink RX4 103 yJ0_length_8abf5 ∈ xT := xT_of (List.mem_of_getElem? (i := 421) (by decide +kernel)) rfl
theorem ml_RJ0_335 : Cond.methodLink RJ0 335 yJ0_coder_7d493 ∈ xT := xT_of (List.mem_of_getElem? (i := 425) (by decide +kernel)) rfl
theorem ml_RX4_112 : Cond.methodLink RX4 112 yJ0_charAt_5068e ∈ xT := xT_of (List.mem_of_getElem? (i := 431) (by decide +kernel)) rfl
theorem ml_RJ0_492 : Cond.methodLink RJ0 492 yJ0_isLatin1_aae02 ∈ xT := xT_of (List.mem_of_getElem? (i := 435) (by decide +kernel)) rfl
theorem ml_RJ0_495 : Cond.methodLink RJ0 495 yJ1_charAt_3b067 ∈ xT := xT_of (List.mem_of_getElem? (i := 439) (by decide +kernel)) rfl
theorem ml_RJ1_9 : Cond.methodLink RJ1 9 yJ0_checkIndex_df160 ∈ xT := xT_of (List.mem_of_getElem? (i := 442) (by decide +kernel)) rfl
theorem ml_RJ0_1059 : Cond.methodLink RJ0 1059 yJ3_checkIndex_8e157 ∈ xT := xT_of (List.mem_of_getElem? (i := 447) (by decide +kernel)) rfl
theorem ml_RJ0_498 : Cond.methodLink RJ0 498 yJ2_charAt_3b067 ∈ xT := xT_of (List.mem_of_getElem? (i := 450) (by decide +kernel)) rfl
theorem ml_RJ2_67 : Cond.methodLink RJ2 67 yJ2_checkIndex_2214a ∈ xT := xT_of (List.mem_of_getElem? (i := 453) (by decide +kernel)) rfl
theorem ml_RJ2_48 : Cond.methodLink RJ2 48 yJ2_length_9d52b ∈ xT := xT_of (List.mem_of_getElem? (i := 456) (by decide +kernel)) rfl
theorem ml_RJ2_414 : Cond.methodLink RJ2 414 yJ0_checkIndex_df160 ∈ xT := xT_of (List.mem_of_getElem? (i := 459) (by decide +kernel)) rfl
theorem ml_RJ2_71 : Cond.methodLink RJ2 71 yJ2_getChar_3b067 ∈ xT := xT_of (List.mem_of_getElem? (i := 460) (by decide +kernel)) rfl
theorem ml_RX4_41 : Cond.methodLink RX4 41 yX4_readRoom ∈ xT := xT_of (List.mem_of_getElem? (i := 469) (by decide +kernel)) rfl
theorem ml_RX4_69 : Cond.methodLink RX4 69 yX4_readNumber ∈ xT := xT_of (List.mem_of_getElem? (i := 473) (by decide +kernel)) rfl
theorem ml_RX4_79 : Cond.methodLink RX4 79 yX4_readMark ∈ xT := xT_of (List.mem_of_getElem? (i := 477) (by decide +kernel)) rfl
theorem ml_RX4_51 : Cond.methodLink RX4 51 yX4_readItem ∈ xT := xT_of (List.mem_of_getElem? (i := 481) (by decide +kernel)) rfl
theorem ml_RX4_56 : Cond.methodLink RX4 56 yX4_readBridge ∈ xT := xT_of (List.mem_of_getElem? (i := 486) (by decide +kernel)) rfl
theorem ml_RX4_61 : Cond.methodLink RX4 61 yX4_readIdea ∈ xT := xT_of (List.mem_of_getElem? (i := 491) (by decide +kernel)) rfl
theorem ml_RX4_92 : Cond.methodLink RX4 92 yX0_addIdea ∈ xT := xT_of (List.mem_of_getElem? (i := 495) (by decide +kernel)) rfl
theorem ml_RX4_66 : Cond.methodLink RX4 66 yX4_readQuarrel ∈ xT := xT_of (List.mem_of_getElem? (i := 497) (by decide +kernel)) rfl
theorem ml_RX4_96 : Cond.methodLink RX4 96 yX0_setQuarrel ∈ xT := xT_of (List.mem_of_getElem? (i := 501) (by decide +kernel)) rfl
theorem ml_RX8_130 : Cond.methodLink RX8 130 yX0_take ∈ xT := xT_of (List.mem_of_getElem? (i := 502) (by decide +kernel)) rfl
theorem ml_RX0_69 : Cond.methodLink RX0 69 arraycopyName ∈ xT := xT_of (List.mem_of_getElem? (i := 506) (by decide +kernel)) rfl
theorem ml_RX0_75 : Cond.methodLink RX0 75 yX5_take ∈ xT := xT_of (List.mem_of_getElem? (i := 509) (by decide +kernel)) rfl
theorem ml_RL_50 : Cond.methodLink RL 50 yX8_drive ∈ xT := xT_of (List.mem_of_getElem? (i := 514) (by decide +kernel)) rfl
theorem ml_RX8_146 : Cond.methodLink RX8 146 yX8_refuseNo ∈ xT := xT_of (List.mem_of_getElem? (i := 518) (by decide +kernel)) rfl
theorem ml_RX8_152 : Cond.methodLink RX8 152 yX0_remember ∈ xT := xT_of (List.mem_of_getElem? (i := 522) (by decide +kernel)) rfl
theorem ml_RX8_158 : Cond.methodLink RX8 158 yX0_passStop ∈ xT := xT_of (List.mem_of_getElem? (i := 526) (by decide +kernel)) rfl
theorem ml_RX0_94 : Cond.methodLink RX0 94 yX0_letOff ∈ xT := xT_of (List.mem_of_getElem? (i := 530) (by decide +kernel)) rfl
theorem ml_RX0_98 : Cond.methodLink RX0 98 yX0_letOn ∈ xT := xT_of (List.mem_of_getElem? (i := 534) (by decide +kernel)) rfl
theorem ml_RX0_116 : Cond.methodLink RX0 116 yJ6_bitCount_0f7a4 ∈ xT := xT_of (List.mem_of_getElem? (i := 538) (by decide +kernel)) rfl
theorem ml_RX0_102 : Cond.methodLink RX0 102 yX0_scrape ∈ xT := xT_of (List.mem_of_getElem? (i := 544) (by decide +kernel)) rfl
theorem ml_RX8_320 : Cond.methodLink RX8 320 yX8_plainTall ∈ xT := xT_of (List.mem_of_getElem? (i := 552) (by decide +kernel)) rfl
theorem ml_RX8_323 : Cond.methodLink RX8 323 yX8_economyTall ∈ xT := xT_of (List.mem_of_getElem? (i := 555) (by decide +kernel)) rfl
theorem ml_RX8_326 : Cond.methodLink RX8 326 yX8_doubtTall ∈ xT := xT_of (List.mem_of_getElem? (i := 558) (by decide +kernel)) rfl
theorem ml_RX0_112 : Cond.methodLink RX0 112 yX0_swayOfAll ∈ xT := xT_of (List.mem_of_getElem? (i := 561) (by decide +kernel)) rfl
theorem ml_RX8_314 : Cond.methodLink RX8 314 yX8_plainSway ∈ xT := xT_of (List.mem_of_getElem? (i := 568) (by decide +kernel)) rfl
theorem ml_RX8_317 : Cond.methodLink RX8 317 yX8_economySway ∈ xT := xT_of (List.mem_of_getElem? (i := 571) (by decide +kernel)) rfl
theorem ml_RL_54 : Cond.methodLink RL 54 yX8_puts ∈ xT := xT_of (List.mem_of_getElem? (i := 574) (by decide +kernel)) rfl
theorem ml_RX8_162 : Cond.methodLink RX8 162 yX0_has ∈ xT := xT_of (List.mem_of_getElem? (i := 578) (by decide +kernel)) rfl
theorem ml_RX8_169 : Cond.methodLink RX8 169 yJ6_bitCount_0f7a4 ∈ xT := xT_of (List.mem_of_getElem? (i := 579) (by decide +kernel)) rfl
theorem ml_RL_58 : Cond.methodLink RL 58 yX8_undo ∈ xT := xT_of (List.mem_of_getElem? (i := 580) (by decide +kernel)) rfl
theorem ml_RX8_175 : Cond.methodLink RX8 175 yX0_goBack ∈ xT := xT_of (List.mem_of_getElem? (i := 584) (by decide +kernel)) rfl
theorem ml_RL_62 : Cond.methodLink RL 62 yX8_of ∈ xT := xT_of (List.mem_of_getElem? (i := 588) (by decide +kernel)) rfl
theorem ml_RL_66 : Cond.methodLink RL 66 yX8_sways ∈ xT := xT_of (List.mem_of_getElem? (i := 592) (by decide +kernel)) rfl
theorem ml_RX8_187 : Cond.methodLink RX8 187 yX8_swayOf ∈ xT := xT_of (List.mem_of_getElem? (i := 596) (by decide +kernel)) rfl
theorem ml_RX8_191 : Cond.methodLink RX8 191 yX8_tallOf ∈ xT := xT_of (List.mem_of_getElem? (i := 597) (by decide +kernel)) rfl
theorem ml_RL_70 : Cond.methodLink RL 70 yX8_now ∈ xT := xT_of (List.mem_of_getElem? (i := 598) (by decide +kernel)) rfl
theorem ml_RL_74 : Cond.methodLink RL 74 yX8_then ∈ xT := xT_of (List.mem_of_getElem? (i := 602) (by decide +kernel)) rfl
theorem ml_RX8_200 : Cond.methodLink RX8 200 yX3_goOn ∈ xT := xT_of (List.mem_of_getElem? (i := 606) (by decide +kernel)) rfl
theorem ml_RX3_25 : Cond.methodLink RX3 25 yX5_take ∈ xT := xT_of (List.mem_of_getElem? (i := 610) (by decide +kernel)) rfl
theorem ml_RX3_29 : Cond.methodLink RX3 29 yX3_boardAsTold ∈ xT := xT_of (List.mem_of_getElem? (i := 611) (by decide +kernel)) rfl
theorem ml_RX3_39 : Cond.methodLink RX3 39 arraycopyName ∈ xT := xT_of (List.mem_of_getElem? (i := 615) (by decide +kernel)) rfl
theorem ml_RX8_203 : Cond.methodLink RX8 203 yX3_passThrough ∈ xT := xT_of (List.mem_of_getElem? (i := 616) (by decide +kernel)) rfl
theorem ml_RX3_56 : Cond.methodLink RX3 56 yX3_passOne ∈ xT := xT_of (List.mem_of_getElem? (i := 620) (by decide +kernel)) rfl
theorem ml_RX3_49 : Cond.methodLink RX3 49 yX0_passStop ∈ xT := xT_of (List.mem_of_getElem? (i := 624) (by decide +kernel)) rfl
theorem ml_RX8_208 : Cond.methodLink RX8 208 yX0_swayOfAll ∈ xT := xT_of (List.mem_of_getElem? (i := 625) (by decide +kernel)) rfl
theorem ml_RL_78 : Cond.methodLink RL 78 yX8_end ∈ xT := xT_of (List.mem_of_getElem? (i := 626) (by decide +kernel)) rfl
theorem ml_RL_82 : Cond.methodLink RL 82 yX8_decks ∈ xT := xT_of (List.mem_of_getElem? (i := 630) (by decide +kernel)) rfl
theorem ml_RX8_211 : Cond.methodLink RX8 211 yX8_refuseOtherBad ∈ xT := xT_of (List.mem_of_getElem? (i := 634) (by decide +kernel)) rfl
theorem ml_RX8_214 : Cond.methodLink RX8 214 yX1_fewest ∈ xT := xT_of (List.mem_of_getElem? (i := 638) (by decide +kernel)) rfl
theorem ml_RX1_15 : Cond.methodLink RX1 15 yX1_canPlace ∈ xT := xT_of (List.mem_of_getElem? (i := 642) (by decide +kernel)) rfl
theorem ml_RX1_25 : Cond.methodLink RX1 25 yX1_isCalm ∈ xT := xT_of (List.mem_of_getElem? (i := 645) (by decide +kernel)) rfl
theorem ml_RL_86 : Cond.methodLink RL 86 yX8_better ∈ xT := xT_of (List.mem_of_getElem? (i := 649) (by decide +kernel)) rfl
theorem ml_RX8_221 : Cond.methodLink RX8 221 yX3_betterBoarding ∈ xT := xT_of (List.mem_of_getElem? (i := 653) (by decide +kernel)) rfl
theorem ml_RX3_71 : Cond.methodLink RX3 71 yX3_startAnew ∈ xT := xT_of (List.mem_of_getElem? (i := 657) (by decide +kernel)) rfl
theorem ml_RX3_33 : Cond.methodLink RX3 33 yX5_startAnew ∈ xT := xT_of (List.mem_of_getElem? (i := 661) (by decide +kernel)) rfl
theorem ml_RX3_73 : Cond.methodLink RX3 73 yX3_passThrough ∈ xT := xT_of (List.mem_of_getElem? (i := 662) (by decide +kernel)) rfl
theorem ml_RX3_77 : Cond.methodLink RX3 77 yX3_missing ∈ xT := xT_of (List.mem_of_getElem? (i := 663) (by decide +kernel)) rfl
theorem ml_RX3_65 : Cond.methodLink RX3 65 yJ6_bitCount_0f7a4 ∈ xT := xT_of (List.mem_of_getElem? (i := 667) (by decide +kernel)) rfl
theorem ml_RX3_87 : Cond.methodLink RX3 87 yX3_missingIf ∈ xT := xT_of (List.mem_of_getElem? (i := 668) (by decide +kernel)) rfl
theorem ml_RL_90 : Cond.methodLink RL 90 yX8_raise ∈ xT := xT_of (List.mem_of_getElem? (i := 673) (by decide +kernel)) rfl
theorem ml_RX8_224 : Cond.methodLink RX8 224 yX3_leastLift ∈ xT := xT_of (List.mem_of_getElem? (i := 677) (by decide +kernel)) rfl
theorem ml_RL_94 : Cond.methodLink RL 94 yX8_upstairs ∈ xT := xT_of (List.mem_of_getElem? (i := 681) (by decide +kernel)) rfl
theorem ml_RX8_227 : Cond.methodLink RX8 227 yX6_find ∈ xT := xT_of (List.mem_of_getElem? (i := 685) (by decide +kernel)) rfl
theorem ml_RX6_24 : Cond.methodLink RX6 24 yX6_canBe ∈ xT := xT_of (List.mem_of_getElem? (i := 689) (by decide +kernel)) rfl
theorem ml_RX6_28 : Cond.methodLink RX6 28 yJ6_bitCount_0f7a4 ∈ xT := xT_of (List.mem_of_getElem? (i := 692) (by decide +kernel)) rfl
theorem ml_RX6_37 : Cond.methodLink RX6 37 yX0_swayOfAll ∈ xT := xT_of (List.mem_of_getElem? (i := 693) (by decide +kernel)) rfl
theorem ml_RX6_41 : Cond.methodLink RX6 41 yX0_quarrelsIn ∈ xT := xT_of (List.mem_of_getElem? (i := 694) (by decide +kernel)) rfl
theorem ml_RL_98 : Cond.methodLink RL 98 yX8_note ∈ xT := xT_of (List.mem_of_getElem? (i := 698) (by decide +kernel)) rfl
theorem ml_RX8_243 : Cond.methodLink RX8 243 yX0_addNote ∈ xT := xT_of (List.mem_of_getElem? (i := 702) (by decide +kernel)) rfl
theorem ml_RL_102 : Cond.methodLink RL 102 yX8_forget ∈ xT := xT_of (List.mem_of_getElem? (i := 706) (by decide +kernel)) rfl
theorem ml_RL_106 : Cond.methodLink RL 106 yX8_is ∈ xT := xT_of (List.mem_of_getElem? (i := 710) (by decide +kernel)) rfl
theorem ml_RX8_246 : Cond.methodLink RX8 246 yX0_kindsByNotes ∈ xT := xT_of (List.mem_of_getElem? (i := 714) (by decide +kernel)) rfl
theorem ml_RX0_138 : Cond.methodLink RX0 138 yX0_fitsNotes ∈ xT := xT_of (List.mem_of_getElem? (i := 718) (by decide +kernel)) rfl
theorem ml_RL_110 : Cond.methodLink RL 110 yX8_look ∈ xT := xT_of (List.mem_of_getElem? (i := 722) (by decide +kernel)) rfl
theorem ml_RX8_249 : Cond.methodLink RX8 249 yX8_bestLook ∈ xT := xT_of (List.mem_of_getElem? (i := 726) (by decide +kernel)) rfl
theorem ml_RX8_329 : Cond.methodLink RX8 329 yX8_mostAlike ∈ xT := xT_of (List.mem_of_getElem? (i := 729) (by decide +kernel)) rfl
theorem ml_RX8_332 : Cond.methodLink RX8 332 yX8_countAlike ∈ xT := xT_of (List.mem_of_getElem? (i := 732) (by decide +kernel)) rfl
theorem ml_RX8_336 : Cond.methodLink RX8 336 yJ9_max_7cf53 ∈ xT := xT_of (List.mem_of_getElem? (i := 735) (by decide +kernel)) rfl
theorem ml_RL_114 : Cond.methodLink RL 114 yX8_fare ∈ xT := xT_of (List.mem_of_getElem? (i := 738) (by decide +kernel)) rfl
theorem ml_RX8_252 : Cond.methodLink RX8 252 yX2_become ∈ xT := xT_of (List.mem_of_getElem? (i := 742) (by decide +kernel)) rfl
theorem ml_RX2_16 : Cond.methodLink RX2 16 yX2_commonDivisor ∈ xT := xT_of (List.mem_of_getElem? (i := 746) (by decide +kernel)) rfl
theorem ml_RL_118 : Cond.methodLink RL 118 yX8_two ∈ xT := xT_of (List.mem_of_getElem? (i := 749) (by decide +kernel)) rfl
theorem ml_RX8_256 : Cond.methodLink RX8 256 yX7_play ∈ xT := xT_of (List.mem_of_getElem? (i := 753) (by decide +kernel)) rfl
theorem ml_RX7_18 : Cond.methodLink RX7 18 yX0_hasTwo ∈ xT := xT_of (List.mem_of_getElem? (i := 757) (by decide +kernel)) rfl
theorem ml_RX7_34 : Cond.methodLink RX7 34 yX3_startAnew ∈ xT := xT_of (List.mem_of_getElem? (i := 758) (by decide +kernel)) rfl
theorem ml_RX7_43 : Cond.methodLink RX7 43 yX7_countStops ∈ xT := xT_of (List.mem_of_getElem? (i := 759) (by decide +kernel)) rfl
theorem ml_RX7_47 : Cond.methodLink RX7 47 yX3_passOne ∈ xT := xT_of (List.mem_of_getElem? (i := 763) (by decide +kernel)) rfl
theorem ml_RX8_260 : Cond.methodLink RX8 260 yX7_resting ∈ xT := xT_of (List.mem_of_getElem? (i := 765) (by decide +kernel)) rfl
theorem ml_RX7_63 : Cond.methodLink RX7 63 yX7_rests ∈ xT := xT_of (List.mem_of_getElem? (i := 769) (by decide +kernel)) rfl
theorem ml_RX8_263 : Cond.methodLink RX8 263 yX7_restingAt ∈ xT := xT_of (List.mem_of_getElem? (i := 773) (by decide +kernel)) rfl
theorem ml_RL_122 : Cond.methodLink RL 122 yX8_bell ∈ xT := xT_of (List.mem_of_getElem? (i := 777) (by decide +kernel)) rfl
theorem ml_RX8_266 : Cond.methodLink RX8 266 yJ9_min_7cf53 ∈ xT := xT_of (List.mem_of_getElem? (i := 781) (by decide +kernel)) rfl
theorem ml_RL_126 : Cond.methodLink RL 126 yX8_days ∈ xT := xT_of (List.mem_of_getElem? (i := 785) (by decide +kernel)) rfl
theorem ml_RX8_274 : Cond.methodLink RX8 274 yX3_levyOfDays ∈ xT := xT_of (List.mem_of_getElem? (i := 790) (by decide +kernel)) rfl
theorem ml_RL_130 : Cond.methodLink RL 130 yX8_part ∈ xT := xT_of (List.mem_of_getElem? (i := 798) (by decide +kernel)) rfl
theorem ml_RL_135 : Cond.methodLink RL 135 yX8_image ∈ xT := xT_of (List.mem_of_getElem? (i := 802) (by decide +kernel)) rfl
theorem ml_RL_139 : Cond.methodLink RL 139 yX8_from ∈ xT := xT_of (List.mem_of_getElem? (i := 806) (by decide +kernel)) rfl
theorem ml_RL_143 : Cond.methodLink RL 143 yX8_status ∈ xT := xT_of (List.mem_of_getElem? (i := 810) (by decide +kernel)) rfl
theorem ml_RL_147 : Cond.methodLink RL 147 yX8_count ∈ xT := xT_of (List.mem_of_getElem? (i := 814) (by decide +kernel)) rfl
theorem ml_RX8_294 : Cond.methodLink RX8 294 yX0_countQuarrels ∈ xT := xT_of (List.mem_of_getElem? (i := 818) (by decide +kernel)) rfl
theorem ml_RX8_297 : Cond.methodLink RX8 297 yX0_countBridges ∈ xT := xT_of (List.mem_of_getElem? (i := 822) (by decide +kernel)) rfl
theorem ml_RL_151 : Cond.methodLink RL 151 yX8_digest ∈ xT := xT_of (List.mem_of_getElem? (i := 826) (by decide +kernel)) rfl
theorem ml_RX8_304 : Cond.methodLink RX8 304 yX8_count ∈ xT := xT_of (List.mem_of_getElem? (i := 832) (by decide +kernel)) rfl
theorem ml_RX8_307 : Cond.methodLink RX8 307 yX8_now ∈ xT := xT_of (List.mem_of_getElem? (i := 833) (by decide +kernel)) rfl
theorem ml_RX8_310 : Cond.methodLink RX8 310 yX0_mixTold ∈ xT := xT_of (List.mem_of_getElem? (i := 834) (by decide +kernel)) rfl
theorem ml_RL_12 : Cond.methodLink RL 12 yX9_init ∈ xT := xT_of (List.mem_of_getElem? (i := 841) (by decide +kernel)) rfl
theorem ml_RX9_1 : Cond.methodLink RX9 1 objectInit ∈ xT := xT_of (List.mem_of_getElem? (i := 844) (by decide +kernel)) rfl
theorem ml_RX9_48 : Cond.methodLink RX9 48 yX9_begin ∈ xT := xT_of (List.mem_of_getElem? (i := 845) (by decide +kernel)) rfl
theorem ml_RL_17 : Cond.methodLink RL 17 yX9_bus ∈ xT := xT_of (List.mem_of_getElem? (i := 903) (by decide +kernel)) rfl
theorem ml_RX9_56 : Cond.methodLink RX9 56 yX9_in ∈ xT := xT_of (List.mem_of_getElem? (i := 908) (by decide +kernel)) rfl
theorem ml_RX9_64 : Cond.methodLink RX9 64 yX9_bad ∈ xT := xT_of (List.mem_of_getElem? (i := 911) (by decide +kernel)) rfl
theorem ml_RX9_52 : Cond.methodLink RX9 52 yX9_many ∈ xT := xT_of (List.mem_of_getElem? (i := 915) (by decide +kernel)) rfl
theorem ml_RL_21 : Cond.methodLink RL 21 yX9_room ∈ xT := xT_of (List.mem_of_getElem? (i := 919) (by decide +kernel)) rfl
theorem ml_RL_26 : Cond.methodLink RL 26 yX9_bridge ∈ xT := xT_of (List.mem_of_getElem? (i := 923) (by decide +kernel)) rfl
theorem ml_RX9_68 : Cond.methodLink RX9 68 yX9_isStop ∈ xT := xT_of (List.mem_of_getElem? (i := 927) (by decide +kernel)) rfl
theorem ml_RL_31 : Cond.methodLink RL 31 yX9_idea ∈ xT := xT_of (List.mem_of_getElem? (i := 931) (by decide +kernel)) rfl
theorem ml_RX9_76 : Cond.methodLink RX9 76 yX9_full ∈ xT := xT_of (List.mem_of_getElem? (i := 937) (by decide +kernel)) rfl
theorem ml_RX9_79 : Cond.methodLink RX9 79 yX9_layIdea ∈ xT := xT_of (List.mem_of_getElem? (i := 941) (by decide +kernel)) rfl
theorem ml_RL_36 : Cond.methodLink RL 36 yX9_quarrel ∈ xT := xT_of (List.mem_of_getElem? (i := 944) (by decide +kernel)) rfl
theorem ml_RX9_83 : Cond.methodLink RX9 83 yX9_isIdea ∈ xT := xT_of (List.mem_of_getElem? (i := 948) (by decide +kernel)) rfl
theorem ml_RX9_86 : Cond.methodLink RX9 86 yX9_layFoes ∈ xT := xT_of (List.mem_of_getElem? (i := 952) (by decide +kernel)) rfl
theorem ml_RL_53 : Cond.methodLink RL 53 yX9_drive ∈ xT := xT_of (List.mem_of_getElem? (i := 955) (by decide +kernel)) rfl
theorem ml_RX9_119 : Cond.methodLink RX9 119 yX9_no ∈ xT := xT_of (List.mem_of_getElem? (i := 960) (by decide +kernel)) rfl
theorem ml_RX9_122 : Cond.methodLink RX9 122 yX9_keep ∈ xT := xT_of (List.mem_of_getElem? (i := 964) (by decide +kernel)) rfl
theorem ml_RX9_90 : Cond.methodLink RX9 90 yX9_layHand ∈ xT := xT_of (List.mem_of_getElem? (i := 968) (by decide +kernel)) rfl
theorem ml_RX9_125 : Cond.methodLink RX9 125 yX9_goTill ∈ xT := xT_of (List.mem_of_getElem? (i := 972) (by decide +kernel)) rfl
theorem ml_RX9_114 : Cond.methodLink RX9 114 yX9_goStop ∈ xT := xT_of (List.mem_of_getElem? (i := 976) (by decide +kernel)) rfl
theorem ml_RX9_105 : Cond.methodLink RX9 105 yX9_bits ∈ xT := xT_of (List.mem_of_getElem? (i := 980) (by decide +kernel)) rfl
theorem ml_RX9_97 : Cond.methodLink RX9 97 yX9_has ∈ xT := xT_of (List.mem_of_getElem? (i := 983) (by decide +kernel)) rfl
theorem ml_RX9_108 : Cond.methodLink RX9 108 yX9_tallAs ∈ xT := xT_of (List.mem_of_getElem? (i := 986) (by decide +kernel)) rfl
theorem ml_RX9_111 : Cond.methodLink RX9 111 yX9_swayOfAll ∈ xT := xT_of (List.mem_of_getElem? (i := 989) (by decide +kernel)) rfl
theorem ml_RX9_101 : Cond.methodLink RX9 101 yX9_swayOf ∈ xT := xT_of (List.mem_of_getElem? (i := 993) (by decide +kernel)) rfl
theorem ml_RX9_93 : Cond.methodLink RX9 93 yX9_swayAs ∈ xT := xT_of (List.mem_of_getElem? (i := 997) (by decide +kernel)) rfl
theorem ml_RL_57 : Cond.methodLink RL 57 yX9_puts ∈ xT := xT_of (List.mem_of_getElem? (i := 1000) (by decide +kernel)) rfl
theorem ml_RL_61 : Cond.methodLink RL 61 yX9_undo ∈ xT := xT_of (List.mem_of_getElem? (i := 1004) (by decide +kernel)) rfl
theorem ml_RL_65 : Cond.methodLink RL 65 yX9_of ∈ xT := xT_of (List.mem_of_getElem? (i := 1008) (by decide +kernel)) rfl
theorem ml_RL_69 : Cond.methodLink RL 69 yX9_sways ∈ xT := xT_of (List.mem_of_getElem? (i := 1012) (by decide +kernel)) rfl
theorem ml_RL_73 : Cond.methodLink RL 73 yX9_now ∈ xT := xT_of (List.mem_of_getElem? (i := 1016) (by decide +kernel)) rfl
theorem ml_RL_77 : Cond.methodLink RL 77 yX9_then ∈ xT := xT_of (List.mem_of_getElem? (i := 1021) (by decide +kernel)) rfl
theorem ml_RL_81 : Cond.methodLink RL 81 yX9_end ∈ xT := xT_of (List.mem_of_getElem? (i := 1026) (by decide +kernel)) rfl
theorem ml_RL_85 : Cond.methodLink RL 85 yX9_decks ∈ xT := xT_of (List.mem_of_getElem? (i := 1030) (by decide +kernel)) rfl
theorem ml_RX9_138 : Cond.methodLink RX9 138 yX9_fewestDecks ∈ xT := xT_of (List.mem_of_getElem? (i := 1035) (by decide +kernel)) rfl
theorem ml_RX9_133 : Cond.methodLink RX9 133 yX9_layDecks ∈ xT := xT_of (List.mem_of_getElem? (i := 1039) (by decide +kernel)) rfl
theorem ml_RL_89 : Cond.methodLink RL 89 yX9_better ∈ xT := xT_of (List.mem_of_getElem? (i := 1043) (by decide +kernel)) rfl
theorem ml_RX9_141 : Cond.methodLink RX9 141 yX9_layStart ∈ xT := xT_of (List.mem_of_getElem? (i := 1047) (by decide +kernel)) rfl
theorem ml_RX9_144 : Cond.methodLink RX9 144 yX9_manyLost ∈ xT := xT_of (List.mem_of_getElem? (i := 1051) (by decide +kernel)) rfl
theorem ml_RL_93 : Cond.methodLink RL 93 yX9_raise ∈ xT := xT_of (List.mem_of_getElem? (i := 1055) (by decide +kernel)) rfl
theorem ml_RL_97 : Cond.methodLink RL 97 yX9_upstairs ∈ xT := xT_of (List.mem_of_getElem? (i := 1059) (by decide +kernel)) rfl
theorem ml_RL_101 : Cond.methodLink RL 101 yX9_note ∈ xT := xT_of (List.mem_of_getElem? (i := 1064) (by decide +kernel)) rfl
theorem ml_RL_105 : Cond.methodLink RL 105 yX9_forget ∈ xT := xT_of (List.mem_of_getElem? (i := 1069) (by decide +kernel)) rfl
theorem ml_RL_109 : Cond.methodLink RL 109 yX9_is ∈ xT := xT_of (List.mem_of_getElem? (i := 1073) (by decide +kernel)) rfl
theorem ml_RX9_151 : Cond.methodLink RX9 151 yX9_kindsOf ∈ xT := xT_of (List.mem_of_getElem? (i := 1077) (by decide +kernel)) rfl
theorem ml_RL_113 : Cond.methodLink RL 113 yX9_look ∈ xT := xT_of (List.mem_of_getElem? (i := 1081) (by decide +kernel)) rfl
theorem ml_RX9_155 : Cond.methodLink RX9 155 yX9_areAlike ∈ xT := xT_of (List.mem_of_getElem? (i := 1086) (by decide +kernel)) rfl
theorem ml_RL_117 : Cond.methodLink RL 117 yX9_fare ∈ xT := xT_of (List.mem_of_getElem? (i := 1089) (by decide +kernel)) rfl
theorem ml_RX9_164 : Cond.methodLink RX9 164 yX9_fraction ∈ xT := xT_of (List.mem_of_getElem? (i := 1094) (by decide +kernel)) rfl
theorem ml_RL_121 : Cond.methodLink RL 121 yX9_two ∈ xT := xT_of (List.mem_of_getElem? (i := 1098) (by decide +kernel)) rfl
theorem ml_RX9_168 : Cond.methodLink RX9 168 yX9_isPair ∈ xT := xT_of (List.mem_of_getElem? (i := 1102) (by decide +kernel)) rfl
theorem ml_RX9_172 : Cond.methodLink RX9 172 yX9_layPair ∈ xT := xT_of (List.mem_of_getElem? (i := 1106) (by decide +kernel)) rfl
theorem ml_RX9_176 : Cond.methodLink RX9 176 yX9_rests ∈ xT := xT_of (List.mem_of_getElem? (i := 1110) (by decide +kernel)) rfl
theorem ml_RL_125 : Cond.methodLink RL 125 yX9_bell ∈ xT := xT_of (List.mem_of_getElem? (i := 1114) (by decide +kernel)) rfl
theorem ml_RL_129 : Cond.methodLink RL 129 yX9_days ∈ xT := xT_of (List.mem_of_getElem? (i := 1118) (by decide +kernel)) rfl
theorem ml_RL_40 : Cond.methodLink RL 40 yX9_type ∈ xT := xT_of (List.mem_of_getElem? (i := 1127) (by decide +kernel)) rfl
theorem ml_RL_45 : Cond.methodLink RL 45 yX9_clear ∈ xT := xT_of (List.mem_of_getElem? (i := 1132) (by decide +kernel)) rfl
theorem ml_RL_49 : Cond.methodLink RL 49 yX9_read ∈ xT := xT_of (List.mem_of_getElem? (i := 1136) (by decide +kernel)) rfl
theorem ml_RX9_221 : Cond.methodLink RX9 221 yX9_lookAt ∈ xT := xT_of (List.mem_of_getElem? (i := 1140) (by decide +kernel)) rfl
theorem ml_RX9_215 : Cond.methodLink RX9 215 yX9_isSmall ∈ xT := xT_of (List.mem_of_getElem? (i := 1144) (by decide +kernel)) rfl
theorem ml_RX9_218 : Cond.methodLink RX9 218 yX9_isFigure ∈ xT := xT_of (List.mem_of_getElem? (i := 1149) (by decide +kernel)) rfl
theorem ml_RX9_247 : Cond.methodLink RX9 247 yX9_takesBus ∈ xT := xT_of (List.mem_of_getElem? (i := 1154) (by decide +kernel)) rfl
theorem ml_RX9_227 : Cond.methodLink RX9 227 yX9_spells ∈ xT := xT_of (List.mem_of_getElem? (i := 1158) (by decide +kernel)) rfl
theorem ml_RX9_224 : Cond.methodLink RX9 224 yX9_goBehind ∈ xT := xT_of (List.mem_of_getElem? (i := 1162) (by decide +kernel)) rfl
theorem ml_RX9_231 : Cond.methodLink RX9 231 yX9_takes ∈ xT := xT_of (List.mem_of_getElem? (i := 1166) (by decide +kernel)) rfl
theorem ml_RX9_250 : Cond.methodLink RX9 250 yX9_takesItem ∈ xT := xT_of (List.mem_of_getElem? (i := 1170) (by decide +kernel)) rfl
theorem ml_RX9_234 : Cond.methodLink RX9 234 yX9_takesBridge ∈ xT := xT_of (List.mem_of_getElem? (i := 1174) (by decide +kernel)) rfl
theorem ml_RX9_238 : Cond.methodLink RX9 238 yX9_takesIdea ∈ xT := xT_of (List.mem_of_getElem? (i := 1178) (by decide +kernel)) rfl
theorem ml_RX9_241 : Cond.methodLink RX9 241 yX9_isQuarrel ∈ xT := xT_of (List.mem_of_getElem? (i := 1182) (by decide +kernel)) rfl
theorem ml_RX9_244 : Cond.methodLink RX9 244 yX9_takesQuarrel ∈ xT := xT_of (List.mem_of_getElem? (i := 1186) (by decide +kernel)) rfl
theorem ml_RL_134 : Cond.methodLink RL 134 yX9_part ∈ xT := xT_of (List.mem_of_getElem? (i := 1190) (by decide +kernel)) rfl
theorem ml_RL_138 : Cond.methodLink RL 138 yX9_image ∈ xT := xT_of (List.mem_of_getElem? (i := 1194) (by decide +kernel)) rfl
theorem ml_RL_142 : Cond.methodLink RL 142 yX9_from ∈ xT := xT_of (List.mem_of_getElem? (i := 1198) (by decide +kernel)) rfl
theorem ml_RL_146 : Cond.methodLink RL 146 yX9_status ∈ xT := xT_of (List.mem_of_getElem? (i := 1202) (by decide +kernel)) rfl
theorem ml_RL_150 : Cond.methodLink RL 150 yX9_count ∈ xT := xT_of (List.mem_of_getElem? (i := 1206) (by decide +kernel)) rfl
theorem ml_RX9_261 : Cond.methodLink RX9 261 yX9_counted ∈ xT := xT_of (List.mem_of_getElem? (i := 1211) (by decide +kernel)) rfl
theorem ml_RX9_253 : Cond.methodLink RX9 253 yX9_manyQuarrels ∈ xT := xT_of (List.mem_of_getElem? (i := 1215) (by decide +kernel)) rfl
theorem ml_RX9_256 : Cond.methodLink RX9 256 yX9_manyBridges ∈ xT := xT_of (List.mem_of_getElem? (i := 1219) (by decide +kernel)) rfl
theorem ml_RL_155 : Cond.methodLink RL 155 yX9_digest ∈ xT := xT_of (List.mem_of_getElem? (i := 1223) (by decide +kernel)) rfl
theorem ml_RX9_268 : Cond.methodLink RX9 268 yX9_sums ∈ xT := xT_of (List.mem_of_getElem? (i := 1229) (by decide +kernel)) rfl
theorem nl_RX0_48 : Cond.methodLinkNest RX0 48 yX5_init "IdeasDeck" ∈ xnest := List.mem_filter.mpr ⟨List.mem_append_right _ (List.mem_of_getElem? (i := 34) (by decide +kernel)), rfl⟩
theorem nl_RX8_26 : Cond.methodLinkNest RX8 26 yX3_init "IdeasDeck" ∈ xnest := List.mem_filter.mpr ⟨List.mem_append_right _ (List.mem_of_getElem? (i := 146) (by decide +kernel)), rfl⟩
theorem nl_RX3_11 : Cond.methodLinkNest RX3 11 yX5_init "IdeasDeck" ∈ xnest := List.mem_filter.mpr ⟨List.mem_append_right _ (List.mem_of_getElem? (i := 151) (by decide +kernel)), rfl⟩
theorem nl_RX8_33 : Cond.methodLinkNest RX8 33 yX1_init "IdeasDeck" ∈ xnest := List.mem_filter.mpr ⟨List.mem_append_right _ (List.mem_of_getElem? (i := 168) (by decide +kernel)), rfl⟩
theorem nl_RX8_40 : Cond.methodLinkNest RX8 40 yX6_init "IdeasDeck" ∈ xnest := List.mem_filter.mpr ⟨List.mem_append_right _ (List.mem_of_getElem? (i := 179) (by decide +kernel)), rfl⟩
theorem nl_RX8_47 : Cond.methodLinkNest RX8 47 yX7_init "IdeasDeck" ∈ xnest := List.mem_filter.mpr ⟨List.mem_append_right _ (List.mem_of_getElem? (i := 198) (by decide +kernel)), rfl⟩
theorem nl_RX8_54 : Cond.methodLinkNest RX8 54 yX2_init "IdeasDeck" ∈ xnest := List.mem_filter.mpr ⟨List.mem_append_right _ (List.mem_of_getElem? (i := 217) (by decide +kernel)), rfl⟩
theorem nl_RX8_61 : Cond.methodLinkNest RX8 61 yX4_init "IdeasDeck" ∈ xnest := List.mem_filter.mpr ⟨List.mem_append_right _ (List.mem_of_getElem? (i := 232) (by decide +kernel)), rfl⟩
theorem nl_RX0_79 : Cond.methodLinkNest RX0 79 yX8_within "IdeasDeck" ∈ xnest := List.mem_filter.mpr ⟨List.mem_append_right _ (List.mem_of_getElem? (i := 355) (by decide +kernel)), rfl⟩
theorem nl_RX4_82 : Cond.methodLinkNest RX4 82 yX8_within "IdeasDeck" ∈ xnest := List.mem_filter.mpr ⟨List.mem_append_right _ (List.mem_of_getElem? (i := 400) (by decide +kernel)), rfl⟩
theorem nl_RX0_125 : Cond.methodLinkNest RX0 125 yX8_bit "IdeasDeck" ∈ xnest := List.mem_filter.mpr ⟨List.mem_append_right _ (List.mem_of_getElem? (i := 548) (by decide +kernel)), rfl⟩
theorem nl_RX0_128 : Cond.methodLinkNest RX0 128 yX8_tallOf "IdeasDeck" ∈ xnest := List.mem_filter.mpr ⟨List.mem_append_right _ (List.mem_of_getElem? (i := 549) (by decide +kernel)), rfl⟩
theorem nl_RX0_134 : Cond.methodLinkNest RX0 134 yX8_swayOf "IdeasDeck" ∈ xnest := List.mem_filter.mpr ⟨List.mem_append_right _ (List.mem_of_getElem? (i := 565) (by decide +kernel)), rfl⟩
theorem nl_RX1_31 : Cond.methodLinkNest RX1 31 yX8_bit "IdeasDeck" ∈ xnest := List.mem_filter.mpr ⟨List.mem_append_right _ (List.mem_of_getElem? (i := 648) (by decide +kernel)), rfl⟩
theorem nl_RX3_91 : Cond.methodLinkNest RX3 91 yX8_within "IdeasDeck" ∈ xnest := List.mem_filter.mpr ⟨List.mem_append_right _ (List.mem_of_getElem? (i := 672) (by decide +kernel)), rfl⟩
theorem nl_RX7_59 : Cond.methodLinkNest RX7 59 yX8_bit "IdeasDeck" ∈ xnest := List.mem_filter.mpr ⟨List.mem_append_right _ (List.mem_of_getElem? (i := 764) (by decide +kernel)), rfl⟩
theorem cl_RL_7 : Cond.classLink RL 7 RX8 ∈ xT := xT_of (List.mem_of_getElem? (i := 18) (by decide +kernel)) rfl
theorem cl_RX8_9 : Cond.classLink RX8 9 RX0 ∈ xT := xT_of (List.mem_of_getElem? (i := 26) (by decide +kernel)) rfl
theorem cl_RX0_46 : Cond.classLink RX0 46 RX5 ∈ xT := xT_of (List.mem_of_getElem? (i := 32) (by decide +kernel)) rfl
theorem cl_RX8_24 : Cond.classLink RX8 24 RX3 ∈ xT := xT_of (List.mem_of_getElem? (i := 144) (by decide +kernel)) rfl
theorem cl_RX3_9 : Cond.classLink RX3 9 RX5 ∈ xT := xT_of (List.mem_of_getElem? (i := 150) (by decide +kernel)) rfl
theorem cl_RX8_31 : Cond.classLink RX8 31 RX1 ∈ xT := xT_of (List.mem_of_getElem? (i := 166) (by decide +kernel)) rfl
theorem cl_RX8_38 : Cond.classLink RX8 38 RX6 ∈ xT := xT_of (List.mem_of_getElem? (i := 177) (by decide +kernel)) rfl
theorem cl_RX8_45 : Cond.classLink RX8 45 RX7 ∈ xT := xT_of (List.mem_of_getElem? (i := 196) (by decide +kernel)) rfl
theorem cl_RX8_52 : Cond.classLink RX8 52 RX2 ∈ xT := xT_of (List.mem_of_getElem? (i := 215) (by decide +kernel)) rfl
theorem cl_RX8_59 : Cond.classLink RX8 59 RX4 ∈ xT := xT_of (List.mem_of_getElem? (i := 230) (by decide +kernel)) rfl
theorem cl_RX4_15 : Cond.classLink RX4 15 RX0 ∈ xT := xT_of (List.mem_of_getElem? (i := 236) (by decide +kernel)) rfl
theorem cl_RL_10 : Cond.classLink RL 10 RX9 ∈ xT := xT_of (List.mem_of_getElem? (i := 839) (by decide +kernel)) rfl
theorem in_RL : Cond.initialized RL ∈ xT := xT_of (List.mem_of_getElem? (i := 0) (by decide +kernel)) rfl
theorem in_RX8 : Cond.initialized RX8 ∈ xT := xT_of (List.mem_of_getElem? (i := 1) (by decide +kernel)) rfl
theorem in_RX0 : Cond.initialized RX0 ∈ xT := xT_of (List.mem_of_getElem? (i := 2) (by decide +kernel)) rfl
theorem in_RX5 : Cond.initialized RX5 ∈ xT := xT_of (List.mem_of_getElem? (i := 3) (by decide +kernel)) rfl
theorem in_RX3 : Cond.initialized RX3 ∈ xT := xT_of (List.mem_of_getElem? (i := 4) (by decide +kernel)) rfl
theorem in_RX1 : Cond.initialized RX1 ∈ xT := xT_of (List.mem_of_getElem? (i := 5) (by decide +kernel)) rfl
theorem in_RX6 : Cond.initialized RX6 ∈ xT := xT_of (List.mem_of_getElem? (i := 6) (by decide +kernel)) rfl
theorem in_RX7 : Cond.initialized RX7 ∈ xT := xT_of (List.mem_of_getElem? (i := 7) (by decide +kernel)) rfl
theorem in_RX2 : Cond.initialized RX2 ∈ xT := xT_of (List.mem_of_getElem? (i := 8) (by decide +kernel)) rfl
theorem in_RX4 : Cond.initialized RX4 ∈ xT := xT_of (List.mem_of_getElem? (i := 9) (by decide +kernel)) rfl
theorem in_RX9 : Cond.initialized RX9 ∈ xT := xT_of (List.mem_of_getElem? (i := 10) (by decide +kernel)) rfl
theorem in_RJ0 : Cond.initialized RJ0 ∈ xT := xT_of (List.mem_of_getElem? (i := 11) (by decide +kernel)) rfl
theorem in_RJ1 : Cond.initialized RJ1 ∈ xT := xT_of (List.mem_of_getElem? (i := 12) (by decide +kernel)) rfl
theorem in_RJ3 : Cond.initialized RJ3 ∈ xT := xT_of (List.mem_of_getElem? (i := 13) (by decide +kernel)) rfl
theorem in_RJ2 : Cond.initialized RJ2 ∈ xT := xT_of (List.mem_of_getElem? (i := 14) (by decide +kernel)) rfl
theorem in_RJ10 : Cond.initialized RJ10 ∈ xT := xT_of (List.mem_of_getElem? (i := 15) (by decide +kernel)) rfl
theorem in_RJ6 : Cond.initialized RJ6 ∈ xT := xT_of (List.mem_of_getElem? (i := 16) (by decide +kernel)) rfl
theorem in_RJ9 : Cond.initialized RJ9 ∈ xT := xT_of (List.mem_of_getElem? (i := 17) (by decide +kernel)) rfl
theorem is_RX8 : Cond.instantiable RX8 12 ∈ xT := xT_of (List.mem_of_getElem? (i := 19) (by decide +kernel)) rfl
theorem is_RX0 : Cond.instantiable RX0 16 ∈ xT := xT_of (List.mem_of_getElem? (i := 27) (by decide +kernel)) rfl
theorem is_RX5 : Cond.instantiable RX5 5 ∈ xT := xT_of (List.mem_of_getElem? (i := 33) (by decide +kernel)) rfl
theorem is_RX3 : Cond.instantiable RX3 3 ∈ xT := xT_of (List.mem_of_getElem? (i := 145) (by decide +kernel)) rfl
theorem is_RX1 : Cond.instantiable RX1 1 ∈ xT := xT_of (List.mem_of_getElem? (i := 167) (by decide +kernel)) rfl
theorem is_RX6 : Cond.instantiable RX6 3 ∈ xT := xT_of (List.mem_of_getElem? (i := 178) (by decide +kernel)) rfl
theorem is_RX7 : Cond.instantiable RX7 4 ∈ xT := xT_of (List.mem_of_getElem? (i := 197) (by decide +kernel)) rfl
theorem is_RX2 : Cond.instantiable RX2 2 ∈ xT := xT_of (List.mem_of_getElem? (i := 216) (by decide +kernel)) rfl
theorem is_RX4 : Cond.instantiable RX4 8 ∈ xT := xT_of (List.mem_of_getElem? (i := 231) (by decide +kernel)) rfl
theorem is_RX9 : Cond.instantiable RX9 18 ∈ xT := xT_of (List.mem_of_getElem? (i := 840) (by decide +kernel)) rfl
theorem ct_RJ6_265 : Cond.constant RJ6 265 (1431655765) ∈ xT := xT_of (List.mem_of_getElem? (i := 541) (by decide +kernel)) rfl
theorem ct_RJ6_266 : Cond.constant RJ6 266 (858993459) ∈ xT := xT_of (List.mem_of_getElem? (i := 542) (by decide +kernel)) rfl
theorem ct_RJ6_267 : Cond.constant RJ6 267 (252645135) ∈ xT := xT_of (List.mem_of_getElem? (i := 543) (by decide +kernel)) rfl
theorem ct_RX8_273 : Cond.constant RX8 273 (999999) ∈ xT := xT_of (List.mem_of_getElem? (i := 789) (by decide +kernel)) rfl
theorem ct_RX9_154 : Cond.constant RX9 154 (1000000) ∈ xT := xT_of (List.mem_of_getElem? (i := 1085) (by decide +kernel)) rfl
theorem cL_RX8_271 : Cond.constantLong RX8 271 (10) ∈ xT := xT_of (List.mem_of_getElem? (i := 784) (by decide +kernel)) rfl
theorem cL_RX3_95 : Cond.constantLong RX3 95 (1103515245) ∈ xT := xT_of (List.mem_of_getElem? (i := 794) (by decide +kernel)) rfl
theorem cL_RX3_97 : Cond.constantLong RX3 97 (12345) ∈ xT := xT_of (List.mem_of_getElem? (i := 795) (by decide +kernel)) rfl
theorem cL_RX3_99 : Cond.constantLong RX3 99 (2147483648) ∈ xT := xT_of (List.mem_of_getElem? (i := 796) (by decide +kernel)) rfl
theorem cL_RX3_101 : Cond.constantLong RX3 101 (65536) ∈ xT := xT_of (List.mem_of_getElem? (i := 797) (by decide +kernel)) rfl
theorem cL_RX8_300 : Cond.constantLong RX8 300 (1381) ∈ xT := xT_of (List.mem_of_getElem? (i := 830) (by decide +kernel)) rfl
theorem cL_RX8_302 : Cond.constantLong RX8 302 (31) ∈ xT := xT_of (List.mem_of_getElem? (i := 831) (by decide +kernel)) rfl
theorem cL_RX0_141 : Cond.constantLong RX0 141 (31) ∈ xT := xT_of (List.mem_of_getElem? (i := 838) (by decide +kernel)) rfl
theorem cL_RX9_62 : Cond.constantLong RX9 62 (7) ∈ xT := xT_of (List.mem_of_getElem? (i := 907) (by decide +kernel)) rfl
theorem cL_RX9_60 : Cond.constantLong RX9 60 (9) ∈ xT := xT_of (List.mem_of_getElem? (i := 930) (by decide +kernel)) rfl
theorem cL_RX9_72 : Cond.constantLong RX9 72 (5) ∈ xT := xT_of (List.mem_of_getElem? (i := 935) (by decide +kernel)) rfl
theorem cL_RX9_74 : Cond.constantLong RX9 74 (8) ∈ xT := xT_of (List.mem_of_getElem? (i := 936) (by decide +kernel)) rfl
theorem cL_RX9_117 : Cond.constantLong RX9 117 (10) ∈ xT := xT_of (List.mem_of_getElem? (i := 959) (by decide +kernel)) rfl
theorem cL_RX9_129 : Cond.constantLong RX9 129 (4) ∈ xT := xT_of (List.mem_of_getElem? (i := 1020) (by decide +kernel)) rfl
theorem cL_RX9_131 : Cond.constantLong RX9 131 (2) ∈ xT := xT_of (List.mem_of_getElem? (i := 1025) (by decide +kernel)) rfl
theorem cL_RX9_136 : Cond.constantLong RX9 136 (-1) ∈ xT := xT_of (List.mem_of_getElem? (i := 1034) (by decide +kernel)) rfl
theorem cL_RX9_147 : Cond.constantLong RX9 147 (200) ∈ xT := xT_of (List.mem_of_getElem? (i := 1063) (by decide +kernel)) rfl
theorem cL_RX9_149 : Cond.constantLong RX9 149 (40) ∈ xT := xT_of (List.mem_of_getElem? (i := 1068) (by decide +kernel)) rfl
theorem cL_RX9_162 : Cond.constantLong RX9 162 (60) ∈ xT := xT_of (List.mem_of_getElem? (i := 1093) (by decide +kernel)) rfl
theorem cL_RX9_179 : Cond.constantLong RX9 179 (999999) ∈ xT := xT_of (List.mem_of_getElem? (i := 1122) (by decide +kernel)) rfl
theorem cL_RX9_181 : Cond.constantLong RX9 181 (1103515245) ∈ xT := xT_of (List.mem_of_getElem? (i := 1123) (by decide +kernel)) rfl
theorem cL_RX9_183 : Cond.constantLong RX9 183 (12345) ∈ xT := xT_of (List.mem_of_getElem? (i := 1124) (by decide +kernel)) rfl
theorem cL_RX9_185 : Cond.constantLong RX9 185 (2147483648) ∈ xT := xT_of (List.mem_of_getElem? (i := 1125) (by decide +kernel)) rfl
theorem cL_RX9_187 : Cond.constantLong RX9 187 (65536) ∈ xT := xT_of (List.mem_of_getElem? (i := 1126) (by decide +kernel)) rfl
theorem cL_RX9_189 : Cond.constantLong RX9 189 (127) ∈ xT := xT_of (List.mem_of_getElem? (i := 1131) (by decide +kernel)) rfl
theorem cL_RX9_195 : Cond.constantLong RX9 195 (97) ∈ xT := xT_of (List.mem_of_getElem? (i := 1147) (by decide +kernel)) rfl
theorem cL_RX9_197 : Cond.constantLong RX9 197 (122) ∈ xT := xT_of (List.mem_of_getElem? (i := 1148) (by decide +kernel)) rfl
theorem cL_RX9_199 : Cond.constantLong RX9 199 (48) ∈ xT := xT_of (List.mem_of_getElem? (i := 1152) (by decide +kernel)) rfl
theorem cL_RX9_201 : Cond.constantLong RX9 201 (57) ∈ xT := xT_of (List.mem_of_getElem? (i := 1153) (by decide +kernel)) rfl
theorem cL_RX9_259 : Cond.constantLong RX9 259 (6) ∈ xT := xT_of (List.mem_of_getElem? (i := 1210) (by decide +kernel)) rfl
theorem cL_RX9_266 : Cond.constantLong RX9 266 (1381) ∈ xT := xT_of (List.mem_of_getElem? (i := 1227) (by decide +kernel)) rfl
theorem cL_RX9_264 : Cond.constantLong RX9 264 (31) ∈ xT := xT_of (List.mem_of_getElem? (i := 1228) (by decide +kernel)) rfl
theorem ac_int : Cond.arrayClass .int ∈ xT := xT_of (List.mem_of_getElem? (i := 69) (by decide +kernel)) rfl
theorem ac_boolean : Cond.arrayClass .boolean ∈ xT := xT_of (List.mem_of_getElem? (i := 165) (by decide +kernel)) rfl
theorem ac_byte : Cond.arrayClass .byte ∈ xT := xT_of (List.mem_of_getElem? (i := 513) (by decide +kernel)) rfl
theorem nt_copy : Cond.native arraycopyName ∈ xT := xT_of (List.mem_of_getElem? (i := 508) (by decide +kernel)) rfl
theorem tg_X8_init : xtg yX8_init cX8_init 1 none 0 := ⟨xT_of (List.mem_of_getElem? (i := 22) (by decide +kernel)) rfl, in_RX8, by decide +kernel, by decide +kernel, by decide +kernel⟩
theorem cd_obj : Cond.code objectInit ⟨#[0xb1]⟩ 1 none ∈ xT := xT_of (List.mem_of_getElem? (i := 25) (by decide +kernel)) rfl
theorem tg_X0_init : xtg yX0_init cX0_init 2 none 0 := ⟨xT_of (List.mem_of_getElem? (i := 30) (by decide +kernel)) rfl, in_RX0, by decide +kernel, by decide +kernel, by decide +kernel⟩
theorem tg_X5_init : xtg yX5_init cX5_init 1 none 0 := ⟨xT_of (List.mem_of_getElem? (i := 36) (by decide +kernel)) rfl, in_RX5, by decide +kernel, by decide +kernel, by decide +kernel⟩
theorem tg_X3_init : xtg yX3_init cX3_init 1 none 0 := ⟨xT_of (List.mem_of_getElem? (i := 148) (by decide +kernel)) rfl, in_RX3, by decide +kernel, by decide +kernel, by decide +kernel⟩
theorem tg_X1_init : xtg yX1_init cX1_init 1 none 0 := ⟨xT_of (List.mem_of_getElem? (i := 170) (by decide +kernel)) rfl, in_RX1, by decide +kernel, by decide +kernel, by decide +kernel⟩
theorem tg_X6_init : xtg yX6_init cX6_init 1 none 0 := ⟨xT_of (List.mem_of_getElem? (i := 181) (by decide +kernel)) rfl, in_RX6, by decide +kernel, by decide +kernel, by decide +kernel⟩
theorem tg_X7_init : xtg yX7_init cX7_init 1 none 0 := ⟨xT_of (List.mem_of_getElem? (i := 200) (by decide +kernel)) rfl, in_RX7, by decide +kernel, by decide +kernel, by decide +kernel⟩
theorem tg_X2_init : xtg yX2_init cX2_init 1 none 0 := ⟨xT_of (List.mem_of_getElem? (i := 219) (by decide +kernel)) rfl, in_RX2, by decide +kernel, by decide +kernel, by decide +kernel⟩
theorem tg_X4_init : xtg yX4_init cX4_init 1 none 0 := ⟨xT_of (List.mem_of_getElem? (i := 234) (by decide +kernel)) rfl, in_RX4, by decide +kernel, by decide +kernel, by decide +kernel⟩
theorem tg_X8_bus : xtg yX8_bus cX8_bus 3 (some .int) 1 := ⟨xT_of (List.mem_of_getElem? (i := 307) (by decide +kernel)) rfl, in_RX8, by decide +kernel, by decide +kernel, by decide +kernel⟩
theorem tg_X8_within : xtg yX8_within cX8_within 3 (some .boolean) 3 := ⟨xT_of (List.mem_of_getElem? (i := 310) (by decide +kernel)) rfl, in_RX8, by decide +kernel, by decide +kernel, by decide +kernel⟩
theorem tg_X8_refuseBad : xtg yX8_refuseBad cX8_refuseBad 1 (some .int) 0 := ⟨xT_of (List.mem_of_getElem? (i := 314) (by decide +kernel)) rfl, in_RX8, by decide +kernel, by decide +kernel, by decide +kernel⟩
theorem tg_X0_startAnew : xtg yX0_startAnew cX0_startAnew 2 none 0 := ⟨xT_of (List.mem_of_getElem? (i := 318) (by decide +kernel)) rfl, in_RX0, by decide +kernel, by decide +kernel, by decide +kernel⟩
theorem tg_X5_startAnew : xtg yX5_startAnew cX5_startAnew 1 none 0 := ⟨xT_of (List.mem_of_getElem? (i := 322) (by decide +kernel)) rfl, in_RX5, by decide +kernel, by decide +kernel, by decide +kernel⟩
theorem tg_X8_room : xtg yX8_room cX8_room 3 (some .int) 1 := ⟨xT_of (List.mem_of_getElem? (i := 326) (by decide +kernel)) rfl, in_RX8, by decide +kernel, by decide +kernel, by decide +kernel⟩
theorem tg_X8_bridge : xtg yX8_bridge cX8_bridge 4 (some .int) 2 := ⟨xT_of (List.mem_of_getElem? (i := 330) (by decide +kernel)) rfl, in_RX8, by decide +kernel, by decide +kernel, by decide +kernel⟩
theorem tg_X8_idea : xtg yX8_idea cX8_idea 5 (some .int) 4 := ⟨xT_of (List.mem_of_getElem? (i := 334) (by decide +kernel)) rfl, in_RX8, by decide +kernel, by decide +kernel, by decide +kernel⟩
theorem tg_X8_refuseFull : xtg yX8_refuseFull cX8_refuseFull 1 (some .int) 0 := ⟨xT_of (List.mem_of_getElem? (i := 338) (by decide +kernel)) rfl, in_RX8, by decide +kernel, by decide +kernel, by decide +kernel⟩
theorem tg_X0_addIdea : xtg yX0_addIdea cX0_addIdea 5 none 4 := ⟨xT_of (List.mem_of_getElem? (i := 342) (by decide +kernel)) rfl, in_RX0, by decide +kernel, by decide +kernel, by decide +kernel⟩
theorem tg_X8_quarrel : xtg yX8_quarrel cX8_quarrel 5 (some .int) 3 := ⟨xT_of (List.mem_of_getElem? (i := 346) (by decide +kernel)) rfl, in_RX8, by decide +kernel, by decide +kernel, by decide +kernel⟩
theorem tg_X0_hasTwo : xtg yX0_hasTwo cX0_hasTwo 3 (some .boolean) 2 := ⟨xT_of (List.mem_of_getElem? (i := 350) (by decide +kernel)) rfl, in_RX0, by decide +kernel, by decide +kernel, by decide +kernel⟩
theorem tg_X0_has : xtg yX0_has cX0_has 2 (some .boolean) 1 := ⟨xT_of (List.mem_of_getElem? (i := 354) (by decide +kernel)) rfl, in_RX0, by decide +kernel, by decide +kernel, by decide +kernel⟩
theorem tg_X8_bit : xtg yX8_bit cX8_bit 2 (some .int) 2 := ⟨xT_of (List.mem_of_getElem? (i := 358) (by decide +kernel)) rfl, in_RX8, by decide +kernel, by decide +kernel, by decide +kernel⟩
theorem tg_X0_setQuarrel : xtg yX0_setQuarrel cX0_setQuarrel 4 none 3 := ⟨xT_of (List.mem_of_getElem? (i := 362) (by decide +kernel)) rfl, in_RX0, by decide +kernel, by decide +kernel, by decide +kernel⟩
theorem tg_X8_type : xtg yX8_type cX8_type 2 (some .int) 1 := ⟨xT_of (List.mem_of_getElem? (i := 367) (by decide +kernel)) rfl, in_RX8, by decide +kernel, by decide +kernel, by decide +kernel⟩
theorem tg_X4_addByte : xtg yX4_addByte cX4_addByte 2 none 1 := ⟨xT_of (List.mem_of_getElem? (i := 371) (by decide +kernel)) rfl, in_RX4, by decide +kernel, by decide +kernel, by decide +kernel⟩
theorem tg_X8_clear : xtg yX8_clear cX8_clear 2 (some .int) 0 := ⟨xT_of (List.mem_of_getElem? (i := 375) (by decide +kernel)) rfl, in_RX8, by decide +kernel, by decide +kernel, by decide +kernel⟩
theorem tg_X8_read : xtg yX8_read cX8_read 1 (some .int) 0 := ⟨xT_of (List.mem_of_getElem? (i := 379) (by decide +kernel)) rfl, in_RX8, by decide +kernel, by decide +kernel, by decide +kernel⟩
theorem tg_X4_readBus : xtg yX4_readBus cX4_readBus 2 (some .boolean) 0 := ⟨xT_of (List.mem_of_getElem? (i := 383) (by decide +kernel)) rfl, in_RX4, by decide +kernel, by decide +kernel, by decide +kernel⟩
theorem tg_X4_step : xtg yX4_step cX4_step 2 none 0 := ⟨xT_of (List.mem_of_getElem? (i := 388) (by decide +kernel)) rfl, in_RX4, by decide +kernel, by decide +kernel, by decide +kernel⟩
theorem tg_X4_endOfBlanks : xtg yX4_endOfBlanks cX4_endOfBlanks 3 (some .int) 1 := ⟨xT_of (List.mem_of_getElem? (i := 392) (by decide +kernel)) rfl, in_RX4, by decide +kernel, by decide +kernel, by decide +kernel⟩
theorem tg_X4_byteAt : xtg yX4_byteAt cX4_byteAt 2 (some .int) 1 := ⟨xT_of (List.mem_of_getElem? (i := 396) (by decide +kernel)) rfl, in_RX4, by decide +kernel, by decide +kernel, by decide +kernel⟩
theorem tg_X4_isLetter : xtg yX4_isLetter cX4_isLetter 1 (some .boolean) 1 := ⟨xT_of (List.mem_of_getElem? (i := 399) (by decide +kernel)) rfl, in_RX4, by decide +kernel, by decide +kernel, by decide +kernel⟩
theorem tg_X4_endOfLetters : xtg yX4_endOfLetters cX4_endOfLetters 3 (some .int) 1 := ⟨xT_of (List.mem_of_getElem? (i := 404) (by decide +kernel)) rfl, in_RX4, by decide +kernel, by decide +kernel, by decide +kernel⟩
theorem tg_X4_isFigure : xtg yX4_isFigure cX4_isFigure 1 (some .boolean) 1 := ⟨xT_of (List.mem_of_getElem? (i := 407) (by decide +kernel)) rfl, in_RX4, by decide +kernel, by decide +kernel, by decide +kernel⟩
theorem tg_X4_endOfFigures : xtg yX4_endOfFigures cX4_endOfFigures 3 (some .int) 1 := ⟨xT_of (List.mem_of_getElem? (i := 411) (by decide +kernel)) rfl, in_RX4, by decide +kernel, by decide +kernel, by decide +kernel⟩
theorem tg_X4_valueOfFigures : xtg yX4_valueOfFigures cX4_valueOfFigures 3 (some .int) 0 := ⟨xT_of (List.mem_of_getElem? (i := 415) (by decide +kernel)) rfl, in_RX4, by decide +kernel, by decide +kernel, by decide +kernel⟩
theorem tg_X4_isWord : xtg yX4_isWord cX4_isWord 3 (some .boolean) 1 := ⟨xT_of (List.mem_of_getElem? (i := 420) (by decide +kernel)) rfl, in_RX4, by decide +kernel, by decide +kernel, by decide +kernel⟩
theorem tg_J0_length_8abf5 : xtg yJ0_length_8abf5 cJ0_length_8abf5 1 (some .int) 0 := ⟨xT_of (List.mem_of_getElem? (i := 424) (by decide +kernel)) rfl, in_RJ0, by decide +kernel, by decide +kernel, by decide +kernel⟩
theorem tg_J0_coder_7d493 : xtg yJ0_coder_7d493 cJ0_coder_7d493 1 (some .byte) 0 := ⟨xT_of (List.mem_of_getElem? (i := 428) (by decide +kernel)) rfl, in_RJ0, by decide +kernel, by decide +kernel, by decide +kernel⟩
theorem tg_J0_charAt_5068e : xtg yJ0_charAt_5068e cJ0_charAt_5068e 2 (some .char) 1 := ⟨xT_of (List.mem_of_getElem? (i := 434) (by decide +kernel)) rfl, in_RJ0, by decide +kernel, by decide +kernel, by decide +kernel⟩
theorem tg_J0_isLatin1_aae02 : xtg yJ0_isLatin1_aae02 cJ0_isLatin1_aae02 1 (some .boolean) 0 := ⟨xT_of (List.mem_of_getElem? (i := 438) (by decide +kernel)) rfl, in_RJ0, by decide +kernel, by decide +kernel, by decide +kernel⟩
theorem tg_J1_charAt_3b067 : xtg yJ1_charAt_3b067 cJ1_charAt_3b067 2 (some .char) 2 := ⟨xT_of (List.mem_of_getElem? (i := 441) (by decide +kernel)) rfl, in_RJ1, by decide +kernel, by decide +kernel, by decide +kernel⟩
theorem tg_J0_checkIndex_df160 : xtg yJ0_checkIndex_df160 cJ0_checkIndex_df160 2 none 2 := ⟨xT_of (List.mem_of_getElem? (i := 444) (by decide +kernel)) rfl, in_RJ0, by decide +kernel, by decide +kernel, by decide +kernel⟩
theorem tg_J3_checkIndex_8e157 : xtg yJ3_checkIndex_8e157 cJ3_checkIndex_8e157 3 (some .int) 3 := ⟨xT_of (List.mem_of_getElem? (i := 449) (by decide +kernel)) rfl, in_RJ3, by decide +kernel, by decide +kernel, by decide +kernel⟩
theorem tg_J2_charAt_3b067 : xtg yJ2_charAt_3b067 cJ2_charAt_3b067 2 (some .char) 2 := ⟨xT_of (List.mem_of_getElem? (i := 452) (by decide +kernel)) rfl, in_RJ2, by decide +kernel, by decide +kernel, by decide +kernel⟩
theorem tg_J2_checkIndex_2214a : xtg yJ2_checkIndex_2214a cJ2_checkIndex_2214a 2 none 2 := ⟨xT_of (List.mem_of_getElem? (i := 455) (by decide +kernel)) rfl, in_RJ2, by decide +kernel, by decide +kernel, by decide +kernel⟩
theorem tg_J2_length_9d52b : xtg yJ2_length_9d52b cJ2_length_9d52b 1 (some .int) 1 := ⟨xT_of (List.mem_of_getElem? (i := 458) (by decide +kernel)) rfl, in_RJ2, by decide +kernel, by decide +kernel, by decide +kernel⟩
theorem tg_J2_getChar_3b067 : xtg yJ2_getChar_3b067 cJ2_getChar_3b067 2 (some .char) 2 := ⟨xT_of (List.mem_of_getElem? (i := 462) (by decide +kernel)) rfl, in_RJ2, by decide +kernel, by decide +kernel, by decide +kernel⟩
theorem tg_X4_readRoom : xtg yX4_readRoom cX4_readRoom 1 (some .boolean) 0 := ⟨xT_of (List.mem_of_getElem? (i := 472) (by decide +kernel)) rfl, in_RX4, by decide +kernel, by decide +kernel, by decide +kernel⟩
theorem tg_X4_readNumber : xtg yX4_readNumber cX4_readNumber 3 (some .boolean) 2 := ⟨xT_of (List.mem_of_getElem? (i := 476) (by decide +kernel)) rfl, in_RX4, by decide +kernel, by decide +kernel, by decide +kernel⟩
theorem tg_X4_readMark : xtg yX4_readMark cX4_readMark 1 (some .boolean) 0 := ⟨xT_of (List.mem_of_getElem? (i := 480) (by decide +kernel)) rfl, in_RX4, by decide +kernel, by decide +kernel, by decide +kernel⟩
theorem tg_X4_readItem : xtg yX4_readItem cX4_readItem 1 (some .boolean) 0 := ⟨xT_of (List.mem_of_getElem? (i := 484) (by decide +kernel)) rfl, in_RX4, by decide +kernel, by decide +kernel, by decide +kernel⟩
theorem tg_X4_readBridge : xtg yX4_readBridge cX4_readBridge 2 (some .boolean) 0 := ⟨xT_of (List.mem_of_getElem? (i := 489) (by decide +kernel)) rfl, in_RX4, by decide +kernel, by decide +kernel, by decide +kernel⟩
theorem tg_X4_readIdea : xtg yX4_readIdea cX4_readIdea 4 (some .boolean) 0 := ⟨xT_of (List.mem_of_getElem? (i := 494) (by decide +kernel)) rfl, in_RX4, by decide +kernel, by decide +kernel, by decide +kernel⟩
theorem tg_X4_readQuarrel : xtg yX4_readQuarrel cX4_readQuarrel 2 (some .boolean) 0 := ⟨xT_of (List.mem_of_getElem? (i := 500) (by decide +kernel)) rfl, in_RX4, by decide +kernel, by decide +kernel, by decide +kernel⟩
theorem tg_X0_take : xtg yX0_take cX0_take 3 none 1 := ⟨xT_of (List.mem_of_getElem? (i := 505) (by decide +kernel)) rfl, in_RX0, by decide +kernel, by decide +kernel, by decide +kernel⟩
theorem tg_X5_take : xtg yX5_take cX5_take 2 none 1 := ⟨xT_of (List.mem_of_getElem? (i := 512) (by decide +kernel)) rfl, in_RX5, by decide +kernel, by decide +kernel, by decide +kernel⟩
theorem tg_X8_drive : xtg yX8_drive cX8_drive 4 (some .int) 1 := ⟨xT_of (List.mem_of_getElem? (i := 517) (by decide +kernel)) rfl, in_RX8, by decide +kernel, by decide +kernel, by decide +kernel⟩
theorem tg_X8_refuseNo : xtg yX8_refuseNo cX8_refuseNo 1 (some .int) 0 := ⟨xT_of (List.mem_of_getElem? (i := 521) (by decide +kernel)) rfl, in_RX8, by decide +kernel, by decide +kernel, by decide +kernel⟩
theorem tg_X0_remember : xtg yX0_remember cX0_remember 3 none 0 := ⟨xT_of (List.mem_of_getElem? (i := 525) (by decide +kernel)) rfl, in_RX0, by decide +kernel, by decide +kernel, by decide +kernel⟩
theorem tg_X0_passStop : xtg yX0_passStop cX0_passStop 5 none 3 := ⟨xT_of (List.mem_of_getElem? (i := 529) (by decide +kernel)) rfl, in_RX0, by decide +kernel, by decide +kernel, by decide +kernel⟩
theorem tg_X0_letOff : xtg yX0_letOff cX0_letOff 4 none 2 := ⟨xT_of (List.mem_of_getElem? (i := 533) (by decide +kernel)) rfl, in_RX0, by decide +kernel, by decide +kernel, by decide +kernel⟩
theorem tg_X0_letOn : xtg yX0_letOn cX0_letOn 6 none 3 := ⟨xT_of (List.mem_of_getElem? (i := 537) (by decide +kernel)) rfl, in_RX0, by decide +kernel, by decide +kernel, by decide +kernel⟩
theorem tg_J6_bitCount_0f7a4 : xtg yJ6_bitCount_0f7a4 cJ6_bitCount_0f7a4 1 (some .int) 1 := ⟨xT_of (List.mem_of_getElem? (i := 540) (by decide +kernel)) rfl, in_RJ6, by decide +kernel, by decide +kernel, by decide +kernel⟩
theorem tg_X0_scrape : xtg yX0_scrape cX0_scrape 5 none 3 := ⟨xT_of (List.mem_of_getElem? (i := 547) (by decide +kernel)) rfl, in_RX0, by decide +kernel, by decide +kernel, by decide +kernel⟩
theorem tg_X8_tallOf : xtg yX8_tallOf cX8_tallOf 2 (some .int) 2 := ⟨xT_of (List.mem_of_getElem? (i := 551) (by decide +kernel)) rfl, in_RX8, by decide +kernel, by decide +kernel, by decide +kernel⟩
theorem tg_X8_plainTall : xtg yX8_plainTall cX8_plainTall 0 (some .int) 0 := ⟨xT_of (List.mem_of_getElem? (i := 554) (by decide +kernel)) rfl, in_RX8, by decide +kernel, by decide +kernel, by decide +kernel⟩
theorem tg_X8_economyTall : xtg yX8_economyTall cX8_economyTall 0 (some .int) 0 := ⟨xT_of (List.mem_of_getElem? (i := 557) (by decide +kernel)) rfl, in_RX8, by decide +kernel, by decide +kernel, by decide +kernel⟩
theorem tg_X8_doubtTall : xtg yX8_doubtTall cX8_doubtTall 0 (some .int) 0 := ⟨xT_of (List.mem_of_getElem? (i := 560) (by decide +kernel)) rfl, in_RX8, by decide +kernel, by decide +kernel, by decide +kernel⟩
theorem tg_X0_swayOfAll : xtg yX0_swayOfAll cX0_swayOfAll 5 (some .int) 2 := ⟨xT_of (List.mem_of_getElem? (i := 564) (by decide +kernel)) rfl, in_RX0, by decide +kernel, by decide +kernel, by decide +kernel⟩
theorem tg_X8_swayOf : xtg yX8_swayOf cX8_swayOf 3 (some .int) 3 := ⟨xT_of (List.mem_of_getElem? (i := 567) (by decide +kernel)) rfl, in_RX8, by decide +kernel, by decide +kernel, by decide +kernel⟩
theorem tg_X8_plainSway : xtg yX8_plainSway cX8_plainSway 1 (some .int) 1 := ⟨xT_of (List.mem_of_getElem? (i := 570) (by decide +kernel)) rfl, in_RX8, by decide +kernel, by decide +kernel, by decide +kernel⟩
theorem tg_X8_economySway : xtg yX8_economySway cX8_economySway 1 (some .int) 1 := ⟨xT_of (List.mem_of_getElem? (i := 573) (by decide +kernel)) rfl, in_RX8, by decide +kernel, by decide +kernel, by decide +kernel⟩
theorem tg_X8_puts : xtg yX8_puts cX8_puts 2 (some .int) 1 := ⟨xT_of (List.mem_of_getElem? (i := 577) (by decide +kernel)) rfl, in_RX8, by decide +kernel, by decide +kernel, by decide +kernel⟩
theorem tg_X8_undo : xtg yX8_undo cX8_undo 1 (some .int) 0 := ⟨xT_of (List.mem_of_getElem? (i := 583) (by decide +kernel)) rfl, in_RX8, by decide +kernel, by decide +kernel, by decide +kernel⟩
theorem tg_X0_goBack : xtg yX0_goBack cX0_goBack 1 none 0 := ⟨xT_of (List.mem_of_getElem? (i := 587) (by decide +kernel)) rfl, in_RX0, by decide +kernel, by decide +kernel, by decide +kernel⟩
theorem tg_X8_of : xtg yX8_of cX8_of 3 (some .int) 2 := ⟨xT_of (List.mem_of_getElem? (i := 591) (by decide +kernel)) rfl, in_RX8, by decide +kernel, by decide +kernel, by decide +kernel⟩
theorem tg_X8_sways : xtg yX8_sways cX8_sways 4 (some .int) 3 := ⟨xT_of (List.mem_of_getElem? (i := 595) (by decide +kernel)) rfl, in_RX8, by decide +kernel, by decide +kernel, by decide +kernel⟩
theorem tg_X8_now : xtg yX8_now cX8_now 2 (some .int) 1 := ⟨xT_of (List.mem_of_getElem? (i := 601) (by decide +kernel)) rfl, in_RX8, by decide +kernel, by decide +kernel, by decide +kernel⟩
theorem tg_X8_then : xtg yX8_then cX8_then 3 (some .int) 2 := ⟨xT_of (List.mem_of_getElem? (i := 605) (by decide +kernel)) rfl, in_RX8, by decide +kernel, by decide +kernel, by decide +kernel⟩
theorem tg_X3_goOn : xtg yX3_goOn cX3_goOn 2 none 1 := ⟨xT_of (List.mem_of_getElem? (i := 609) (by decide +kernel)) rfl, in_RX3, by decide +kernel, by decide +kernel, by decide +kernel⟩
theorem tg_X3_boardAsTold : xtg yX3_boardAsTold cX3_boardAsTold 2 none 1 := ⟨xT_of (List.mem_of_getElem? (i := 614) (by decide +kernel)) rfl, in_RX3, by decide +kernel, by decide +kernel, by decide +kernel⟩
theorem tg_X3_passThrough : xtg yX3_passThrough cX3_passThrough 4 none 2 := ⟨xT_of (List.mem_of_getElem? (i := 619) (by decide +kernel)) rfl, in_RX3, by decide +kernel, by decide +kernel, by decide +kernel⟩
theorem tg_X3_passOne : xtg yX3_passOne cX3_passOne 2 none 1 := ⟨xT_of (List.mem_of_getElem? (i := 623) (by decide +kernel)) rfl, in_RX3, by decide +kernel, by decide +kernel, by decide +kernel⟩
theorem tg_X8_end : xtg yX8_end cX8_end 2 (some .int) 1 := ⟨xT_of (List.mem_of_getElem? (i := 629) (by decide +kernel)) rfl, in_RX8, by decide +kernel, by decide +kernel, by decide +kernel⟩
theorem tg_X8_decks : xtg yX8_decks cX8_decks 3 (some .int) 1 := ⟨xT_of (List.mem_of_getElem? (i := 633) (by decide +kernel)) rfl, in_RX8, by decide +kernel, by decide +kernel, by decide +kernel⟩
theorem tg_X8_refuseOtherBad : xtg yX8_refuseOtherBad cX8_refuseOtherBad 1 (some .int) 0 := ⟨xT_of (List.mem_of_getElem? (i := 637) (by decide +kernel)) rfl, in_RX8, by decide +kernel, by decide +kernel, by decide +kernel⟩
theorem tg_X1_fewest : xtg yX1_fewest cX1_fewest 3 (some .int) 1 := ⟨xT_of (List.mem_of_getElem? (i := 641) (by decide +kernel)) rfl, in_RX1, by decide +kernel, by decide +kernel, by decide +kernel⟩
theorem tg_X1_canPlace : xtg yX1_canPlace cX1_canPlace 5 (some .boolean) 4 := ⟨xT_of (List.mem_of_getElem? (i := 644) (by decide +kernel)) rfl, in_RX1, by decide +kernel, by decide +kernel, by decide +kernel⟩
theorem tg_X1_isCalm : xtg yX1_isCalm cX1_isCalm 5 (some .boolean) 4 := ⟨xT_of (List.mem_of_getElem? (i := 647) (by decide +kernel)) rfl, in_RX1, by decide +kernel, by decide +kernel, by decide +kernel⟩
theorem tg_X8_better : xtg yX8_better cX8_better 1 (some .int) 0 := ⟨xT_of (List.mem_of_getElem? (i := 652) (by decide +kernel)) rfl, in_RX8, by decide +kernel, by decide +kernel, by decide +kernel⟩
theorem tg_X3_betterBoarding : xtg yX3_betterBoarding cX3_betterBoarding 7 (some .int) 1 := ⟨xT_of (List.mem_of_getElem? (i := 656) (by decide +kernel)) rfl, in_RX3, by decide +kernel, by decide +kernel, by decide +kernel⟩
theorem tg_X3_startAnew : xtg yX3_startAnew cX3_startAnew 2 none 1 := ⟨xT_of (List.mem_of_getElem? (i := 660) (by decide +kernel)) rfl, in_RX3, by decide +kernel, by decide +kernel, by decide +kernel⟩
theorem tg_X3_missing : xtg yX3_missing cX3_missing 1 (some .int) 0 := ⟨xT_of (List.mem_of_getElem? (i := 666) (by decide +kernel)) rfl, in_RX3, by decide +kernel, by decide +kernel, by decide +kernel⟩
theorem tg_X3_missingIf : xtg yX3_missingIf cX3_missingIf 4 (some .int) 3 := ⟨xT_of (List.mem_of_getElem? (i := 671) (by decide +kernel)) rfl, in_RX3, by decide +kernel, by decide +kernel, by decide +kernel⟩
theorem tg_X8_raise : xtg yX8_raise cX8_raise 1 (some .int) 0 := ⟨xT_of (List.mem_of_getElem? (i := 676) (by decide +kernel)) rfl, in_RX8, by decide +kernel, by decide +kernel, by decide +kernel⟩
theorem tg_X3_leastLift : xtg yX3_leastLift cX3_leastLift 3 (some .int) 1 := ⟨xT_of (List.mem_of_getElem? (i := 680) (by decide +kernel)) rfl, in_RX3, by decide +kernel, by decide +kernel, by decide +kernel⟩
theorem tg_X8_upstairs : xtg yX8_upstairs cX8_upstairs 4 (some .int) 3 := ⟨xT_of (List.mem_of_getElem? (i := 684) (by decide +kernel)) rfl, in_RX8, by decide +kernel, by decide +kernel, by decide +kernel⟩
theorem tg_X6_find : xtg yX6_find cX6_find 5 none 3 := ⟨xT_of (List.mem_of_getElem? (i := 688) (by decide +kernel)) rfl, in_RX6, by decide +kernel, by decide +kernel, by decide +kernel⟩
theorem tg_X6_canBe : xtg yX6_canBe cX6_canBe 4 (some .boolean) 4 := ⟨xT_of (List.mem_of_getElem? (i := 691) (by decide +kernel)) rfl, in_RX6, by decide +kernel, by decide +kernel, by decide +kernel⟩
theorem tg_X0_quarrelsIn : xtg yX0_quarrelsIn cX0_quarrelsIn 3 (some .boolean) 1 := ⟨xT_of (List.mem_of_getElem? (i := 697) (by decide +kernel)) rfl, in_RX0, by decide +kernel, by decide +kernel, by decide +kernel⟩
theorem tg_X8_note : xtg yX8_note cX8_note 5 (some .int) 4 := ⟨xT_of (List.mem_of_getElem? (i := 701) (by decide +kernel)) rfl, in_RX8, by decide +kernel, by decide +kernel, by decide +kernel⟩
theorem tg_X0_addNote : xtg yX0_addNote cX0_addNote 5 none 4 := ⟨xT_of (List.mem_of_getElem? (i := 705) (by decide +kernel)) rfl, in_RX0, by decide +kernel, by decide +kernel, by decide +kernel⟩
theorem tg_X8_forget : xtg yX8_forget cX8_forget 2 (some .int) 0 := ⟨xT_of (List.mem_of_getElem? (i := 709) (by decide +kernel)) rfl, in_RX8, by decide +kernel, by decide +kernel, by decide +kernel⟩
theorem tg_X8_is : xtg yX8_is cX8_is 2 (some .int) 1 := ⟨xT_of (List.mem_of_getElem? (i := 713) (by decide +kernel)) rfl, in_RX8, by decide +kernel, by decide +kernel, by decide +kernel⟩
theorem tg_X0_kindsByNotes : xtg yX0_kindsByNotes cX0_kindsByNotes 4 (some .int) 1 := ⟨xT_of (List.mem_of_getElem? (i := 717) (by decide +kernel)) rfl, in_RX0, by decide +kernel, by decide +kernel, by decide +kernel⟩
theorem tg_X0_fitsNotes : xtg yX0_fitsNotes cX0_fitsNotes 5 (some .boolean) 2 := ⟨xT_of (List.mem_of_getElem? (i := 721) (by decide +kernel)) rfl, in_RX0, by decide +kernel, by decide +kernel, by decide +kernel⟩
theorem tg_X8_look : xtg yX8_look cX8_look 2 (some .int) 1 := ⟨xT_of (List.mem_of_getElem? (i := 725) (by decide +kernel)) rfl, in_RX8, by decide +kernel, by decide +kernel, by decide +kernel⟩
theorem tg_X8_bestLook : xtg yX8_bestLook cX8_bestLook 6 (some .int) 2 := ⟨xT_of (List.mem_of_getElem? (i := 728) (by decide +kernel)) rfl, in_RX8, by decide +kernel, by decide +kernel, by decide +kernel⟩
theorem tg_X8_mostAlike : xtg yX8_mostAlike cX8_mostAlike 5 (some .int) 3 := ⟨xT_of (List.mem_of_getElem? (i := 731) (by decide +kernel)) rfl, in_RX8, by decide +kernel, by decide +kernel, by decide +kernel⟩
theorem tg_X8_countAlike : xtg yX8_countAlike cX8_countAlike 6 (some .int) 4 := ⟨xT_of (List.mem_of_getElem? (i := 734) (by decide +kernel)) rfl, in_RX8, by decide +kernel, by decide +kernel, by decide +kernel⟩
theorem tg_J9_max_7cf53 : xtg yJ9_max_7cf53 cJ9_max_7cf53 2 (some .int) 2 := ⟨xT_of (List.mem_of_getElem? (i := 737) (by decide +kernel)) rfl, in_RJ9, by decide +kernel, by decide +kernel, by decide +kernel⟩
theorem tg_X8_fare : xtg yX8_fare cX8_fare 2 (some .int) 1 := ⟨xT_of (List.mem_of_getElem? (i := 741) (by decide +kernel)) rfl, in_RX8, by decide +kernel, by decide +kernel, by decide +kernel⟩
theorem tg_X2_become : xtg yX2_become cX2_become 7 none 2 := ⟨xT_of (List.mem_of_getElem? (i := 745) (by decide +kernel)) rfl, in_RX2, by decide +kernel, by decide +kernel, by decide +kernel⟩
theorem tg_X2_commonDivisor : xtg yX2_commonDivisor cX2_commonDivisor 11 (some .long) 2 := ⟨xT_of (List.mem_of_getElem? (i := 748) (by decide +kernel)) rfl, in_RX2, by decide +kernel, by decide +kernel, by decide +kernel⟩
theorem tg_X8_two : xtg yX8_two cX8_two 4 (some .int) 3 := ⟨xT_of (List.mem_of_getElem? (i := 752) (by decide +kernel)) rfl, in_RX8, by decide +kernel, by decide +kernel, by decide +kernel⟩
theorem tg_X7_play : xtg yX7_play cX7_play 7 none 4 := ⟨xT_of (List.mem_of_getElem? (i := 756) (by decide +kernel)) rfl, in_RX7, by decide +kernel, by decide +kernel, by decide +kernel⟩
theorem tg_X7_countStops : xtg yX7_countStops cX7_countStops 9 none 5 := ⟨xT_of (List.mem_of_getElem? (i := 762) (by decide +kernel)) rfl, in_RX7, by decide +kernel, by decide +kernel, by decide +kernel⟩
theorem tg_X7_resting : xtg yX7_resting cX7_resting 4 (some .int) 0 := ⟨xT_of (List.mem_of_getElem? (i := 768) (by decide +kernel)) rfl, in_RX7, by decide +kernel, by decide +kernel, by decide +kernel⟩
theorem tg_X7_rests : xtg yX7_rests cX7_rests 4 (some .boolean) 2 := ⟨xT_of (List.mem_of_getElem? (i := 772) (by decide +kernel)) rfl, in_RX7, by decide +kernel, by decide +kernel, by decide +kernel⟩
theorem tg_X7_restingAt : xtg yX7_restingAt cX7_restingAt 5 (some .int) 1 := ⟨xT_of (List.mem_of_getElem? (i := 776) (by decide +kernel)) rfl, in_RX7, by decide +kernel, by decide +kernel, by decide +kernel⟩
theorem tg_X8_bell : xtg yX8_bell cX8_bell 3 (some .int) 1 := ⟨xT_of (List.mem_of_getElem? (i := 780) (by decide +kernel)) rfl, in_RX8, by decide +kernel, by decide +kernel, by decide +kernel⟩
theorem tg_J9_min_7cf53 : xtg yJ9_min_7cf53 cJ9_min_7cf53 2 (some .int) 2 := ⟨xT_of (List.mem_of_getElem? (i := 783) (by decide +kernel)) rfl, in_RJ9, by decide +kernel, by decide +kernel, by decide +kernel⟩
theorem tg_X8_days : xtg yX8_days cX8_days 3 (some .int) 2 := ⟨xT_of (List.mem_of_getElem? (i := 788) (by decide +kernel)) rfl, in_RX8, by decide +kernel, by decide +kernel, by decide +kernel⟩
theorem tg_X3_levyOfDays : xtg yX3_levyOfDays cX3_levyOfDays 9 (some .int) 3 := ⟨xT_of (List.mem_of_getElem? (i := 793) (by decide +kernel)) rfl, in_RX3, by decide +kernel, by decide +kernel, by decide +kernel⟩
theorem tg_X8_part : xtg yX8_part cX8_part 2 (some .long) 1 := ⟨xT_of (List.mem_of_getElem? (i := 801) (by decide +kernel)) rfl, in_RX8, by decide +kernel, by decide +kernel, by decide +kernel⟩
theorem tg_X8_image : xtg yX8_image cX8_image 2 (some .int) 1 := ⟨xT_of (List.mem_of_getElem? (i := 805) (by decide +kernel)) rfl, in_RX8, by decide +kernel, by decide +kernel, by decide +kernel⟩
theorem tg_X8_from : xtg yX8_from cX8_from 2 (some .int) 1 := ⟨xT_of (List.mem_of_getElem? (i := 809) (by decide +kernel)) rfl, in_RX8, by decide +kernel, by decide +kernel, by decide +kernel⟩
theorem tg_X8_status : xtg yX8_status cX8_status 2 (some .int) 1 := ⟨xT_of (List.mem_of_getElem? (i := 813) (by decide +kernel)) rfl, in_RX8, by decide +kernel, by decide +kernel, by decide +kernel⟩
theorem tg_X8_count : xtg yX8_count cX8_count 2 (some .int) 1 := ⟨xT_of (List.mem_of_getElem? (i := 817) (by decide +kernel)) rfl, in_RX8, by decide +kernel, by decide +kernel, by decide +kernel⟩
theorem tg_X0_countQuarrels : xtg yX0_countQuarrels cX0_countQuarrels 3 (some .int) 0 := ⟨xT_of (List.mem_of_getElem? (i := 821) (by decide +kernel)) rfl, in_RX0, by decide +kernel, by decide +kernel, by decide +kernel⟩
theorem tg_X0_countBridges : xtg yX0_countBridges cX0_countBridges 3 (some .int) 0 := ⟨xT_of (List.mem_of_getElem? (i := 825) (by decide +kernel)) rfl, in_RX0, by decide +kernel, by decide +kernel, by decide +kernel⟩
theorem tg_X8_digest : xtg yX8_digest cX8_digest 4 (some .long) 0 := ⟨xT_of (List.mem_of_getElem? (i := 829) (by decide +kernel)) rfl, in_RX8, by decide +kernel, by decide +kernel, by decide +kernel⟩
theorem tg_X0_mixTold : xtg yX0_mixTold cX0_mixTold 6 (some .long) 1 := ⟨xT_of (List.mem_of_getElem? (i := 837) (by decide +kernel)) rfl, in_RX0, by decide +kernel, by decide +kernel, by decide +kernel⟩
theorem tg_X9_init : xtg yX9_init cX9_init 1 none 0 := ⟨xT_of (List.mem_of_getElem? (i := 843) (by decide +kernel)) rfl, in_RX9, by decide +kernel, by decide +kernel, by decide +kernel⟩
theorem tg_X9_begin : xtg yX9_begin cX9_begin 3 none 2 := ⟨xT_of (List.mem_of_getElem? (i := 847) (by decide +kernel)) rfl, in_RX9, by decide +kernel, by decide +kernel, by decide +kernel⟩
theorem tg_X9_bus : xtg yX9_bus cX9_bus 3 (some .int) 1 := ⟨xT_of (List.mem_of_getElem? (i := 906) (by decide +kernel)) rfl, in_RX9, by decide +kernel, by decide +kernel, by decide +kernel⟩
theorem tg_X9_in : xtg yX9_in cX9_in 6 (some .boolean) 3 := ⟨xT_of (List.mem_of_getElem? (i := 910) (by decide +kernel)) rfl, in_RX9, by decide +kernel, by decide +kernel, by decide +kernel⟩
theorem tg_X9_bad : xtg yX9_bad cX9_bad 2 (some .int) 1 := ⟨xT_of (List.mem_of_getElem? (i := 914) (by decide +kernel)) rfl, in_RX9, by decide +kernel, by decide +kernel, by decide +kernel⟩
theorem tg_X9_many : xtg yX9_many cX9_many 1 (some .int) 0 := ⟨xT_of (List.mem_of_getElem? (i := 918) (by decide +kernel)) rfl, in_RX9, by decide +kernel, by decide +kernel, by decide +kernel⟩
theorem tg_X9_room : xtg yX9_room cX9_room 3 (some .int) 1 := ⟨xT_of (List.mem_of_getElem? (i := 922) (by decide +kernel)) rfl, in_RX9, by decide +kernel, by decide +kernel, by decide +kernel⟩
theorem tg_X9_bridge : xtg yX9_bridge cX9_bridge 4 (some .int) 2 := ⟨xT_of (List.mem_of_getElem? (i := 926) (by decide +kernel)) rfl, in_RX9, by decide +kernel, by decide +kernel, by decide +kernel⟩
theorem tg_X9_isStop : xtg yX9_isStop cX9_isStop 1 (some .boolean) 1 := ⟨xT_of (List.mem_of_getElem? (i := 929) (by decide +kernel)) rfl, in_RX9, by decide +kernel, by decide +kernel, by decide +kernel⟩
theorem tg_X9_idea : xtg yX9_idea cX9_idea 5 (some .int) 4 := ⟨xT_of (List.mem_of_getElem? (i := 934) (by decide +kernel)) rfl, in_RX9, by decide +kernel, by decide +kernel, by decide +kernel⟩
theorem tg_X9_full : xtg yX9_full cX9_full 1 (some .int) 0 := ⟨xT_of (List.mem_of_getElem? (i := 940) (by decide +kernel)) rfl, in_RX9, by decide +kernel, by decide +kernel, by decide +kernel⟩
theorem tg_X9_layIdea : xtg yX9_layIdea cX9_layIdea 6 none 5 := ⟨xT_of (List.mem_of_getElem? (i := 943) (by decide +kernel)) rfl, in_RX9, by decide +kernel, by decide +kernel, by decide +kernel⟩
theorem tg_X9_quarrel : xtg yX9_quarrel cX9_quarrel 5 (some .int) 3 := ⟨xT_of (List.mem_of_getElem? (i := 947) (by decide +kernel)) rfl, in_RX9, by decide +kernel, by decide +kernel, by decide +kernel⟩
theorem tg_X9_isIdea : xtg yX9_isIdea cX9_isIdea 2 (some .boolean) 1 := ⟨xT_of (List.mem_of_getElem? (i := 951) (by decide +kernel)) rfl, in_RX9, by decide +kernel, by decide +kernel, by decide +kernel⟩
theorem tg_X9_layFoes : xtg yX9_layFoes cX9_layFoes 4 none 4 := ⟨xT_of (List.mem_of_getElem? (i := 954) (by decide +kernel)) rfl, in_RX9, by decide +kernel, by decide +kernel, by decide +kernel⟩
theorem tg_X9_drive : xtg yX9_drive cX9_drive 4 (some .int) 1 := ⟨xT_of (List.mem_of_getElem? (i := 958) (by decide +kernel)) rfl, in_RX9, by decide +kernel, by decide +kernel, by decide +kernel⟩
theorem tg_X9_no : xtg yX9_no cX9_no 1 (some .int) 0 := ⟨xT_of (List.mem_of_getElem? (i := 963) (by decide +kernel)) rfl, in_RX9, by decide +kernel, by decide +kernel, by decide +kernel⟩
theorem tg_X9_keep : xtg yX9_keep cX9_keep 2 none 0 := ⟨xT_of (List.mem_of_getElem? (i := 967) (by decide +kernel)) rfl, in_RX9, by decide +kernel, by decide +kernel, by decide +kernel⟩
theorem tg_X9_layHand : xtg yX9_layHand cX9_layHand 2 none 0 := ⟨xT_of (List.mem_of_getElem? (i := 971) (by decide +kernel)) rfl, in_RX9, by decide +kernel, by decide +kernel, by decide +kernel⟩
theorem tg_X9_goTill : xtg yX9_goTill cX9_goTill 2 none 1 := ⟨xT_of (List.mem_of_getElem? (i := 975) (by decide +kernel)) rfl, in_RX9, by decide +kernel, by decide +kernel, by decide +kernel⟩
theorem tg_X9_goStop : xtg yX9_goStop cX9_goStop 4 none 0 := ⟨xT_of (List.mem_of_getElem? (i := 979) (by decide +kernel)) rfl, in_RX9, by decide +kernel, by decide +kernel, by decide +kernel⟩
theorem tg_X9_bits : xtg yX9_bits cX9_bits 3 (some .int) 1 := ⟨xT_of (List.mem_of_getElem? (i := 982) (by decide +kernel)) rfl, in_RX9, by decide +kernel, by decide +kernel, by decide +kernel⟩
theorem tg_X9_has : xtg yX9_has cX9_has 2 (some .boolean) 2 := ⟨xT_of (List.mem_of_getElem? (i := 985) (by decide +kernel)) rfl, in_RX9, by decide +kernel, by decide +kernel, by decide +kernel⟩
theorem tg_X9_tallAs : xtg yX9_tallAs cX9_tallAs 2 (some .int) 2 := ⟨xT_of (List.mem_of_getElem? (i := 988) (by decide +kernel)) rfl, in_RX9, by decide +kernel, by decide +kernel, by decide +kernel⟩
theorem tg_X9_swayOfAll : xtg yX9_swayOfAll cX9_swayOfAll 5 (some .int) 2 := ⟨xT_of (List.mem_of_getElem? (i := 992) (by decide +kernel)) rfl, in_RX9, by decide +kernel, by decide +kernel, by decide +kernel⟩
theorem tg_X9_swayOf : xtg yX9_swayOf cX9_swayOf 3 (some .int) 2 := ⟨xT_of (List.mem_of_getElem? (i := 996) (by decide +kernel)) rfl, in_RX9, by decide +kernel, by decide +kernel, by decide +kernel⟩
theorem tg_X9_swayAs : xtg yX9_swayAs cX9_swayAs 4 (some .int) 3 := ⟨xT_of (List.mem_of_getElem? (i := 999) (by decide +kernel)) rfl, in_RX9, by decide +kernel, by decide +kernel, by decide +kernel⟩
theorem tg_X9_puts : xtg yX9_puts cX9_puts 2 (some .int) 1 := ⟨xT_of (List.mem_of_getElem? (i := 1003) (by decide +kernel)) rfl, in_RX9, by decide +kernel, by decide +kernel, by decide +kernel⟩
theorem tg_X9_undo : xtg yX9_undo cX9_undo 2 (some .int) 0 := ⟨xT_of (List.mem_of_getElem? (i := 1007) (by decide +kernel)) rfl, in_RX9, by decide +kernel, by decide +kernel, by decide +kernel⟩
theorem tg_X9_of : xtg yX9_of cX9_of 3 (some .int) 2 := ⟨xT_of (List.mem_of_getElem? (i := 1011) (by decide +kernel)) rfl, in_RX9, by decide +kernel, by decide +kernel, by decide +kernel⟩
theorem tg_X9_sways : xtg yX9_sways cX9_sways 4 (some .int) 3 := ⟨xT_of (List.mem_of_getElem? (i := 1015) (by decide +kernel)) rfl, in_RX9, by decide +kernel, by decide +kernel, by decide +kernel⟩
theorem tg_X9_now : xtg yX9_now cX9_now 2 (some .int) 1 := ⟨xT_of (List.mem_of_getElem? (i := 1019) (by decide +kernel)) rfl, in_RX9, by decide +kernel, by decide +kernel, by decide +kernel⟩
theorem tg_X9_then : xtg yX9_then cX9_then 3 (some .int) 2 := ⟨xT_of (List.mem_of_getElem? (i := 1024) (by decide +kernel)) rfl, in_RX9, by decide +kernel, by decide +kernel, by decide +kernel⟩
theorem tg_X9_end : xtg yX9_end cX9_end 2 (some .int) 1 := ⟨xT_of (List.mem_of_getElem? (i := 1029) (by decide +kernel)) rfl, in_RX9, by decide +kernel, by decide +kernel, by decide +kernel⟩
theorem tg_X9_decks : xtg yX9_decks cX9_decks 3 (some .int) 1 := ⟨xT_of (List.mem_of_getElem? (i := 1033) (by decide +kernel)) rfl, in_RX9, by decide +kernel, by decide +kernel, by decide +kernel⟩
theorem tg_X9_fewestDecks : xtg yX9_fewestDecks cX9_fewestDecks 4 (some .int) 0 := ⟨xT_of (List.mem_of_getElem? (i := 1038) (by decide +kernel)) rfl, in_RX9, by decide +kernel, by decide +kernel, by decide +kernel⟩
theorem tg_X9_layDecks : xtg yX9_layDecks cX9_layDecks 7 (some .boolean) 2 := ⟨xT_of (List.mem_of_getElem? (i := 1042) (by decide +kernel)) rfl, in_RX9, by decide +kernel, by decide +kernel, by decide +kernel⟩
theorem tg_X9_better : xtg yX9_better cX9_better 5 (some .int) 0 := ⟨xT_of (List.mem_of_getElem? (i := 1046) (by decide +kernel)) rfl, in_RX9, by decide +kernel, by decide +kernel, by decide +kernel⟩
theorem tg_X9_layStart : xtg yX9_layStart cX9_layStart 1 none 0 := ⟨xT_of (List.mem_of_getElem? (i := 1050) (by decide +kernel)) rfl, in_RX9, by decide +kernel, by decide +kernel, by decide +kernel⟩
theorem tg_X9_manyLost : xtg yX9_manyLost cX9_manyLost 1 (some .int) 0 := ⟨xT_of (List.mem_of_getElem? (i := 1054) (by decide +kernel)) rfl, in_RX9, by decide +kernel, by decide +kernel, by decide +kernel⟩
theorem tg_X9_raise : xtg yX9_raise cX9_raise 3 (some .int) 0 := ⟨xT_of (List.mem_of_getElem? (i := 1058) (by decide +kernel)) rfl, in_RX9, by decide +kernel, by decide +kernel, by decide +kernel⟩
theorem tg_X9_upstairs : xtg yX9_upstairs cX9_upstairs 10 (some .int) 3 := ⟨xT_of (List.mem_of_getElem? (i := 1062) (by decide +kernel)) rfl, in_RX9, by decide +kernel, by decide +kernel, by decide +kernel⟩
theorem tg_X9_note : xtg yX9_note cX9_note 6 (some .int) 4 := ⟨xT_of (List.mem_of_getElem? (i := 1067) (by decide +kernel)) rfl, in_RX9, by decide +kernel, by decide +kernel, by decide +kernel⟩
theorem tg_X9_forget : xtg yX9_forget cX9_forget 2 (some .int) 0 := ⟨xT_of (List.mem_of_getElem? (i := 1072) (by decide +kernel)) rfl, in_RX9, by decide +kernel, by decide +kernel, by decide +kernel⟩
theorem tg_X9_is : xtg yX9_is cX9_is 2 (some .int) 1 := ⟨xT_of (List.mem_of_getElem? (i := 1076) (by decide +kernel)) rfl, in_RX9, by decide +kernel, by decide +kernel, by decide +kernel⟩
theorem tg_X9_kindsOf : xtg yX9_kindsOf cX9_kindsOf 9 (some .int) 1 := ⟨xT_of (List.mem_of_getElem? (i := 1080) (by decide +kernel)) rfl, in_RX9, by decide +kernel, by decide +kernel, by decide +kernel⟩
theorem tg_X9_look : xtg yX9_look cX9_look 10 (some .int) 1 := ⟨xT_of (List.mem_of_getElem? (i := 1084) (by decide +kernel)) rfl, in_RX9, by decide +kernel, by decide +kernel, by decide +kernel⟩
theorem tg_X9_areAlike : xtg yX9_areAlike cX9_areAlike 4 (some .boolean) 4 := ⟨xT_of (List.mem_of_getElem? (i := 1088) (by decide +kernel)) rfl, in_RX9, by decide +kernel, by decide +kernel, by decide +kernel⟩
theorem tg_X9_fare : xtg yX9_fare cX9_fare 2 (some .int) 1 := ⟨xT_of (List.mem_of_getElem? (i := 1092) (by decide +kernel)) rfl, in_RX9, by decide +kernel, by decide +kernel, by decide +kernel⟩
theorem tg_X9_fraction : xtg yX9_fraction cX9_fraction 11 none 2 := ⟨xT_of (List.mem_of_getElem? (i := 1097) (by decide +kernel)) rfl, in_RX9, by decide +kernel, by decide +kernel, by decide +kernel⟩
theorem tg_X9_two : xtg yX9_two cX9_two 7 (some .int) 3 := ⟨xT_of (List.mem_of_getElem? (i := 1101) (by decide +kernel)) rfl, in_RX9, by decide +kernel, by decide +kernel, by decide +kernel⟩
theorem tg_X9_isPair : xtg yX9_isPair cX9_isPair 4 (some .boolean) 3 := ⟨xT_of (List.mem_of_getElem? (i := 1105) (by decide +kernel)) rfl, in_RX9, by decide +kernel, by decide +kernel, by decide +kernel⟩
theorem tg_X9_layPair : xtg yX9_layPair cX9_layPair 4 none 3 := ⟨xT_of (List.mem_of_getElem? (i := 1109) (by decide +kernel)) rfl, in_RX9, by decide +kernel, by decide +kernel, by decide +kernel⟩
theorem tg_X9_rests : xtg yX9_rests cX9_rests 6 (some .boolean) 3 := ⟨xT_of (List.mem_of_getElem? (i := 1113) (by decide +kernel)) rfl, in_RX9, by decide +kernel, by decide +kernel, by decide +kernel⟩
theorem tg_X9_bell : xtg yX9_bell cX9_bell 3 (some .int) 1 := ⟨xT_of (List.mem_of_getElem? (i := 1117) (by decide +kernel)) rfl, in_RX9, by decide +kernel, by decide +kernel, by decide +kernel⟩
theorem tg_X9_days : xtg yX9_days cX9_days 8 (some .int) 2 := ⟨xT_of (List.mem_of_getElem? (i := 1121) (by decide +kernel)) rfl, in_RX9, by decide +kernel, by decide +kernel, by decide +kernel⟩
theorem tg_X9_type : xtg yX9_type cX9_type 2 (some .int) 1 := ⟨xT_of (List.mem_of_getElem? (i := 1130) (by decide +kernel)) rfl, in_RX9, by decide +kernel, by decide +kernel, by decide +kernel⟩
theorem tg_X9_clear : xtg yX9_clear cX9_clear 2 (some .int) 0 := ⟨xT_of (List.mem_of_getElem? (i := 1135) (by decide +kernel)) rfl, in_RX9, by decide +kernel, by decide +kernel, by decide +kernel⟩
theorem tg_X9_read : xtg yX9_read cX9_read 3 (some .int) 0 := ⟨xT_of (List.mem_of_getElem? (i := 1139) (by decide +kernel)) rfl, in_RX9, by decide +kernel, by decide +kernel, by decide +kernel⟩
theorem tg_X9_lookAt : xtg yX9_lookAt cX9_lookAt 5 none 1 := ⟨xT_of (List.mem_of_getElem? (i := 1143) (by decide +kernel)) rfl, in_RX9, by decide +kernel, by decide +kernel, by decide +kernel⟩
theorem tg_X9_isSmall : xtg yX9_isSmall cX9_isSmall 1 (some .boolean) 1 := ⟨xT_of (List.mem_of_getElem? (i := 1146) (by decide +kernel)) rfl, in_RX9, by decide +kernel, by decide +kernel, by decide +kernel⟩
theorem tg_X9_isFigure : xtg yX9_isFigure cX9_isFigure 1 (some .boolean) 1 := ⟨xT_of (List.mem_of_getElem? (i := 1151) (by decide +kernel)) rfl, in_RX9, by decide +kernel, by decide +kernel, by decide +kernel⟩
theorem tg_X9_takesBus : xtg yX9_takesBus cX9_takesBus 1 (some .boolean) 0 := ⟨xT_of (List.mem_of_getElem? (i := 1157) (by decide +kernel)) rfl, in_RX9, by decide +kernel, by decide +kernel, by decide +kernel⟩
theorem tg_X9_spells : xtg yX9_spells cX9_spells 10 (some .boolean) 7 := ⟨xT_of (List.mem_of_getElem? (i := 1161) (by decide +kernel)) rfl, in_RX9, by decide +kernel, by decide +kernel, by decide +kernel⟩
theorem tg_X9_goBehind : xtg yX9_goBehind cX9_goBehind 1 none 0 := ⟨xT_of (List.mem_of_getElem? (i := 1165) (by decide +kernel)) rfl, in_RX9, by decide +kernel, by decide +kernel, by decide +kernel⟩
theorem tg_X9_takes : xtg yX9_takes cX9_takes 4 (some .boolean) 3 := ⟨xT_of (List.mem_of_getElem? (i := 1169) (by decide +kernel)) rfl, in_RX9, by decide +kernel, by decide +kernel, by decide +kernel⟩
theorem tg_X9_takesItem : xtg yX9_takesItem cX9_takesItem 1 (some .boolean) 0 := ⟨xT_of (List.mem_of_getElem? (i := 1173) (by decide +kernel)) rfl, in_RX9, by decide +kernel, by decide +kernel, by decide +kernel⟩
theorem tg_X9_takesBridge : xtg yX9_takesBridge cX9_takesBridge 1 (some .boolean) 0 := ⟨xT_of (List.mem_of_getElem? (i := 1177) (by decide +kernel)) rfl, in_RX9, by decide +kernel, by decide +kernel, by decide +kernel⟩
theorem tg_X9_takesIdea : xtg yX9_takesIdea cX9_takesIdea 1 (some .boolean) 0 := ⟨xT_of (List.mem_of_getElem? (i := 1181) (by decide +kernel)) rfl, in_RX9, by decide +kernel, by decide +kernel, by decide +kernel⟩
theorem tg_X9_isQuarrel : xtg yX9_isQuarrel cX9_isQuarrel 3 (some .boolean) 0 := ⟨xT_of (List.mem_of_getElem? (i := 1185) (by decide +kernel)) rfl, in_RX9, by decide +kernel, by decide +kernel, by decide +kernel⟩
theorem tg_X9_takesQuarrel : xtg yX9_takesQuarrel cX9_takesQuarrel 1 (some .boolean) 0 := ⟨xT_of (List.mem_of_getElem? (i := 1189) (by decide +kernel)) rfl, in_RX9, by decide +kernel, by decide +kernel, by decide +kernel⟩
theorem tg_X9_part : xtg yX9_part cX9_part 2 (some .long) 1 := ⟨xT_of (List.mem_of_getElem? (i := 1193) (by decide +kernel)) rfl, in_RX9, by decide +kernel, by decide +kernel, by decide +kernel⟩
theorem tg_X9_image : xtg yX9_image cX9_image 3 (some .int) 1 := ⟨xT_of (List.mem_of_getElem? (i := 1197) (by decide +kernel)) rfl, in_RX9, by decide +kernel, by decide +kernel, by decide +kernel⟩
theorem tg_X9_from : xtg yX9_from cX9_from 3 (some .int) 1 := ⟨xT_of (List.mem_of_getElem? (i := 1201) (by decide +kernel)) rfl, in_RX9, by decide +kernel, by decide +kernel, by decide +kernel⟩
theorem tg_X9_status : xtg yX9_status cX9_status 2 (some .int) 1 := ⟨xT_of (List.mem_of_getElem? (i := 1205) (by decide +kernel)) rfl, in_RX9, by decide +kernel, by decide +kernel, by decide +kernel⟩
theorem tg_X9_count : xtg yX9_count cX9_count 2 (some .int) 1 := ⟨xT_of (List.mem_of_getElem? (i := 1209) (by decide +kernel)) rfl, in_RX9, by decide +kernel, by decide +kernel, by decide +kernel⟩
theorem tg_X9_counted : xtg yX9_counted cX9_counted 2 (some .int) 1 := ⟨xT_of (List.mem_of_getElem? (i := 1214) (by decide +kernel)) rfl, in_RX9, by decide +kernel, by decide +kernel, by decide +kernel⟩
theorem tg_X9_manyQuarrels : xtg yX9_manyQuarrels cX9_manyQuarrels 3 (some .int) 0 := ⟨xT_of (List.mem_of_getElem? (i := 1218) (by decide +kernel)) rfl, in_RX9, by decide +kernel, by decide +kernel, by decide +kernel⟩
theorem tg_X9_manyBridges : xtg yX9_manyBridges cX9_manyBridges 3 (some .int) 0 := ⟨xT_of (List.mem_of_getElem? (i := 1222) (by decide +kernel)) rfl, in_RX9, by decide +kernel, by decide +kernel, by decide +kernel⟩
theorem tg_X9_digest : xtg yX9_digest cX9_digest 4 (some .long) 0 := ⟨xT_of (List.mem_of_getElem? (i := 1226) (by decide +kernel)) rfl, in_RX9, by decide +kernel, by decide +kernel, by decide +kernel⟩
theorem tg_X9_sums : xtg yX9_sums cX9_sums 8 (some .long) 3 := ⟨xT_of (List.mem_of_getElem? (i := 1232) (by decide +kernel)) rfl, in_RX9, by decide +kernel, by decide +kernel, by decide +kernel⟩
theorem st_X8_bestLook : Cond.static yX8_bestLook ∈ xT := xT_of (List.mem_of_getElem? (i := 727) (by decide +kernel)) rfl
theorem st_X9_bits : Cond.static yX9_bits ∈ xT := xT_of (List.mem_of_getElem? (i := 981) (by decide +kernel)) rfl
theorem st_X9_has : Cond.static yX9_has ∈ xT := xT_of (List.mem_of_getElem? (i := 984) (by decide +kernel)) rfl
theorem st_X8_economyTall : Cond.static yX8_economyTall ∈ xT := xT_of (List.mem_of_getElem? (i := 556) (by decide +kernel)) rfl
theorem st_X8_swayOf : Cond.static yX8_swayOf ∈ xT := xT_of (List.mem_of_getElem? (i := 566) (by decide +kernel)) rfl
theorem st_J9_max_7cf53 : Cond.static yJ9_max_7cf53 ∈ xT := xT_of (List.mem_of_getElem? (i := 736) (by decide +kernel)) rfl
theorem st_X8_plainSway : Cond.static yX8_plainSway ∈ xT := xT_of (List.mem_of_getElem? (i := 569) (by decide +kernel)) rfl
theorem st_J2_getChar_3b067 : Cond.static yJ2_getChar_3b067 ∈ xT := xT_of (List.mem_of_getElem? (i := 461) (by decide +kernel)) rfl
theorem st_J2_checkIndex_2214a : Cond.static yJ2_checkIndex_2214a ∈ xT := xT_of (List.mem_of_getElem? (i := 454) (by decide +kernel)) rfl
theorem st_J6_bitCount_0f7a4 : Cond.static yJ6_bitCount_0f7a4 ∈ xT := xT_of (List.mem_of_getElem? (i := 539) (by decide +kernel)) rfl
theorem st_X9_begin : Cond.static yX9_begin ∈ xT := xT_of (List.mem_of_getElem? (i := 846) (by decide +kernel)) rfl
theorem st_X4_isLetter : Cond.static yX4_isLetter ∈ xT := xT_of (List.mem_of_getElem? (i := 398) (by decide +kernel)) rfl
theorem st_X9_in : Cond.static yX9_in ∈ xT := xT_of (List.mem_of_getElem? (i := 909) (by decide +kernel)) rfl
theorem st_X8_mostAlike : Cond.static yX8_mostAlike ∈ xT := xT_of (List.mem_of_getElem? (i := 730) (by decide +kernel)) rfl
theorem st_X9_isSmall : Cond.static yX9_isSmall ∈ xT := xT_of (List.mem_of_getElem? (i := 1145) (by decide +kernel)) rfl
theorem st_X8_within : Cond.static yX8_within ∈ xT := xT_of (List.mem_of_getElem? (i := 309) (by decide +kernel)) rfl
theorem st_J2_length_9d52b : Cond.static yJ2_length_9d52b ∈ xT := xT_of (List.mem_of_getElem? (i := 457) (by decide +kernel)) rfl
theorem st_X9_tallAs : Cond.static yX9_tallAs ∈ xT := xT_of (List.mem_of_getElem? (i := 987) (by decide +kernel)) rfl
theorem st_X1_canPlace : Cond.static yX1_canPlace ∈ xT := xT_of (List.mem_of_getElem? (i := 643) (by decide +kernel)) rfl
theorem st_X8_economySway : Cond.static yX8_economySway ∈ xT := xT_of (List.mem_of_getElem? (i := 572) (by decide +kernel)) rfl
theorem st_J3_checkIndex_8e157 : Cond.static yJ3_checkIndex_8e157 ∈ xT := xT_of (List.mem_of_getElem? (i := 448) (by decide +kernel)) rfl
theorem st_J0_checkIndex_df160 : Cond.static yJ0_checkIndex_df160 ∈ xT := xT_of (List.mem_of_getElem? (i := 443) (by decide +kernel)) rfl
theorem st_X9_swayAs : Cond.static yX9_swayAs ∈ xT := xT_of (List.mem_of_getElem? (i := 998) (by decide +kernel)) rfl
theorem st_X8_countAlike : Cond.static yX8_countAlike ∈ xT := xT_of (List.mem_of_getElem? (i := 733) (by decide +kernel)) rfl
theorem st_X9_isFigure : Cond.static yX9_isFigure ∈ xT := xT_of (List.mem_of_getElem? (i := 1150) (by decide +kernel)) rfl
theorem st_X2_commonDivisor : Cond.static yX2_commonDivisor ∈ xT := xT_of (List.mem_of_getElem? (i := 747) (by decide +kernel)) rfl
theorem st_X4_isFigure : Cond.static yX4_isFigure ∈ xT := xT_of (List.mem_of_getElem? (i := 406) (by decide +kernel)) rfl
theorem st_J2_charAt_3b067 : Cond.static yJ2_charAt_3b067 ∈ xT := xT_of (List.mem_of_getElem? (i := 451) (by decide +kernel)) rfl
theorem st_X9_layFoes : Cond.static yX9_layFoes ∈ xT := xT_of (List.mem_of_getElem? (i := 953) (by decide +kernel)) rfl
theorem st_X1_isCalm : Cond.static yX1_isCalm ∈ xT := xT_of (List.mem_of_getElem? (i := 646) (by decide +kernel)) rfl
theorem st_X9_areAlike : Cond.static yX9_areAlike ∈ xT := xT_of (List.mem_of_getElem? (i := 1087) (by decide +kernel)) rfl
theorem st_X8_tallOf : Cond.static yX8_tallOf ∈ xT := xT_of (List.mem_of_getElem? (i := 550) (by decide +kernel)) rfl
theorem st_copy : Cond.static arraycopyName ∈ xT := xT_of (List.mem_of_getElem? (i := 507) (by decide +kernel)) rfl
theorem st_X9_isStop : Cond.static yX9_isStop ∈ xT := xT_of (List.mem_of_getElem? (i := 928) (by decide +kernel)) rfl
theorem st_X9_layIdea : Cond.static yX9_layIdea ∈ xT := xT_of (List.mem_of_getElem? (i := 942) (by decide +kernel)) rfl
theorem st_J9_min_7cf53 : Cond.static yJ9_min_7cf53 ∈ xT := xT_of (List.mem_of_getElem? (i := 782) (by decide +kernel)) rfl
theorem st_X6_canBe : Cond.static yX6_canBe ∈ xT := xT_of (List.mem_of_getElem? (i := 690) (by decide +kernel)) rfl
theorem st_X8_bit : Cond.static yX8_bit ∈ xT := xT_of (List.mem_of_getElem? (i := 357) (by decide +kernel)) rfl
theorem st_X8_doubtTall : Cond.static yX8_doubtTall ∈ xT := xT_of (List.mem_of_getElem? (i := 559) (by decide +kernel)) rfl
theorem st_X8_plainTall : Cond.static yX8_plainTall ∈ xT := xT_of (List.mem_of_getElem? (i := 553) (by decide +kernel)) rfl
theorem st_J1_charAt_3b067 : Cond.static yJ1_charAt_3b067 ∈ xT := xT_of (List.mem_of_getElem? (i := 440) (by decide +kernel)) rfl
theorem im_X9_swayOf : Cond.instanceMethod yX9_swayOf ∈ xT := xT_of (List.mem_of_getElem? (i := 995) (by decide +kernel)) rfl
theorem im_X8_refuseOtherBad : Cond.instanceMethod yX8_refuseOtherBad ∈ xT := xT_of (List.mem_of_getElem? (i := 636) (by decide +kernel)) rfl
theorem im_X9_part : Cond.instanceMethod yX9_part ∈ xT := xT_of (List.mem_of_getElem? (i := 1191) (by decide +kernel)) rfl
theorem im_X9_no : Cond.instanceMethod yX9_no ∈ xT := xT_of (List.mem_of_getElem? (i := 962) (by decide +kernel)) rfl
theorem im_X0_setQuarrel : Cond.instanceMethod yX0_setQuarrel ∈ xT := xT_of (List.mem_of_getElem? (i := 360) (by decide +kernel)) rfl
theorem im_X8_from : Cond.instanceMethod yX8_from ∈ xT := xT_of (List.mem_of_getElem? (i := 807) (by decide +kernel)) rfl
theorem im_X4_endOfBlanks : Cond.instanceMethod yX4_endOfBlanks ∈ xT := xT_of (List.mem_of_getElem? (i := 391) (by decide +kernel)) rfl
theorem im_X4_readMark : Cond.instanceMethod yX4_readMark ∈ xT := xT_of (List.mem_of_getElem? (i := 479) (by decide +kernel)) rfl
theorem im_X8_days : Cond.instanceMethod yX8_days ∈ xT := xT_of (List.mem_of_getElem? (i := 786) (by decide +kernel)) rfl
theorem im_X9_takesBridge : Cond.instanceMethod yX9_takesBridge ∈ xT := xT_of (List.mem_of_getElem? (i := 1176) (by decide +kernel)) rfl
theorem im_J0_charAt_5068e : Cond.instanceMethod yJ0_charAt_5068e ∈ xT := xT_of (List.mem_of_getElem? (i := 432) (by decide +kernel)) rfl
theorem im_X8_refuseFull : Cond.instanceMethod yX8_refuseFull ∈ xT := xT_of (List.mem_of_getElem? (i := 337) (by decide +kernel)) rfl
theorem im_X9_sways : Cond.instanceMethod yX9_sways ∈ xT := xT_of (List.mem_of_getElem? (i := 1013) (by decide +kernel)) rfl
theorem im_X7_play : Cond.instanceMethod yX7_play ∈ xT := xT_of (List.mem_of_getElem? (i := 754) (by decide +kernel)) rfl
theorem im_X8_image : Cond.instanceMethod yX8_image ∈ xT := xT_of (List.mem_of_getElem? (i := 803) (by decide +kernel)) rfl
theorem im_X9_undo : Cond.instanceMethod yX9_undo ∈ xT := xT_of (List.mem_of_getElem? (i := 1005) (by decide +kernel)) rfl
theorem im_X8_refuseNo : Cond.instanceMethod yX8_refuseNo ∈ xT := xT_of (List.mem_of_getElem? (i := 520) (by decide +kernel)) rfl
theorem im_X8_now : Cond.instanceMethod yX8_now ∈ xT := xT_of (List.mem_of_getElem? (i := 599) (by decide +kernel)) rfl
theorem im_X8_idea : Cond.instanceMethod yX8_idea ∈ xT := xT_of (List.mem_of_getElem? (i := 332) (by decide +kernel)) rfl
theorem im_X4_readBus : Cond.instanceMethod yX4_readBus ∈ xT := xT_of (List.mem_of_getElem? (i := 381) (by decide +kernel)) rfl
theorem im_X9_puts : Cond.instanceMethod yX9_puts ∈ xT := xT_of (List.mem_of_getElem? (i := 1001) (by decide +kernel)) rfl
theorem im_X3_boardAsTold : Cond.instanceMethod yX3_boardAsTold ∈ xT := xT_of (List.mem_of_getElem? (i := 613) (by decide +kernel)) rfl
theorem im_X4_endOfLetters : Cond.instanceMethod yX4_endOfLetters ∈ xT := xT_of (List.mem_of_getElem? (i := 403) (by decide +kernel)) rfl
theorem im_X9_fraction : Cond.instanceMethod yX9_fraction ∈ xT := xT_of (List.mem_of_getElem? (i := 1096) (by decide +kernel)) rfl
theorem im_X8_look : Cond.instanceMethod yX8_look ∈ xT := xT_of (List.mem_of_getElem? (i := 723) (by decide +kernel)) rfl
theorem im_X0_startAnew : Cond.instanceMethod yX0_startAnew ∈ xT := xT_of (List.mem_of_getElem? (i := 316) (by decide +kernel)) rfl
theorem im_X8_forget : Cond.instanceMethod yX8_forget ∈ xT := xT_of (List.mem_of_getElem? (i := 707) (by decide +kernel)) rfl
theorem im_X1_init : Cond.instanceMethod yX1_init ∈ xT := xT_of (List.mem_of_getElem? (i := 169) (by decide +kernel)) rfl
theorem im_X0_scrape : Cond.instanceMethod yX0_scrape ∈ xT := xT_of (List.mem_of_getElem? (i := 546) (by decide +kernel)) rfl
theorem im_X3_missing : Cond.instanceMethod yX3_missing ∈ xT := xT_of (List.mem_of_getElem? (i := 665) (by decide +kernel)) rfl
theorem im_X0_quarrelsIn : Cond.instanceMethod yX0_quarrelsIn ∈ xT := xT_of (List.mem_of_getElem? (i := 695) (by decide +kernel)) rfl
theorem im_X9_two : Cond.instanceMethod yX9_two ∈ xT := xT_of (List.mem_of_getElem? (i := 1099) (by decide +kernel)) rfl
theorem im_X9_keep : Cond.instanceMethod yX9_keep ∈ xT := xT_of (List.mem_of_getElem? (i := 966) (by decide +kernel)) rfl
theorem im_X8_two : Cond.instanceMethod yX8_two ∈ xT := xT_of (List.mem_of_getElem? (i := 750) (by decide +kernel)) rfl
theorem im_X9_bell : Cond.instanceMethod yX9_bell ∈ xT := xT_of (List.mem_of_getElem? (i := 1115) (by decide +kernel)) rfl
theorem im_X9_raise : Cond.instanceMethod yX9_raise ∈ xT := xT_of (List.mem_of_getElem? (i := 1056) (by decide +kernel)) rfl
theorem im_X7_countStops : Cond.instanceMethod yX7_countStops ∈ xT := xT_of (List.mem_of_getElem? (i := 761) (by decide +kernel)) rfl
theorem im_X9_manyQuarrels : Cond.instanceMethod yX9_manyQuarrels ∈ xT := xT_of (List.mem_of_getElem? (i := 1217) (by decide +kernel)) rfl
theorem im_X0_init : Cond.instanceMethod yX0_init ∈ xT := xT_of (List.mem_of_getElem? (i := 29) (by decide +kernel)) rfl
theorem im_X8_bus : Cond.instanceMethod yX8_bus ∈ xT := xT_of (List.mem_of_getElem? (i := 305) (by decide +kernel)) rfl
theorem im_X4_readBridge : Cond.instanceMethod yX4_readBridge ∈ xT := xT_of (List.mem_of_getElem? (i := 488) (by decide +kernel)) rfl
theorem im_X9_type : Cond.instanceMethod yX9_type ∈ xT := xT_of (List.mem_of_getElem? (i := 1128) (by decide +kernel)) rfl
theorem im_X9_many : Cond.instanceMethod yX9_many ∈ xT := xT_of (List.mem_of_getElem? (i := 917) (by decide +kernel)) rfl
theorem im_X9_manyBridges : Cond.instanceMethod yX9_manyBridges ∈ xT := xT_of (List.mem_of_getElem? (i := 1221) (by decide +kernel)) rfl
theorem im_X4_addByte : Cond.instanceMethod yX4_addByte ∈ xT := xT_of (List.mem_of_getElem? (i := 369) (by decide +kernel)) rfl
theorem im_X9_takesQuarrel : Cond.instanceMethod yX9_takesQuarrel ∈ xT := xT_of (List.mem_of_getElem? (i := 1188) (by decide +kernel)) rfl
theorem im_X8_status : Cond.instanceMethod yX8_status ∈ xT := xT_of (List.mem_of_getElem? (i := 811) (by decide +kernel)) rfl
theorem im_obj : Cond.instanceMethod objectInit ∈ xT := xT_of (List.mem_of_getElem? (i := 24) (by decide +kernel)) rfl
theorem im_X2_become : Cond.instanceMethod yX2_become ∈ xT := xT_of (List.mem_of_getElem? (i := 743) (by decide +kernel)) rfl
theorem im_X3_passOne : Cond.instanceMethod yX3_passOne ∈ xT := xT_of (List.mem_of_getElem? (i := 621) (by decide +kernel)) rfl
theorem im_X9_forget : Cond.instanceMethod yX9_forget ∈ xT := xT_of (List.mem_of_getElem? (i := 1070) (by decide +kernel)) rfl
theorem im_X8_refuseBad : Cond.instanceMethod yX8_refuseBad ∈ xT := xT_of (List.mem_of_getElem? (i := 313) (by decide +kernel)) rfl
theorem im_X8_drive : Cond.instanceMethod yX8_drive ∈ xT := xT_of (List.mem_of_getElem? (i := 515) (by decide +kernel)) rfl
theorem im_X4_readNumber : Cond.instanceMethod yX4_readNumber ∈ xT := xT_of (List.mem_of_getElem? (i := 475) (by decide +kernel)) rfl
theorem im_X9_isPair : Cond.instanceMethod yX9_isPair ∈ xT := xT_of (List.mem_of_getElem? (i := 1104) (by decide +kernel)) rfl
theorem im_X9_quarrel : Cond.instanceMethod yX9_quarrel ∈ xT := xT_of (List.mem_of_getElem? (i := 945) (by decide +kernel)) rfl
theorem im_X8_upstairs : Cond.instanceMethod yX8_upstairs ∈ xT := xT_of (List.mem_of_getElem? (i := 682) (by decide +kernel)) rfl
theorem im_X8_is : Cond.instanceMethod yX8_is ∈ xT := xT_of (List.mem_of_getElem? (i := 711) (by decide +kernel)) rfl
theorem im_X0_remember : Cond.instanceMethod yX0_remember ∈ xT := xT_of (List.mem_of_getElem? (i := 523) (by decide +kernel)) rfl
theorem im_X9_sums : Cond.instanceMethod yX9_sums ∈ xT := xT_of (List.mem_of_getElem? (i := 1231) (by decide +kernel)) rfl
theorem im_X9_count : Cond.instanceMethod yX9_count ∈ xT := xT_of (List.mem_of_getElem? (i := 1207) (by decide +kernel)) rfl
theorem im_X9_fewestDecks : Cond.instanceMethod yX9_fewestDecks ∈ xT := xT_of (List.mem_of_getElem? (i := 1037) (by decide +kernel)) rfl
theorem im_X5_startAnew : Cond.instanceMethod yX5_startAnew ∈ xT := xT_of (List.mem_of_getElem? (i := 320) (by decide +kernel)) rfl
theorem im_X9_drive : Cond.instanceMethod yX9_drive ∈ xT := xT_of (List.mem_of_getElem? (i := 956) (by decide +kernel)) rfl
theorem im_X4_readItem : Cond.instanceMethod yX4_readItem ∈ xT := xT_of (List.mem_of_getElem? (i := 483) (by decide +kernel)) rfl
theorem im_X5_take : Cond.instanceMethod yX5_take ∈ xT := xT_of (List.mem_of_getElem? (i := 510) (by decide +kernel)) rfl
theorem im_X9_kindsOf : Cond.instanceMethod yX9_kindsOf ∈ xT := xT_of (List.mem_of_getElem? (i := 1079) (by decide +kernel)) rfl
theorem im_X3_passThrough : Cond.instanceMethod yX3_passThrough ∈ xT := xT_of (List.mem_of_getElem? (i := 617) (by decide +kernel)) rfl
theorem im_X8_fare : Cond.instanceMethod yX8_fare ∈ xT := xT_of (List.mem_of_getElem? (i := 739) (by decide +kernel)) rfl
theorem im_X9_decks : Cond.instanceMethod yX9_decks ∈ xT := xT_of (List.mem_of_getElem? (i := 1031) (by decide +kernel)) rfl
theorem im_X4_valueOfFigures : Cond.instanceMethod yX4_valueOfFigures ∈ xT := xT_of (List.mem_of_getElem? (i := 414) (by decide +kernel)) rfl
theorem im_J0_isLatin1_aae02 : Cond.instanceMethod yJ0_isLatin1_aae02 ∈ xT := xT_of (List.mem_of_getElem? (i := 436) (by decide +kernel)) rfl
theorem im_X8_part : Cond.instanceMethod yX8_part ∈ xT := xT_of (List.mem_of_getElem? (i := 799) (by decide +kernel)) rfl
theorem im_X8_init : Cond.instanceMethod yX8_init ∈ xT := xT_of (List.mem_of_getElem? (i := 21) (by decide +kernel)) rfl
theorem im_X8_quarrel : Cond.instanceMethod yX8_quarrel ∈ xT := xT_of (List.mem_of_getElem? (i := 344) (by decide +kernel)) rfl
theorem im_X0_goBack : Cond.instanceMethod yX0_goBack ∈ xT := xT_of (List.mem_of_getElem? (i := 585) (by decide +kernel)) rfl
theorem im_X3_missingIf : Cond.instanceMethod yX3_missingIf ∈ xT := xT_of (List.mem_of_getElem? (i := 670) (by decide +kernel)) rfl
theorem im_X9_then : Cond.instanceMethod yX9_then ∈ xT := xT_of (List.mem_of_getElem? (i := 1022) (by decide +kernel)) rfl
theorem im_X0_take : Cond.instanceMethod yX0_take ∈ xT := xT_of (List.mem_of_getElem? (i := 503) (by decide +kernel)) rfl
theorem im_X9_from : Cond.instanceMethod yX9_from ∈ xT := xT_of (List.mem_of_getElem? (i := 1199) (by decide +kernel)) rfl
theorem im_X9_bad : Cond.instanceMethod yX9_bad ∈ xT := xT_of (List.mem_of_getElem? (i := 913) (by decide +kernel)) rfl
theorem im_X7_restingAt : Cond.instanceMethod yX7_restingAt ∈ xT := xT_of (List.mem_of_getElem? (i := 774) (by decide +kernel)) rfl
theorem im_X8_raise : Cond.instanceMethod yX8_raise ∈ xT := xT_of (List.mem_of_getElem? (i := 674) (by decide +kernel)) rfl
theorem im_X8_bell : Cond.instanceMethod yX8_bell ∈ xT := xT_of (List.mem_of_getElem? (i := 778) (by decide +kernel)) rfl
theorem im_X3_betterBoarding : Cond.instanceMethod yX3_betterBoarding ∈ xT := xT_of (List.mem_of_getElem? (i := 654) (by decide +kernel)) rfl
theorem im_X3_levyOfDays : Cond.instanceMethod yX3_levyOfDays ∈ xT := xT_of (List.mem_of_getElem? (i := 791) (by decide +kernel)) rfl
theorem im_X9_better : Cond.instanceMethod yX9_better ∈ xT := xT_of (List.mem_of_getElem? (i := 1044) (by decide +kernel)) rfl
theorem im_X9_layPair : Cond.instanceMethod yX9_layPair ∈ xT := xT_of (List.mem_of_getElem? (i := 1108) (by decide +kernel)) rfl
theorem im_X9_image : Cond.instanceMethod yX9_image ∈ xT := xT_of (List.mem_of_getElem? (i := 1195) (by decide +kernel)) rfl
theorem im_X5_init : Cond.instanceMethod yX5_init ∈ xT := xT_of (List.mem_of_getElem? (i := 35) (by decide +kernel)) rfl
theorem im_X4_readRoom : Cond.instanceMethod yX4_readRoom ∈ xT := xT_of (List.mem_of_getElem? (i := 471) (by decide +kernel)) rfl
theorem im_X7_rests : Cond.instanceMethod yX7_rests ∈ xT := xT_of (List.mem_of_getElem? (i := 771) (by decide +kernel)) rfl
theorem im_X9_read : Cond.instanceMethod yX9_read ∈ xT := xT_of (List.mem_of_getElem? (i := 1137) (by decide +kernel)) rfl
theorem im_X9_takesBus : Cond.instanceMethod yX9_takesBus ∈ xT := xT_of (List.mem_of_getElem? (i := 1156) (by decide +kernel)) rfl
theorem im_X0_mixTold : Cond.instanceMethod yX0_mixTold ∈ xT := xT_of (List.mem_of_getElem? (i := 835) (by decide +kernel)) rfl
theorem im_X4_isWord : Cond.instanceMethod yX4_isWord ∈ xT := xT_of (List.mem_of_getElem? (i := 419) (by decide +kernel)) rfl
theorem im_X9_init : Cond.instanceMethod yX9_init ∈ xT := xT_of (List.mem_of_getElem? (i := 842) (by decide +kernel)) rfl
theorem im_X9_now : Cond.instanceMethod yX9_now ∈ xT := xT_of (List.mem_of_getElem? (i := 1017) (by decide +kernel)) rfl
theorem im_X9_lookAt : Cond.instanceMethod yX9_lookAt ∈ xT := xT_of (List.mem_of_getElem? (i := 1142) (by decide +kernel)) rfl
theorem im_X0_addNote : Cond.instanceMethod yX0_addNote ∈ xT := xT_of (List.mem_of_getElem? (i := 703) (by decide +kernel)) rfl
theorem im_X9_is : Cond.instanceMethod yX9_is ∈ xT := xT_of (List.mem_of_getElem? (i := 1074) (by decide +kernel)) rfl
theorem im_X0_countQuarrels : Cond.instanceMethod yX0_countQuarrels ∈ xT := xT_of (List.mem_of_getElem? (i := 819) (by decide +kernel)) rfl
theorem im_X9_days : Cond.instanceMethod yX9_days ∈ xT := xT_of (List.mem_of_getElem? (i := 1119) (by decide +kernel)) rfl
theorem im_X9_bus : Cond.instanceMethod yX9_bus ∈ xT := xT_of (List.mem_of_getElem? (i := 904) (by decide +kernel)) rfl
theorem im_X0_fitsNotes : Cond.instanceMethod yX0_fitsNotes ∈ xT := xT_of (List.mem_of_getElem? (i := 720) (by decide +kernel)) rfl
theorem im_X9_goBehind : Cond.instanceMethod yX9_goBehind ∈ xT := xT_of (List.mem_of_getElem? (i := 1164) (by decide +kernel)) rfl
theorem im_X8_count : Cond.instanceMethod yX8_count ∈ xT := xT_of (List.mem_of_getElem? (i := 815) (by decide +kernel)) rfl
theorem im_X9_room : Cond.instanceMethod yX9_room ∈ xT := xT_of (List.mem_of_getElem? (i := 920) (by decide +kernel)) rfl
theorem im_X9_goStop : Cond.instanceMethod yX9_goStop ∈ xT := xT_of (List.mem_of_getElem? (i := 978) (by decide +kernel)) rfl
theorem im_X9_full : Cond.instanceMethod yX9_full ∈ xT := xT_of (List.mem_of_getElem? (i := 939) (by decide +kernel)) rfl
theorem im_X0_kindsByNotes : Cond.instanceMethod yX0_kindsByNotes ∈ xT := xT_of (List.mem_of_getElem? (i := 715) (by decide +kernel)) rfl
theorem im_X8_sways : Cond.instanceMethod yX8_sways ∈ xT := xT_of (List.mem_of_getElem? (i := 593) (by decide +kernel)) rfl
theorem im_X9_takesItem : Cond.instanceMethod yX9_takesItem ∈ xT := xT_of (List.mem_of_getElem? (i := 1172) (by decide +kernel)) rfl
theorem im_X8_decks : Cond.instanceMethod yX8_decks ∈ xT := xT_of (List.mem_of_getElem? (i := 631) (by decide +kernel)) rfl
theorem im_X3_startAnew : Cond.instanceMethod yX3_startAnew ∈ xT := xT_of (List.mem_of_getElem? (i := 658) (by decide +kernel)) rfl
theorem im_X9_look : Cond.instanceMethod yX9_look ∈ xT := xT_of (List.mem_of_getElem? (i := 1082) (by decide +kernel)) rfl
theorem im_X9_counted : Cond.instanceMethod yX9_counted ∈ xT := xT_of (List.mem_of_getElem? (i := 1213) (by decide +kernel)) rfl
theorem im_X9_manyLost : Cond.instanceMethod yX9_manyLost ∈ xT := xT_of (List.mem_of_getElem? (i := 1053) (by decide +kernel)) rfl
theorem im_X0_letOn : Cond.instanceMethod yX0_letOn ∈ xT := xT_of (List.mem_of_getElem? (i := 536) (by decide +kernel)) rfl
theorem im_X0_passStop : Cond.instanceMethod yX0_passStop ∈ xT := xT_of (List.mem_of_getElem? (i := 527) (by decide +kernel)) rfl
theorem im_X9_clear : Cond.instanceMethod yX9_clear ∈ xT := xT_of (List.mem_of_getElem? (i := 1133) (by decide +kernel)) rfl
theorem im_X4_endOfFigures : Cond.instanceMethod yX4_endOfFigures ∈ xT := xT_of (List.mem_of_getElem? (i := 410) (by decide +kernel)) rfl
theorem im_X9_of : Cond.instanceMethod yX9_of ∈ xT := xT_of (List.mem_of_getElem? (i := 1009) (by decide +kernel)) rfl
theorem im_X8_end : Cond.instanceMethod yX8_end ∈ xT := xT_of (List.mem_of_getElem? (i := 627) (by decide +kernel)) rfl
theorem im_X4_byteAt : Cond.instanceMethod yX4_byteAt ∈ xT := xT_of (List.mem_of_getElem? (i := 395) (by decide +kernel)) rfl
theorem im_X8_of : Cond.instanceMethod yX8_of ∈ xT := xT_of (List.mem_of_getElem? (i := 589) (by decide +kernel)) rfl
theorem im_X9_goTill : Cond.instanceMethod yX9_goTill ∈ xT := xT_of (List.mem_of_getElem? (i := 974) (by decide +kernel)) rfl
theorem im_X9_rests : Cond.instanceMethod yX9_rests ∈ xT := xT_of (List.mem_of_getElem? (i := 1112) (by decide +kernel)) rfl
theorem im_X0_countBridges : Cond.instanceMethod yX0_countBridges ∈ xT := xT_of (List.mem_of_getElem? (i := 823) (by decide +kernel)) rfl
theorem im_X9_layHand : Cond.instanceMethod yX9_layHand ∈ xT := xT_of (List.mem_of_getElem? (i := 970) (by decide +kernel)) rfl
theorem im_X4_readQuarrel : Cond.instanceMethod yX4_readQuarrel ∈ xT := xT_of (List.mem_of_getElem? (i := 499) (by decide +kernel)) rfl
theorem im_X0_has : Cond.instanceMethod yX0_has ∈ xT := xT_of (List.mem_of_getElem? (i := 352) (by decide +kernel)) rfl
theorem im_X9_layStart : Cond.instanceMethod yX9_layStart ∈ xT := xT_of (List.mem_of_getElem? (i := 1049) (by decide +kernel)) rfl
theorem im_X6_find : Cond.instanceMethod yX6_find ∈ xT := xT_of (List.mem_of_getElem? (i := 686) (by decide +kernel)) rfl
theorem im_X3_init : Cond.instanceMethod yX3_init ∈ xT := xT_of (List.mem_of_getElem? (i := 147) (by decide +kernel)) rfl
theorem im_X8_then : Cond.instanceMethod yX8_then ∈ xT := xT_of (List.mem_of_getElem? (i := 603) (by decide +kernel)) rfl
theorem im_X9_note : Cond.instanceMethod yX9_note ∈ xT := xT_of (List.mem_of_getElem? (i := 1065) (by decide +kernel)) rfl
theorem im_X9_isQuarrel : Cond.instanceMethod yX9_isQuarrel ∈ xT := xT_of (List.mem_of_getElem? (i := 1184) (by decide +kernel)) rfl
theorem im_X9_layDecks : Cond.instanceMethod yX9_layDecks ∈ xT := xT_of (List.mem_of_getElem? (i := 1041) (by decide +kernel)) rfl
theorem im_X7_resting : Cond.instanceMethod yX7_resting ∈ xT := xT_of (List.mem_of_getElem? (i := 766) (by decide +kernel)) rfl
theorem im_J0_coder_7d493 : Cond.instanceMethod yJ0_coder_7d493 ∈ xT := xT_of (List.mem_of_getElem? (i := 426) (by decide +kernel)) rfl
theorem im_X0_addIdea : Cond.instanceMethod yX0_addIdea ∈ xT := xT_of (List.mem_of_getElem? (i := 340) (by decide +kernel)) rfl
theorem im_X9_spells : Cond.instanceMethod yX9_spells ∈ xT := xT_of (List.mem_of_getElem? (i := 1160) (by decide +kernel)) rfl
theorem im_X8_undo : Cond.instanceMethod yX8_undo ∈ xT := xT_of (List.mem_of_getElem? (i := 581) (by decide +kernel)) rfl
theorem im_J0_length_8abf5 : Cond.instanceMethod yJ0_length_8abf5 ∈ xT := xT_of (List.mem_of_getElem? (i := 422) (by decide +kernel)) rfl
theorem im_X8_bridge : Cond.instanceMethod yX8_bridge ∈ xT := xT_of (List.mem_of_getElem? (i := 328) (by decide +kernel)) rfl
theorem im_X4_readIdea : Cond.instanceMethod yX4_readIdea ∈ xT := xT_of (List.mem_of_getElem? (i := 493) (by decide +kernel)) rfl
theorem im_X8_clear : Cond.instanceMethod yX8_clear ∈ xT := xT_of (List.mem_of_getElem? (i := 373) (by decide +kernel)) rfl
theorem im_X9_takesIdea : Cond.instanceMethod yX9_takesIdea ∈ xT := xT_of (List.mem_of_getElem? (i := 1180) (by decide +kernel)) rfl
theorem im_X8_read : Cond.instanceMethod yX8_read ∈ xT := xT_of (List.mem_of_getElem? (i := 377) (by decide +kernel)) rfl
theorem im_X8_type : Cond.instanceMethod yX8_type ∈ xT := xT_of (List.mem_of_getElem? (i := 365) (by decide +kernel)) rfl
theorem im_X9_end : Cond.instanceMethod yX9_end ∈ xT := xT_of (List.mem_of_getElem? (i := 1027) (by decide +kernel)) rfl
theorem im_X9_isIdea : Cond.instanceMethod yX9_isIdea ∈ xT := xT_of (List.mem_of_getElem? (i := 950) (by decide +kernel)) rfl
theorem im_X4_step : Cond.instanceMethod yX4_step ∈ xT := xT_of (List.mem_of_getElem? (i := 387) (by decide +kernel)) rfl
theorem im_X9_takes : Cond.instanceMethod yX9_takes ∈ xT := xT_of (List.mem_of_getElem? (i := 1168) (by decide +kernel)) rfl
theorem im_X9_bridge : Cond.instanceMethod yX9_bridge ∈ xT := xT_of (List.mem_of_getElem? (i := 924) (by decide +kernel)) rfl
theorem im_X0_swayOfAll : Cond.instanceMethod yX0_swayOfAll ∈ xT := xT_of (List.mem_of_getElem? (i := 562) (by decide +kernel)) rfl
theorem im_X8_better : Cond.instanceMethod yX8_better ∈ xT := xT_of (List.mem_of_getElem? (i := 650) (by decide +kernel)) rfl
theorem im_X2_init : Cond.instanceMethod yX2_init ∈ xT := xT_of (List.mem_of_getElem? (i := 218) (by decide +kernel)) rfl
theorem im_X6_init : Cond.instanceMethod yX6_init ∈ xT := xT_of (List.mem_of_getElem? (i := 180) (by decide +kernel)) rfl
theorem im_X9_digest : Cond.instanceMethod yX9_digest ∈ xT := xT_of (List.mem_of_getElem? (i := 1224) (by decide +kernel)) rfl
theorem im_X8_room : Cond.instanceMethod yX8_room ∈ xT := xT_of (List.mem_of_getElem? (i := 324) (by decide +kernel)) rfl
theorem im_X8_note : Cond.instanceMethod yX8_note ∈ xT := xT_of (List.mem_of_getElem? (i := 699) (by decide +kernel)) rfl
theorem im_X0_letOff : Cond.instanceMethod yX0_letOff ∈ xT := xT_of (List.mem_of_getElem? (i := 532) (by decide +kernel)) rfl
theorem im_X8_digest : Cond.instanceMethod yX8_digest ∈ xT := xT_of (List.mem_of_getElem? (i := 827) (by decide +kernel)) rfl
theorem im_X9_upstairs : Cond.instanceMethod yX9_upstairs ∈ xT := xT_of (List.mem_of_getElem? (i := 1060) (by decide +kernel)) rfl
theorem im_X7_init : Cond.instanceMethod yX7_init ∈ xT := xT_of (List.mem_of_getElem? (i := 199) (by decide +kernel)) rfl
theorem im_X9_idea : Cond.instanceMethod yX9_idea ∈ xT := xT_of (List.mem_of_getElem? (i := 932) (by decide +kernel)) rfl
theorem im_X9_swayOfAll : Cond.instanceMethod yX9_swayOfAll ∈ xT := xT_of (List.mem_of_getElem? (i := 991) (by decide +kernel)) rfl
theorem im_X0_hasTwo : Cond.instanceMethod yX0_hasTwo ∈ xT := xT_of (List.mem_of_getElem? (i := 348) (by decide +kernel)) rfl
theorem im_X3_leastLift : Cond.instanceMethod yX3_leastLift ∈ xT := xT_of (List.mem_of_getElem? (i := 678) (by decide +kernel)) rfl
theorem im_X1_fewest : Cond.instanceMethod yX1_fewest ∈ xT := xT_of (List.mem_of_getElem? (i := 639) (by decide +kernel)) rfl
theorem im_X4_init : Cond.instanceMethod yX4_init ∈ xT := xT_of (List.mem_of_getElem? (i := 233) (by decide +kernel)) rfl
theorem im_X9_status : Cond.instanceMethod yX9_status ∈ xT := xT_of (List.mem_of_getElem? (i := 1203) (by decide +kernel)) rfl
theorem im_X8_puts : Cond.instanceMethod yX8_puts ∈ xT := xT_of (List.mem_of_getElem? (i := 575) (by decide +kernel)) rfl
theorem im_X3_goOn : Cond.instanceMethod yX3_goOn ∈ xT := xT_of (List.mem_of_getElem? (i := 607) (by decide +kernel)) rfl
theorem im_X9_fare : Cond.instanceMethod yX9_fare ∈ xT := xT_of (List.mem_of_getElem? (i := 1090) (by decide +kernel)) rfl
theorem se_X8_bus : Cond.selects RX8 yX8_bus yX8_bus ∈ xT := xT_of (List.mem_of_getElem? (i := 306) (by decide +kernel)) rfl
theorem se_X0_startAnew : Cond.selects RX0 yX0_startAnew yX0_startAnew ∈ xT := xT_of (List.mem_of_getElem? (i := 317) (by decide +kernel)) rfl
theorem se_X5_startAnew : Cond.selects RX5 yX5_startAnew yX5_startAnew ∈ xT := xT_of (List.mem_of_getElem? (i := 321) (by decide +kernel)) rfl
theorem se_X8_room : Cond.selects RX8 yX8_room yX8_room ∈ xT := xT_of (List.mem_of_getElem? (i := 325) (by decide +kernel)) rfl
theorem se_X8_bridge : Cond.selects RX8 yX8_bridge yX8_bridge ∈ xT := xT_of (List.mem_of_getElem? (i := 329) (by decide +kernel)) rfl
theorem se_X8_idea : Cond.selects RX8 yX8_idea yX8_idea ∈ xT := xT_of (List.mem_of_getElem? (i := 333) (by decide +kernel)) rfl
theorem se_X0_addIdea : Cond.selects RX0 yX0_addIdea yX0_addIdea ∈ xT := xT_of (List.mem_of_getElem? (i := 341) (by decide +kernel)) rfl
theorem se_X8_quarrel : Cond.selects RX8 yX8_quarrel yX8_quarrel ∈ xT := xT_of (List.mem_of_getElem? (i := 345) (by decide +kernel)) rfl
theorem se_X0_hasTwo : Cond.selects RX0 yX0_hasTwo yX0_hasTwo ∈ xT := xT_of (List.mem_of_getElem? (i := 349) (by decide +kernel)) rfl
theorem se_X0_has : Cond.selects RX0 yX0_has yX0_has ∈ xT := xT_of (List.mem_of_getElem? (i := 353) (by decide +kernel)) rfl
theorem se_X0_setQuarrel : Cond.selects RX0 yX0_setQuarrel yX0_setQuarrel ∈ xT := xT_of (List.mem_of_getElem? (i := 361) (by decide +kernel)) rfl
theorem se_X8_type : Cond.selects RX8 yX8_type yX8_type ∈ xT := xT_of (List.mem_of_getElem? (i := 366) (by decide +kernel)) rfl
theorem se_X4_addByte : Cond.selects RX4 yX4_addByte yX4_addByte ∈ xT := xT_of (List.mem_of_getElem? (i := 370) (by decide +kernel)) rfl
theorem se_X8_clear : Cond.selects RX8 yX8_clear yX8_clear ∈ xT := xT_of (List.mem_of_getElem? (i := 374) (by decide +kernel)) rfl
theorem se_X8_read : Cond.selects RX8 yX8_read yX8_read ∈ xT := xT_of (List.mem_of_getElem? (i := 378) (by decide +kernel)) rfl
theorem se_X4_readBus : Cond.selects RX4 yX4_readBus yX4_readBus ∈ xT := xT_of (List.mem_of_getElem? (i := 382) (by decide +kernel)) rfl
theorem se_J0_length_8abf5 : Cond.selects RJ0 yJ0_length_8abf5 yJ0_length_8abf5 ∈ xT := xT_of (List.mem_of_getElem? (i := 423) (by decide +kernel)) rfl
theorem se_J0_coder_7d493 : Cond.selects RJ0 yJ0_coder_7d493 yJ0_coder_7d493 ∈ xT := xT_of (List.mem_of_getElem? (i := 427) (by decide +kernel)) rfl
theorem se_J0_charAt_5068e : Cond.selects RJ0 yJ0_charAt_5068e yJ0_charAt_5068e ∈ xT := xT_of (List.mem_of_getElem? (i := 433) (by decide +kernel)) rfl
theorem se_J0_isLatin1_aae02 : Cond.selects RJ0 yJ0_isLatin1_aae02 yJ0_isLatin1_aae02 ∈ xT := xT_of (List.mem_of_getElem? (i := 437) (by decide +kernel)) rfl
theorem se_X0_take : Cond.selects RX0 yX0_take yX0_take ∈ xT := xT_of (List.mem_of_getElem? (i := 504) (by decide +kernel)) rfl
theorem se_X5_take : Cond.selects RX5 yX5_take yX5_take ∈ xT := xT_of (List.mem_of_getElem? (i := 511) (by decide +kernel)) rfl
theorem se_X8_drive : Cond.selects RX8 yX8_drive yX8_drive ∈ xT := xT_of (List.mem_of_getElem? (i := 516) (by decide +kernel)) rfl
theorem se_X0_remember : Cond.selects RX0 yX0_remember yX0_remember ∈ xT := xT_of (List.mem_of_getElem? (i := 524) (by decide +kernel)) rfl
theorem se_X0_passStop : Cond.selects RX0 yX0_passStop yX0_passStop ∈ xT := xT_of (List.mem_of_getElem? (i := 528) (by decide +kernel)) rfl
theorem se_X0_swayOfAll : Cond.selects RX0 yX0_swayOfAll yX0_swayOfAll ∈ xT := xT_of (List.mem_of_getElem? (i := 563) (by decide +kernel)) rfl
theorem se_X8_puts : Cond.selects RX8 yX8_puts yX8_puts ∈ xT := xT_of (List.mem_of_getElem? (i := 576) (by decide +kernel)) rfl
theorem se_X8_undo : Cond.selects RX8 yX8_undo yX8_undo ∈ xT := xT_of (List.mem_of_getElem? (i := 582) (by decide +kernel)) rfl
theorem se_X0_goBack : Cond.selects RX0 yX0_goBack yX0_goBack ∈ xT := xT_of (List.mem_of_getElem? (i := 586) (by decide +kernel)) rfl
theorem se_X8_of : Cond.selects RX8 yX8_of yX8_of ∈ xT := xT_of (List.mem_of_getElem? (i := 590) (by decide +kernel)) rfl
theorem se_X8_sways : Cond.selects RX8 yX8_sways yX8_sways ∈ xT := xT_of (List.mem_of_getElem? (i := 594) (by decide +kernel)) rfl
theorem se_X8_now : Cond.selects RX8 yX8_now yX8_now ∈ xT := xT_of (List.mem_of_getElem? (i := 600) (by decide +kernel)) rfl
theorem se_X8_then : Cond.selects RX8 yX8_then yX8_then ∈ xT := xT_of (List.mem_of_getElem? (i := 604) (by decide +kernel)) rfl
theorem se_X3_goOn : Cond.selects RX3 yX3_goOn yX3_goOn ∈ xT := xT_of (List.mem_of_getElem? (i := 608) (by decide +kernel)) rfl
theorem se_X3_passThrough : Cond.selects RX3 yX3_passThrough yX3_passThrough ∈ xT := xT_of (List.mem_of_getElem? (i := 618) (by decide +kernel)) rfl
theorem se_X3_passOne : Cond.selects RX3 yX3_passOne yX3_passOne ∈ xT := xT_of (List.mem_of_getElem? (i := 622) (by decide +kernel)) rfl
theorem se_X8_end : Cond.selects RX8 yX8_end yX8_end ∈ xT := xT_of (List.mem_of_getElem? (i := 628) (by decide +kernel)) rfl
theorem se_X8_decks : Cond.selects RX8 yX8_decks yX8_decks ∈ xT := xT_of (List.mem_of_getElem? (i := 632) (by decide +kernel)) rfl
theorem se_X1_fewest : Cond.selects RX1 yX1_fewest yX1_fewest ∈ xT := xT_of (List.mem_of_getElem? (i := 640) (by decide +kernel)) rfl
theorem se_X8_better : Cond.selects RX8 yX8_better yX8_better ∈ xT := xT_of (List.mem_of_getElem? (i := 651) (by decide +kernel)) rfl
theorem se_X3_betterBoarding : Cond.selects RX3 yX3_betterBoarding yX3_betterBoarding ∈ xT := xT_of (List.mem_of_getElem? (i := 655) (by decide +kernel)) rfl
theorem se_X3_startAnew : Cond.selects RX3 yX3_startAnew yX3_startAnew ∈ xT := xT_of (List.mem_of_getElem? (i := 659) (by decide +kernel)) rfl
theorem se_X8_raise : Cond.selects RX8 yX8_raise yX8_raise ∈ xT := xT_of (List.mem_of_getElem? (i := 675) (by decide +kernel)) rfl
theorem se_X3_leastLift : Cond.selects RX3 yX3_leastLift yX3_leastLift ∈ xT := xT_of (List.mem_of_getElem? (i := 679) (by decide +kernel)) rfl
theorem se_X8_upstairs : Cond.selects RX8 yX8_upstairs yX8_upstairs ∈ xT := xT_of (List.mem_of_getElem? (i := 683) (by decide +kernel)) rfl
theorem se_X6_find : Cond.selects RX6 yX6_find yX6_find ∈ xT := xT_of (List.mem_of_getElem? (i := 687) (by decide +kernel)) rfl
theorem se_X0_quarrelsIn : Cond.selects RX0 yX0_quarrelsIn yX0_quarrelsIn ∈ xT := xT_of (List.mem_of_getElem? (i := 696) (by decide +kernel)) rfl
theorem se_X8_note : Cond.selects RX8 yX8_note yX8_note ∈ xT := xT_of (List.mem_of_getElem? (i := 700) (by decide +kernel)) rfl
theorem se_X0_addNote : Cond.selects RX0 yX0_addNote yX0_addNote ∈ xT := xT_of (List.mem_of_getElem? (i := 704) (by decide +kernel)) rfl
theorem se_X8_forget : Cond.selects RX8 yX8_forget yX8_forget ∈ xT := xT_of (List.mem_of_getElem? (i := 708) (by decide +kernel)) rfl
theorem se_X8_is : Cond.selects RX8 yX8_is yX8_is ∈ xT := xT_of (List.mem_of_getElem? (i := 712) (by decide +kernel)) rfl
theorem se_X0_kindsByNotes : Cond.selects RX0 yX0_kindsByNotes yX0_kindsByNotes ∈ xT := xT_of (List.mem_of_getElem? (i := 716) (by decide +kernel)) rfl
theorem se_X8_look : Cond.selects RX8 yX8_look yX8_look ∈ xT := xT_of (List.mem_of_getElem? (i := 724) (by decide +kernel)) rfl
theorem se_X8_fare : Cond.selects RX8 yX8_fare yX8_fare ∈ xT := xT_of (List.mem_of_getElem? (i := 740) (by decide +kernel)) rfl
theorem se_X2_become : Cond.selects RX2 yX2_become yX2_become ∈ xT := xT_of (List.mem_of_getElem? (i := 744) (by decide +kernel)) rfl
theorem se_X8_two : Cond.selects RX8 yX8_two yX8_two ∈ xT := xT_of (List.mem_of_getElem? (i := 751) (by decide +kernel)) rfl
theorem se_X7_play : Cond.selects RX7 yX7_play yX7_play ∈ xT := xT_of (List.mem_of_getElem? (i := 755) (by decide +kernel)) rfl
theorem se_X7_resting : Cond.selects RX7 yX7_resting yX7_resting ∈ xT := xT_of (List.mem_of_getElem? (i := 767) (by decide +kernel)) rfl
theorem se_X7_restingAt : Cond.selects RX7 yX7_restingAt yX7_restingAt ∈ xT := xT_of (List.mem_of_getElem? (i := 775) (by decide +kernel)) rfl
theorem se_X8_bell : Cond.selects RX8 yX8_bell yX8_bell ∈ xT := xT_of (List.mem_of_getElem? (i := 779) (by decide +kernel)) rfl
theorem se_X8_days : Cond.selects RX8 yX8_days yX8_days ∈ xT := xT_of (List.mem_of_getElem? (i := 787) (by decide +kernel)) rfl
theorem se_X3_levyOfDays : Cond.selects RX3 yX3_levyOfDays yX3_levyOfDays ∈ xT := xT_of (List.mem_of_getElem? (i := 792) (by decide +kernel)) rfl
theorem se_X8_part : Cond.selects RX8 yX8_part yX8_part ∈ xT := xT_of (List.mem_of_getElem? (i := 800) (by decide +kernel)) rfl
theorem se_X8_image : Cond.selects RX8 yX8_image yX8_image ∈ xT := xT_of (List.mem_of_getElem? (i := 804) (by decide +kernel)) rfl
theorem se_X8_from : Cond.selects RX8 yX8_from yX8_from ∈ xT := xT_of (List.mem_of_getElem? (i := 808) (by decide +kernel)) rfl
theorem se_X8_status : Cond.selects RX8 yX8_status yX8_status ∈ xT := xT_of (List.mem_of_getElem? (i := 812) (by decide +kernel)) rfl
theorem se_X8_count : Cond.selects RX8 yX8_count yX8_count ∈ xT := xT_of (List.mem_of_getElem? (i := 816) (by decide +kernel)) rfl
theorem se_X0_countQuarrels : Cond.selects RX0 yX0_countQuarrels yX0_countQuarrels ∈ xT := xT_of (List.mem_of_getElem? (i := 820) (by decide +kernel)) rfl
theorem se_X0_countBridges : Cond.selects RX0 yX0_countBridges yX0_countBridges ∈ xT := xT_of (List.mem_of_getElem? (i := 824) (by decide +kernel)) rfl
theorem se_X8_digest : Cond.selects RX8 yX8_digest yX8_digest ∈ xT := xT_of (List.mem_of_getElem? (i := 828) (by decide +kernel)) rfl
theorem se_X0_mixTold : Cond.selects RX0 yX0_mixTold yX0_mixTold ∈ xT := xT_of (List.mem_of_getElem? (i := 836) (by decide +kernel)) rfl
theorem se_X9_bus : Cond.selects RX9 yX9_bus yX9_bus ∈ xT := xT_of (List.mem_of_getElem? (i := 905) (by decide +kernel)) rfl
theorem se_X9_room : Cond.selects RX9 yX9_room yX9_room ∈ xT := xT_of (List.mem_of_getElem? (i := 921) (by decide +kernel)) rfl
theorem se_X9_bridge : Cond.selects RX9 yX9_bridge yX9_bridge ∈ xT := xT_of (List.mem_of_getElem? (i := 925) (by decide +kernel)) rfl
theorem se_X9_idea : Cond.selects RX9 yX9_idea yX9_idea ∈ xT := xT_of (List.mem_of_getElem? (i := 933) (by decide +kernel)) rfl
theorem se_X9_quarrel : Cond.selects RX9 yX9_quarrel yX9_quarrel ∈ xT := xT_of (List.mem_of_getElem? (i := 946) (by decide +kernel)) rfl
theorem se_X9_drive : Cond.selects RX9 yX9_drive yX9_drive ∈ xT := xT_of (List.mem_of_getElem? (i := 957) (by decide +kernel)) rfl
theorem se_X9_puts : Cond.selects RX9 yX9_puts yX9_puts ∈ xT := xT_of (List.mem_of_getElem? (i := 1002) (by decide +kernel)) rfl
theorem se_X9_undo : Cond.selects RX9 yX9_undo yX9_undo ∈ xT := xT_of (List.mem_of_getElem? (i := 1006) (by decide +kernel)) rfl
theorem se_X9_of : Cond.selects RX9 yX9_of yX9_of ∈ xT := xT_of (List.mem_of_getElem? (i := 1010) (by decide +kernel)) rfl
theorem se_X9_sways : Cond.selects RX9 yX9_sways yX9_sways ∈ xT := xT_of (List.mem_of_getElem? (i := 1014) (by decide +kernel)) rfl
theorem se_X9_now : Cond.selects RX9 yX9_now yX9_now ∈ xT := xT_of (List.mem_of_getElem? (i := 1018) (by decide +kernel)) rfl
theorem se_X9_then : Cond.selects RX9 yX9_then yX9_then ∈ xT := xT_of (List.mem_of_getElem? (i := 1023) (by decide +kernel)) rfl
theorem se_X9_end : Cond.selects RX9 yX9_end yX9_end ∈ xT := xT_of (List.mem_of_getElem? (i := 1028) (by decide +kernel)) rfl
theorem se_X9_decks : Cond.selects RX9 yX9_decks yX9_decks ∈ xT := xT_of (List.mem_of_getElem? (i := 1032) (by decide +kernel)) rfl
theorem se_X9_better : Cond.selects RX9 yX9_better yX9_better ∈ xT := xT_of (List.mem_of_getElem? (i := 1045) (by decide +kernel)) rfl
theorem se_X9_raise : Cond.selects RX9 yX9_raise yX9_raise ∈ xT := xT_of (List.mem_of_getElem? (i := 1057) (by decide +kernel)) rfl
theorem se_X9_upstairs : Cond.selects RX9 yX9_upstairs yX9_upstairs ∈ xT := xT_of (List.mem_of_getElem? (i := 1061) (by decide +kernel)) rfl
theorem se_X9_note : Cond.selects RX9 yX9_note yX9_note ∈ xT := xT_of (List.mem_of_getElem? (i := 1066) (by decide +kernel)) rfl
theorem se_X9_forget : Cond.selects RX9 yX9_forget yX9_forget ∈ xT := xT_of (List.mem_of_getElem? (i := 1071) (by decide +kernel)) rfl
theorem se_X9_is : Cond.selects RX9 yX9_is yX9_is ∈ xT := xT_of (List.mem_of_getElem? (i := 1075) (by decide +kernel)) rfl
theorem se_X9_look : Cond.selects RX9 yX9_look yX9_look ∈ xT := xT_of (List.mem_of_getElem? (i := 1083) (by decide +kernel)) rfl
theorem se_X9_fare : Cond.selects RX9 yX9_fare yX9_fare ∈ xT := xT_of (List.mem_of_getElem? (i := 1091) (by decide +kernel)) rfl
theorem se_X9_two : Cond.selects RX9 yX9_two yX9_two ∈ xT := xT_of (List.mem_of_getElem? (i := 1100) (by decide +kernel)) rfl
theorem se_X9_bell : Cond.selects RX9 yX9_bell yX9_bell ∈ xT := xT_of (List.mem_of_getElem? (i := 1116) (by decide +kernel)) rfl
theorem se_X9_days : Cond.selects RX9 yX9_days yX9_days ∈ xT := xT_of (List.mem_of_getElem? (i := 1120) (by decide +kernel)) rfl
theorem se_X9_type : Cond.selects RX9 yX9_type yX9_type ∈ xT := xT_of (List.mem_of_getElem? (i := 1129) (by decide +kernel)) rfl
theorem se_X9_clear : Cond.selects RX9 yX9_clear yX9_clear ∈ xT := xT_of (List.mem_of_getElem? (i := 1134) (by decide +kernel)) rfl
theorem se_X9_read : Cond.selects RX9 yX9_read yX9_read ∈ xT := xT_of (List.mem_of_getElem? (i := 1138) (by decide +kernel)) rfl
theorem se_X9_part : Cond.selects RX9 yX9_part yX9_part ∈ xT := xT_of (List.mem_of_getElem? (i := 1192) (by decide +kernel)) rfl
theorem se_X9_image : Cond.selects RX9 yX9_image yX9_image ∈ xT := xT_of (List.mem_of_getElem? (i := 1196) (by decide +kernel)) rfl
theorem se_X9_from : Cond.selects RX9 yX9_from yX9_from ∈ xT := xT_of (List.mem_of_getElem? (i := 1200) (by decide +kernel)) rfl
theorem se_X9_status : Cond.selects RX9 yX9_status yX9_status ∈ xT := xT_of (List.mem_of_getElem? (i := 1204) (by decide +kernel)) rfl
theorem se_X9_count : Cond.selects RX9 yX9_count yX9_count ∈ xT := xT_of (List.mem_of_getElem? (i := 1208) (by decide +kernel)) rfl
theorem se_X9_digest : Cond.selects RX9 yX9_digest yX9_digest ∈ xT := xT_of (List.mem_of_getElem? (i := 1225) (by decide +kernel)) rfl
theorem se_X8_refuseBad : Cond.selects yX8_refuseBad.cls yX8_refuseBad yX8_refuseBad ∈ xT := xT_mem (List.mem_append_left _ (List.mem_map.mpr ⟨_, List.mem_of_getElem? (i := 0) (show lw_privs[0]? = some (yX8_refuseBad, 12) by decide +kernel), rfl⟩)) rfl
theorem se_X8_refuseFull : Cond.selects yX8_refuseFull.cls yX8_refuseFull yX8_refuseFull ∈ xT := xT_mem (List.mem_append_left _ (List.mem_map.mpr ⟨_, List.mem_of_getElem? (i := 1) (show lw_privs[1]? = some (yX8_refuseFull, 12) by decide +kernel), rfl⟩)) rfl
theorem se_X4_step : Cond.selects yX4_step.cls yX4_step yX4_step ∈ xT := xT_mem (List.mem_append_left _ (List.mem_map.mpr ⟨_, List.mem_of_getElem? (i := 2) (show lw_privs[2]? = some (yX4_step, 8) by decide +kernel), rfl⟩)) rfl
theorem se_X4_endOfBlanks : Cond.selects yX4_endOfBlanks.cls yX4_endOfBlanks yX4_endOfBlanks ∈ xT := xT_mem (List.mem_append_left _ (List.mem_map.mpr ⟨_, List.mem_of_getElem? (i := 3) (show lw_privs[3]? = some (yX4_endOfBlanks, 8) by decide +kernel), rfl⟩)) rfl
theorem se_X4_byteAt : Cond.selects yX4_byteAt.cls yX4_byteAt yX4_byteAt ∈ xT := xT_mem (List.mem_append_left _ (List.mem_map.mpr ⟨_, List.mem_of_getElem? (i := 4) (show lw_privs[4]? = some (yX4_byteAt, 8) by decide +kernel), rfl⟩)) rfl
theorem se_X4_endOfLetters : Cond.selects yX4_endOfLetters.cls yX4_endOfLetters yX4_endOfLetters ∈ xT := xT_mem (List.mem_append_left _ (List.mem_map.mpr ⟨_, List.mem_of_getElem? (i := 5) (show lw_privs[5]? = some (yX4_endOfLetters, 8) by decide +kernel), rfl⟩)) rfl
theorem se_X4_endOfFigures : Cond.selects yX4_endOfFigures.cls yX4_endOfFigures yX4_endOfFigures ∈ xT := xT_mem (List.mem_append_left _ (List.mem_map.mpr ⟨_, List.mem_of_getElem? (i := 6) (show lw_privs[6]? = some (yX4_endOfFigures, 8) by decide +kernel), rfl⟩)) rfl
theorem se_X4_valueOfFigures : Cond.selects yX4_valueOfFigures.cls yX4_valueOfFigures yX4_valueOfFigures ∈ xT := xT_mem (List.mem_append_left _ (List.mem_map.mpr ⟨_, List.mem_of_getElem? (i := 7) (show lw_privs[7]? = some (yX4_valueOfFigures, 8) by decide +kernel), rfl⟩)) rfl
theorem se_X4_isWord : Cond.selects yX4_isWord.cls yX4_isWord yX4_isWord ∈ xT := xT_mem (List.mem_append_left _ (List.mem_map.mpr ⟨_, List.mem_of_getElem? (i := 8) (show lw_privs[8]? = some (yX4_isWord, 8) by decide +kernel), rfl⟩)) rfl
theorem se_X4_readRoom : Cond.selects yX4_readRoom.cls yX4_readRoom yX4_readRoom ∈ xT := xT_mem (List.mem_append_left _ (List.mem_map.mpr ⟨_, List.mem_of_getElem? (i := 9) (show lw_privs[9]? = some (yX4_readRoom, 8) by decide +kernel), rfl⟩)) rfl
theorem se_X4_readNumber : Cond.selects yX4_readNumber.cls yX4_readNumber yX4_readNumber ∈ xT := xT_mem (List.mem_append_left _ (List.mem_map.mpr ⟨_, List.mem_of_getElem? (i := 10) (show lw_privs[10]? = some (yX4_readNumber, 8) by decide +kernel), rfl⟩)) rfl
theorem se_X4_readMark : Cond.selects yX4_readMark.cls yX4_readMark yX4_readMark ∈ xT := xT_mem (List.mem_append_left _ (List.mem_map.mpr ⟨_, List.mem_of_getElem? (i := 11) (show lw_privs[11]? = some (yX4_readMark, 8) by decide +kernel), rfl⟩)) rfl
theorem se_X4_readItem : Cond.selects yX4_readItem.cls yX4_readItem yX4_readItem ∈ xT := xT_mem (List.mem_append_left _ (List.mem_map.mpr ⟨_, List.mem_of_getElem? (i := 12) (show lw_privs[12]? = some (yX4_readItem, 8) by decide +kernel), rfl⟩)) rfl
theorem se_X4_readBridge : Cond.selects yX4_readBridge.cls yX4_readBridge yX4_readBridge ∈ xT := xT_mem (List.mem_append_left _ (List.mem_map.mpr ⟨_, List.mem_of_getElem? (i := 13) (show lw_privs[13]? = some (yX4_readBridge, 8) by decide +kernel), rfl⟩)) rfl
theorem se_X4_readIdea : Cond.selects yX4_readIdea.cls yX4_readIdea yX4_readIdea ∈ xT := xT_mem (List.mem_append_left _ (List.mem_map.mpr ⟨_, List.mem_of_getElem? (i := 14) (show lw_privs[14]? = some (yX4_readIdea, 8) by decide +kernel), rfl⟩)) rfl
theorem se_X4_readQuarrel : Cond.selects yX4_readQuarrel.cls yX4_readQuarrel yX4_readQuarrel ∈ xT := xT_mem (List.mem_append_left _ (List.mem_map.mpr ⟨_, List.mem_of_getElem? (i := 15) (show lw_privs[15]? = some (yX4_readQuarrel, 8) by decide +kernel), rfl⟩)) rfl
theorem se_X8_refuseNo : Cond.selects yX8_refuseNo.cls yX8_refuseNo yX8_refuseNo ∈ xT := xT_mem (List.mem_append_left _ (List.mem_map.mpr ⟨_, List.mem_of_getElem? (i := 16) (show lw_privs[16]? = some (yX8_refuseNo, 12) by decide +kernel), rfl⟩)) rfl
theorem se_X0_letOff : Cond.selects yX0_letOff.cls yX0_letOff yX0_letOff ∈ xT := xT_mem (List.mem_append_left _ (List.mem_map.mpr ⟨_, List.mem_of_getElem? (i := 17) (show lw_privs[17]? = some (yX0_letOff, 16) by decide +kernel), rfl⟩)) rfl
theorem se_X0_letOn : Cond.selects yX0_letOn.cls yX0_letOn yX0_letOn ∈ xT := xT_mem (List.mem_append_left _ (List.mem_map.mpr ⟨_, List.mem_of_getElem? (i := 18) (show lw_privs[18]? = some (yX0_letOn, 16) by decide +kernel), rfl⟩)) rfl
theorem se_X0_scrape : Cond.selects yX0_scrape.cls yX0_scrape yX0_scrape ∈ xT := xT_mem (List.mem_append_left _ (List.mem_map.mpr ⟨_, List.mem_of_getElem? (i := 19) (show lw_privs[19]? = some (yX0_scrape, 16) by decide +kernel), rfl⟩)) rfl
theorem se_X3_boardAsTold : Cond.selects yX3_boardAsTold.cls yX3_boardAsTold yX3_boardAsTold ∈ xT := xT_mem (List.mem_append_left _ (List.mem_map.mpr ⟨_, List.mem_of_getElem? (i := 20) (show lw_privs[20]? = some (yX3_boardAsTold, 3) by decide +kernel), rfl⟩)) rfl
theorem se_X8_refuseOtherBad : Cond.selects yX8_refuseOtherBad.cls yX8_refuseOtherBad yX8_refuseOtherBad ∈ xT := xT_mem (List.mem_append_left _ (List.mem_map.mpr ⟨_, List.mem_of_getElem? (i := 21) (show lw_privs[21]? = some (yX8_refuseOtherBad, 12) by decide +kernel), rfl⟩)) rfl
theorem se_X3_missing : Cond.selects yX3_missing.cls yX3_missing yX3_missing ∈ xT := xT_mem (List.mem_append_left _ (List.mem_map.mpr ⟨_, List.mem_of_getElem? (i := 22) (show lw_privs[22]? = some (yX3_missing, 3) by decide +kernel), rfl⟩)) rfl
theorem se_X3_missingIf : Cond.selects yX3_missingIf.cls yX3_missingIf yX3_missingIf ∈ xT := xT_mem (List.mem_append_left _ (List.mem_map.mpr ⟨_, List.mem_of_getElem? (i := 23) (show lw_privs[23]? = some (yX3_missingIf, 3) by decide +kernel), rfl⟩)) rfl
theorem se_X0_fitsNotes : Cond.selects yX0_fitsNotes.cls yX0_fitsNotes yX0_fitsNotes ∈ xT := xT_mem (List.mem_append_left _ (List.mem_map.mpr ⟨_, List.mem_of_getElem? (i := 24) (show lw_privs[24]? = some (yX0_fitsNotes, 16) by decide +kernel), rfl⟩)) rfl
theorem se_X7_countStops : Cond.selects yX7_countStops.cls yX7_countStops yX7_countStops ∈ xT := xT_mem (List.mem_append_left _ (List.mem_map.mpr ⟨_, List.mem_of_getElem? (i := 25) (show lw_privs[25]? = some (yX7_countStops, 4) by decide +kernel), rfl⟩)) rfl
theorem se_X7_rests : Cond.selects yX7_rests.cls yX7_rests yX7_rests ∈ xT := xT_mem (List.mem_append_left _ (List.mem_map.mpr ⟨_, List.mem_of_getElem? (i := 26) (show lw_privs[26]? = some (yX7_rests, 4) by decide +kernel), rfl⟩)) rfl
theorem se_X9_bad : Cond.selects yX9_bad.cls yX9_bad yX9_bad ∈ xT := xT_mem (List.mem_append_left _ (List.mem_map.mpr ⟨_, List.mem_of_getElem? (i := 27) (show lw_privs[27]? = some (yX9_bad, 18) by decide +kernel), rfl⟩)) rfl
theorem se_X9_many : Cond.selects yX9_many.cls yX9_many yX9_many ∈ xT := xT_mem (List.mem_append_left _ (List.mem_map.mpr ⟨_, List.mem_of_getElem? (i := 28) (show lw_privs[28]? = some (yX9_many, 18) by decide +kernel), rfl⟩)) rfl
theorem se_X9_full : Cond.selects yX9_full.cls yX9_full yX9_full ∈ xT := xT_mem (List.mem_append_left _ (List.mem_map.mpr ⟨_, List.mem_of_getElem? (i := 29) (show lw_privs[29]? = some (yX9_full, 18) by decide +kernel), rfl⟩)) rfl
theorem se_X9_isIdea : Cond.selects yX9_isIdea.cls yX9_isIdea yX9_isIdea ∈ xT := xT_mem (List.mem_append_left _ (List.mem_map.mpr ⟨_, List.mem_of_getElem? (i := 30) (show lw_privs[30]? = some (yX9_isIdea, 18) by decide +kernel), rfl⟩)) rfl
theorem se_X9_no : Cond.selects yX9_no.cls yX9_no yX9_no ∈ xT := xT_mem (List.mem_append_left _ (List.mem_map.mpr ⟨_, List.mem_of_getElem? (i := 31) (show lw_privs[31]? = some (yX9_no, 18) by decide +kernel), rfl⟩)) rfl
theorem se_X9_keep : Cond.selects yX9_keep.cls yX9_keep yX9_keep ∈ xT := xT_mem (List.mem_append_left _ (List.mem_map.mpr ⟨_, List.mem_of_getElem? (i := 32) (show lw_privs[32]? = some (yX9_keep, 18) by decide +kernel), rfl⟩)) rfl
theorem se_X9_layHand : Cond.selects yX9_layHand.cls yX9_layHand yX9_layHand ∈ xT := xT_mem (List.mem_append_left _ (List.mem_map.mpr ⟨_, List.mem_of_getElem? (i := 33) (show lw_privs[33]? = some (yX9_layHand, 18) by decide +kernel), rfl⟩)) rfl
theorem se_X9_goTill : Cond.selects yX9_goTill.cls yX9_goTill yX9_goTill ∈ xT := xT_mem (List.mem_append_left _ (List.mem_map.mpr ⟨_, List.mem_of_getElem? (i := 34) (show lw_privs[34]? = some (yX9_goTill, 18) by decide +kernel), rfl⟩)) rfl
theorem se_X9_goStop : Cond.selects yX9_goStop.cls yX9_goStop yX9_goStop ∈ xT := xT_mem (List.mem_append_left _ (List.mem_map.mpr ⟨_, List.mem_of_getElem? (i := 35) (show lw_privs[35]? = some (yX9_goStop, 18) by decide +kernel), rfl⟩)) rfl
theorem se_X9_swayOfAll : Cond.selects yX9_swayOfAll.cls yX9_swayOfAll yX9_swayOfAll ∈ xT := xT_mem (List.mem_append_left _ (List.mem_map.mpr ⟨_, List.mem_of_getElem? (i := 36) (show lw_privs[36]? = some (yX9_swayOfAll, 18) by decide +kernel), rfl⟩)) rfl
theorem se_X9_swayOf : Cond.selects yX9_swayOf.cls yX9_swayOf yX9_swayOf ∈ xT := xT_mem (List.mem_append_left _ (List.mem_map.mpr ⟨_, List.mem_of_getElem? (i := 37) (show lw_privs[37]? = some (yX9_swayOf, 18) by decide +kernel), rfl⟩)) rfl
theorem se_X9_fewestDecks : Cond.selects yX9_fewestDecks.cls yX9_fewestDecks yX9_fewestDecks ∈ xT := xT_mem (List.mem_append_left _ (List.mem_map.mpr ⟨_, List.mem_of_getElem? (i := 38) (show lw_privs[38]? = some (yX9_fewestDecks, 18) by decide +kernel), rfl⟩)) rfl
theorem se_X9_layDecks : Cond.selects yX9_layDecks.cls yX9_layDecks yX9_layDecks ∈ xT := xT_mem (List.mem_append_left _ (List.mem_map.mpr ⟨_, List.mem_of_getElem? (i := 39) (show lw_privs[39]? = some (yX9_layDecks, 18) by decide +kernel), rfl⟩)) rfl
theorem se_X9_layStart : Cond.selects yX9_layStart.cls yX9_layStart yX9_layStart ∈ xT := xT_mem (List.mem_append_left _ (List.mem_map.mpr ⟨_, List.mem_of_getElem? (i := 40) (show lw_privs[40]? = some (yX9_layStart, 18) by decide +kernel), rfl⟩)) rfl
theorem se_X9_manyLost : Cond.selects yX9_manyLost.cls yX9_manyLost yX9_manyLost ∈ xT := xT_mem (List.mem_append_left _ (List.mem_map.mpr ⟨_, List.mem_of_getElem? (i := 41) (show lw_privs[41]? = some (yX9_manyLost, 18) by decide +kernel), rfl⟩)) rfl
theorem se_X9_kindsOf : Cond.selects yX9_kindsOf.cls yX9_kindsOf yX9_kindsOf ∈ xT := xT_mem (List.mem_append_left _ (List.mem_map.mpr ⟨_, List.mem_of_getElem? (i := 42) (show lw_privs[42]? = some (yX9_kindsOf, 18) by decide +kernel), rfl⟩)) rfl
theorem se_X9_fraction : Cond.selects yX9_fraction.cls yX9_fraction yX9_fraction ∈ xT := xT_mem (List.mem_append_left _ (List.mem_map.mpr ⟨_, List.mem_of_getElem? (i := 43) (show lw_privs[43]? = some (yX9_fraction, 18) by decide +kernel), rfl⟩)) rfl
theorem se_X9_isPair : Cond.selects yX9_isPair.cls yX9_isPair yX9_isPair ∈ xT := xT_mem (List.mem_append_left _ (List.mem_map.mpr ⟨_, List.mem_of_getElem? (i := 44) (show lw_privs[44]? = some (yX9_isPair, 18) by decide +kernel), rfl⟩)) rfl
theorem se_X9_layPair : Cond.selects yX9_layPair.cls yX9_layPair yX9_layPair ∈ xT := xT_mem (List.mem_append_left _ (List.mem_map.mpr ⟨_, List.mem_of_getElem? (i := 45) (show lw_privs[45]? = some (yX9_layPair, 18) by decide +kernel), rfl⟩)) rfl
theorem se_X9_rests : Cond.selects yX9_rests.cls yX9_rests yX9_rests ∈ xT := xT_mem (List.mem_append_left _ (List.mem_map.mpr ⟨_, List.mem_of_getElem? (i := 46) (show lw_privs[46]? = some (yX9_rests, 18) by decide +kernel), rfl⟩)) rfl
theorem se_X9_lookAt : Cond.selects yX9_lookAt.cls yX9_lookAt yX9_lookAt ∈ xT := xT_mem (List.mem_append_left _ (List.mem_map.mpr ⟨_, List.mem_of_getElem? (i := 47) (show lw_privs[47]? = some (yX9_lookAt, 18) by decide +kernel), rfl⟩)) rfl
theorem se_X9_takesBus : Cond.selects yX9_takesBus.cls yX9_takesBus yX9_takesBus ∈ xT := xT_mem (List.mem_append_left _ (List.mem_map.mpr ⟨_, List.mem_of_getElem? (i := 48) (show lw_privs[48]? = some (yX9_takesBus, 18) by decide +kernel), rfl⟩)) rfl
theorem se_X9_spells : Cond.selects yX9_spells.cls yX9_spells yX9_spells ∈ xT := xT_mem (List.mem_append_left _ (List.mem_map.mpr ⟨_, List.mem_of_getElem? (i := 49) (show lw_privs[49]? = some (yX9_spells, 18) by decide +kernel), rfl⟩)) rfl
theorem se_X9_goBehind : Cond.selects yX9_goBehind.cls yX9_goBehind yX9_goBehind ∈ xT := xT_mem (List.mem_append_left _ (List.mem_map.mpr ⟨_, List.mem_of_getElem? (i := 50) (show lw_privs[50]? = some (yX9_goBehind, 18) by decide +kernel), rfl⟩)) rfl
theorem se_X9_takes : Cond.selects yX9_takes.cls yX9_takes yX9_takes ∈ xT := xT_mem (List.mem_append_left _ (List.mem_map.mpr ⟨_, List.mem_of_getElem? (i := 51) (show lw_privs[51]? = some (yX9_takes, 18) by decide +kernel), rfl⟩)) rfl
theorem se_X9_takesItem : Cond.selects yX9_takesItem.cls yX9_takesItem yX9_takesItem ∈ xT := xT_mem (List.mem_append_left _ (List.mem_map.mpr ⟨_, List.mem_of_getElem? (i := 52) (show lw_privs[52]? = some (yX9_takesItem, 18) by decide +kernel), rfl⟩)) rfl
theorem se_X9_takesBridge : Cond.selects yX9_takesBridge.cls yX9_takesBridge yX9_takesBridge ∈ xT := xT_mem (List.mem_append_left _ (List.mem_map.mpr ⟨_, List.mem_of_getElem? (i := 53) (show lw_privs[53]? = some (yX9_takesBridge, 18) by decide +kernel), rfl⟩)) rfl
theorem se_X9_takesIdea : Cond.selects yX9_takesIdea.cls yX9_takesIdea yX9_takesIdea ∈ xT := xT_mem (List.mem_append_left _ (List.mem_map.mpr ⟨_, List.mem_of_getElem? (i := 54) (show lw_privs[54]? = some (yX9_takesIdea, 18) by decide +kernel), rfl⟩)) rfl
theorem se_X9_isQuarrel : Cond.selects yX9_isQuarrel.cls yX9_isQuarrel yX9_isQuarrel ∈ xT := xT_mem (List.mem_append_left _ (List.mem_map.mpr ⟨_, List.mem_of_getElem? (i := 55) (show lw_privs[55]? = some (yX9_isQuarrel, 18) by decide +kernel), rfl⟩)) rfl
theorem se_X9_takesQuarrel : Cond.selects yX9_takesQuarrel.cls yX9_takesQuarrel yX9_takesQuarrel ∈ xT := xT_mem (List.mem_append_left _ (List.mem_map.mpr ⟨_, List.mem_of_getElem? (i := 56) (show lw_privs[56]? = some (yX9_takesQuarrel, 18) by decide +kernel), rfl⟩)) rfl
theorem se_X9_counted : Cond.selects yX9_counted.cls yX9_counted yX9_counted ∈ xT := xT_mem (List.mem_append_left _ (List.mem_map.mpr ⟨_, List.mem_of_getElem? (i := 57) (show lw_privs[57]? = some (yX9_counted, 18) by decide +kernel), rfl⟩)) rfl
theorem se_X9_manyQuarrels : Cond.selects yX9_manyQuarrels.cls yX9_manyQuarrels yX9_manyQuarrels ∈ xT := xT_mem (List.mem_append_left _ (List.mem_map.mpr ⟨_, List.mem_of_getElem? (i := 58) (show lw_privs[58]? = some (yX9_manyQuarrels, 18) by decide +kernel), rfl⟩)) rfl
theorem se_X9_manyBridges : Cond.selects yX9_manyBridges.cls yX9_manyBridges yX9_manyBridges ∈ xT := xT_mem (List.mem_append_left _ (List.mem_map.mpr ⟨_, List.mem_of_getElem? (i := 59) (show lw_privs[59]? = some (yX9_manyBridges, 18) by decide +kernel), rfl⟩)) rfl
theorem se_X9_sums : Cond.selects yX9_sums.cls yX9_sums yX9_sums ∈ xT := xT_mem (List.mem_append_left _ (List.mem_map.mpr ⟨_, List.mem_of_getElem? (i := 60) (show lw_privs[60]? = some (yX9_sums, 18) by decide +kernel), rfl⟩)) rfl
theorem in_System : Cond.initialized "java/lang/System" ∈ xT := xT_of (List.mem_of_getElem? (i := 15) (by decide +kernel)) rfl
end
