-- ===== PART A: goes FIRST, ahead of the names: the tables' words, and 'selects' of the private methods out of them =====
/-- a private method of a class that the tables say can be made, by its rows of tables_1 -/
def lw_okq (q : MethodName × Nat) : Prop := (q.1.cls ≠ "java/lang/invoke/MethodHandle" ∧ q.1.cls ≠ "java/lang/invoke/VarHandle") ∧ Cond.instantiable q.1.cls q.2 ∈ tables_1 ∧ Cond.privateMethod q.1 ∈ tables_1 ∧ Cond.instanceMethod q.1 ∈ tables_1
theorem lw_p0 : lw_okq (⟨"LadderStreet", "putFour", "(I)V"⟩, 14) := ⟨⟨by decide +kernel, by decide +kernel⟩, List.mem_of_getElem? (i := 23) (by decide +kernel), List.mem_of_getElem? (i := 420) (by decide +kernel), List.mem_of_getElem? (i := 421) (by decide +kernel)⟩
theorem lw_p1 : lw_okq (⟨"LadderStreet$Tokens", "splitName", "([BII)I"⟩, 5) := ⟨⟨by decide +kernel, by decide +kernel⟩, List.mem_of_getElem? (i := 123) (by decide +kernel), List.mem_of_getElem? (i := 452) (by decide +kernel), List.mem_of_getElem? (i := 453) (by decide +kernel)⟩
theorem lw_p2 : lw_okq (⟨"LadderStreet$Tokens", "kindOfName", "(J)I"⟩, 5) := ⟨⟨by decide +kernel, by decide +kernel⟩, List.mem_of_getElem? (i := 123) (by decide +kernel), List.mem_of_getElem? (i := 456) (by decide +kernel), List.mem_of_getElem? (i := 457) (by decide +kernel)⟩
theorem lw_p3 : lw_okq (⟨"LadderStreet$Tokens", "add", "(IIJ)V"⟩, 5) := ⟨⟨by decide +kernel, by decide +kernel⟩, List.mem_of_getElem? (i := 123) (by decide +kernel), List.mem_of_getElem? (i := 460) (by decide +kernel), List.mem_of_getElem? (i := 461) (by decide +kernel)⟩
theorem lw_p4 : lw_okq (⟨"LadderStreet$Tokens", "splitInt", "([BII)I"⟩, 5) := ⟨⟨by decide +kernel, by decide +kernel⟩, List.mem_of_getElem? (i := 123) (by decide +kernel), List.mem_of_getElem? (i := 467) (by decide +kernel), List.mem_of_getElem? (i := 468) (by decide +kernel)⟩
theorem lw_p5 : lw_okq (⟨"LadderStreet$Reader", "take", "(I)Z"⟩, 11) := ⟨⟨by decide +kernel, by decide +kernel⟩, List.mem_of_getElem? (i := 31) (by decide +kernel), List.mem_of_getElem? (i := 499) (by decide +kernel), List.mem_of_getElem? (i := 500) (by decide +kernel)⟩
theorem lw_p6 : lw_okq (⟨"LadderStreet$Reader", "fail", "(I)V"⟩, 11) := ⟨⟨by decide +kernel, by decide +kernel⟩, List.mem_of_getElem? (i := 31) (by decide +kernel), List.mem_of_getElem? (i := 503) (by decide +kernel), List.mem_of_getElem? (i := 504) (by decide +kernel)⟩
theorem lw_p7 : lw_okq (⟨"LadderStreet$Reader", "readInt", "(II)I"⟩, 11) := ⟨⟨by decide +kernel, by decide +kernel⟩, List.mem_of_getElem? (i := 31) (by decide +kernel), List.mem_of_getElem? (i := 507) (by decide +kernel), List.mem_of_getElem? (i := 508) (by decide +kernel)⟩
theorem lw_p8 : lw_okq (⟨"LadderStreet$Reader", "note", "(II)V"⟩, 11) := ⟨⟨by decide +kernel, by decide +kernel⟩, List.mem_of_getElem? (i := 31) (by decide +kernel), List.mem_of_getElem? (i := 511) (by decide +kernel), List.mem_of_getElem? (i := 512) (by decide +kernel)⟩
theorem lw_p9 : lw_okq (⟨"LadderStreet$Reader", "readPerson", "()V"⟩, 11) := ⟨⟨by decide +kernel, by decide +kernel⟩, List.mem_of_getElem? (i := 31) (by decide +kernel), List.mem_of_getElem? (i := 515) (by decide +kernel), List.mem_of_getElem? (i := 516) (by decide +kernel)⟩
theorem lw_p10 : lw_okq (⟨"LadderStreet$Reader", "readName", "()V"⟩, 11) := ⟨⟨by decide +kernel, by decide +kernel⟩, List.mem_of_getElem? (i := 31) (by decide +kernel), List.mem_of_getElem? (i := 519) (by decide +kernel), List.mem_of_getElem? (i := 520) (by decide +kernel)⟩
theorem lw_p11 : lw_okq (⟨"LadderStreet$Reader", "readLaw", "(I)V"⟩, 11) := ⟨⟨by decide +kernel, by decide +kernel⟩, List.mem_of_getElem? (i := 31) (by decide +kernel), List.mem_of_getElem? (i := 527) (by decide +kernel), List.mem_of_getElem? (i := 528) (by decide +kernel)⟩
theorem lw_p12 : lw_okq (⟨"LadderStreet$Reader", "readSum", "(I)V"⟩, 11) := ⟨⟨by decide +kernel, by decide +kernel⟩, List.mem_of_getElem? (i := 31) (by decide +kernel), List.mem_of_getElem? (i := 532) (by decide +kernel), List.mem_of_getElem? (i := 533) (by decide +kernel)⟩
theorem lw_p13 : lw_okq (⟨"LadderStreet$Reader", "readProduct", "(I)V"⟩, 11) := ⟨⟨by decide +kernel, by decide +kernel⟩, List.mem_of_getElem? (i := 31) (by decide +kernel), List.mem_of_getElem? (i := 536) (by decide +kernel), List.mem_of_getElem? (i := 537) (by decide +kernel)⟩
theorem lw_p14 : lw_okq (⟨"LadderStreet$Reader", "readUnit", "(I)V"⟩, 11) := ⟨⟨by decide +kernel, by decide +kernel⟩, List.mem_of_getElem? (i := 31) (by decide +kernel), List.mem_of_getElem? (i := 540) (by decide +kernel), List.mem_of_getElem? (i := 541) (by decide +kernel)⟩
theorem lw_p15 : lw_okq (⟨"LadderStreet", "areThere", "(II)Z"⟩, 14) := ⟨⟨by decide +kernel, by decide +kernel⟩, List.mem_of_getElem? (i := 23) (by decide +kernel), List.mem_of_getElem? (i := 677) (by decide +kernel), List.mem_of_getElem? (i := 678) (by decide +kernel)⟩
def lw_privs_1 : List (MethodName × Nat) := [(⟨"LadderStreet", "putFour", "(I)V"⟩, 14), (⟨"LadderStreet$Tokens", "splitName", "([BII)I"⟩, 5), (⟨"LadderStreet$Tokens", "kindOfName", "(J)I"⟩, 5), (⟨"LadderStreet$Tokens", "add", "(IIJ)V"⟩, 5), (⟨"LadderStreet$Tokens", "splitInt", "([BII)I"⟩, 5), (⟨"LadderStreet$Reader", "take", "(I)Z"⟩, 11), (⟨"LadderStreet$Reader", "fail", "(I)V"⟩, 11), (⟨"LadderStreet$Reader", "readInt", "(II)I"⟩, 11), (⟨"LadderStreet$Reader", "note", "(II)V"⟩, 11), (⟨"LadderStreet$Reader", "readPerson", "()V"⟩, 11), (⟨"LadderStreet$Reader", "readName", "()V"⟩, 11), (⟨"LadderStreet$Reader", "readLaw", "(I)V"⟩, 11), (⟨"LadderStreet$Reader", "readSum", "(I)V"⟩, 11), (⟨"LadderStreet$Reader", "readProduct", "(I)V"⟩, 11), (⟨"LadderStreet$Reader", "readUnit", "(I)V"⟩, 11), (⟨"LadderStreet", "areThere", "(II)Z"⟩, 14)]
theorem lw_r1 : ∀ q ∈ lw_privs_1, lw_okq q := List.forall_mem_cons.mpr ⟨lw_p0, List.forall_mem_cons.mpr ⟨lw_p1, List.forall_mem_cons.mpr ⟨lw_p2, List.forall_mem_cons.mpr ⟨lw_p3, List.forall_mem_cons.mpr ⟨lw_p4, List.forall_mem_cons.mpr ⟨lw_p5, List.forall_mem_cons.mpr ⟨lw_p6, List.forall_mem_cons.mpr ⟨lw_p7, List.forall_mem_cons.mpr ⟨lw_p8, List.forall_mem_cons.mpr ⟨lw_p9, List.forall_mem_cons.mpr ⟨lw_p10, List.forall_mem_cons.mpr ⟨lw_p11, List.forall_mem_cons.mpr ⟨lw_p12, List.forall_mem_cons.mpr ⟨lw_p13, List.forall_mem_cons.mpr ⟨lw_p14, List.forall_mem_cons.mpr ⟨lw_p15, fun _ h => absurd h List.not_mem_nil⟩⟩⟩⟩⟩⟩⟩⟩⟩⟩⟩⟩⟩⟩⟩⟩
theorem lw_p16 : lw_okq (⟨"LadderStreet$Course", "cupOf", "(LLadderStreet$Moment;II)I"⟩, 2) := ⟨⟨by decide +kernel, by decide +kernel⟩, List.mem_of_getElem? (i := 268) (by decide +kernel), List.mem_of_getElem? (i := 786) (by decide +kernel), List.mem_of_getElem? (i := 787) (by decide +kernel)⟩
theorem lw_p17 : lw_okq (⟨"LadderStreet$Course", "setPerson", "(LLadderStreet$Moment;I)V"⟩, 2) := ⟨⟨by decide +kernel, by decide +kernel⟩, List.mem_of_getElem? (i := 268) (by decide +kernel), List.mem_of_getElem? (i := 790) (by decide +kernel), List.mem_of_getElem? (i := 791) (by decide +kernel)⟩
theorem lw_p18 : lw_okq (⟨"LadderStreet$Course", "goOn", "(LLadderStreet$Moment;I)V"⟩, 2) := ⟨⟨by decide +kernel, by decide +kernel⟩, List.mem_of_getElem? (i := 268) (by decide +kernel), List.mem_of_getElem? (i := 805) (by decide +kernel), List.mem_of_getElem? (i := 806) (by decide +kernel)⟩
theorem lw_p19 : lw_okq (⟨"LadderStreet$Course", "quarrelOf", "(LLadderStreet$Moment;II)I"⟩, 2) := ⟨⟨by decide +kernel, by decide +kernel⟩, List.mem_of_getElem? (i := 268) (by decide +kernel), List.mem_of_getElem? (i := 814) (by decide +kernel), List.mem_of_getElem? (i := 815) (by decide +kernel)⟩
theorem lw_p20 : lw_okq (⟨"LadderStreet$Course", "breakAndFall", "(LLadderStreet$Moment;I)V"⟩, 2) := ⟨⟨by decide +kernel, by decide +kernel⟩, List.mem_of_getElem? (i := 268) (by decide +kernel), List.mem_of_getElem? (i := 828) (by decide +kernel), List.mem_of_getElem? (i := 829) (by decide +kernel)⟩
theorem lw_p21 : lw_okq (⟨"LadderStreet$Course", "fall", "(LLadderStreet$Moment;I)V"⟩, 2) := ⟨⟨by decide +kernel, by decide +kernel⟩, List.mem_of_getElem? (i := 268) (by decide +kernel), List.mem_of_getElem? (i := 845) (by decide +kernel), List.mem_of_getElem? (i := 846) (by decide +kernel)⟩
theorem lw_p22 : lw_okq (⟨"LadderStreet", "areTwo", "(II)Z"⟩, 14) := ⟨⟨by decide +kernel, by decide +kernel⟩, List.mem_of_getElem? (i := 23) (by decide +kernel), List.mem_of_getElem? (i := 898) (by decide +kernel), List.mem_of_getElem? (i := 899) (by decide +kernel)⟩
theorem lw_p23 : lw_okq (⟨"LadderStreet$Ways", "setSpace", "(LLadderStreet$Moment;II)V"⟩, 5) := ⟨⟨by decide +kernel, by decide +kernel⟩, List.mem_of_getElem? (i := 281) (by decide +kernel), List.mem_of_getElem? (i := 907) (by decide +kernel), List.mem_of_getElem? (i := 908) (by decide +kernel)⟩
theorem lw_p24 : lw_okq (⟨"LadderStreet$Ways", "ownWidth", "(LLadderStreet$Moment;II)I"⟩, 5) := ⟨⟨by decide +kernel, by decide +kernel⟩, List.mem_of_getElem? (i := 281) (by decide +kernel), List.mem_of_getElem? (i := 915) (by decide +kernel), List.mem_of_getElem? (i := 916) (by decide +kernel)⟩
theorem lw_p25 : lw_okq (⟨"LadderStreet$Ways", "spreadBoth", "(II)V"⟩, 5) := ⟨⟨by decide +kernel, by decide +kernel⟩, List.mem_of_getElem? (i := 281) (by decide +kernel), List.mem_of_getElem? (i := 923) (by decide +kernel), List.mem_of_getElem? (i := 924) (by decide +kernel)⟩
theorem lw_p26 : lw_okq (⟨"LadderStreet$Ways", "spreadOne", "(IIII)V"⟩, 5) := ⟨⟨by decide +kernel, by decide +kernel⟩, List.mem_of_getElem? (i := 281) (by decide +kernel), List.mem_of_getElem? (i := 927) (by decide +kernel), List.mem_of_getElem? (i := 928) (by decide +kernel)⟩
theorem lw_p27 : lw_okq (⟨"LadderStreet$Ways", "takes", "(II)Z"⟩, 5) := ⟨⟨by decide +kernel, by decide +kernel⟩, List.mem_of_getElem? (i := 281) (by decide +kernel), List.mem_of_getElem? (i := 932) (by decide +kernel), List.mem_of_getElem? (i := 933) (by decide +kernel)⟩
theorem lw_p28 : lw_okq (⟨"LadderStreet$Ways", "otherPlaces", "(IIII)I"⟩, 5) := ⟨⟨by decide +kernel, by decide +kernel⟩, List.mem_of_getElem? (i := 281) (by decide +kernel), List.mem_of_getElem? (i := 936) (by decide +kernel), List.mem_of_getElem? (i := 937) (by decide +kernel)⟩
theorem lw_p29 : lw_okq (⟨"LadderStreet$Looks", "widthsWith", "(LLadderStreet$Moment;III)I"⟩, 2) := ⟨⟨by decide +kernel, by decide +kernel⟩, List.mem_of_getElem? (i := 303) (by decide +kernel), List.mem_of_getElem? (i := 967) (by decide +kernel), List.mem_of_getElem? (i := 968) (by decide +kernel)⟩
theorem lw_p30 : lw_okq (⟨"LadderStreet$Looks", "whoHears", "(LLadderStreet$Moment;I)I"⟩, 2) := ⟨⟨by decide +kernel, by decide +kernel⟩, List.mem_of_getElem? (i := 303) (by decide +kernel), List.mem_of_getElem? (i := 1040) (by decide +kernel), List.mem_of_getElem? (i := 1041) (by decide +kernel)⟩
theorem lw_p31 : lw_okq (⟨"LadderStreet", "letDownLater", "(I)V"⟩, 14) := ⟨⟨by decide +kernel, by decide +kernel⟩, List.mem_of_getElem? (i := 23) (by decide +kernel), List.mem_of_getElem? (i := 1080) (by decide +kernel), List.mem_of_getElem? (i := 1081) (by decide +kernel)⟩
def lw_privs_2 : List (MethodName × Nat) := [(⟨"LadderStreet$Course", "cupOf", "(LLadderStreet$Moment;II)I"⟩, 2), (⟨"LadderStreet$Course", "setPerson", "(LLadderStreet$Moment;I)V"⟩, 2), (⟨"LadderStreet$Course", "goOn", "(LLadderStreet$Moment;I)V"⟩, 2), (⟨"LadderStreet$Course", "quarrelOf", "(LLadderStreet$Moment;II)I"⟩, 2), (⟨"LadderStreet$Course", "breakAndFall", "(LLadderStreet$Moment;I)V"⟩, 2), (⟨"LadderStreet$Course", "fall", "(LLadderStreet$Moment;I)V"⟩, 2), (⟨"LadderStreet", "areTwo", "(II)Z"⟩, 14), (⟨"LadderStreet$Ways", "setSpace", "(LLadderStreet$Moment;II)V"⟩, 5), (⟨"LadderStreet$Ways", "ownWidth", "(LLadderStreet$Moment;II)I"⟩, 5), (⟨"LadderStreet$Ways", "spreadBoth", "(II)V"⟩, 5), (⟨"LadderStreet$Ways", "spreadOne", "(IIII)V"⟩, 5), (⟨"LadderStreet$Ways", "takes", "(II)Z"⟩, 5), (⟨"LadderStreet$Ways", "otherPlaces", "(IIII)I"⟩, 5), (⟨"LadderStreet$Looks", "widthsWith", "(LLadderStreet$Moment;III)I"⟩, 2), (⟨"LadderStreet$Looks", "whoHears", "(LLadderStreet$Moment;I)I"⟩, 2), (⟨"LadderStreet", "letDownLater", "(I)V"⟩, 14)]
theorem lw_r2 : ∀ q ∈ lw_privs_2, lw_okq q := List.forall_mem_cons.mpr ⟨lw_p16, List.forall_mem_cons.mpr ⟨lw_p17, List.forall_mem_cons.mpr ⟨lw_p18, List.forall_mem_cons.mpr ⟨lw_p19, List.forall_mem_cons.mpr ⟨lw_p20, List.forall_mem_cons.mpr ⟨lw_p21, List.forall_mem_cons.mpr ⟨lw_p22, List.forall_mem_cons.mpr ⟨lw_p23, List.forall_mem_cons.mpr ⟨lw_p24, List.forall_mem_cons.mpr ⟨lw_p25, List.forall_mem_cons.mpr ⟨lw_p26, List.forall_mem_cons.mpr ⟨lw_p27, List.forall_mem_cons.mpr ⟨lw_p28, List.forall_mem_cons.mpr ⟨lw_p29, List.forall_mem_cons.mpr ⟨lw_p30, List.forall_mem_cons.mpr ⟨lw_p31, fun _ h => absurd h List.not_mem_nil⟩⟩⟩⟩⟩⟩⟩⟩⟩⟩⟩⟩⟩⟩⟩⟩
theorem lw_p32 : lw_okq (⟨"LadderStreet$Course", "nobodyGoes", "(LLadderStreet$Moment;)Z"⟩, 2) := ⟨⟨by decide +kernel, by decide +kernel⟩, List.mem_of_getElem? (i := 268) (by decide +kernel), List.mem_of_getElem? (i := 1108) (by decide +kernel), List.mem_of_getElem? (i := 1109) (by decide +kernel)⟩
theorem lw_p33 : lw_okq (⟨"LadderStreet", "lookAhead", "(I)V"⟩, 14) := ⟨⟨by decide +kernel, by decide +kernel⟩, List.mem_of_getElem? (i := 23) (by decide +kernel), List.mem_of_getElem? (i := 1121) (by decide +kernel), List.mem_of_getElem? (i := 1122) (by decide +kernel)⟩
theorem lw_p34 : lw_okq (⟨"LadderStreet$Rumours", "doesFit", "(LLadderStreet$Moment;II)Z"⟩, 4) := ⟨⟨by decide +kernel, by decide +kernel⟩, List.mem_of_getElem? (i := 335) (by decide +kernel), List.mem_of_getElem? (i := 1166) (by decide +kernel), List.mem_of_getElem? (i := 1167) (by decide +kernel)⟩
theorem lw_p35 : lw_okq (⟨"LadderStreet$Rumours", "treads", "(LLadderStreet$Moment;II)Z"⟩, 4) := ⟨⟨by decide +kernel, by decide +kernel⟩, List.mem_of_getElem? (i := 335) (by decide +kernel), List.mem_of_getElem? (i := 1171) (by decide +kernel), List.mem_of_getElem? (i := 1172) (by decide +kernel)⟩
theorem lw_p36 : lw_okq (⟨"LadderStreet$Rumours", "whoTreads", "(LLadderStreet$Moment;I)I"⟩, 4) := ⟨⟨by decide +kernel, by decide +kernel⟩, List.mem_of_getElem? (i := 335) (by decide +kernel), List.mem_of_getElem? (i := 1184) (by decide +kernel), List.mem_of_getElem? (i := 1185) (by decide +kernel)⟩
theorem lw_p37 : lw_okq (⟨"LadderStreetModel", "plain", "(I)V"⟩, 63) := ⟨⟨by decide +kernel, by decide +kernel⟩, List.mem_of_getElem? (i := 1190) (by decide +kernel), List.mem_of_getElem? (i := 1196) (by decide +kernel), List.mem_of_getElem? (i := 1197) (by decide +kernel)⟩
theorem lw_p38 : lw_okq (⟨"LadderStreetModel", "begins", "()V"⟩, 63) := ⟨⟨by decide +kernel, by decide +kernel⟩, List.mem_of_getElem? (i := 1190) (by decide +kernel), List.mem_of_getElem? (i := 1207) (by decide +kernel), List.mem_of_getElem? (i := 1208) (by decide +kernel)⟩
theorem lw_p39 : lw_okq (⟨"LadderStreetModel", "keepsRow", "()V"⟩, 63) := ⟨⟨by decide +kernel, by decide +kernel⟩, List.mem_of_getElem? (i := 1190) (by decide +kernel), List.mem_of_getElem? (i := 1211) (by decide +kernel), List.mem_of_getElem? (i := 1212) (by decide +kernel)⟩
theorem lw_p40 : lw_okq (⟨"LadderStreetModel", "put", "(I)V"⟩, 63) := ⟨⟨by decide +kernel, by decide +kernel⟩, List.mem_of_getElem? (i := 1190) (by decide +kernel), List.mem_of_getElem? (i := 1408) (by decide +kernel), List.mem_of_getElem? (i := 1409) (by decide +kernel)⟩
theorem lw_p41 : lw_okq (⟨"LadderStreetModel", "cut", "()V"⟩, 63) := ⟨⟨by decide +kernel, by decide +kernel⟩, List.mem_of_getElem? (i := 1190) (by decide +kernel), List.mem_of_getElem? (i := 1420) (by decide +kernel), List.mem_of_getElem? (i := 1421) (by decide +kernel)⟩
theorem lw_p42 : lw_okq (⟨"LadderStreetModel", "byteAt", "(I)I"⟩, 63) := ⟨⟨by decide +kernel, by decide +kernel⟩, List.mem_of_getElem? (i := 1190) (by decide +kernel), List.mem_of_getElem? (i := 1424) (by decide +kernel), List.mem_of_getElem? (i := 1425) (by decide +kernel)⟩
theorem lw_p43 : lw_okq (⟨"LadderStreetModel", "token", "(IIIJ)V"⟩, 63) := ⟨⟨by decide +kernel, by decide +kernel⟩, List.mem_of_getElem? (i := 1190) (by decide +kernel), List.mem_of_getElem? (i := 1428) (by decide +kernel), List.mem_of_getElem? (i := 1429) (by decide +kernel)⟩
theorem lw_p44 : lw_okq (⟨"LadderStreetModel", "sign", "(III)I"⟩, 63) := ⟨⟨by decide +kernel, by decide +kernel⟩, List.mem_of_getElem? (i := 1190) (by decide +kernel), List.mem_of_getElem? (i := 1438) (by decide +kernel), List.mem_of_getElem? (i := 1439) (by decide +kernel)⟩
theorem lw_p45 : lw_okq (⟨"LadderStreetModel", "is", "(I)Z"⟩, 63) := ⟨⟨by decide +kernel, by decide +kernel⟩, List.mem_of_getElem? (i := 1190) (by decide +kernel), List.mem_of_getElem? (i := 1442) (by decide +kernel), List.mem_of_getElem? (i := 1443) (by decide +kernel)⟩
theorem lw_p46 : lw_okq (⟨"LadderStreetModel", "tellOne", "()V"⟩, 63) := ⟨⟨by decide +kernel, by decide +kernel⟩, List.mem_of_getElem? (i := 1190) (by decide +kernel), List.mem_of_getElem? (i := 1446) (by decide +kernel), List.mem_of_getElem? (i := 1447) (by decide +kernel)⟩
theorem lw_p47 : lw_okq (⟨"LadderStreetModel", "goesOn", "()V"⟩, 63) := ⟨⟨by decide +kernel, by decide +kernel⟩, List.mem_of_getElem? (i := 1190) (by decide +kernel), List.mem_of_getElem? (i := 1450) (by decide +kernel), List.mem_of_getElem? (i := 1451) (by decide +kernel)⟩
def lw_privs_3 : List (MethodName × Nat) := [(⟨"LadderStreet$Course", "nobodyGoes", "(LLadderStreet$Moment;)Z"⟩, 2), (⟨"LadderStreet", "lookAhead", "(I)V"⟩, 14), (⟨"LadderStreet$Rumours", "doesFit", "(LLadderStreet$Moment;II)Z"⟩, 4), (⟨"LadderStreet$Rumours", "treads", "(LLadderStreet$Moment;II)Z"⟩, 4), (⟨"LadderStreet$Rumours", "whoTreads", "(LLadderStreet$Moment;I)I"⟩, 4), (⟨"LadderStreetModel", "plain", "(I)V"⟩, 63), (⟨"LadderStreetModel", "begins", "()V"⟩, 63), (⟨"LadderStreetModel", "keepsRow", "()V"⟩, 63), (⟨"LadderStreetModel", "put", "(I)V"⟩, 63), (⟨"LadderStreetModel", "cut", "()V"⟩, 63), (⟨"LadderStreetModel", "byteAt", "(I)I"⟩, 63), (⟨"LadderStreetModel", "token", "(IIIJ)V"⟩, 63), (⟨"LadderStreetModel", "sign", "(III)I"⟩, 63), (⟨"LadderStreetModel", "is", "(I)Z"⟩, 63), (⟨"LadderStreetModel", "tellOne", "()V"⟩, 63), (⟨"LadderStreetModel", "goesOn", "()V"⟩, 63)]
theorem lw_r3 : ∀ q ∈ lw_privs_3, lw_okq q := List.forall_mem_cons.mpr ⟨lw_p32, List.forall_mem_cons.mpr ⟨lw_p33, List.forall_mem_cons.mpr ⟨lw_p34, List.forall_mem_cons.mpr ⟨lw_p35, List.forall_mem_cons.mpr ⟨lw_p36, List.forall_mem_cons.mpr ⟨lw_p37, List.forall_mem_cons.mpr ⟨lw_p38, List.forall_mem_cons.mpr ⟨lw_p39, List.forall_mem_cons.mpr ⟨lw_p40, List.forall_mem_cons.mpr ⟨lw_p41, List.forall_mem_cons.mpr ⟨lw_p42, List.forall_mem_cons.mpr ⟨lw_p43, List.forall_mem_cons.mpr ⟨lw_p44, List.forall_mem_cons.mpr ⟨lw_p45, List.forall_mem_cons.mpr ⟨lw_p46, List.forall_mem_cons.mpr ⟨lw_p47, fun _ h => absurd h List.not_mem_nil⟩⟩⟩⟩⟩⟩⟩⟩⟩⟩⟩⟩⟩⟩⟩⟩
theorem lw_p48 : lw_okq (⟨"LadderStreetModel", "fail", "(I)V"⟩, 63) := ⟨⟨by decide +kernel, by decide +kernel⟩, List.mem_of_getElem? (i := 1190) (by decide +kernel), List.mem_of_getElem? (i := 1454) (by decide +kernel), List.mem_of_getElem? (i := 1455) (by decide +kernel)⟩
theorem lw_p49 : lw_okq (⟨"LadderStreetModel", "bounded", "(II)I"⟩, 63) := ⟨⟨by decide +kernel, by decide +kernel⟩, List.mem_of_getElem? (i := 1190) (by decide +kernel), List.mem_of_getElem? (i := 1458) (by decide +kernel), List.mem_of_getElem? (i := 1459) (by decide +kernel)⟩
theorem lw_p50 : lw_okq (⟨"LadderStreetModel", "wrong", "(II)V"⟩, 63) := ⟨⟨by decide +kernel, by decide +kernel⟩, List.mem_of_getElem? (i := 1190) (by decide +kernel), List.mem_of_getElem? (i := 1462) (by decide +kernel), List.mem_of_getElem? (i := 1463) (by decide +kernel)⟩
theorem lw_p51 : lw_okq (⟨"LadderStreetModel", "must", "(I)V"⟩, 63) := ⟨⟨by decide +kernel, by decide +kernel⟩, List.mem_of_getElem? (i := 1190) (by decide +kernel), List.mem_of_getElem? (i := 1466) (by decide +kernel), List.mem_of_getElem? (i := 1467) (by decide +kernel)⟩
theorem lw_p52 : lw_okq (⟨"LadderStreetModel", "roomFor", "(II)V"⟩, 63) := ⟨⟨by decide +kernel, by decide +kernel⟩, List.mem_of_getElem? (i := 1190) (by decide +kernel), List.mem_of_getElem? (i := 1470) (by decide +kernel), List.mem_of_getElem? (i := 1471) (by decide +kernel)⟩
theorem lw_p53 : lw_okq (⟨"LadderStreetModel", "tellPerson", "()V"⟩, 63) := ⟨⟨by decide +kernel, by decide +kernel⟩, List.mem_of_getElem? (i := 1190) (by decide +kernel), List.mem_of_getElem? (i := 1474) (by decide +kernel), List.mem_of_getElem? (i := 1475) (by decide +kernel)⟩
theorem lw_p54 : lw_okq (⟨"LadderStreetModel", "tellLaw", "(I)V"⟩, 63) := ⟨⟨by decide +kernel, by decide +kernel⟩, List.mem_of_getElem? (i := 1190) (by decide +kernel), List.mem_of_getElem? (i := 1478) (by decide +kernel), List.mem_of_getElem? (i := 1479) (by decide +kernel)⟩
theorem lw_p55 : lw_okq (⟨"LadderStreetModel", "expression", "()V"⟩, 63) := ⟨⟨by decide +kernel, by decide +kernel⟩, List.mem_of_getElem? (i := 1190) (by decide +kernel), List.mem_of_getElem? (i := 1482) (by decide +kernel), List.mem_of_getElem? (i := 1483) (by decide +kernel)⟩
theorem lw_p56 : lw_okq (⟨"LadderStreetModel", "unit", "()V"⟩, 63) := ⟨⟨by decide +kernel, by decide +kernel⟩, List.mem_of_getElem? (i := 1190) (by decide +kernel), List.mem_of_getElem? (i := 1486) (by decide +kernel), List.mem_of_getElem? (i := 1487) (by decide +kernel)⟩
theorem lw_p57 : lw_okq (⟨"LadderStreetModel", "emit", "(II)V"⟩, 63) := ⟨⟨by decide +kernel, by decide +kernel⟩, List.mem_of_getElem? (i := 1190) (by decide +kernel), List.mem_of_getElem? (i := 1490) (by decide +kernel), List.mem_of_getElem? (i := 1491) (by decide +kernel)⟩
theorem lw_p58 : lw_okq (⟨"LadderStreetModel", "comesOut", "(Z)V"⟩, 63) := ⟨⟨by decide +kernel, by decide +kernel⟩, List.mem_of_getElem? (i := 1190) (by decide +kernel), List.mem_of_getElem? (i := 1494) (by decide +kernel), List.mem_of_getElem? (i := 1495) (by decide +kernel)⟩
theorem lw_p59 : lw_okq (⟨"LadderStreetModel", "term", "()V"⟩, 63) := ⟨⟨by decide +kernel, by decide +kernel⟩, List.mem_of_getElem? (i := 1190) (by decide +kernel), List.mem_of_getElem? (i := 1498) (by decide +kernel), List.mem_of_getElem? (i := 1499) (by decide +kernel)⟩
theorem lw_p60 : lw_okq (⟨"LadderStreetModel", "areOn", "()Z"⟩, 63) := ⟨⟨by decide +kernel, by decide +kernel⟩, List.mem_of_getElem? (i := 1190) (by decide +kernel), List.mem_of_getElem? (i := 1502) (by decide +kernel), List.mem_of_getElem? (i := 1503) (by decide +kernel)⟩
theorem lw_p61 : lw_okq (⟨"LadderStreetModel", "isPerson", "(I)Z"⟩, 63) := ⟨⟨by decide +kernel, by decide +kernel⟩, List.mem_of_getElem? (i := 1190) (by decide +kernel), List.mem_of_getElem? (i := 1514) (by decide +kernel), List.mem_of_getElem? (i := 1515) (by decide +kernel)⟩
theorem lw_p62 : lw_okq (⟨"LadderStreetModel", "widthAt", "(I)I"⟩, 63) := ⟨⟨by decide +kernel, by decide +kernel⟩, List.mem_of_getElem? (i := 1190) (by decide +kernel), List.mem_of_getElem? (i := 1521) (by decide +kernel), List.mem_of_getElem? (i := 1522) (by decide +kernel)⟩
theorem lw_p63 : lw_okq (⟨"LadderStreetModel", "isRung", "(I)Z"⟩, 63) := ⟨⟨by decide +kernel, by decide +kernel⟩, List.mem_of_getElem? (i := 1190) (by decide +kernel), List.mem_of_getElem? (i := 1529) (by decide +kernel), List.mem_of_getElem? (i := 1530) (by decide +kernel)⟩
def lw_privs_4 : List (MethodName × Nat) := [(⟨"LadderStreetModel", "fail", "(I)V"⟩, 63), (⟨"LadderStreetModel", "bounded", "(II)I"⟩, 63), (⟨"LadderStreetModel", "wrong", "(II)V"⟩, 63), (⟨"LadderStreetModel", "must", "(I)V"⟩, 63), (⟨"LadderStreetModel", "roomFor", "(II)V"⟩, 63), (⟨"LadderStreetModel", "tellPerson", "()V"⟩, 63), (⟨"LadderStreetModel", "tellLaw", "(I)V"⟩, 63), (⟨"LadderStreetModel", "expression", "()V"⟩, 63), (⟨"LadderStreetModel", "unit", "()V"⟩, 63), (⟨"LadderStreetModel", "emit", "(II)V"⟩, 63), (⟨"LadderStreetModel", "comesOut", "(Z)V"⟩, 63), (⟨"LadderStreetModel", "term", "()V"⟩, 63), (⟨"LadderStreetModel", "areOn", "()Z"⟩, 63), (⟨"LadderStreetModel", "isPerson", "(I)Z"⟩, 63), (⟨"LadderStreetModel", "widthAt", "(I)I"⟩, 63), (⟨"LadderStreetModel", "isRung", "(I)Z"⟩, 63)]
theorem lw_r4 : ∀ q ∈ lw_privs_4, lw_okq q := List.forall_mem_cons.mpr ⟨lw_p48, List.forall_mem_cons.mpr ⟨lw_p49, List.forall_mem_cons.mpr ⟨lw_p50, List.forall_mem_cons.mpr ⟨lw_p51, List.forall_mem_cons.mpr ⟨lw_p52, List.forall_mem_cons.mpr ⟨lw_p53, List.forall_mem_cons.mpr ⟨lw_p54, List.forall_mem_cons.mpr ⟨lw_p55, List.forall_mem_cons.mpr ⟨lw_p56, List.forall_mem_cons.mpr ⟨lw_p57, List.forall_mem_cons.mpr ⟨lw_p58, List.forall_mem_cons.mpr ⟨lw_p59, List.forall_mem_cons.mpr ⟨lw_p60, List.forall_mem_cons.mpr ⟨lw_p61, List.forall_mem_cons.mpr ⟨lw_p62, List.forall_mem_cons.mpr ⟨lw_p63, fun _ h => absurd h List.not_mem_nil⟩⟩⟩⟩⟩⟩⟩⟩⟩⟩⟩⟩⟩⟩⟩⟩
theorem lw_p64 : lw_okq (⟨"LadderStreetModel", "copies", "()V"⟩, 63) := ⟨⟨by decide +kernel, by decide +kernel⟩, List.mem_of_getElem? (i := 1190) (by decide +kernel), List.mem_of_getElem? (i := 1533) (by decide +kernel), List.mem_of_getElem? (i := 1534) (by decide +kernel)⟩
theorem lw_p65 : lw_okq (⟨"LadderStreetModel", "roomOf", "(I)I"⟩, 63) := ⟨⟨by decide +kernel, by decide +kernel⟩, List.mem_of_getElem? (i := 1190) (by decide +kernel), List.mem_of_getElem? (i := 1537) (by decide +kernel), List.mem_of_getElem? (i := 1538) (by decide +kernel)⟩
theorem lw_p66 : lw_okq (⟨"LadderStreetModel", "looks", "(I)V"⟩, 63) := ⟨⟨by decide +kernel, by decide +kernel⟩, List.mem_of_getElem? (i := 1190) (by decide +kernel), List.mem_of_getElem? (i := 1541) (by decide +kernel), List.mem_of_getElem? (i := 1542) (by decide +kernel)⟩
theorem lw_p67 : lw_okq (⟨"LadderStreetModel", "lawTells", "(II)I"⟩, 63) := ⟨⟨by decide +kernel, by decide +kernel⟩, List.mem_of_getElem? (i := 1190) (by decide +kernel), List.mem_of_getElem? (i := 1545) (by decide +kernel), List.mem_of_getElem? (i := 1546) (by decide +kernel)⟩
theorem lw_p68 : lw_okq (⟨"LadderStreetModel", "termOf", "(II)I"⟩, 63) := ⟨⟨by decide +kernel, by decide +kernel⟩, List.mem_of_getElem? (i := 1190) (by decide +kernel), List.mem_of_getElem? (i := 1549) (by decide +kernel), List.mem_of_getElem? (i := 1550) (by decide +kernel)⟩
theorem lw_p69 : lw_okq (⟨"LadderStreetModel", "widthsOn", "(I)I"⟩, 63) := ⟨⟨by decide +kernel, by decide +kernel⟩, List.mem_of_getElem? (i := 1190) (by decide +kernel), List.mem_of_getElem? (i := 1556) (by decide +kernel), List.mem_of_getElem? (i := 1557) (by decide +kernel)⟩
theorem lw_p70 : lw_okq (⟨"LadderStreetModel", "onRung", "(I)I"⟩, 63) := ⟨⟨by decide +kernel, by decide +kernel⟩, List.mem_of_getElem? (i := 1190) (by decide +kernel), List.mem_of_getElem? (i := 1560) (by decide +kernel), List.mem_of_getElem? (i := 1561) (by decide +kernel)⟩
theorem lw_p71 : lw_okq (⟨"LadderStreetModel", "widthsOf", "(I)I"⟩, 63) := ⟨⟨by decide +kernel, by decide +kernel⟩, List.mem_of_getElem? (i := 1190) (by decide +kernel), List.mem_of_getElem? (i := 1564) (by decide +kernel), List.mem_of_getElem? (i := 1565) (by decide +kernel)⟩
theorem lw_p72 : lw_okq (⟨"LadderStreetModel", "isWhole", "(I)Z"⟩, 63) := ⟨⟨by decide +kernel, by decide +kernel⟩, List.mem_of_getElem? (i := 1190) (by decide +kernel), List.mem_of_getElem? (i := 1568) (by decide +kernel), List.mem_of_getElem? (i := 1569) (by decide +kernel)⟩
theorem lw_p73 : lw_okq (⟨"LadderStreetModel", "breaksOf", "(I)I"⟩, 63) := ⟨⟨by decide +kernel, by decide +kernel⟩, List.mem_of_getElem? (i := 1190) (by decide +kernel), List.mem_of_getElem? (i := 1572) (by decide +kernel), List.mem_of_getElem? (i := 1573) (by decide +kernel)⟩
theorem lw_p74 : lw_okq (⟨"LadderStreetModel", "couldCome", "(II)Z"⟩, 63) := ⟨⟨by decide +kernel, by decide +kernel⟩, List.mem_of_getElem? (i := 1190) (by decide +kernel), List.mem_of_getElem? (i := 1583) (by decide +kernel), List.mem_of_getElem? (i := 1584) (by decide +kernel)⟩
theorem lw_p75 : lw_okq (⟨"LadderStreetModel", "hasRoom", "(III)Z"⟩, 63) := ⟨⟨by decide +kernel, by decide +kernel⟩, List.mem_of_getElem? (i := 1190) (by decide +kernel), List.mem_of_getElem? (i := 1587) (by decide +kernel), List.mem_of_getElem? (i := 1588) (by decide +kernel)⟩
theorem lw_p76 : lw_okq (⟨"LadderStreetModel", "records", "()V"⟩, 63) := ⟨⟨by decide +kernel, by decide +kernel⟩, List.mem_of_getElem? (i := 1190) (by decide +kernel), List.mem_of_getElem? (i := 1595) (by decide +kernel), List.mem_of_getElem? (i := 1596) (by decide +kernel)⟩
theorem lw_p77 : lw_okq (⟨"LadderStreetModel", "pours", "(I)I"⟩, 63) := ⟨⟨by decide +kernel, by decide +kernel⟩, List.mem_of_getElem? (i := 1190) (by decide +kernel), List.mem_of_getElem? (i := 1610) (by decide +kernel), List.mem_of_getElem? (i := 1611) (by decide +kernel)⟩
theorem lw_p78 : lw_okq (⟨"LadderStreetModel", "cupOf", "(II)I"⟩, 63) := ⟨⟨by decide +kernel, by decide +kernel⟩, List.mem_of_getElem? (i := 1190) (by decide +kernel), List.mem_of_getElem? (i := 1614) (by decide +kernel), List.mem_of_getElem? (i := 1615) (by decide +kernel)⟩
theorem lw_p79 : lw_okq (⟨"LadderStreetModel", "looksAt", "(I)V"⟩, 63) := ⟨⟨by decide +kernel, by decide +kernel⟩, List.mem_of_getElem? (i := 1190) (by decide +kernel), List.mem_of_getElem? (i := 1618) (by decide +kernel), List.mem_of_getElem? (i := 1619) (by decide +kernel)⟩
def lw_privs_5 : List (MethodName × Nat) := [(⟨"LadderStreetModel", "copies", "()V"⟩, 63), (⟨"LadderStreetModel", "roomOf", "(I)I"⟩, 63), (⟨"LadderStreetModel", "looks", "(I)V"⟩, 63), (⟨"LadderStreetModel", "lawTells", "(II)I"⟩, 63), (⟨"LadderStreetModel", "termOf", "(II)I"⟩, 63), (⟨"LadderStreetModel", "widthsOn", "(I)I"⟩, 63), (⟨"LadderStreetModel", "onRung", "(I)I"⟩, 63), (⟨"LadderStreetModel", "widthsOf", "(I)I"⟩, 63), (⟨"LadderStreetModel", "isWhole", "(I)Z"⟩, 63), (⟨"LadderStreetModel", "breaksOf", "(I)I"⟩, 63), (⟨"LadderStreetModel", "couldCome", "(II)Z"⟩, 63), (⟨"LadderStreetModel", "hasRoom", "(III)Z"⟩, 63), (⟨"LadderStreetModel", "records", "()V"⟩, 63), (⟨"LadderStreetModel", "pours", "(I)I"⟩, 63), (⟨"LadderStreetModel", "cupOf", "(II)I"⟩, 63), (⟨"LadderStreetModel", "looksAt", "(I)V"⟩, 63)]
theorem lw_r5 : ∀ q ∈ lw_privs_5, lw_okq q := List.forall_mem_cons.mpr ⟨lw_p64, List.forall_mem_cons.mpr ⟨lw_p65, List.forall_mem_cons.mpr ⟨lw_p66, List.forall_mem_cons.mpr ⟨lw_p67, List.forall_mem_cons.mpr ⟨lw_p68, List.forall_mem_cons.mpr ⟨lw_p69, List.forall_mem_cons.mpr ⟨lw_p70, List.forall_mem_cons.mpr ⟨lw_p71, List.forall_mem_cons.mpr ⟨lw_p72, List.forall_mem_cons.mpr ⟨lw_p73, List.forall_mem_cons.mpr ⟨lw_p74, List.forall_mem_cons.mpr ⟨lw_p75, List.forall_mem_cons.mpr ⟨lw_p76, List.forall_mem_cons.mpr ⟨lw_p77, List.forall_mem_cons.mpr ⟨lw_p78, List.forall_mem_cons.mpr ⟨lw_p79, fun _ h => absurd h List.not_mem_nil⟩⟩⟩⟩⟩⟩⟩⟩⟩⟩⟩⟩⟩⟩⟩⟩
theorem lw_p80 : lw_okq (⟨"LadderStreetModel", "goes", "(I)V"⟩, 63) := ⟨⟨by decide +kernel, by decide +kernel⟩, List.mem_of_getElem? (i := 1190) (by decide +kernel), List.mem_of_getElem? (i := 1629) (by decide +kernel), List.mem_of_getElem? (i := 1630) (by decide +kernel)⟩
theorem lw_p81 : lw_okq (⟨"LadderStreetModel", "minuteGoes", "()V"⟩, 63) := ⟨⟨by decide +kernel, by decide +kernel⟩, List.mem_of_getElem? (i := 1190) (by decide +kernel), List.mem_of_getElem? (i := 1633) (by decide +kernel), List.mem_of_getElem? (i := 1634) (by decide +kernel)⟩
theorem lw_p82 : lw_okq (⟨"LadderStreetModel", "personGoes", "(I)V"⟩, 63) := ⟨⟨by decide +kernel, by decide +kernel⟩, List.mem_of_getElem? (i := 1190) (by decide +kernel), List.mem_of_getElem? (i := 1637) (by decide +kernel), List.mem_of_getElem? (i := 1638) (by decide +kernel)⟩
theorem lw_p83 : lw_okq (⟨"LadderStreetModel", "quarrelOf", "(II)I"⟩, 63) := ⟨⟨by decide +kernel, by decide +kernel⟩, List.mem_of_getElem? (i := 1190) (by decide +kernel), List.mem_of_getElem? (i := 1644) (by decide +kernel), List.mem_of_getElem? (i := 1645) (by decide +kernel)⟩
theorem lw_p84 : lw_okq (⟨"LadderStreetModel", "breakingBits", "()I"⟩, 63) := ⟨⟨by decide +kernel, by decide +kernel⟩, List.mem_of_getElem? (i := 1190) (by decide +kernel), List.mem_of_getElem? (i := 1649) (by decide +kernel), List.mem_of_getElem? (i := 1650) (by decide +kernel)⟩
theorem lw_p85 : lw_okq (⟨"LadderStreetModel", "lotOf", "(I)I"⟩, 63) := ⟨⟨by decide +kernel, by decide +kernel⟩, List.mem_of_getElem? (i := 1190) (by decide +kernel), List.mem_of_getElem? (i := 1653) (by decide +kernel), List.mem_of_getElem? (i := 1654) (by decide +kernel)⟩
theorem lw_p86 : lw_okq (⟨"LadderStreetModel", "theyBreak", "(I)V"⟩, 63) := ⟨⟨by decide +kernel, by decide +kernel⟩, List.mem_of_getElem? (i := 1190) (by decide +kernel), List.mem_of_getElem? (i := 1661) (by decide +kernel), List.mem_of_getElem? (i := 1662) (by decide +kernel)⟩
theorem lw_p87 : lw_okq (⟨"LadderStreetModel", "falls", "(I)V"⟩, 63) := ⟨⟨by decide +kernel, by decide +kernel⟩, List.mem_of_getElem? (i := 1190) (by decide +kernel), List.mem_of_getElem? (i := 1665) (by decide +kernel), List.mem_of_getElem? (i := 1666) (by decide +kernel)⟩
theorem lw_p88 : lw_okq (⟨"LadderStreetModel", "blockBits", "(II)I"⟩, 63) := ⟨⟨by decide +kernel, by decide +kernel⟩, List.mem_of_getElem? (i := 1190) (by decide +kernel), List.mem_of_getElem? (i := 1677) (by decide +kernel), List.mem_of_getElem? (i := 1678) (by decide +kernel)⟩
theorem lw_p89 : lw_okq (⟨"LadderStreetModel", "errandsFrom", "()I"⟩, 63) := ⟨⟨by decide +kernel, by decide +kernel⟩, List.mem_of_getElem? (i := 1190) (by decide +kernel), List.mem_of_getElem? (i := 1685) (by decide +kernel), List.mem_of_getElem? (i := 1686) (by decide +kernel)⟩
theorem lw_p90 : lw_okq (⟨"LadderStreetModel", "goalBits", "()I"⟩, 63) := ⟨⟨by decide +kernel, by decide +kernel⟩, List.mem_of_getElem? (i := 1190) (by decide +kernel), List.mem_of_getElem? (i := 1689) (by decide +kernel), List.mem_of_getElem? (i := 1690) (by decide +kernel)⟩
theorem lw_p91 : lw_okq (⟨"LadderStreetModel", "bothGo", "(IIII)V"⟩, 63) := ⟨⟨by decide +kernel, by decide +kernel⟩, List.mem_of_getElem? (i := 1190) (by decide +kernel), List.mem_of_getElem? (i := 1697) (by decide +kernel), List.mem_of_getElem? (i := 1698) (by decide +kernel)⟩
theorem lw_p92 : lw_okq (⟨"LadderStreetModel", "otherGoes", "(I)V"⟩, 63) := ⟨⟨by decide +kernel, by decide +kernel⟩, List.mem_of_getElem? (i := 1190) (by decide +kernel), List.mem_of_getElem? (i := 1701) (by decide +kernel), List.mem_of_getElem? (i := 1702) (by decide +kernel)⟩
theorem lw_p93 : lw_okq (⟨"LadderStreetModel", "marks", "(I)V"⟩, 63) := ⟨⟨by decide +kernel, by decide +kernel⟩, List.mem_of_getElem? (i := 1190) (by decide +kernel), List.mem_of_getElem? (i := 1705) (by decide +kernel), List.mem_of_getElem? (i := 1706) (by decide +kernel)⟩
theorem lw_p94 : lw_okq (⟨"LadderStreetModel", "aloneTo", "(II)I"⟩, 63) := ⟨⟨by decide +kernel, by decide +kernel⟩, List.mem_of_getElem? (i := 1190) (by decide +kernel), List.mem_of_getElem? (i := 1713) (by decide +kernel), List.mem_of_getElem? (i := 1714) (by decide +kernel)⟩
theorem lw_p95 : lw_okq (⟨"LadderStreetModel", "partsOf", "(II)I"⟩, 63) := ⟨⟨by decide +kernel, by decide +kernel⟩, List.mem_of_getElem? (i := 1190) (by decide +kernel), List.mem_of_getElem? (i := 1736) (by decide +kernel), List.mem_of_getElem? (i := 1737) (by decide +kernel)⟩
def lw_privs_6 : List (MethodName × Nat) := [(⟨"LadderStreetModel", "goes", "(I)V"⟩, 63), (⟨"LadderStreetModel", "minuteGoes", "()V"⟩, 63), (⟨"LadderStreetModel", "personGoes", "(I)V"⟩, 63), (⟨"LadderStreetModel", "quarrelOf", "(II)I"⟩, 63), (⟨"LadderStreetModel", "breakingBits", "()I"⟩, 63), (⟨"LadderStreetModel", "lotOf", "(I)I"⟩, 63), (⟨"LadderStreetModel", "theyBreak", "(I)V"⟩, 63), (⟨"LadderStreetModel", "falls", "(I)V"⟩, 63), (⟨"LadderStreetModel", "blockBits", "(II)I"⟩, 63), (⟨"LadderStreetModel", "errandsFrom", "()I"⟩, 63), (⟨"LadderStreetModel", "goalBits", "()I"⟩, 63), (⟨"LadderStreetModel", "bothGo", "(IIII)V"⟩, 63), (⟨"LadderStreetModel", "otherGoes", "(I)V"⟩, 63), (⟨"LadderStreetModel", "marks", "(I)V"⟩, 63), (⟨"LadderStreetModel", "aloneTo", "(II)I"⟩, 63), (⟨"LadderStreetModel", "partsOf", "(II)I"⟩, 63)]
theorem lw_r6 : ∀ q ∈ lw_privs_6, lw_okq q := List.forall_mem_cons.mpr ⟨lw_p80, List.forall_mem_cons.mpr ⟨lw_p81, List.forall_mem_cons.mpr ⟨lw_p82, List.forall_mem_cons.mpr ⟨lw_p83, List.forall_mem_cons.mpr ⟨lw_p84, List.forall_mem_cons.mpr ⟨lw_p85, List.forall_mem_cons.mpr ⟨lw_p86, List.forall_mem_cons.mpr ⟨lw_p87, List.forall_mem_cons.mpr ⟨lw_p88, List.forall_mem_cons.mpr ⟨lw_p89, List.forall_mem_cons.mpr ⟨lw_p90, List.forall_mem_cons.mpr ⟨lw_p91, List.forall_mem_cons.mpr ⟨lw_p92, List.forall_mem_cons.mpr ⟨lw_p93, List.forall_mem_cons.mpr ⟨lw_p94, List.forall_mem_cons.mpr ⟨lw_p95, fun _ h => absurd h List.not_mem_nil⟩⟩⟩⟩⟩⟩⟩⟩⟩⟩⟩⟩⟩⟩⟩⟩
theorem lw_p96 : lw_okq (⟨"LadderStreetModel", "findsHomes", "(I)Z"⟩, 63) := ⟨⟨by decide +kernel, by decide +kernel⟩, List.mem_of_getElem? (i := 1190) (by decide +kernel), List.mem_of_getElem? (i := 1748) (by decide +kernel), List.mem_of_getElem? (i := 1749) (by decide +kernel)⟩
theorem lw_p97 : lw_okq (⟨"LadderStreetModel", "canLive", "(III)Z"⟩, 63) := ⟨⟨by decide +kernel, by decide +kernel⟩, List.mem_of_getElem? (i := 1190) (by decide +kernel), List.mem_of_getElem? (i := 1752) (by decide +kernel), List.mem_of_getElem? (i := 1753) (by decide +kernel)⟩
theorem lw_p98 : lw_okq (⟨"LadderStreetModel", "brokenBits", "()I"⟩, 63) := ⟨⟨by decide +kernel, by decide +kernel⟩, List.mem_of_getElem? (i := 1190) (by decide +kernel), List.mem_of_getElem? (i := 1800) (by decide +kernel), List.mem_of_getElem? (i := 1801) (by decide +kernel)⟩
theorem lw_p99 : lw_okq (⟨"LadderStreetModel", "trodBits", "(I)I"⟩, 63) := ⟨⟨by decide +kernel, by decide +kernel⟩, List.mem_of_getElem? (i := 1190) (by decide +kernel), List.mem_of_getElem? (i := 1823) (by decide +kernel), List.mem_of_getElem? (i := 1824) (by decide +kernel)⟩
theorem lw_p100 : lw_okq (⟨"LadderStreetModel", "treadsOn", "(II)Z"⟩, 63) := ⟨⟨by decide +kernel, by decide +kernel⟩, List.mem_of_getElem? (i := 1190) (by decide +kernel), List.mem_of_getElem? (i := 1827) (by decide +kernel), List.mem_of_getElem? (i := 1828) (by decide +kernel)⟩
theorem lw_p101 : lw_okq (⟨"LadderStreetModel", "sumNow", "(I)I"⟩, 63) := ⟨⟨by decide +kernel, by decide +kernel⟩, List.mem_of_getElem? (i := 1190) (by decide +kernel), List.mem_of_getElem? (i := 1847) (by decide +kernel), List.mem_of_getElem? (i := 1848) (by decide +kernel)⟩
def lw_privs_7 : List (MethodName × Nat) := [(⟨"LadderStreetModel", "findsHomes", "(I)Z"⟩, 63), (⟨"LadderStreetModel", "canLive", "(III)Z"⟩, 63), (⟨"LadderStreetModel", "brokenBits", "()I"⟩, 63), (⟨"LadderStreetModel", "trodBits", "(I)I"⟩, 63), (⟨"LadderStreetModel", "treadsOn", "(II)Z"⟩, 63), (⟨"LadderStreetModel", "sumNow", "(I)I"⟩, 63)]
theorem lw_r7 : ∀ q ∈ lw_privs_7, lw_okq q := List.forall_mem_cons.mpr ⟨lw_p96, List.forall_mem_cons.mpr ⟨lw_p97, List.forall_mem_cons.mpr ⟨lw_p98, List.forall_mem_cons.mpr ⟨lw_p99, List.forall_mem_cons.mpr ⟨lw_p100, List.forall_mem_cons.mpr ⟨lw_p101, fun _ h => absurd h List.not_mem_nil⟩⟩⟩⟩⟩⟩
def lw_privs : List (MethodName × Nat) := lw_privs_1 ++ (lw_privs_2 ++ (lw_privs_3 ++ (lw_privs_4 ++ (lw_privs_5 ++ (lw_privs_6 ++ (lw_privs_7))))))
def lw_tbl : List Cond := k2_sels lw_privs ++ tables_1
theorem lw_privs_ok : ∀ q ∈ lw_privs, lw_okq q := by
  show ∀ q ∈ lw_privs_1 ++ (lw_privs_2 ++ (lw_privs_3 ++ (lw_privs_4 ++ (lw_privs_5 ++ (lw_privs_6 ++ (lw_privs_7)))))), lw_okq q
  exact List.forall_mem_append.mpr ⟨lw_r1, List.forall_mem_append.mpr ⟨lw_r2, List.forall_mem_append.mpr ⟨lw_r3, List.forall_mem_append.mpr ⟨lw_r4, List.forall_mem_append.mpr ⟨lw_r5, List.forall_mem_append.mpr ⟨lw_r6, lw_r7⟩⟩⟩⟩⟩⟩
-- ===== end of PART A; then your names; then what follows =====
def RX0 : String := "LadderStreet$Course"
def TX0 : u_T := fun k => match k with
  | 0 => ("LadderStreet$Course", "town", "LLadderStreet$Town;", true)
  | _ => ("LadderStreet$Course", "laws", "LLadderStreet$Laws;", true)
def tyX0 : Nat → FieldType := fun k => match k with
  | 0 => .object "LadderStreet$Town"
  | _ => .object "LadderStreet$Laws"
theorem nmX0 : ∀ a, a < 2 → ∀ b, b < 2 → a ≠ b → (TX0 a).2.1 ≠ (TX0 b).2.1 := by decide +kernel
theorem tyX0_ok : ∀ k, k < 2 → parseFieldDescriptor (TX0 k).2.2.1 = some (tyX0 k) := by decide +kernel
abbrev cX0_init : ByteArray := prog_2_method_1_code
def yX0_init : MethodName := ⟨RX0, "<init>", "(LLadderStreet$Town;)V"⟩
abbrev cX0_roomOf : ByteArray := prog_2_method_2_code
def yX0_roomOf : MethodName := ⟨RX0, "roomOf", "(LLadderStreet$Moment;I)I"⟩
abbrev cX0_breaksOf : ByteArray := prog_2_method_3_code
def yX0_breaksOf : MethodName := ⟨RX0, "breaksOf", "(LLadderStreet$Moment;I)I"⟩
abbrev cX0_quarrelOf : ByteArray := prog_2_method_4_code
def yX0_quarrelOf : MethodName := ⟨RX0, "quarrelOf", "(LLadderStreet$Moment;II)I"⟩
abbrev cX0_cupOf : ByteArray := prog_2_method_5_code
def yX0_cupOf : MethodName := ⟨RX0, "cupOf", "(LLadderStreet$Moment;II)I"⟩
abbrev cX0_setPerson : ByteArray := prog_2_method_6_code
def yX0_setPerson : MethodName := ⟨RX0, "setPerson", "(LLadderStreet$Moment;I)V"⟩
abbrev cX0_widthsOn : ByteArray := prog_2_method_7_code
def yX0_widthsOn : MethodName := ⟨RX0, "widthsOn", "(LLadderStreet$Moment;I)I"⟩
abbrev cX0_fits : ByteArray := prog_2_method_8_code
def yX0_fits : MethodName := ⟨RX0, "fits", "(LLadderStreet$Moment;II)Z"⟩
abbrev cX0_oneMinute : ByteArray := prog_2_method_9_code
def yX0_oneMinute : MethodName := ⟨RX0, "oneMinute", "(LLadderStreet$Moment;IZ)V"⟩
abbrev cX0_goOn : ByteArray := prog_2_method_10_code
def yX0_goOn : MethodName := ⟨RX0, "goOn", "(LLadderStreet$Moment;I)V"⟩
abbrev cX0_towards : ByteArray := prog_2_method_11_code
def yX0_towards : MethodName := ⟨RX0, "towards", "(LLadderStreet$Moment;I)I"⟩
abbrev cX0_breakAndFall : ByteArray := prog_2_method_12_code
def yX0_breakAndFall : MethodName := ⟨RX0, "breakAndFall", "(LLadderStreet$Moment;I)V"⟩
abbrev cX0_fall : ByteArray := prog_2_method_13_code
def yX0_fall : MethodName := ⟨RX0, "fall", "(LLadderStreet$Moment;I)V"⟩
abbrev cX0_letDown : ByteArray := prog_2_method_14_code
def yX0_letDown : MethodName := ⟨RX0, "letDown", "(LLadderStreet$Moment;I)I"⟩
abbrev cX0_errandsWithin : ByteArray := prog_2_method_15_code
def yX0_errandsWithin : MethodName := ⟨RX0, "errandsWithin", "(ILLadderStreet$Moment;IZ)I"⟩
abbrev cX0_nobodyGoes : ByteArray := prog_2_method_16_code
def yX0_nobodyGoes : MethodName := ⟨RX0, "nobodyGoes", "(LLadderStreet$Moment;)Z"⟩
def RX1 : String := "LadderStreet$Homes"
def TX1 : u_T := fun k => match k with
  | 0 => ("LadderStreet$Homes", "town", "LLadderStreet$Town;", true)
  | 1 => ("LadderStreet$Homes", "course", "LLadderStreet$Course;", true)
  | 2 => ("LadderStreet$Homes", "space", "[I", true)
  | _ => ("LadderStreet$Homes", "chosen", "[I", true)
def tyX1 : Nat → FieldType := fun k => match k with
  | 0 => .object "LadderStreet$Town"
  | 1 => .object "LadderStreet$Course"
  | 2 => .array .int
  | _ => .array .int
theorem nmX1 : ∀ a, a < 4 → ∀ b, b < 4 → a ≠ b → (TX1 a).2.1 ≠ (TX1 b).2.1 := by decide +kernel
theorem tyX1_ok : ∀ k, k < 4 → parseFieldDescriptor (TX1 k).2.2.1 = some (tyX1 k) := by decide +kernel
abbrev cX1_init : ByteArray := prog_3_method_1_code
def yX1_init : MethodName := ⟨RX1, "<init>", "(LLadderStreet$Town;LLadderStreet$Course;)V"⟩
abbrev cX1_areFound : ByteArray := prog_3_method_2_code
def yX1_areFound : MethodName := ⟨RX1, "areFound", "(LLadderStreet$Moment;I)Z"⟩
abbrev cX1_homeOf : ByteArray := prog_3_method_3_code
def yX1_homeOf : MethodName := ⟨RX1, "homeOf", "(I)I"⟩
abbrev cX1_settle : ByteArray := prog_3_method_4_code
def yX1_settle : MethodName := ⟨RX1, "settle", "(LLadderStreet$Homes;LLadderStreet$Moment;II)Z"⟩
def RX2 : String := "LadderStreet$Laws"
def TX2 : u_T := fun k => match k with
  | 0 => ("LadderStreet$Laws", "ops", "[I", true)
  | 1 => ("LadderStreet$Laws", "args", "[I", true)
  | 2 => ("LadderStreet$Laws", "starts", "[I", true)
  | 3 => ("LadderStreet$Laws", "vars", "[I", true)
  | 4 => ("LadderStreet$Laws", "pending", "[I", true)
  | _ => ("LadderStreet$Laws", "steps", "I", false)
def tyX2 : Nat → FieldType := fun k => match k with
  | 0 => .array .int
  | 1 => .array .int
  | 2 => .array .int
  | 3 => .array .int
  | 4 => .array .int
  | _ => .int
theorem nmX2 : ∀ a, a < 6 → ∀ b, b < 6 → a ≠ b → (TX2 a).2.1 ≠ (TX2 b).2.1 := by decide +kernel
theorem tyX2_ok : ∀ k, k < 6 → parseFieldDescriptor (TX2 k).2.2.1 = some (tyX2 k) := by decide +kernel
abbrev cX2_init : ByteArray := prog_4_method_1_code
def yX2_init : MethodName := ⟨RX2, "<init>", "()V"⟩
abbrev cX2_clear : ByteArray := prog_4_method_2_code
def yX2_clear : MethodName := ⟨RX2, "clear", "()V"⟩
abbrev cX2_begin : ByteArray := prog_4_method_3_code
def yX2_begin : MethodName := ⟨RX2, "begin", "(I)V"⟩
abbrev cX2_add : ByteArray := prog_4_method_4_code
def yX2_add : MethodName := ⟨RX2, "add", "(II)I"⟩
abbrev cX2_jumpHere : ByteArray := prog_4_method_5_code
def yX2_jumpHere : MethodName := ⟨RX2, "jumpHere", "(I)V"⟩
abbrev cX2_become : ByteArray := prog_4_method_6_code
def yX2_become : MethodName := ⟨RX2, "become", "(LLadderStreet$Laws;)V"⟩
abbrev cX2_setAll : ByteArray := prog_4_method_7_code
def yX2_setAll : MethodName := ⟨RX2, "setAll", "(II)V"⟩
abbrev cX2_set : ByteArray := prog_4_method_8_code
def yX2_set : MethodName := ⟨RX2, "set", "(II)V"⟩
abbrev cX2_worth : ByteArray := prog_4_method_9_code
def yX2_worth : MethodName := ⟨RX2, "worth", "(I)I"⟩
abbrev cX2_reckoned : ByteArray := prog_4_method_10_code
def yX2_reckoned : MethodName := ⟨RX2, "reckoned", "(III)I"⟩
def RX3 : String := "LadderStreet$Looks"
def TX3 : u_T := fun k => match k with
  | 0 => ("LadderStreet$Looks", "town", "LLadderStreet$Town;", true)
  | _ => ("LadderStreet$Looks", "course", "LLadderStreet$Course;", true)
def tyX3 : Nat → FieldType := fun k => match k with
  | 0 => .object "LadderStreet$Town"
  | _ => .object "LadderStreet$Course"
theorem nmX3 : ∀ a, a < 2 → ∀ b, b < 2 → a ≠ b → (TX3 a).2.1 ≠ (TX3 b).2.1 := by decide +kernel
theorem tyX3_ok : ∀ k, k < 2 → parseFieldDescriptor (TX3 k).2.2.1 = some (tyX3 k) := by decide +kernel
abbrev cX3_init : ByteArray := prog_5_method_1_code
def yX3_init : MethodName := ⟨RX3, "<init>", "(LLadderStreet$Town;LLadderStreet$Course;)V"⟩
abbrev cX3_peopleOn : ByteArray := prog_5_method_2_code
def yX3_peopleOn : MethodName := ⟨RX3, "peopleOn", "(LLadderStreet$Moment;I)I"⟩
abbrev cX3_peopleAbove : ByteArray := prog_5_method_3_code
def yX3_peopleAbove : MethodName := ⟨RX3, "peopleAbove", "(LLadderStreet$Moment;I)I"⟩
abbrev cX3_peopleWithGoal : ByteArray := prog_5_method_4_code
def yX3_peopleWithGoal : MethodName := ⟨RX3, "peopleWithGoal", "(LLadderStreet$Moment;)I"⟩
abbrev cX3_overfull : ByteArray := prog_5_method_5_code
def yX3_overfull : MethodName := ⟨RX3, "overfull", "(LLadderStreet$Moment;)I"⟩
abbrev cX3_empty : ByteArray := prog_5_method_6_code
def yX3_empty : MethodName := ⟨RX3, "empty", "(LLadderStreet$Moment;)I"⟩
abbrev cX3_rungsFor : ByteArray := prog_5_method_7_code
def yX3_rungsFor : MethodName := ⟨RX3, "rungsFor", "(LLadderStreet$Moment;I)I"⟩
abbrev cX3_fullestRung : ByteArray := prog_5_method_8_code
def yX3_fullestRung : MethodName := ⟨RX3, "fullestRung", "(LLadderStreet$Moment;)I"⟩
abbrev cX3_whoTookLeast : ByteArray := prog_5_method_9_code
def yX3_whoTookLeast : MethodName := ⟨RX3, "whoTookLeast", "(LLadderStreet$Moment;)I"⟩
abbrev cX3_whoWaitedLongest : ByteArray := prog_5_method_10_code
def yX3_whoWaitedLongest : MethodName := ⟨RX3, "whoWaitedLongest", "(LLadderStreet$Moment;)I"⟩
abbrev cX3_blockedTo : ByteArray := prog_5_method_11_code
def yX3_blockedTo : MethodName := ⟨RX3, "blockedTo", "(LLadderStreet$Moment;II)I"⟩
abbrev cX3_partedPairs : ByteArray := prog_5_method_12_code
def yX3_partedPairs : MethodName := ⟨RX3, "partedPairs", "(LLadderStreet$Moment;II)I"⟩
abbrev cX3_leastParting : ByteArray := prog_5_method_13_code
def yX3_leastParting : MethodName := ⟨RX3, "leastParting", "(LLadderStreet$Moment;I)I"⟩
abbrev cX3_meetingRung : ByteArray := prog_5_method_14_code
def yX3_meetingRung : MethodName := ⟨RX3, "meetingRung", "(LLadderStreet$Moment;II)I"⟩
abbrev cX3_widthsWith : ByteArray := prog_5_method_15_code
def yX3_widthsWith : MethodName := ⟨RX3, "widthsWith", "(LLadderStreet$Moment;III)I"⟩
abbrev cX3_farther : ByteArray := prog_5_method_16_code
def yX3_farther : MethodName := ⟨RX3, "farther", "(LLadderStreet$Moment;III)I"⟩
abbrev cX3_keptBy : ByteArray := prog_5_method_17_code
def yX3_keptBy : MethodName := ⟨RX3, "keptBy", "(LLadderStreet$Moment;I)I"⟩
abbrev cX3_whoKnows : ByteArray := prog_5_method_18_code
def yX3_whoKnows : MethodName := ⟨RX3, "whoKnows", "(LLadderStreet$Moment;II)I"⟩
abbrev cX3_whoHears : ByteArray := prog_5_method_19_code
def yX3_whoHears : MethodName := ⟨RX3, "whoHears", "(LLadderStreet$Moment;I)I"⟩
abbrev cX3_areNear : ByteArray := prog_5_method_20_code
def yX3_areNear : MethodName := ⟨RX3, "areNear", "(LLadderStreet$Moment;III)Z"⟩
abbrev cX3_pairsWithin : ByteArray := prog_5_method_21_code
def yX3_pairsWithin : MethodName := ⟨RX3, "pairsWithin", "(LLadderStreet$Moment;I)I"⟩
abbrev cX3_mostPairs : ByteArray := prog_5_method_22_code
def yX3_mostPairs : MethodName := ⟨RX3, "mostPairs", "(LLadderStreet$Town;LLadderStreet$Moment;III)I"⟩
def RX4 : String := "LadderStreet$Moment"
def TX4 : u_T := fun k => match k with
  | _ => ("LadderStreet$Moment", "cells", "[I", true)
def tyX4 : Nat → FieldType := fun k => match k with
  | _ => .array .int
theorem nmX4 : ∀ a, a < 1 → ∀ b, b < 1 → a ≠ b → (TX4 a).2.1 ≠ (TX4 b).2.1 := by decide +kernel
theorem tyX4_ok : ∀ k, k < 1 → parseFieldDescriptor (TX4 k).2.2.1 = some (tyX4 k) := by decide +kernel
abbrev cX4_init : ByteArray := prog_6_method_1_code
def yX4_init : MethodName := ⟨RX4, "<init>", "()V"⟩
abbrev cX4_begin : ByteArray := prog_6_method_2_code
def yX4_begin : MethodName := ⟨RX4, "begin", "(LLadderStreet$Town;)V"⟩
abbrev cX4_become : ByteArray := prog_6_method_3_code
def yX4_become : MethodName := ⟨RX4, "become", "(LLadderStreet$Moment;)V"⟩
abbrev cX4_copyTo : ByteArray := prog_6_method_4_code
def yX4_copyTo : MethodName := ⟨RX4, "copyTo", "([II)V"⟩
abbrev cX4_copyFrom : ByteArray := prog_6_method_5_code
def yX4_copyFrom : MethodName := ⟨RX4, "copyFrom", "([II)V"⟩
abbrev cX4_of : ByteArray := prog_6_method_6_code
def yX4_of : MethodName := ⟨RX4, "of", "(II)I"⟩
abbrev cX4_put : ByteArray := prog_6_method_7_code
def yX4_put : MethodName := ⟨RX4, "put", "(III)V"⟩
abbrev cX4_sumOf : ByteArray := prog_6_method_8_code
def yX4_sumOf : MethodName := ⟨RX4, "sumOf", "(I)I"⟩
abbrev cX4_minute : ByteArray := prog_6_method_9_code
def yX4_minute : MethodName := ⟨RX4, "minute", "()I"⟩
abbrev cX4_nextMinute : ByteArray := prog_6_method_10_code
def yX4_nextMinute : MethodName := ⟨RX4, "nextMinute", "()V"⟩
abbrev cX4_quarrels : ByteArray := prog_6_method_11_code
def yX4_quarrels : MethodName := ⟨RX4, "quarrels", "()I"⟩
abbrev cX4_addQuarrels : ByteArray := prog_6_method_12_code
def yX4_addQuarrels : MethodName := ⟨RX4, "addQuarrels", "(I)V"⟩
abbrev cX4_broken : ByteArray := prog_6_method_13_code
def yX4_broken : MethodName := ⟨RX4, "broken", "()I"⟩
abbrev cX4_isWhole : ByteArray := prog_6_method_14_code
def yX4_isWhole : MethodName := ⟨RX4, "isWhole", "(I)Z"⟩
abbrev cX4_makeWhole : ByteArray := prog_6_method_15_code
def yX4_makeWhole : MethodName := ⟨RX4, "makeWhole", "(I)V"⟩
abbrev cX4_breakDown : ByteArray := prog_6_method_16_code
def yX4_breakDown : MethodName := ⟨RX4, "breakDown", "(I)V"⟩
abbrev cX4_stopGoing : ByteArray := prog_6_method_17_code
def yX4_stopGoing : MethodName := ⟨RX4, "stopGoing", "(I)V"⟩
abbrev cX4_copyTook : ByteArray := prog_6_method_18_code
def yX4_copyTook : MethodName := ⟨RX4, "copyTook", "([I)V"⟩
abbrev cX4_tookAsIn : ByteArray := prog_6_method_19_code
def yX4_tookAsIn : MethodName := ⟨RX4, "tookAsIn", "([I)Z"⟩
def RX5 : String := "LadderStreet$Reader"
def TX5 : u_T := fun k => match k with
  | 0 => ("LadderStreet$Reader", "draft", "LLadderStreet$Town;", true)
  | 1 => ("LadderStreet$Reader", "tokens", "LLadderStreet$Tokens;", true)
  | 2 => ("LadderStreet$Reader", "names", "[J", true)
  | 3 => ("LadderStreet$Reader", "token", "I", false)
  | 4 => ("LadderStreet$Reader", "kind", "I", false)
  | 5 => ("LadderStreet$Reader", "place", "I", false)
  | 6 => ("LadderStreet$Reader", "worth", "J", false)
  | 7 => ("LadderStreet$Reader", "fault", "I", false)
  | 8 => ("LadderStreet$Reader", "faultPlace", "I", false)
  | 9 => ("LadderStreet$Reader", "untrue", "I", false)
  | _ => ("LadderStreet$Reader", "untruePlace", "I", false)
def tyX5 : Nat → FieldType := fun k => match k with
  | 0 => .object "LadderStreet$Town"
  | 1 => .object "LadderStreet$Tokens"
  | 2 => .array .long
  | 3 => .int
  | 4 => .int
  | 5 => .int
  | 6 => .long
  | 7 => .int
  | 8 => .int
  | 9 => .int
  | _ => .int
theorem nmX5 : ∀ a, a < 11 → ∀ b, b < 11 → a ≠ b → (TX5 a).2.1 ≠ (TX5 b).2.1 := by decide +kernel
theorem tyX5_ok : ∀ k, k < 11 → parseFieldDescriptor (TX5 k).2.2.1 = some (tyX5 k) := by decide +kernel
abbrev cX5_init : ByteArray := prog_7_method_1_code
def yX5_init : MethodName := ⟨RX5, "<init>", "()V"⟩
abbrev cX5_begin : ByteArray := prog_7_method_2_code
def yX5_begin : MethodName := ⟨RX5, "begin", "([BI)V"⟩
abbrev cX5_goesOn : ByteArray := prog_7_method_3_code
def yX5_goesOn : MethodName := ⟨RX5, "goesOn", "()Z"⟩
abbrev cX5_end : ByteArray := prog_7_method_4_code
def yX5_end : MethodName := ⟨RX5, "end", "()I"⟩
abbrev cX5_placeOfFault : ByteArray := prog_7_method_5_code
def yX5_placeOfFault : MethodName := ⟨RX5, "placeOfFault", "()I"⟩
abbrev cX5_fail : ByteArray := prog_7_method_6_code
def yX5_fail : MethodName := ⟨RX5, "fail", "(I)V"⟩
abbrev cX5_note : ByteArray := prog_7_method_7_code
def yX5_note : MethodName := ⟨RX5, "note", "(II)V"⟩
abbrev cX5_take : ByteArray := prog_7_method_8_code
def yX5_take : MethodName := ⟨RX5, "take", "(I)Z"⟩
abbrev cX5_readTell : ByteArray := prog_7_method_9_code
def yX5_readTell : MethodName := ⟨RX5, "readTell", "()V"⟩
abbrev cX5_readInt : ByteArray := prog_7_method_10_code
def yX5_readInt : MethodName := ⟨RX5, "readInt", "(II)I"⟩
abbrev cX5_readPerson : ByteArray := prog_7_method_11_code
def yX5_readPerson : MethodName := ⟨RX5, "readPerson", "()V"⟩
abbrev cX5_readName : ByteArray := prog_7_method_12_code
def yX5_readName : MethodName := ⟨RX5, "readName", "()V"⟩
abbrev cX5_readLaw : ByteArray := prog_7_method_13_code
def yX5_readLaw : MethodName := ⟨RX5, "readLaw", "(I)V"⟩
abbrev cX5_readSum : ByteArray := prog_7_method_14_code
def yX5_readSum : MethodName := ⟨RX5, "readSum", "(I)V"⟩
abbrev cX5_readProduct : ByteArray := prog_7_method_15_code
def yX5_readProduct : MethodName := ⟨RX5, "readProduct", "(I)V"⟩
abbrev cX5_readUnit : ByteArray := prog_7_method_16_code
def yX5_readUnit : MethodName := ⟨RX5, "readUnit", "(I)V"⟩
def RX6 : String := "LadderStreet$Rumours"
def TX6 : u_T := fun k => match k with
  | 0 => ("LadderStreet$Rumours", "town", "LLadderStreet$Town;", true)
  | 1 => ("LadderStreet$Rumours", "rungs", "[I", true)
  | 2 => ("LadderStreet$Rumours", "fromAbove", "[Z", true)
  | _ => ("LadderStreet$Rumours", "size", "I", false)
def tyX6 : Nat → FieldType := fun k => match k with
  | 0 => .object "LadderStreet$Town"
  | 1 => .array .int
  | 2 => .array .boolean
  | _ => .int
theorem nmX6 : ∀ a, a < 4 → ∀ b, b < 4 → a ≠ b → (TX6 a).2.1 ≠ (TX6 b).2.1 := by decide +kernel
theorem tyX6_ok : ∀ k, k < 4 → parseFieldDescriptor (TX6 k).2.2.1 = some (tyX6 k) := by decide +kernel
abbrev cX6_init : ByteArray := prog_8_method_1_code
def yX6_init : MethodName := ⟨RX6, "<init>", "(LLadderStreet$Town;)V"⟩
abbrev cX6_howMany : ByteArray := prog_8_method_2_code
def yX6_howMany : MethodName := ⟨RX6, "howMany", "()I"⟩
abbrev cX6_add : ByteArray := prog_8_method_3_code
def yX6_add : MethodName := ⟨RX6, "add", "(IZ)I"⟩
abbrev cX6_clear : ByteArray := prog_8_method_4_code
def yX6_clear : MethodName := ⟨RX6, "clear", "()I"⟩
abbrev cX6_whoFits : ByteArray := prog_8_method_5_code
def yX6_whoFits : MethodName := ⟨RX6, "whoFits", "(LLadderStreet$Moment;I)I"⟩
abbrev cX6_doesFit : ByteArray := prog_8_method_6_code
def yX6_doesFit : MethodName := ⟨RX6, "doesFit", "(LLadderStreet$Moment;II)Z"⟩
abbrev cX6_treads : ByteArray := prog_8_method_7_code
def yX6_treads : MethodName := ⟨RX6, "treads", "(LLadderStreet$Moment;II)Z"⟩
abbrev cX6_bestRung : ByteArray := prog_8_method_8_code
def yX6_bestRung : MethodName := ⟨RX6, "bestRung", "(LLadderStreet$Moment;I)I"⟩
abbrev cX6_whoTreads : ByteArray := prog_8_method_9_code
def yX6_whoTreads : MethodName := ⟨RX6, "whoTreads", "(LLadderStreet$Moment;I)I"⟩
def RX7 : String := "LadderStreet$Shelf"
def TX7 : u_T := fun k => match k with
  | 0 => ("LadderStreet$Shelf", "done", "[I", true)
  | 1 => ("LadderStreet$Shelf", "slots", "[I", true)
  | 2 => ("LadderStreet$Shelf", "next", "I", false)
  | 3 => ("LadderStreet$Shelf", "undoable", "I", false)
  | _ => ("LadderStreet$Shelf", "filled", "I", false)
def tyX7 : Nat → FieldType := fun k => match k with
  | 0 => .array .int
  | 1 => .array .int
  | 2 => .int
  | 3 => .int
  | _ => .int
theorem nmX7 : ∀ a, a < 5 → ∀ b, b < 5 → a ≠ b → (TX7 a).2.1 ≠ (TX7 b).2.1 := by decide +kernel
theorem tyX7_ok : ∀ k, k < 5 → parseFieldDescriptor (TX7 k).2.2.1 = some (tyX7 k) := by decide +kernel
abbrev cX7_init : ByteArray := prog_9_method_1_code
def yX7_init : MethodName := ⟨RX7, "<init>", "()V"⟩
abbrev cX7_clear : ByteArray := prog_9_method_2_code
def yX7_clear : MethodName := ⟨RX7, "clear", "()V"⟩
abbrev cX7_undoable : ByteArray := prog_9_method_3_code
def yX7_undoable : MethodName := ⟨RX7, "undoable", "()I"⟩
abbrev cX7_filledSlots : ByteArray := prog_9_method_4_code
def yX7_filledSlots : MethodName := ⟨RX7, "filledSlots", "()I"⟩
abbrev cX7_remember : ByteArray := prog_9_method_5_code
def yX7_remember : MethodName := ⟨RX7, "remember", "(LLadderStreet$Moment;)V"⟩
abbrev cX7_bringBack : ByteArray := prog_9_method_6_code
def yX7_bringBack : MethodName := ⟨RX7, "bringBack", "(LLadderStreet$Moment;)Z"⟩
abbrev cX7_holdIn : ByteArray := prog_9_method_7_code
def yX7_holdIn : MethodName := ⟨RX7, "holdIn", "(ILLadderStreet$Moment;)Z"⟩
abbrev cX7_goOnFrom : ByteArray := prog_9_method_8_code
def yX7_goOnFrom : MethodName := ⟨RX7, "goOnFrom", "(ILLadderStreet$Moment;)Z"⟩
def RX8 : String := "LadderStreet$Tokens"
def TX8 : u_T := fun k => match k with
  | 0 => ("LadderStreet$Tokens", "words", "[J", true)
  | 1 => ("LadderStreet$Tokens", "kinds", "[I", true)
  | 2 => ("LadderStreet$Tokens", "places", "[I", true)
  | 3 => ("LadderStreet$Tokens", "worths", "[J", true)
  | _ => ("LadderStreet$Tokens", "size", "I", false)
def tyX8 : Nat → FieldType := fun k => match k with
  | 0 => .array .long
  | 1 => .array .int
  | 2 => .array .int
  | 3 => .array .long
  | _ => .int
theorem nmX8 : ∀ a, a < 5 → ∀ b, b < 5 → a ≠ b → (TX8 a).2.1 ≠ (TX8 b).2.1 := by decide +kernel
theorem tyX8_ok : ∀ k, k < 5 → parseFieldDescriptor (TX8 k).2.2.1 = some (tyX8 k) := by decide +kernel
abbrev cX8_init : ByteArray := prog_10_method_1_code
def yX8_init : MethodName := ⟨RX8, "<init>", "()V"⟩
abbrev cX8_withLetter : ByteArray := prog_10_method_2_code
def yX8_withLetter : MethodName := ⟨RX8, "withLetter", "(JI)J"⟩
abbrev cX8_kindOf : ByteArray := prog_10_method_3_code
def yX8_kindOf : MethodName := ⟨RX8, "kindOf", "(I)I"⟩
abbrev cX8_placeOf : ByteArray := prog_10_method_4_code
def yX8_placeOf : MethodName := ⟨RX8, "placeOf", "(I)I"⟩
abbrev cX8_worthOf : ByteArray := prog_10_method_5_code
def yX8_worthOf : MethodName := ⟨RX8, "worthOf", "(I)J"⟩
abbrev cX8_split : ByteArray := prog_10_method_6_code
def yX8_split : MethodName := ⟨RX8, "split", "([BI)V"⟩
abbrev cX8_add : ByteArray := prog_10_method_7_code
def yX8_add : MethodName := ⟨RX8, "add", "(IIJ)V"⟩
abbrev cX8_behindBlanks : ByteArray := prog_10_method_8_code
def yX8_behindBlanks : MethodName := ⟨RX8, "behindBlanks", "([BII)I"⟩
abbrev cX8_splitName : ByteArray := prog_10_method_9_code
def yX8_splitName : MethodName := ⟨RX8, "splitName", "([BII)I"⟩
abbrev cX8_kindOfName : ByteArray := prog_10_method_10_code
def yX8_kindOfName : MethodName := ⟨RX8, "kindOfName", "(J)I"⟩
abbrev cX8_splitInt : ByteArray := prog_10_method_11_code
def yX8_splitInt : MethodName := ⟨RX8, "splitInt", "([BII)I"⟩
abbrev cX8_isBlank : ByteArray := prog_10_method_12_code
def yX8_isBlank : MethodName := ⟨RX8, "isBlank", "(I)Z"⟩
abbrev cX8_isLetter : ByteArray := prog_10_method_13_code
def yX8_isLetter : MethodName := ⟨RX8, "isLetter", "(I)Z"⟩
abbrev cX8_isDigit : ByteArray := prog_10_method_14_code
def yX8_isDigit : MethodName := ⟨RX8, "isDigit", "(I)Z"⟩
abbrev cX8_isSign : ByteArray := prog_10_method_15_code
def yX8_isSign : MethodName := ⟨RX8, "isSign", "(I)Z"⟩
def RX9 : String := "LadderStreet$Town"
def TX9 : u_T := fun k => match k with
  | 0 => ("LadderStreet$Town", "rungs", "I", false)
  | 1 => ("LadderStreet$Town", "people", "I", false)
  | 2 => ("LadderStreet$Town", "seed", "I", false)
  | 3 => ("LadderStreet$Town", "laws", "LLadderStreet$Laws;", true)
  | 4 => ("LadderStreet$Town", "starts", "[I", true)
  | 5 => ("LadderStreet$Town", "widths", "[I", true)
  | 6 => ("LadderStreet$Town", "tempers", "[I", true)
  | _ => ("LadderStreet$Town", "thirsts", "[I", true)
def tyX9 : Nat → FieldType := fun k => match k with
  | 0 => .int
  | 1 => .int
  | 2 => .int
  | 3 => .object "LadderStreet$Laws"
  | 4 => .array .int
  | 5 => .array .int
  | 6 => .array .int
  | _ => .array .int
theorem nmX9 : ∀ a, a < 8 → ∀ b, b < 8 → a ≠ b → (TX9 a).2.1 ≠ (TX9 b).2.1 := by decide +kernel
theorem tyX9_ok : ∀ k, k < 8 → parseFieldDescriptor (TX9 k).2.2.1 = some (tyX9 k) := by decide +kernel
abbrev cX9_init : ByteArray := prog_11_method_1_code
def yX9_init : MethodName := ⟨RX9, "<init>", "()V"⟩
abbrev cX9_clear : ByteArray := prog_11_method_2_code
def yX9_clear : MethodName := ⟨RX9, "clear", "()V"⟩
abbrev cX9_addPerson : ByteArray := prog_11_method_3_code
def yX9_addPerson : MethodName := ⟨RX9, "addPerson", "(IIII)V"⟩
abbrev cX9_become : ByteArray := prog_11_method_4_code
def yX9_become : MethodName := ⟨RX9, "become", "(LLadderStreet$Town;)V"⟩
abbrev cX9_hasPerson : ByteArray := prog_11_method_5_code
def yX9_hasPerson : MethodName := ⟨RX9, "hasPerson", "(I)Z"⟩
abbrev cX9_hasRung : ByteArray := prog_11_method_6_code
def yX9_hasRung : MethodName := ⟨RX9, "hasRung", "(I)Z"⟩
abbrev cX9_hasAllRungsTold : ByteArray := prog_11_method_7_code
def yX9_hasAllRungsTold : MethodName := ⟨RX9, "hasAllRungsTold", "()Z"⟩
abbrev cX9_startOf : ByteArray := prog_11_method_8_code
def yX9_startOf : MethodName := ⟨RX9, "startOf", "(I)I"⟩
abbrev cX9_widthOf : ByteArray := prog_11_method_9_code
def yX9_widthOf : MethodName := ⟨RX9, "widthOf", "(I)I"⟩
abbrev cX9_temperOf : ByteArray := prog_11_method_10_code
def yX9_temperOf : MethodName := ⟨RX9, "temperOf", "(I)I"⟩
abbrev cX9_thirstOf : ByteArray := prog_11_method_11_code
def yX9_thirstOf : MethodName := ⟨RX9, "thirstOf", "(I)I"⟩
abbrev cX9_sumOfWidths : ByteArray := prog_11_method_12_code
def yX9_sumOfWidths : MethodName := ⟨RX9, "sumOfWidths", "()I"⟩
abbrev cX9_sumOfThirst : ByteArray := prog_11_method_13_code
def yX9_sumOfThirst : MethodName := ⟨RX9, "sumOfThirst", "()I"⟩
def RX10 : String := "LadderStreet$Ways"
def TX10 : u_T := fun k => match k with
  | 0 => ("LadderStreet$Ways", "town", "LLadderStreet$Town;", true)
  | 1 => ("LadderStreet$Ways", "course", "LLadderStreet$Course;", true)
  | 2 => ("LadderStreet$Ways", "space", "[I", true)
  | 3 => ("LadderStreet$Ways", "places", "[I", false)
  | _ => ("LadderStreet$Ways", "nextPlaces", "[I", false)
def tyX10 : Nat → FieldType := fun k => match k with
  | 0 => .object "LadderStreet$Town"
  | 1 => .object "LadderStreet$Course"
  | 2 => .array .int
  | 3 => .array .int
  | _ => .array .int
theorem nmX10 : ∀ a, a < 5 → ∀ b, b < 5 → a ≠ b → (TX10 a).2.1 ≠ (TX10 b).2.1 := by decide +kernel
theorem tyX10_ok : ∀ k, k < 5 → parseFieldDescriptor (TX10 k).2.2.1 = some (tyX10 k) := by decide +kernel
abbrev cX10_init : ByteArray := prog_12_method_1_code
def yX10_init : MethodName := ⟨RX10, "<init>", "(LLadderStreet$Town;LLadderStreet$Course;)V"⟩
abbrev cX10_fewestForOne : ByteArray := prog_12_method_2_code
def yX10_fewestForOne : MethodName := ⟨RX10, "fewestForOne", "(LLadderStreet$Moment;II)I"⟩
abbrev cX10_allForOne : ByteArray := prog_12_method_3_code
def yX10_allForOne : MethodName := ⟨RX10, "allForOne", "(LLadderStreet$Moment;I)I"⟩
abbrev cX10_fewestForTwo : ByteArray := prog_12_method_4_code
def yX10_fewestForTwo : MethodName := ⟨RX10, "fewestForTwo", "(LLadderStreet$Moment;IIII)I"⟩
abbrev cX10_setSpace : ByteArray := prog_12_method_5_code
def yX10_setSpace : MethodName := ⟨RX10, "setSpace", "(LLadderStreet$Moment;II)V"⟩
abbrev cX10_ownWidth : ByteArray := prog_12_method_6_code
def yX10_ownWidth : MethodName := ⟨RX10, "ownWidth", "(LLadderStreet$Moment;II)I"⟩
abbrev cX10_takes : ByteArray := prog_12_method_7_code
def yX10_takes : MethodName := ⟨RX10, "takes", "(II)Z"⟩
abbrev cX10_spreadBoth : ByteArray := prog_12_method_8_code
def yX10_spreadBoth : MethodName := ⟨RX10, "spreadBoth", "(II)V"⟩
abbrev cX10_spreadOne : ByteArray := prog_12_method_9_code
def yX10_spreadOne : MethodName := ⟨RX10, "spreadOne", "(IIII)V"⟩
abbrev cX10_otherPlaces : ByteArray := prog_12_method_10_code
def yX10_otherPlaces : MethodName := ⟨RX10, "otherPlaces", "(IIII)I"⟩
def RX11 : String := "LadderStreet"
def TX11 : u_T := fun k => match k with
  | 0 => ("LadderStreet", "tape", "[B", true)
  | 1 => ("LadderStreet", "taped", "I", false)
  | 2 => ("LadderStreet", "faultPlace", "I", false)
  | 3 => ("LadderStreet", "reader", "LLadderStreet$Reader;", true)
  | 4 => ("LadderStreet", "town", "LLadderStreet$Town;", true)
  | 5 => ("LadderStreet", "now", "LLadderStreet$Moment;", true)
  | 6 => ("LadderStreet", "later", "LLadderStreet$Moment;", true)
  | 7 => ("LadderStreet", "shelf", "LLadderStreet$Shelf;", true)
  | 8 => ("LadderStreet", "course", "LLadderStreet$Course;", true)
  | 9 => ("LadderStreet", "ways", "LLadderStreet$Ways;", true)
  | 10 => ("LadderStreet", "looks", "LLadderStreet$Looks;", true)
  | 11 => ("LadderStreet", "living", "LLadderStreet$Homes;", true)
  | 12 => ("LadderStreet", "rumours", "LLadderStreet$Rumours;", true)
  | _ => ("LadderStreet", "taken", "[I", true)
def tyX11 : Nat → FieldType := fun k => match k with
  | 0 => .array .byte
  | 1 => .int
  | 2 => .int
  | 3 => .object "LadderStreet$Reader"
  | 4 => .object "LadderStreet$Town"
  | 5 => .object "LadderStreet$Moment"
  | 6 => .object "LadderStreet$Moment"
  | 7 => .object "LadderStreet$Shelf"
  | 8 => .object "LadderStreet$Course"
  | 9 => .object "LadderStreet$Ways"
  | 10 => .object "LadderStreet$Looks"
  | 11 => .object "LadderStreet$Homes"
  | 12 => .object "LadderStreet$Rumours"
  | _ => .array .int
theorem nmX11 : ∀ a, a < 14 → ∀ b, b < 14 → a ≠ b → (TX11 a).2.1 ≠ (TX11 b).2.1 := by decide +kernel
theorem tyX11_ok : ∀ k, k < 14 → parseFieldDescriptor (TX11 k).2.2.1 = some (tyX11 k) := by decide +kernel
abbrev cX11_init : ByteArray := prog_1_method_1_code
def yX11_init : MethodName := ⟨RX11, "<init>", "()V"⟩
abbrev cX11_feed : ByteArray := prog_1_method_2_code
def yX11_feed : MethodName := ⟨RX11, "feed", "(IIIII)I"⟩
abbrev cX11_putFour : ByteArray := prog_1_method_3_code
def yX11_putFour : MethodName := ⟨RX11, "putFour", "(I)V"⟩
abbrev cX11_back : ByteArray := prog_1_method_4_code
def yX11_back : MethodName := ⟨RX11, "back", "(I)I"⟩
abbrev cX11_read : ByteArray := prog_1_method_5_code
def yX11_read : MethodName := ⟨RX11, "read", "()I"⟩
abbrev cX11_place : ByteArray := prog_1_method_6_code
def yX11_place : MethodName := ⟨RX11, "place", "()I"⟩
abbrev cX11_person : ByteArray := prog_1_method_7_code
def yX11_person : MethodName := ⟨RX11, "person", "(II)I"⟩
abbrev cX11_rung : ByteArray := prog_1_method_8_code
def yX11_rung : MethodName := ⟨RX11, "rung", "(II)I"⟩
abbrev cX11_can : ByteArray := prog_1_method_9_code
def yX11_can : MethodName := ⟨RX11, "can", "(II)I"⟩
abbrev cX11_count : ByteArray := prog_1_method_10_code
def yX11_count : MethodName := ⟨RX11, "count", "(I)I"⟩
abbrev cX11_areThere : ByteArray := prog_1_method_11_code
def yX11_areThere : MethodName := ⟨RX11, "areThere", "(II)Z"⟩
abbrev cX11_areTwo : ByteArray := prog_1_method_12_code
def yX11_areTwo : MethodName := ⟨RX11, "areTwo", "(II)Z"⟩
abbrev cX11_isWithin : ByteArray := prog_1_method_13_code
def yX11_isWithin : MethodName := ⟨RX11, "isWithin", "(III)Z"⟩
abbrev cX11_send : ByteArray := prog_1_method_14_code
def yX11_send : MethodName := ⟨RX11, "send", "(II)Z"⟩
abbrev cX11_mend : ByteArray := prog_1_method_15_code
def yX11_mend : MethodName := ⟨RX11, "mend", "(I)Z"⟩
abbrev cX11_bucket : ByteArray := prog_1_method_16_code
def yX11_bucket : MethodName := ⟨RX11, "bucket", "(I)I"⟩
abbrev cX11_minutes : ByteArray := prog_1_method_17_code
def yX11_minutes : MethodName := ⟨RX11, "minutes", "(I)I"⟩
abbrev cX11_undo : ByteArray := prog_1_method_18_code
def yX11_undo : MethodName := ⟨RX11, "undo", "()Z"⟩
abbrev cX11_hold : ByteArray := prog_1_method_19_code
def yX11_hold : MethodName := ⟨RX11, "hold", "(I)Z"⟩
abbrev cX11_restore : ByteArray := prog_1_method_20_code
def yX11_restore : MethodName := ⟨RX11, "restore", "(I)Z"⟩
abbrev cX11_inTheWay : ByteArray := prog_1_method_21_code
def yX11_inTheWay : MethodName := ⟨RX11, "inTheWay", "(II)I"⟩
abbrev cX11_past : ByteArray := prog_1_method_22_code
def yX11_past : MethodName := ⟨RX11, "past", "(IIII)I"⟩
abbrev cX11_alone : ByteArray := prog_1_method_23_code
def yX11_alone : MethodName := ⟨RX11, "alone", "(II)I"⟩
abbrev cX11_reach : ByteArray := prog_1_method_24_code
def yX11_reach : MethodName := ⟨RX11, "reach", "(I)I"⟩
abbrev cX11_meet : ByteArray := prog_1_method_25_code
def yX11_meet : MethodName := ⟨RX11, "meet", "(III)I"⟩
abbrev cX11_above : ByteArray := prog_1_method_26_code
def yX11_above : MethodName := ⟨RX11, "above", "(I)I"⟩
abbrev cX11_driest : ByteArray := prog_1_method_27_code
def yX11_driest : MethodName := ⟨RX11, "driest", "(I)I"⟩
abbrev cX11_parts : ByteArray := prog_1_method_28_code
def yX11_parts : MethodName := ⟨RX11, "parts", "(II)I"⟩
abbrev cX11_least : ByteArray := prog_1_method_29_code
def yX11_least : MethodName := ⟨RX11, "least", "(II)I"⟩
abbrev cX11_homes : ByteArray := prog_1_method_30_code
def yX11_homes : MethodName := ⟨RX11, "homes", "(II)I"⟩
abbrev cX11_news : ByteArray := prog_1_method_31_code
def yX11_news : MethodName := ⟨RX11, "news", "(II)I"⟩
abbrev cX11_pairs : ByteArray := prog_1_method_32_code
def yX11_pairs : MethodName := ⟨RX11, "pairs", "(I)I"⟩
abbrev cX11_kept : ByteArray := prog_1_method_33_code
def yX11_kept : MethodName := ⟨RX11, "kept", "(I)I"⟩
abbrev cX11_free : ByteArray := prog_1_method_34_code
def yX11_free : MethodName := ⟨RX11, "free", "(I)I"⟩
abbrev cX11_share : ByteArray := prog_1_method_35_code
def yX11_share : MethodName := ⟨RX11, "share", "(II)I"⟩
abbrev cX11_enough : ByteArray := prog_1_method_36_code
def yX11_enough : MethodName := ⟨RX11, "enough", "()I"⟩
abbrev cX11_letDownLater : ByteArray := prog_1_method_37_code
def yX11_letDownLater : MethodName := ⟨RX11, "letDownLater", "(I)V"⟩
abbrev cX11_errands : ByteArray := prog_1_method_38_code
def yX11_errands : MethodName := ⟨RX11, "errands", "()I"⟩
abbrev cX11_mendFirst : ByteArray := prog_1_method_39_code
def yX11_mendFirst : MethodName := ⟨RX11, "mendFirst", "()I"⟩
abbrev cX11_waits : ByteArray := prog_1_method_40_code
def yX11_waits : MethodName := ⟨RX11, "waits", "(II)I"⟩
abbrev cX11_crowd : ByteArray := prog_1_method_41_code
def yX11_crowd : MethodName := ⟨RX11, "crowd", "(II)I"⟩
abbrev cX11_then : ByteArray := prog_1_method_42_code
def yX11_then : MethodName := ⟨RX11, "then", "(III)I"⟩
abbrev cX11_year : ByteArray := prog_1_method_43_code
def yX11_year : MethodName := ⟨RX11, "year", "(II)I"⟩
abbrev cX11_lookAhead : ByteArray := prog_1_method_44_code
def yX11_lookAhead : MethodName := ⟨RX11, "lookAhead", "(I)V"⟩
abbrev cX11_tell : ByteArray := prog_1_method_45_code
def yX11_tell : MethodName := ⟨RX11, "tell", "(IZ)I"⟩
abbrev cX11_forget : ByteArray := prog_1_method_46_code
def yX11_forget : MethodName := ⟨RX11, "forget", "()I"⟩
abbrev cX11_trod : ByteArray := prog_1_method_47_code
def yX11_trod : MethodName := ⟨RX11, "trod", "(II)I"⟩
abbrev cX11_ask : ByteArray := prog_1_method_48_code
def yX11_ask : MethodName := ⟨RX11, "ask", "(I)I"⟩
abbrev cX11_at : ByteArray := prog_1_method_49_code
def yX11_at : MethodName := ⟨RX11, "at", "([II)I"⟩
abbrev cX11_hasBit : ByteArray := prog_1_method_50_code
def yX11_hasBit : MethodName := ⟨RX11, "hasBit", "(II)Z"⟩
abbrev cX11_lot : ByteArray := prog_1_method_51_code
def yX11_lot : MethodName := ⟨RX11, "lot", "(III)I"⟩
abbrev cX11_stirred : ByteArray := prog_1_method_52_code
def yX11_stirred : MethodName := ⟨RX11, "stirred", "(II)I"⟩
def RX12 : String := "LadderStreetModel"
def TX12 : u_T := fun k => match k with
  | 0 => ("LadderStreetModel", "thrown", "I", false)
  | 1 => ("LadderStreetModel", "tape", "[B", true)
  | 2 => ("LadderStreetModel", "taped", "I", false)
  | 3 => ("LadderStreetModel", "text", "[B", true)
  | 4 => ("LadderStreetModel", "size", "I", false)
  | 5 => ("LadderStreetModel", "tKind", "[I", true)
  | 6 => ("LadderStreetModel", "tPlace", "[I", true)
  | 7 => ("LadderStreetModel", "tValue", "[I", true)
  | 8 => ("LadderStreetModel", "tName", "[J", true)
  | 9 => ("LadderStreetModel", "keys", "[J", true)
  | 10 => ("LadderStreetModel", "tokens", "I", false)
  | 11 => ("LadderStreetModel", "t", "I", false)
  | 12 => ("LadderStreetModel", "open", "I", false)
  | 13 => ("LadderStreetModel", "fault", "I", false)
  | 14 => ("LadderStreetModel", "faultPlace", "I", false)
  | 15 => ("LadderStreetModel", "worst", "I", false)
  | 16 => ("LadderStreetModel", "worstPlace", "I", false)
  | 17 => ("LadderStreetModel", "place", "I", false)
  | 18 => ("LadderStreetModel", "live", "I", false)
  | 19 => ("LadderStreetModel", "side", "I", false)
  | 20 => ("LadderStreetModel", "names", "I", false)
  | 21 => ("LadderStreetModel", "nameOf", "[J", true)
  | 22 => ("LadderStreetModel", "shaft", "[I", true)
  | 23 => ("LadderStreetModel", "people", "[I", true)
  | 24 => ("LadderStreetModel", "atTold", "[I", true)
  | 25 => ("LadderStreetModel", "widthOf", "[I", true)
  | 26 => ("LadderStreetModel", "temperOf", "[I", true)
  | 27 => ("LadderStreetModel", "thirstOf", "[I", true)
  | 28 => ("LadderStreetModel", "seed", "[I", true)
  | 29 => ("LadderStreetModel", "lawFirst", "[I", true)
  | 30 => ("LadderStreetModel", "lawLast", "[I", true)
  | 31 => ("LadderStreetModel", "branches", "I", false)
  | 32 => ("LadderStreetModel", "hasTest", "[Z", true)
  | 33 => ("LadderStreetModel", "testFrom", "[I", true)
  | 34 => ("LadderStreetModel", "testMid", "[I", true)
  | 35 => ("LadderStreetModel", "testTo", "[I", true)
  | 36 => ("LadderStreetModel", "termTo", "[I", true)
  | 37 => ("LadderStreetModel", "codes", "I", false)
  | 38 => ("LadderStreetModel", "code", "[I", true)
  | 39 => ("LadderStreetModel", "codeInt", "[I", true)
  | 40 => ("LadderStreetModel", "signsWait", "[I", true)
  | 41 => ("LadderStreetModel", "waiting", "I", false)
  | 42 => ("LadderStreetModel", "variables", "[I", true)
  | 43 => ("LadderStreetModel", "pile", "[I", true)
  | 44 => ("LadderStreetModel", "byNothing", "Z", false)
  | 45 => ("LadderStreetModel", "now", "[I", true)
  | 46 => ("LadderStreetModel", "row", "[I", true)
  | 47 => ("LadderStreetModel", "lots", "I", false)
  | 48 => ("LadderStreetModel", "isStill", "Z", false)
  | 49 => ("LadderStreetModel", "undos", "I", false)
  | 50 => ("LadderStreetModel", "history", "[I", true)
  | 51 => ("LadderStreetModel", "takesOf", "[I", true)
  | 52 => ("LadderStreetModel", "isSo", "[Z", true)
  | 53 => ("LadderStreetModel", "isThen", "[Z", true)
  | 54 => ("LadderStreetModel", "oneAt", "I", false)
  | 55 => ("LadderStreetModel", "homeOf", "[I", true)
  | 56 => ("LadderStreetModel", "fullOf", "[I", true)
  | 57 => ("LadderStreetModel", "pairsOf", "[I", true)
  | 58 => ("LadderStreetModel", "tolds", "I", false)
  | 59 => ("LadderStreetModel", "toldRung", "[I", true)
  | 60 => ("LadderStreetModel", "toldAbove", "[Z", true)
  | 61 => ("LadderStreetModel", "isHeld", "[Z", true)
  | _ => ("LadderStreetModel", "heldRows", "[I", true)
def tyX12 : Nat → FieldType := fun k => match k with
  | 0 => .int
  | 1 => .array .byte
  | 2 => .int
  | 3 => .array .byte
  | 4 => .int
  | 5 => .array .int
  | 6 => .array .int
  | 7 => .array .int
  | 8 => .array .long
  | 9 => .array .long
  | 10 => .int
  | 11 => .int
  | 12 => .int
  | 13 => .int
  | 14 => .int
  | 15 => .int
  | 16 => .int
  | 17 => .int
  | 18 => .int
  | 19 => .int
  | 20 => .int
  | 21 => .array .long
  | 22 => .array .int
  | 23 => .array .int
  | 24 => .array .int
  | 25 => .array .int
  | 26 => .array .int
  | 27 => .array .int
  | 28 => .array .int
  | 29 => .array .int
  | 30 => .array .int
  | 31 => .int
  | 32 => .array .boolean
  | 33 => .array .int
  | 34 => .array .int
  | 35 => .array .int
  | 36 => .array .int
  | 37 => .int
  | 38 => .array .int
  | 39 => .array .int
  | 40 => .array .int
  | 41 => .int
  | 42 => .array .int
  | 43 => .array .int
  | 44 => .boolean
  | 45 => .array .int
  | 46 => .array .int
  | 47 => .int
  | 48 => .boolean
  | 49 => .int
  | 50 => .array .int
  | 51 => .array .int
  | 52 => .array .boolean
  | 53 => .array .boolean
  | 54 => .int
  | 55 => .array .int
  | 56 => .array .int
  | 57 => .array .int
  | 58 => .int
  | 59 => .array .int
  | 60 => .array .boolean
  | 61 => .array .boolean
  | _ => .array .int
theorem nmX12 : ∀ a, a < 63 → ∀ b, b < 63 → a ≠ b → (TX12 a).2.1 ≠ (TX12 b).2.1 := by decide +kernel
theorem tyX12_ok : ∀ k, k < 63 → parseFieldDescriptor (TX12 k).2.2.1 = some (tyX12 k) := by decide +kernel
abbrev cX12_init : ByteArray := prog_14_method_2_code
def yX12_init : MethodName := ⟨RX12, "<init>", "()V"⟩
abbrev cX12_feed : ByteArray := prog_14_method_3_code
def yX12_feed : MethodName := ⟨RX12, "feed", "(IIIII)I"⟩
abbrev cX12_put : ByteArray := prog_14_method_4_code
def yX12_put : MethodName := ⟨RX12, "put", "(I)V"⟩
abbrev cX12_back : ByteArray := prog_14_method_5_code
def yX12_back : MethodName := ⟨RX12, "back", "(I)I"⟩
abbrev cX12_byteAt : ByteArray := prog_14_method_6_code
def yX12_byteAt : MethodName := ⟨RX12, "byteAt", "(I)I"⟩
abbrev cX12_isDigit : ByteArray := prog_14_method_7_code
def yX12_isDigit : MethodName := ⟨RX12, "isDigit", "(I)Z"⟩
abbrev cX12_isLetter : ByteArray := prog_14_method_8_code
def yX12_isLetter : MethodName := ⟨RX12, "isLetter", "(I)Z"⟩
abbrev cX12_appends : ByteArray := prog_14_method_9_code
def yX12_appends : MethodName := ⟨RX12, "appends", "(JI)J"⟩
abbrev cX12_word : ByteArray := prog_14_method_10_code
def yX12_word : MethodName := ⟨RX12, "word", "(IIIIIII)J"⟩
abbrev cX12_token : ByteArray := prog_14_method_11_code
def yX12_token : MethodName := ⟨RX12, "token", "(IIIJ)V"⟩
abbrev cX12_cut : ByteArray := prog_14_method_12_code
def yX12_cut : MethodName := ⟨RX12, "cut", "()V"⟩
abbrev cX12_sign : ByteArray := prog_14_method_13_code
def yX12_sign : MethodName := ⟨RX12, "sign", "(III)I"⟩
abbrev cX12_is : ByteArray := prog_14_method_14_code
def yX12_is : MethodName := ⟨RX12, "is", "(I)Z"⟩
abbrev cX12_fail : ByteArray := prog_14_method_15_code
def yX12_fail : MethodName := ⟨RX12, "fail", "(I)V"⟩
abbrev cX12_wrong : ByteArray := prog_14_method_16_code
def yX12_wrong : MethodName := ⟨RX12, "wrong", "(II)V"⟩
abbrev cX12_goesOn : ByteArray := prog_14_method_17_code
def yX12_goesOn : MethodName := ⟨RX12, "goesOn", "()V"⟩
abbrev cX12_must : ByteArray := prog_14_method_18_code
def yX12_must : MethodName := ⟨RX12, "must", "(I)V"⟩
abbrev cX12_plain : ByteArray := prog_14_method_19_code
def yX12_plain : MethodName := ⟨RX12, "plain", "(I)V"⟩
abbrev cX12_read : ByteArray := prog_14_method_20_code
def yX12_read : MethodName := ⟨RX12, "read", "()I"⟩
abbrev cX12_place : ByteArray := prog_14_method_21_code
def yX12_place : MethodName := ⟨RX12, "place", "()I"⟩
abbrev cX12_areOn : ByteArray := prog_14_method_22_code
def yX12_areOn : MethodName := ⟨RX12, "areOn", "()Z"⟩
abbrev cX12_roomFor : ByteArray := prog_14_method_23_code
def yX12_roomFor : MethodName := ⟨RX12, "roomFor", "(II)V"⟩
abbrev cX12_tellOne : ByteArray := prog_14_method_24_code
def yX12_tellOne : MethodName := ⟨RX12, "tellOne", "()V"⟩
abbrev cX12_bounded : ByteArray := prog_14_method_25_code
def yX12_bounded : MethodName := ⟨RX12, "bounded", "(II)I"⟩
abbrev cX12_tellPerson : ByteArray := prog_14_method_26_code
def yX12_tellPerson : MethodName := ⟨RX12, "tellPerson", "()V"⟩
abbrev cX12_tellLaw : ByteArray := prog_14_method_27_code
def yX12_tellLaw : MethodName := ⟨RX12, "tellLaw", "(I)V"⟩
abbrev cX12_term : ByteArray := prog_14_method_28_code
def yX12_term : MethodName := ⟨RX12, "term", "()V"⟩
abbrev cX12_emit : ByteArray := prog_14_method_29_code
def yX12_emit : MethodName := ⟨RX12, "emit", "(II)V"⟩
abbrev cX12_comesOut : ByteArray := prog_14_method_30_code
def yX12_comesOut : MethodName := ⟨RX12, "comesOut", "(Z)V"⟩
abbrev cX12_expression : ByteArray := prog_14_method_31_code
def yX12_expression : MethodName := ⟨RX12, "expression", "()V"⟩
abbrev cX12_unit : ByteArray := prog_14_method_32_code
def yX12_unit : MethodName := ⟨RX12, "unit", "()V"⟩
abbrev cX12_termOf : ByteArray := prog_14_method_33_code
def yX12_termOf : MethodName := ⟨RX12, "termOf", "(II)I"⟩
abbrev cX12_in : ByteArray := prog_14_method_34_code
def yX12_in : MethodName := ⟨RX12, "in", "(III)Z"⟩
abbrev cX12_within : ByteArray := prog_14_method_35_code
def yX12_within : MethodName := ⟨RX12, "within", "(III)I"⟩
abbrev cX12_bits : ByteArray := prog_14_method_36_code
def yX12_bits : MethodName := ⟨RX12, "bits", "(I)I"⟩
abbrev cX12_off : ByteArray := prog_14_method_37_code
def yX12_off : MethodName := ⟨RX12, "off", "(II)I"⟩
abbrev cX12_isPerson : ByteArray := prog_14_method_38_code
def yX12_isPerson : MethodName := ⟨RX12, "isPerson", "(I)Z"⟩
abbrev cX12_isRung : ByteArray := prog_14_method_39_code
def yX12_isRung : MethodName := ⟨RX12, "isRung", "(I)Z"⟩
abbrev cX12_begins : ByteArray := prog_14_method_40_code
def yX12_begins : MethodName := ⟨RX12, "begins", "()V"⟩
abbrev cX12_keepsRow : ByteArray := prog_14_method_41_code
def yX12_keepsRow : MethodName := ⟨RX12, "keepsRow", "()V"⟩
abbrev cX12_copies : ByteArray := prog_14_method_42_code
def yX12_copies : MethodName := ⟨RX12, "copies", "()V"⟩
abbrev cX12_mixed : ByteArray := prog_14_method_43_code
def yX12_mixed : MethodName := ⟨RX12, "mixed", "(II)I"⟩
abbrev cX12_lotOf : ByteArray := prog_14_method_44_code
def yX12_lotOf : MethodName := ⟨RX12, "lotOf", "(I)I"⟩
abbrev cX12_isWhole : ByteArray := prog_14_method_45_code
def yX12_isWhole : MethodName := ⟨RX12, "isWhole", "(I)Z"⟩
abbrev cX12_widthAt : ByteArray := prog_14_method_46_code
def yX12_widthAt : MethodName := ⟨RX12, "widthAt", "(I)I"⟩
abbrev cX12_onRung : ByteArray := prog_14_method_47_code
def yX12_onRung : MethodName := ⟨RX12, "onRung", "(I)I"⟩
abbrev cX12_widthsOf : ByteArray := prog_14_method_48_code
def yX12_widthsOf : MethodName := ⟨RX12, "widthsOf", "(I)I"⟩
abbrev cX12_widthsOn : ByteArray := prog_14_method_49_code
def yX12_widthsOn : MethodName := ⟨RX12, "widthsOn", "(I)I"⟩
abbrev cX12_looks : ByteArray := prog_14_method_50_code
def yX12_looks : MethodName := ⟨RX12, "looks", "(I)V"⟩
abbrev cX12_looksAt : ByteArray := prog_14_method_51_code
def yX12_looksAt : MethodName := ⟨RX12, "looksAt", "(I)V"⟩
abbrev cX12_lawTells : ByteArray := prog_14_method_52_code
def yX12_lawTells : MethodName := ⟨RX12, "lawTells", "(II)I"⟩
abbrev cX12_roomOf : ByteArray := prog_14_method_53_code
def yX12_roomOf : MethodName := ⟨RX12, "roomOf", "(I)I"⟩
abbrev cX12_quarrelOf : ByteArray := prog_14_method_54_code
def yX12_quarrelOf : MethodName := ⟨RX12, "quarrelOf", "(II)I"⟩
abbrev cX12_cupOf : ByteArray := prog_14_method_55_code
def yX12_cupOf : MethodName := ⟨RX12, "cupOf", "(II)I"⟩
abbrev cX12_breaksOf : ByteArray := prog_14_method_56_code
def yX12_breaksOf : MethodName := ⟨RX12, "breaksOf", "(I)I"⟩
abbrev cX12_hasRoom : ByteArray := prog_14_method_57_code
def yX12_hasRoom : MethodName := ⟨RX12, "hasRoom", "(III)Z"⟩
abbrev cX12_couldCome : ByteArray := prog_14_method_58_code
def yX12_couldCome : MethodName := ⟨RX12, "couldCome", "(II)Z"⟩
abbrev cX12_towards : ByteArray := prog_14_method_59_code
def yX12_towards : MethodName := ⟨RX12, "towards", "(II)I"⟩
abbrev cX12_personGoes : ByteArray := prog_14_method_60_code
def yX12_personGoes : MethodName := ⟨RX12, "personGoes", "(I)V"⟩
abbrev cX12_breakingBits : ByteArray := prog_14_method_61_code
def yX12_breakingBits : MethodName := ⟨RX12, "breakingBits", "()I"⟩
abbrev cX12_falls : ByteArray := prog_14_method_62_code
def yX12_falls : MethodName := ⟨RX12, "falls", "(I)V"⟩
abbrev cX12_theyBreak : ByteArray := prog_14_method_63_code
def yX12_theyBreak : MethodName := ⟨RX12, "theyBreak", "(I)V"⟩
abbrev cX12_minuteGoes : ByteArray := prog_14_method_64_code
def yX12_minuteGoes : MethodName := ⟨RX12, "minuteGoes", "()V"⟩
abbrev cX12_goes : ByteArray := prog_14_method_65_code
def yX12_goes : MethodName := ⟨RX12, "goes", "(I)V"⟩
abbrev cX12_person : ByteArray := prog_14_method_66_code
def yX12_person : MethodName := ⟨RX12, "person", "(II)I"⟩
abbrev cX12_rung : ByteArray := prog_14_method_67_code
def yX12_rung : MethodName := ⟨RX12, "rung", "(II)I"⟩
abbrev cX12_can : ByteArray := prog_14_method_68_code
def yX12_can : MethodName := ⟨RX12, "can", "(II)I"⟩
abbrev cX12_records : ByteArray := prog_14_method_69_code
def yX12_records : MethodName := ⟨RX12, "records", "()V"⟩
abbrev cX12_send : ByteArray := prog_14_method_70_code
def yX12_send : MethodName := ⟨RX12, "send", "(II)Z"⟩
abbrev cX12_mend : ByteArray := prog_14_method_71_code
def yX12_mend : MethodName := ⟨RX12, "mend", "(I)Z"⟩
abbrev cX12_pours : ByteArray := prog_14_method_72_code
def yX12_pours : MethodName := ⟨RX12, "pours", "(I)I"⟩
abbrev cX12_isWater : ByteArray := prog_14_method_73_code
def yX12_isWater : MethodName := ⟨RX12, "isWater", "(I)Z"⟩
abbrev cX12_bucket : ByteArray := prog_14_method_74_code
def yX12_bucket : MethodName := ⟨RX12, "bucket", "(I)I"⟩
abbrev cX12_isLong : ByteArray := prog_14_method_75_code
def yX12_isLong : MethodName := ⟨RX12, "isLong", "(I)Z"⟩
abbrev cX12_minutes : ByteArray := prog_14_method_76_code
def yX12_minutes : MethodName := ⟨RX12, "minutes", "(I)I"⟩
abbrev cX12_undo : ByteArray := prog_14_method_77_code
def yX12_undo : MethodName := ⟨RX12, "undo", "()Z"⟩
abbrev cX12_blockBits : ByteArray := prog_14_method_78_code
def yX12_blockBits : MethodName := ⟨RX12, "blockBits", "(II)I"⟩
abbrev cX12_inTheWay : ByteArray := prog_14_method_79_code
def yX12_inTheWay : MethodName := ⟨RX12, "inTheWay", "(II)I"⟩
abbrev cX12_goalBits : ByteArray := prog_14_method_80_code
def yX12_goalBits : MethodName := ⟨RX12, "goalBits", "()I"⟩
abbrev cX12_errandsFrom : ByteArray := prog_14_method_81_code
def yX12_errandsFrom : MethodName := ⟨RX12, "errandsFrom", "()I"⟩
abbrev cX12_errands : ByteArray := prog_14_method_82_code
def yX12_errands : MethodName := ⟨RX12, "errands", "()I"⟩
abbrev cX12_otherGoes : ByteArray := prog_14_method_83_code
def yX12_otherGoes : MethodName := ⟨RX12, "otherGoes", "(I)V"⟩
abbrev cX12_marks : ByteArray := prog_14_method_84_code
def yX12_marks : MethodName := ⟨RX12, "marks", "(I)V"⟩
abbrev cX12_bothGo : ByteArray := prog_14_method_85_code
def yX12_bothGo : MethodName := ⟨RX12, "bothGo", "(IIII)V"⟩
abbrev cX12_past : ByteArray := prog_14_method_86_code
def yX12_past : MethodName := ⟨RX12, "past", "(IIII)I"⟩
abbrev cX12_aloneTo : ByteArray := prog_14_method_87_code
def yX12_aloneTo : MethodName := ⟨RX12, "aloneTo", "(II)I"⟩
abbrev cX12_alone : ByteArray := prog_14_method_88_code
def yX12_alone : MethodName := ⟨RX12, "alone", "(II)I"⟩
abbrev cX12_reach : ByteArray := prog_14_method_89_code
def yX12_reach : MethodName := ⟨RX12, "reach", "(I)I"⟩
abbrev cX12_above : ByteArray := prog_14_method_90_code
def yX12_above : MethodName := ⟨RX12, "above", "(I)I"⟩
abbrev cX12_driest : ByteArray := prog_14_method_91_code
def yX12_driest : MethodName := ⟨RX12, "driest", "(I)I"⟩
abbrev cX12_isWidth : ByteArray := prog_14_method_92_code
def yX12_isWidth : MethodName := ⟨RX12, "isWidth", "(I)Z"⟩
abbrev cX12_partsOf : ByteArray := prog_14_method_93_code
def yX12_partsOf : MethodName := ⟨RX12, "partsOf", "(II)I"⟩
abbrev cX12_parts : ByteArray := prog_14_method_94_code
def yX12_parts : MethodName := ⟨RX12, "parts", "(II)I"⟩
abbrev cX12_least : ByteArray := prog_14_method_95_code
def yX12_least : MethodName := ⟨RX12, "least", "(II)I"⟩
abbrev cX12_canLive : ByteArray := prog_14_method_96_code
def yX12_canLive : MethodName := ⟨RX12, "canLive", "(III)Z"⟩
abbrev cX12_findsHomes : ByteArray := prog_14_method_97_code
def yX12_findsHomes : MethodName := ⟨RX12, "findsHomes", "(I)Z"⟩
abbrev cX12_homes : ByteArray := prog_14_method_98_code
def yX12_homes : MethodName := ⟨RX12, "homes", "(II)I"⟩
abbrev cX12_share : ByteArray := prog_14_method_99_code
def yX12_share : MethodName := ⟨RX12, "share", "(II)I"⟩
abbrev cX12_enough : ByteArray := prog_14_method_100_code
def yX12_enough : MethodName := ⟨RX12, "enough", "()I"⟩
abbrev cX12_news : ByteArray := prog_14_method_101_code
def yX12_news : MethodName := ⟨RX12, "news", "(II)I"⟩
abbrev cX12_pairs : ByteArray := prog_14_method_102_code
def yX12_pairs : MethodName := ⟨RX12, "pairs", "(I)I"⟩
abbrev cX12_kept : ByteArray := prog_14_method_103_code
def yX12_kept : MethodName := ⟨RX12, "kept", "(I)I"⟩
abbrev cX12_waits : ByteArray := prog_14_method_104_code
def yX12_waits : MethodName := ⟨RX12, "waits", "(II)I"⟩
abbrev cX12_crowd : ByteArray := prog_14_method_105_code
def yX12_crowd : MethodName := ⟨RX12, "crowd", "(II)I"⟩
abbrev cX12_free : ByteArray := prog_14_method_106_code
def yX12_free : MethodName := ⟨RX12, "free", "(I)I"⟩
abbrev cX12_meet : ByteArray := prog_14_method_107_code
def yX12_meet : MethodName := ⟨RX12, "meet", "(III)I"⟩
abbrev cX12_mendFirst : ByteArray := prog_14_method_108_code
def yX12_mendFirst : MethodName := ⟨RX12, "mendFirst", "()I"⟩
abbrev cX12_brokenBits : ByteArray := prog_14_method_109_code
def yX12_brokenBits : MethodName := ⟨RX12, "brokenBits", "()I"⟩
abbrev cX12_then : ByteArray := prog_14_method_110_code
def yX12_then : MethodName := ⟨RX12, "then", "(III)I"⟩
abbrev cX12_year : ByteArray := prog_14_method_111_code
def yX12_year : MethodName := ⟨RX12, "year", "(II)I"⟩
abbrev cX12_tell : ByteArray := prog_14_method_112_code
def yX12_tell : MethodName := ⟨RX12, "tell", "(IZ)I"⟩
abbrev cX12_forget : ByteArray := prog_14_method_113_code
def yX12_forget : MethodName := ⟨RX12, "forget", "()I"⟩
abbrev cX12_treadsOn : ByteArray := prog_14_method_114_code
def yX12_treadsOn : MethodName := ⟨RX12, "treadsOn", "(II)Z"⟩
abbrev cX12_trodBits : ByteArray := prog_14_method_115_code
def yX12_trodBits : MethodName := ⟨RX12, "trodBits", "(I)I"⟩
abbrev cX12_trod : ByteArray := prog_14_method_116_code
def yX12_trod : MethodName := ⟨RX12, "trod", "(II)I"⟩
abbrev cX12_ask : ByteArray := prog_14_method_117_code
def yX12_ask : MethodName := ⟨RX12, "ask", "(I)I"⟩
abbrev cX12_hold : ByteArray := prog_14_method_118_code
def yX12_hold : MethodName := ⟨RX12, "hold", "(I)Z"⟩
abbrev cX12_restore : ByteArray := prog_14_method_119_code
def yX12_restore : MethodName := ⟨RX12, "restore", "(I)Z"⟩
abbrev cX12_sumNow : ByteArray := prog_14_method_120_code
def yX12_sumNow : MethodName := ⟨RX12, "sumNow", "(I)I"⟩
abbrev cX12_count : ByteArray := prog_14_method_121_code
def yX12_count : MethodName := ⟨RX12, "count", "(I)I"⟩
def RJ6 : String := "java/lang/Integer"
abbrev cJ6_bitCount_0f7a4 : ByteArray := prog_15_method_49_code
def yJ6_bitCount_0f7a4 : MethodName := ⟨RJ6, "bitCount", "(I)I"⟩
def RJ0 : String := "java/lang/String"
abbrev cJ0_length_8abf5 : ByteArray := prog_17_method_54_code
def yJ0_length_8abf5 : MethodName := ⟨RJ0, "length", "()I"⟩
abbrev cJ0_charAt_5068e : ByteArray := prog_17_method_56_code
def yJ0_charAt_5068e : MethodName := ⟨RJ0, "charAt", "(I)C"⟩
abbrev cJ0_coder_7d493 : ByteArray := prog_17_method_152_code
def yJ0_coder_7d493 : MethodName := ⟨RJ0, "coder", "()B"⟩
abbrev cJ0_isLatin1_aae02 : ByteArray := prog_17_method_154_code
def yJ0_isLatin1_aae02 : MethodName := ⟨RJ0, "isLatin1", "()Z"⟩
abbrev cJ0_checkIndex_df160 : ByteArray := prog_17_method_155_code
def yJ0_checkIndex_df160 : MethodName := ⟨RJ0, "checkIndex", "(II)V"⟩
def RJ1 : String := "java/lang/StringLatin1"
abbrev cJ1_charAt_3b067 : ByteArray := prog_18_method_2_code
def yJ1_charAt_3b067 : MethodName := ⟨RJ1, "charAt", "([BI)C"⟩
def RJ7 : String := "java/util/Arrays"
abbrev cJ7_fill_53178 : ByteArray := prog_21_method_103_code
def yJ7_fill_53178 : MethodName := ⟨RJ7, "fill", "([II)V"⟩
def RJ3 : String := "jdk/internal/util/Preconditions"
abbrev cJ3_checkIndex_8e157 : ByteArray := prog_22_method_11_code
def yJ3_checkIndex_8e157 : MethodName := ⟨RJ3, "checkIndex", "(IILjava/util/function/BiFunction;)I"⟩
abbrev vwCl : List vw_C := [(RX0, TX0, 2), (RX1, TX1, 4), (RX2, TX2, 6), (RX3, TX3, 2), (RX4, TX4, 1), (RX5, TX5, 11), (RX6, TX6, 4), (RX7, TX7, 5), (RX8, TX8, 5), (RX9, TX9, 8), (RX10, TX10, 5), (RX11, TX11, 14), (RX12, TX12, 63)]
/-! AN OWN LAYER OVER THE KIT'S WALK: objects are numbered in the order of their making (the cell of number i lies at b + i); their ints lie in a function of number and slot, their longs in another. -/
abbrev am_S : Type := (Nat → Nat → Int32) × (Nat → Nat → Int64)
/-- what number i is: an object of a class, or an array of a kind (0 int, 1 byte, 2 boolean, 3 long) and a length -/
abbrev am_Sh : Type := Nat → Nat ⊕ (Nat × Nat)
/-- the kinds of an object's fields: 0 int, 1 long, 2 boolean, 3 a cell that may change (0 null, i + 1 number i), o + 4 number o for good -/
abbrev am_Kf : Type := Nat → List Nat
/-- a method's word: arguments, how many cells there are, what they hold, what must hold behind -/
abbrev am_Sp : Type := List Value → Nat → am_S → (Option Value → am_S → Prop) → Prop
def am_pi (σ : am_S) (o k : Nat) (x : Int32) : am_S := (fun o' k' => if o' = o ∧ k' = k then x else σ.1 o' k', σ.2)
def am_pl (σ : am_S) (o k : Nat) (x : Int64) : am_S := (σ.1, fun o' k' => if o' = o ∧ k' = k then x else σ.2 o' k')
def am_new (σ : am_S) (o : Nat) : am_S := (fun o' k' => if o' = o then 0 else σ.1 o' k', fun o' k' => if o' = o then 0 else σ.2 o' k')
def am_av (kd : Nat) (x : Int32) (y : Int64) : Value := match kd with
  | 0 => .int x
  | 1 => .long y
  | 2 => .int x
  | 3 => if x = 0 then .null else .ref (x.toNatClampNeg - 1)
  | o + 4 => .ref o
def am_c (b : Nat) (v : Value) : Value := match v with
  | .ref a => .ref (b + a)
  | v => v
theorem am_c_cat (b : Nat) (v : Value) : (am_c b v).category = v.category := by cases v <;> rfl
def am_fs (kds : List Nat) (f : Nat → Int32) (g : Nat → Int64) : List Value := kds.zipIdx.map (fun q => am_av q.1 (f q.2) (g q.2))
theorem am_fs_len (kds : List Nat) (f : Nat → Int32) (g : Nat → Int64) : (am_fs kds f g).length = kds.length := by simp [am_fs]
theorem am_fs_at {kds : List Nat} {k kd : Nat} (f : Nat → Int32) (g : Nat → Int64) (h : kds[k]? = some kd) : (am_fs kds f g)[k]? = some (am_av kd (f k) (g k)) := by
  simp [am_fs, List.getElem?_map, List.getElem?_zipIdx, h]
def am_cell (SH : am_Sh) (KF : am_Kf) (b : Nat) (aC : Nat → ClassId) (σ : am_S) (i : Nat) : va_E := match SH i with
  | .inl ci => .inr (ci, (am_fs (KF i) (σ.1 i) (σ.2 i)).map (am_c b))
  | .inr q => .inl (aC q.1, (q.2, if q.1 = 3 then .inr (.inl (σ.2 i)) else .inl (σ.1 i)))
def am_ws (SH : am_Sh) (KF : am_Kf) (b : Nat) (aC : Nat → ClassId) (n : Nat) (σ : am_S) : va_W := (List.range n).map (fun i => (b + i, am_cell SH KF b aC σ i))
theorem am_ws_len {SH : am_Sh} {KF : am_Kf} {b : Nat} {aC : Nat → ClassId} {n : Nat} {σ : am_S} : (am_ws SH KF b aC n σ).length = n := by simp [am_ws]
theorem am_ws_at {SH : am_Sh} {KF : am_Kf} {b : Nat} {aC : Nat → ClassId} {n o : Nat} {σ : am_S} (h : o < n) : (am_ws SH KF b aC n σ)[o]? = some (b + o, am_cell SH KF b aC σ o) := by
  simp [am_ws, List.getElem?_map, h]
theorem am_ws_set {SH : am_Sh} {KF : am_Kf} {b : Nat} {aC : Nat → ClassId} {n o : Nat} {σ τ : am_S} {e : va_E} (h : o < n) (he : e = am_cell SH KF b aC τ o) (hk : ∀ i, i ≠ o → am_cell SH KF b aC τ i = am_cell SH KF b aC σ i) : (am_ws SH KF b aC n σ).set o (b + o, e) = am_ws SH KF b aC n τ := by
  subst he
  apply List.ext_getElem?
  intro i
  by_cases hi : i = o
  · subst hi
    rw [List.getElem?_set_self (by rw [am_ws_len]; exact h), am_ws_at h]
  · rw [List.getElem?_set_ne (Ne.symm hi)]
    by_cases hn : i < n
    · rw [am_ws_at hn, am_ws_at hn, hk i hi]
    · rw [List.getElem?_eq_none (by rw [am_ws_len]; omega), List.getElem?_eq_none (by rw [am_ws_len]; omega)]
theorem am_ws_push {SH : am_Sh} {KF : am_Kf} {b : Nat} {aC : Nat → ClassId} {n : Nat} {σ τ : am_S} {e : va_E} (he : e = am_cell SH KF b aC τ n) (hk : ∀ i, i < n → am_cell SH KF b aC τ i = am_cell SH KF b aC σ i) : am_ws SH KF b aC n σ ++ [(b + n, e)] = am_ws SH KF b aC (n + 1) τ := by
  subst he
  simp only [am_ws, List.range_succ, List.map_append, List.map_cons, List.map_nil]
  congr 1
  apply List.map_congr_left
  intro i hi
  rw [hk i (List.mem_range.mp hi)]
theorem am_ws_D {SH : am_Sh} {KF : am_Kf} {b : Nat} {aC : Nat → ClassId} {n : Nat} {σ : am_S} : va_D (fun q => b ≤ q) (am_ws SH KF b aC n σ) := by
  have key : ∀ (k : Nat) (q : Nat × va_E), (am_ws SH KF b aC n σ)[k]? = some q → q.1 = b + k := by
    intro k q hq
    by_cases hk : k < n
    · rw [am_ws_at hk] at hq
      cases hq
      rfl
    · rw [List.getElem?_eq_none (by rw [am_ws_len]; omega)] at hq
      cases hq
  refine ⟨fun i j p q hp hq h => ?_, fun k q hq => ?_⟩
  · rw [key i p hp, key j q hq] at h
    omega
  · show b ≤ q.1
    rw [key k q hq]
    omega
theorem am_pi_ne {SH : am_Sh} {KF : am_Kf} {b : Nat} {aC : Nat → ClassId} {σ : am_S} {o k : Nat} {x : Int32} {i : Nat} (h : i ≠ o) : am_cell SH KF b aC (am_pi σ o k x) i = am_cell SH KF b aC σ i := by
  have e : (am_pi σ o k x).1 i = σ.1 i := by funext j; simp [am_pi, h]
  simp only [am_cell, e]
  rfl
theorem am_pl_ne {SH : am_Sh} {KF : am_Kf} {b : Nat} {aC : Nat → ClassId} {σ : am_S} {o k : Nat} {x : Int64} {i : Nat} (h : i ≠ o) : am_cell SH KF b aC (am_pl σ o k x) i = am_cell SH KF b aC σ i := by
  have e : (am_pl σ o k x).2 i = σ.2 i := by funext j; simp [am_pl, h]
  simp only [am_cell, e]
  rfl
theorem am_new_ne {SH : am_Sh} {KF : am_Kf} {b : Nat} {aC : Nat → ClassId} {σ : am_S} {o : Nat} {i : Nat} (h : i ≠ o) : am_cell SH KF b aC (am_new σ o) i = am_cell SH KF b aC σ i := by
  have e : (am_new σ o).1 i = σ.1 i := by funext j; simp [am_new, h]
  have e2 : (am_new σ o).2 i = σ.2 i := by funext j; simp [am_new, h]
  simp only [am_cell, e, e2]
theorem am_fs_set {kds : List Nat} {k kd : Nat} {f f' : Nat → Int32} {g g' : Nat → Int64} (h : kds[k]? = some kd) (hf : ∀ j, j ≠ k → f' j = f j) (hg : ∀ j, j ≠ k → g' j = g j) : am_fs kds f' g' = (am_fs kds f g).set k (am_av kd (f' k) (g' k)) := by
  apply List.ext_getElem?
  intro j
  by_cases hj : j = k
  · subst hj
    rw [am_fs_at f' g' h, List.getElem?_set_self (by rw [am_fs_len]; exact (List.getElem?_eq_some_iff.mp h).1)]
  · rw [List.getElem?_set_ne (Ne.symm hj)]
    cases hz : kds[j]? with
    | none => rw [List.getElem?_eq_none (by rw [am_fs_len]; exact List.getElem?_eq_none_iff.mp hz), List.getElem?_eq_none (by rw [am_fs_len]; exact List.getElem?_eq_none_iff.mp hz)]
    | some z => rw [am_fs_at f' g' hz, am_fs_at f g hz, hf j hj, hg j hj]
/-- how many slots the first n take -/
def am_sz (SH : am_Sh) (KF : am_Kf) : Nat → Nat
  | 0 => 0
  | n + 1 => am_sz SH KF n + (match SH n with
    | .inl _ => (KF n).length
    | .inr q => q.2)
theorem am_sz_le {SH : am_Sh} {KF : am_Kf} {a c : Nat} (h : a ≤ c) : am_sz SH KF a ≤ am_sz SH KF c := by
  induction c with
  | zero => rw [Nat.le_zero.mp h]; exact Nat.le_refl _
  | succ c ih =>
    rcases Nat.lt_or_ge a (c + 1) with q | q
    · exact Nat.le_trans (ih (by omega)) (by simp [am_sz])
    · rw [show a = c + 1 by omega]; exact Nat.le_refl _
/-! the locals: by their places -/
def am_lv (b : Nat) (ls : List (Option Value)) : List (Nat × Value) := ls.zipIdx.filterMap (fun q => q.1.map (fun v => (q.2, am_c b v)))
theorem am_lv_mem {b : Nat} {ls : List (Option Value)} {q : Nat × Value} : q ∈ am_lv b ls ↔ ∃ v, ls[q.1]? = some (some v) ∧ q.2 = am_c b v := by
  obtain ⟨i, w⟩ := q
  simp only [am_lv, List.mem_filterMap, List.mem_zipIdx_iff_getElem?, Option.map_eq_some_iff]
  constructor
  · rintro ⟨⟨o, j⟩, h1, v, rfl, h2⟩
    cases h2
    exact ⟨v, h1, rfl⟩
  · rintro ⟨v, h1, h2⟩
    exact ⟨(some v, i), h1, v, rfl, by rw [← h2]⟩
theorem am_lv_at {b nL i : Nat} {ls : List (Option Value)} {lc : Array Slot} {v : Value} (h : lv_has lc nL (am_lv b ls)) (hi : ls[i]? = some (some v)) : lc[i]? = some (.val (am_c b v)) := h.2.2 (i, am_c b v) (am_lv_mem.mpr ⟨v, hi, rfl⟩)
/-- the place below holds a long -/
def am_lg (ls : List (Option Value)) (i : Nat) : Bool := match i with
  | 0 => false
  | j + 1 => match ls[j]? with
    | some (some (.long _)) => true
    | some (some (.double _)) => true
    | _ => false
theorem am_lg_not {b i : Nat} {ls : List (Option Value)} (h : am_lg ls i = false) (q : Nat × Value) (hq : q ∈ am_lv b ls) (he : q.1 + 1 = i) : ¬ q.2.category = 2 := by
  obtain ⟨v, h1, h2⟩ := am_lv_mem.mp hq
  subst he
  rw [h2, am_c_cat]
  simp only [am_lg, h1] at h
  cases v <;> simp_all [Value.category]
theorem am_lv_set1 {b nL i : Nat} {ls : List (Option Value)} {lc : Array Slot} {v : Value} (hg : am_lg ls i = false) (h : lv_has lc nL ((i, am_c b v) :: (am_lv b ls).filter (fun q => !(q.1 == i) && !(q.1 + 1 == i && q.2.category == 2)))) : lv_has lc nL (am_lv b (ls.set i (some v))) := by
  refine ⟨h.1, h.2.1, fun q hq => ?_⟩
  obtain ⟨w, h1, h2⟩ := am_lv_mem.mp hq
  apply h.2.2
  by_cases hi : q.1 = i
  · by_cases hl : i < ls.length
    · rw [hi, List.getElem?_set_self hl] at h1
      cases h1
      exact List.mem_cons.mpr (Or.inl (Prod.ext hi h2))
    · rw [hi, List.getElem?_eq_none (by simp; omega)] at h1
      cases h1
  · rw [List.getElem?_set_ne (Ne.symm hi)] at h1
    have hm : q ∈ am_lv b ls := am_lv_mem.mpr ⟨w, h1, h2⟩
    refine List.mem_cons.mpr (Or.inr (List.mem_filter.mpr ⟨hm, ?_⟩))
    by_cases he : q.1 + 1 = i
    · have := am_lg_not hg q hm he
      simp [hi, he, this]
    · simp [hi, he]
theorem am_lv_set2 {b nL i : Nat} {ls : List (Option Value)} {lc : Array Slot} {v : Value} (hg : am_lg ls i = false) (h : lv_has lc nL ((i, am_c b v) :: (am_lv b ls).filter (fun q => !(q.1 == i) && (!(q.1 == i + 1) && !(q.1 + 1 == i && q.2.category == 2))))) : lv_has lc nL (am_lv b ((ls.set i (some v)).set (i + 1) none)) := by
  refine ⟨h.1, h.2.1, fun q hq => ?_⟩
  obtain ⟨w, h1, h2⟩ := am_lv_mem.mp hq
  apply h.2.2
  by_cases hj : q.1 = i + 1
  · by_cases hl : i + 1 < (ls.set i (some v)).length
    · rw [hj, List.getElem?_set_self hl] at h1
      cases h1
    · rw [hj, List.getElem?_eq_none (by simp at hl ⊢; omega)] at h1
      cases h1
  · rw [List.getElem?_set_ne (Ne.symm hj)] at h1
    by_cases hi : q.1 = i
    · by_cases hl : i < ls.length
      · rw [hi, List.getElem?_set_self hl] at h1
        cases h1
        exact List.mem_cons.mpr (Or.inl (Prod.ext hi h2))
      · rw [hi, List.getElem?_eq_none (by simp; omega)] at h1
        cases h1
    · rw [List.getElem?_set_ne (Ne.symm hi)] at h1
      have hm : q ∈ am_lv b ls := am_lv_mem.mpr ⟨w, h1, h2⟩
      refine List.mem_cons.mpr (Or.inr (List.mem_filter.mpr ⟨hm, ?_⟩))
      by_cases he : q.1 + 1 = i
      · have := am_lg_not hg q hm he
        simp [hi, hj, he, this]
      · simp [hi, hj, he]
/-- only the first j places are kept in mind -/
def am_mask : Nat → List (Option Value) → List (Option Value)
  | _, [] => []
  | 0, _ :: t => none :: am_mask 0 t
  | n + 1, a :: t => a :: am_mask n t
theorem am_mask_len : ∀ (j : Nat) (ls : List (Option Value)), (am_mask j ls).length = ls.length
  | _, [] => by simp [am_mask]
  | 0, _ :: t => by simp [am_mask, am_mask_len 0 t]
  | n + 1, _ :: t => by simp [am_mask, am_mask_len n t]
theorem am_mask_at : ∀ (j : Nat) (ls : List (Option Value)) (i : Nat) (v : Value), (am_mask j ls)[i]? = some (some v) → ls[i]? = some (some v)
  | _, [], i, v, h => by simp [am_mask] at h
  | 0, a :: t, 0, v, h => by simp [am_mask] at h
  | 0, a :: t, i + 1, v, h => by
    simp only [am_mask, List.getElem?_cons_succ] at h ⊢
    exact am_mask_at 0 t i v h
  | n + 1, a :: t, 0, v, h => by simpa [am_mask] using h
  | n + 1, a :: t, i + 1, v, h => by
    simp only [am_mask, List.getElem?_cons_succ] at h ⊢
    exact am_mask_at n t i v h
theorem am_lv_mask {b nL j : Nat} {ls : List (Option Value)} {lc : Array Slot} (h : lv_has lc nL (am_lv b ls)) : lv_has lc nL (am_lv b (am_mask j ls)) := by
  refine ⟨h.1, h.2.1, fun q hq => ?_⟩
  obtain ⟨w, h1, h2⟩ := am_lv_mem.mp hq
  exact h.2.2 q (am_lv_mem.mpr ⟨w, am_mask_at _ _ _ _ h1, h2⟩)
