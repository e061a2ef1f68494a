section
-- ===== PART A: goes FIRST, ahead of the names: the tables' words, and 'selects' of the private methods out of them =====
/-- a private method of a class that the tables say can be made, by its rows of tables_1 -/
def lw_okq (q : MethodName × Nat) : Prop := (q.1.cls ≠ "java/lang/invoke/MethodHandle" ∧ q.1.cls ≠ "java/lang/invoke/VarHandle") ∧ Cond.instantiable q.1.cls q.2 ∈ tables_1 ∧ Cond.privateMethod q.1 ∈ tables_1 ∧ Cond.instanceMethod q.1 ∈ tables_1
theorem lw_p0 : lw_okq (⟨"LadderStreet", "putFour", "(I)V"⟩, 14) := ⟨⟨by decide +kernel, by decide +kernel⟩, List.mem_of_getElem? (i := 23) (by decide +kernel), List.mem_of_getElem? (i := 419) (by decide +kernel), List.mem_of_getElem? (i := 420) (by decide +kernel)⟩
theorem lw_p1 : lw_okq (⟨"LadderStreet$Tokens", "splitName", "([BII)I"⟩, 5) := ⟨⟨by decide +kernel, by decide +kernel⟩, List.mem_of_getElem? (i := 122) (by decide +kernel), List.mem_of_getElem? (i := 451) (by decide +kernel), List.mem_of_getElem? (i := 452) (by decide +kernel)⟩
theorem lw_p2 : lw_okq (⟨"LadderStreet$Tokens", "kindOfName", "(J)I"⟩, 5) := ⟨⟨by decide +kernel, by decide +kernel⟩, List.mem_of_getElem? (i := 122) (by decide +kernel), List.mem_of_getElem? (i := 455) (by decide +kernel), List.mem_of_getElem? (i := 456) (by decide +kernel)⟩
theorem lw_p3 : lw_okq (⟨"LadderStreet$Tokens", "add", "(IIJ)V"⟩, 5) := ⟨⟨by decide +kernel, by decide +kernel⟩, List.mem_of_getElem? (i := 122) (by decide +kernel), List.mem_of_getElem? (i := 459) (by decide +kernel), List.mem_of_getElem? (i := 460) (by decide +kernel)⟩
theorem lw_p4 : lw_okq (⟨"LadderStreet$Tokens", "splitInt", "([BII)I"⟩, 5) := ⟨⟨by decide +kernel, by decide +kernel⟩, List.mem_of_getElem? (i := 122) (by decide +kernel), List.mem_of_getElem? (i := 466) (by decide +kernel), List.mem_of_getElem? (i := 467) (by decide +kernel)⟩
theorem lw_p5 : lw_okq (⟨"LadderStreet$Reader", "take", "(I)Z"⟩, 11) := ⟨⟨by decide +kernel, by decide +kernel⟩, List.mem_of_getElem? (i := 31) (by decide +kernel), List.mem_of_getElem? (i := 498) (by decide +kernel), List.mem_of_getElem? (i := 499) (by decide +kernel)⟩
theorem lw_p6 : lw_okq (⟨"LadderStreet$Reader", "fail", "(I)V"⟩, 11) := ⟨⟨by decide +kernel, by decide +kernel⟩, List.mem_of_getElem? (i := 31) (by decide +kernel), List.mem_of_getElem? (i := 502) (by decide +kernel), List.mem_of_getElem? (i := 503) (by decide +kernel)⟩
theorem lw_p7 : lw_okq (⟨"LadderStreet$Reader", "readInt", "(II)I"⟩, 11) := ⟨⟨by decide +kernel, by decide +kernel⟩, List.mem_of_getElem? (i := 31) (by decide +kernel), List.mem_of_getElem? (i := 506) (by decide +kernel), List.mem_of_getElem? (i := 507) (by decide +kernel)⟩
theorem lw_p8 : lw_okq (⟨"LadderStreet$Reader", "note", "(II)V"⟩, 11) := ⟨⟨by decide +kernel, by decide +kernel⟩, List.mem_of_getElem? (i := 31) (by decide +kernel), List.mem_of_getElem? (i := 510) (by decide +kernel), List.mem_of_getElem? (i := 511) (by decide +kernel)⟩
theorem lw_p9 : lw_okq (⟨"LadderStreet$Reader", "readPerson", "()V"⟩, 11) := ⟨⟨by decide +kernel, by decide +kernel⟩, List.mem_of_getElem? (i := 31) (by decide +kernel), List.mem_of_getElem? (i := 514) (by decide +kernel), List.mem_of_getElem? (i := 515) (by decide +kernel)⟩
theorem lw_p10 : lw_okq (⟨"LadderStreet$Reader", "readName", "()V"⟩, 11) := ⟨⟨by decide +kernel, by decide +kernel⟩, List.mem_of_getElem? (i := 31) (by decide +kernel), List.mem_of_getElem? (i := 518) (by decide +kernel), List.mem_of_getElem? (i := 519) (by decide +kernel)⟩
theorem lw_p11 : lw_okq (⟨"LadderStreet$Reader", "readLaw", "(I)V"⟩, 11) := ⟨⟨by decide +kernel, by decide +kernel⟩, List.mem_of_getElem? (i := 31) (by decide +kernel), List.mem_of_getElem? (i := 526) (by decide +kernel), List.mem_of_getElem? (i := 527) (by decide +kernel)⟩
theorem lw_p12 : lw_okq (⟨"LadderStreet$Reader", "readSum", "(I)V"⟩, 11) := ⟨⟨by decide +kernel, by decide +kernel⟩, List.mem_of_getElem? (i := 31) (by decide +kernel), List.mem_of_getElem? (i := 531) (by decide +kernel), List.mem_of_getElem? (i := 532) (by decide +kernel)⟩
theorem lw_p13 : lw_okq (⟨"LadderStreet$Reader", "readProduct", "(I)V"⟩, 11) := ⟨⟨by decide +kernel, by decide +kernel⟩, List.mem_of_getElem? (i := 31) (by decide +kernel), List.mem_of_getElem? (i := 535) (by decide +kernel), List.mem_of_getElem? (i := 536) (by decide +kernel)⟩
theorem lw_p14 : lw_okq (⟨"LadderStreet$Reader", "readUnit", "(I)V"⟩, 11) := ⟨⟨by decide +kernel, by decide +kernel⟩, List.mem_of_getElem? (i := 31) (by decide +kernel), List.mem_of_getElem? (i := 539) (by decide +kernel), List.mem_of_getElem? (i := 540) (by decide +kernel)⟩
theorem lw_p15 : lw_okq (⟨"LadderStreet", "areThere", "(II)Z"⟩, 14) := ⟨⟨by decide +kernel, by decide +kernel⟩, List.mem_of_getElem? (i := 23) (by decide +kernel), List.mem_of_getElem? (i := 677) (by decide +kernel), List.mem_of_getElem? (i := 678) (by decide +kernel)⟩
def lw_privs_1 : List (MethodName × Nat) := [(⟨"LadderStreet", "putFour", "(I)V"⟩, 14), (⟨"LadderStreet$Tokens", "splitName", "([BII)I"⟩, 5), (⟨"LadderStreet$Tokens", "kindOfName", "(J)I"⟩, 5), (⟨"LadderStreet$Tokens", "add", "(IIJ)V"⟩, 5), (⟨"LadderStreet$Tokens", "splitInt", "([BII)I"⟩, 5), (⟨"LadderStreet$Reader", "take", "(I)Z"⟩, 11), (⟨"LadderStreet$Reader", "fail", "(I)V"⟩, 11), (⟨"LadderStreet$Reader", "readInt", "(II)I"⟩, 11), (⟨"LadderStreet$Reader", "note", "(II)V"⟩, 11), (⟨"LadderStreet$Reader", "readPerson", "()V"⟩, 11), (⟨"LadderStreet$Reader", "readName", "()V"⟩, 11), (⟨"LadderStreet$Reader", "readLaw", "(I)V"⟩, 11), (⟨"LadderStreet$Reader", "readSum", "(I)V"⟩, 11), (⟨"LadderStreet$Reader", "readProduct", "(I)V"⟩, 11), (⟨"LadderStreet$Reader", "readUnit", "(I)V"⟩, 11), (⟨"LadderStreet", "areThere", "(II)Z"⟩, 14)]
theorem lw_r1 : ∀ q ∈ lw_privs_1, lw_okq q := List.forall_mem_cons.mpr ⟨lw_p0, List.forall_mem_cons.mpr ⟨lw_p1, List.forall_mem_cons.mpr ⟨lw_p2, List.forall_mem_cons.mpr ⟨lw_p3, List.forall_mem_cons.mpr ⟨lw_p4, List.forall_mem_cons.mpr ⟨lw_p5, List.forall_mem_cons.mpr ⟨lw_p6, List.forall_mem_cons.mpr ⟨lw_p7, List.forall_mem_cons.mpr ⟨lw_p8, List.forall_mem_cons.mpr ⟨lw_p9, List.forall_mem_cons.mpr ⟨lw_p10, List.forall_mem_cons.mpr ⟨lw_p11, List.forall_mem_cons.mpr ⟨lw_p12, List.forall_mem_cons.mpr ⟨lw_p13, List.forall_mem_cons.mpr ⟨lw_p14, List.forall_mem_cons.mpr ⟨lw_p15, fun _ h => absurd h List.not_mem_nil⟩⟩⟩⟩⟩⟩⟩⟩⟩⟩⟩⟩⟩⟩⟩⟩
theorem lw_p16 : lw_okq (⟨"LadderStreet$Course", "cupOf", "(LLadderStreet$Moment;II)I"⟩, 2) := ⟨⟨by decide +kernel, by decide +kernel⟩, List.mem_of_getElem? (i := 267) (by decide +kernel), List.mem_of_getElem? (i := 786) (by decide +kernel), List.mem_of_getElem? (i := 787) (by decide +kernel)⟩
theorem lw_p17 : lw_okq (⟨"LadderStreet$Course", "setPerson", "(LLadderStreet$Moment;I)V"⟩, 2) := ⟨⟨by decide +kernel, by decide +kernel⟩, List.mem_of_getElem? (i := 267) (by decide +kernel), List.mem_of_getElem? (i := 790) (by decide +kernel), List.mem_of_getElem? (i := 791) (by decide +kernel)⟩
theorem lw_p18 : lw_okq (⟨"LadderStreet$Course", "goOn", "(LLadderStreet$Moment;I)V"⟩, 2) := ⟨⟨by decide +kernel, by decide +kernel⟩, List.mem_of_getElem? (i := 267) (by decide +kernel), List.mem_of_getElem? (i := 805) (by decide +kernel), List.mem_of_getElem? (i := 806) (by decide +kernel)⟩
theorem lw_p19 : lw_okq (⟨"LadderStreet$Course", "quarrelOf", "(LLadderStreet$Moment;II)I"⟩, 2) := ⟨⟨by decide +kernel, by decide +kernel⟩, List.mem_of_getElem? (i := 267) (by decide +kernel), List.mem_of_getElem? (i := 814) (by decide +kernel), List.mem_of_getElem? (i := 815) (by decide +kernel)⟩
theorem lw_p20 : lw_okq (⟨"LadderStreet$Course", "breakAndFall", "(LLadderStreet$Moment;I)V"⟩, 2) := ⟨⟨by decide +kernel, by decide +kernel⟩, List.mem_of_getElem? (i := 267) (by decide +kernel), List.mem_of_getElem? (i := 828) (by decide +kernel), List.mem_of_getElem? (i := 829) (by decide +kernel)⟩
theorem lw_p21 : lw_okq (⟨"LadderStreet$Course", "fall", "(LLadderStreet$Moment;I)V"⟩, 2) := ⟨⟨by decide +kernel, by decide +kernel⟩, List.mem_of_getElem? (i := 267) (by decide +kernel), List.mem_of_getElem? (i := 845) (by decide +kernel), List.mem_of_getElem? (i := 846) (by decide +kernel)⟩
theorem lw_p22 : lw_okq (⟨"LadderStreet", "areTwo", "(II)Z"⟩, 14) := ⟨⟨by decide +kernel, by decide +kernel⟩, List.mem_of_getElem? (i := 23) (by decide +kernel), List.mem_of_getElem? (i := 898) (by decide +kernel), List.mem_of_getElem? (i := 899) (by decide +kernel)⟩
theorem lw_p23 : lw_okq (⟨"LadderStreet$Ways", "setSpace", "(LLadderStreet$Moment;III)V"⟩, 5) := ⟨⟨by decide +kernel, by decide +kernel⟩, List.mem_of_getElem? (i := 280) (by decide +kernel), List.mem_of_getElem? (i := 911) (by decide +kernel), List.mem_of_getElem? (i := 912) (by decide +kernel)⟩
theorem lw_p24 : lw_okq (⟨"LadderStreet$Ways", "ownWidth", "(LLadderStreet$Moment;II)I"⟩, 5) := ⟨⟨by decide +kernel, by decide +kernel⟩, List.mem_of_getElem? (i := 280) (by decide +kernel), List.mem_of_getElem? (i := 919) (by decide +kernel), List.mem_of_getElem? (i := 920) (by decide +kernel)⟩
theorem lw_p25 : lw_okq (⟨"LadderStreet$Ways", "spreadBoth", "(II)V"⟩, 5) := ⟨⟨by decide +kernel, by decide +kernel⟩, List.mem_of_getElem? (i := 280) (by decide +kernel), List.mem_of_getElem? (i := 924) (by decide +kernel), List.mem_of_getElem? (i := 925) (by decide +kernel)⟩
theorem lw_p26 : lw_okq (⟨"LadderStreet$Ways", "spreadOne", "(IIII)V"⟩, 5) := ⟨⟨by decide +kernel, by decide +kernel⟩, List.mem_of_getElem? (i := 280) (by decide +kernel), List.mem_of_getElem? (i := 928) (by decide +kernel), List.mem_of_getElem? (i := 929) (by decide +kernel)⟩
theorem lw_p27 : lw_okq (⟨"LadderStreet$Ways", "takes", "(II)Z"⟩, 5) := ⟨⟨by decide +kernel, by decide +kernel⟩, List.mem_of_getElem? (i := 280) (by decide +kernel), List.mem_of_getElem? (i := 933) (by decide +kernel), List.mem_of_getElem? (i := 934) (by decide +kernel)⟩
theorem lw_p28 : lw_okq (⟨"LadderStreet$Ways", "otherPlaces", "(IIII)I"⟩, 5) := ⟨⟨by decide +kernel, by decide +kernel⟩, List.mem_of_getElem? (i := 280) (by decide +kernel), List.mem_of_getElem? (i := 937) (by decide +kernel), List.mem_of_getElem? (i := 938) (by decide +kernel)⟩
theorem lw_p29 : lw_okq (⟨"LadderStreet$Ways", "spread", "(II)I"⟩, 5) := ⟨⟨by decide +kernel, by decide +kernel⟩, List.mem_of_getElem? (i := 280) (by decide +kernel), List.mem_of_getElem? (i := 949) (by decide +kernel), List.mem_of_getElem? (i := 950) (by decide +kernel)⟩
theorem lw_p30 : lw_okq (⟨"LadderStreet$Looks", "widthsWith", "(LLadderStreet$Moment;III)I"⟩, 2) := ⟨⟨by decide +kernel, by decide +kernel⟩, List.mem_of_getElem? (i := 302) (by decide +kernel), List.mem_of_getElem? (i := 969) (by decide +kernel), List.mem_of_getElem? (i := 970) (by decide +kernel)⟩
theorem lw_p31 : lw_okq (⟨"LadderStreet$Homes", "settle", "(LLadderStreet$Moment;II)Z"⟩, 4) := ⟨⟨by decide +kernel, by decide +kernel⟩, List.mem_of_getElem? (i := 315) (by decide +kernel), List.mem_of_getElem? (i := 1024) (by decide +kernel), List.mem_of_getElem? (i := 1025) (by decide +kernel)⟩
def lw_privs_2 : List (MethodName × Nat) := [(⟨"LadderStreet$Course", "cupOf", "(LLadderStreet$Moment;II)I"⟩, 2), (⟨"LadderStreet$Course", "setPerson", "(LLadderStreet$Moment;I)V"⟩, 2), (⟨"LadderStreet$Course", "goOn", "(LLadderStreet$Moment;I)V"⟩, 2), (⟨"LadderStreet$Course", "quarrelOf", "(LLadderStreet$Moment;II)I"⟩, 2), (⟨"LadderStreet$Course", "breakAndFall", "(LLadderStreet$Moment;I)V"⟩, 2), (⟨"LadderStreet$Course", "fall", "(LLadderStreet$Moment;I)V"⟩, 2), (⟨"LadderStreet", "areTwo", "(II)Z"⟩, 14), (⟨"LadderStreet$Ways", "setSpace", "(LLadderStreet$Moment;III)V"⟩, 5), (⟨"LadderStreet$Ways", "ownWidth", "(LLadderStreet$Moment;II)I"⟩, 5), (⟨"LadderStreet$Ways", "spreadBoth", "(II)V"⟩, 5), (⟨"LadderStreet$Ways", "spreadOne", "(IIII)V"⟩, 5), (⟨"LadderStreet$Ways", "takes", "(II)Z"⟩, 5), (⟨"LadderStreet$Ways", "otherPlaces", "(IIII)I"⟩, 5), (⟨"LadderStreet$Ways", "spread", "(II)I"⟩, 5), (⟨"LadderStreet$Looks", "widthsWith", "(LLadderStreet$Moment;III)I"⟩, 2), (⟨"LadderStreet$Homes", "settle", "(LLadderStreet$Moment;II)Z"⟩, 4)]
theorem lw_r2 : ∀ q ∈ lw_privs_2, lw_okq q := List.forall_mem_cons.mpr ⟨lw_p16, List.forall_mem_cons.mpr ⟨lw_p17, List.forall_mem_cons.mpr ⟨lw_p18, List.forall_mem_cons.mpr ⟨lw_p19, List.forall_mem_cons.mpr ⟨lw_p20, List.forall_mem_cons.mpr ⟨lw_p21, List.forall_mem_cons.mpr ⟨lw_p22, List.forall_mem_cons.mpr ⟨lw_p23, List.forall_mem_cons.mpr ⟨lw_p24, List.forall_mem_cons.mpr ⟨lw_p25, List.forall_mem_cons.mpr ⟨lw_p26, List.forall_mem_cons.mpr ⟨lw_p27, List.forall_mem_cons.mpr ⟨lw_p28, List.forall_mem_cons.mpr ⟨lw_p29, List.forall_mem_cons.mpr ⟨lw_p30, List.forall_mem_cons.mpr ⟨lw_p31, fun _ h => absurd h List.not_mem_nil⟩⟩⟩⟩⟩⟩⟩⟩⟩⟩⟩⟩⟩⟩⟩⟩
theorem lw_p32 : lw_okq (⟨"LadderStreet$Looks", "whoHears", "(LLadderStreet$Moment;I)I"⟩, 2) := ⟨⟨by decide +kernel, by decide +kernel⟩, List.mem_of_getElem? (i := 302) (by decide +kernel), List.mem_of_getElem? (i := 1044) (by decide +kernel), List.mem_of_getElem? (i := 1045) (by decide +kernel)⟩
theorem lw_p33 : lw_okq (⟨"LadderStreet$Looks", "areNear", "(LLadderStreet$Moment;III)Z"⟩, 2) := ⟨⟨by decide +kernel, by decide +kernel⟩, List.mem_of_getElem? (i := 302) (by decide +kernel), List.mem_of_getElem? (i := 1049) (by decide +kernel), List.mem_of_getElem? (i := 1050) (by decide +kernel)⟩
theorem lw_p34 : lw_okq (⟨"LadderStreet$Looks", "mostPairs", "(LLadderStreet$Moment;III)I"⟩, 2) := ⟨⟨by decide +kernel, by decide +kernel⟩, List.mem_of_getElem? (i := 302) (by decide +kernel), List.mem_of_getElem? (i := 1061) (by decide +kernel), List.mem_of_getElem? (i := 1062) (by decide +kernel)⟩
theorem lw_p35 : lw_okq (⟨"LadderStreet", "letDownLater", "(I)V"⟩, 14) := ⟨⟨by decide +kernel, by decide +kernel⟩, List.mem_of_getElem? (i := 23) (by decide +kernel), List.mem_of_getElem? (i := 1086) (by decide +kernel), List.mem_of_getElem? (i := 1087) (by decide +kernel)⟩
theorem lw_p36 : lw_okq (⟨"LadderStreet$Course", "nobodyGoes", "(LLadderStreet$Moment;)Z"⟩, 2) := ⟨⟨by decide +kernel, by decide +kernel⟩, List.mem_of_getElem? (i := 267) (by decide +kernel), List.mem_of_getElem? (i := 1114) (by decide +kernel), List.mem_of_getElem? (i := 1115) (by decide +kernel)⟩
theorem lw_p37 : lw_okq (⟨"LadderStreet", "lookAhead", "(I)V"⟩, 14) := ⟨⟨by decide +kernel, by decide +kernel⟩, List.mem_of_getElem? (i := 23) (by decide +kernel), List.mem_of_getElem? (i := 1127) (by decide +kernel), List.mem_of_getElem? (i := 1128) (by decide +kernel)⟩
theorem lw_p38 : lw_okq (⟨"LadderStreet$Rumours", "doesFit", "(LLadderStreet$Moment;II)Z"⟩, 4) := ⟨⟨by decide +kernel, by decide +kernel⟩, List.mem_of_getElem? (i := 334) (by decide +kernel), List.mem_of_getElem? (i := 1172) (by decide +kernel), List.mem_of_getElem? (i := 1173) (by decide +kernel)⟩
theorem lw_p39 : lw_okq (⟨"LadderStreet$Rumours", "treads", "(LLadderStreet$Moment;II)Z"⟩, 4) := ⟨⟨by decide +kernel, by decide +kernel⟩, List.mem_of_getElem? (i := 334) (by decide +kernel), List.mem_of_getElem? (i := 1177) (by decide +kernel), List.mem_of_getElem? (i := 1178) (by decide +kernel)⟩
theorem lw_p40 : lw_okq (⟨"LadderStreet$Rumours", "whoTreads", "(LLadderStreet$Moment;I)I"⟩, 4) := ⟨⟨by decide +kernel, by decide +kernel⟩, List.mem_of_getElem? (i := 334) (by decide +kernel), List.mem_of_getElem? (i := 1190) (by decide +kernel), List.mem_of_getElem? (i := 1191) (by decide +kernel)⟩
theorem lw_p41 : lw_okq (⟨"LadderStreetModel", "plain", "(I)V"⟩, 63) := ⟨⟨by decide +kernel, by decide +kernel⟩, List.mem_of_getElem? (i := 1196) (by decide +kernel), List.mem_of_getElem? (i := 1202) (by decide +kernel), List.mem_of_getElem? (i := 1203) (by decide +kernel)⟩
theorem lw_p42 : lw_okq (⟨"LadderStreetModel", "begins", "()V"⟩, 63) := ⟨⟨by decide +kernel, by decide +kernel⟩, List.mem_of_getElem? (i := 1196) (by decide +kernel), List.mem_of_getElem? (i := 1213) (by decide +kernel), List.mem_of_getElem? (i := 1214) (by decide +kernel)⟩
theorem lw_p43 : lw_okq (⟨"LadderStreetModel", "keepsRow", "()V"⟩, 63) := ⟨⟨by decide +kernel, by decide +kernel⟩, List.mem_of_getElem? (i := 1196) (by decide +kernel), List.mem_of_getElem? (i := 1217) (by decide +kernel), List.mem_of_getElem? (i := 1218) (by decide +kernel)⟩
theorem lw_p44 : lw_okq (⟨"LadderStreetModel", "put", "(I)V"⟩, 63) := ⟨⟨by decide +kernel, by decide +kernel⟩, List.mem_of_getElem? (i := 1196) (by decide +kernel), List.mem_of_getElem? (i := 1414) (by decide +kernel), List.mem_of_getElem? (i := 1415) (by decide +kernel)⟩
theorem lw_p45 : lw_okq (⟨"LadderStreetModel", "cut", "()V"⟩, 63) := ⟨⟨by decide +kernel, by decide +kernel⟩, List.mem_of_getElem? (i := 1196) (by decide +kernel), List.mem_of_getElem? (i := 1426) (by decide +kernel), List.mem_of_getElem? (i := 1427) (by decide +kernel)⟩
theorem lw_p46 : lw_okq (⟨"LadderStreetModel", "byteAt", "(I)I"⟩, 63) := ⟨⟨by decide +kernel, by decide +kernel⟩, List.mem_of_getElem? (i := 1196) (by decide +kernel), List.mem_of_getElem? (i := 1430) (by decide +kernel), List.mem_of_getElem? (i := 1431) (by decide +kernel)⟩
theorem lw_p47 : lw_okq (⟨"LadderStreetModel", "token", "(IIIJ)V"⟩, 63) := ⟨⟨by decide +kernel, by decide +kernel⟩, List.mem_of_getElem? (i := 1196) (by decide +kernel), List.mem_of_getElem? (i := 1434) (by decide +kernel), List.mem_of_getElem? (i := 1435) (by decide +kernel)⟩
def lw_privs_3 : List (MethodName × Nat) := [(⟨"LadderStreet$Looks", "whoHears", "(LLadderStreet$Moment;I)I"⟩, 2), (⟨"LadderStreet$Looks", "areNear", "(LLadderStreet$Moment;III)Z"⟩, 2), (⟨"LadderStreet$Looks", "mostPairs", "(LLadderStreet$Moment;III)I"⟩, 2), (⟨"LadderStreet", "letDownLater", "(I)V"⟩, 14), (⟨"LadderStreet$Course", "nobodyGoes", "(LLadderStreet$Moment;)Z"⟩, 2), (⟨"LadderStreet", "lookAhead", "(I)V"⟩, 14), (⟨"LadderStreet$Rumours", "doesFit", "(LLadderStreet$Moment;II)Z"⟩, 4), (⟨"LadderStreet$Rumours", "treads", "(LLadderStreet$Moment;II)Z"⟩, 4), (⟨"LadderStreet$Rumours", "whoTreads", "(LLadderStreet$Moment;I)I"⟩, 4), (⟨"LadderStreetModel", "plain", "(I)V"⟩, 63), (⟨"LadderStreetModel", "begins", "()V"⟩, 63), (⟨"LadderStreetModel", "keepsRow", "()V"⟩, 63), (⟨"LadderStreetModel", "put", "(I)V"⟩, 63), (⟨"LadderStreetModel", "cut", "()V"⟩, 63), (⟨"LadderStreetModel", "byteAt", "(I)I"⟩, 63), (⟨"LadderStreetModel", "token", "(IIIJ)V"⟩, 63)]
theorem lw_r3 : ∀ q ∈ lw_privs_3, lw_okq q := List.forall_mem_cons.mpr ⟨lw_p32, List.forall_mem_cons.mpr ⟨lw_p33, List.forall_mem_cons.mpr ⟨lw_p34, List.forall_mem_cons.mpr ⟨lw_p35, List.forall_mem_cons.mpr ⟨lw_p36, List.forall_mem_cons.mpr ⟨lw_p37, List.forall_mem_cons.mpr ⟨lw_p38, List.forall_mem_cons.mpr ⟨lw_p39, List.forall_mem_cons.mpr ⟨lw_p40, List.forall_mem_cons.mpr ⟨lw_p41, List.forall_mem_cons.mpr ⟨lw_p42, List.forall_mem_cons.mpr ⟨lw_p43, List.forall_mem_cons.mpr ⟨lw_p44, List.forall_mem_cons.mpr ⟨lw_p45, List.forall_mem_cons.mpr ⟨lw_p46, List.forall_mem_cons.mpr ⟨lw_p47, fun _ h => absurd h List.not_mem_nil⟩⟩⟩⟩⟩⟩⟩⟩⟩⟩⟩⟩⟩⟩⟩⟩
theorem lw_p48 : lw_okq (⟨"LadderStreetModel", "sign", "(III)I"⟩, 63) := ⟨⟨by decide +kernel, by decide +kernel⟩, List.mem_of_getElem? (i := 1196) (by decide +kernel), List.mem_of_getElem? (i := 1444) (by decide +kernel), List.mem_of_getElem? (i := 1445) (by decide +kernel)⟩
theorem lw_p49 : lw_okq (⟨"LadderStreetModel", "is", "(I)Z"⟩, 63) := ⟨⟨by decide +kernel, by decide +kernel⟩, List.mem_of_getElem? (i := 1196) (by decide +kernel), List.mem_of_getElem? (i := 1448) (by decide +kernel), List.mem_of_getElem? (i := 1449) (by decide +kernel)⟩
theorem lw_p50 : lw_okq (⟨"LadderStreetModel", "tellOne", "()V"⟩, 63) := ⟨⟨by decide +kernel, by decide +kernel⟩, List.mem_of_getElem? (i := 1196) (by decide +kernel), List.mem_of_getElem? (i := 1452) (by decide +kernel), List.mem_of_getElem? (i := 1453) (by decide +kernel)⟩
theorem lw_p51 : lw_okq (⟨"LadderStreetModel", "goesOn", "()V"⟩, 63) := ⟨⟨by decide +kernel, by decide +kernel⟩, List.mem_of_getElem? (i := 1196) (by decide +kernel), List.mem_of_getElem? (i := 1456) (by decide +kernel), List.mem_of_getElem? (i := 1457) (by decide +kernel)⟩
theorem lw_p52 : lw_okq (⟨"LadderStreetModel", "fail", "(I)V"⟩, 63) := ⟨⟨by decide +kernel, by decide +kernel⟩, List.mem_of_getElem? (i := 1196) (by decide +kernel), List.mem_of_getElem? (i := 1460) (by decide +kernel), List.mem_of_getElem? (i := 1461) (by decide +kernel)⟩
theorem lw_p53 : lw_okq (⟨"LadderStreetModel", "bounded", "(II)I"⟩, 63) := ⟨⟨by decide +kernel, by decide +kernel⟩, List.mem_of_getElem? (i := 1196) (by decide +kernel), List.mem_of_getElem? (i := 1464) (by decide +kernel), List.mem_of_getElem? (i := 1465) (by decide +kernel)⟩
theorem lw_p54 : lw_okq (⟨"LadderStreetModel", "wrong", "(II)V"⟩, 63) := ⟨⟨by decide +kernel, by decide +kernel⟩, List.mem_of_getElem? (i := 1196) (by decide +kernel), List.mem_of_getElem? (i := 1468) (by decide +kernel), List.mem_of_getElem? (i := 1469) (by decide +kernel)⟩
theorem lw_p55 : lw_okq (⟨"LadderStreetModel", "must", "(I)V"⟩, 63) := ⟨⟨by decide +kernel, by decide +kernel⟩, List.mem_of_getElem? (i := 1196) (by decide +kernel), List.mem_of_getElem? (i := 1472) (by decide +kernel), List.mem_of_getElem? (i := 1473) (by decide +kernel)⟩
theorem lw_p56 : lw_okq (⟨"LadderStreetModel", "roomFor", "(II)V"⟩, 63) := ⟨⟨by decide +kernel, by decide +kernel⟩, List.mem_of_getElem? (i := 1196) (by decide +kernel), List.mem_of_getElem? (i := 1476) (by decide +kernel), List.mem_of_getElem? (i := 1477) (by decide +kernel)⟩
theorem lw_p57 : lw_okq (⟨"LadderStreetModel", "tellPerson", "()V"⟩, 63) := ⟨⟨by decide +kernel, by decide +kernel⟩, List.mem_of_getElem? (i := 1196) (by decide +kernel), List.mem_of_getElem? (i := 1480) (by decide +kernel), List.mem_of_getElem? (i := 1481) (by decide +kernel)⟩
theorem lw_p58 : lw_okq (⟨"LadderStreetModel", "tellLaw", "(I)V"⟩, 63) := ⟨⟨by decide +kernel, by decide +kernel⟩, List.mem_of_getElem? (i := 1196) (by decide +kernel), List.mem_of_getElem? (i := 1484) (by decide +kernel), List.mem_of_getElem? (i := 1485) (by decide +kernel)⟩
theorem lw_p59 : lw_okq (⟨"LadderStreetModel", "expression", "()V"⟩, 63) := ⟨⟨by decide +kernel, by decide +kernel⟩, List.mem_of_getElem? (i := 1196) (by decide +kernel), List.mem_of_getElem? (i := 1488) (by decide +kernel), List.mem_of_getElem? (i := 1489) (by decide +kernel)⟩
theorem lw_p60 : lw_okq (⟨"LadderStreetModel", "unit", "()V"⟩, 63) := ⟨⟨by decide +kernel, by decide +kernel⟩, List.mem_of_getElem? (i := 1196) (by decide +kernel), List.mem_of_getElem? (i := 1492) (by decide +kernel), List.mem_of_getElem? (i := 1493) (by decide +kernel)⟩
theorem lw_p61 : lw_okq (⟨"LadderStreetModel", "emit", "(II)V"⟩, 63) := ⟨⟨by decide +kernel, by decide +kernel⟩, List.mem_of_getElem? (i := 1196) (by decide +kernel), List.mem_of_getElem? (i := 1496) (by decide +kernel), List.mem_of_getElem? (i := 1497) (by decide +kernel)⟩
theorem lw_p62 : lw_okq (⟨"LadderStreetModel", "comesOut", "(Z)V"⟩, 63) := ⟨⟨by decide +kernel, by decide +kernel⟩, List.mem_of_getElem? (i := 1196) (by decide +kernel), List.mem_of_getElem? (i := 1500) (by decide +kernel), List.mem_of_getElem? (i := 1501) (by decide +kernel)⟩
theorem lw_p63 : lw_okq (⟨"LadderStreetModel", "term", "()V"⟩, 63) := ⟨⟨by decide +kernel, by decide +kernel⟩, List.mem_of_getElem? (i := 1196) (by decide +kernel), List.mem_of_getElem? (i := 1504) (by decide +kernel), List.mem_of_getElem? (i := 1505) (by decide +kernel)⟩
def lw_privs_4 : List (MethodName × Nat) := [(⟨"LadderStreetModel", "sign", "(III)I"⟩, 63), (⟨"LadderStreetModel", "is", "(I)Z"⟩, 63), (⟨"LadderStreetModel", "tellOne", "()V"⟩, 63), (⟨"LadderStreetModel", "goesOn", "()V"⟩, 63), (⟨"LadderStreetModel", "fail", "(I)V"⟩, 63), (⟨"LadderStreetModel", "bounded", "(II)I"⟩, 63), (⟨"LadderStreetModel", "wrong", "(II)V"⟩, 63), (⟨"LadderStreetModel", "must", "(I)V"⟩, 63), (⟨"LadderStreetModel", "roomFor", "(II)V"⟩, 63), (⟨"LadderStreetModel", "tellPerson", "()V"⟩, 63), (⟨"LadderStreetModel", "tellLaw", "(I)V"⟩, 63), (⟨"LadderStreetModel", "expression", "()V"⟩, 63), (⟨"LadderStreetModel", "unit", "()V"⟩, 63), (⟨"LadderStreetModel", "emit", "(II)V"⟩, 63), (⟨"LadderStreetModel", "comesOut", "(Z)V"⟩, 63), (⟨"LadderStreetModel", "term", "()V"⟩, 63)]
theorem lw_r4 : ∀ q ∈ lw_privs_4, lw_okq q := List.forall_mem_cons.mpr ⟨lw_p48, List.forall_mem_cons.mpr ⟨lw_p49, List.forall_mem_cons.mpr ⟨lw_p50, List.forall_mem_cons.mpr ⟨lw_p51, List.forall_mem_cons.mpr ⟨lw_p52, List.forall_mem_cons.mpr ⟨lw_p53, List.forall_mem_cons.mpr ⟨lw_p54, List.forall_mem_cons.mpr ⟨lw_p55, List.forall_mem_cons.mpr ⟨lw_p56, List.forall_mem_cons.mpr ⟨lw_p57, List.forall_mem_cons.mpr ⟨lw_p58, List.forall_mem_cons.mpr ⟨lw_p59, List.forall_mem_cons.mpr ⟨lw_p60, List.forall_mem_cons.mpr ⟨lw_p61, List.forall_mem_cons.mpr ⟨lw_p62, List.forall_mem_cons.mpr ⟨lw_p63, fun _ h => absurd h List.not_mem_nil⟩⟩⟩⟩⟩⟩⟩⟩⟩⟩⟩⟩⟩⟩⟩⟩
theorem lw_p64 : lw_okq (⟨"LadderStreetModel", "areOn", "()Z"⟩, 63) := ⟨⟨by decide +kernel, by decide +kernel⟩, List.mem_of_getElem? (i := 1196) (by decide +kernel), List.mem_of_getElem? (i := 1508) (by decide +kernel), List.mem_of_getElem? (i := 1509) (by decide +kernel)⟩
theorem lw_p65 : lw_okq (⟨"LadderStreetModel", "isPerson", "(I)Z"⟩, 63) := ⟨⟨by decide +kernel, by decide +kernel⟩, List.mem_of_getElem? (i := 1196) (by decide +kernel), List.mem_of_getElem? (i := 1520) (by decide +kernel), List.mem_of_getElem? (i := 1521) (by decide +kernel)⟩
theorem lw_p66 : lw_okq (⟨"LadderStreetModel", "widthAt", "(I)I"⟩, 63) := ⟨⟨by decide +kernel, by decide +kernel⟩, List.mem_of_getElem? (i := 1196) (by decide +kernel), List.mem_of_getElem? (i := 1527) (by decide +kernel), List.mem_of_getElem? (i := 1528) (by decide +kernel)⟩
theorem lw_p67 : lw_okq (⟨"LadderStreetModel", "isRung", "(I)Z"⟩, 63) := ⟨⟨by decide +kernel, by decide +kernel⟩, List.mem_of_getElem? (i := 1196) (by decide +kernel), List.mem_of_getElem? (i := 1535) (by decide +kernel), List.mem_of_getElem? (i := 1536) (by decide +kernel)⟩
theorem lw_p68 : lw_okq (⟨"LadderStreetModel", "copies", "()V"⟩, 63) := ⟨⟨by decide +kernel, by decide +kernel⟩, List.mem_of_getElem? (i := 1196) (by decide +kernel), List.mem_of_getElem? (i := 1539) (by decide +kernel), List.mem_of_getElem? (i := 1540) (by decide +kernel)⟩
theorem lw_p69 : lw_okq (⟨"LadderStreetModel", "roomOf", "(I)I"⟩, 63) := ⟨⟨by decide +kernel, by decide +kernel⟩, List.mem_of_getElem? (i := 1196) (by decide +kernel), List.mem_of_getElem? (i := 1543) (by decide +kernel), List.mem_of_getElem? (i := 1544) (by decide +kernel)⟩
theorem lw_p70 : lw_okq (⟨"LadderStreetModel", "looks", "(I)V"⟩, 63) := ⟨⟨by decide +kernel, by decide +kernel⟩, List.mem_of_getElem? (i := 1196) (by decide +kernel), List.mem_of_getElem? (i := 1547) (by decide +kernel), List.mem_of_getElem? (i := 1548) (by decide +kernel)⟩
theorem lw_p71 : lw_okq (⟨"LadderStreetModel", "lawTells", "(II)I"⟩, 63) := ⟨⟨by decide +kernel, by decide +kernel⟩, List.mem_of_getElem? (i := 1196) (by decide +kernel), List.mem_of_getElem? (i := 1551) (by decide +kernel), List.mem_of_getElem? (i := 1552) (by decide +kernel)⟩
theorem lw_p72 : lw_okq (⟨"LadderStreetModel", "termOf", "(II)I"⟩, 63) := ⟨⟨by decide +kernel, by decide +kernel⟩, List.mem_of_getElem? (i := 1196) (by decide +kernel), List.mem_of_getElem? (i := 1555) (by decide +kernel), List.mem_of_getElem? (i := 1556) (by decide +kernel)⟩
theorem lw_p73 : lw_okq (⟨"LadderStreetModel", "widthsOn", "(I)I"⟩, 63) := ⟨⟨by decide +kernel, by decide +kernel⟩, List.mem_of_getElem? (i := 1196) (by decide +kernel), List.mem_of_getElem? (i := 1562) (by decide +kernel), List.mem_of_getElem? (i := 1563) (by decide +kernel)⟩
theorem lw_p74 : lw_okq (⟨"LadderStreetModel", "onRung", "(I)I"⟩, 63) := ⟨⟨by decide +kernel, by decide +kernel⟩, List.mem_of_getElem? (i := 1196) (by decide +kernel), List.mem_of_getElem? (i := 1566) (by decide +kernel), List.mem_of_getElem? (i := 1567) (by decide +kernel)⟩
theorem lw_p75 : lw_okq (⟨"LadderStreetModel", "widthsOf", "(I)I"⟩, 63) := ⟨⟨by decide +kernel, by decide +kernel⟩, List.mem_of_getElem? (i := 1196) (by decide +kernel), List.mem_of_getElem? (i := 1570) (by decide +kernel), List.mem_of_getElem? (i := 1571) (by decide +kernel)⟩
theorem lw_p76 : lw_okq (⟨"LadderStreetModel", "isWhole", "(I)Z"⟩, 63) := ⟨⟨by decide +kernel, by decide +kernel⟩, List.mem_of_getElem? (i := 1196) (by decide +kernel), List.mem_of_getElem? (i := 1574) (by decide +kernel), List.mem_of_getElem? (i := 1575) (by decide +kernel)⟩
theorem lw_p77 : lw_okq (⟨"LadderStreetModel", "breaksOf", "(I)I"⟩, 63) := ⟨⟨by decide +kernel, by decide +kernel⟩, List.mem_of_getElem? (i := 1196) (by decide +kernel), List.mem_of_getElem? (i := 1578) (by decide +kernel), List.mem_of_getElem? (i := 1579) (by decide +kernel)⟩
theorem lw_p78 : lw_okq (⟨"LadderStreetModel", "couldCome", "(II)Z"⟩, 63) := ⟨⟨by decide +kernel, by decide +kernel⟩, List.mem_of_getElem? (i := 1196) (by decide +kernel), List.mem_of_getElem? (i := 1589) (by decide +kernel), List.mem_of_getElem? (i := 1590) (by decide +kernel)⟩
theorem lw_p79 : lw_okq (⟨"LadderStreetModel", "hasRoom", "(III)Z"⟩, 63) := ⟨⟨by decide +kernel, by decide +kernel⟩, List.mem_of_getElem? (i := 1196) (by decide +kernel), List.mem_of_getElem? (i := 1593) (by decide +kernel), List.mem_of_getElem? (i := 1594) (by decide +kernel)⟩
def lw_privs_5 : List (MethodName × Nat) := [(⟨"LadderStreetModel", "areOn", "()Z"⟩, 63), (⟨"LadderStreetModel", "isPerson", "(I)Z"⟩, 63), (⟨"LadderStreetModel", "widthAt", "(I)I"⟩, 63), (⟨"LadderStreetModel", "isRung", "(I)Z"⟩, 63), (⟨"LadderStreetModel", "copies", "()V"⟩, 63), (⟨"LadderStreetModel", "roomOf", "(I)I"⟩, 63), (⟨"LadderStreetModel", "looks", "(I)V"⟩, 63), (⟨"LadderStreetModel", "lawTells", "(II)I"⟩, 63), (⟨"LadderStreetModel", "termOf", "(II)I"⟩, 63), (⟨"LadderStreetModel", "widthsOn", "(I)I"⟩, 63), (⟨"LadderStreetModel", "onRung", "(I)I"⟩, 63), (⟨"LadderStreetModel", "widthsOf", "(I)I"⟩, 63), (⟨"LadderStreetModel", "isWhole", "(I)Z"⟩, 63), (⟨"LadderStreetModel", "breaksOf", "(I)I"⟩, 63), (⟨"LadderStreetModel", "couldCome", "(II)Z"⟩, 63), (⟨"LadderStreetModel", "hasRoom", "(III)Z"⟩, 63)]
theorem lw_r5 : ∀ q ∈ lw_privs_5, lw_okq q := List.forall_mem_cons.mpr ⟨lw_p64, List.forall_mem_cons.mpr ⟨lw_p65, List.forall_mem_cons.mpr ⟨lw_p66, List.forall_mem_cons.mpr ⟨lw_p67, List.forall_mem_cons.mpr ⟨lw_p68, List.forall_mem_cons.mpr ⟨lw_p69, List.forall_mem_cons.mpr ⟨lw_p70, List.forall_mem_cons.mpr ⟨lw_p71, List.forall_mem_cons.mpr ⟨lw_p72, List.forall_mem_cons.mpr ⟨lw_p73, List.forall_mem_cons.mpr ⟨lw_p74, List.forall_mem_cons.mpr ⟨lw_p75, List.forall_mem_cons.mpr ⟨lw_p76, List.forall_mem_cons.mpr ⟨lw_p77, List.forall_mem_cons.mpr ⟨lw_p78, List.forall_mem_cons.mpr ⟨lw_p79, fun _ h => absurd h List.not_mem_nil⟩⟩⟩⟩⟩⟩⟩⟩⟩⟩⟩⟩⟩⟩⟩⟩
theorem lw_p80 : lw_okq (⟨"LadderStreetModel", "records", "()V"⟩, 63) := ⟨⟨by decide +kernel, by decide +kernel⟩, List.mem_of_getElem? (i := 1196) (by decide +kernel), List.mem_of_getElem? (i := 1601) (by decide +kernel), List.mem_of_getElem? (i := 1602) (by decide +kernel)⟩
theorem lw_p81 : lw_okq (⟨"LadderStreetModel", "pours", "(I)I"⟩, 63) := ⟨⟨by decide +kernel, by decide +kernel⟩, List.mem_of_getElem? (i := 1196) (by decide +kernel), List.mem_of_getElem? (i := 1616) (by decide +kernel), List.mem_of_getElem? (i := 1617) (by decide +kernel)⟩
theorem lw_p82 : lw_okq (⟨"LadderStreetModel", "cupOf", "(II)I"⟩, 63) := ⟨⟨by decide +kernel, by decide +kernel⟩, List.mem_of_getElem? (i := 1196) (by decide +kernel), List.mem_of_getElem? (i := 1620) (by decide +kernel), List.mem_of_getElem? (i := 1621) (by decide +kernel)⟩
theorem lw_p83 : lw_okq (⟨"LadderStreetModel", "looksAt", "(I)V"⟩, 63) := ⟨⟨by decide +kernel, by decide +kernel⟩, List.mem_of_getElem? (i := 1196) (by decide +kernel), List.mem_of_getElem? (i := 1624) (by decide +kernel), List.mem_of_getElem? (i := 1625) (by decide +kernel)⟩
theorem lw_p84 : lw_okq (⟨"LadderStreetModel", "goes", "(I)V"⟩, 63) := ⟨⟨by decide +kernel, by decide +kernel⟩, List.mem_of_getElem? (i := 1196) (by decide +kernel), List.mem_of_getElem? (i := 1635) (by decide +kernel), List.mem_of_getElem? (i := 1636) (by decide +kernel)⟩
theorem lw_p85 : lw_okq (⟨"LadderStreetModel", "minuteGoes", "()V"⟩, 63) := ⟨⟨by decide +kernel, by decide +kernel⟩, List.mem_of_getElem? (i := 1196) (by decide +kernel), List.mem_of_getElem? (i := 1639) (by decide +kernel), List.mem_of_getElem? (i := 1640) (by decide +kernel)⟩
theorem lw_p86 : lw_okq (⟨"LadderStreetModel", "personGoes", "(I)V"⟩, 63) := ⟨⟨by decide +kernel, by decide +kernel⟩, List.mem_of_getElem? (i := 1196) (by decide +kernel), List.mem_of_getElem? (i := 1643) (by decide +kernel), List.mem_of_getElem? (i := 1644) (by decide +kernel)⟩
theorem lw_p87 : lw_okq (⟨"LadderStreetModel", "quarrelOf", "(II)I"⟩, 63) := ⟨⟨by decide +kernel, by decide +kernel⟩, List.mem_of_getElem? (i := 1196) (by decide +kernel), List.mem_of_getElem? (i := 1650) (by decide +kernel), List.mem_of_getElem? (i := 1651) (by decide +kernel)⟩
theorem lw_p88 : lw_okq (⟨"LadderStreetModel", "breakingBits", "()I"⟩, 63) := ⟨⟨by decide +kernel, by decide +kernel⟩, List.mem_of_getElem? (i := 1196) (by decide +kernel), List.mem_of_getElem? (i := 1655) (by decide +kernel), List.mem_of_getElem? (i := 1656) (by decide +kernel)⟩
theorem lw_p89 : lw_okq (⟨"LadderStreetModel", "lotOf", "(I)I"⟩, 63) := ⟨⟨by decide +kernel, by decide +kernel⟩, List.mem_of_getElem? (i := 1196) (by decide +kernel), List.mem_of_getElem? (i := 1659) (by decide +kernel), List.mem_of_getElem? (i := 1660) (by decide +kernel)⟩
theorem lw_p90 : lw_okq (⟨"LadderStreetModel", "theyBreak", "(I)V"⟩, 63) := ⟨⟨by decide +kernel, by decide +kernel⟩, List.mem_of_getElem? (i := 1196) (by decide +kernel), List.mem_of_getElem? (i := 1667) (by decide +kernel), List.mem_of_getElem? (i := 1668) (by decide +kernel)⟩
theorem lw_p91 : lw_okq (⟨"LadderStreetModel", "falls", "(I)V"⟩, 63) := ⟨⟨by decide +kernel, by decide +kernel⟩, List.mem_of_getElem? (i := 1196) (by decide +kernel), List.mem_of_getElem? (i := 1671) (by decide +kernel), List.mem_of_getElem? (i := 1672) (by decide +kernel)⟩
theorem lw_p92 : lw_okq (⟨"LadderStreetModel", "blockBits", "(II)I"⟩, 63) := ⟨⟨by decide +kernel, by decide +kernel⟩, List.mem_of_getElem? (i := 1196) (by decide +kernel), List.mem_of_getElem? (i := 1683) (by decide +kernel), List.mem_of_getElem? (i := 1684) (by decide +kernel)⟩
theorem lw_p93 : lw_okq (⟨"LadderStreetModel", "errandsFrom", "()I"⟩, 63) := ⟨⟨by decide +kernel, by decide +kernel⟩, List.mem_of_getElem? (i := 1196) (by decide +kernel), List.mem_of_getElem? (i := 1691) (by decide +kernel), List.mem_of_getElem? (i := 1692) (by decide +kernel)⟩
theorem lw_p94 : lw_okq (⟨"LadderStreetModel", "goalBits", "()I"⟩, 63) := ⟨⟨by decide +kernel, by decide +kernel⟩, List.mem_of_getElem? (i := 1196) (by decide +kernel), List.mem_of_getElem? (i := 1695) (by decide +kernel), List.mem_of_getElem? (i := 1696) (by decide +kernel)⟩
theorem lw_p95 : lw_okq (⟨"LadderStreetModel", "bothGo", "(IIII)V"⟩, 63) := ⟨⟨by decide +kernel, by decide +kernel⟩, List.mem_of_getElem? (i := 1196) (by decide +kernel), List.mem_of_getElem? (i := 1703) (by decide +kernel), List.mem_of_getElem? (i := 1704) (by decide +kernel)⟩
def lw_privs_6 : List (MethodName × Nat) := [(⟨"LadderStreetModel", "records", "()V"⟩, 63), (⟨"LadderStreetModel", "pours", "(I)I"⟩, 63), (⟨"LadderStreetModel", "cupOf", "(II)I"⟩, 63), (⟨"LadderStreetModel", "looksAt", "(I)V"⟩, 63), (⟨"LadderStreetModel", "goes", "(I)V"⟩, 63), (⟨"LadderStreetModel", "minuteGoes", "()V"⟩, 63), (⟨"LadderStreetModel", "personGoes", "(I)V"⟩, 63), (⟨"LadderStreetModel", "quarrelOf", "(II)I"⟩, 63), (⟨"LadderStreetModel", "breakingBits", "()I"⟩, 63), (⟨"LadderStreetModel", "lotOf", "(I)I"⟩, 63), (⟨"LadderStreetModel", "theyBreak", "(I)V"⟩, 63), (⟨"LadderStreetModel", "falls", "(I)V"⟩, 63), (⟨"LadderStreetModel", "blockBits", "(II)I"⟩, 63), (⟨"LadderStreetModel", "errandsFrom", "()I"⟩, 63), (⟨"LadderStreetModel", "goalBits", "()I"⟩, 63), (⟨"LadderStreetModel", "bothGo", "(IIII)V"⟩, 63)]
theorem lw_r6 : ∀ q ∈ lw_privs_6, lw_okq q := List.forall_mem_cons.mpr ⟨lw_p80, List.forall_mem_cons.mpr ⟨lw_p81, List.forall_mem_cons.mpr ⟨lw_p82, List.forall_mem_cons.mpr ⟨lw_p83, List.forall_mem_cons.mpr ⟨lw_p84, List.forall_mem_cons.mpr ⟨lw_p85, List.forall_mem_cons.mpr ⟨lw_p86, List.forall_mem_cons.mpr ⟨lw_p87, List.forall_mem_cons.mpr ⟨lw_p88, List.forall_mem_cons.mpr ⟨lw_p89, List.forall_mem_cons.mpr ⟨lw_p90, List.forall_mem_cons.mpr ⟨lw_p91, List.forall_mem_cons.mpr ⟨lw_p92, List.forall_mem_cons.mpr ⟨lw_p93, List.forall_mem_cons.mpr ⟨lw_p94, List.forall_mem_cons.mpr ⟨lw_p95, fun _ h => absurd h List.not_mem_nil⟩⟩⟩⟩⟩⟩⟩⟩⟩⟩⟩⟩⟩⟩⟩⟩
theorem lw_p96 : lw_okq (⟨"LadderStreetModel", "otherGoes", "(I)V"⟩, 63) := ⟨⟨by decide +kernel, by decide +kernel⟩, List.mem_of_getElem? (i := 1196) (by decide +kernel), List.mem_of_getElem? (i := 1707) (by decide +kernel), List.mem_of_getElem? (i := 1708) (by decide +kernel)⟩
theorem lw_p97 : lw_okq (⟨"LadderStreetModel", "marks", "(I)V"⟩, 63) := ⟨⟨by decide +kernel, by decide +kernel⟩, List.mem_of_getElem? (i := 1196) (by decide +kernel), List.mem_of_getElem? (i := 1711) (by decide +kernel), List.mem_of_getElem? (i := 1712) (by decide +kernel)⟩
theorem lw_p98 : lw_okq (⟨"LadderStreetModel", "aloneTo", "(II)I"⟩, 63) := ⟨⟨by decide +kernel, by decide +kernel⟩, List.mem_of_getElem? (i := 1196) (by decide +kernel), List.mem_of_getElem? (i := 1719) (by decide +kernel), List.mem_of_getElem? (i := 1720) (by decide +kernel)⟩
theorem lw_p99 : lw_okq (⟨"LadderStreetModel", "partsOf", "(II)I"⟩, 63) := ⟨⟨by decide +kernel, by decide +kernel⟩, List.mem_of_getElem? (i := 1196) (by decide +kernel), List.mem_of_getElem? (i := 1742) (by decide +kernel), List.mem_of_getElem? (i := 1743) (by decide +kernel)⟩
theorem lw_p100 : lw_okq (⟨"LadderStreetModel", "findsHomes", "(I)Z"⟩, 63) := ⟨⟨by decide +kernel, by decide +kernel⟩, List.mem_of_getElem? (i := 1196) (by decide +kernel), List.mem_of_getElem? (i := 1754) (by decide +kernel), List.mem_of_getElem? (i := 1755) (by decide +kernel)⟩
theorem lw_p101 : lw_okq (⟨"LadderStreetModel", "canLive", "(III)Z"⟩, 63) := ⟨⟨by decide +kernel, by decide +kernel⟩, List.mem_of_getElem? (i := 1196) (by decide +kernel), List.mem_of_getElem? (i := 1758) (by decide +kernel), List.mem_of_getElem? (i := 1759) (by decide +kernel)⟩
theorem lw_p102 : lw_okq (⟨"LadderStreetModel", "brokenBits", "()I"⟩, 63) := ⟨⟨by decide +kernel, by decide +kernel⟩, List.mem_of_getElem? (i := 1196) (by decide +kernel), List.mem_of_getElem? (i := 1806) (by decide +kernel), List.mem_of_getElem? (i := 1807) (by decide +kernel)⟩
theorem lw_p103 : lw_okq (⟨"LadderStreetModel", "trodBits", "(I)I"⟩, 63) := ⟨⟨by decide +kernel, by decide +kernel⟩, List.mem_of_getElem? (i := 1196) (by decide +kernel), List.mem_of_getElem? (i := 1829) (by decide +kernel), List.mem_of_getElem? (i := 1830) (by decide +kernel)⟩
theorem lw_p104 : lw_okq (⟨"LadderStreetModel", "treadsOn", "(II)Z"⟩, 63) := ⟨⟨by decide +kernel, by decide +kernel⟩, List.mem_of_getElem? (i := 1196) (by decide +kernel), List.mem_of_getElem? (i := 1833) (by decide +kernel), List.mem_of_getElem? (i := 1834) (by decide +kernel)⟩
theorem lw_p105 : lw_okq (⟨"LadderStreetModel", "sumNow", "(I)I"⟩, 63) := ⟨⟨by decide +kernel, by decide +kernel⟩, List.mem_of_getElem? (i := 1196) (by decide +kernel), List.mem_of_getElem? (i := 1853) (by decide +kernel), List.mem_of_getElem? (i := 1854) (by decide +kernel)⟩
def lw_privs_7 : List (MethodName × Nat) := [(⟨"LadderStreetModel", "otherGoes", "(I)V"⟩, 63), (⟨"LadderStreetModel", "marks", "(I)V"⟩, 63), (⟨"LadderStreetModel", "aloneTo", "(II)I"⟩, 63), (⟨"LadderStreetModel", "partsOf", "(II)I"⟩, 63), (⟨"LadderStreetModel", "findsHomes", "(I)Z"⟩, 63), (⟨"LadderStreetModel", "canLive", "(III)Z"⟩, 63), (⟨"LadderStreetModel", "brokenBits", "()I"⟩, 63), (⟨"LadderStreetModel", "trodBits", "(I)I"⟩, 63), (⟨"LadderStreetModel", "treadsOn", "(II)Z"⟩, 63), (⟨"LadderStreetModel", "sumNow", "(I)I"⟩, 63)]
theorem lw_r7 : ∀ q ∈ lw_privs_7, lw_okq q := List.forall_mem_cons.mpr ⟨lw_p96, List.forall_mem_cons.mpr ⟨lw_p97, List.forall_mem_cons.mpr ⟨lw_p98, List.forall_mem_cons.mpr ⟨lw_p99, List.forall_mem_cons.mpr ⟨lw_p100, List.forall_mem_cons.mpr ⟨lw_p101, List.forall_mem_cons.mpr ⟨lw_p102, List.forall_mem_cons.mpr ⟨lw_p103, List.forall_mem_cons.mpr ⟨lw_p104, List.forall_mem_cons.mpr ⟨lw_p105, fun _ h => absurd h List.not_mem_nil⟩⟩⟩⟩⟩⟩⟩⟩⟩⟩
def lw_privs : List (MethodName × Nat) := lw_privs_1 ++ (lw_privs_2 ++ (lw_privs_3 ++ (lw_privs_4 ++ (lw_privs_5 ++ (lw_privs_6 ++ (lw_privs_7))))))
def lw_tbl : List Cond := k2_sels lw_privs ++ tables_1
theorem lw_privs_ok : ∀ q ∈ lw_privs, lw_okq q := by
  show ∀ q ∈ lw_privs_1 ++ (lw_privs_2 ++ (lw_privs_3 ++ (lw_privs_4 ++ (lw_privs_5 ++ (lw_privs_6 ++ (lw_privs_7)))))), lw_okq q
  exact List.forall_mem_append.mpr ⟨lw_r1, List.forall_mem_append.mpr ⟨lw_r2, List.forall_mem_append.mpr ⟨lw_r3, List.forall_mem_append.mpr ⟨lw_r4, List.forall_mem_append.mpr ⟨lw_r5, List.forall_mem_append.mpr ⟨lw_r6, lw_r7⟩⟩⟩⟩⟩⟩
-- ===== end of PART A; then your names; then what follows =====
def RX0 : String := "LadderStreet$Course"
def TX0 : u_T := fun k => match k with
  | 0 => ("LadderStreet$Course", "town", "LLadderStreet$Town;", true)
  | _ => ("LadderStreet$Course", "laws", "LLadderStreet$Laws;", true)
def tyX0 : Nat → FieldType := fun k => match k with
  | 0 => .object "LadderStreet$Town"
  | _ => .object "LadderStreet$Laws"
abbrev wsX00 : List Cond := u_ws RX0 TX0 2
theorem nmX0 : ∀ a, a < 2 → ∀ b, b < 2 → a ≠ b → (TX0 a).2.1 ≠ (TX0 b).2.1 := by decide +kernel
theorem tyX0_ok : ∀ k, k < 2 → parseFieldDescriptor (TX0 k).2.2.1 = some (tyX0 k) := by decide +kernel
abbrev cX0_init : ByteArray := prog_2_method_1_code
def yX0_init : MethodName := ⟨RX0, "<init>", "(LLadderStreet$Town;)V"⟩
abbrev cX0_roomOf : ByteArray := prog_2_method_2_code
def yX0_roomOf : MethodName := ⟨RX0, "roomOf", "(II)I"⟩
abbrev cX0_breaksOf : ByteArray := prog_2_method_3_code
def yX0_breaksOf : MethodName := ⟨RX0, "breaksOf", "(LLadderStreet$Moment;I)I"⟩
abbrev cX0_quarrelOf : ByteArray := prog_2_method_4_code
def yX0_quarrelOf : MethodName := ⟨RX0, "quarrelOf", "(LLadderStreet$Moment;II)I"⟩
abbrev cX0_cupOf : ByteArray := prog_2_method_5_code
def yX0_cupOf : MethodName := ⟨RX0, "cupOf", "(LLadderStreet$Moment;II)I"⟩
abbrev cX0_setPerson : ByteArray := prog_2_method_6_code
def yX0_setPerson : MethodName := ⟨RX0, "setPerson", "(LLadderStreet$Moment;I)V"⟩
abbrev cX0_widthsOn : ByteArray := prog_2_method_7_code
def yX0_widthsOn : MethodName := ⟨RX0, "widthsOn", "(LLadderStreet$Moment;I)I"⟩
abbrev cX0_fits : ByteArray := prog_2_method_8_code
def yX0_fits : MethodName := ⟨RX0, "fits", "(LLadderStreet$Moment;II)Z"⟩
abbrev cX0_oneMinute : ByteArray := prog_2_method_9_code
def yX0_oneMinute : MethodName := ⟨RX0, "oneMinute", "(LLadderStreet$Moment;IZ)V"⟩
abbrev cX0_goOn : ByteArray := prog_2_method_10_code
def yX0_goOn : MethodName := ⟨RX0, "goOn", "(LLadderStreet$Moment;I)V"⟩
abbrev cX0_towards : ByteArray := prog_2_method_11_code
def yX0_towards : MethodName := ⟨RX0, "towards", "(LLadderStreet$Moment;I)I"⟩
abbrev cX0_breakAndFall : ByteArray := prog_2_method_12_code
def yX0_breakAndFall : MethodName := ⟨RX0, "breakAndFall", "(LLadderStreet$Moment;I)V"⟩
abbrev cX0_fall : ByteArray := prog_2_method_13_code
def yX0_fall : MethodName := ⟨RX0, "fall", "(LLadderStreet$Moment;I)V"⟩
abbrev cX0_letDown : ByteArray := prog_2_method_14_code
def yX0_letDown : MethodName := ⟨RX0, "letDown", "(LLadderStreet$Moment;I)I"⟩
abbrev cX0_errandsWithin : ByteArray := prog_2_method_15_code
def yX0_errandsWithin : MethodName := ⟨RX0, "errandsWithin", "(ILLadderStreet$Moment;IZ)I"⟩
abbrev cX0_nobodyGoes : ByteArray := prog_2_method_16_code
def yX0_nobodyGoes : MethodName := ⟨RX0, "nobodyGoes", "(LLadderStreet$Moment;)Z"⟩
def RX1 : String := "LadderStreet$Homes"
def TX1 : u_T := fun k => match k with
  | 0 => ("LadderStreet$Homes", "town", "LLadderStreet$Town;", true)
  | 1 => ("LadderStreet$Homes", "course", "LLadderStreet$Course;", true)
  | 2 => ("LadderStreet$Homes", "space", "[I", true)
  | _ => ("LadderStreet$Homes", "chosen", "[I", true)
def tyX1 : Nat → FieldType := fun k => match k with
  | 0 => .object "LadderStreet$Town"
  | 1 => .object "LadderStreet$Course"
  | 2 => .array .int
  | _ => .array .int
abbrev wsX10 : List Cond := u_ws RX1 TX1 4
theorem nmX1 : ∀ a, a < 4 → ∀ b, b < 4 → a ≠ b → (TX1 a).2.1 ≠ (TX1 b).2.1 := by decide +kernel
theorem tyX1_ok : ∀ k, k < 4 → parseFieldDescriptor (TX1 k).2.2.1 = some (tyX1 k) := by decide +kernel
abbrev cX1_init : ByteArray := prog_3_method_1_code
def yX1_init : MethodName := ⟨RX1, "<init>", "(LLadderStreet$Town;LLadderStreet$Course;)V"⟩
abbrev cX1_areFound : ByteArray := prog_3_method_2_code
def yX1_areFound : MethodName := ⟨RX1, "areFound", "(LLadderStreet$Moment;I)Z"⟩
abbrev cX1_homeOf : ByteArray := prog_3_method_3_code
def yX1_homeOf : MethodName := ⟨RX1, "homeOf", "(I)I"⟩
abbrev cX1_settle : ByteArray := prog_3_method_4_code
def yX1_settle : MethodName := ⟨RX1, "settle", "(LLadderStreet$Moment;II)Z"⟩
def RX2 : String := "LadderStreet$Laws"
def TX2 : u_T := fun k => match k with
  | 0 => ("LadderStreet$Laws", "ops", "[I", true)
  | 1 => ("LadderStreet$Laws", "args", "[I", true)
  | 2 => ("LadderStreet$Laws", "starts", "[I", true)
  | 3 => ("LadderStreet$Laws", "vars", "[I", true)
  | 4 => ("LadderStreet$Laws", "pending", "[I", true)
  | _ => ("LadderStreet$Laws", "steps", "I", false)
def tyX2 : Nat → FieldType := fun k => match k with
  | 0 => .array .int
  | 1 => .array .int
  | 2 => .array .int
  | 3 => .array .int
  | 4 => .array .int
  | _ => .int
abbrev wsX20 : List Cond := u_ws RX2 TX2 6
theorem nmX2 : ∀ a, a < 6 → ∀ b, b < 6 → a ≠ b → (TX2 a).2.1 ≠ (TX2 b).2.1 := by decide +kernel
theorem tyX2_ok : ∀ k, k < 6 → parseFieldDescriptor (TX2 k).2.2.1 = some (tyX2 k) := by decide +kernel
abbrev cX2_init : ByteArray := prog_4_method_1_code
def yX2_init : MethodName := ⟨RX2, "<init>", "()V"⟩
abbrev cX2_clear : ByteArray := prog_4_method_2_code
def yX2_clear : MethodName := ⟨RX2, "clear", "()V"⟩
abbrev cX2_begin : ByteArray := prog_4_method_3_code
def yX2_begin : MethodName := ⟨RX2, "begin", "(I)V"⟩
abbrev cX2_add : ByteArray := prog_4_method_4_code
def yX2_add : MethodName := ⟨RX2, "add", "(II)I"⟩
abbrev cX2_jumpHere : ByteArray := prog_4_method_5_code
def yX2_jumpHere : MethodName := ⟨RX2, "jumpHere", "(I)V"⟩
abbrev cX2_become : ByteArray := prog_4_method_6_code
def yX2_become : MethodName := ⟨RX2, "become", "(LLadderStreet$Laws;)V"⟩
abbrev cX2_setAll : ByteArray := prog_4_method_7_code
def yX2_setAll : MethodName := ⟨RX2, "setAll", "(II)V"⟩
abbrev cX2_set : ByteArray := prog_4_method_8_code
def yX2_set : MethodName := ⟨RX2, "set", "(II)V"⟩
abbrev cX2_worth : ByteArray := prog_4_method_9_code
def yX2_worth : MethodName := ⟨RX2, "worth", "(I)I"⟩
abbrev cX2_reckoned : ByteArray := prog_4_method_10_code
def yX2_reckoned : MethodName := ⟨RX2, "reckoned", "(III)I"⟩
def RX3 : String := "LadderStreet$Looks"
def TX3 : u_T := fun k => match k with
  | 0 => ("LadderStreet$Looks", "town", "LLadderStreet$Town;", true)
  | _ => ("LadderStreet$Looks", "course", "LLadderStreet$Course;", true)
def tyX3 : Nat → FieldType := fun k => match k with
  | 0 => .object "LadderStreet$Town"
  | _ => .object "LadderStreet$Course"
abbrev wsX30 : List Cond := u_ws RX3 TX3 2
theorem nmX3 : ∀ a, a < 2 → ∀ b, b < 2 → a ≠ b → (TX3 a).2.1 ≠ (TX3 b).2.1 := by decide +kernel
theorem tyX3_ok : ∀ k, k < 2 → parseFieldDescriptor (TX3 k).2.2.1 = some (tyX3 k) := by decide +kernel
abbrev cX3_init : ByteArray := prog_5_method_1_code
def yX3_init : MethodName := ⟨RX3, "<init>", "(LLadderStreet$Town;LLadderStreet$Course;)V"⟩
abbrev cX3_peopleOn : ByteArray := prog_5_method_2_code
def yX3_peopleOn : MethodName := ⟨RX3, "peopleOn", "(LLadderStreet$Moment;I)I"⟩
abbrev cX3_peopleAbove : ByteArray := prog_5_method_3_code
def yX3_peopleAbove : MethodName := ⟨RX3, "peopleAbove", "(LLadderStreet$Moment;I)I"⟩
abbrev cX3_peopleWithGoal : ByteArray := prog_5_method_4_code
def yX3_peopleWithGoal : MethodName := ⟨RX3, "peopleWithGoal", "(LLadderStreet$Moment;)I"⟩
abbrev cX3_overfull : ByteArray := prog_5_method_5_code
def yX3_overfull : MethodName := ⟨RX3, "overfull", "(LLadderStreet$Moment;)I"⟩
abbrev cX3_empty : ByteArray := prog_5_method_6_code
def yX3_empty : MethodName := ⟨RX3, "empty", "(LLadderStreet$Moment;)I"⟩
abbrev cX3_rungsFor : ByteArray := prog_5_method_7_code
def yX3_rungsFor : MethodName := ⟨RX3, "rungsFor", "(LLadderStreet$Moment;I)I"⟩
abbrev cX3_fullestRung : ByteArray := prog_5_method_8_code
def yX3_fullestRung : MethodName := ⟨RX3, "fullestRung", "(LLadderStreet$Moment;)I"⟩
abbrev cX3_whoTookLeast : ByteArray := prog_5_method_9_code
def yX3_whoTookLeast : MethodName := ⟨RX3, "whoTookLeast", "(LLadderStreet$Moment;)I"⟩
abbrev cX3_whoWaitedLongest : ByteArray := prog_5_method_10_code
def yX3_whoWaitedLongest : MethodName := ⟨RX3, "whoWaitedLongest", "(LLadderStreet$Moment;)I"⟩
abbrev cX3_blockedTo : ByteArray := prog_5_method_11_code
def yX3_blockedTo : MethodName := ⟨RX3, "blockedTo", "(LLadderStreet$Moment;II)I"⟩
abbrev cX3_partedPairs : ByteArray := prog_5_method_12_code
def yX3_partedPairs : MethodName := ⟨RX3, "partedPairs", "(LLadderStreet$Moment;II)I"⟩
abbrev cX3_leastParting : ByteArray := prog_5_method_13_code
def yX3_leastParting : MethodName := ⟨RX3, "leastParting", "(LLadderStreet$Moment;I)I"⟩
abbrev cX3_meetingRung : ByteArray := prog_5_method_14_code
def yX3_meetingRung : MethodName := ⟨RX3, "meetingRung", "(LLadderStreet$Moment;II)I"⟩
abbrev cX3_widthsWith : ByteArray := prog_5_method_15_code
def yX3_widthsWith : MethodName := ⟨RX3, "widthsWith", "(LLadderStreet$Moment;III)I"⟩
abbrev cX3_farther : ByteArray := prog_5_method_16_code
def yX3_farther : MethodName := ⟨RX3, "farther", "(LLadderStreet$Moment;III)I"⟩
abbrev cX3_keptBy : ByteArray := prog_5_method_17_code
def yX3_keptBy : MethodName := ⟨RX3, "keptBy", "(LLadderStreet$Moment;I)I"⟩
abbrev cX3_whoKnows : ByteArray := prog_5_method_18_code
def yX3_whoKnows : MethodName := ⟨RX3, "whoKnows", "(LLadderStreet$Moment;II)I"⟩
abbrev cX3_whoHears : ByteArray := prog_5_method_19_code
def yX3_whoHears : MethodName := ⟨RX3, "whoHears", "(LLadderStreet$Moment;I)I"⟩
abbrev cX3_areNear : ByteArray := prog_5_method_20_code
def yX3_areNear : MethodName := ⟨RX3, "areNear", "(LLadderStreet$Moment;III)Z"⟩
abbrev cX3_pairsWithin : ByteArray := prog_5_method_21_code
def yX3_pairsWithin : MethodName := ⟨RX3, "pairsWithin", "(LLadderStreet$Moment;I)I"⟩
abbrev cX3_mostPairs : ByteArray := prog_5_method_22_code
def yX3_mostPairs : MethodName := ⟨RX3, "mostPairs", "(LLadderStreet$Moment;III)I"⟩
def RX4 : String := "LadderStreet$Moment"
def TX4 : u_T := fun k => match k with
  | _ => ("LadderStreet$Moment", "cells", "[I", true)
def tyX4 : Nat → FieldType := fun k => match k with
  | _ => .array .int
abbrev wsX40 : List Cond := u_ws RX4 TX4 1
theorem nmX4 : ∀ a, a < 1 → ∀ b, b < 1 → a ≠ b → (TX4 a).2.1 ≠ (TX4 b).2.1 := by decide +kernel
theorem tyX4_ok : ∀ k, k < 1 → parseFieldDescriptor (TX4 k).2.2.1 = some (tyX4 k) := by decide +kernel
abbrev cX4_init : ByteArray := prog_6_method_1_code
def yX4_init : MethodName := ⟨RX4, "<init>", "()V"⟩
abbrev cX4_begin : ByteArray := prog_6_method_2_code
def yX4_begin : MethodName := ⟨RX4, "begin", "(LLadderStreet$Town;)V"⟩
abbrev cX4_become : ByteArray := prog_6_method_3_code
def yX4_become : MethodName := ⟨RX4, "become", "(LLadderStreet$Moment;)V"⟩
abbrev cX4_copyTo : ByteArray := prog_6_method_4_code
def yX4_copyTo : MethodName := ⟨RX4, "copyTo", "([II)V"⟩
abbrev cX4_copyFrom : ByteArray := prog_6_method_5_code
def yX4_copyFrom : MethodName := ⟨RX4, "copyFrom", "([II)V"⟩
abbrev cX4_of : ByteArray := prog_6_method_6_code
def yX4_of : MethodName := ⟨RX4, "of", "(II)I"⟩
abbrev cX4_put : ByteArray := prog_6_method_7_code
def yX4_put : MethodName := ⟨RX4, "put", "(III)V"⟩
abbrev cX4_sumOf : ByteArray := prog_6_method_8_code
def yX4_sumOf : MethodName := ⟨RX4, "sumOf", "(I)I"⟩
abbrev cX4_minute : ByteArray := prog_6_method_9_code
def yX4_minute : MethodName := ⟨RX4, "minute", "()I"⟩
abbrev cX4_nextMinute : ByteArray := prog_6_method_10_code
def yX4_nextMinute : MethodName := ⟨RX4, "nextMinute", "()V"⟩
abbrev cX4_quarrels : ByteArray := prog_6_method_11_code
def yX4_quarrels : MethodName := ⟨RX4, "quarrels", "()I"⟩
abbrev cX4_addQuarrels : ByteArray := prog_6_method_12_code
def yX4_addQuarrels : MethodName := ⟨RX4, "addQuarrels", "(I)V"⟩
abbrev cX4_broken : ByteArray := prog_6_method_13_code
def yX4_broken : MethodName := ⟨RX4, "broken", "()I"⟩
abbrev cX4_isWhole : ByteArray := prog_6_method_14_code
def yX4_isWhole : MethodName := ⟨RX4, "isWhole", "(I)Z"⟩
abbrev cX4_makeWhole : ByteArray := prog_6_method_15_code
def yX4_makeWhole : MethodName := ⟨RX4, "makeWhole", "(I)V"⟩
abbrev cX4_breakDown : ByteArray := prog_6_method_16_code
def yX4_breakDown : MethodName := ⟨RX4, "breakDown", "(I)V"⟩
abbrev cX4_stopGoing : ByteArray := prog_6_method_17_code
def yX4_stopGoing : MethodName := ⟨RX4, "stopGoing", "(I)V"⟩
abbrev cX4_copyTook : ByteArray := prog_6_method_18_code
def yX4_copyTook : MethodName := ⟨RX4, "copyTook", "([I)V"⟩
abbrev cX4_tookAsIn : ByteArray := prog_6_method_19_code
def yX4_tookAsIn : MethodName := ⟨RX4, "tookAsIn", "([I)Z"⟩
def RX5 : String := "LadderStreet$Reader"
def TX5 : u_T := fun k => match k with
  | 0 => ("LadderStreet$Reader", "draft", "LLadderStreet$Town;", true)
  | 1 => ("LadderStreet$Reader", "tokens", "LLadderStreet$Tokens;", true)
  | 2 => ("LadderStreet$Reader", "names", "[J", true)
  | 3 => ("LadderStreet$Reader", "token", "I", false)
  | 4 => ("LadderStreet$Reader", "kind", "I", false)
  | 5 => ("LadderStreet$Reader", "place", "I", false)
  | 6 => ("LadderStreet$Reader", "worth", "J", false)
  | 7 => ("LadderStreet$Reader", "fault", "I", false)
  | 8 => ("LadderStreet$Reader", "faultPlace", "I", false)
  | 9 => ("LadderStreet$Reader", "untrue", "I", false)
  | _ => ("LadderStreet$Reader", "untruePlace", "I", false)
def tyX5 : Nat → FieldType := fun k => match k with
  | 0 => .object "LadderStreet$Town"
  | 1 => .object "LadderStreet$Tokens"
  | 2 => .array .long
  | 3 => .int
  | 4 => .int
  | 5 => .int
  | 6 => .long
  | 7 => .int
  | 8 => .int
  | 9 => .int
  | _ => .int
abbrev wsX50 : List Cond := u_ws RX5 TX5 11
theorem nmX5 : ∀ a, a < 11 → ∀ b, b < 11 → a ≠ b → (TX5 a).2.1 ≠ (TX5 b).2.1 := by decide +kernel
theorem tyX5_ok : ∀ k, k < 11 → parseFieldDescriptor (TX5 k).2.2.1 = some (tyX5 k) := by decide +kernel
abbrev cX5_init : ByteArray := prog_7_method_1_code
def yX5_init : MethodName := ⟨RX5, "<init>", "()V"⟩
abbrev cX5_begin : ByteArray := prog_7_method_2_code
def yX5_begin : MethodName := ⟨RX5, "begin", "([BI)V"⟩
abbrev cX5_goesOn : ByteArray := prog_7_method_3_code
def yX5_goesOn : MethodName := ⟨RX5, "goesOn", "()Z"⟩
abbrev cX5_end : ByteArray := prog_7_method_4_code
def yX5_end : MethodName := ⟨RX5, "end", "()I"⟩
abbrev cX5_placeOfFault : ByteArray := prog_7_method_5_code
def yX5_placeOfFault : MethodName := ⟨RX5, "placeOfFault", "()I"⟩
abbrev cX5_fail : ByteArray := prog_7_method_6_code
def yX5_fail : MethodName := ⟨RX5, "fail", "(I)V"⟩
abbrev cX5_note : ByteArray := prog_7_method_7_code
def yX5_note : MethodName := ⟨RX5, "note", "(II)V"⟩
abbrev cX5_take : ByteArray := prog_7_method_8_code
def yX5_take : MethodName := ⟨RX5, "take", "(I)Z"⟩
abbrev cX5_readTell : ByteArray := prog_7_method_9_code
def yX5_readTell : MethodName := ⟨RX5, "readTell", "()V"⟩
abbrev cX5_readInt : ByteArray := prog_7_method_10_code
def yX5_readInt : MethodName := ⟨RX5, "readInt", "(II)I"⟩
abbrev cX5_readPerson : ByteArray := prog_7_method_11_code
def yX5_readPerson : MethodName := ⟨RX5, "readPerson", "()V"⟩
abbrev cX5_readName : ByteArray := prog_7_method_12_code
def yX5_readName : MethodName := ⟨RX5, "readName", "()V"⟩
abbrev cX5_readLaw : ByteArray := prog_7_method_13_code
def yX5_readLaw : MethodName := ⟨RX5, "readLaw", "(I)V"⟩
abbrev cX5_readSum : ByteArray := prog_7_method_14_code
def yX5_readSum : MethodName := ⟨RX5, "readSum", "(I)V"⟩
abbrev cX5_readProduct : ByteArray := prog_7_method_15_code
def yX5_readProduct : MethodName := ⟨RX5, "readProduct", "(I)V"⟩
abbrev cX5_readUnit : ByteArray := prog_7_method_16_code
def yX5_readUnit : MethodName := ⟨RX5, "readUnit", "(I)V"⟩
def RX6 : String := "LadderStreet$Rumours"
def TX6 : u_T := fun k => match k with
  | 0 => ("LadderStreet$Rumours", "town", "LLadderStreet$Town;", true)
  | 1 => ("LadderStreet$Rumours", "rungs", "[I", true)
  | 2 => ("LadderStreet$Rumours", "fromAbove", "[Z", true)
  | _ => ("LadderStreet$Rumours", "size", "I", false)
def tyX6 : Nat → FieldType := fun k => match k with
  | 0 => .object "LadderStreet$Town"
  | 1 => .array .int
  | 2 => .array .boolean
  | _ => .int
abbrev wsX60 : List Cond := u_ws RX6 TX6 4
theorem nmX6 : ∀ a, a < 4 → ∀ b, b < 4 → a ≠ b → (TX6 a).2.1 ≠ (TX6 b).2.1 := by decide +kernel
theorem tyX6_ok : ∀ k, k < 4 → parseFieldDescriptor (TX6 k).2.2.1 = some (tyX6 k) := by decide +kernel
abbrev cX6_init : ByteArray := prog_8_method_1_code
def yX6_init : MethodName := ⟨RX6, "<init>", "(LLadderStreet$Town;)V"⟩
abbrev cX6_howMany : ByteArray := prog_8_method_2_code
def yX6_howMany : MethodName := ⟨RX6, "howMany", "()I"⟩
abbrev cX6_add : ByteArray := prog_8_method_3_code
def yX6_add : MethodName := ⟨RX6, "add", "(IZ)I"⟩
abbrev cX6_clear : ByteArray := prog_8_method_4_code
def yX6_clear : MethodName := ⟨RX6, "clear", "()I"⟩
abbrev cX6_whoFits : ByteArray := prog_8_method_5_code
def yX6_whoFits : MethodName := ⟨RX6, "whoFits", "(LLadderStreet$Moment;I)I"⟩
abbrev cX6_doesFit : ByteArray := prog_8_method_6_code
def yX6_doesFit : MethodName := ⟨RX6, "doesFit", "(LLadderStreet$Moment;II)Z"⟩
abbrev cX6_treads : ByteArray := prog_8_method_7_code
def yX6_treads : MethodName := ⟨RX6, "treads", "(LLadderStreet$Moment;II)Z"⟩
abbrev cX6_bestRung : ByteArray := prog_8_method_8_code
def yX6_bestRung : MethodName := ⟨RX6, "bestRung", "(LLadderStreet$Moment;I)I"⟩
abbrev cX6_whoTreads : ByteArray := prog_8_method_9_code
def yX6_whoTreads : MethodName := ⟨RX6, "whoTreads", "(LLadderStreet$Moment;I)I"⟩
def RX7 : String := "LadderStreet$Shelf"
def TX7 : u_T := fun k => match k with
  | 0 => ("LadderStreet$Shelf", "done", "[I", true)
  | 1 => ("LadderStreet$Shelf", "slots", "[I", true)
  | 2 => ("LadderStreet$Shelf", "next", "I", false)
  | 3 => ("LadderStreet$Shelf", "undoable", "I", false)
  | _ => ("LadderStreet$Shelf", "filled", "I", false)
def tyX7 : Nat → FieldType := fun k => match k with
  | 0 => .array .int
  | 1 => .array .int
  | 2 => .int
  | 3 => .int
  | _ => .int
abbrev wsX70 : List Cond := u_ws RX7 TX7 5
theorem nmX7 : ∀ a, a < 5 → ∀ b, b < 5 → a ≠ b → (TX7 a).2.1 ≠ (TX7 b).2.1 := by decide +kernel
theorem tyX7_ok : ∀ k, k < 5 → parseFieldDescriptor (TX7 k).2.2.1 = some (tyX7 k) := by decide +kernel
abbrev cX7_init : ByteArray := prog_9_method_1_code
def yX7_init : MethodName := ⟨RX7, "<init>", "()V"⟩
abbrev cX7_clear : ByteArray := prog_9_method_2_code
def yX7_clear : MethodName := ⟨RX7, "clear", "()V"⟩
abbrev cX7_undoable : ByteArray := prog_9_method_3_code
def yX7_undoable : MethodName := ⟨RX7, "undoable", "()I"⟩
abbrev cX7_filledSlots : ByteArray := prog_9_method_4_code
def yX7_filledSlots : MethodName := ⟨RX7, "filledSlots", "()I"⟩
abbrev cX7_remember : ByteArray := prog_9_method_5_code
def yX7_remember : MethodName := ⟨RX7, "remember", "(LLadderStreet$Moment;)V"⟩
abbrev cX7_bringBack : ByteArray := prog_9_method_6_code
def yX7_bringBack : MethodName := ⟨RX7, "bringBack", "(LLadderStreet$Moment;)Z"⟩
abbrev cX7_holdIn : ByteArray := prog_9_method_7_code
def yX7_holdIn : MethodName := ⟨RX7, "holdIn", "(ILLadderStreet$Moment;)Z"⟩
abbrev cX7_goOnFrom : ByteArray := prog_9_method_8_code
def yX7_goOnFrom : MethodName := ⟨RX7, "goOnFrom", "(ILLadderStreet$Moment;)Z"⟩
def RX8 : String := "LadderStreet$Tokens"
def TX8 : u_T := fun k => match k with
  | 0 => ("LadderStreet$Tokens", "words", "[J", true)
  | 1 => ("LadderStreet$Tokens", "kinds", "[I", true)
  | 2 => ("LadderStreet$Tokens", "places", "[I", true)
  | 3 => ("LadderStreet$Tokens", "worths", "[J", true)
  | _ => ("LadderStreet$Tokens", "size", "I", false)
def tyX8 : Nat → FieldType := fun k => match k with
  | 0 => .array .long
  | 1 => .array .int
  | 2 => .array .int
  | 3 => .array .long
  | _ => .int
abbrev wsX80 : List Cond := u_ws RX8 TX8 5
theorem nmX8 : ∀ a, a < 5 → ∀ b, b < 5 → a ≠ b → (TX8 a).2.1 ≠ (TX8 b).2.1 := by decide +kernel
theorem tyX8_ok : ∀ k, k < 5 → parseFieldDescriptor (TX8 k).2.2.1 = some (tyX8 k) := by decide +kernel
abbrev cX8_init : ByteArray := prog_10_method_1_code
def yX8_init : MethodName := ⟨RX8, "<init>", "()V"⟩
abbrev cX8_withLetter : ByteArray := prog_10_method_2_code
def yX8_withLetter : MethodName := ⟨RX8, "withLetter", "(JI)J"⟩
abbrev cX8_kindOf : ByteArray := prog_10_method_3_code
def yX8_kindOf : MethodName := ⟨RX8, "kindOf", "(I)I"⟩
abbrev cX8_placeOf : ByteArray := prog_10_method_4_code
def yX8_placeOf : MethodName := ⟨RX8, "placeOf", "(I)I"⟩
abbrev cX8_worthOf : ByteArray := prog_10_method_5_code
def yX8_worthOf : MethodName := ⟨RX8, "worthOf", "(I)J"⟩
abbrev cX8_split : ByteArray := prog_10_method_6_code
def yX8_split : MethodName := ⟨RX8, "split", "([BI)V"⟩
abbrev cX8_add : ByteArray := prog_10_method_7_code
def yX8_add : MethodName := ⟨RX8, "add", "(IIJ)V"⟩
abbrev cX8_behindBlanks : ByteArray := prog_10_method_8_code
def yX8_behindBlanks : MethodName := ⟨RX8, "behindBlanks", "([BII)I"⟩
abbrev cX8_splitName : ByteArray := prog_10_method_9_code
def yX8_splitName : MethodName := ⟨RX8, "splitName", "([BII)I"⟩
abbrev cX8_kindOfName : ByteArray := prog_10_method_10_code
def yX8_kindOfName : MethodName := ⟨RX8, "kindOfName", "(J)I"⟩
abbrev cX8_splitInt : ByteArray := prog_10_method_11_code
def yX8_splitInt : MethodName := ⟨RX8, "splitInt", "([BII)I"⟩
abbrev cX8_isBlank : ByteArray := prog_10_method_12_code
def yX8_isBlank : MethodName := ⟨RX8, "isBlank", "(I)Z"⟩
abbrev cX8_isLetter : ByteArray := prog_10_method_13_code
def yX8_isLetter : MethodName := ⟨RX8, "isLetter", "(I)Z"⟩
abbrev cX8_isDigit : ByteArray := prog_10_method_14_code
def yX8_isDigit : MethodName := ⟨RX8, "isDigit", "(I)Z"⟩
abbrev cX8_isSign : ByteArray := prog_10_method_15_code
def yX8_isSign : MethodName := ⟨RX8, "isSign", "(I)Z"⟩
def RX9 : String := "LadderStreet$Town"
def TX9 : u_T := fun k => match k with
  | 0 => ("LadderStreet$Town", "rungs", "I", false)
  | 1 => ("LadderStreet$Town", "people", "I", false)
  | 2 => ("LadderStreet$Town", "seed", "I", false)
  | 3 => ("LadderStreet$Town", "laws", "LLadderStreet$Laws;", true)
  | 4 => ("LadderStreet$Town", "starts", "[I", true)
  | 5 => ("LadderStreet$Town", "widths", "[I", true)
  | 6 => ("LadderStreet$Town", "tempers", "[I", true)
  | _ => ("LadderStreet$Town", "thirsts", "[I", true)
def tyX9 : Nat → FieldType := fun k => match k with
  | 0 => .int
  | 1 => .int
  | 2 => .int
  | 3 => .object "LadderStreet$Laws"
  | 4 => .array .int
  | 5 => .array .int
  | 6 => .array .int
  | _ => .array .int
abbrev wsX90 : List Cond := u_ws RX9 TX9 8
theorem nmX9 : ∀ a, a < 8 → ∀ b, b < 8 → a ≠ b → (TX9 a).2.1 ≠ (TX9 b).2.1 := by decide +kernel
theorem tyX9_ok : ∀ k, k < 8 → parseFieldDescriptor (TX9 k).2.2.1 = some (tyX9 k) := by decide +kernel
abbrev cX9_init : ByteArray := prog_11_method_1_code
def yX9_init : MethodName := ⟨RX9, "<init>", "()V"⟩
abbrev cX9_clear : ByteArray := prog_11_method_2_code
def yX9_clear : MethodName := ⟨RX9, "clear", "()V"⟩
abbrev cX9_addPerson : ByteArray := prog_11_method_3_code
def yX9_addPerson : MethodName := ⟨RX9, "addPerson", "(IIII)V"⟩
abbrev cX9_become : ByteArray := prog_11_method_4_code
def yX9_become : MethodName := ⟨RX9, "become", "(LLadderStreet$Town;)V"⟩
abbrev cX9_hasPerson : ByteArray := prog_11_method_5_code
def yX9_hasPerson : MethodName := ⟨RX9, "hasPerson", "(I)Z"⟩
abbrev cX9_hasRung : ByteArray := prog_11_method_6_code
def yX9_hasRung : MethodName := ⟨RX9, "hasRung", "(I)Z"⟩
abbrev cX9_hasAllRungsTold : ByteArray := prog_11_method_7_code
def yX9_hasAllRungsTold : MethodName := ⟨RX9, "hasAllRungsTold", "()Z"⟩
abbrev cX9_startOf : ByteArray := prog_11_method_8_code
def yX9_startOf : MethodName := ⟨RX9, "startOf", "(I)I"⟩
abbrev cX9_widthOf : ByteArray := prog_11_method_9_code
def yX9_widthOf : MethodName := ⟨RX9, "widthOf", "(I)I"⟩
abbrev cX9_temperOf : ByteArray := prog_11_method_10_code
def yX9_temperOf : MethodName := ⟨RX9, "temperOf", "(I)I"⟩
abbrev cX9_thirstOf : ByteArray := prog_11_method_11_code
def yX9_thirstOf : MethodName := ⟨RX9, "thirstOf", "(I)I"⟩
abbrev cX9_sumOfWidths : ByteArray := prog_11_method_12_code
def yX9_sumOfWidths : MethodName := ⟨RX9, "sumOfWidths", "()I"⟩
abbrev cX9_sumOfThirst : ByteArray := prog_11_method_13_code
def yX9_sumOfThirst : MethodName := ⟨RX9, "sumOfThirst", "()I"⟩
def RX10 : String := "LadderStreet$Ways"
def TX10 : u_T := fun k => match k with
  | 0 => ("LadderStreet$Ways", "town", "LLadderStreet$Town;", true)
  | 1 => ("LadderStreet$Ways", "course", "LLadderStreet$Course;", true)
  | 2 => ("LadderStreet$Ways", "space", "[I", true)
  | 3 => ("LadderStreet$Ways", "places", "[I", false)
  | _ => ("LadderStreet$Ways", "nextPlaces", "[I", false)
def tyX10 : Nat → FieldType := fun k => match k with
  | 0 => .object "LadderStreet$Town"
  | 1 => .object "LadderStreet$Course"
  | 2 => .array .int
  | 3 => .array .int
  | _ => .array .int
abbrev wsX100 : List Cond := u_ws RX10 TX10 5
theorem nmX10 : ∀ a, a < 5 → ∀ b, b < 5 → a ≠ b → (TX10 a).2.1 ≠ (TX10 b).2.1 := by decide +kernel
theorem tyX10_ok : ∀ k, k < 5 → parseFieldDescriptor (TX10 k).2.2.1 = some (tyX10 k) := by decide +kernel
abbrev cX10_init : ByteArray := prog_12_method_1_code
def yX10_init : MethodName := ⟨RX10, "<init>", "(LLadderStreet$Town;LLadderStreet$Course;)V"⟩
abbrev cX10_setSpace : ByteArray := prog_12_method_2_code
def yX10_setSpace : MethodName := ⟨RX10, "setSpace", "(LLadderStreet$Moment;III)V"⟩
abbrev cX10_ownWidth : ByteArray := prog_12_method_3_code
def yX10_ownWidth : MethodName := ⟨RX10, "ownWidth", "(LLadderStreet$Moment;II)I"⟩
abbrev cX10_takes : ByteArray := prog_12_method_4_code
def yX10_takes : MethodName := ⟨RX10, "takes", "(II)Z"⟩
abbrev cX10_fewestForOne : ByteArray := prog_12_method_5_code
def yX10_fewestForOne : MethodName := ⟨RX10, "fewestForOne", "(LLadderStreet$Moment;II)I"⟩
abbrev cX10_allForOne : ByteArray := prog_12_method_6_code
def yX10_allForOne : MethodName := ⟨RX10, "allForOne", "(LLadderStreet$Moment;I)I"⟩
abbrev cX10_spread : ByteArray := prog_12_method_7_code
def yX10_spread : MethodName := ⟨RX10, "spread", "(II)I"⟩
abbrev cX10_fewestForTwo : ByteArray := prog_12_method_8_code
def yX10_fewestForTwo : MethodName := ⟨RX10, "fewestForTwo", "(LLadderStreet$Moment;IIII)I"⟩
abbrev cX10_spreadBoth : ByteArray := prog_12_method_9_code
def yX10_spreadBoth : MethodName := ⟨RX10, "spreadBoth", "(II)V"⟩
abbrev cX10_spreadOne : ByteArray := prog_12_method_10_code
def yX10_spreadOne : MethodName := ⟨RX10, "spreadOne", "(IIII)V"⟩
abbrev cX10_otherPlaces : ByteArray := prog_12_method_11_code
def yX10_otherPlaces : MethodName := ⟨RX10, "otherPlaces", "(IIII)I"⟩
def RX11 : String := "LadderStreet"
def TX11 : u_T := fun k => match k with
  | 0 => ("LadderStreet", "tape", "[B", true)
  | 1 => ("LadderStreet", "taped", "I", false)
  | 2 => ("LadderStreet", "faultPlace", "I", false)
  | 3 => ("LadderStreet", "reader", "LLadderStreet$Reader;", true)
  | 4 => ("LadderStreet", "town", "LLadderStreet$Town;", true)
  | 5 => ("LadderStreet", "now", "LLadderStreet$Moment;", true)
  | 6 => ("LadderStreet", "later", "LLadderStreet$Moment;", true)
  | 7 => ("LadderStreet", "shelf", "LLadderStreet$Shelf;", true)
  | 8 => ("LadderStreet", "course", "LLadderStreet$Course;", true)
  | 9 => ("LadderStreet", "ways", "LLadderStreet$Ways;", true)
  | 10 => ("LadderStreet", "looks", "LLadderStreet$Looks;", true)
  | 11 => ("LadderStreet", "living", "LLadderStreet$Homes;", true)
  | 12 => ("LadderStreet", "rumours", "LLadderStreet$Rumours;", true)
  | _ => ("LadderStreet", "taken", "[I", true)
def tyX11 : Nat → FieldType := fun k => match k with
  | 0 => .array .byte
  | 1 => .int
  | 2 => .int
  | 3 => .object "LadderStreet$Reader"
  | 4 => .object "LadderStreet$Town"
  | 5 => .object "LadderStreet$Moment"
  | 6 => .object "LadderStreet$Moment"
  | 7 => .object "LadderStreet$Shelf"
  | 8 => .object "LadderStreet$Course"
  | 9 => .object "LadderStreet$Ways"
  | 10 => .object "LadderStreet$Looks"
  | 11 => .object "LadderStreet$Homes"
  | 12 => .object "LadderStreet$Rumours"
  | _ => .array .int
abbrev wsX110 : List Cond := u_ws RX11 TX11 14
theorem nmX11 : ∀ a, a < 14 → ∀ b, b < 14 → a ≠ b → (TX11 a).2.1 ≠ (TX11 b).2.1 := by decide +kernel
theorem tyX11_ok : ∀ k, k < 14 → parseFieldDescriptor (TX11 k).2.2.1 = some (tyX11 k) := by decide +kernel
abbrev cX11_init : ByteArray := prog_1_method_1_code
def yX11_init : MethodName := ⟨RX11, "<init>", "()V"⟩
abbrev cX11_feed : ByteArray := prog_1_method_2_code
def yX11_feed : MethodName := ⟨RX11, "feed", "(IIIII)I"⟩
abbrev cX11_putFour : ByteArray := prog_1_method_3_code
def yX11_putFour : MethodName := ⟨RX11, "putFour", "(I)V"⟩
abbrev cX11_back : ByteArray := prog_1_method_4_code
def yX11_back : MethodName := ⟨RX11, "back", "(I)I"⟩
abbrev cX11_read : ByteArray := prog_1_method_5_code
def yX11_read : MethodName := ⟨RX11, "read", "()I"⟩
abbrev cX11_place : ByteArray := prog_1_method_6_code
def yX11_place : MethodName := ⟨RX11, "place", "()I"⟩
abbrev cX11_person : ByteArray := prog_1_method_7_code
def yX11_person : MethodName := ⟨RX11, "person", "(II)I"⟩
abbrev cX11_rung : ByteArray := prog_1_method_8_code
def yX11_rung : MethodName := ⟨RX11, "rung", "(II)I"⟩
abbrev cX11_can : ByteArray := prog_1_method_9_code
def yX11_can : MethodName := ⟨RX11, "can", "(II)I"⟩
abbrev cX11_count : ByteArray := prog_1_method_10_code
def yX11_count : MethodName := ⟨RX11, "count", "(I)I"⟩
abbrev cX11_areThere : ByteArray := prog_1_method_11_code
def yX11_areThere : MethodName := ⟨RX11, "areThere", "(II)Z"⟩
abbrev cX11_areTwo : ByteArray := prog_1_method_12_code
def yX11_areTwo : MethodName := ⟨RX11, "areTwo", "(II)Z"⟩
abbrev cX11_isWithin : ByteArray := prog_1_method_13_code
def yX11_isWithin : MethodName := ⟨RX11, "isWithin", "(III)Z"⟩
abbrev cX11_send : ByteArray := prog_1_method_14_code
def yX11_send : MethodName := ⟨RX11, "send", "(II)Z"⟩
abbrev cX11_mend : ByteArray := prog_1_method_15_code
def yX11_mend : MethodName := ⟨RX11, "mend", "(I)Z"⟩
abbrev cX11_bucket : ByteArray := prog_1_method_16_code
def yX11_bucket : MethodName := ⟨RX11, "bucket", "(I)I"⟩
abbrev cX11_minutes : ByteArray := prog_1_method_17_code
def yX11_minutes : MethodName := ⟨RX11, "minutes", "(I)I"⟩
abbrev cX11_undo : ByteArray := prog_1_method_18_code
def yX11_undo : MethodName := ⟨RX11, "undo", "()Z"⟩
abbrev cX11_hold : ByteArray := prog_1_method_19_code
def yX11_hold : MethodName := ⟨RX11, "hold", "(I)Z"⟩
abbrev cX11_restore : ByteArray := prog_1_method_20_code
def yX11_restore : MethodName := ⟨RX11, "restore", "(I)Z"⟩
abbrev cX11_inTheWay : ByteArray := prog_1_method_21_code
def yX11_inTheWay : MethodName := ⟨RX11, "inTheWay", "(II)I"⟩
abbrev cX11_past : ByteArray := prog_1_method_22_code
def yX11_past : MethodName := ⟨RX11, "past", "(IIII)I"⟩
abbrev cX11_alone : ByteArray := prog_1_method_23_code
def yX11_alone : MethodName := ⟨RX11, "alone", "(II)I"⟩
abbrev cX11_reach : ByteArray := prog_1_method_24_code
def yX11_reach : MethodName := ⟨RX11, "reach", "(I)I"⟩
abbrev cX11_meet : ByteArray := prog_1_method_25_code
def yX11_meet : MethodName := ⟨RX11, "meet", "(III)I"⟩
abbrev cX11_above : ByteArray := prog_1_method_26_code
def yX11_above : MethodName := ⟨RX11, "above", "(I)I"⟩
abbrev cX11_driest : ByteArray := prog_1_method_27_code
def yX11_driest : MethodName := ⟨RX11, "driest", "(I)I"⟩
abbrev cX11_parts : ByteArray := prog_1_method_28_code
def yX11_parts : MethodName := ⟨RX11, "parts", "(II)I"⟩
abbrev cX11_least : ByteArray := prog_1_method_29_code
def yX11_least : MethodName := ⟨RX11, "least", "(II)I"⟩
abbrev cX11_homes : ByteArray := prog_1_method_30_code
def yX11_homes : MethodName := ⟨RX11, "homes", "(II)I"⟩
abbrev cX11_news : ByteArray := prog_1_method_31_code
def yX11_news : MethodName := ⟨RX11, "news", "(II)I"⟩
abbrev cX11_pairs : ByteArray := prog_1_method_32_code
def yX11_pairs : MethodName := ⟨RX11, "pairs", "(I)I"⟩
abbrev cX11_kept : ByteArray := prog_1_method_33_code
def yX11_kept : MethodName := ⟨RX11, "kept", "(I)I"⟩
abbrev cX11_free : ByteArray := prog_1_method_34_code
def yX11_free : MethodName := ⟨RX11, "free", "(I)I"⟩
abbrev cX11_share : ByteArray := prog_1_method_35_code
def yX11_share : MethodName := ⟨RX11, "share", "(II)I"⟩
abbrev cX11_enough : ByteArray := prog_1_method_36_code
def yX11_enough : MethodName := ⟨RX11, "enough", "()I"⟩
abbrev cX11_letDownLater : ByteArray := prog_1_method_37_code
def yX11_letDownLater : MethodName := ⟨RX11, "letDownLater", "(I)V"⟩
abbrev cX11_errands : ByteArray := prog_1_method_38_code
def yX11_errands : MethodName := ⟨RX11, "errands", "()I"⟩
abbrev cX11_mendFirst : ByteArray := prog_1_method_39_code
def yX11_mendFirst : MethodName := ⟨RX11, "mendFirst", "()I"⟩
abbrev cX11_waits : ByteArray := prog_1_method_40_code
def yX11_waits : MethodName := ⟨RX11, "waits", "(II)I"⟩
abbrev cX11_crowd : ByteArray := prog_1_method_41_code
def yX11_crowd : MethodName := ⟨RX11, "crowd", "(II)I"⟩
abbrev cX11_then : ByteArray := prog_1_method_42_code
def yX11_then : MethodName := ⟨RX11, "then", "(III)I"⟩
abbrev cX11_year : ByteArray := prog_1_method_43_code
def yX11_year : MethodName := ⟨RX11, "year", "(II)I"⟩
abbrev cX11_lookAhead : ByteArray := prog_1_method_44_code
def yX11_lookAhead : MethodName := ⟨RX11, "lookAhead", "(I)V"⟩
abbrev cX11_tell : ByteArray := prog_1_method_45_code
def yX11_tell : MethodName := ⟨RX11, "tell", "(IZ)I"⟩
abbrev cX11_forget : ByteArray := prog_1_method_46_code
def yX11_forget : MethodName := ⟨RX11, "forget", "()I"⟩
abbrev cX11_trod : ByteArray := prog_1_method_47_code
def yX11_trod : MethodName := ⟨RX11, "trod", "(II)I"⟩
abbrev cX11_ask : ByteArray := prog_1_method_48_code
def yX11_ask : MethodName := ⟨RX11, "ask", "(I)I"⟩
abbrev cX11_at : ByteArray := prog_1_method_49_code
def yX11_at : MethodName := ⟨RX11, "at", "([II)I"⟩
abbrev cX11_hasBit : ByteArray := prog_1_method_50_code
def yX11_hasBit : MethodName := ⟨RX11, "hasBit", "(II)Z"⟩
abbrev cX11_lot : ByteArray := prog_1_method_51_code
def yX11_lot : MethodName := ⟨RX11, "lot", "(III)I"⟩
abbrev cX11_stirred : ByteArray := prog_1_method_52_code
def yX11_stirred : MethodName := ⟨RX11, "stirred", "(II)I"⟩
def RX12 : String := "LadderStreetModel"
def TX12 : u_T := fun k => match k with
  | 0 => ("LadderStreetModel", "thrown", "I", false)
  | 1 => ("LadderStreetModel", "tape", "[B", true)
  | 2 => ("LadderStreetModel", "taped", "I", false)
  | 3 => ("LadderStreetModel", "text", "[B", true)
  | 4 => ("LadderStreetModel", "size", "I", false)
  | 5 => ("LadderStreetModel", "tKind", "[I", true)
  | 6 => ("LadderStreetModel", "tPlace", "[I", true)
  | 7 => ("LadderStreetModel", "tValue", "[I", true)
  | 8 => ("LadderStreetModel", "tName", "[J", true)
  | 9 => ("LadderStreetModel", "keys", "[J", true)
  | 10 => ("LadderStreetModel", "tokens", "I", false)
  | 11 => ("LadderStreetModel", "t", "I", false)
  | 12 => ("LadderStreetModel", "open", "I", false)
  | 13 => ("LadderStreetModel", "fault", "I", false)
  | 14 => ("LadderStreetModel", "faultPlace", "I", false)
  | 15 => ("LadderStreetModel", "worst", "I", false)
  | 16 => ("LadderStreetModel", "worstPlace", "I", false)
  | 17 => ("LadderStreetModel", "place", "I", false)
  | 18 => ("LadderStreetModel", "live", "I", false)
  | 19 => ("LadderStreetModel", "side", "I", false)
  | 20 => ("LadderStreetModel", "names", "I", false)
  | 21 => ("LadderStreetModel", "nameOf", "[J", true)
  | 22 => ("LadderStreetModel", "shaft", "[I", true)
  | 23 => ("LadderStreetModel", "people", "[I", true)
  | 24 => ("LadderStreetModel", "atTold", "[I", true)
  | 25 => ("LadderStreetModel", "widthOf", "[I", true)
  | 26 => ("LadderStreetModel", "temperOf", "[I", true)
  | 27 => ("LadderStreetModel", "thirstOf", "[I", true)
  | 28 => ("LadderStreetModel", "seed", "[I", true)
  | 29 => ("LadderStreetModel", "lawFirst", "[I", true)
  | 30 => ("LadderStreetModel", "lawLast", "[I", true)
  | 31 => ("LadderStreetModel", "branches", "I", false)
  | 32 => ("LadderStreetModel", "hasTest", "[Z", true)
  | 33 => ("LadderStreetModel", "testFrom", "[I", true)
  | 34 => ("LadderStreetModel", "testMid", "[I", true)
  | 35 => ("LadderStreetModel", "testTo", "[I", true)
  | 36 => ("LadderStreetModel", "termTo", "[I", true)
  | 37 => ("LadderStreetModel", "codes", "I", false)
  | 38 => ("LadderStreetModel", "code", "[I", true)
  | 39 => ("LadderStreetModel", "codeInt", "[I", true)
  | 40 => ("LadderStreetModel", "signsWait", "[I", true)
  | 41 => ("LadderStreetModel", "waiting", "I", false)
  | 42 => ("LadderStreetModel", "variables", "[I", true)
  | 43 => ("LadderStreetModel", "pile", "[I", true)
  | 44 => ("LadderStreetModel", "byNothing", "Z", false)
  | 45 => ("LadderStreetModel", "now", "[I", true)
  | 46 => ("LadderStreetModel", "row", "[I", true)
  | 47 => ("LadderStreetModel", "lots", "I", false)
  | 48 => ("LadderStreetModel", "isStill", "Z", false)
  | 49 => ("LadderStreetModel", "undos", "I", false)
  | 50 => ("LadderStreetModel", "history", "[I", true)
  | 51 => ("LadderStreetModel", "takesOf", "[I", true)
  | 52 => ("LadderStreetModel", "isSo", "[Z", true)
  | 53 => ("LadderStreetModel", "isThen", "[Z", true)
  | 54 => ("LadderStreetModel", "oneAt", "I", false)
  | 55 => ("LadderStreetModel", "homeOf", "[I", true)
  | 56 => ("LadderStreetModel", "fullOf", "[I", true)
  | 57 => ("LadderStreetModel", "pairsOf", "[I", true)
  | 58 => ("LadderStreetModel", "tolds", "I", false)
  | 59 => ("LadderStreetModel", "toldRung", "[I", true)
  | 60 => ("LadderStreetModel", "toldAbove", "[Z", true)
  | 61 => ("LadderStreetModel", "isHeld", "[Z", true)
  | _ => ("LadderStreetModel", "heldRows", "[I", true)
def tyX12 : Nat → FieldType := fun k => match k with
  | 0 => .int
  | 1 => .array .byte
  | 2 => .int
  | 3 => .array .byte
  | 4 => .int
  | 5 => .array .int
  | 6 => .array .int
  | 7 => .array .int
  | 8 => .array .long
  | 9 => .array .long
  | 10 => .int
  | 11 => .int
  | 12 => .int
  | 13 => .int
  | 14 => .int
  | 15 => .int
  | 16 => .int
  | 17 => .int
  | 18 => .int
  | 19 => .int
  | 20 => .int
  | 21 => .array .long
  | 22 => .array .int
  | 23 => .array .int
  | 24 => .array .int
  | 25 => .array .int
  | 26 => .array .int
  | 27 => .array .int
  | 28 => .array .int
  | 29 => .array .int
  | 30 => .array .int
  | 31 => .int
  | 32 => .array .boolean
  | 33 => .array .int
  | 34 => .array .int
  | 35 => .array .int
  | 36 => .array .int
  | 37 => .int
  | 38 => .array .int
  | 39 => .array .int
  | 40 => .array .int
  | 41 => .int
  | 42 => .array .int
  | 43 => .array .int
  | 44 => .boolean
  | 45 => .array .int
  | 46 => .array .int
  | 47 => .int
  | 48 => .boolean
  | 49 => .int
  | 50 => .array .int
  | 51 => .array .int
  | 52 => .array .boolean
  | 53 => .array .boolean
  | 54 => .int
  | 55 => .array .int
  | 56 => .array .int
  | 57 => .array .int
  | 58 => .int
  | 59 => .array .int
  | 60 => .array .boolean
  | 61 => .array .boolean
  | _ => .array .int
abbrev wsX120 : List Cond := u_ws RX12 TX12 63
theorem nmX12 : ∀ a, a < 63 → ∀ b, b < 63 → a ≠ b → (TX12 a).2.1 ≠ (TX12 b).2.1 := by decide +kernel
theorem tyX12_ok : ∀ k, k < 63 → parseFieldDescriptor (TX12 k).2.2.1 = some (tyX12 k) := by decide +kernel
abbrev cX12_init : ByteArray := prog_14_method_2_code
def yX12_init : MethodName := ⟨RX12, "<init>", "()V"⟩
abbrev cX12_feed : ByteArray := prog_14_method_3_code
def yX12_feed : MethodName := ⟨RX12, "feed", "(IIIII)I"⟩
abbrev cX12_put : ByteArray := prog_14_method_4_code
def yX12_put : MethodName := ⟨RX12, "put", "(I)V"⟩
abbrev cX12_back : ByteArray := prog_14_method_5_code
def yX12_back : MethodName := ⟨RX12, "back", "(I)I"⟩
abbrev cX12_byteAt : ByteArray := prog_14_method_6_code
def yX12_byteAt : MethodName := ⟨RX12, "byteAt", "(I)I"⟩
abbrev cX12_isDigit : ByteArray := prog_14_method_7_code
def yX12_isDigit : MethodName := ⟨RX12, "isDigit", "(I)Z"⟩
abbrev cX12_isLetter : ByteArray := prog_14_method_8_code
def yX12_isLetter : MethodName := ⟨RX12, "isLetter", "(I)Z"⟩
abbrev cX12_appends : ByteArray := prog_14_method_9_code
def yX12_appends : MethodName := ⟨RX12, "appends", "(JI)J"⟩
abbrev cX12_word : ByteArray := prog_14_method_10_code
def yX12_word : MethodName := ⟨RX12, "word", "(IIIIIII)J"⟩
abbrev cX12_token : ByteArray := prog_14_method_11_code
def yX12_token : MethodName := ⟨RX12, "token", "(IIIJ)V"⟩
abbrev cX12_cut : ByteArray := prog_14_method_12_code
def yX12_cut : MethodName := ⟨RX12, "cut", "()V"⟩
abbrev cX12_sign : ByteArray := prog_14_method_13_code
def yX12_sign : MethodName := ⟨RX12, "sign", "(III)I"⟩
abbrev cX12_is : ByteArray := prog_14_method_14_code
def yX12_is : MethodName := ⟨RX12, "is", "(I)Z"⟩
abbrev cX12_fail : ByteArray := prog_14_method_15_code
def yX12_fail : MethodName := ⟨RX12, "fail", "(I)V"⟩
abbrev cX12_wrong : ByteArray := prog_14_method_16_code
def yX12_wrong : MethodName := ⟨RX12, "wrong", "(II)V"⟩
abbrev cX12_goesOn : ByteArray := prog_14_method_17_code
def yX12_goesOn : MethodName := ⟨RX12, "goesOn", "()V"⟩
abbrev cX12_must : ByteArray := prog_14_method_18_code
def yX12_must : MethodName := ⟨RX12, "must", "(I)V"⟩
abbrev cX12_plain : ByteArray := prog_14_method_19_code
def yX12_plain : MethodName := ⟨RX12, "plain", "(I)V"⟩
abbrev cX12_read : ByteArray := prog_14_method_20_code
def yX12_read : MethodName := ⟨RX12, "read", "()I"⟩
abbrev cX12_place : ByteArray := prog_14_method_21_code
def yX12_place : MethodName := ⟨RX12, "place", "()I"⟩
abbrev cX12_areOn : ByteArray := prog_14_method_22_code
def yX12_areOn : MethodName := ⟨RX12, "areOn", "()Z"⟩
abbrev cX12_roomFor : ByteArray := prog_14_method_23_code
def yX12_roomFor : MethodName := ⟨RX12, "roomFor", "(II)V"⟩
abbrev cX12_tellOne : ByteArray := prog_14_method_24_code
def yX12_tellOne : MethodName := ⟨RX12, "tellOne", "()V"⟩
abbrev cX12_bounded : ByteArray := prog_14_method_25_code
def yX12_bounded : MethodName := ⟨RX12, "bounded", "(II)I"⟩
abbrev cX12_tellPerson : ByteArray := prog_14_method_26_code
def yX12_tellPerson : MethodName := ⟨RX12, "tellPerson", "()V"⟩
abbrev cX12_tellLaw : ByteArray := prog_14_method_27_code
def yX12_tellLaw : MethodName := ⟨RX12, "tellLaw", "(I)V"⟩
abbrev cX12_term : ByteArray := prog_14_method_28_code
def yX12_term : MethodName := ⟨RX12, "term", "()V"⟩
abbrev cX12_emit : ByteArray := prog_14_method_29_code
def yX12_emit : MethodName := ⟨RX12, "emit", "(II)V"⟩
abbrev cX12_comesOut : ByteArray := prog_14_method_30_code
def yX12_comesOut : MethodName := ⟨RX12, "comesOut", "(Z)V"⟩
abbrev cX12_expression : ByteArray := prog_14_method_31_code
def yX12_expression : MethodName := ⟨RX12, "expression", "()V"⟩
abbrev cX12_unit : ByteArray := prog_14_method_32_code
def yX12_unit : MethodName := ⟨RX12, "unit", "()V"⟩
abbrev cX12_termOf : ByteArray := prog_14_method_33_code
def yX12_termOf : MethodName := ⟨RX12, "termOf", "(II)I"⟩
abbrev cX12_in : ByteArray := prog_14_method_34_code
def yX12_in : MethodName := ⟨RX12, "in", "(III)Z"⟩
abbrev cX12_within : ByteArray := prog_14_method_35_code
def yX12_within : MethodName := ⟨RX12, "within", "(III)I"⟩
abbrev cX12_bits : ByteArray := prog_14_method_36_code
def yX12_bits : MethodName := ⟨RX12, "bits", "(I)I"⟩
abbrev cX12_off : ByteArray := prog_14_method_37_code
def yX12_off : MethodName := ⟨RX12, "off", "(II)I"⟩
abbrev cX12_isPerson : ByteArray := prog_14_method_38_code
def yX12_isPerson : MethodName := ⟨RX12, "isPerson", "(I)Z"⟩
abbrev cX12_isRung : ByteArray := prog_14_method_39_code
def yX12_isRung : MethodName := ⟨RX12, "isRung", "(I)Z"⟩
abbrev cX12_begins : ByteArray := prog_14_method_40_code
def yX12_begins : MethodName := ⟨RX12, "begins", "()V"⟩
abbrev cX12_keepsRow : ByteArray := prog_14_method_41_code
def yX12_keepsRow : MethodName := ⟨RX12, "keepsRow", "()V"⟩
abbrev cX12_copies : ByteArray := prog_14_method_42_code
def yX12_copies : MethodName := ⟨RX12, "copies", "()V"⟩
abbrev cX12_mixed : ByteArray := prog_14_method_43_code
def yX12_mixed : MethodName := ⟨RX12, "mixed", "(II)I"⟩
abbrev cX12_lotOf : ByteArray := prog_14_method_44_code
def yX12_lotOf : MethodName := ⟨RX12, "lotOf", "(I)I"⟩
abbrev cX12_isWhole : ByteArray := prog_14_method_45_code
def yX12_isWhole : MethodName := ⟨RX12, "isWhole", "(I)Z"⟩
abbrev cX12_widthAt : ByteArray := prog_14_method_46_code
def yX12_widthAt : MethodName := ⟨RX12, "widthAt", "(I)I"⟩
abbrev cX12_onRung : ByteArray := prog_14_method_47_code
def yX12_onRung : MethodName := ⟨RX12, "onRung", "(I)I"⟩
abbrev cX12_widthsOf : ByteArray := prog_14_method_48_code
def yX12_widthsOf : MethodName := ⟨RX12, "widthsOf", "(I)I"⟩
abbrev cX12_widthsOn : ByteArray := prog_14_method_49_code
def yX12_widthsOn : MethodName := ⟨RX12, "widthsOn", "(I)I"⟩
abbrev cX12_looks : ByteArray := prog_14_method_50_code
def yX12_looks : MethodName := ⟨RX12, "looks", "(I)V"⟩
abbrev cX12_looksAt : ByteArray := prog_14_method_51_code
def yX12_looksAt : MethodName := ⟨RX12, "looksAt", "(I)V"⟩
abbrev cX12_lawTells : ByteArray := prog_14_method_52_code
def yX12_lawTells : MethodName := ⟨RX12, "lawTells", "(II)I"⟩
abbrev cX12_roomOf : ByteArray := prog_14_method_53_code
def yX12_roomOf : MethodName := ⟨RX12, "roomOf", "(I)I"⟩
abbrev cX12_quarrelOf : ByteArray := prog_14_method_54_code
def yX12_quarrelOf : MethodName := ⟨RX12, "quarrelOf", "(II)I"⟩
abbrev cX12_cupOf : ByteArray := prog_14_method_55_code
def yX12_cupOf : MethodName := ⟨RX12, "cupOf", "(II)I"⟩
abbrev cX12_breaksOf : ByteArray := prog_14_method_56_code
def yX12_breaksOf : MethodName := ⟨RX12, "breaksOf", "(I)I"⟩
abbrev cX12_hasRoom : ByteArray := prog_14_method_57_code
def yX12_hasRoom : MethodName := ⟨RX12, "hasRoom", "(III)Z"⟩
abbrev cX12_couldCome : ByteArray := prog_14_method_58_code
def yX12_couldCome : MethodName := ⟨RX12, "couldCome", "(II)Z"⟩
abbrev cX12_towards : ByteArray := prog_14_method_59_code
def yX12_towards : MethodName := ⟨RX12, "towards", "(II)I"⟩
abbrev cX12_personGoes : ByteArray := prog_14_method_60_code
def yX12_personGoes : MethodName := ⟨RX12, "personGoes", "(I)V"⟩
abbrev cX12_breakingBits : ByteArray := prog_14_method_61_code
def yX12_breakingBits : MethodName := ⟨RX12, "breakingBits", "()I"⟩
abbrev cX12_falls : ByteArray := prog_14_method_62_code
def yX12_falls : MethodName := ⟨RX12, "falls", "(I)V"⟩
abbrev cX12_theyBreak : ByteArray := prog_14_method_63_code
def yX12_theyBreak : MethodName := ⟨RX12, "theyBreak", "(I)V"⟩
abbrev cX12_minuteGoes : ByteArray := prog_14_method_64_code
def yX12_minuteGoes : MethodName := ⟨RX12, "minuteGoes", "()V"⟩
abbrev cX12_goes : ByteArray := prog_14_method_65_code
def yX12_goes : MethodName := ⟨RX12, "goes", "(I)V"⟩
abbrev cX12_person : ByteArray := prog_14_method_66_code
def yX12_person : MethodName := ⟨RX12, "person", "(II)I"⟩
abbrev cX12_rung : ByteArray := prog_14_method_67_code
def yX12_rung : MethodName := ⟨RX12, "rung", "(II)I"⟩
abbrev cX12_can : ByteArray := prog_14_method_68_code
def yX12_can : MethodName := ⟨RX12, "can", "(II)I"⟩
abbrev cX12_records : ByteArray := prog_14_method_69_code
def yX12_records : MethodName := ⟨RX12, "records", "()V"⟩
abbrev cX12_send : ByteArray := prog_14_method_70_code
def yX12_send : MethodName := ⟨RX12, "send", "(II)Z"⟩
abbrev cX12_mend : ByteArray := prog_14_method_71_code
def yX12_mend : MethodName := ⟨RX12, "mend", "(I)Z"⟩
abbrev cX12_pours : ByteArray := prog_14_method_72_code
def yX12_pours : MethodName := ⟨RX12, "pours", "(I)I"⟩
abbrev cX12_isWater : ByteArray := prog_14_method_73_code
def yX12_isWater : MethodName := ⟨RX12, "isWater", "(I)Z"⟩
abbrev cX12_bucket : ByteArray := prog_14_method_74_code
def yX12_bucket : MethodName := ⟨RX12, "bucket", "(I)I"⟩
abbrev cX12_isLong : ByteArray := prog_14_method_75_code
def yX12_isLong : MethodName := ⟨RX12, "isLong", "(I)Z"⟩
abbrev cX12_minutes : ByteArray := prog_14_method_76_code
def yX12_minutes : MethodName := ⟨RX12, "minutes", "(I)I"⟩
abbrev cX12_undo : ByteArray := prog_14_method_77_code
def yX12_undo : MethodName := ⟨RX12, "undo", "()Z"⟩
abbrev cX12_blockBits : ByteArray := prog_14_method_78_code
def yX12_blockBits : MethodName := ⟨RX12, "blockBits", "(II)I"⟩
abbrev cX12_inTheWay : ByteArray := prog_14_method_79_code
def yX12_inTheWay : MethodName := ⟨RX12, "inTheWay", "(II)I"⟩
abbrev cX12_goalBits : ByteArray := prog_14_method_80_code
def yX12_goalBits : MethodName := ⟨RX12, "goalBits", "()I"⟩
abbrev cX12_errandsFrom : ByteArray := prog_14_method_81_code
def yX12_errandsFrom : MethodName := ⟨RX12, "errandsFrom", "()I"⟩
abbrev cX12_errands : ByteArray := prog_14_method_82_code
def yX12_errands : MethodName := ⟨RX12, "errands", "()I"⟩
abbrev cX12_otherGoes : ByteArray := prog_14_method_83_code
def yX12_otherGoes : MethodName := ⟨RX12, "otherGoes", "(I)V"⟩
abbrev cX12_marks : ByteArray := prog_14_method_84_code
def yX12_marks : MethodName := ⟨RX12, "marks", "(I)V"⟩
abbrev cX12_bothGo : ByteArray := prog_14_method_85_code
def yX12_bothGo : MethodName := ⟨RX12, "bothGo", "(IIII)V"⟩
abbrev cX12_past : ByteArray := prog_14_method_86_code
def yX12_past : MethodName := ⟨RX12, "past", "(IIII)I"⟩
abbrev cX12_aloneTo : ByteArray := prog_14_method_87_code
def yX12_aloneTo : MethodName := ⟨RX12, "aloneTo", "(II)I"⟩
abbrev cX12_alone : ByteArray := prog_14_method_88_code
def yX12_alone : MethodName := ⟨RX12, "alone", "(II)I"⟩
abbrev cX12_reach : ByteArray := prog_14_method_89_code
def yX12_reach : MethodName := ⟨RX12, "reach", "(I)I"⟩
abbrev cX12_above : ByteArray := prog_14_method_90_code
def yX12_above : MethodName := ⟨RX12, "above", "(I)I"⟩
abbrev cX12_driest : ByteArray := prog_14_method_91_code
def yX12_driest : MethodName := ⟨RX12, "driest", "(I)I"⟩
abbrev cX12_isWidth : ByteArray := prog_14_method_92_code
def yX12_isWidth : MethodName := ⟨RX12, "isWidth", "(I)Z"⟩
abbrev cX12_partsOf : ByteArray := prog_14_method_93_code
def yX12_partsOf : MethodName := ⟨RX12, "partsOf", "(II)I"⟩
abbrev cX12_parts : ByteArray := prog_14_method_94_code
def yX12_parts : MethodName := ⟨RX12, "parts", "(II)I"⟩
abbrev cX12_least : ByteArray := prog_14_method_95_code
def yX12_least : MethodName := ⟨RX12, "least", "(II)I"⟩
abbrev cX12_canLive : ByteArray := prog_14_method_96_code
def yX12_canLive : MethodName := ⟨RX12, "canLive", "(III)Z"⟩
abbrev cX12_findsHomes : ByteArray := prog_14_method_97_code
def yX12_findsHomes : MethodName := ⟨RX12, "findsHomes", "(I)Z"⟩
abbrev cX12_homes : ByteArray := prog_14_method_98_code
def yX12_homes : MethodName := ⟨RX12, "homes", "(II)I"⟩
abbrev cX12_share : ByteArray := prog_14_method_99_code
def yX12_share : MethodName := ⟨RX12, "share", "(II)I"⟩
abbrev cX12_enough : ByteArray := prog_14_method_100_code
def yX12_enough : MethodName := ⟨RX12, "enough", "()I"⟩
abbrev cX12_news : ByteArray := prog_14_method_101_code
def yX12_news : MethodName := ⟨RX12, "news", "(II)I"⟩
abbrev cX12_pairs : ByteArray := prog_14_method_102_code
def yX12_pairs : MethodName := ⟨RX12, "pairs", "(I)I"⟩
abbrev cX12_kept : ByteArray := prog_14_method_103_code
def yX12_kept : MethodName := ⟨RX12, "kept", "(I)I"⟩
abbrev cX12_waits : ByteArray := prog_14_method_104_code
def yX12_waits : MethodName := ⟨RX12, "waits", "(II)I"⟩
abbrev cX12_crowd : ByteArray := prog_14_method_105_code
def yX12_crowd : MethodName := ⟨RX12, "crowd", "(II)I"⟩
abbrev cX12_free : ByteArray := prog_14_method_106_code
def yX12_free : MethodName := ⟨RX12, "free", "(I)I"⟩
abbrev cX12_meet : ByteArray := prog_14_method_107_code
def yX12_meet : MethodName := ⟨RX12, "meet", "(III)I"⟩
abbrev cX12_mendFirst : ByteArray := prog_14_method_108_code
def yX12_mendFirst : MethodName := ⟨RX12, "mendFirst", "()I"⟩
abbrev cX12_brokenBits : ByteArray := prog_14_method_109_code
def yX12_brokenBits : MethodName := ⟨RX12, "brokenBits", "()I"⟩
abbrev cX12_then : ByteArray := prog_14_method_110_code
def yX12_then : MethodName := ⟨RX12, "then", "(III)I"⟩
abbrev cX12_year : ByteArray := prog_14_method_111_code
def yX12_year : MethodName := ⟨RX12, "year", "(II)I"⟩
abbrev cX12_tell : ByteArray := prog_14_method_112_code
def yX12_tell : MethodName := ⟨RX12, "tell", "(IZ)I"⟩
abbrev cX12_forget : ByteArray := prog_14_method_113_code
def yX12_forget : MethodName := ⟨RX12, "forget", "()I"⟩
abbrev cX12_treadsOn : ByteArray := prog_14_method_114_code
def yX12_treadsOn : MethodName := ⟨RX12, "treadsOn", "(II)Z"⟩
abbrev cX12_trodBits : ByteArray := prog_14_method_115_code
def yX12_trodBits : MethodName := ⟨RX12, "trodBits", "(I)I"⟩
abbrev cX12_trod : ByteArray := prog_14_method_116_code
def yX12_trod : MethodName := ⟨RX12, "trod", "(II)I"⟩
abbrev cX12_ask : ByteArray := prog_14_method_117_code
def yX12_ask : MethodName := ⟨RX12, "ask", "(I)I"⟩
abbrev cX12_hold : ByteArray := prog_14_method_118_code
def yX12_hold : MethodName := ⟨RX12, "hold", "(I)Z"⟩
abbrev cX12_restore : ByteArray := prog_14_method_119_code
def yX12_restore : MethodName := ⟨RX12, "restore", "(I)Z"⟩
abbrev cX12_sumNow : ByteArray := prog_14_method_120_code
def yX12_sumNow : MethodName := ⟨RX12, "sumNow", "(I)I"⟩
abbrev cX12_count : ByteArray := prog_14_method_121_code
def yX12_count : MethodName := ⟨RX12, "count", "(I)I"⟩
def RJx145de : String := "java/io/Serializable"
def TJx145de : u_T := fun k => match k with
  | _ => ("", "", "", false)
def tyJx145de : Nat → FieldType := fun k => match k with
  | _ => .int
abbrev wsJx145de0 : List Cond := u_ws RJx145de TJx145de 0
theorem nmJx145de : ∀ a, a < 0 → ∀ b, b < 0 → a ≠ b → (TJx145de a).2.1 ≠ (TJx145de b).2.1 := by decide +kernel
theorem tyJx145de_ok : ∀ k, k < 0 → parseFieldDescriptor (TJx145de k).2.2.1 = some (tyJx145de k) := by decide +kernel
def RJx9f9b0 : String := "java/lang/CharSequence"
def TJx9f9b0 : u_T := fun k => match k with
  | _ => ("", "", "", false)
def tyJx9f9b0 : Nat → FieldType := fun k => match k with
  | _ => .int
abbrev wsJx9f9b00 : List Cond := u_ws RJx9f9b0 TJx9f9b0 0
theorem nmJx9f9b0 : ∀ a, a < 0 → ∀ b, b < 0 → a ≠ b → (TJx9f9b0 a).2.1 ≠ (TJx9f9b0 b).2.1 := by decide +kernel
theorem tyJx9f9b0_ok : ∀ k, k < 0 → parseFieldDescriptor (TJx9f9b0 k).2.2.1 = some (tyJx9f9b0 k) := by decide +kernel
def RJxb160c : String := "java/lang/Comparable"
def TJxb160c : u_T := fun k => match k with
  | _ => ("", "", "", false)
def tyJxb160c : Nat → FieldType := fun k => match k with
  | _ => .int
abbrev wsJxb160c0 : List Cond := u_ws RJxb160c TJxb160c 0
theorem nmJxb160c : ∀ a, a < 0 → ∀ b, b < 0 → a ≠ b → (TJxb160c a).2.1 ≠ (TJxb160c b).2.1 := by decide +kernel
theorem tyJxb160c_ok : ∀ k, k < 0 → parseFieldDescriptor (TJxb160c k).2.2.1 = some (tyJxb160c k) := by decide +kernel
def RJ6 : String := "java/lang/Integer"
def TJ6 : u_T := fun k => match k with
  | _ => ("", "", "", false)
def tyJ6 : Nat → FieldType := fun k => match k with
  | _ => .int
abbrev wsJ60 : List Cond := u_ws RJ6 TJ6 0
theorem nmJ6 : ∀ a, a < 0 → ∀ b, b < 0 → a ≠ b → (TJ6 a).2.1 ≠ (TJ6 b).2.1 := by decide +kernel
theorem tyJ6_ok : ∀ k, k < 0 → parseFieldDescriptor (TJ6 k).2.2.1 = some (tyJ6 k) := by decide +kernel
abbrev cJ6_bitCount_0f7a4 : ByteArray := prog_15_method_49_code
def yJ6_bitCount_0f7a4 : MethodName := ⟨RJ6, "bitCount", "(I)I"⟩
def RJ9 : String := "java/lang/Math"
def TJ9 : u_T := fun k => match k with
  | _ => ("", "", "", false)
def tyJ9 : Nat → FieldType := fun k => match k with
  | _ => .int
abbrev wsJ90 : List Cond := u_ws RJ9 TJ9 0
theorem nmJ9 : ∀ a, a < 0 → ∀ b, b < 0 → a ≠ b → (TJ9 a).2.1 ≠ (TJ9 b).2.1 := by decide +kernel
theorem tyJ9_ok : ∀ k, k < 0 → parseFieldDescriptor (TJ9 k).2.2.1 = some (tyJ9 k) := by decide +kernel
abbrev cJ9_abs_0f7a4 : ByteArray := prog_16_method_59_code
def yJ9_abs_0f7a4 : MethodName := ⟨RJ9, "abs", "(I)I"⟩
abbrev cJ9_max_7cf53 : ByteArray := prog_16_method_65_code
def yJ9_max_7cf53 : MethodName := ⟨RJ9, "max", "(II)I"⟩
abbrev cJ9_min_7cf53 : ByteArray := prog_16_method_69_code
def yJ9_min_7cf53 : MethodName := ⟨RJ9, "min", "(II)I"⟩
def RJ0 : String := "java/lang/String"
def TJ0 : u_T := fun k => match k with
  | _ => ("", "", "", false)
def tyJ0 : Nat → FieldType := fun k => match k with
  | _ => .int
abbrev wsJ00 : List Cond := u_ws RJ0 TJ0 0
theorem nmJ0 : ∀ a, a < 0 → ∀ b, b < 0 → a ≠ b → (TJ0 a).2.1 ≠ (TJ0 b).2.1 := by decide +kernel
theorem tyJ0_ok : ∀ k, k < 0 → parseFieldDescriptor (TJ0 k).2.2.1 = some (tyJ0 k) := by decide +kernel
abbrev cJ0_length_8abf5 : ByteArray := prog_17_method_54_code
def yJ0_length_8abf5 : MethodName := ⟨RJ0, "length", "()I"⟩
abbrev cJ0_charAt_5068e : ByteArray := prog_17_method_56_code
def yJ0_charAt_5068e : MethodName := ⟨RJ0, "charAt", "(I)C"⟩
abbrev cJ0_coder_7d493 : ByteArray := prog_17_method_152_code
def yJ0_coder_7d493 : MethodName := ⟨RJ0, "coder", "()B"⟩
abbrev cJ0_isLatin1_aae02 : ByteArray := prog_17_method_154_code
def yJ0_isLatin1_aae02 : MethodName := ⟨RJ0, "isLatin1", "()Z"⟩
abbrev cJ0_checkIndex_df160 : ByteArray := prog_17_method_155_code
def yJ0_checkIndex_df160 : MethodName := ⟨RJ0, "checkIndex", "(II)V"⟩
def RJ1 : String := "java/lang/StringLatin1"
def TJ1 : u_T := fun k => match k with
  | _ => ("", "", "", false)
def tyJ1 : Nat → FieldType := fun k => match k with
  | _ => .int
abbrev wsJ10 : List Cond := u_ws RJ1 TJ1 0
theorem nmJ1 : ∀ a, a < 0 → ∀ b, b < 0 → a ≠ b → (TJ1 a).2.1 ≠ (TJ1 b).2.1 := by decide +kernel
theorem tyJ1_ok : ∀ k, k < 0 → parseFieldDescriptor (TJ1 k).2.2.1 = some (tyJ1 k) := by decide +kernel
abbrev cJ1_charAt_3b067 : ByteArray := prog_18_method_2_code
def yJ1_charAt_3b067 : MethodName := ⟨RJ1, "charAt", "([BI)C"⟩
def RJ2 : String := "java/lang/StringUTF16"
def TJ2 : u_T := fun k => match k with
  | _ => ("", "", "", false)
def tyJ2 : Nat → FieldType := fun k => match k with
  | _ => .int
abbrev wsJ20 : List Cond := u_ws RJ2 TJ2 0
theorem nmJ2 : ∀ a, a < 0 → ∀ b, b < 0 → a ≠ b → (TJ2 a).2.1 ≠ (TJ2 b).2.1 := by decide +kernel
theorem tyJ2_ok : ∀ k, k < 0 → parseFieldDescriptor (TJ2 k).2.2.1 = some (tyJ2 k) := by decide +kernel
abbrev cJ2_getChar_3b067 : ByteArray := prog_19_method_5_code
def yJ2_getChar_3b067 : MethodName := ⟨RJ2, "getChar", "([BI)C"⟩
abbrev cJ2_length_9d52b : ByteArray := prog_19_method_6_code
def yJ2_length_9d52b : MethodName := ⟨RJ2, "length", "([B)I"⟩
abbrev cJ2_charAt_3b067 : ByteArray := prog_19_method_83_code
def yJ2_charAt_3b067 : MethodName := ⟨RJ2, "charAt", "([BI)C"⟩
abbrev cJ2_checkIndex_2214a : ByteArray := prog_19_method_91_code
def yJ2_checkIndex_2214a : MethodName := ⟨RJ2, "checkIndex", "(I[B)V"⟩
def RJ10 : String := "java/lang/System"
def TJ10 : u_T := fun k => match k with
  | _ => ("", "", "", false)
def tyJ10 : Nat → FieldType := fun k => match k with
  | _ => .int
abbrev wsJ100 : List Cond := u_ws RJ10 TJ10 0
theorem nmJ10 : ∀ a, a < 0 → ∀ b, b < 0 → a ≠ b → (TJ10 a).2.1 ≠ (TJ10 b).2.1 := by decide +kernel
theorem tyJ10_ok : ∀ k, k < 0 → parseFieldDescriptor (TJ10 k).2.2.1 = some (tyJ10 k) := by decide +kernel
def RJxfd54e : String := "java/lang/constant/Constable"
def TJxfd54e : u_T := fun k => match k with
  | _ => ("", "", "", false)
def tyJxfd54e : Nat → FieldType := fun k => match k with
  | _ => .int
abbrev wsJxfd54e0 : List Cond := u_ws RJxfd54e TJxfd54e 0
theorem nmJxfd54e : ∀ a, a < 0 → ∀ b, b < 0 → a ≠ b → (TJxfd54e a).2.1 ≠ (TJxfd54e b).2.1 := by decide +kernel
theorem tyJxfd54e_ok : ∀ k, k < 0 → parseFieldDescriptor (TJxfd54e k).2.2.1 = some (tyJxfd54e k) := by decide +kernel
def RJx3cf43 : String := "java/lang/constant/ConstantDesc"
def TJx3cf43 : u_T := fun k => match k with
  | _ => ("", "", "", false)
def tyJx3cf43 : Nat → FieldType := fun k => match k with
  | _ => .int
abbrev wsJx3cf430 : List Cond := u_ws RJx3cf43 TJx3cf43 0
theorem nmJx3cf43 : ∀ a, a < 0 → ∀ b, b < 0 → a ≠ b → (TJx3cf43 a).2.1 ≠ (TJx3cf43 b).2.1 := by decide +kernel
theorem tyJx3cf43_ok : ∀ k, k < 0 → parseFieldDescriptor (TJx3cf43 k).2.2.1 = some (tyJx3cf43 k) := by decide +kernel
def RJ7 : String := "java/util/Arrays"
def TJ7 : u_T := fun k => match k with
  | _ => ("", "", "", false)
def tyJ7 : Nat → FieldType := fun k => match k with
  | _ => .int
abbrev wsJ70 : List Cond := u_ws RJ7 TJ7 0
theorem nmJ7 : ∀ a, a < 0 → ∀ b, b < 0 → a ≠ b → (TJ7 a).2.1 ≠ (TJ7 b).2.1 := by decide +kernel
theorem tyJ7_ok : ∀ k, k < 0 → parseFieldDescriptor (TJ7 k).2.2.1 = some (tyJ7 k) := by decide +kernel
abbrev cJ7_fill_53178 : ByteArray := prog_21_method_103_code
def yJ7_fill_53178 : MethodName := ⟨RJ7, "fill", "([II)V"⟩
def RJ3 : String := "jdk/internal/util/Preconditions"
def TJ3 : u_T := fun k => match k with
  | _ => ("", "", "", false)
def tyJ3 : Nat → FieldType := fun k => match k with
  | _ => .int
abbrev wsJ30 : List Cond := u_ws RJ3 TJ3 0
theorem nmJ3 : ∀ a, a < 0 → ∀ b, b < 0 → a ≠ b → (TJ3 a).2.1 ≠ (TJ3 b).2.1 := by decide +kernel
theorem tyJ3_ok : ∀ k, k < 0 → parseFieldDescriptor (TJ3 k).2.2.1 = some (tyJ3 k) := by decide +kernel
abbrev cJ3_checkIndex_8e157 : ByteArray := prog_22_method_11_code
def yJ3_checkIndex_8e157 : MethodName := ⟨RJ3, "checkIndex", "(IILjava/util/function/BiFunction;)I"⟩
def RL : String := "LadderStreetLaw"
abbrev cL_law : ByteArray := code
def yL_law : MethodName := ⟨RL, "law", "([I)Z"⟩
abbrev vwCl : List vw_C := [(RX0, TX0, 2), (RX1, TX1, 4), (RX2, TX2, 6), (RX3, TX3, 2), (RX4, TX4, 1), (RX5, TX5, 11), (RX6, TX6, 4), (RX7, TX7, 5), (RX8, TX8, 5), (RX9, TX9, 8), (RX10, TX10, 5), (RX11, TX11, 14), (RX12, TX12, 63)]
end
section
/-! AN OWN LAYER OVER THE KIT'S WALK: objects are numbered in the order of their making (the cell of number i lies at b + i); their ints lie in a function of number and slot, their longs in another. -/
abbrev am_S : Type := (Nat → Nat → Int32) × (Nat → Nat → Int64)
/-- what number i is: an object of a class, or an array of a kind (0 int, 1 byte, 2 boolean, 3 long) and a length -/
abbrev am_Sh : Type := Nat → Nat ⊕ (Nat × Nat)
/-- the kinds of an object's fields: 0 int, 1 long, 2 boolean, 3 a cell that may change (0 null, i + 1 number i), o + 4 number o for good -/
abbrev am_Kf : Type := Nat → List Nat
/-- a method's word: arguments, how many cells there are, what they hold, what must hold behind -/
abbrev am_Sp : Type := List Value → Nat → am_S → (Option Value → am_S → Prop) → Prop
def am_pi (σ : am_S) (o k : Nat) (x : Int32) : am_S := (fun o' k' => if o' = o ∧ k' = k then x else σ.1 o' k', σ.2)
def am_pl (σ : am_S) (o k : Nat) (x : Int64) : am_S := (σ.1, fun o' k' => if o' = o ∧ k' = k then x else σ.2 o' k')
def am_new (σ : am_S) (o : Nat) : am_S := (fun o' k' => if o' = o then 0 else σ.1 o' k', fun o' k' => if o' = o then 0 else σ.2 o' k')
def am_av (kd : Nat) (x : Int32) (y : Int64) : Value := match kd with
  | 0 => .int x
  | 1 => .long y
  | 2 => .int x
  | 3 => if x = 0 then .null else .ref (x.toNatClampNeg - 1)
  | o + 4 => .ref o
def am_c (b : Nat) (v : Value) : Value := match v with
  | .ref a => .ref (b + a)
  | v => v
theorem am_c_cat (b : Nat) (v : Value) : (am_c b v).category = v.category := by cases v <;> rfl
def am_fs (kds : List Nat) (f : Nat → Int32) (g : Nat → Int64) : List Value := kds.zipIdx.map (fun q => am_av q.1 (f q.2) (g q.2))
theorem am_fs_len (kds : List Nat) (f : Nat → Int32) (g : Nat → Int64) : (am_fs kds f g).length = kds.length := by simp [am_fs]
theorem am_fs_at {kds : List Nat} {k kd : Nat} (f : Nat → Int32) (g : Nat → Int64) (h : kds[k]? = some kd) : (am_fs kds f g)[k]? = some (am_av kd (f k) (g k)) := by
  simp [am_fs, List.getElem?_map, List.getElem?_zipIdx, h]
def am_cell (SH : am_Sh) (KF : am_Kf) (b : Nat) (aC : Nat → ClassId) (σ : am_S) (i : Nat) : va_E := match SH i with
  | .inl ci => .inr (ci, (am_fs (KF i) (σ.1 i) (σ.2 i)).map (am_c b))
  | .inr q => .inl (aC q.1, (q.2, if q.1 = 3 then .inr (.inl (σ.2 i)) else .inl (σ.1 i)))
def am_ws (SH : am_Sh) (KF : am_Kf) (b : Nat) (aC : Nat → ClassId) (n : Nat) (σ : am_S) : va_W := (List.range n).map (fun i => (b + i, am_cell SH KF b aC σ i))
theorem am_ws_len {SH : am_Sh} {KF : am_Kf} {b : Nat} {aC : Nat → ClassId} {n : Nat} {σ : am_S} : (am_ws SH KF b aC n σ).length = n := by simp [am_ws]
theorem am_ws_at {SH : am_Sh} {KF : am_Kf} {b : Nat} {aC : Nat → ClassId} {n o : Nat} {σ : am_S} (h : o < n) : (am_ws SH KF b aC n σ)[o]? = some (b + o, am_cell SH KF b aC σ o) := by
  simp [am_ws, List.getElem?_map, h]
theorem am_ws_set {SH : am_Sh} {KF : am_Kf} {b : Nat} {aC : Nat → ClassId} {n o : Nat} {σ τ : am_S} {e : va_E} (h : o < n) (he : e = am_cell SH KF b aC τ o) (hk : ∀ i, i ≠ o → am_cell SH KF b aC τ i = am_cell SH KF b aC σ i) : (am_ws SH KF b aC n σ).set o (b + o, e) = am_ws SH KF b aC n τ := by
  subst he
  apply List.ext_getElem?
  intro i
  by_cases hi : i = o
  · subst hi
    rw [List.getElem?_set_self (by rw [am_ws_len]; exact h), am_ws_at h]
  · rw [List.getElem?_set_ne (Ne.symm hi)]
    by_cases hn : i < n
    · rw [am_ws_at hn, am_ws_at hn, hk i hi]
    · rw [List.getElem?_eq_none (by rw [am_ws_len]; omega), List.getElem?_eq_none (by rw [am_ws_len]; omega)]
theorem am_ws_push {SH : am_Sh} {KF : am_Kf} {b : Nat} {aC : Nat → ClassId} {n : Nat} {σ τ : am_S} {e : va_E} (he : e = am_cell SH KF b aC τ n) (hk : ∀ i, i < n → am_cell SH KF b aC τ i = am_cell SH KF b aC σ i) : am_ws SH KF b aC n σ ++ [(b + n, e)] = am_ws SH KF b aC (n + 1) τ := by
  subst he
  simp only [am_ws, List.range_succ, List.map_append, List.map_cons, List.map_nil]
  congr 1
  apply List.map_congr_left
  intro i hi
  rw [hk i (List.mem_range.mp hi)]
theorem am_ws_D {SH : am_Sh} {KF : am_Kf} {b : Nat} {aC : Nat → ClassId} {n : Nat} {σ : am_S} : va_D (fun q => b ≤ q) (am_ws SH KF b aC n σ) := by
  have key : ∀ (k : Nat) (q : Nat × va_E), (am_ws SH KF b aC n σ)[k]? = some q → q.1 = b + k := by
    intro k q hq
    by_cases hk : k < n
    · rw [am_ws_at hk] at hq
      cases hq
      rfl
    · rw [List.getElem?_eq_none (by rw [am_ws_len]; omega)] at hq
      cases hq
  refine ⟨fun i j p q hp hq h => ?_, fun k q hq => ?_⟩
  · rw [key i p hp, key j q hq] at h
    omega
  · show b ≤ q.1
    rw [key k q hq]
    omega
theorem am_pi_ne {SH : am_Sh} {KF : am_Kf} {b : Nat} {aC : Nat → ClassId} {σ : am_S} {o k : Nat} {x : Int32} {i : Nat} (h : i ≠ o) : am_cell SH KF b aC (am_pi σ o k x) i = am_cell SH KF b aC σ i := by
  have e : (am_pi σ o k x).1 i = σ.1 i := by funext j; simp [am_pi, h]
  simp only [am_cell, e]
  rfl
theorem am_pl_ne {SH : am_Sh} {KF : am_Kf} {b : Nat} {aC : Nat → ClassId} {σ : am_S} {o k : Nat} {x : Int64} {i : Nat} (h : i ≠ o) : am_cell SH KF b aC (am_pl σ o k x) i = am_cell SH KF b aC σ i := by
  have e : (am_pl σ o k x).2 i = σ.2 i := by funext j; simp [am_pl, h]
  simp only [am_cell, e]
  rfl
theorem am_new_ne {SH : am_Sh} {KF : am_Kf} {b : Nat} {aC : Nat → ClassId} {σ : am_S} {o : Nat} {i : Nat} (h : i ≠ o) : am_cell SH KF b aC (am_new σ o) i = am_cell SH KF b aC σ i := by
  have e : (am_new σ o).1 i = σ.1 i := by funext j; simp [am_new, h]
  have e2 : (am_new σ o).2 i = σ.2 i := by funext j; simp [am_new, h]
  simp only [am_cell, e, e2]
theorem am_fs_set {kds : List Nat} {k kd : Nat} {f f' : Nat → Int32} {g g' : Nat → Int64} (h : kds[k]? = some kd) (hf : ∀ j, j ≠ k → f' j = f j) (hg : ∀ j, j ≠ k → g' j = g j) : am_fs kds f' g' = (am_fs kds f g).set k (am_av kd (f' k) (g' k)) := by
  apply List.ext_getElem?
  intro j
  by_cases hj : j = k
  · subst hj
    rw [am_fs_at f' g' h, List.getElem?_set_self (by rw [am_fs_len]; exact (List.getElem?_eq_some_iff.mp h).1)]
  · rw [List.getElem?_set_ne (Ne.symm hj)]
    cases hz : kds[j]? with
    | none => rw [List.getElem?_eq_none (by rw [am_fs_len]; exact List.getElem?_eq_none_iff.mp hz), List.getElem?_eq_none (by rw [am_fs_len]; exact List.getElem?_eq_none_iff.mp hz)]
    | some z => rw [am_fs_at f' g' hz, am_fs_at f g hz, hf j hj, hg j hj]
/-- how many slots the first n take -/
def am_sz (SH : am_Sh) (KF : am_Kf) : Nat → Nat
  | 0 => 0
  | n + 1 => am_sz SH KF n + (match SH n with
    | .inl _ => (KF n).length
    | .inr q => q.2)
theorem am_sz_le {SH : am_Sh} {KF : am_Kf} {a c : Nat} (h : a ≤ c) : am_sz SH KF a ≤ am_sz SH KF c := by
  induction c with
  | zero => rw [Nat.le_zero.mp h]; exact Nat.le_refl _
  | succ c ih =>
    rcases Nat.lt_or_ge a (c + 1) with q | q
    · exact Nat.le_trans (ih (by omega)) (by simp [am_sz])
    · rw [show a = c + 1 by omega]; exact Nat.le_refl _
/-! the locals: by their places -/
def am_lv (b : Nat) (ls : List (Option Value)) : List (Nat × Value) := ls.zipIdx.filterMap (fun q => q.1.map (fun v => (q.2, am_c b v)))
theorem am_lv_mem {b : Nat} {ls : List (Option Value)} {q : Nat × Value} : q ∈ am_lv b ls ↔ ∃ v, ls[q.1]? = some (some v) ∧ q.2 = am_c b v := by
  obtain ⟨i, w⟩ := q
  simp only [am_lv, List.mem_filterMap, List.mem_zipIdx_iff_getElem?, Option.map_eq_some_iff]
  constructor
  · rintro ⟨⟨o, j⟩, h1, v, rfl, h2⟩
    cases h2
    exact ⟨v, h1, rfl⟩
  · rintro ⟨v, h1, h2⟩
    exact ⟨(some v, i), h1, v, rfl, by rw [← h2]⟩
theorem am_lv_at {b nL i : Nat} {ls : List (Option Value)} {lc : Array Slot} {v : Value} (h : lv_has lc nL (am_lv b ls)) (hi : ls[i]? = some (some v)) : lc[i]? = some (.val (am_c b v)) := h.2.2 (i, am_c b v) (am_lv_mem.mpr ⟨v, hi, rfl⟩)
/-- the place below holds a long -/
def am_lg (ls : List (Option Value)) (i : Nat) : Bool := match i with
  | 0 => false
  | j + 1 => match ls[j]? with
    | some (some (.long _)) => true
    | some (some (.double _)) => true
    | _ => false
theorem am_lg_not {b i : Nat} {ls : List (Option Value)} (h : am_lg ls i = false) (q : Nat × Value) (hq : q ∈ am_lv b ls) (he : q.1 + 1 = i) : ¬ q.2.category = 2 := by
  obtain ⟨v, h1, h2⟩ := am_lv_mem.mp hq
  subst he
  rw [h2, am_c_cat]
  simp only [am_lg, h1] at h
  cases v <;> simp_all [Value.category]
theorem am_lv_set1 {b nL i : Nat} {ls : List (Option Value)} {lc : Array Slot} {v : Value} (hg : am_lg ls i = false) (h : lv_has lc nL ((i, am_c b v) :: (am_lv b ls).filter (fun q => !(q.1 == i) && !(q.1 + 1 == i && q.2.category == 2)))) : lv_has lc nL (am_lv b (ls.set i (some v))) := by
  refine ⟨h.1, h.2.1, fun q hq => ?_⟩
  obtain ⟨w, h1, h2⟩ := am_lv_mem.mp hq
  apply h.2.2
  by_cases hi : q.1 = i
  · by_cases hl : i < ls.length
    · rw [hi, List.getElem?_set_self hl] at h1
      cases h1
      exact List.mem_cons.mpr (Or.inl (Prod.ext hi h2))
    · rw [hi, List.getElem?_eq_none (by simp; omega)] at h1
      cases h1
  · rw [List.getElem?_set_ne (Ne.symm hi)] at h1
    have hm : q ∈ am_lv b ls := am_lv_mem.mpr ⟨w, h1, h2⟩
    refine List.mem_cons.mpr (Or.inr (List.mem_filter.mpr ⟨hm, ?_⟩))
    by_cases he : q.1 + 1 = i
    · have := am_lg_not hg q hm he
      simp [hi, he, this]
    · simp [hi, he]
theorem am_lv_set2 {b nL i : Nat} {ls : List (Option Value)} {lc : Array Slot} {v : Value} (hg : am_lg ls i = false) (h : lv_has lc nL ((i, am_c b v) :: (am_lv b ls).filter (fun q => !(q.1 == i) && (!(q.1 == i + 1) && !(q.1 + 1 == i && q.2.category == 2))))) : lv_has lc nL (am_lv b ((ls.set i (some v)).set (i + 1) none)) := by
  refine ⟨h.1, h.2.1, fun q hq => ?_⟩
  obtain ⟨w, h1, h2⟩ := am_lv_mem.mp hq
  apply h.2.2
  by_cases hj : q.1 = i + 1
  · by_cases hl : i + 1 < (ls.set i (some v)).length
    · rw [hj, List.getElem?_set_self hl] at h1
      cases h1
    · rw [hj, List.getElem?_eq_none (by simp at hl ⊢; omega)] at h1
      cases h1
  · rw [List.getElem?_set_ne (Ne.symm hj)] at h1
    by_cases hi : q.1 = i
    · by_cases hl : i < ls.length
      · rw [hi, List.getElem?_set_self hl] at h1
        cases h1
        exact List.mem_cons.mpr (Or.inl (Prod.ext hi h2))
      · rw [hi, List.getElem?_eq_none (by simp; omega)] at h1
        cases h1
    · rw [List.getElem?_set_ne (Ne.symm hi)] at h1
      have hm : q ∈ am_lv b ls := am_lv_mem.mpr ⟨w, h1, h2⟩
      refine List.mem_cons.mpr (Or.inr (List.mem_filter.mpr ⟨hm, ?_⟩))
      by_cases he : q.1 + 1 = i
      · have := am_lg_not hg q hm he
        simp [hi, hj, he, this]
      · simp [hi, hj, he]
/-- only the first j places are kept in mind -/
def am_mask : Nat → List (Option Value) → List (Option Value)
  | _, [] => []
  | 0, _ :: t => none :: am_mask 0 t
  | n + 1, a :: t => a :: am_mask n t
theorem am_mask_len : ∀ (j : Nat) (ls : List (Option Value)), (am_mask j ls).length = ls.length
  | _, [] => by simp [am_mask]
  | 0, _ :: t => by simp [am_mask, am_mask_len 0 t]
  | n + 1, _ :: t => by simp [am_mask, am_mask_len n t]
theorem am_mask_at : ∀ (j : Nat) (ls : List (Option Value)) (i : Nat) (v : Value), (am_mask j ls)[i]? = some (some v) → ls[i]? = some (some v)
  | _, [], i, v, h => by simp [am_mask] at h
  | 0, a :: t, 0, v, h => by simp [am_mask] at h
  | 0, a :: t, i + 1, v, h => by
    simp only [am_mask, List.getElem?_cons_succ] at h ⊢
    exact am_mask_at 0 t i v h
  | n + 1, a :: t, 0, v, h => by simpa [am_mask] using h
  | n + 1, a :: t, i + 1, v, h => by
    simp only [am_mask, List.getElem?_cons_succ] at h ⊢
    exact am_mask_at n t i v h
theorem am_lv_mask {b nL j : Nat} {ls : List (Option Value)} {lc : Array Slot} (h : lv_has lc nL (am_lv b ls)) : lv_has lc nL (am_lv b (am_mask j ls)) := by
  refine ⟨h.1, h.2.1, fun q hq => ?_⟩
  obtain ⟨w, h1, h2⟩ := am_lv_mem.mp hq
  exact h.2.2 q (am_lv_mem.mpr ⟨w, am_mask_at _ _ _ _ h1, h2⟩)
end
section
/-! ONE INSTRUCTION, as a word on what must hold: K is what must hold behind it, post what must hold of an answer. Printed by wip/am/gen_one.py. -/
/-- a method's tables: numbers' kinds, fields' kinds, the answer's type, fields read, fields written, classes made, ints and longs of the pool, natives, methods (kind, how many arguments, class, cells, slots, word) -/
abbrev am_X : Type := am_Sh × am_Kf × Option FieldType × List (Nat × Nat × Nat) × List (Nat × Nat × Nat) × List (Nat × Nat) × List (Nat × Int32) × List (Nat × Int64) × List (Nat × Nat) × List (Nat × Nat × Nat × Nat × Nat × Nat × am_Sp)
def am_SH (X : am_X) : am_Sh := X.1
def am_KF (X : am_X) : am_Kf := X.2.1
def am_rt (X : am_X) : Option FieldType := X.2.2.1
def am_FT (X : am_X) : List (Nat × Nat × Nat) := X.2.2.2.1
def am_PT (X : am_X) : List (Nat × Nat × Nat) := X.2.2.2.2.1
def am_CT (X : am_X) : List (Nat × Nat) := X.2.2.2.2.2.1
def am_KT (X : am_X) : List (Nat × Int32) := X.2.2.2.2.2.2.1
def am_LT (X : am_X) : List (Nat × Int64) := X.2.2.2.2.2.2.2.1
def am_NT (X : am_X) : List (Nat × Nat) := X.2.2.2.2.2.2.2.2.1
def am_ML (X : am_X) : List (Nat × Nat × Nat × Nat × Nat × Nat × am_Sp) := X.2.2.2.2.2.2.2.2.2
def am_find {α : Type _} : List (Nat × α) → Nat → Option α
  | [], _ => none
  | (a, x) :: t, i => if i = a then some x else am_find t i
theorem am_find_mem {α : Type _} : ∀ {l : List (Nat × α)} {i : Nat} {x : α}, am_find l i = some x → (i, x) ∈ l
  | [], i, x, h => by cases h
  | (a, y) :: t, i, x, h => by
    simp only [am_find] at h
    split at h
    · rename_i e
      cases h
      exact List.mem_cons.mpr (Or.inl (by rw [e]))
    · exact List.mem_cons_of_mem _ (am_find_mem h)
def am_opt {α : Type _} (o : Option α) (k : α → Prop) : Prop := match o with
  | some x => k x
  | none => False
theorem am_opt_iff {α : Type _} {o : Option α} {k : α → Prop} : am_opt o k ↔ ∃ x, o = some x ∧ k x := by cases o <;> simp [am_opt]
def am_cl {α : Type _} (o : Option α) (k : α → Prop) (q : Prop) : Prop := match o with
  | some x => k x
  | none => q
def am_ldi (ls : List (Option Value)) (i : Nat) (k : Int32 → Prop) : Prop := match ls[i]? with
  | some (some (.int x)) => k x
  | _ => False
def am_ldl (ls : List (Option Value)) (i : Nat) (k : Int64 → Prop) : Prop := match ls[i]? with
  | some (some (.long x)) => k x
  | _ => False
def am_lda (ls : List (Option Value)) (i : Nat) (k : Nat → Prop) : Prop := match ls[i]? with
  | some (some (.ref x)) => k x
  | _ => False
def am_v (st : List Value) (k : Value → List Value → Prop) : Prop := match st with
  | v :: r => k v r
  | _ => False
def am_1 (st : List Value) (k : Int32 → List Value → Prop) : Prop := match st with
  | .int x :: r => k x r
  | _ => False
def am_1l (st : List Value) (k : Int64 → List Value → Prop) : Prop := match st with
  | .long x :: r => k x r
  | _ => False
def am_1a (st : List Value) (k : Nat → List Value → Prop) : Prop := match st with
  | .ref x :: r => k x r
  | _ => False
def am_2 (st : List Value) (k : Int32 → Int32 → List Value → Prop) : Prop := match st with
  | .int y :: .int x :: r => k x y r
  | _ => False
def am_2l (st : List Value) (k : Int64 → Int64 → List Value → Prop) : Prop := match st with
  | .long y :: .long x :: r => k x y r
  | _ => False
def am_ix (st : List Value) (k : Int32 → Nat → List Value → Prop) : Prop := match st with
  | .int i :: .ref o :: r => k i o r
  | _ => False
theorem am_ldi_iff {ls : List (Option Value)} {i : Nat} {k : Int32 → Prop} (h : am_ldi ls i k) : ∃ x, ls[i]? = some (some (.int x)) ∧ k x := by
  unfold am_ldi at h
  split at h
  · exact ⟨_, by assumption, h⟩
  · exact h.elim
theorem am_ldl_iff {ls : List (Option Value)} {i : Nat} {k : Int64 → Prop} (h : am_ldl ls i k) : ∃ x, ls[i]? = some (some (.long x)) ∧ k x := by
  unfold am_ldl at h
  split at h
  · exact ⟨_, by assumption, h⟩
  · exact h.elim
theorem am_lda_iff {ls : List (Option Value)} {i : Nat} {k : Nat → Prop} (h : am_lda ls i k) : ∃ x, ls[i]? = some (some (.ref x)) ∧ k x := by
  unfold am_lda at h
  split at h
  · exact ⟨_, by assumption, h⟩
  · exact h.elim
theorem am_v_iff {st : List Value} {k : Value → List Value → Prop} (h : am_v st k) : ∃ v r, st = v :: r ∧ k v r := by
  unfold am_v at h
  split at h
  · exact ⟨_, _, rfl, h⟩
  · exact h.elim
theorem am_1_iff {st : List Value} {k : Int32 → List Value → Prop} (h : am_1 st k) : ∃ x r, st = .int x :: r ∧ k x r := by
  unfold am_1 at h
  split at h
  · exact ⟨_, _, rfl, h⟩
  · exact h.elim
theorem am_1l_iff {st : List Value} {k : Int64 → List Value → Prop} (h : am_1l st k) : ∃ x r, st = .long x :: r ∧ k x r := by
  unfold am_1l at h
  split at h
  · exact ⟨_, _, rfl, h⟩
  · exact h.elim
theorem am_1a_iff {st : List Value} {k : Nat → List Value → Prop} (h : am_1a st k) : ∃ x r, st = .ref x :: r ∧ k x r := by
  unfold am_1a at h
  split at h
  · exact ⟨_, _, rfl, h⟩
  · exact h.elim
theorem am_2_iff {st : List Value} {k : Int32 → Int32 → List Value → Prop} (h : am_2 st k) : ∃ x y r, st = .int y :: .int x :: r ∧ k x y r := by
  unfold am_2 at h
  split at h
  · exact ⟨_, _, _, rfl, h⟩
  · exact h.elim
theorem am_2l_iff {st : List Value} {k : Int64 → Int64 → List Value → Prop} (h : am_2l st k) : ∃ x y r, st = .long y :: .long x :: r ∧ k x y r := by
  unfold am_2l at h
  split at h
  · exact ⟨_, _, _, rfl, h⟩
  · exact h.elim
theorem am_ix_iff {st : List Value} {k : Int32 → Nat → List Value → Prop} (h : am_ix st k) : ∃ x y r, st = .int x :: .ref y :: r ∧ k x y r := by
  unfold am_ix at h
  split at h
  · exact ⟨_, _, _, rfl, h⟩
  · exact h.elim
/-- a jump -/
def am_tg (pc : Nat) (off : Int) (k : Nat → Prop) : Prop := 0 ≤ (pc : Int) + off ∧ k ((pc : Int) + off).toNat
def am_ts (pc : Nat) (x : Int32) (k : Nat → Prop) (lo : Int) : List Int → Int → Prop
  | [], _ => True
  | off :: t, i => (x.toInt = i → am_tg pc off k) ∧ am_ts pc x k lo t (i + 1)
def am_ls (pc : Nat) (x : Int32) (d : Int) (k : Nat → Prop) : List (Int × Int) → Prop
  | [] => am_tg pc d k
  | q :: t => (x.toInt = q.1 → am_tg pc q.2 k) ∧ (¬ x.toInt = q.1 → am_ls pc x d k t)
def am_ri (rt : Option FieldType) (x : Int32) : Prop := match rt with
  | some .int => True
  | some .boolean => vp_nar .boolean x = x
  | _ => False
def am_arr (s : Nat ⊕ (Nat × Nat)) (k : Nat × Nat → Prop) : Prop := match s with
  | .inr q => k q
  | .inl _ => False
theorem am_arr_iff {s : Nat ⊕ (Nat × Nat)} {k : Nat × Nat → Prop} (h : am_arr s k) : ∃ q, s = .inr q ∧ k q := by
  unfold am_arr at h
  split at h
  · exact ⟨_, rfl, h⟩
  · exact h.elim
def am_ty (k : Nat) : Option ArrayType := match k with
  | 0 => some .int
  | 1 => some .byte
  | 2 => some .boolean
  | 3 => some .long
  | _ => none
/-- a field is written -/
def am_pf (kd : Nat) (v : Value) (σ : am_S) (o k : Nat) (K : am_S → Prop) : Prop := match kd, v with
  | 0, .int x => K (am_pi σ o k x)
  | 1, .long x => K (am_pl σ o k x)
  | 2, .int x => vp_nar .boolean x = x ∧ K (am_pi σ o k x)
  | 3, .ref a => a < 1000000 ∧ K (am_pi σ o k (Int32.ofNat (a + 1)))
  | _, _ => False
/-- a call's receiver -/
def am_rc (kind cls n : Nat) (SH : am_Sh) (as : List Value) : Prop := match kind with
  | 1 => True
  | 4 => True
  | _ => match as with
    | .ref o :: _ => o < n ∧ SH o = .inl cls
    | _ => False
/-- natives: 0 max, 1 min, 2 abs, 3 Object's constructor, 4 arraycopy of ints -/
def am_nat (w op : Nat) (stk : List Value) (n : Nat) (SH : am_Sh) (σ : am_S) (K : List Value → am_S → Prop) : Prop := match w, op with
  | 0, 1 => am_2 stk (fun x y r => (r.map fun v => v.category).sum ≤ 8 ∧ K (.int (if x < y then y else x) :: r) σ)
  | 1, 1 => am_2 stk (fun x y r => (r.map fun v => v.category).sum ≤ 8 ∧ K (.int (if y < x then y else x) :: r) σ)
  | 2, 1 => am_1 stk (fun x r => (r.map fun v => v.category).sum ≤ 8 ∧ K (.int (if 0 ≤ x then x else 0 - x) :: r) σ)
  | 3, 0 => am_1a stk (fun _ r => (r.map fun v => v.category).sum ≤ 8 ∧ K r σ)
  | 4, 1 => match stk with
    | .int m :: .int dp :: .ref d :: .int sp :: .ref c :: r => c < n ∧ d < n ∧ am_arr (SH c) (fun q => q.1 = 0 ∧ am_arr (SH d) (fun q2 => q2.1 = 0 ∧ ¬ sp < 0 ∧ ¬ dp < 0 ∧ ¬ m < 0 ∧ sp.toNatClampNeg + m.toNatClampNeg ≤ q.2 ∧ dp.toNatClampNeg + m.toNatClampNeg ≤ q2.2 ∧ (r.map fun v => v.category).sum ≤ 8 ∧ K r (fun o' k' => if o' = d then va_cpy (σ.1 c) (σ.1 d) sp.toNatClampNeg dp.toNatClampNeg m.toNatClampNeg k' else σ.1 o' k', σ.2)))
    | _ => False
  | _, _ => False
def am_one (X : am_X) (ne : Nat) (post : Option Value → am_S → Prop) (i : Instr) (len pc : Nat) (ls : List (Option Value)) (stk : List Value) (n : Nat) (σ : am_S) (K : Nat → List (Option Value) → List Value → Nat → am_S → Prop) : Prop := match i with
  | .iconst v => len = 1 ∧ K (pc + 1) ls (.int (Int32.ofInt v) :: stk) n σ
  | .bipush v => len = 2 ∧ (-128 ≤ v ∧ v ≤ 127) ∧ K (pc + 2) ls (.int (Int32.ofInt v) :: stk) n σ
  | .sipush v => len = 3 ∧ (-32768 ≤ v ∧ v ≤ 32767) ∧ K (pc + 3) ls (.int (Int32.ofInt v) :: stk) n σ
  | .lconst v => len = 1 ∧ K (pc + 1) ls (.long (Int64.ofNat (v : Nat)) :: stk) n σ
  | .ldc ix => len = 2 ∧ am_opt (am_find (am_KT X) ix) (fun v => K (pc + 2) ls (.int v :: stk) n σ)
  | .ldc_w ix => len = 3 ∧ am_opt (am_find (am_KT X) ix) (fun v => K (pc + 3) ls (.int v :: stk) n σ)
  | .ldc2_w ix => len = 3 ∧ am_opt (am_find (am_LT X) ix) (fun v => K (pc + 3) ls (.long v :: stk) n σ)
  | .iload_n k => len = 1 ∧ am_ldi ls (k : Nat) (fun x => K (pc + 1) ls (.int x :: stk) n σ)
  | .iload k => len = 2 ∧ am_ldi ls k (fun x => K (pc + 2) ls (.int x :: stk) n σ)
  | .lload_n k => len = 1 ∧ am_ldl ls (k : Nat) (fun x => K (pc + 1) ls (.long x :: stk) n σ)
  | .lload k => len = 2 ∧ am_ldl ls k (fun x => K (pc + 2) ls (.long x :: stk) n σ)
  | .aload_n k => len = 1 ∧ am_lda ls (k : Nat) (fun x => K (pc + 1) ls (.ref x :: stk) n σ)
  | .aload k => len = 2 ∧ am_lda ls k (fun x => K (pc + 2) ls (.ref x :: stk) n σ)
  | .istore_n k => len = 1 ∧ am_1 stk (fun x rest => am_lg ls (k : Nat) = false ∧ (k : Nat) < ls.length ∧ K (pc + 1) (ls.set (k : Nat) (some (.int x))) rest n σ)
  | .istore k => len = 2 ∧ am_1 stk (fun x rest => am_lg ls k = false ∧ k < ls.length ∧ K (pc + 2) (ls.set k (some (.int x))) rest n σ)
  | .lstore_n k => len = 1 ∧ am_1l stk (fun x rest => am_lg ls (k : Nat) = false ∧ (k : Nat) + 1 < ls.length ∧ K (pc + 1) ((ls.set (k : Nat) (some (.long x))).set ((k : Nat) + 1) none) rest n σ)
  | .lstore k => len = 2 ∧ am_1l stk (fun x rest => am_lg ls k = false ∧ k + 1 < ls.length ∧ K (pc + 2) ((ls.set k (some (.long x))).set (k + 1) none) rest n σ)
  | .astore_n k => len = 1 ∧ am_1a stk (fun x rest => am_lg ls (k : Nat) = false ∧ (k : Nat) < ls.length ∧ K (pc + 1) (ls.set (k : Nat) (some (.ref x))) rest n σ)
  | .astore k => len = 2 ∧ am_1a stk (fun x rest => am_lg ls k = false ∧ k < ls.length ∧ K (pc + 2) (ls.set k (some (.ref x))) rest n σ)
  | .iinc k c => len = 3 ∧ am_ldi ls k (fun x => am_lg ls k = false ∧ k < ls.length ∧ K (pc + 3) (ls.set k (some (.int (x + Int32.ofInt c)))) stk n σ)
  | .iadd => len = 1 ∧ am_2 stk (fun x y rest => K (pc + 1) ls (.int (x + y) :: rest) n σ)
  | .isub => len = 1 ∧ am_2 stk (fun x y rest => K (pc + 1) ls (.int (x - y) :: rest) n σ)
  | .imul => len = 1 ∧ am_2 stk (fun x y rest => K (pc + 1) ls (.int (x * y) :: rest) n σ)
  | .iand => len = 1 ∧ am_2 stk (fun x y rest => K (pc + 1) ls (.int (x &&& y) :: rest) n σ)
  | .ior => len = 1 ∧ am_2 stk (fun x y rest => K (pc + 1) ls (.int (x ||| y) :: rest) n σ)
  | .ixor => len = 1 ∧ am_2 stk (fun x y rest => K (pc + 1) ls (.int (x ^^^ y) :: rest) n σ)
  | .ishl => len = 1 ∧ am_2 stk (fun x y rest => K (pc + 1) ls (.int (x <<< (y &&& 31)) :: rest) n σ)
  | .ishr => len = 1 ∧ am_2 stk (fun x y rest => K (pc + 1) ls (.int (x >>> (y &&& 31)) :: rest) n σ)
  | .iushr => len = 1 ∧ am_2 stk (fun x y rest => K (pc + 1) ls (.int ((x.toUInt32 >>> (y.toUInt32 &&& Int32.toUInt32 31)).toInt32) :: rest) n σ)
  | .idiv => len = 1 ∧ am_2 stk (fun x y rest => ¬ y = 0 ∧ K (pc + 1) ls (.int (x / y) :: rest) n σ)
  | .irem => len = 1 ∧ am_2 stk (fun x y rest => ¬ y = 0 ∧ K (pc + 1) ls (.int (x - x / y * y) :: rest) n σ)
  | .ladd => len = 1 ∧ am_2l stk (fun x y rest => K (pc + 1) ls (.long (x + y) :: rest) n σ)
  | .lmul => len = 1 ∧ am_2l stk (fun x y rest => K (pc + 1) ls (.long (x * y) :: rest) n σ)
  | .lcmp => len = 1 ∧ am_2l stk (fun x y rest => K (pc + 1) ls (.int (lg_cmp x y) :: rest) n σ)
  | .i2l => len = 1 ∧ am_1 stk (fun x rest => K (pc + 1) ls (.long x.toInt64 :: rest) n σ)
  | .i2b => len = 1 ∧ am_1 stk (fun x rest => K (pc + 1) ls (.int x.toInt8.toInt32 :: rest) n σ)
  | .l2i => len = 1 ∧ am_1l stk (fun x rest => K (pc + 1) ls (.int x.toInt32 :: rest) n σ)
  | .dup => len = 1 ∧ am_v stk (fun v rest => v.category = 1 ∧ K (pc + 1) ls (v :: v :: rest) n σ)
  | .pop => len = 1 ∧ am_v stk (fun v rest => v.category = 1 ∧ K (pc + 1) ls (rest) n σ)
  | .dup2 => len = 1 ∧ am_v stk (fun v r1 => am_v r1 (fun w rest => v.category = 1 ∧ w.category = 1 ∧ K (pc + 1) ls (v :: w :: v :: w :: rest) n σ))
  | .ifCond .eq off => len = 3 ∧ am_1 stk (fun x rest => am_tg pc off (fun t => (x = 0 → K t ls rest n σ) ∧ (¬ (x = 0) → K (pc + 3) ls rest n σ)))
  | .ifCond .ne off => len = 3 ∧ am_1 stk (fun x rest => am_tg pc off (fun t => (¬ x = 0 → K t ls rest n σ) ∧ (x = 0 → K (pc + 3) ls rest n σ)))
  | .ifCond .lt off => len = 3 ∧ am_1 stk (fun x rest => am_tg pc off (fun t => (x < 0 → K t ls rest n σ) ∧ (¬ (x < 0) → K (pc + 3) ls rest n σ)))
  | .ifCond .ge off => len = 3 ∧ am_1 stk (fun x rest => am_tg pc off (fun t => (0 ≤ x → K t ls rest n σ) ∧ (¬ (0 ≤ x) → K (pc + 3) ls rest n σ)))
  | .ifCond .gt off => len = 3 ∧ am_1 stk (fun x rest => am_tg pc off (fun t => (0 < x → K t ls rest n σ) ∧ (¬ (0 < x) → K (pc + 3) ls rest n σ)))
  | .ifCond .le off => len = 3 ∧ am_1 stk (fun x rest => am_tg pc off (fun t => (x ≤ 0 → K t ls rest n σ) ∧ (¬ (x ≤ 0) → K (pc + 3) ls rest n σ)))
  | .if_icmp .eq off => len = 3 ∧ am_2 stk (fun x y rest => am_tg pc off (fun t => (x = y → K t ls rest n σ) ∧ (¬ (x = y) → K (pc + 3) ls rest n σ)))
  | .if_icmp .ne off => len = 3 ∧ am_2 stk (fun x y rest => am_tg pc off (fun t => (¬ x = y → K t ls rest n σ) ∧ (x = y → K (pc + 3) ls rest n σ)))
  | .if_icmp .lt off => len = 3 ∧ am_2 stk (fun x y rest => am_tg pc off (fun t => (x < y → K t ls rest n σ) ∧ (¬ (x < y) → K (pc + 3) ls rest n σ)))
  | .if_icmp .ge off => len = 3 ∧ am_2 stk (fun x y rest => am_tg pc off (fun t => (y ≤ x → K t ls rest n σ) ∧ (¬ (y ≤ x) → K (pc + 3) ls rest n σ)))
  | .if_icmp .gt off => len = 3 ∧ am_2 stk (fun x y rest => am_tg pc off (fun t => (y < x → K t ls rest n σ) ∧ (¬ (y < x) → K (pc + 3) ls rest n σ)))
  | .if_icmp .le off => len = 3 ∧ am_2 stk (fun x y rest => am_tg pc off (fun t => (x ≤ y → K t ls rest n σ) ∧ (¬ (x ≤ y) → K (pc + 3) ls rest n σ)))
  | .goto off => len = 3 ∧ am_tg pc off (fun t => K t ls stk n σ)
  | .ireturn => len = 1 ∧ n = ne ∧ am_1 stk (fun x rest => rest = [] ∧ am_ri (am_rt X) x ∧ post (some (.int x)) σ)
  | .lreturn => len = 1 ∧ n = ne ∧ am_1l stk (fun x rest => rest = [] ∧ am_rt X = some .long ∧ post (some (.long x)) σ)
  | .return_ => len = 1 ∧ n = ne ∧ stk = [] ∧ am_rt X = none ∧ post none σ
  | .tableswitch d lo hi offs => am_1 stk (fun x rest => am_ts pc x (fun t => K t ls rest n σ) lo offs.toList lo ∧ ((x.toInt < lo ∨ hi < x.toInt) → am_tg pc d (fun t => K t ls rest n σ)) ∧ (offs.size : Int) = hi - lo + 1)
  | .lookupswitch d ps => am_1 stk (fun x rest => (ps.toList.zip (ps.toList.drop 1)).all (fun (a, next) => a.1 < next.1) = true ∧ am_ls pc x d (fun t => K t ls rest n σ) ps.toList)
  | .getfield ix => len = 3 ∧ am_1a stk (fun o rest => o < n ∧ am_opt (am_find (am_FT X) ix) (fun q => am_SH X o = .inl q.1 ∧ am_opt (am_KF X o)[q.2]? (fun kd => K (pc + 3) ls (am_av kd (σ.1 o q.2) (σ.2 o q.2) :: rest) n σ)))
  | .putfield ix => len = 3 ∧ am_v stk (fun v r1 => am_1a r1 (fun o rest => o < n ∧ am_opt (am_find (am_PT X) ix) (fun q => am_SH X o = .inl q.1 ∧ am_opt (am_KF X o)[q.2]? (fun kd => am_pf kd v σ o q.2 (fun σ1 => K (pc + 3) ls rest n σ1)))))
  | .arraylength => len = 1 ∧ am_1a stk (fun o rest => o < n ∧ am_arr (am_SH X o) (fun q => q.1 < 4 ∧ K (pc + 1) ls (.int (Int32.ofNat q.2) :: rest) n σ))
  | .iaload => len = 1 ∧ am_ix stk (fun i o rest => o < n ∧ am_arr (am_SH X o) (fun q => q.1 = 0 ∧ vp_in i q.2 ∧ K (pc + 1) ls (.int (σ.1 o i.toNatClampNeg) :: rest) n σ))
  | .baload => len = 1 ∧ am_ix stk (fun i o rest => o < n ∧ am_arr (am_SH X o) (fun q => (q.1 = 1 ∨ q.1 = 2) ∧ vp_in i q.2 ∧ K (pc + 1) ls (.int (σ.1 o i.toNatClampNeg) :: rest) n σ))
  | .laload => len = 1 ∧ am_ix stk (fun i o rest => o < n ∧ am_arr (am_SH X o) (fun q => q.1 = 3 ∧ vp_in i q.2 ∧ K (pc + 1) ls (.long (σ.2 o i.toNatClampNeg) :: rest) n σ))
  | .iastore => len = 1 ∧ am_1 stk (fun x r1 => am_ix r1 (fun i o rest => o < n ∧ am_arr (am_SH X o) (fun q => q.1 = 0 ∧ vp_in i q.2 ∧ K (pc + 1) ls (rest) n (am_pi σ o i.toNatClampNeg x))))
  | .bastore => len = 1 ∧ am_1 stk (fun x r1 => am_ix r1 (fun i o rest => o < n ∧ am_arr (am_SH X o) (fun q => (q.1 = 1 ∨ q.1 = 2) ∧ vp_in i q.2 ∧ K (pc + 1) ls (rest) n (am_pi σ o i.toNatClampNeg (if q.1 = 1 then vp_nar .byte x else vp_nar .boolean x)))))
  | .lastore => len = 1 ∧ am_1l stk (fun x r1 => am_ix r1 (fun i o rest => o < n ∧ am_arr (am_SH X o) (fun q => q.1 = 3 ∧ vp_in i q.2 ∧ K (pc + 1) ls (rest) n (am_pl σ o i.toNatClampNeg x))))
  | .newarray ty => len = 2 ∧ am_1 stk (fun x rest => n < ne ∧ am_arr (am_SH X n) (fun q => am_ty q.1 = some ty ∧ ¬ x < 0 ∧ x.toNatClampNeg = q.2 ∧ q.2 < 1000000 ∧ K (pc + 2) ls (.ref n :: rest) (n + 1) (am_new σ n)))
  | .new ix => len = 3 ∧ n < ne ∧ am_opt (am_find (am_CT X) ix) (fun ci => am_SH X n = .inl ci ∧ (am_KF X n).all (fun kd => decide (kd < 4)) = true ∧ K (pc + 3) ls (.ref n :: stk) (n + 1) (am_new σ n))
  | .invokevirtual ix => len = 3 ∧ am_cl (am_find (am_NT X) ix) (fun w => am_nat w 2 stk n (am_SH X) σ (fun st σ1 => K (pc + 3) ls st n σ1)) (am_opt (am_find (am_ML X) ix) (fun q => (q.1 = 0 ∨ q.1 = 3) ∧ q.2.1 ≤ stk.length ∧ am_rc q.1 q.2.2.1 n (am_SH X) (stk.take q.2.1).reverse ∧ ((stk.drop q.2.1).map fun v => v.category).sum ≤ 8 ∧ n + q.2.2.2.1 ≤ ne ∧ am_sz (am_SH X) (am_KF X) (n + q.2.2.2.1) = am_sz (am_SH X) (am_KF X) n + q.2.2.2.2.1 ∧ q.2.2.2.2.2 (stk.take q.2.1).reverse n σ (fun v σ1 => K (pc + 3) ls (v.toList ++ stk.drop q.2.1) (n + q.2.2.2.1) σ1)))
  | .invokestatic ix => len = 3 ∧ am_cl (am_find (am_NT X) ix) (fun w => am_nat w 1 stk n (am_SH X) σ (fun st σ1 => K (pc + 3) ls st n σ1)) (am_opt (am_find (am_ML X) ix) (fun q => (q.1 = 1 ∨ q.1 = 4) ∧ q.2.1 ≤ stk.length ∧ am_rc q.1 q.2.2.1 n (am_SH X) (stk.take q.2.1).reverse ∧ ((stk.drop q.2.1).map fun v => v.category).sum ≤ 8 ∧ n + q.2.2.2.1 ≤ ne ∧ am_sz (am_SH X) (am_KF X) (n + q.2.2.2.1) = am_sz (am_SH X) (am_KF X) n + q.2.2.2.2.1 ∧ q.2.2.2.2.2 (stk.take q.2.1).reverse n σ (fun v σ1 => K (pc + 3) ls (v.toList ++ stk.drop q.2.1) (n + q.2.2.2.1) σ1)))
  | .invokespecial ix => len = 3 ∧ am_cl (am_find (am_NT X) ix) (fun w => am_nat w 0 stk n (am_SH X) σ (fun st σ1 => K (pc + 3) ls st n σ1)) (am_opt (am_find (am_ML X) ix) (fun q => (q.1 = 2 ∨ q.1 = 5) ∧ q.2.1 ≤ stk.length ∧ am_rc q.1 q.2.2.1 n (am_SH X) (stk.take q.2.1).reverse ∧ ((stk.drop q.2.1).map fun v => v.category).sum ≤ 8 ∧ n + q.2.2.2.1 ≤ ne ∧ am_sz (am_SH X) (am_KF X) (n + q.2.2.2.1) = am_sz (am_SH X) (am_KF X) n + q.2.2.2.2.1 ∧ q.2.2.2.2.2 (stk.take q.2.1).reverse n σ (fun v σ1 => K (pc + 3) ls (v.toList ++ stk.drop q.2.1) (n + q.2.2.2.1) σ1)))
  | _ => False
section
variable (X : am_X) (ne : Nat) (post : Option Value → am_S → Prop) (len pc : Nat) (ls : List (Option Value)) (stk : List Value) (n : Nat) (σ : am_S) (K : Nat → List (Option Value) → List Value → Nat → am_S → Prop)
theorem o_iconst (v : Int) : am_one X ne post (.iconst v) len pc ls stk n σ K = (len = 1 ∧ K (pc + 1) ls (.int (Int32.ofInt v) :: stk) n σ) := rfl
theorem o_bipush (v : Int) : am_one X ne post (.bipush v) len pc ls stk n σ K = (len = 2 ∧ (-128 ≤ v ∧ v ≤ 127) ∧ K (pc + 2) ls (.int (Int32.ofInt v) :: stk) n σ) := rfl
theorem o_sipush (v : Int) : am_one X ne post (.sipush v) len pc ls stk n σ K = (len = 3 ∧ (-32768 ≤ v ∧ v ≤ 32767) ∧ K (pc + 3) ls (.int (Int32.ofInt v) :: stk) n σ) := rfl
theorem o_lconst (v : Fin 2) : am_one X ne post (.lconst v) len pc ls stk n σ K = (len = 1 ∧ K (pc + 1) ls (.long (Int64.ofNat (v : Nat)) :: stk) n σ) := rfl
theorem o_ldc (ix : Nat) : am_one X ne post (.ldc ix) len pc ls stk n σ K = (len = 2 ∧ am_opt (am_find (am_KT X) ix) (fun v => K (pc + 2) ls (.int v :: stk) n σ)) := rfl
theorem o_ldc_w (ix : Nat) : am_one X ne post (.ldc_w ix) len pc ls stk n σ K = (len = 3 ∧ am_opt (am_find (am_KT X) ix) (fun v => K (pc + 3) ls (.int v :: stk) n σ)) := rfl
theorem o_ldc2_w (ix : Nat) : am_one X ne post (.ldc2_w ix) len pc ls stk n σ K = (len = 3 ∧ am_opt (am_find (am_LT X) ix) (fun v => K (pc + 3) ls (.long v :: stk) n σ)) := rfl
theorem o_iload_n (k : Fin 4) : am_one X ne post (.iload_n k) len pc ls stk n σ K = (len = 1 ∧ am_ldi ls (k : Nat) (fun x => K (pc + 1) ls (.int x :: stk) n σ)) := rfl
theorem o_iload (k : Nat) : am_one X ne post (.iload k) len pc ls stk n σ K = (len = 2 ∧ am_ldi ls k (fun x => K (pc + 2) ls (.int x :: stk) n σ)) := rfl
theorem o_lload_n (k : Fin 4) : am_one X ne post (.lload_n k) len pc ls stk n σ K = (len = 1 ∧ am_ldl ls (k : Nat) (fun x => K (pc + 1) ls (.long x :: stk) n σ)) := rfl
theorem o_lload (k : Nat) : am_one X ne post (.lload k) len pc ls stk n σ K = (len = 2 ∧ am_ldl ls k (fun x => K (pc + 2) ls (.long x :: stk) n σ)) := rfl
theorem o_aload_n (k : Fin 4) : am_one X ne post (.aload_n k) len pc ls stk n σ K = (len = 1 ∧ am_lda ls (k : Nat) (fun x => K (pc + 1) ls (.ref x :: stk) n σ)) := rfl
theorem o_aload (k : Nat) : am_one X ne post (.aload k) len pc ls stk n σ K = (len = 2 ∧ am_lda ls k (fun x => K (pc + 2) ls (.ref x :: stk) n σ)) := rfl
theorem o_istore_n (k : Fin 4) : am_one X ne post (.istore_n k) len pc ls stk n σ K = (len = 1 ∧ am_1 stk (fun x rest => am_lg ls (k : Nat) = false ∧ (k : Nat) < ls.length ∧ K (pc + 1) (ls.set (k : Nat) (some (.int x))) rest n σ)) := rfl
theorem o_istore (k : Nat) : am_one X ne post (.istore k) len pc ls stk n σ K = (len = 2 ∧ am_1 stk (fun x rest => am_lg ls k = false ∧ k < ls.length ∧ K (pc + 2) (ls.set k (some (.int x))) rest n σ)) := rfl
theorem o_lstore_n (k : Fin 4) : am_one X ne post (.lstore_n k) len pc ls stk n σ K = (len = 1 ∧ am_1l stk (fun x rest => am_lg ls (k : Nat) = false ∧ (k : Nat) + 1 < ls.length ∧ K (pc + 1) ((ls.set (k : Nat) (some (.long x))).set ((k : Nat) + 1) none) rest n σ)) := rfl
theorem o_lstore (k : Nat) : am_one X ne post (.lstore k) len pc ls stk n σ K = (len = 2 ∧ am_1l stk (fun x rest => am_lg ls k = false ∧ k + 1 < ls.length ∧ K (pc + 2) ((ls.set k (some (.long x))).set (k + 1) none) rest n σ)) := rfl
theorem o_astore_n (k : Fin 4) : am_one X ne post (.astore_n k) len pc ls stk n σ K = (len = 1 ∧ am_1a stk (fun x rest => am_lg ls (k : Nat) = false ∧ (k : Nat) < ls.length ∧ K (pc + 1) (ls.set (k : Nat) (some (.ref x))) rest n σ)) := rfl
theorem o_astore (k : Nat) : am_one X ne post (.astore k) len pc ls stk n σ K = (len = 2 ∧ am_1a stk (fun x rest => am_lg ls k = false ∧ k < ls.length ∧ K (pc + 2) (ls.set k (some (.ref x))) rest n σ)) := rfl
theorem o_iinc (k : Nat) (c : Int) : am_one X ne post (.iinc k c) len pc ls stk n σ K = (len = 3 ∧ am_ldi ls k (fun x => am_lg ls k = false ∧ k < ls.length ∧ K (pc + 3) (ls.set k (some (.int (x + Int32.ofInt c)))) stk n σ)) := rfl
theorem o_iadd : am_one X ne post (.iadd) len pc ls stk n σ K = (len = 1 ∧ am_2 stk (fun x y rest => K (pc + 1) ls (.int (x + y) :: rest) n σ)) := rfl
theorem o_isub : am_one X ne post (.isub) len pc ls stk n σ K = (len = 1 ∧ am_2 stk (fun x y rest => K (pc + 1) ls (.int (x - y) :: rest) n σ)) := rfl
theorem o_imul : am_one X ne post (.imul) len pc ls stk n σ K = (len = 1 ∧ am_2 stk (fun x y rest => K (pc + 1) ls (.int (x * y) :: rest) n σ)) := rfl
theorem o_iand : am_one X ne post (.iand) len pc ls stk n σ K = (len = 1 ∧ am_2 stk (fun x y rest => K (pc + 1) ls (.int (x &&& y) :: rest) n σ)) := rfl
theorem o_ior : am_one X ne post (.ior) len pc ls stk n σ K = (len = 1 ∧ am_2 stk (fun x y rest => K (pc + 1) ls (.int (x ||| y) :: rest) n σ)) := rfl
theorem o_ixor : am_one X ne post (.ixor) len pc ls stk n σ K = (len = 1 ∧ am_2 stk (fun x y rest => K (pc + 1) ls (.int (x ^^^ y) :: rest) n σ)) := rfl
theorem o_ishl : am_one X ne post (.ishl) len pc ls stk n σ K = (len = 1 ∧ am_2 stk (fun x y rest => K (pc + 1) ls (.int (x <<< (y &&& 31)) :: rest) n σ)) := rfl
theorem o_ishr : am_one X ne post (.ishr) len pc ls stk n σ K = (len = 1 ∧ am_2 stk (fun x y rest => K (pc + 1) ls (.int (x >>> (y &&& 31)) :: rest) n σ)) := rfl
theorem o_iushr : am_one X ne post (.iushr) len pc ls stk n σ K = (len = 1 ∧ am_2 stk (fun x y rest => K (pc + 1) ls (.int ((x.toUInt32 >>> (y.toUInt32 &&& Int32.toUInt32 31)).toInt32) :: rest) n σ)) := rfl
theorem o_idiv : am_one X ne post (.idiv) len pc ls stk n σ K = (len = 1 ∧ am_2 stk (fun x y rest => ¬ y = 0 ∧ K (pc + 1) ls (.int (x / y) :: rest) n σ)) := rfl
theorem o_irem : am_one X ne post (.irem) len pc ls stk n σ K = (len = 1 ∧ am_2 stk (fun x y rest => ¬ y = 0 ∧ K (pc + 1) ls (.int (x - x / y * y) :: rest) n σ)) := rfl
theorem o_ladd : am_one X ne post (.ladd) len pc ls stk n σ K = (len = 1 ∧ am_2l stk (fun x y rest => K (pc + 1) ls (.long (x + y) :: rest) n σ)) := rfl
theorem o_lmul : am_one X ne post (.lmul) len pc ls stk n σ K = (len = 1 ∧ am_2l stk (fun x y rest => K (pc + 1) ls (.long (x * y) :: rest) n σ)) := rfl
theorem o_lcmp : am_one X ne post (.lcmp) len pc ls stk n σ K = (len = 1 ∧ am_2l stk (fun x y rest => K (pc + 1) ls (.int (lg_cmp x y) :: rest) n σ)) := rfl
theorem o_i2l : am_one X ne post (.i2l) len pc ls stk n σ K = (len = 1 ∧ am_1 stk (fun x rest => K (pc + 1) ls (.long x.toInt64 :: rest) n σ)) := rfl
theorem o_i2b : am_one X ne post (.i2b) len pc ls stk n σ K = (len = 1 ∧ am_1 stk (fun x rest => K (pc + 1) ls (.int x.toInt8.toInt32 :: rest) n σ)) := rfl
theorem o_l2i : am_one X ne post (.l2i) len pc ls stk n σ K = (len = 1 ∧ am_1l stk (fun x rest => K (pc + 1) ls (.int x.toInt32 :: rest) n σ)) := rfl
theorem o_dup : am_one X ne post (.dup) len pc ls stk n σ K = (len = 1 ∧ am_v stk (fun v rest => v.category = 1 ∧ K (pc + 1) ls (v :: v :: rest) n σ)) := rfl
theorem o_pop : am_one X ne post (.pop) len pc ls stk n σ K = (len = 1 ∧ am_v stk (fun v rest => v.category = 1 ∧ K (pc + 1) ls (rest) n σ)) := rfl
theorem o_dup2 : am_one X ne post (.dup2) len pc ls stk n σ K = (len = 1 ∧ am_v stk (fun v r1 => am_v r1 (fun w rest => v.category = 1 ∧ w.category = 1 ∧ K (pc + 1) ls (v :: w :: v :: w :: rest) n σ))) := rfl
theorem o_ifCond_eq (off : Int) : am_one X ne post (.ifCond .eq off) len pc ls stk n σ K = (len = 3 ∧ am_1 stk (fun x rest => am_tg pc off (fun t => (x = 0 → K t ls rest n σ) ∧ (¬ (x = 0) → K (pc + 3) ls rest n σ)))) := rfl
theorem o_ifCond_ne (off : Int) : am_one X ne post (.ifCond .ne off) len pc ls stk n σ K = (len = 3 ∧ am_1 stk (fun x rest => am_tg pc off (fun t => (¬ x = 0 → K t ls rest n σ) ∧ (x = 0 → K (pc + 3) ls rest n σ)))) := rfl
theorem o_ifCond_lt (off : Int) : am_one X ne post (.ifCond .lt off) len pc ls stk n σ K = (len = 3 ∧ am_1 stk (fun x rest => am_tg pc off (fun t => (x < 0 → K t ls rest n σ) ∧ (¬ (x < 0) → K (pc + 3) ls rest n σ)))) := rfl
theorem o_ifCond_ge (off : Int) : am_one X ne post (.ifCond .ge off) len pc ls stk n σ K = (len = 3 ∧ am_1 stk (fun x rest => am_tg pc off (fun t => (0 ≤ x → K t ls rest n σ) ∧ (¬ (0 ≤ x) → K (pc + 3) ls rest n σ)))) := rfl
theorem o_ifCond_gt (off : Int) : am_one X ne post (.ifCond .gt off) len pc ls stk n σ K = (len = 3 ∧ am_1 stk (fun x rest => am_tg pc off (fun t => (0 < x → K t ls rest n σ) ∧ (¬ (0 < x) → K (pc + 3) ls rest n σ)))) := rfl
theorem o_ifCond_le (off : Int) : am_one X ne post (.ifCond .le off) len pc ls stk n σ K = (len = 3 ∧ am_1 stk (fun x rest => am_tg pc off (fun t => (x ≤ 0 → K t ls rest n σ) ∧ (¬ (x ≤ 0) → K (pc + 3) ls rest n σ)))) := rfl
theorem o_if_icmp_eq (off : Int) : am_one X ne post (.if_icmp .eq off) len pc ls stk n σ K = (len = 3 ∧ am_2 stk (fun x y rest => am_tg pc off (fun t => (x = y → K t ls rest n σ) ∧ (¬ (x = y) → K (pc + 3) ls rest n σ)))) := rfl
theorem o_if_icmp_ne (off : Int) : am_one X ne post (.if_icmp .ne off) len pc ls stk n σ K = (len = 3 ∧ am_2 stk (fun x y rest => am_tg pc off (fun t => (¬ x = y → K t ls rest n σ) ∧ (x = y → K (pc + 3) ls rest n σ)))) := rfl
theorem o_if_icmp_lt (off : Int) : am_one X ne post (.if_icmp .lt off) len pc ls stk n σ K = (len = 3 ∧ am_2 stk (fun x y rest => am_tg pc off (fun t => (x < y → K t ls rest n σ) ∧ (¬ (x < y) → K (pc + 3) ls rest n σ)))) := rfl
theorem o_if_icmp_ge (off : Int) : am_one X ne post (.if_icmp .ge off) len pc ls stk n σ K = (len = 3 ∧ am_2 stk (fun x y rest => am_tg pc off (fun t => (y ≤ x → K t ls rest n σ) ∧ (¬ (y ≤ x) → K (pc + 3) ls rest n σ)))) := rfl
theorem o_if_icmp_gt (off : Int) : am_one X ne post (.if_icmp .gt off) len pc ls stk n σ K = (len = 3 ∧ am_2 stk (fun x y rest => am_tg pc off (fun t => (y < x → K t ls rest n σ) ∧ (¬ (y < x) → K (pc + 3) ls rest n σ)))) := rfl
theorem o_if_icmp_le (off : Int) : am_one X ne post (.if_icmp .le off) len pc ls stk n σ K = (len = 3 ∧ am_2 stk (fun x y rest => am_tg pc off (fun t => (x ≤ y → K t ls rest n σ) ∧ (¬ (x ≤ y) → K (pc + 3) ls rest n σ)))) := rfl
theorem o_goto (off : Int) : am_one X ne post (.goto off) len pc ls stk n σ K = (len = 3 ∧ am_tg pc off (fun t => K t ls stk n σ)) := rfl
theorem o_ireturn : am_one X ne post (.ireturn) len pc ls stk n σ K = (len = 1 ∧ n = ne ∧ am_1 stk (fun x rest => rest = [] ∧ am_ri (am_rt X) x ∧ post (some (.int x)) σ)) := rfl
theorem o_lreturn : am_one X ne post (.lreturn) len pc ls stk n σ K = (len = 1 ∧ n = ne ∧ am_1l stk (fun x rest => rest = [] ∧ am_rt X = some .long ∧ post (some (.long x)) σ)) := rfl
theorem o_return_ : am_one X ne post (.return_) len pc ls stk n σ K = (len = 1 ∧ n = ne ∧ stk = [] ∧ am_rt X = none ∧ post none σ) := rfl
theorem o_tableswitch (d : Int) (lo : Int) (hi : Int) (offs : Array Int) : am_one X ne post (.tableswitch d lo hi offs) len pc ls stk n σ K = (am_1 stk (fun x rest => am_ts pc x (fun t => K t ls rest n σ) lo offs.toList lo ∧ ((x.toInt < lo ∨ hi < x.toInt) → am_tg pc d (fun t => K t ls rest n σ)) ∧ (offs.size : Int) = hi - lo + 1)) := rfl
theorem o_lookupswitch (d : Int) (ps : Array (Int × Int)) : am_one X ne post (.lookupswitch d ps) len pc ls stk n σ K = (am_1 stk (fun x rest => (ps.toList.zip (ps.toList.drop 1)).all (fun (a, next) => a.1 < next.1) = true ∧ am_ls pc x d (fun t => K t ls rest n σ) ps.toList)) := rfl
theorem o_getfield (ix : Nat) : am_one X ne post (.getfield ix) len pc ls stk n σ K = (len = 3 ∧ am_1a stk (fun o rest => o < n ∧ am_opt (am_find (am_FT X) ix) (fun q => am_SH X o = .inl q.1 ∧ am_opt (am_KF X o)[q.2]? (fun kd => K (pc + 3) ls (am_av kd (σ.1 o q.2) (σ.2 o q.2) :: rest) n σ)))) := rfl
theorem o_putfield (ix : Nat) : am_one X ne post (.putfield ix) len pc ls stk n σ K = (len = 3 ∧ am_v stk (fun v r1 => am_1a r1 (fun o rest => o < n ∧ am_opt (am_find (am_PT X) ix) (fun q => am_SH X o = .inl q.1 ∧ am_opt (am_KF X o)[q.2]? (fun kd => am_pf kd v σ o q.2 (fun σ1 => K (pc + 3) ls rest n σ1)))))) := rfl
theorem o_arraylength : am_one X ne post (.arraylength) len pc ls stk n σ K = (len = 1 ∧ am_1a stk (fun o rest => o < n ∧ am_arr (am_SH X o) (fun q => q.1 < 4 ∧ K (pc + 1) ls (.int (Int32.ofNat q.2) :: rest) n σ))) := rfl
theorem o_iaload : am_one X ne post (.iaload) len pc ls stk n σ K = (len = 1 ∧ am_ix stk (fun i o rest => o < n ∧ am_arr (am_SH X o) (fun q => q.1 = 0 ∧ vp_in i q.2 ∧ K (pc + 1) ls (.int (σ.1 o i.toNatClampNeg) :: rest) n σ))) := rfl
theorem o_baload : am_one X ne post (.baload) len pc ls stk n σ K = (len = 1 ∧ am_ix stk (fun i o rest => o < n ∧ am_arr (am_SH X o) (fun q => (q.1 = 1 ∨ q.1 = 2) ∧ vp_in i q.2 ∧ K (pc + 1) ls (.int (σ.1 o i.toNatClampNeg) :: rest) n σ))) := rfl
theorem o_laload : am_one X ne post (.laload) len pc ls stk n σ K = (len = 1 ∧ am_ix stk (fun i o rest => o < n ∧ am_arr (am_SH X o) (fun q => q.1 = 3 ∧ vp_in i q.2 ∧ K (pc + 1) ls (.long (σ.2 o i.toNatClampNeg) :: rest) n σ))) := rfl
theorem o_iastore : am_one X ne post (.iastore) len pc ls stk n σ K = (len = 1 ∧ am_1 stk (fun x r1 => am_ix r1 (fun i o rest => o < n ∧ am_arr (am_SH X o) (fun q => q.1 = 0 ∧ vp_in i q.2 ∧ K (pc + 1) ls (rest) n (am_pi σ o i.toNatClampNeg x))))) := rfl
theorem o_bastore : am_one X ne post (.bastore) len pc ls stk n σ K = (len = 1 ∧ am_1 stk (fun x r1 => am_ix r1 (fun i o rest => o < n ∧ am_arr (am_SH X o) (fun q => (q.1 = 1 ∨ q.1 = 2) ∧ vp_in i q.2 ∧ K (pc + 1) ls (rest) n (am_pi σ o i.toNatClampNeg (if q.1 = 1 then vp_nar .byte x else vp_nar .boolean x)))))) := rfl
theorem o_lastore : am_one X ne post (.lastore) len pc ls stk n σ K = (len = 1 ∧ am_1l stk (fun x r1 => am_ix r1 (fun i o rest => o < n ∧ am_arr (am_SH X o) (fun q => q.1 = 3 ∧ vp_in i q.2 ∧ K (pc + 1) ls (rest) n (am_pl σ o i.toNatClampNeg x))))) := rfl
theorem o_newarray (ty : ArrayType) : am_one X ne post (.newarray ty) len pc ls stk n σ K = (len = 2 ∧ am_1 stk (fun x rest => n < ne ∧ am_arr (am_SH X n) (fun q => am_ty q.1 = some ty ∧ ¬ x < 0 ∧ x.toNatClampNeg = q.2 ∧ q.2 < 1000000 ∧ K (pc + 2) ls (.ref n :: rest) (n + 1) (am_new σ n)))) := rfl
theorem o_new (ix : Nat) : am_one X ne post (.new ix) len pc ls stk n σ K = (len = 3 ∧ n < ne ∧ am_opt (am_find (am_CT X) ix) (fun ci => am_SH X n = .inl ci ∧ (am_KF X n).all (fun kd => decide (kd < 4)) = true ∧ K (pc + 3) ls (.ref n :: stk) (n + 1) (am_new σ n))) := rfl
theorem o_invokevirtual (ix : Nat) : am_one X ne post (.invokevirtual ix) len pc ls stk n σ K = (len = 3 ∧ am_cl (am_find (am_NT X) ix) (fun w => am_nat w 2 stk n (am_SH X) σ (fun st σ1 => K (pc + 3) ls st n σ1)) (am_opt (am_find (am_ML X) ix) (fun q => (q.1 = 0 ∨ q.1 = 3) ∧ q.2.1 ≤ stk.length ∧ am_rc q.1 q.2.2.1 n (am_SH X) (stk.take q.2.1).reverse ∧ ((stk.drop q.2.1).map fun v => v.category).sum ≤ 8 ∧ n + q.2.2.2.1 ≤ ne ∧ am_sz (am_SH X) (am_KF X) (n + q.2.2.2.1) = am_sz (am_SH X) (am_KF X) n + q.2.2.2.2.1 ∧ q.2.2.2.2.2 (stk.take q.2.1).reverse n σ (fun v σ1 => K (pc + 3) ls (v.toList ++ stk.drop q.2.1) (n + q.2.2.2.1) σ1)))) := rfl
theorem o_invokestatic (ix : Nat) : am_one X ne post (.invokestatic ix) len pc ls stk n σ K = (len = 3 ∧ am_cl (am_find (am_NT X) ix) (fun w => am_nat w 1 stk n (am_SH X) σ (fun st σ1 => K (pc + 3) ls st n σ1)) (am_opt (am_find (am_ML X) ix) (fun q => (q.1 = 1 ∨ q.1 = 4) ∧ q.2.1 ≤ stk.length ∧ am_rc q.1 q.2.2.1 n (am_SH X) (stk.take q.2.1).reverse ∧ ((stk.drop q.2.1).map fun v => v.category).sum ≤ 8 ∧ n + q.2.2.2.1 ≤ ne ∧ am_sz (am_SH X) (am_KF X) (n + q.2.2.2.1) = am_sz (am_SH X) (am_KF X) n + q.2.2.2.2.1 ∧ q.2.2.2.2.2 (stk.take q.2.1).reverse n σ (fun v σ1 => K (pc + 3) ls (v.toList ++ stk.drop q.2.1) (n + q.2.2.2.1) σ1)))) := rfl
theorem o_invokespecial (ix : Nat) : am_one X ne post (.invokespecial ix) len pc ls stk n σ K = (len = 3 ∧ am_cl (am_find (am_NT X) ix) (fun w => am_nat w 0 stk n (am_SH X) σ (fun st σ1 => K (pc + 3) ls st n σ1)) (am_opt (am_find (am_ML X) ix) (fun q => (q.1 = 2 ∨ q.1 = 5) ∧ q.2.1 ≤ stk.length ∧ am_rc q.1 q.2.2.1 n (am_SH X) (stk.take q.2.1).reverse ∧ ((stk.drop q.2.1).map fun v => v.category).sum ≤ 8 ∧ n + q.2.2.2.1 ≤ ne ∧ am_sz (am_SH X) (am_KF X) (n + q.2.2.2.1) = am_sz (am_SH X) (am_KF X) n + q.2.2.2.2.1 ∧ q.2.2.2.2.2 (stk.take q.2.1).reverse n σ (fun v σ1 => K (pc + 3) ls (v.toList ++ stk.drop q.2.1) (n + q.2.2.2.1) σ1)))) := rfl
end
end
section
/-! ONE INSTRUCTION'S WORD IS TRUE OF THE MACHINE. -/
def am_tys (aC : Nat → ClassId) : List (ClassId × FieldType) := [(aC 0, .int), (aC 1, .byte), (aC 2, .boolean), (aC 3, .long)]
def am_tk (t : FieldType) : Nat := match t with
  | .int => 0
  | .long => 1
  | .boolean => 2
  | .object _ => 3
  | .array _ => 3
  | _ => 9
/-- what the tables say of classes, numbers and arrays -/
def am_G (TB : List Cond) (cl : List vw_C) (SH : am_Sh) (KF : am_Kf) (tyc : Nat → Nat → FieldType) : Prop :=
  (∀ (ci : Nat) (q : vw_C), cl[ci]? = some q → (∀ w ∈ u_ws q.1 q.2.1 q.2.2, w ∈ TB) ∧ (∀ k, k < q.2.2 → parseFieldDescriptor (q.2.1 k).2.2.1 = some (tyc ci k)) ∧ (∀ a, a < q.2.2 → ∀ b, b < q.2.2 → a ≠ b → (q.2.1 a).2.1 ≠ (q.2.1 b).2.1)) ∧
  (∀ o ci, SH o = .inl ci → ∃ q : vw_C, cl[ci]? = some q ∧ (KF o).length = q.2.2 ∧ ∀ k kd, (KF o)[k]? = some kd → min kd 3 = am_tk (tyc ci k)) ∧
  (∀ k ty, am_ty k = some ty → Cond.arrayClass (newarray.typeOf ty) ∈ TB)
/-- a field that is read -/
def am_FO (TB : List Cond) (cl : List vw_C) (own : String) (q : Nat × Nat × Nat) : Prop := ∃ r : vw_C, cl[q.2.1]? = some r ∧ q.2.2 < r.2.2 ∧ Cond.fieldLink own q.1 (r.2.1 q.2.2).1 (r.2.1 q.2.2).2.1 (r.2.1 q.2.2).2.2.1 ∈ TB
/-- a field that is written -/
def am_PO (TB : List Cond) (cl : List vw_C) (own nm : String) (q : Nat × Nat × Nat) : Prop := ∃ r : vw_C, cl[q.2.1]? = some r ∧ q.2.2 < r.2.2 ∧ Cond.fieldLink own q.1 (r.2.1 q.2.2).1 (r.2.1 q.2.2).2.1 (r.2.1 q.2.2).2.2.1 ∈ TB ∧ ((r.2.1 q.2.2).2.2.2 = false ∨ ((r.2.1 q.2.2).2.2.2 = true ∧ nm = "<init>" ∧ (r.2.1 q.2.2).1 = own))
def am_CC (TB : List Cond) (cl : List vw_C) (own : String) (q : Nat × Nat) : Prop := ∃ r : vw_C, cl[q.2]? = some r ∧ Cond.classLink own q.1 r.1 ∈ TB ∧ Cond.instantiable r.1 r.2.2 ∈ TB ∧ Cond.initialized r.1 ∈ TB
def am_NO (TB : List Cond) (own : String) (q : Nat × Nat) : Prop := match q.2 with
  | 0 => Cond.methodLink own q.1 Lib.Math.max.name ∈ TB ∧ Cond.static Lib.Math.max.name ∈ TB ∧ Cond.initialized "java/lang/Math" ∈ TB ∧ Cond.code Lib.Math.max.name Lib.Math.max.code 2 (some .int) ∈ TB
  | 1 => Cond.methodLink own q.1 Lib.Math.min.name ∈ TB ∧ Cond.static Lib.Math.min.name ∈ TB ∧ Cond.initialized "java/lang/Math" ∈ TB ∧ Cond.code Lib.Math.min.name Lib.Math.min.code 2 (some .int) ∈ TB
  | 2 => Cond.methodLink own q.1 Lib.Math.abs.name ∈ TB ∧ Cond.static Lib.Math.abs.name ∈ TB ∧ Cond.initialized "java/lang/Math" ∈ TB ∧ Cond.code Lib.Math.abs.name Lib.Math.abs.code 1 (some .int) ∈ TB
  | 3 => Cond.methodLink own q.1 objectInit ∈ TB ∧ Cond.instanceMethod objectInit ∈ TB ∧ Cond.code objectInit ⟨#[0xb1]⟩ 1 none ∈ TB
  | 4 => Cond.methodLink own q.1 arraycopyName ∈ TB ∧ Cond.native arraycopyName ∈ TB ∧ Cond.static arraycopyName ∈ TB ∧ Cond.initialized "java/lang/System" ∈ TB
  | _ => False
def am_gb (TB : List Cond) : List Cond := TB.filter goodWord
def am_Nw (NB : List Cond) (U : State) : Prop := ∀ a i x h, Cond.methodLinkNest a i x h ∈ NB → va_Nw (.methodLinkNest a i x h) U
abbrev am_rm (d mc ms : Nat) : Room := { frames := d, cells := mc, slots := ms, locals := 64 * d }
def am_Pc (cl : List vw_C) (NB : List Cond) (SH : am_Sh) (KF : am_Kf) (D : va_G) (aC : Nat → ClassId) (b n0 : Nat) (as : List Value) (σ : am_S) : Array Value → State → Prop := va_Pc (as.map (am_c b)) (fun U => U.heap.size = b + n0 ∧ va_P D cl (am_ws SH KF b aC n0 σ) U.heap ∧ va_K D cl (am_tys aC) U ∧ am_Nw NB U)
def am_Qc (cl : List vw_C) (SH : am_Sh) (KF : am_Kf) (D : va_G) (aC : Nat → ClassId) (b ne : Nat) (post : Option Value → am_S → Prop) : Array Value → State → Outcome → State → Prop := fun _ st oc t => (∃ (v : Option Value) (σ : am_S), oc = .returned (v.map (am_c b)) ∧ post v σ ∧ va_P D cl (am_ws SH KF b aC ne σ) t.heap) ∧ va_F (fun q => b ≤ q) st t
/-- A METHOD'S CONTRACT: from what its word asks for it comes to what its word says -/
def am_M (l : Launch) (TB NB : List Cond) (cl : List vw_C) (SH : am_Sh) (KF : am_Kf) (y : MethodName) (cc : ByteArray) (maxL : Nat) (ret : Option FieldType) (d mc ms : Nat) (sp : am_Sp) : Prop :=
  ∀ (D : va_G) (aC : Nat → ClassId) (b n0 : Nat) (as : List Value) (σ : am_S) (post : Option Value → am_S → Prop), sp as n0 σ post → am_sz SH KF (n0 + mc) = am_sz SH KF n0 + ms →
    Met l y (.code y cc maxL ret :: am_gb TB) (am_rm d mc ms) (am_Pc cl NB SH KF D aC b n0 as σ) (am_Qc cl SH KF D aC b (n0 + mc) post) mc ms (fun q => b ≤ q)
/-- a call that a method makes -/
def am_CO (l : Launch) (TB NB : List Cond) (cl : List vw_C) (SH : am_Sh) (KF : am_Kf) (own : String) (dR : Nat) (ix : Nat) (q : Nat × Nat × Nat × Nat × Nat × am_Sp) : Prop :=
  ∃ (y : MethodName) (cc : ByteArray) (maxL : Nat) (ret : Option FieldType) (d na : Nat), am_M l TB NB cl SH KF y cc maxL ret d q.2.2.2.1 q.2.2.2.2.1 q.2.2.2.2.2 ∧ d + 1 ≤ dR ∧ maxL ≤ 40 ∧ Cond.code y cc maxL ret ∈ TB ∧ Cond.initialized y.cls ∈ TB ∧ (y.cls ≠ "java/lang/invoke/MethodHandle" ∧ y.cls ≠ "java/lang/invoke/VarHandle" ∧ (parseMethodDescriptor y.desc).map (fun d => d.parameters.length) = some na) ∧
    match q.1 with
    | 0 => q.2.1 = na + 1 ∧ Cond.methodLink own ix y ∈ TB ∧ Cond.instanceMethod y ∈ TB ∧ ∃ r : vw_C, cl[q.2.2.1]? = some r ∧ Cond.selects r.1 y y ∈ TB
    | 1 => q.2.1 = na ∧ Cond.methodLink own ix y ∈ TB ∧ Cond.static y ∈ TB
    | 2 => q.2.1 = na + 1 ∧ Cond.methodLink own ix y ∈ TB ∧ Cond.instanceMethod y ∈ TB ∧ y.name = "<init>" ∧ ret = none
    | 4 => q.2.1 = na ∧ (∃ host, Cond.methodLinkNest own ix y host ∈ NB) ∧ Cond.static y ∈ TB
    | 5 => q.2.1 = na + 1 ∧ (∃ host, Cond.methodLinkNest own ix y host ∈ NB) ∧ Cond.instanceMethod y ∈ TB ∧ y.name = "<init>" ∧ ret = none
    | _ => False
/-- a method's tables are right -/
def am_O (l : Launch) (TB NB : List Cond) (cl : List vw_C) (own nm : String) (dR : Nat) (X : am_X) : Prop :=
  (∀ q ∈ am_FT X, am_FO TB cl own q) ∧ (∀ q ∈ am_PT X, am_PO TB cl own nm q) ∧ (∀ q ∈ am_CT X, am_CC TB cl own q) ∧ (∀ q ∈ am_KT X, Cond.constant own q.1 q.2 ∈ TB) ∧ (∀ q ∈ am_LT X, Cond.constantLong own q.1 q.2 ∈ TB) ∧ (∀ q ∈ am_NT X, am_NO TB own q) ∧ (∀ q ∈ am_ML X, am_CO l TB NB cl (am_SH X) (am_KF X) own dR q.1 q.2)
theorem am_pf_ok {SH : am_Sh} {KF : am_Kf} {b : Nat} {aC : Nat → ClassId} {kd : Nat} {v : Value} {σ : am_S} {o k : Nat} {K : am_S → Prop} (h : am_pf kd v σ o k K) : ∃ τ : am_S, K τ ∧ (∀ i, i ≠ o → am_cell SH KF b aC τ i = am_cell SH KF b aC σ i) ∧ (∀ j, j ≠ k → τ.1 o j = σ.1 o j) ∧ (∀ j, j ≠ k → τ.2 o j = σ.2 o j) ∧ am_av kd (τ.1 o k) (τ.2 o k) = v ∧ ∀ ty, min kd 3 = am_tk ty → narrow ty (am_c b v) = am_c b v ∧ fits ty (am_c b v) = true := by
  unfold am_pf at h
  split at h
  · refine ⟨_, h, fun i hi => am_pi_ne hi, fun j hj => by simp [am_pi, hj], fun j hj => rfl, by simp [am_av, am_pi], fun ty ht => ?_⟩
    cases ty <;> simp [am_tk] at ht
    exact ⟨rfl, rfl⟩
  · refine ⟨_, h, fun i hi => am_pl_ne hi, fun j hj => rfl, fun j hj => by simp [am_pl, hj], by simp [am_av, am_pl], fun ty ht => ?_⟩
    cases ty <;> simp [am_tk] at ht
    exact ⟨rfl, rfl⟩
  · rename_i x
    refine ⟨_, h.2, fun i hi => am_pi_ne hi, fun j hj => by simp [am_pi, hj], fun j hj => rfl, by simp [am_av, am_pi], fun ty ht => ?_⟩
    cases ty <;> simp [am_tk] at ht
    have h1 : x &&& 1 = x := h.1
    refine ⟨by show Value.int (x &&& 1) = _; rw [h1]; rfl, ?_⟩
    show (x == 0 || x == 1) = true
    have h2 : x.toBitVec &&& 1#32 = x.toBitVec := by
      have := congrArg Int32.toBitVec h1
      simpa using this
    have h3 : x.toBitVec.toNat = x.toBitVec.toNat % 2 := by
      have := congrArg BitVec.toNat h2
      rw [BitVec.toNat_and] at this
      rw [← this]
      simp [Nat.and_one_is_mod]
    have h4 : x.toBitVec.toNat = 0 ∨ x.toBitVec.toNat = 1 := by omega
    rcases h4 with h4 | h4
    · have : x = 0 := by
        apply Int32.toBitVec_inj.mp
        apply BitVec.eq_of_toNat_eq
        rw [h4]; rfl
      subst this; rfl
    · have : x = 1 := by
        apply Int32.toBitVec_inj.mp
        apply BitVec.eq_of_toNat_eq
        rw [h4]; rfl
      subst this; rfl
  · rename_i a
    refine ⟨_, h.2, fun i hi => am_pi_ne hi, fun j hj => by simp [am_pi, hj], fun j hj => rfl, ?_, fun ty ht => ?_⟩
    · obtain ⟨a', rfl⟩ : ∃ z : Nat, z = a := ⟨_, rfl⟩
      have h1 : a' < 1000000 := h.1
      have h2 : (Int32.ofNat (a' + 1)).toNatClampNeg = a' + 1 := nI_clamp (n := a' + 1) (by omega)
      have h3 : ¬ Int32.ofNat (a' + 1) = 0 := nI_ne0 (n := a' + 1) (by omega) (by omega)
      have h4 : (am_pi σ o k (Int32.ofNat (a' + 1))).1 o k = Int32.ofNat (a' + 1) := by simp only [am_pi, and_self, if_true]
      show (if (am_pi σ o k (Int32.ofNat (a' + 1))).1 o k = 0 then Value.null else Value.ref (((am_pi σ o k (Int32.ofNat (a' + 1))).1 o k).toNatClampNeg - 1)) = _
      rw [h4, if_neg h3, h2]
      rfl
    · cases ty <;> simp [am_tk] at ht
      · exact ⟨rfl, rfl⟩
      · exact ⟨rfl, rfl⟩
  · exact h.elim
section
variable {p : Program} {l : Launch} {e : Env} {R : Room} {s : State} {m : MethodId} {args : Array Value} {below : List Frame} {meth : Method} {c : Code} {cl : List vw_C} {TB NB : List Cond} {D : va_G} {aC : Nat → ClassId} {b n0 ne : Nat} {SH : am_Sh} {KF : am_Kf}
/-- how many cells there are -/
theorem am_size {H : Heap} {locs : List Loc} {n slots cells : Nat} {Q : State → Prop} {g : JFrame} {σ : am_S} (hP : va_P D cl (am_ws SH KF b aC n σ) H) (hS : va_S (fun q => b ≤ q) s.heap H locs) (hsz : s.heap.size = b + n0) (hn : n0 ≤ n) (hc : cells = n - n0) (k : H.size = b + n → W p l e R s m args below meth c H locs cells slots Q g) : W p l e R s m args below meth c H locs cells slots Q g := by
  intro T hT X
  refine k ?_ T hT X
  have h1 : T.heap.size ≤ s.heap.size + cells := X.heapSize
  rw [hT, hsz] at h1
  have h2 : b + n ≤ H.size := by
    rcases Nat.lt_or_ge n0 n with q | q
    · have := (hP (n - 1) _ (am_ws_at (by omega))).lt
      have h3 : b + (n - 1) < H.size := this
      omega
    · have := hS.1
      omega
  omega
/-- behind a call -/
theorem am_call {H : Heap} {locs : List Loc} {cells slots mc ms pc n1 : Nat} {Q : State → Prop} {ls : Array Slot} {st0 rest : List Value} {a : Array Value} {post : Option Value → am_S → Prop}
    (hr : va_Run p l e R s m args below meth c H locs cells slots mc ms (F0 m pc ls st0) rest (am_Qc cl SH KF D aC b n1 post a) (fun q => b ≤ q)) (hS : va_S (fun q => b ≤ q) s.heap H locs)
    (kk : ∀ (v : Option Value) (τ : am_S) (H1 : Heap) (locs1 : List Loc), post v τ → va_P D cl (am_ws SH KF b aC n1 τ) H1 → va_S (fun q => b ≤ q) s.heap H1 locs1 → W p l e R s m args below meth c H1 locs1 (cells + mc) (slots + ms) Q (F0 m (pc + 3) ls ((v.map (am_c b)).toList ++ rest))) : W p l e R s m args below meth c H locs cells slots Q (F0 m pc ls st0) := by
  intro T hT X
  obtain ⟨v, st₀, t, T', L, h0, X', hL, e1, e2, ⟨⟨w, τ, hv, hp, hb⟩, hz, hk⟩, st⟩ := hr T hT X
  cases hv
  rw [h0] at hz hk
  obtain ⟨t2, a1, b1⟩ := kk w τ T'.heap (locs ++ L) hp (by rw [e1]; exact hb)
    ⟨Nat.le_trans hS.1 (by rw [e1]; exact hz), fun q h1 h2 => by rw [e1, hk q (Nat.lt_of_lt_of_le h1 hS.1) h2]; exact hS.2.1 q h1 h2, fun q hq => by
      rcases List.mem_append.mp hq with h | h
      · exact hS.2.2 q h
      · exact hL q h⟩ T' rfl X'
  exact ⟨t2, st t2 a1, b1⟩
end
end
section
section
variable {p : Program} {l : Launch} {e : Env} {R : Room} {s : State} {m : MethodId} {args : Array Value} {below : List Frame} {meth : Method} {c : Code} {cl : List vw_C} {TB NB : List Cond} {D : va_G} {aC : Nat → ClassId} {b n0 ne nL : Nat} {cc : ByteArray} {own : String} {X : am_X} {KQ : am_Kf} {post : Option Value → am_S → Prop}
/-- the setting of a walk -/
def am_C (p : Program) (l : Launch) (R : Room) (s : State) (m : MethodId) (args : Array Value) (meth : Method) (c : Code) (cl : List vw_C) (TB NB : List Cond) (D : va_G) (aC : Nat → ClassId) (b n0 ne nL : Nat) (cc : ByteArray) (own : String) (X : am_X) (KQ : am_Kf) : Prop :=
  p.tables.exec = Jvm.exec ∧ c.code = cc ∧ c.maxLocals = nL ∧ s.vm.findClass own = some m.cls ∧ (∀ w ∈ TB, w.before args s = true) ∧ am_Nw NB s ∧ va_K D cl (am_tys aC) s ∧ meth.locks = false ∧ s.heap.size = b + n0 ∧ ((meth.sig.returnType = am_rt X ∧ KQ = am_KF X) ∨ am_rt X = some .double) ∧ (∃ d, 1 ≤ d ∧ R = am_rm d (ne - n0) (am_sz (am_SH X) (am_KF X) ne - am_sz (am_SH X) (am_KF X) n0) ∧ am_O l TB NB cl own meth.name d X) ∧ ∃ tyc, am_G TB cl (am_SH X) (am_KF X) tyc
/-- THE WALK at pc, in this layer's words -/
def am_A (p : Program) (l : Launch) (e : Env) (R : Room) (s : State) (m : MethodId) (args : Array Value) (below : List Frame) (meth : Method) (c : Code) (cl : List vw_C) (D : va_G) (aC : Nat → ClassId) (b n0 ne nL : Nat) (X : am_X) (KQ : am_Kf) (post : Option Value → am_S → Prop) (pc : Nat) (ls : List (Option Value)) (stk : List Value) (n : Nat) (σ : am_S) : Prop :=
  n0 ≤ n → n ≤ ne → ls.length = nL → ∀ (H : Heap) (locs : List Loc) (lc : Array Slot), va_P D cl (am_ws (am_SH X) (am_KF X) b aC n σ) H → va_S (fun q => b ≤ q) s.heap H locs → lv_has lc nL (am_lv b ls) →
    W p l e R s m args below meth c H locs (n - n0) (am_sz (am_SH X) (am_KF X) n - am_sz (am_SH X) (am_KF X) n0) (MQ below (am_Qc cl (am_SH X) KQ D aC b ne post) args s (ne - n0) (am_sz (am_SH X) (am_KF X) ne - am_sz (am_SH X) (am_KF X) n0) (fun q => b ≤ q)) (F0 m pc lc (stk.map (am_c b)))
theorem am_ts_ok {pc : Nat} {x : Int32} {k : Nat → Prop} {lo : Int} : ∀ {l : List Int} {i : Int}, am_ts pc x k lo l i → i ≤ x.toInt → x.toInt < i + l.length → ∃ off, l[(x.toInt - i).toNat]? = some off ∧ am_tg pc off k
  | [], i, h, h1, h2 => by simp at h2; omega
  | off :: t, i, h, h1, h2 => by
    by_cases hx : x.toInt = i
    · exact ⟨off, by rw [show (x.toInt - i).toNat = 0 by omega]; rfl, h.1 hx⟩
    · obtain ⟨off2, q1, q2⟩ := am_ts_ok h.2 (by omega) (by simp at h2; omega)
      refine ⟨off2, ?_, q2⟩
      rw [show (x.toInt - i).toNat = (x.toInt - (i + 1)).toNat + 1 by omega]
      simpa using q1
theorem am_ls_ok {pc : Nat} {x : Int32} {d : Int} {k : Nat → Prop} : ∀ {l : List (Int × Int)}, am_ls pc x d k l → am_tg pc (Op.lookupswitch.offset l d x.toInt) k
  | [], h => by simpa [am_ls, Op.lookupswitch.offset] using h
  | q :: t, h => by
    by_cases hx : x.toInt = q.1
    · have := h.1 hx
      simpa [Op.lookupswitch.offset, hx] using this
    · have := am_ls_ok (h.2 hx)
      have h2 : ¬ q.1 = x.toInt := fun z => hx z.symm
      simpa [Op.lookupswitch.offset, h2] using this
theorem am_tgt {pc : Nat} {off : Int} {k : Nat → Prop} (h : am_tg pc off k) : ∃ t : Nat, (pc : Int) + off = (t : Int) ∧ k t := ⟨((pc : Int) + off).toNat, (Int.toNat_of_nonneg h.1).symm, h.2⟩
theorem am_ws_obj {SH : am_Sh} {KF : am_Kf} {n o ci : Nat} {σ : am_S} (h : o < n) (hs : SH o = .inl ci) : (am_ws SH KF b aC n σ)[o]? = some (b + o, .inr (ci, (am_fs (KF o) (σ.1 o) (σ.2 o)).map (am_c b))) := by
  rw [am_ws_at h]; simp [am_cell, hs]
theorem am_ws_arr {SH : am_Sh} {KF : am_Kf} {n o : Nat} {q : Nat × Nat} {σ : am_S} (h : o < n) (hs : SH o = .inr q) (hq : ¬ q.1 = 3) : (am_ws SH KF b aC n σ)[o]? = some (b + o, .inl (aC q.1, (q.2, .inl (σ.1 o)))) := by
  rw [am_ws_at h]; simp [am_cell, hs, hq]
theorem am_ws_arl {SH : am_Sh} {KF : am_Kf} {n o : Nat} {q : Nat × Nat} {σ : am_S} (h : o < n) (hs : SH o = .inr q) (hq : q.1 = 3) : (am_ws SH KF b aC n σ)[o]? = some (b + o, .inl (aC 3, (q.2, .inr (.inl (σ.2 o))))) := by
  rw [am_ws_at h]; simp [am_cell, hs, hq]
theorem am_upd_cell {SH : am_Sh} {KF : am_Kf} {o k : Nat} {q : Nat × Nat} {σ : am_S} {x : Int32} (hs : SH o = .inr q) (hq : ¬ q.1 = 3) : (.inl (aC q.1, (q.2, .inl (upd (σ.1 o) k x))) : va_E) = am_cell SH KF b aC (am_pi σ o k x) o := by
  have e : (am_pi σ o k x).1 o = upd (σ.1 o) k x := by funext j; simp [am_pi, upd]
  simp [am_cell, hs, hq, e]
theorem am_upd_celll {SH : am_Sh} {KF : am_Kf} {o k : Nat} {q : Nat × Nat} {σ : am_S} {x : Int64} (hs : SH o = .inr q) (hq : q.1 = 3) : (.inl (aC 3, (q.2, .inr (.inl (vp_updL (σ.2 o) k x)))) : va_E) = am_cell SH KF b aC (am_pl σ o k x) o := by
  have e : (am_pl σ o k x).2 o = vp_updL (σ.2 o) k x := by funext j; simp [am_pl, vp_updL]
  simp [am_cell, hs, hq, e]
/-- the simple instructions -/
theorem am_simple {i : Instr} {len pc : Nat} {ls : List (Option Value)} {stk : List Value} {n : Nat} {σ : am_S} {K : Nat → List (Option Value) → List Value → Nat → am_S → Prop} (C : am_C p l R s m args meth c cl TB NB D aC b n0 ne nL cc own X KQ) (hdg : decode cc pc = .ok (i, len))
    (hK : ∀ pc ls stk n σ, K pc ls stk n σ → am_A p l e R s m args below meth c cl D aC b n0 ne nL X KQ post pc ls stk n σ)
    (hbig : match i with
      | .getfield _ => False
      | .putfield _ => False
      | .arraylength => False
      | .iaload => False
      | .baload => False
      | .laload => False
      | .iastore => False
      | .bastore => False
      | .lastore => False
      | .newarray _ => False
      | .new _ => False
      | .invokevirtual _ => False
      | .invokestatic _ => False
      | .invokespecial _ => False
      | _ => True)
    (h : am_one X ne post i len pc ls stk n σ K) : am_A p l e R s m args below meth c cl D aC b n0 ne nL X KQ post pc ls stk n σ := by
  obtain ⟨hx, hb, hml, hown, hts, hnb, hKn, hlocks, hsz, hret, ⟨d, hd, hR, hO⟩, tyc, hG⟩ := C
  intro hn hne hlen H locs lc hP hS hl
  cases i
  case iconst v => exact lv_iconst hx hb (by rw [hdg, h.1]) rfl (hK _ _ _ _ _ h.2 hn hne hlen H locs lc hP hS hl)
  case bipush v =>
    obtain ⟨h1, h2, h3⟩ := h
    refine lv_bipush (v := Int32.ofInt v) hx hb (by rw [hdg, h1]) ?_ (hK _ _ _ _ _ h3 hn hne hlen H locs lc hP hS hl)
    apply Int32.toInt_inj.mp
    rw [Int8.toInt_toInt32, Int8.toInt_ofInt_of_le (by omega) (by omega), Int32.toInt_ofInt_of_le (by omega) (by omega)]
  case sipush v =>
    obtain ⟨h1, h2, h3⟩ := h
    refine lv_sipush (v := Int32.ofInt v) hx hb (by rw [hdg, h1]) ?_ (hK _ _ _ _ _ h3 hn hne hlen H locs lc hP hS hl)
    apply Int32.toInt_inj.mp
    rw [Int16.toInt_toInt32, Int16.toInt_ofInt_of_le (by omega) (by omega), Int32.toInt_ofInt_of_le (by omega) (by omega)]
  case lconst v => exact lv_lconst hx hb (by rw [hdg, h.1]) rfl (hK _ _ _ _ _ h.2 hn hne hlen H locs lc hP hS hl)
  case ldc ix =>
    obtain ⟨h1, h2⟩ := h
    obtain ⟨v, h3, h4⟩ := am_opt_iff.mp h2
    exact lv_ldc hx hb hown (hts _ (hO.2.2.2.1 _ (am_find_mem h3))) (by rw [hdg, h1]) (hK _ _ _ _ _ h4 hn hne hlen H locs lc hP hS hl)
  case ldc_w ix =>
    obtain ⟨h1, h2⟩ := h
    obtain ⟨v, h3, h4⟩ := am_opt_iff.mp h2
    exact lv_ldcw hx hb hown (hts _ (hO.2.2.2.1 _ (am_find_mem h3))) (by rw [hdg, h1]) (hK _ _ _ _ _ h4 hn hne hlen H locs lc hP hS hl)
  case ldc2_w ix =>
    obtain ⟨h1, h2⟩ := h
    obtain ⟨v, h3, h4⟩ := am_opt_iff.mp h2
    exact lv_ldc2 hx hb hown (hts _ (hO.2.2.2.2.1 _ (am_find_mem h3))) (by rw [hdg, h1]) (hK _ _ _ _ _ h4 hn hne hlen H locs lc hP hS hl)
  case iload_n k =>
    obtain ⟨x, h3, h4⟩ := am_ldi_iff h.2
    exact lv_iload_n hx hb (by rw [hdg, h.1]) rfl (am_lv_at hl h3) (hK _ _ _ _ _ h4 hn hne hlen H locs lc hP hS hl)
  case iload k =>
    obtain ⟨x, h3, h4⟩ := am_ldi_iff h.2
    exact lv_iload hx hb (by rw [hdg, h.1]) (am_lv_at hl h3) (hK _ _ _ _ _ h4 hn hne hlen H locs lc hP hS hl)
  case lload_n k =>
    obtain ⟨x, h3, h4⟩ := am_ldl_iff h.2
    exact lv_lload_n hx hb (by rw [hdg, h.1]) rfl (am_lv_at hl h3) (hK _ _ _ _ _ h4 hn hne hlen H locs lc hP hS hl)
  case lload k =>
    obtain ⟨x, h3, h4⟩ := am_ldl_iff h.2
    exact lv_lload hx hb (by rw [hdg, h.1]) (am_lv_at hl h3) (hK _ _ _ _ _ h4 hn hne hlen H locs lc hP hS hl)
  case aload_n k =>
    obtain ⟨x, h3, h4⟩ := am_lda_iff h.2
    exact lv_aload_n hx hb (by rw [hdg, h.1]) rfl (am_lv_at hl h3) (hK _ _ _ _ _ h4 hn hne hlen H locs lc hP hS hl)
  case aload k =>
    obtain ⟨x, h3, h4⟩ := am_lda_iff h.2
    exact lv_aload hx hb (by rw [hdg, h.1]) (am_lv_at hl h3) (hK _ _ _ _ _ h4 hn hne hlen H locs lc hP hS hl)
  case istore_n k =>
    obtain ⟨x, r, rfl, h1, h2, h3⟩ := am_1_iff h.2
    exact lv_istore_n hx hb (by rw [hdg, h.1]) rfl hl (by omega) rfl (fun lc' hl' => hK _ _ _ _ _ h3 hn hne (by simp [hlen]) H locs lc' hP hS (am_lv_set1 h1 hl'))
  case istore k =>
    obtain ⟨x, r, rfl, h1, h2, h3⟩ := am_1_iff h.2
    exact lv_istore hx hb (by rw [hdg, h.1]) hl (by omega) rfl (fun lc' hl' => hK _ _ _ _ _ h3 hn hne (by simp [hlen]) H locs lc' hP hS (am_lv_set1 h1 hl'))
  case lstore_n k =>
    obtain ⟨x, r, rfl, h1, h2, h3⟩ := am_1l_iff h.2
    exact lv_lstore_n hx hb (by rw [hdg, h.1]) rfl hl (by omega) rfl (fun lc' hl' => hK _ _ _ _ _ h3 hn hne (by simp [hlen]) H locs lc' hP hS (am_lv_set2 h1 hl'))
  case lstore k =>
    obtain ⟨x, r, rfl, h1, h2, h3⟩ := am_1l_iff h.2
    exact lv_lstore hx hb (by rw [hdg, h.1]) hl (by omega) rfl (fun lc' hl' => hK _ _ _ _ _ h3 hn hne (by simp [hlen]) H locs lc' hP hS (am_lv_set2 h1 hl'))
  case astore_n k =>
    obtain ⟨x, r, rfl, h1, h2, h3⟩ := am_1a_iff h.2
    exact lv_astore_n hx hb (by rw [hdg, h.1]) rfl hl (by omega) rfl (fun lc' hl' => hK _ _ _ _ _ h3 hn hne (by simp [hlen]) H locs lc' hP hS (am_lv_set1 h1 hl'))
  case astore k =>
    obtain ⟨x, r, rfl, h1, h2, h3⟩ := am_1a_iff h.2
    exact lv_astore hx hb (by rw [hdg, h.1]) hl (by omega) rfl (fun lc' hl' => hK _ _ _ _ _ h3 hn hne (by simp [hlen]) H locs lc' hP hS (am_lv_set1 h1 hl'))
  case iinc k cn =>
    obtain ⟨x, h0, h1, h2, h3⟩ := am_ldi_iff h.2
    obtain ⟨j, hj⟩ := List.getElem?_of_mem (am_lv_mem (b := b) (q := (k, .int x)).mpr ⟨_, h0, rfl⟩)
    exact lv_iinc hx hb (by rw [hdg, h.1]) hl hj rfl (by omega) rfl (fun lc' hl' => hK _ _ _ _ _ h3 hn hne (by simp [hlen]) H locs lc' hP hS (am_lv_set1 h1 hl'))
  case iadd =>
    obtain ⟨x, y, r, rfl, h3⟩ := am_2_iff h.2
    exact lv_iadd hx hb (by rw [hdg, h.1]) (hK _ _ _ _ _ h3 hn hne hlen H locs lc hP hS hl)
  case isub =>
    obtain ⟨x, y, r, rfl, h3⟩ := am_2_iff h.2
    exact lv_isub hx hb (by rw [hdg, h.1]) (hK _ _ _ _ _ h3 hn hne hlen H locs lc hP hS hl)
  case imul =>
    obtain ⟨x, y, r, rfl, h3⟩ := am_2_iff h.2
    exact lv_imul hx hb (by rw [hdg, h.1]) (hK _ _ _ _ _ h3 hn hne hlen H locs lc hP hS hl)
  case iand =>
    obtain ⟨x, y, r, rfl, h3⟩ := am_2_iff h.2
    exact lv_iand hx hb (by rw [hdg, h.1]) (hK _ _ _ _ _ h3 hn hne hlen H locs lc hP hS hl)
  case ior =>
    obtain ⟨x, y, r, rfl, h3⟩ := am_2_iff h.2
    exact lv_ior hx hb (by rw [hdg, h.1]) (hK _ _ _ _ _ h3 hn hne hlen H locs lc hP hS hl)
  case ixor =>
    obtain ⟨x, y, r, rfl, h3⟩ := am_2_iff h.2
    exact lv_ixor hx hb (by rw [hdg, h.1]) (hK _ _ _ _ _ h3 hn hne hlen H locs lc hP hS hl)
  case ishl =>
    obtain ⟨x, y, r, rfl, h3⟩ := am_2_iff h.2
    exact lv_ishl hx hb (by rw [hdg, h.1]) (hK _ _ _ _ _ h3 hn hne hlen H locs lc hP hS hl)
  case ishr =>
    obtain ⟨x, y, r, rfl, h3⟩ := am_2_iff h.2
    exact lv_ishr hx hb (by rw [hdg, h.1]) (hK _ _ _ _ _ h3 hn hne hlen H locs lc hP hS hl)
  case iushr =>
    obtain ⟨x, y, r, rfl, h3⟩ := am_2_iff h.2
    exact lv_iushr hx hb (by rw [hdg, h.1]) rfl (hK _ _ _ _ _ h3 hn hne hlen H locs lc hP hS hl)
  case idiv =>
    obtain ⟨x, y, r, rfl, h3, h4⟩ := am_2_iff h.2
    exact lv_idiv hx hb (by rw [hdg, h.1]) h3 (hK _ _ _ _ _ h4 hn hne hlen H locs lc hP hS hl)
  case irem =>
    obtain ⟨x, y, r, rfl, h3, h4⟩ := am_2_iff h.2
    exact lv_irem hx hb (by rw [hdg, h.1]) h3 (hK _ _ _ _ _ h4 hn hne hlen H locs lc hP hS hl)
  case ladd =>
    obtain ⟨x, y, r, rfl, h3⟩ := am_2l_iff h.2
    exact lv_ladd hx hb (by rw [hdg, h.1]) (hK _ _ _ _ _ h3 hn hne hlen H locs lc hP hS hl)
  case lmul =>
    obtain ⟨x, y, r, rfl, h3⟩ := am_2l_iff h.2
    exact lv_lmul hx hb (by rw [hdg, h.1]) (hK _ _ _ _ _ h3 hn hne hlen H locs lc hP hS hl)
  case lcmp =>
    obtain ⟨x, y, r, rfl, h3⟩ := am_2l_iff h.2
    exact W.lcmp hx hb (by rw [hdg, h.1]) (hK _ _ _ _ _ h3 hn hne hlen H locs lc hP hS hl)
  case i2l =>
    obtain ⟨x, r, rfl, h3⟩ := am_1_iff h.2
    exact lv_i2l hx hb (by rw [hdg, h.1]) rfl (hK _ _ _ _ _ h3 hn hne hlen H locs lc hP hS hl)
  case i2b =>
    obtain ⟨x, r, rfl, h3⟩ := am_1_iff h.2
    exact lv_i2b hx hb (by rw [hdg, h.1]) rfl (hK _ _ _ _ _ h3 hn hne hlen H locs lc hP hS hl)
  case l2i =>
    obtain ⟨x, r, rfl, h3⟩ := am_1l_iff h.2
    exact lv_l2i hx hb (by rw [hdg, h.1]) rfl (hK _ _ _ _ _ h3 hn hne hlen H locs lc hP hS hl)
  case dup =>
    obtain ⟨x, r, rfl, h2, h3⟩ := am_v_iff h.2
    exact lv_dup hx hb (by rw [hdg, h.1]) (by rw [am_c_cat]; exact h2) (hK _ _ _ _ _ h3 hn hne hlen H locs lc hP hS hl)
  case pop =>
    obtain ⟨x, r, rfl, h2, h3⟩ := am_v_iff h.2
    exact lv_pop hx hb (by rw [hdg, h.1]) (by rw [am_c_cat]; exact h2) (hK _ _ _ _ _ h3 hn hne hlen H locs lc hP hS hl)
  case dup2 =>
    obtain ⟨x, r1, rfl, h2⟩ := am_v_iff h.2
    obtain ⟨y, r, rfl, h3, h4, h5⟩ := am_v_iff h2
    exact lv_dup2_11 hx hb (by rw [hdg, h.1]) (by rw [am_c_cat]; exact h3) (by rw [am_c_cat]; exact h4) (hK _ _ _ _ _ h5 hn hne hlen H locs lc hP hS hl)
  case ifCond cd off =>
    cases cd
    case eq =>
      obtain ⟨x, r, rfl, h2⟩ := am_1_iff h.2
      obtain ⟨t, ht, h3, h4⟩ := am_tgt h2
      exact lv_if_eq hx hb (by rw [hdg, h.1]) ht (fun q => hK _ _ _ _ _ (h3 q) hn hne hlen H locs lc hP hS hl) (fun q => hK _ _ _ _ _ (h4 q) hn hne hlen H locs lc hP hS hl)
    case ne =>
      obtain ⟨x, r, rfl, h2⟩ := am_1_iff h.2
      obtain ⟨t, ht, h3, h4⟩ := am_tgt h2
      exact lv_if_ne hx hb (by rw [hdg, h.1]) ht (fun q => hK _ _ _ _ _ (h3 q) hn hne hlen H locs lc hP hS hl) (fun q => hK _ _ _ _ _ (h4 q) hn hne hlen H locs lc hP hS hl)
    case lt =>
      obtain ⟨x, r, rfl, h2⟩ := am_1_iff h.2
      obtain ⟨t, ht, h3, h4⟩ := am_tgt h2
      exact lv_if_lt hx hb (by rw [hdg, h.1]) ht (fun q => hK _ _ _ _ _ (h3 q) hn hne hlen H locs lc hP hS hl) (fun q => hK _ _ _ _ _ (h4 q) hn hne hlen H locs lc hP hS hl)
    case ge =>
      obtain ⟨x, r, rfl, h2⟩ := am_1_iff h.2
      obtain ⟨t, ht, h3, h4⟩ := am_tgt h2
      exact lv_if_ge hx hb (by rw [hdg, h.1]) ht (fun q => hK _ _ _ _ _ (h3 q) hn hne hlen H locs lc hP hS hl) (fun q => hK _ _ _ _ _ (h4 q) hn hne hlen H locs lc hP hS hl)
    case gt =>
      obtain ⟨x, r, rfl, h2⟩ := am_1_iff h.2
      obtain ⟨t, ht, h3, h4⟩ := am_tgt h2
      exact lv_if_gt hx hb (by rw [hdg, h.1]) ht (fun q => hK _ _ _ _ _ (h3 q) hn hne hlen H locs lc hP hS hl) (fun q => hK _ _ _ _ _ (h4 q) hn hne hlen H locs lc hP hS hl)
    case le =>
      obtain ⟨x, r, rfl, h2⟩ := am_1_iff h.2
      obtain ⟨t, ht, h3, h4⟩ := am_tgt h2
      exact lv_if_le hx hb (by rw [hdg, h.1]) ht (fun q => hK _ _ _ _ _ (h3 q) hn hne hlen H locs lc hP hS hl) (fun q => hK _ _ _ _ _ (h4 q) hn hne hlen H locs lc hP hS hl)
  case if_icmp cd off =>
    cases cd
    case eq =>
      obtain ⟨x, y, r, rfl, h2⟩ := am_2_iff h.2
      obtain ⟨t, ht, h3, h4⟩ := am_tgt h2
      exact lv_icmp_eq hx hb (by rw [hdg, h.1]) ht (fun q => hK _ _ _ _ _ (h3 q) hn hne hlen H locs lc hP hS hl) (fun q => hK _ _ _ _ _ (h4 q) hn hne hlen H locs lc hP hS hl)
    case ne =>
      obtain ⟨x, y, r, rfl, h2⟩ := am_2_iff h.2
      obtain ⟨t, ht, h3, h4⟩ := am_tgt h2
      exact lv_icmp_ne hx hb (by rw [hdg, h.1]) ht (fun q => hK _ _ _ _ _ (h3 q) hn hne hlen H locs lc hP hS hl) (fun q => hK _ _ _ _ _ (h4 q) hn hne hlen H locs lc hP hS hl)
    case lt =>
      obtain ⟨x, y, r, rfl, h2⟩ := am_2_iff h.2
      obtain ⟨t, ht, h3, h4⟩ := am_tgt h2
      exact lv_icmp_lt hx hb (by rw [hdg, h.1]) ht (fun q => hK _ _ _ _ _ (h3 q) hn hne hlen H locs lc hP hS hl) (fun q => hK _ _ _ _ _ (h4 q) hn hne hlen H locs lc hP hS hl)
    case ge =>
      obtain ⟨x, y, r, rfl, h2⟩ := am_2_iff h.2
      obtain ⟨t, ht, h3, h4⟩ := am_tgt h2
      exact lv_icmp_ge hx hb (by rw [hdg, h.1]) ht (fun q => hK _ _ _ _ _ (h3 q) hn hne hlen H locs lc hP hS hl) (fun q => hK _ _ _ _ _ (h4 q) hn hne hlen H locs lc hP hS hl)
    case gt =>
      obtain ⟨x, y, r, rfl, h2⟩ := am_2_iff h.2
      obtain ⟨t, ht, h3, h4⟩ := am_tgt h2
      exact lv_icmp_gt hx hb (by rw [hdg, h.1]) ht (fun q => hK _ _ _ _ _ (h3 q) hn hne hlen H locs lc hP hS hl) (fun q => hK _ _ _ _ _ (h4 q) hn hne hlen H locs lc hP hS hl)
    case le =>
      obtain ⟨x, y, r, rfl, h2⟩ := am_2_iff h.2
      obtain ⟨t, ht, h3, h4⟩ := am_tgt h2
      exact lv_icmp_le hx hb (by rw [hdg, h.1]) ht (fun q => hK _ _ _ _ _ (h3 q) hn hne hlen H locs lc hP hS hl) (fun q => hK _ _ _ _ _ (h4 q) hn hne hlen H locs lc hP hS hl)
  case goto off =>
    obtain ⟨t, ht, h3⟩ := am_tgt h.2
    exact lv_goto hx hb (by rw [hdg, h.1]) ht (hK _ _ _ _ _ h3 hn hne hlen H locs lc hP hS hl)
  case ireturn =>
    obtain ⟨h1, rfl, h2⟩ := h
    obtain ⟨x, r, rfl, rfl, h3, h4⟩ := am_1_iff h2
    have hrt0 : ¬ am_rt X = some .double := by
      intro z
      rw [z] at h3
      exact h3
    rcases hret with ⟨hret, rfl⟩ | hret
    rotate_left
    · exact absurd hret hrt0
    have hq : ∀ t : State, t.heap = H → s.WarmedH t.vm → am_Qc cl (am_SH X) (am_KF X) D aC b n post args s (.returned (some (.int x))) t := fun t ht hW => ⟨⟨some (.int x), σ, rfl, h4, by rw [ht]; exact hP⟩, hS.F ht⟩
    unfold am_ri at h3
    split at h3
    · rename_i hrt
      exact W.zret (ty := .int) hx hb (by rw [hret, hrt]) rfl hq hS.2.2 (by rw [hdg, h1]) hlocks
    · rename_i hrt
      exact W.zret (ty := .boolean) hx hb (by rw [hret, hrt]) (by
        have h5 : x &&& 1 = x := h3
        show Value.int (x &&& 1) = _
        rw [h5]) hq hS.2.2 (by rw [hdg, h1]) hlocks
    · exact h3.elim
  case lreturn =>
    obtain ⟨h1, rfl, h2⟩ := h
    obtain ⟨x, r, rfl, rfl, h3, h4⟩ := am_1l_iff h2
    rcases hret with ⟨hret, rfl⟩ | hret
    rotate_left
    · rw [h3] at hret; cases hret
    exact W.lret hx hb (by rw [hret, h3]) (fun t ht hW => ⟨⟨some (.long x), σ, rfl, h4, by rw [ht]; exact hP⟩, hS.F ht⟩) hS.2.2 (by rw [hdg, h1]) hlocks
  case return_ =>
    obtain ⟨h1, rfl, rfl, h3, h4⟩ := h
    rcases hret with ⟨hret, rfl⟩ | hret
    rotate_left
    · rw [h3] at hret; cases hret
    exact W.vret hx hb (by rw [hret, h3]) (fun t ht hW => ⟨⟨none, σ, rfl, h4, by rw [ht]; exact hP⟩, hS.F ht⟩) hS.2.2 (by rw [hdg, h1]) hlocks
  case tableswitch dd lo hi offs =>
    obtain ⟨x, r, rfl, h1, h2, h3⟩ := am_1_iff h
    by_cases hq : x.toInt < lo ∨ hi < x.toInt
    · obtain ⟨t, ht, h4⟩ := am_tgt (h2 hq)
      exact lv_tableOut hx hb hdg hq ht (hK _ _ _ _ _ h4 hn hne hlen H locs lc hP hS hl)
    · obtain ⟨off, h4, h5⟩ := am_ts_ok h1 (by omega) (by rw [Array.length_toList]; omega)
      obtain ⟨t, ht, h6⟩ := am_tgt h5
      exact lv_tableIn hx hb hdg (fun z => hq (Or.inl z)) (fun z => hq (Or.inr z)) (by rw [← Array.getElem?_toList]; exact h4) ht (hK _ _ _ _ _ h6 hn hne hlen H locs lc hP hS hl)
  case lookupswitch dd ps =>
    obtain ⟨x, r, rfl, h1, h2⟩ := am_1_iff h
    obtain ⟨t, ht, h4⟩ := am_tgt (am_ls_ok h2)
    exact lv_lookup hx hb hdg h1 rfl ht (hK _ _ _ _ _ h4 hn hne hlen H locs lc hP hS hl)
  all_goals first | exact False.elim h | exact False.elim hbig
end
end
section
section
variable {p : Program} {l : Launch} {e : Env} {R : Room} {s : State} {m : MethodId} {args : Array Value} {below : List Frame} {meth : Method} {c : Code} {cl : List vw_C} {TB NB : List Cond} {D : va_G} {aC : Nat → ClassId} {b n0 ne nL : Nat} {cc : ByteArray} {own : String} {X : am_X} {KQ : am_Kf} {post : Option Value → am_S → Prop}
theorem am_nth {aC : Nat → ClassId} {k : Nat} {ty : ArrayType} (h : am_ty k = some ty) : (am_tys aC)[k]? = some (aC k, newarray.typeOf ty) := by
  match k, h with
  | 0, h => cases h; rfl
  | 1, h => cases h; rfl
  | 2, h => cases h; rfl
  | 3, h => cases h; rfl
  | k + 4, h => simp [am_ty] at h
/-- the instructions that read and write cells -/
theorem am_mem {i : Instr} {len pc : Nat} {ls : List (Option Value)} {stk : List Value} {n : Nat} {σ : am_S} {K : Nat → List (Option Value) → List Value → Nat → am_S → Prop} (C : am_C p l R s m args meth c cl TB NB D aC b n0 ne nL cc own X KQ) (hdg : decode cc pc = .ok (i, len))
    (hK : ∀ pc ls stk n σ, K pc ls stk n σ → am_A p l e R s m args below meth c cl D aC b n0 ne nL X KQ post pc ls stk n σ)
    (hbig : match i with
      | .getfield _ => True
      | .putfield _ => True
      | .arraylength => True
      | .iaload => True
      | .baload => True
      | .laload => True
      | .iastore => True
      | .bastore => True
      | .lastore => True
      | _ => False)
    (h : am_one X ne post i len pc ls stk n σ K) : am_A p l e R s m args below meth c cl D aC b n0 ne nL X KQ post pc ls stk n σ := by
  obtain ⟨hx, hb, hml, hown, hts, hnb, hKn, hlocks, hsz, hret, ⟨d, hd, hR, hO⟩, tyc, hG⟩ := C
  intro hn hne hlen H locs lc hP hS hl
  have hD : va_D (fun q => b ≤ q) (am_ws (am_SH X) (am_KF X) b aC n σ) := am_ws_D
  cases i
  case getfield ix =>
    obtain ⟨o, r, rfl, ho, h2⟩ := am_1a_iff h.2
    obtain ⟨q, hq, hs, h3⟩ := am_opt_iff.mp h2
    obtain ⟨kd, hkd, h4⟩ := am_opt_iff.mp h3
    obtain ⟨w, hc, hk, hlink⟩ := hO.1 _ (am_find_mem hq)
    exact va_get (D := D) (cl := cl) (C := w.1) (T := w.2.1) (N := w.2.2) hx hb hts (hG.1 _ _ hc).1 hown hKn hP o (am_ws_obj ho hs) hc q.2 hk (hts _ hlink) (fun _ h9 => h9) (v := am_c b (am_av kd (σ.1 o q.2) (σ.2 o q.2))) (by rw [List.getElem?_map, am_fs_at _ _ hkd]; rfl) (by rw [hdg, h.1]) (hK _ _ _ _ _ h4 hn hne hlen H locs lc hP hS hl)
  case putfield ix =>
    obtain ⟨v, r1, rfl, h1⟩ := am_v_iff h.2
    obtain ⟨o, r, rfl, ho, h2⟩ := am_1a_iff h1
    obtain ⟨q, hq, hs, h3⟩ := am_opt_iff.mp h2
    obtain ⟨kd, hkd, h4⟩ := am_opt_iff.mp h3
    obtain ⟨w, hc, hk, hlink, hfin⟩ := hO.2.1 _ (am_find_mem hq)
    obtain ⟨τ, h5, h6, h7, h8, h9, h10⟩ := am_pf_ok (SH := am_SH X) (KF := am_KF X) (b := b) (aC := aC) h4
    obtain ⟨w', hc', hlK, hkk⟩ := hG.2.1 _ _ hs
    have hww : w' = w := Option.some.inj (hc'.symm.trans hc)
    subst hww
    obtain ⟨h11, h12⟩ := h10 _ (hkk _ _ hkd)
    have hse : (.inr (q.1, ((am_fs (am_KF X o) (σ.1 o) (σ.2 o)).map (am_c b)).set q.2 (am_c b v)) : va_E) = am_cell (am_SH X) (am_KF X) b aC τ o := by
      have e1 : am_cell (am_SH X) (am_KF X) b aC τ o = .inr (q.1, (am_fs (am_KF X o) (τ.1 o) (τ.2 o)).map (am_c b)) := by simp [am_cell, hs]
      rw [e1, am_fs_set hkd h7 h8, h9, List.map_set]
    have hty := (hG.1 _ _ hc).2.1 q.2 hk
    have hlf : q.2 < ((am_fs (am_KF X o) (σ.1 o) (σ.2 o)).map (am_c b)).length := by rw [List.length_map, am_fs_len, hlK]; exact hk
    have kk : ∀ (H1 : Heap) (locs1 : List Loc), va_P D cl ((am_ws (am_SH X) (am_KF X) b aC n σ).set o (b + o, .inr (q.1, ((am_fs (am_KF X o) (σ.1 o) (σ.2 o)).map (am_c b)).set q.2 (am_c b v)))) H1 → va_D (fun q => b ≤ q) ((am_ws (am_SH X) (am_KF X) b aC n σ).set o (b + o, .inr (q.1, ((am_fs (am_KF X o) (σ.1 o) (σ.2 o)).map (am_c b)).set q.2 (am_c b v)))) → va_S (fun q => b ≤ q) s.heap H1 locs1 →
        W p l e R s m args below meth c H1 locs1 (n - n0) (am_sz (am_SH X) (am_KF X) n - am_sz (am_SH X) (am_KF X) n0) (MQ below (am_Qc cl (am_SH X) KQ D aC b ne post) args s (ne - n0) (am_sz (am_SH X) (am_KF X) ne - am_sz (am_SH X) (am_KF X) n0) (fun q => b ≤ q)) (F0 m (pc + 3) lc (r.map (am_c b))) := by
      intro H1 locs1 p1 p2 p3
      rw [am_ws_set ho hse h6] at p1
      exact hK _ _ _ _ _ h5 hn hne hlen H1 locs1 lc p1 p3 hl
    rcases hfin with hfin | ⟨hfin, hin, hdecl⟩
    · exact va_put (D := D) (cl := cl) (C := w'.1) (T := w'.2.1) (N := w'.2.2) hx hb hts (hG.1 _ _ hc).1 (tyc q.1) (hG.1 _ _ hc).2.1 (hG.1 _ _ hc).2.2 hown hKn hP hD hS o (am_ws_obj ho hs) hc q.2 hk (hts _ hlink) (fun _ h9 => h9) hfin hty h11 h12 hlf (by rw [hdg, h.1]) kk
    · exact va_putF (D := D) (cl := cl) (C := w'.1) (T := w'.2.1) (N := w'.2.2) hx hb hts (hG.1 _ _ hc).1 (tyc q.1) (hG.1 _ _ hc).2.1 (hG.1 _ _ hc).2.2 hown hKn hP hD hS o (am_ws_obj ho hs) hc q.2 hk (hts _ hlink) (fun _ h9 => h9) hfin hin hdecl hty h11 h12 hlf (by rw [hdg, h.1]) kk
  case arraylength =>
    obtain ⟨o, r, rfl, ho, h2⟩ := am_1a_iff h.2
    obtain ⟨q, hs, h3, h4⟩ := am_arr_iff h2
    have kk := hK _ _ _ _ _ h4 hn hne hlen H locs lc hP hS hl
    by_cases h5 : q.1 = 3
    · exact va_alen (D := D) (cl := cl) hx hb hKn hP o 3 (am_ws_arl ho hs h5) (ty := .long) rfl rfl (by rw [hdg, h.1]) kk
    · have h6 : q.1 = 0 ∨ q.1 = 1 ∨ q.1 = 2 := by omega
      rcases h6 with h6 | h6 | h6
      · exact va_alen (D := D) (cl := cl) hx hb hKn hP o 0 (am_ws_arr ho hs h5) (ty := .int) (by rw [h6]; rfl) rfl (by rw [hdg, h.1]) kk
      · exact va_alen (D := D) (cl := cl) hx hb hKn hP o 1 (am_ws_arr ho hs h5) (ty := .byte) (by rw [h6]; rfl) rfl (by rw [hdg, h.1]) kk
      · exact va_alen (D := D) (cl := cl) hx hb hKn hP o 2 (am_ws_arr ho hs h5) (ty := .boolean) (by rw [h6]; rfl) rfl (by rw [hdg, h.1]) kk
  case iaload =>
    obtain ⟨x, o, r, rfl, ho, h2⟩ := am_ix_iff h.2
    obtain ⟨q, hs, h3, h4, h5⟩ := am_arr_iff h2
    exact va_iald (D := D) (cl := cl) hx hb hKn hP o 0 (am_ws_arr ho hs (by omega)) (by rw [h3]; rfl) h4 (by rw [hdg, h.1]) (hK _ _ _ _ _ h5 hn hne hlen H locs lc hP hS hl)
  case baload =>
    obtain ⟨x, o, r, rfl, ho, h2⟩ := am_ix_iff h.2
    obtain ⟨q, hs, h3, h4, h5⟩ := am_arr_iff h2
    rcases h3 with h3 | h3
    · exact va_bald (D := D) (cl := cl) hx hb hKn hP o 1 (am_ws_arr ho hs (by omega)) (by rw [h3]; rfl) h4 (by rw [hdg, h.1]) (hK _ _ _ _ _ h5 hn hne hlen H locs lc hP hS hl)
    · exact va_zald (D := D) (cl := cl) hx hb hKn hP o 2 (am_ws_arr ho hs (by omega)) (by rw [h3]; rfl) h4 (by rw [hdg, h.1]) (hK _ _ _ _ _ h5 hn hne hlen H locs lc hP hS hl)
  case laload =>
    obtain ⟨x, o, r, rfl, ho, h2⟩ := am_ix_iff h.2
    obtain ⟨q, hs, h3, h4, h5⟩ := am_arr_iff h2
    exact va_lald (D := D) (cl := cl) hx hb hKn hP o 3 (am_ws_arl ho hs h3) rfl h4 (by rw [hdg, h.1]) (hK _ _ _ _ _ h5 hn hne hlen H locs lc hP hS hl)
  case iastore =>
    obtain ⟨v, r1, rfl, h1⟩ := am_1_iff h.2
    obtain ⟨x, o, r, rfl, ho, h2⟩ := am_ix_iff h1
    obtain ⟨q, hs, h3, h4, h5⟩ := am_arr_iff h2
    refine va_iast (D := D) (cl := cl) hx hb hKn hP hD hS o 0 (am_ws_arr ho hs (by omega)) (by rw [h3]; rfl) h4 (by rw [hdg, h.1]) fun H1 locs1 p1 p2 p3 => ?_
    rw [am_ws_set ho (am_upd_cell hs (by omega)) (fun i hi => am_pi_ne hi)] at p1
    exact hK _ _ _ _ _ h5 hn hne hlen H1 locs1 lc p1 p3 hl
  case bastore =>
    obtain ⟨v, r1, rfl, h1⟩ := am_1_iff h.2
    obtain ⟨x, o, r, rfl, ho, h2⟩ := am_ix_iff h1
    obtain ⟨q, hs, h3, h4, h5⟩ := am_arr_iff h2
    rcases h3 with h3 | h3
    · refine va_bast (D := D) (cl := cl) hx hb hKn hP hD hS o 1 (am_ws_arr ho hs (by omega)) (by rw [h3]; rfl) h4 (by rw [hdg, h.1]) fun H1 locs1 p1 p2 p3 => ?_
      rw [am_ws_set ho (am_upd_cell hs (by omega)) (fun i hi => am_pi_ne hi)] at p1
      rw [if_pos h3] at h5
      exact hK _ _ _ _ _ h5 hn hne hlen H1 locs1 lc p1 p3 hl
    · refine va_zast (D := D) (cl := cl) hx hb hKn hP hD hS o 2 (am_ws_arr ho hs (by omega)) (by rw [h3]; rfl) h4 (by rw [hdg, h.1]) fun H1 locs1 p1 p2 p3 => ?_
      rw [am_ws_set ho (am_upd_cell hs (by omega)) (fun i hi => am_pi_ne hi)] at p1
      rw [if_neg (by omega)] at h5
      exact hK _ _ _ _ _ h5 hn hne hlen H1 locs1 lc p1 p3 hl
  case lastore =>
    obtain ⟨v, r1, rfl, h1⟩ := am_1l_iff h.2
    obtain ⟨x, o, r, rfl, ho, h2⟩ := am_ix_iff h1
    obtain ⟨q, hs, h3, h4, h5⟩ := am_arr_iff h2
    refine va_last (D := D) (cl := cl) hx hb hKn hP hD hS o 3 (am_ws_arl ho hs h3) rfl h4 (by rw [hdg, h.1]) fun H1 locs1 p1 p2 p3 => ?_
    rw [am_ws_set ho (am_upd_celll hs h3) (fun i hi => am_pl_ne hi)] at p1
    exact hK _ _ _ _ _ h5 hn hne hlen H1 locs1 lc p1 p3 hl
  all_goals exact False.elim hbig
end
end
section
section
variable {p : Program} {l : Launch} {e : Env} {R : Room} {s : State} {m : MethodId} {args : Array Value} {below : List Frame} {meth : Method} {c : Code} {cl : List vw_C} {TB NB : List Cond} {D : va_G} {aC : Nat → ClassId} {b n0 ne nL : Nat} {cc : ByteArray} {own : String} {X : am_X} {KQ : am_Kf} {post : Option Value → am_S → Prop}
/-- where a new cell lies -/
theorem am_addr {SH : am_Sh} {KF : am_Kf} {H : Heap} {locs : List Loc} {n slots a : Nat} {en : va_E} {Q : State → Prop} {g : JFrame} {σ : am_S} (hP : va_P D cl (am_ws SH KF b aC n σ ++ [(a, en)]) H) (hD : va_D (fun q => b ≤ q) (am_ws SH KF b aC n σ ++ [(a, en)])) (hsz : s.heap.size = b + n0) (hn : n0 ≤ n) (k : a = b + n → W p l e R s m args below meth c H locs (n - n0 + 1) slots Q g) : W p l e R s m args below meth c H locs (n - n0 + 1) slots Q g := by
  intro T hT X
  refine k ?_ T hT X
  have h1 : T.heap.size ≤ s.heap.size + (n - n0 + 1) := X.heapSize
  rw [hT, hsz] at h1
  have hn' : (am_ws SH KF b aC n σ ++ [(a, en)])[n]? = some (a, en) := by
    rw [List.getElem?_append_right (by rw [am_ws_len]; exact Nat.le_refl _), am_ws_len, Nat.sub_self]; rfl
  have h2 : a < H.size := (hP n _ hn').lt
  have h3 : b ≤ a := hD.2 n _ hn'
  rcases Nat.lt_or_ge a (b + n) with q | q
  · exfalso
    have h4 : a - b < n := by omega
    have h5 : (am_ws SH KF b aC n σ ++ [(a, en)])[a - b]? = some (b + (a - b), am_cell SH KF b aC σ (a - b)) := by
      rw [List.getElem?_append_left (by rw [am_ws_len]; exact h4), am_ws_at h4]
    have h6 := hD.1 (a - b) n _ _ h5 hn' (by show b + (a - b) = a; omega)
    omega
  · omega
theorem am_new_fs : ∀ (kds : List Nat), kds.all (fun kd => decide (kd < 4)) = true → ∀ (b : Nat) (ty : Nat → FieldType) (j : Nat), j < kds.length → (∀ k kd, kds[k]? = some kd → min kd 3 = am_tk (ty k)) → defaultValue (ty j) = vp_V ((am_fs kds (fun _ => 0) (fun _ => 0)).map (am_c b)) j := by
  intro kds hall b ty j hj hk
  have h1 : kds[j]? = some kds[j] := List.getElem?_eq_getElem hj
  have h2 := hk _ _ h1
  have h3 : kds[j] < 4 := by
    have := List.all_eq_true.mp hall kds[j] (List.getElem_mem hj)
    simpa using this
  have h4 : vp_V ((am_fs kds (fun _ => 0) (fun _ => 0)).map (am_c b)) j = am_c b (am_av kds[j] 0 0) := by
    unfold vp_V
    rw [List.getD_eq_getElem?_getD, List.getElem?_map, am_fs_at _ _ h1]
    rfl
  rw [h4]
  have h5 : kds[j] = 0 ∨ kds[j] = 1 ∨ kds[j] = 2 ∨ kds[j] = 3 := by omega
  rcases h5 with h5 | h5 | h5 | h5 <;> rw [h5] at h2 ⊢ <;> cases hty : ty j <;> rw [hty] at h2 <;> first | rfl | (simp [am_tk] at h2)
/-- the instructions that make cells -/
theorem am_make {i : Instr} {len pc : Nat} {ls : List (Option Value)} {stk : List Value} {n : Nat} {σ : am_S} {K : Nat → List (Option Value) → List Value → Nat → am_S → Prop} (C : am_C p l R s m args meth c cl TB NB D aC b n0 ne nL cc own X KQ) (hdg : decode cc pc = .ok (i, len))
    (hK : ∀ pc ls stk n σ, K pc ls stk n σ → am_A p l e R s m args below meth c cl D aC b n0 ne nL X KQ post pc ls stk n σ)
    (hbig : match i with
      | .newarray _ => True
      | .new _ => True
      | _ => False)
    (h : am_one X ne post i len pc ls stk n σ K) : am_A p l e R s m args below meth c cl D aC b n0 ne nL X KQ post pc ls stk n σ := by
  obtain ⟨hx, hb, hml, hown, hts, hnb, hKn, hlocks, hsz, hret, ⟨d, hd, hR, hO⟩, tyc, hG⟩ := C
  intro hn hne hlen H locs lc hP hS hl
  have hD : va_D (fun q => b ≤ q) (am_ws (am_SH X) (am_KF X) b aC n σ) := am_ws_D
  have hA : ∀ q, s.heap.size ≤ q → (fun q => b ≤ q) q := fun q hq => by show b ≤ q; omega
  cases i
  case newarray ty =>
    obtain ⟨x, r, rfl, h1, h2⟩ := am_1_iff h.2
    obtain ⟨q, hs, h3, h4, h5, h6, h7⟩ := am_arr_iff h2
    have hz : am_sz (am_SH X) (am_KF X) (n + 1) = am_sz (am_SH X) (am_KF X) n + q.2 := by simp [am_sz, hs]
    have hz1 : am_sz (am_SH X) (am_KF X) (n + 1) ≤ am_sz (am_SH X) (am_KF X) ne := am_sz_le (by omega)
    have hz2 : am_sz (am_SH X) (am_KF X) n0 ≤ am_sz (am_SH X) (am_KF X) n := am_sz_le hn
    have hsub : am_sz (am_SH X) (am_KF X) (n + 1) - am_sz (am_SH X) (am_KF X) n0 = am_sz (am_SH X) (am_KF X) n - am_sz (am_SH X) (am_KF X) n0 + q.2 := by omega
    refine va_newa (D := D) (cl := cl) (tys := am_tys aC) (ty := newarray.typeOf ty) (N' := q.2) (a0 := (q.2, if q.1 = 3 then .inr (.inl (fun _ => 0)) else .inl (fun _ => 0))) hx hb (hts _ (hG.2.2 _ _ h3)) rfl hKn hP hD hS hA ?_ h4 h5 ?_ (by rw [hR]; show _ ≤ ne - n0; omega) (by rw [hR]; show _ ≤ am_sz (am_SH X) (am_KF X) ne - am_sz (am_SH X) (am_KF X) n0; omega) (by rw [hdg, h.1]) (fun a cA H1 k1 p1 d1 s1 => ?_)
    · intro cA
      match hq1 : q.1, h3 with
      | 0, h3 => cases h3; rfl
      | 1, h3 => cases h3; rfl
      | 2, h3 => cases h3; rfl
      | 3, h3 => cases h3; rfl
      | k + 4, h3 => simp [am_ty] at h3
    · have : componentBytes (newarray.typeOf ty) ≤ 8 := by cases ty <;> decide
      exact Nat.le_trans (Nat.mul_le_mul (Nat.le_of_lt h6) this) (by decide)
    · refine am_addr p1 d1 hsz hn fun ha => ?_
      subst ha
      have hcA : cA = aC q.1 := by
        have e1 := (k1.2 4 (cA, newarray.typeOf ty) (by rfl)).2
        have e2 := (hKn.2 q.1 _ (am_nth h3)).2
        cases ty <;> exact Option.some.inj (e1.symm.trans e2)
      subst hcA
      have h8 := hK _ _ _ _ _ h7 (by omega) (by omega) hlen H1 locs lc
      rw [show n + 1 - n0 = n - n0 + 1 by omega, hsub] at h8
      refine h8 ?_ s1 hl
      rw [am_ws_push (τ := am_new σ n) ?_ (fun i hi => am_new_ne (by omega))] at p1
      · exact p1
      · simp only [am_cell, hs, am_new]
        by_cases h9 : q.1 = 3
        · simp [h9]
        · simp [h9]
  case new ix =>
    obtain ⟨h1, h2, h3⟩ := h
    obtain ⟨ci, h4, hs, h5, h6⟩ := am_opt_iff.mp h3
    obtain ⟨w, hc, hcl, hins, hini⟩ := hO.2.2.1 _ (am_find_mem h4)
    obtain ⟨w', hc', hlK, hkk⟩ := hG.2.1 _ _ hs
    have hww : w' = w := Option.some.inj (hc'.symm.trans hc)
    subst hww
    have hz : am_sz (am_SH X) (am_KF X) (n + 1) = am_sz (am_SH X) (am_KF X) n + w'.2.2 := by simp [am_sz, hs, hlK]
    have hz1 : am_sz (am_SH X) (am_KF X) (n + 1) ≤ am_sz (am_SH X) (am_KF X) ne := am_sz_le (by omega)
    have hz2 : am_sz (am_SH X) (am_KF X) n0 ≤ am_sz (am_SH X) (am_KF X) n := am_sz_le hn
    have hsub : am_sz (am_SH X) (am_KF X) (n + 1) - am_sz (am_SH X) (am_KF X) n0 = am_sz (am_SH X) (am_KF X) n - am_sz (am_SH X) (am_KF X) n0 + w'.2.2 := by omega
    refine va_new (D := D) (cl := cl) (ci := ci) (fs := (am_fs (am_KF X n) (fun _ => 0) (fun _ => 0)).map (am_c b)) (C := w'.1) (T := w'.2.1) (N := w'.2.2) hx hb hts (hG.1 _ _ hc).1 (tyc ci) (hG.1 _ _ hc).2.1 hown (hts _ hcl) (hts _ hins) (hts _ hini) hKn hP hD hS hA hc (fun j hj => am_new_fs _ h5 b (tyc ci) j (by rw [hlK]; exact hj) hkk) (by rw [hR]; show _ ≤ ne - n0; omega) (by rw [hR]; show _ ≤ am_sz (am_SH X) (am_KF X) ne - am_sz (am_SH X) (am_KF X) n0; omega) (by rw [hdg, h1]) (fun a H1 p1 d1 s1 => ?_)
    refine am_addr p1 d1 hsz hn fun ha => ?_
    subst ha
    have h8 := hK _ _ _ _ _ h6 (by omega) (by omega) hlen H1 locs lc
    rw [show n + 1 - n0 = n - n0 + 1 by omega, hsub] at h8
    refine h8 ?_ s1 hl
    rw [am_ws_push (τ := am_new σ n) ?_ (fun i hi => am_new_ne (by omega))] at p1
    · exact p1
    · simp only [am_cell, hs, am_new]
      simp
  all_goals exact False.elim hbig
end
end
section
section
variable {p : Program} {l : Launch} {e : Env} {R : Room} {s : State} {m : MethodId} {args : Array Value} {below : List Frame} {meth : Method} {c : Code} {cl : List vw_C} {TB NB : List Cond} {D : va_G} {aC : Nat → ClassId} {b n0 ne nL : Nat} {cc : ByteArray} {own : String} {X : am_X} {KQ : am_Kf} {post : Option Value → am_S → Prop}
theorem am_cats {b : Nat} (r : List Value) : ((r.map (am_c b)).map fun v => v.category) = r.map fun v => v.category := by
  rw [List.map_map]
  apply List.map_congr_left
  intro v _
  exact am_c_cat b v
theorem am_blind {SH : am_Sh} {KF : am_Kf} {n : Nat} {as : List Value} {σ : am_S} : FrameBlind (am_Pc cl NB SH KF D aC b n as σ) := fun a U g mk q => by
  obtain ⟨q0, q1, qP, qK, qN⟩ := q
  exact ⟨q0, q1, qP, va_K.moved (u := U) (U := U.calling g mk a) (Vm.Alike.refl U.vm) qK, fun a' i x h hm => va_Nw.same (u := U) (U := U.calling g mk a) rfl rfl (qN a' i x h hm)⟩
theorem am_pre {SH : am_Sh} {KF : am_Kf} {n : Nat} {as : List Value} {σ : am_S} {H : Heap} (hz : H.size = b + n) (hP : va_P D cl (am_ws SH KF b aC n σ) H) (hK : va_K D cl (am_tys aC) s) (hN : am_Nw NB s) : ∀ U : State, U.heap = H → s.WarmedH U.vm → am_Pc cl NB SH KF D aC b n as σ (as.map (am_c b)).toArray U :=
  fun U hU hW => ⟨rfl, by rw [hU]; exact hz, by rw [hU]; exact hP, va_K.moved hW.alike hK, fun a' i x h hm => (hN a' i x h hm).warmM hW⟩
theorem am_words (hts : ∀ w ∈ TB, w.before args s = true) {y : MethodName} {bytes : ByteArray} {maxL : Nat} {ret : Option FieldType} (hc : Cond.code y bytes maxL ret ∈ TB) : ∀ w ∈ Cond.code y bytes maxL ret :: am_gb TB, ∀ (a' : Array Value) (U : State), s.WarmedH U.vm → w.before a' U = true := by
  intro w hw a' U hW
  rcases List.mem_cons.mp hw with rfl | hw
  · exact word_at hW (Or.inl (by first | rfl | simp [Cond.onTables, Cond.keeps, Cond.steady])) (hts _ hc)
  · obtain ⟨h1, h2⟩ := List.mem_filter.mp hw
    exact word_at hW (good_of_word h2) (hts _ h1)
theorem am_code_in {y : MethodName} {bytes : ByteArray} {maxL : Nat} {ret : Option FieldType} : Cond.code y bytes maxL ret ∈ Cond.code y bytes maxL ret :: am_gb TB := List.mem_cons_self
theorem am_sig {y : MethodName} {na : Nat} (h : (parseMethodDescriptor y.desc).map (fun d => d.parameters.length) = some na) : ∀ sig, parseMethodDescriptor y.desc = some sig → na = sig.parameters.length := by
  intro sig hs
  rw [hs] at h
  exact (Option.some.inj h).symm
theorem am_rcV {kind cls n : Nat} {SH : am_Sh} {as : List Value} (h : am_rc kind cls n SH as) (h1 : ¬ kind = 1) (h4 : ¬ kind = 4) : ∃ o As, as = .ref o :: As ∧ o < n ∧ SH o = .inl cls := by
  unfold am_rc at h
  split at h
  · exact absurd rfl h1
  · exact absurd rfl h4
  · split at h
    · exact ⟨_, _, rfl, h.1, h.2⟩
    · exact h.elim
theorem am_split {stk : List Value} {k : Nat} {as : List Value} (h : (stk.take k).reverse = as) : stk = as.reverse ++ stk.drop k := by
  rw [← h, List.reverse_reverse, List.take_append_drop]
theorem am_len_as {stk : List Value} {k : Nat} (h : k ≤ stk.length) : (stk.take k).reverse.length = k := by
  rw [List.length_reverse, List.length_take]; omega
/-- the instructions that call -/
theorem am_callI {i : Instr} {len pc : Nat} {ls : List (Option Value)} {stk : List Value} {n : Nat} {σ : am_S} {K : Nat → List (Option Value) → List Value → Nat → am_S → Prop} (C : am_C p l R s m args meth c cl TB NB D aC b n0 ne nL cc own X KQ) (hdg : decode cc pc = .ok (i, len))
    (hK : ∀ pc ls stk n σ, K pc ls stk n σ → am_A p l e R s m args below meth c cl D aC b n0 ne nL X KQ post pc ls stk n σ)
    (hbig : match i with
      | .invokevirtual _ => True
      | .invokestatic _ => True
      | .invokespecial _ => True
      | _ => False)
    (h : am_one X ne post i len pc ls stk n σ K) : am_A p l e R s m args below meth c cl D aC b n0 ne nL X KQ post pc ls stk n σ := by
  obtain ⟨hx, hb, hml, hown, hts, hnb, hKn, hlocks, hsz, hret, ⟨d, hd, hR, hO⟩, tyc, hG⟩ := C
  intro hn hne hlen H locs lc hP hS hl
  have hfr1 : 1 ≤ R.frames := by rw [hR]; exact hd
  have hloc : 64 ≤ R.locals := by rw [hR]; show 64 ≤ 64 * d; omega
  have hcs : n - n0 ≤ R.cells := by rw [hR]; show n - n0 ≤ ne - n0; omega
  have hss : am_sz (am_SH X) (am_KF X) n - am_sz (am_SH X) (am_KF X) n0 ≤ R.slots := by rw [hR]; show _ ≤ am_sz (am_SH X) (am_KF X) ne - am_sz (am_SH X) (am_KF X) n0; have := am_sz_le (SH := am_SH X) (KF := am_KF X) hne; omega
  have fx : CallFix p m c cc nL s args TB own := ⟨hx, hb, hml, hown, hts⟩
  have hz2 : am_sz (am_SH X) (am_KF X) n0 ≤ am_sz (am_SH X) (am_KF X) n := am_sz_le hn
  refine am_size hP hS hsz hn rfl fun hzH => ?_
  -- a call that makes cells: what the caller's room has for it
  have room : ∀ mc ms : Nat, n + mc ≤ ne → am_sz (am_SH X) (am_KF X) (n + mc) = am_sz (am_SH X) (am_KF X) n + ms → n - n0 + mc ≤ R.cells ∧ am_sz (am_SH X) (am_KF X) n - am_sz (am_SH X) (am_KF X) n0 + ms ≤ R.slots := by
    intro mc ms g1 g2
    have := am_sz_le (SH := am_SH X) (KF := am_KF X) g1
    constructor
    · rw [hR]; show _ ≤ ne - n0; omega
    · rw [hR]; show _ ≤ am_sz (am_SH X) (am_KF X) ne - am_sz (am_SH X) (am_KF X) n0; omega
  have back : ∀ (mc ms k : Nat), n + mc ≤ ne → am_sz (am_SH X) (am_KF X) (n + mc) = am_sz (am_SH X) (am_KF X) n + ms → ∀ (v : Option Value) (τ : am_S) (H1 : Heap) (locs1 : List Loc), K (pc + 3) ls (v.toList ++ stk.drop k) (n + mc) τ → va_P D cl (am_ws (am_SH X) (am_KF X) b aC (n + mc) τ) H1 → va_S (fun q => b ≤ q) s.heap H1 locs1 →
      W p l e R s m args below meth c H1 locs1 (n - n0 + mc) (am_sz (am_SH X) (am_KF X) n - am_sz (am_SH X) (am_KF X) n0 + ms) (MQ below (am_Qc cl (am_SH X) KQ D aC b ne post) args s (ne - n0) (am_sz (am_SH X) (am_KF X) ne - am_sz (am_SH X) (am_KF X) n0) (fun q => b ≤ q)) (F0 m (pc + 3) lc ((v.map (am_c b)).toList ++ (stk.drop k).map (am_c b))) := by
    intro mc ms k g1 g2 v τ H1 locs1 g3 g4 g5
    have g6 := hK _ _ _ _ _ g3 (by omega) g1 hlen H1 locs1 lc g4 g5 hl
    rw [show n + mc - n0 = n - n0 + mc by omega, show am_sz (am_SH X) (am_KF X) (n + mc) - am_sz (am_SH X) (am_KF X) n0 = am_sz (am_SH X) (am_KF X) n - am_sz (am_SH X) (am_KF X) n0 + ms by omega] at g6
    have g7 : (v.toList ++ stk.drop k).map (am_c b) = (v.map (am_c b)).toList ++ (stk.drop k).map (am_c b) := by cases v <;> simp
    rw [g7] at g6
    exact g6
  cases i
  case invokevirtual ix =>
    obtain ⟨h0, h⟩ := h
    cases hN : am_find (am_NT X) ix with
    | some w =>
      rw [hN] at h
      exfalso
      have h : am_nat w 2 stk n (am_SH X) σ (fun st σ1 => K (pc + 3) ls st n σ1) := h
      unfold am_nat at h
      split at h <;> first | (rename_i e2; cases e2) | exact h
    | none =>
      rw [hN] at h
      obtain ⟨q, hq, h1, h2, h3, h4, h5, h6, h7⟩ := am_opt_iff.mp h
      obtain ⟨y, bytes, maxL, rt, dd, na, hM, hdd, hmx, hcode, hini, hd3, hkind⟩ := hO.2.2.2.2.2.2 _ (am_find_mem hq)
      obtain ⟨k, na1, cls, mc, ms, sp⟩ := q
      have hk : k = 0 := by
        have : k = 0 ∨ k = 3 := h1
        rcases this with z | z
        · exact z
        · subst z; exact hkind.elim
      subst hk
      obtain ⟨e1, hlink, hinst, r, hr, hsel⟩ := hkind
      obtain ⟨o, As, e2, ho, hso⟩ := am_rcV h3 (fun z => by cases (show (0 : Nat) = 1 from z)) (fun z => by cases (show (0 : Nat) = 4 from z))
      have e3 := am_split e2
      have hl3 := am_len_as h2
      rw [e2] at hl3
      have hstk : stk.map (am_c b) = (As.map (am_c b)).reverse ++ .ref (b + o) :: (stk.drop na1).map (am_c b) := by
        have e4 : stk.map (am_c b) = ((Value.ref o :: As).reverse ++ stk.drop na1).map (am_c b) := by rw [← e3]
        rw [e4]; simp [am_c]
      have hMet := hM D aC b n _ σ _ h7 h6
      rw [e2] at hMet
      rw [hstk]
      exact am_call (va_runV (As := As.map (am_c b)) (rest := (stk.drop na1).map (am_c b)) (C := r.1) (n := na) fx hMet ⟨⟨rfl, rfl, by rw [hR]; exact hdd, by rw [hR]; show 8 + (maxL + 11) + 64 * dd ≤ 64 * d; omega, am_words hts hcode, am_code_in, hts _ hcode, hts _ hini, ⟨hd3.1, hd3.2.1⟩, am_sig hd3.2.2, hts _ hlink⟩, hts _ hinst, hts _ hsel⟩
        ⟨am_blind, va_recv hKn hP hr (am_ws_obj ho hso), am_pre hzH hP hKn hnb⟩ rfl (by rw [List.length_map]; simp at hl3; simp at e1; omega) hl.1 rfl (lv_room (by rw [am_cats]; exact h4)) (by rw [hdg, h0]) (room _ _ h5 h6)) hS (back _ _ na1 h5 h6)
  case invokestatic ix =>
    obtain ⟨h0, h⟩ := h
    cases hN : am_find (am_NT X) ix with
    | some w =>
      rw [hN] at h
      have hNO := hO.2.2.2.2.2.1 _ (am_find_mem hN)
      have h : am_nat w 1 stk n (am_SH X) σ (fun st σ1 => K (pc + 3) ls st n σ1) := h
      unfold am_nat at h
      split at h
      · obtain ⟨x, y, r, rfl, h1, h2⟩ := am_2_iff h
        obtain ⟨g1, g2, g3, g4⟩ := hNO
        exact va_mmax hx hb (hml.trans hl.1.symm) hown (hts _ g1) (hts _ g2) (hts _ g3) (hts _ g4) hfr1 (by rw [am_cats]; omega) hcs hss (by rw [hdg, h0]) (hK _ _ _ _ _ h2 hn hne hlen H locs lc hP hS hl)
      · obtain ⟨x, y, r, rfl, h1, h2⟩ := am_2_iff h
        obtain ⟨g1, g2, g3, g4⟩ := hNO
        exact va_mmin hx hb (hml.trans hl.1.symm) hown (hts _ g1) (hts _ g2) (hts _ g3) (hts _ g4) hfr1 (by rw [am_cats]; omega) hcs hss (by rw [hdg, h0]) (hK _ _ _ _ _ h2 hn hne hlen H locs lc hP hS hl)
      · obtain ⟨x, r, rfl, h1, h2⟩ := am_1_iff h
        obtain ⟨g1, g2, g3, g4⟩ := hNO
        exact va_mabs hx hb (hml.trans hl.1.symm) hown (hts _ g1) (hts _ g2) (hts _ g3) (hts _ g4) hfr1 (by rw [am_cats]; omega) hcs hss (by rw [hdg, h0]) (hK _ _ _ _ _ h2 hn hne hlen H locs lc hP hS hl)
      · rename_i e2; cases e2
      · split at h
        · rename_i mm dp dst sp src r _
          obtain ⟨h1, h2, h3⟩ := h
          obtain ⟨q, hs, h4, h5⟩ := am_arr_iff h3
          obtain ⟨q2, hs2, h6, h7, h8, h9, h10, h11, h12, h13⟩ := am_arr_iff h5
          obtain ⟨g1, g2, g3, g4⟩ := hNO
          refine va_copyi (D := D) (cl := cl) (ty := .int) hx hb (hml.trans hl.1.symm) hown (hts _ g1) (hts _ g2) (hts _ g3) (hts _ g4) hKn hP am_ws_D hS src dst 0 0 (am_ws_arr h1 hs (by omega)) (am_ws_arr h2 hs2 (by omega)) (by rw [h4]; rfl) (by rw [h6]; rfl) rfl h7 h8 h9 h10 h11 (fun _ _ => rfl) hfr1 ?_ (by rw [hdg, h0]) (fun H1 locs1 p1 d1 s1 => ?_)
          · rw [am_cats]
            have : nativeFrameWords "java/lang/System" "arraycopy" 5 = 7 := by decide +kernel
            omega
          · rw [am_ws_set (τ := (fun o' k' => if o' = dst then va_cpy (σ.1 src) (σ.1 dst) sp.toNatClampNeg dp.toNatClampNeg mm.toNatClampNeg k' else σ.1 o' k', σ.2)) h2 ?_ ?_] at p1
            · exact hK _ _ _ _ _ h13 hn hne hlen H1 locs1 lc p1 s1 hl
            · simp [am_cell, hs2, h6]
            · intro i hi
              have e5 : (fun k' => if i = dst then va_cpy (σ.1 src) (σ.1 dst) sp.toNatClampNeg dp.toNatClampNeg mm.toNatClampNeg k' else σ.1 i k') = σ.1 i := by funext j; simp [hi]
              simp only [am_cell, e5]
        · exact h.elim
      · exact h.elim
    | none =>
      rw [hN] at h
      obtain ⟨q, hq, h1, h2, h3, h4, h5, h6, h7⟩ := am_opt_iff.mp h
      obtain ⟨y, bytes, maxL, rt, dd, na, hM, hdd, hmx, hcode, hini, hd3, hkind⟩ := hO.2.2.2.2.2.2 _ (am_find_mem hq)
      obtain ⟨k, na1, cls, mc, ms, sp⟩ := q
      have hl3 := am_len_as h2
      have e3 := am_split (stk := stk) (k := na1) rfl
      have hstk : stk.map (am_c b) = (((stk.take na1).reverse).map (am_c b)).reverse ++ (stk.drop na1).map (am_c b) := by
        have e4 : stk.map (am_c b) = (((stk.take na1).reverse).reverse ++ stk.drop na1).map (am_c b) := by rw [← e3]
        rw [e4, List.map_append, List.map_reverse]
      have hMet := hM D aC b n _ σ _ h7 h6
      have hk : k = 1 ∨ k = 4 := h1
      rcases hk with rfl | rfl
      · obtain ⟨e1, hlink, hstat⟩ := hkind
        rw [hstk]
        exact am_call (va_runS (As := ((stk.take na1).reverse).map (am_c b)) (rest := (stk.drop na1).map (am_c b)) (n := na) fx hMet ⟨⟨rfl, rfl, by rw [hR]; exact hdd, by rw [hR]; show 8 + (maxL + 11) + 64 * dd ≤ 64 * d; omega, am_words hts hcode, am_code_in, hts _ hcode, hts _ hini, ⟨hd3.1, hd3.2.1⟩, am_sig hd3.2.2, hts _ hlink⟩, hts _ hstat⟩
          ⟨am_blind, am_pre hzH hP hKn hnb⟩ rfl (by rw [List.length_map, hl3]; exact e1) hl.1 rfl (lv_room (by rw [am_cats]; exact h4)) (by rw [hdg, h0]) (room _ _ h5 h6)) hS (back _ _ na1 h5 h6)
      · obtain ⟨e1, ⟨host, hlink⟩, hstat⟩ := hkind
        rw [hstk]
        exact am_call (va_runSN (As := ((stk.take na1).reverse).map (am_c b)) (rest := (stk.drop na1).map (am_c b)) (n := na) fx hMet ⟨⟨⟨rfl, rfl, by rw [hR]; exact hdd, by rw [hR]; show 8 + (maxL + 11) + 64 * dd ≤ 64 * d; omega, am_words hts hcode, am_code_in⟩, hts _ hcode, hts _ hini, ⟨hd3.1, hd3.2.1⟩, am_sig hd3.2.2, va_Nw.use rfl (hnb _ _ _ _ hlink)⟩, hts _ hstat, trivial⟩
          ⟨am_blind, am_pre hzH hP hKn hnb⟩ rfl (by rw [List.length_map, hl3]; exact e1) hl.1 rfl (lv_room (by rw [am_cats]; exact h4)) (by rw [hdg, h0]) (room _ _ h5 h6)) hS (back _ _ na1 h5 h6)
  case invokespecial ix =>
    obtain ⟨h0, h⟩ := h
    cases hN : am_find (am_NT X) ix with
    | some w =>
      rw [hN] at h
      have hNO := hO.2.2.2.2.2.1 _ (am_find_mem hN)
      have h : am_nat w 0 stk n (am_SH X) σ (fun st σ1 => K (pc + 3) ls st n σ1) := h
      unfold am_nat at h
      split at h
      · rename_i e2; cases e2
      · rename_i e2; cases e2
      · rename_i e2; cases e2
      · obtain ⟨x, r, rfl, h1, h2⟩ := am_1a_iff h
        obtain ⟨g1, g2, g3⟩ := hNO
        refine W.objInit hx hb hown (hts _ g1) (hts _ g2) (hts _ g3) rfl (by rw [hml]; exact hl.1) rfl (by rw [hdg, h0]) hfr1 ?_ (hK _ _ _ _ _ h2 hn hne hlen H locs lc hP hS hl)
        show 2 * 0 + _ + 12 ≤ _
        rw [am_cats]
        omega
      · rename_i e2; cases e2
      · exact h.elim
    | none =>
      rw [hN] at h
      obtain ⟨q, hq, h1, h2, h3, h4, h5, h6, h7⟩ := am_opt_iff.mp h
      obtain ⟨y, bytes, maxL, rt, dd, na, hM, hdd, hmx, hcode, hini, hd3, hkind⟩ := hO.2.2.2.2.2.2 _ (am_find_mem hq)
      obtain ⟨k, na1, cls, mc, ms, sp⟩ := q
      have hk : k = 2 ∨ k = 5 := h1
      obtain ⟨o, As, e2, ho, hso⟩ := am_rcV h3 (fun z => by have z1 : k = 1 := z; omega) (fun z => by have z1 : k = 4 := z; omega)
      have e3 := am_split e2
      have hl3 := am_len_as h2
      rw [e2] at hl3
      have hstk : stk.map (am_c b) = (As.map (am_c b)).reverse ++ .ref (b + o) :: (stk.drop na1).map (am_c b) := by
        have e4 : stk.map (am_c b) = ((Value.ref o :: As).reverse ++ stk.drop na1).map (am_c b) := by rw [← e3]
        rw [e4]; simp [am_c]
      have hMet := hM D aC b n _ σ _ h7 h6
      rw [e2] at hMet
      rcases hk with rfl | rfl
      · obtain ⟨e1, hlink, hinst, hnm, rfl⟩ := hkind
        rw [hstk]
        exact am_call (va_runI (As := As.map (am_c b)) (rest := (stk.drop na1).map (am_c b)) (n := na) fx hMet ⟨⟨rfl, rfl, by rw [hR]; exact hdd, by rw [hR]; show 8 + (maxL + 11) + 64 * dd ≤ 64 * d; omega, am_words hts hcode, am_code_in, hts _ hcode, hts _ hini, ⟨hd3.1, hd3.2.1⟩, am_sig hd3.2.2, hts _ hlink⟩, hnm, hts _ hinst⟩
          ⟨am_blind, am_pre hzH hP hKn hnb⟩ rfl (by rw [List.length_map]; simp at hl3; simp at e1; omega) hl.1 rfl (lv_room (by rw [am_cats]; exact h4)) (by rw [hdg, h0]) (room _ _ h5 h6)) hS (back _ _ na1 h5 h6)
      · obtain ⟨e1, ⟨host, hlink⟩, hinst, hnm, rfl⟩ := hkind
        rw [hstk]
        exact am_call (va_runIN (As := As.map (am_c b)) (rest := (stk.drop na1).map (am_c b)) (n := na) fx hMet ⟨⟨⟨rfl, rfl, by rw [hR]; exact hdd, by rw [hR]; show 8 + (maxL + 11) + 64 * dd ≤ 64 * d; omega, am_words hts hcode, am_code_in⟩, hts _ hcode, hts _ hini, ⟨hd3.1, hd3.2.1⟩, am_sig hd3.2.2, va_Nw.use rfl (hnb _ _ _ _ hlink)⟩, hnm, hts _ hinst⟩
          ⟨am_blind, am_pre hzH hP hKn hnb⟩ rfl (by rw [List.length_map]; simp at hl3; simp at e1; omega) hl.1 rfl (lv_room (by rw [am_cats]; exact h4)) (by rw [hdg, h0]) (room _ _ h5 h6)) hS (back _ _ na1 h5 h6)
  all_goals exact False.elim hbig
end
end
section
/-- THE WORD OF A STRETCH OF CODE: f instructions at most; at a place of 'cuts' (and where f is used up) it asks for AA there, with the first j locals alone -/
def am_vc (cc : ByteArray) (X : am_X) (ne : Nat) (post : Option Value → am_S → Prop) (AA : Nat → List (Option Value) → List Value → Nat → am_S → Prop) (cuts : List (Nat × Nat)) : Nat → Nat → List (Option Value) → List Value → Nat → am_S → Prop
  | 0, pc, ls, stk, n, σ => AA pc ls stk n σ
  | f + 1, pc, ls, stk, n, σ => match decode cc pc with
    | .ok (i, len) => am_one X ne post i len pc ls stk n σ (fun pc' ls' stk' n' σ' => match am_find cuts pc' with
      | some j => AA pc' (am_mask j ls') stk' n' σ'
      | none => am_vc cc X ne post AA cuts f pc' ls' stk' n' σ')
    | .error _ => False
section
variable {p : Program} {l : Launch} {e : Env} {R : Room} {s : State} {m : MethodId} {args : Array Value} {below : List Frame} {meth : Method} {c : Code} {cl : List vw_C} {TB NB : List Cond} {D : va_G} {aC : Nat → ClassId} {b n0 ne nL : Nat} {cc : ByteArray} {own : String} {X : am_X} {KQ : am_Kf} {post : Option Value → am_S → Prop}
theorem am_one_ok {i : Instr} {len pc : Nat} {ls : List (Option Value)} {stk : List Value} {n : Nat} {σ : am_S} {K : Nat → List (Option Value) → List Value → Nat → am_S → Prop} (C : am_C p l R s m args meth c cl TB NB D aC b n0 ne nL cc own X KQ) (hdg : decode cc pc = .ok (i, len))
    (hK : ∀ pc ls stk n σ, K pc ls stk n σ → am_A p l e R s m args below meth c cl D aC b n0 ne nL X KQ post pc ls stk n σ)
    (h : am_one X ne post i len pc ls stk n σ K) : am_A p l e R s m args below meth c cl D aC b n0 ne nL X KQ post pc ls stk n σ := by
  cases i <;> first | exact am_simple C hdg hK trivial h | exact am_mem C hdg hK trivial h | exact am_make C hdg hK trivial h | exact am_callI C hdg hK trivial h
theorem am_A_mask {j pc : Nat} {ls : List (Option Value)} {stk : List Value} {n : Nat} {σ : am_S} (h : am_A p l e R s m args below meth c cl D aC b n0 ne nL X KQ post pc (am_mask j ls) stk n σ) : am_A p l e R s m args below meth c cl D aC b n0 ne nL X KQ post pc ls stk n σ :=
  fun h1 h2 h3 H locs lc hP hS hl => h h1 h2 (by rw [am_mask_len]; exact h3) H locs lc hP hS (am_lv_mask hl)
theorem am_vc_ok (C : am_C p l R s m args meth c cl TB NB D aC b n0 ne nL cc own X KQ) {cuts : List (Nat × Nat)} : ∀ (f pc : Nat) (ls : List (Option Value)) (stk : List Value) (n : Nat) (σ : am_S), am_vc cc X ne post (am_A p l e R s m args below meth c cl D aC b n0 ne nL X KQ post) cuts f pc ls stk n σ → am_A p l e R s m args below meth c cl D aC b n0 ne nL X KQ post pc ls stk n σ := by
  intro f
  induction f with
  | zero => intro pc ls stk n σ h; exact h
  | succ f ih =>
    intro pc ls stk n σ h
    unfold am_vc at h
    split at h
    · rename_i i len hdg
      refine am_one_ok C hdg (fun pc' ls' stk' n' σ' hh => ?_) h
      split at hh
      · exact am_A_mask hh
      · exact ih _ _ _ _ _ hh
    · exact h.elim
end
/-! a method's first locals -/
def am_sl : List Value → List (Option Value)
  | [] => []
  | v :: t => if v.category = 2 then some v :: none :: am_sl t else some v :: am_sl t
def am_entry (n : Nat) (as : List Value) : List (Option Value) := am_sl as ++ List.replicate (n - (am_sl as).length) none
theorem am_sl_len (b : Nat) : ∀ as : List Value, (lg_sl (as.map (am_c b))).length = (am_sl as).length
  | [] => rfl
  | v :: t => by
    have ih := am_sl_len b t
    simp only [lg_sl] at ih
    by_cases h : v.category = 2
    · simp [lg_sl, am_sl, am_c_cat, h, ih]
    · simp [lg_sl, am_sl, am_c_cat, h, ih]
theorem am_sl_args (b : Nat) : ∀ (as : List Value) (i k : Nat) (v : Value), (am_sl as)[k]? = some (some v) → (i + k, am_c b v) ∈ lv_args i (as.map (am_c b))
  | [], i, k, v, h => by simp [am_sl] at h
  | a :: t, i, k, v, h => by
    by_cases hc : a.category = 2
    · simp only [am_sl, hc, if_true] at h
      match k, h with
      | 0, h =>
        simp at h
        subst h
        simp [lv_args]
      | 1, h => simp at h
      | k + 2, h =>
        simp only [List.getElem?_cons_succ] at h
        have := am_sl_args b t (i + 2) k v h
        simp only [List.map_cons, lv_args, am_c_cat, hc, if_true]
        rw [show i + (k + 2) = i + 2 + k by omega]
        exact List.mem_cons_of_mem _ this
    · simp only [am_sl, hc, if_false] at h
      match k, h with
      | 0, h =>
        simp at h
        subst h
        simp [lv_args]
      | k + 1, h =>
        simp only [List.getElem?_cons_succ] at h
        have := am_sl_args b t (i + 1) k v h
        simp only [List.map_cons, lv_args, am_c_cat, hc, if_false]
        rw [show i + (k + 1) = i + 1 + k by omega]
        exact List.mem_cons_of_mem _ this
theorem am_entry_lv {b n : Nat} {as : List Value} {lc : Array Slot} (h : lv_has lc n (lv_args 0 (as.map (am_c b)))) : lv_has lc n (am_lv b (am_entry n as)) := by
  refine ⟨h.1, h.2.1, fun q hq => ?_⟩
  obtain ⟨v, h1, h2⟩ := am_lv_mem.mp hq
  apply h.2.2
  unfold am_entry at h1
  by_cases hk : q.1 < (am_sl as).length
  · rw [List.getElem?_append_left hk] at h1
    have := am_sl_args b as 0 q.1 v h1
    rw [Nat.zero_add, ← h2] at this
    exact this
  · rw [List.getElem?_append_right (by omega), List.getElem?_replicate] at h1
    split at h1 <;> simp at h1
/-- A CONTRACT OUT OF ITS WORD: all that is left of the machine is AA and that it is closed under am_vc -/
theorem am_M.of {l : Launch} {TB NB : List Cond} {cl : List vw_C} {SH : am_Sh} {KF : am_Kf} {y : MethodName} {cc : ByteArray} {maxL : Nat} {ret : Option FieldType} {d mc ms : Nat} {sp : am_Sp} (X : am_X) (hy : plainName y.cls = true) (hgood : ∀ w ∈ TB, goodWord w = true) (hG : ∃ tyc, am_G TB cl SH KF tyc) (hSH : am_SH X = SH) (hKF : am_KF X = KF) (hrt : am_rt X = ret) (hd : 1 ≤ d) (hO : am_O l TB NB cl y.cls y.name d X)
    (body : ∀ (n0 : Nat) (as : List Value) (σ : am_S) (post : Option Value → am_S → Prop) (AA : Nat → List (Option Value) → List Value → Nat → am_S → Prop), (∀ cuts f pc ls stk n τ, am_vc cc X (n0 + mc) post AA cuts f pc ls stk n τ → AA pc ls stk n τ) → sp as n0 σ post → (am_sl as).length ≤ maxL ∧ AA 0 (am_entry maxL as) [] n0 σ) : am_M l TB NB cl SH KF y cc maxL ret d mc ms sp := by
  subst hSH; subst hKF; subst hrt
  intro D aC b n0 as σ post hsp hszm
  refine Met.ofW (cc := cc) (maxL := maxL) (ret := am_rt X) hy rfl ?_
  intro p e s m args below meth c s₁ B hml hv
  obtain ⟨rfl, hsz, hP, hK, hN⟩ := hv
  have hts : ∀ w ∈ TB, w.before (as.map (am_c b)).toArray s = true := fun w hw => atoms_spec (ws := .code y cc maxL (am_rt X) :: am_gb TB) B.pre w (List.mem_cons_of_mem _ (List.mem_filter.mpr ⟨hw, hgood w hw⟩))
  have hown : s.vm.findClass y.cls = some m.cls := findClass_of_methodNamed B.named
  have hnm : meth.name = y.name := (name_of_methodNamed B.named B.method).1
  have C : am_C p l (am_rm d mc ms) s m (as.map (am_c b)).toArray meth c cl TB NB D aC b n0 (n0 + mc) maxL cc y.cls X (am_KF X) := ⟨B.exec, B.bytes, hml, hown, hts, hN, hK, B.notSynchronized, hsz, Or.inl ⟨B.returns, rfl⟩, ⟨d, hd, by rw [Nat.add_sub_cancel_left, hszm, Nat.add_sub_cancel_left], by rw [hnm]; exact hO⟩, hG⟩
  obtain ⟨h1, h2⟩ := body n0 as σ post _ (fun cuts f pc ls stk n τ h => am_vc_ok (e := e) (below := below) (cuts := cuts) C f pc ls stk n τ h) hsp
  have hl := lv_entry (as.map (am_c b)) (n := maxL) (by rw [am_sl_len]; exact h1)
  have h3 := h2 (Nat.le_refl _) (Nat.le_add_right _ _) (by simp [am_entry]; omega) s.heap [] _ hP va_S.rf (am_entry_lv hl)
  rw [Nat.sub_self, Nat.sub_self, Nat.add_sub_cancel_left, hszm, Nat.add_sub_cancel_left] at h3
  rw [lg_entry_eq]
  exact h3
/-! A CONSTRUCTOR: its fields change while it runs and stand behind it -/
/-- all that stands for good behind holds what it is to hold -/
def am_refs (Ka Kb : am_Kf) (n : Nat) (σ : am_S) : Prop := ∀ o, o < n → ∀ k kd, (Kb o)[k]? = some kd → (Ka o)[k]? = some kd ∨ ∃ t : Nat, kd = t + 4 ∧ (Ka o)[k]? = some 3 ∧ σ.1 o k = Int32.ofNat (t + 1) ∧ t < 1000000
theorem am_refs_ws {SH : am_Sh} {Ka Kb : am_Kf} (hlen : ∀ o, (Ka o).length = (Kb o).length) {b : Nat} {aC : Nat → ClassId} {n : Nat} {σ : am_S} (h : am_refs Ka Kb n σ) : am_ws SH Ka b aC n σ = am_ws SH Kb b aC n σ := by
  unfold am_ws
  apply List.map_congr_left
  intro i hi
  have hi := List.mem_range.mp hi
  have e : am_fs (Ka i) (σ.1 i) (σ.2 i) = am_fs (Kb i) (σ.1 i) (σ.2 i) := by
    apply List.ext_getElem?
    intro k
    cases hk : (Kb i)[k]? with
    | none => rw [List.getElem?_eq_none (by rw [am_fs_len, hlen]; exact List.getElem?_eq_none_iff.mp hk), List.getElem?_eq_none (by rw [am_fs_len]; exact List.getElem?_eq_none_iff.mp hk)]
    | some kd =>
      rw [am_fs_at _ _ hk]
      rcases h i hi k kd hk with h1 | ⟨t, rfl, h1, h2, h3⟩
      · rw [am_fs_at _ _ h1]
      · rw [am_fs_at _ _ h1, h2]
        have h4 : (Int32.ofNat (t + 1)).toNatClampNeg = t + 1 := nI_clamp (n := t + 1) (by omega)
        have h5 : ¬ Int32.ofNat (t + 1) = 0 := nI_ne0 (n := t + 1) (by omega) (by omega)
        show some (if Int32.ofNat (t + 1) = 0 then Value.null else Value.ref ((Int32.ofNat (t + 1)).toNatClampNeg - 1)) = _
        rw [if_neg h5, h4]
        rfl
  simp only [am_cell, e]
theorem am_sz_K {SH : am_Sh} {Ka Kb : am_Kf} (hlen : ∀ o, (Ka o).length = (Kb o).length) : ∀ n, am_sz SH Ka n = am_sz SH Kb n
  | 0 => rfl
  | n + 1 => by simp only [am_sz, am_sz_K hlen n, hlen]
def am_MS (l : Launch) (TB NB : List Cond) (cl : List vw_C) (SH : am_Sh) (Ka Kb : am_Kf) (y : MethodName) (cc : ByteArray) (maxL : Nat) (ret : Option FieldType) (d mc ms : Nat) (sp : am_Sp) : Prop :=
  ∀ (D : va_G) (aC : Nat → ClassId) (b n0 : Nat) (as : List Value) (σ : am_S) (post : Option Value → am_S → Prop), sp as n0 σ post → am_sz SH Ka (n0 + mc) = am_sz SH Ka n0 + ms →
    Met l y (.code y cc maxL ret :: am_gb TB) (am_rm d mc ms) (am_Pc cl NB SH Ka D aC b n0 as σ) (am_Qc cl SH Kb D aC b (n0 + mc) post) mc ms (fun q => b ≤ q)
theorem am_MS.of {l : Launch} {TB NB : List Cond} {cl : List vw_C} {SH : am_Sh} {Ka Kb : am_Kf} {y : MethodName} {cc : ByteArray} {maxL : Nat} {ret : Option FieldType} {d mc ms : Nat} {sp : am_Sp} (X Y : am_X) (hy : plainName y.cls = true) (hgood : ∀ w ∈ TB, goodWord w = true) (hG : ∃ tyc, am_G TB cl SH Ka tyc) (hG2 : ∃ tyc, am_G TB cl SH Kb tyc) (hlen : ∀ o, (Ka o).length = (Kb o).length) (hSH : am_SH X = SH) (hKF : am_KF X = Ka) (hrt : am_rt X = some .double) (hSH2 : am_SH Y = SH) (hKF2 : am_KF Y = Kb) (hrt2 : am_rt Y = ret) (hd : 1 ≤ d) (hO : am_O l TB NB cl y.cls y.name d X) (hO2 : am_O l TB NB cl y.cls y.name d Y)
    (body : ∀ (n0 : Nat) (as : List Value) (σ : am_S) (post : Option Value → am_S → Prop) (AA BB : Nat → List (Option Value) → List Value → Nat → am_S → Prop), (∀ cuts f pc ls stk n τ, am_vc cc X (n0 + mc) post AA cuts f pc ls stk n τ → AA pc ls stk n τ) → (∀ cuts f pc ls stk n τ, am_vc cc Y (n0 + mc) post BB cuts f pc ls stk n τ → BB pc ls stk n τ) → (∀ pc ls stk n τ, am_refs Ka Kb n τ → BB pc ls stk n τ → AA pc ls stk n τ) → sp as n0 σ post → (am_sl as).length ≤ maxL ∧ AA 0 (am_entry maxL as) [] n0 σ) : am_MS l TB NB cl SH Ka Kb y cc maxL ret d mc ms sp := by
  subst hSH; subst hKF; subst hrt2; subst hKF2
  intro D aC b n0 as σ post hsp hszm
  refine Met.ofW (cc := cc) (maxL := maxL) (ret := am_rt Y) hy rfl ?_
  intro p e s m args below meth c s₁ B hml hv
  obtain ⟨rfl, hsz, hP, hK, hN⟩ := hv
  have hts : ∀ w ∈ TB, w.before (as.map (am_c b)).toArray s = true := fun w hw => atoms_spec (ws := .code y cc maxL (am_rt Y) :: am_gb TB) B.pre w (List.mem_cons_of_mem _ (List.mem_filter.mpr ⟨hw, hgood w hw⟩))
  have hown : s.vm.findClass y.cls = some m.cls := findClass_of_methodNamed B.named
  have hnm : meth.name = y.name := (name_of_methodNamed B.named B.method).1
  have hszK := am_sz_K (SH := am_SH X) hlen
  have C : am_C p l (am_rm d mc ms) s m (as.map (am_c b)).toArray meth c cl TB NB D aC b n0 (n0 + mc) maxL cc y.cls X (am_KF Y) := ⟨B.exec, B.bytes, hml, hown, hts, hN, hK, B.notSynchronized, hsz, Or.inr hrt, ⟨d, hd, by rw [Nat.add_sub_cancel_left, hszm, Nat.add_sub_cancel_left], by rw [hnm]; exact hO⟩, hG⟩
  have C2 : am_C p l (am_rm d mc ms) s m (as.map (am_c b)).toArray meth c cl TB NB D aC b n0 (n0 + mc) maxL cc y.cls Y (am_KF Y) := ⟨B.exec, B.bytes, hml, hown, hts, hN, hK, B.notSynchronized, hsz, Or.inl ⟨B.returns, rfl⟩, ⟨d, hd, by rw [Nat.add_sub_cancel_left, hSH2, ← hszK, ← hszK, hszm, Nat.add_sub_cancel_left], by rw [hnm]; exact hO2⟩, by rw [hSH2]; exact hG2⟩
  obtain ⟨h1, h2⟩ := body n0 as σ post _ _ (fun cuts f pc ls stk n τ h => am_vc_ok (e := e) (below := below) (cuts := cuts) C f pc ls stk n τ h) (fun cuts f pc ls stk n τ h => am_vc_ok (e := e) (below := below) (cuts := cuts) C2 f pc ls stk n τ h) (fun pc ls stk n τ hr h q1 q2 q3 H locs lc hP hS hl => by
    have h3 := h q1 q2 q3 H locs lc (by rw [hSH2, ← am_refs_ws hlen hr]; exact hP) hS hl
    rw [hSH2, ← hszK, ← hszK, ← hszK] at h3
    exact h3) hsp
  have hl := lv_entry (as.map (am_c b)) (n := maxL) (by rw [am_sl_len]; exact h1)
  have h3 := h2 (Nat.le_refl _) (Nat.le_add_right _ _) (by simp [am_entry]; omega) s.heap [] _ hP va_S.rf (am_entry_lv hl)
  rw [Nat.sub_self, Nat.sub_self, Nat.add_sub_cancel_left, hszm, Nat.add_sub_cancel_left] at h3
  rw [lg_entry_eq]
  exact h3
end
section
/-- a method's body keeps its word -/
def am_B (cc : ByteArray) (X : am_X) (maxL mc : Nat) (sp : am_Sp) : Prop := ∀ (n0 : Nat) (as : List Value) (σ : am_S) (post : Option Value → am_S → Prop) (AA : Nat → List (Option Value) → List Value → Nat → am_S → Prop), (∀ cuts f pc ls stk n τ, am_vc cc X (n0 + mc) post AA cuts f pc ls stk n τ → AA pc ls stk n τ) → sp as n0 σ post → (am_sl as).length ≤ maxL ∧ AA 0 (am_entry maxL as) [] n0 σ
theorem am_tg_eq {pc t : Nat} {off : Int} {k : Nat → Prop} (h : (pc : Int) + off = (t : Int)) : am_tg pc off k = k t := by
  unfold am_tg
  rw [h]
  simp
theorem fv_0 : ((0 : Fin 4) : Nat) = 0 := rfl
theorem fv_1 : ((1 : Fin 4) : Nat) = 1 := rfl
theorem fv_2 : ((2 : Fin 4) : Nat) = 2 := rfl
theorem fv_3 : ((3 : Fin 4) : Nat) = 3 := rfl
theorem fw_0 : ((0 : Fin 2) : Nat) = 0 := rfl
theorem fw_1 : ((1 : Fin 2) : Nat) = 1 := rfl
/-! ints as whole numbers: Int32.ofInt z -/
theorem ii_0 : (0 : Int32) = Int32.ofInt 0 := rfl
theorem ii_1 : (1 : Int32) = Int32.ofInt 1 := rfl
theorem ii_add (a b : Int) : Int32.ofInt a + Int32.ofInt b = Int32.ofInt (a + b) := (Int32.ofInt_add a b).symm
theorem ii_sub (a b : Int) : Int32.ofInt a - Int32.ofInt b = Int32.ofInt (a - b) := (Int32.ofInt_sub a b).symm
theorem ii_mul (a b : Int) : Int32.ofInt a * Int32.ofInt b = Int32.ofInt (a * b) := (Int32.ofInt_mul a b).symm
theorem ii_t {a : Int} (h : -2147483648 ≤ a) (h2 : a < 2147483648) : (Int32.ofInt a).toInt = a := Int32.toInt_ofInt_of_le (by omega) (by omega)
theorem ii_lt {a b : Int} (h : -2147483648 ≤ a) (h2 : a < 2147483648) (h3 : -2147483648 ≤ b) (h4 : b < 2147483648) : (Int32.ofInt a < Int32.ofInt b) = (a < b) := by
  rw [Int32.lt_iff_toInt_lt, ii_t h h2, ii_t h3 h4]
theorem ii_le {a b : Int} (h : -2147483648 ≤ a) (h2 : a < 2147483648) (h3 : -2147483648 ≤ b) (h4 : b < 2147483648) : (Int32.ofInt a ≤ Int32.ofInt b) = (a ≤ b) := by
  rw [Int32.le_iff_toInt_le, ii_t h h2, ii_t h3 h4]
theorem ii_eq {a b : Int} (h : -2147483648 ≤ a) (h2 : a < 2147483648) (h3 : -2147483648 ≤ b) (h4 : b < 2147483648) : (Int32.ofInt a = Int32.ofInt b) = (a = b) := by
  rw [← Int32.toInt_inj, ii_t h h2, ii_t h3 h4]
theorem ii_c {a : Int} (h : 0 ≤ a) (h2 : a < 2147483648) : (Int32.ofInt a).toNatClampNeg = a.toNat := by
  show (Int32.ofInt a).toInt.toNat = _
  rw [ii_t (by omega) h2]
theorem ii_in {a : Int} {n : Nat} (h : -2147483648 ≤ a) (h2 : a < 2147483648) : vp_in (Int32.ofInt a) n = (0 ≤ a ∧ a < (n : Int)) := by
  rw [vp_in_iff, ii_t h h2]
theorem ii_of (x : Int32) : x = Int32.ofInt x.toInt := (Int32.ofInt_toInt x).symm
theorem ii_lo (x : Int32) : -2147483648 ≤ x.toInt := Int32.le_toInt x
theorem ii_hi (x : Int32) : x.toInt < 2147483648 := Int32.toInt_lt x
theorem pi_s (σ : am_S) (o k : Nat) (x : Int32) : (am_pi σ o k x).1 o k = x := by simp [am_pi]
theorem pi_n (σ : am_S) (o k : Nat) (x : Int32) {o' k' : Nat} (h : ¬ (o' = o ∧ k' = k)) : (am_pi σ o k x).1 o' k' = σ.1 o' k' := by simp [am_pi, h]
theorem pi_2 (σ : am_S) (o k : Nat) (x : Int32) : (am_pi σ o k x).2 = σ.2 := rfl
theorem pl_1 (σ : am_S) (o k : Nat) (x : Int64) : (am_pl σ o k x).1 = σ.1 := rfl
theorem pl_s (σ : am_S) (o k : Nat) (x : Int64) : (am_pl σ o k x).2 o k = x := by simp [am_pl]
theorem pl_n (σ : am_S) (o k : Nat) (x : Int64) {o' k' : Nat} (h : ¬ (o' = o ∧ k' = k)) : (am_pl σ o k x).2 o' k' = σ.2 o' k' := by simp [am_pl, h]
end
section
/-! NUMBERS: what each number is, in the order of making. Printed by wip/am/gen_glob.py. -/
def SHl : List (Nat ⊕ (Nat × Nat)) := [.inl 11, .inr (1, 2000), .inl 5, .inl 9, .inl 2, .inr (0, 408), .inr (0, 408), .inr (0, 4), .inr (0, 9), .inr (0, 24), .inr (0, 5), .inr (0, 5), .inr (0, 5), .inr (0, 5), .inl 8, .inr (3, 19), .inr (0, 402), .inr (0, 402), .inr (3, 402), .inr (3, 5), .inl 9, .inl 2, .inr (0, 408), .inr (0, 408), .inr (0, 4), .inr (0, 9), .inr (0, 24), .inr (0, 5), .inr (0, 5), .inr (0, 5), .inr (0, 5), .inl 4, .inr (0, 40), .inl 4, .inr (0, 40), .inl 7, .inr (0, 1600), .inr (0, 120), .inl 0, .inl 10, .inr (0, 12), .inr (0, 12), .inr (0, 12), .inl 3, .inl 1, .inr (0, 12), .inr (0, 5), .inl 6, .inr (0, 20), .inr (2, 20), .inr (0, 5), .inl 12, .inr (1, 2000), .inr (1, 2000), .inr (0, 403), .inr (0, 403), .inr (0, 403), .inr (3, 403), .inr (3, 19), .inr (3, 5), .inr (0, 2), .inr (0, 2), .inr (0, 10), .inr (0, 10), .inr (0, 10), .inr (0, 10), .inr (0, 2), .inr (0, 8), .inr (0, 8), .inr (2, 260), .inr (0, 260), .inr (0, 260), .inr (0, 260), .inr (0, 260), .inr (0, 840), .inr (0, 840), .inr (0, 64), .inr (0, 9), .inr (0, 400), .inr (0, 51), .inr (0, 51), .inr (0, 2040), .inr (0, 5), .inr (2, 144), .inr (2, 144), .inr (0, 5), .inr (0, 5), .inr (0, 32), .inr (0, 20), .inr (2, 20), .inr (2, 3), .inr (0, 153)]
def SH : am_Sh := fun o => SHl.getD o (.inr (0, 0))
def K1l : List (List Nat) := [[3, 0, 0, 3, 3, 3, 3, 3, 3, 3, 3, 3, 3, 3], [], [3, 3, 3, 0, 0, 0, 1, 0, 0, 0, 0], [0, 0, 0, 3, 3, 3, 3, 3], [3, 3, 3, 3, 3, 0], [], [], [], [], [], [], [], [], [], [3, 3, 3, 3, 0], [], [], [], [], [], [0, 0, 0, 3, 3, 3, 3, 3], [3, 3, 3, 3, 3, 0], [], [], [], [], [], [], [], [], [], [3], [], [3], [], [3, 3, 0, 0, 0], [], [], [3, 3], [3, 3, 3, 3, 3], [], [], [], [3, 3], [3, 3, 3, 3], [], [], [3, 3, 3, 0], [], [], [], [0, 3, 0, 3, 0, 3, 3, 3, 3, 3, 0, 0, 0, 0, 0, 0, 0, 0, 0, 0, 0, 3, 3, 3, 3, 3, 3, 3, 3, 3, 3, 0, 3, 3, 3, 3, 3, 0, 3, 3, 3, 0, 3, 3, 2, 3, 3, 0, 2, 0, 3, 3, 3, 3, 0, 3, 3, 3, 0, 3, 3, 3, 3], [], [], [], [], [], [], [], [], [], [], [], [], [], [], [], [], [], [], [], [], [], [], [], [], [], [], [], [], [], [], [], [], [], [], [], [], [], [], [], []]
def K1 : am_Kf := fun o => K1l.getD o []
def KFl : List (List Nat) := [[5, 0, 0, 6, 24, 35, 37, 39, 42, 43, 47, 48, 51, 54], [], [7, 18, 23, 0, 0, 0, 1, 0, 0, 0, 0], [0, 0, 0, 8, 14, 15, 16, 17], [9, 10, 11, 12, 13, 0], [], [], [], [], [], [], [], [], [], [19, 20, 21, 22, 0], [], [], [], [], [], [0, 0, 0, 25, 31, 32, 33, 34], [26, 27, 28, 29, 30, 0], [], [], [], [], [], [], [], [], [], [36], [], [38], [], [40, 41, 0, 0, 0], [], [], [24, 25], [24, 42, 44, 3, 3], [], [], [], [24, 42], [24, 42, 49, 50], [], [], [24, 52, 53, 0], [], [], [], [0, 56, 0, 57, 0, 58, 59, 60, 61, 62, 0, 0, 0, 0, 0, 0, 0, 0, 0, 0, 0, 63, 64, 65, 66, 67, 68, 69, 70, 71, 72, 0, 73, 74, 75, 76, 77, 0, 78, 79, 80, 0, 81, 82, 2, 83, 84, 0, 2, 0, 85, 86, 87, 88, 0, 89, 90, 91, 0, 92, 93, 94, 95], [], [], [], [], [], [], [], [], [], [], [], [], [], [], [], [], [], [], [], [], [], [], [], [], [], [], [], [], [], [], [], [], [], [], [], [], [], [], [], []]
def KF : am_Kf := fun o => KFl.getD o []
theorem SH_0 : SH 0 = .inl 11 := rfl
theorem SH_1 : SH 1 = .inr (1, 2000) := rfl
theorem SH_2 : SH 2 = .inl 5 := rfl
theorem SH_3 : SH 3 = .inl 9 := rfl
theorem SH_4 : SH 4 = .inl 2 := rfl
theorem SH_5 : SH 5 = .inr (0, 408) := rfl
theorem SH_6 : SH 6 = .inr (0, 408) := rfl
theorem SH_7 : SH 7 = .inr (0, 4) := rfl
theorem SH_8 : SH 8 = .inr (0, 9) := rfl
theorem SH_9 : SH 9 = .inr (0, 24) := rfl
theorem SH_10 : SH 10 = .inr (0, 5) := rfl
theorem SH_11 : SH 11 = .inr (0, 5) := rfl
theorem SH_12 : SH 12 = .inr (0, 5) := rfl
theorem SH_13 : SH 13 = .inr (0, 5) := rfl
theorem SH_14 : SH 14 = .inl 8 := rfl
theorem SH_15 : SH 15 = .inr (3, 19) := rfl
theorem SH_16 : SH 16 = .inr (0, 402) := rfl
theorem SH_17 : SH 17 = .inr (0, 402) := rfl
theorem SH_18 : SH 18 = .inr (3, 402) := rfl
theorem SH_19 : SH 19 = .inr (3, 5) := rfl
theorem SH_20 : SH 20 = .inl 9 := rfl
theorem SH_21 : SH 21 = .inl 2 := rfl
theorem SH_22 : SH 22 = .inr (0, 408) := rfl
theorem SH_23 : SH 23 = .inr (0, 408) := rfl
theorem SH_24 : SH 24 = .inr (0, 4) := rfl
theorem SH_25 : SH 25 = .inr (0, 9) := rfl
theorem SH_26 : SH 26 = .inr (0, 24) := rfl
theorem SH_27 : SH 27 = .inr (0, 5) := rfl
theorem SH_28 : SH 28 = .inr (0, 5) := rfl
theorem SH_29 : SH 29 = .inr (0, 5) := rfl
theorem SH_30 : SH 30 = .inr (0, 5) := rfl
theorem SH_31 : SH 31 = .inl 4 := rfl
theorem SH_32 : SH 32 = .inr (0, 40) := rfl
theorem SH_33 : SH 33 = .inl 4 := rfl
theorem SH_34 : SH 34 = .inr (0, 40) := rfl
theorem SH_35 : SH 35 = .inl 7 := rfl
theorem SH_36 : SH 36 = .inr (0, 1600) := rfl
theorem SH_37 : SH 37 = .inr (0, 120) := rfl
theorem SH_38 : SH 38 = .inl 0 := rfl
theorem SH_39 : SH 39 = .inl 10 := rfl
theorem SH_40 : SH 40 = .inr (0, 12) := rfl
theorem SH_41 : SH 41 = .inr (0, 12) := rfl
theorem SH_42 : SH 42 = .inr (0, 12) := rfl
theorem SH_43 : SH 43 = .inl 3 := rfl
theorem SH_44 : SH 44 = .inl 1 := rfl
theorem SH_45 : SH 45 = .inr (0, 12) := rfl
theorem SH_46 : SH 46 = .inr (0, 5) := rfl
theorem SH_47 : SH 47 = .inl 6 := rfl
theorem SH_48 : SH 48 = .inr (0, 20) := rfl
theorem SH_49 : SH 49 = .inr (2, 20) := rfl
theorem SH_50 : SH 50 = .inr (0, 5) := rfl
theorem SH_51 : SH 51 = .inl 12 := rfl
theorem SH_52 : SH 52 = .inr (1, 2000) := rfl
theorem SH_53 : SH 53 = .inr (1, 2000) := rfl
theorem SH_54 : SH 54 = .inr (0, 403) := rfl
theorem SH_55 : SH 55 = .inr (0, 403) := rfl
theorem SH_56 : SH 56 = .inr (0, 403) := rfl
theorem SH_57 : SH 57 = .inr (3, 403) := rfl
theorem SH_58 : SH 58 = .inr (3, 19) := rfl
theorem SH_59 : SH 59 = .inr (3, 5) := rfl
theorem SH_60 : SH 60 = .inr (0, 2) := rfl
theorem SH_61 : SH 61 = .inr (0, 2) := rfl
theorem SH_62 : SH 62 = .inr (0, 10) := rfl
theorem SH_63 : SH 63 = .inr (0, 10) := rfl
theorem SH_64 : SH 64 = .inr (0, 10) := rfl
theorem SH_65 : SH 65 = .inr (0, 10) := rfl
theorem SH_66 : SH 66 = .inr (0, 2) := rfl
theorem SH_67 : SH 67 = .inr (0, 8) := rfl
theorem SH_68 : SH 68 = .inr (0, 8) := rfl
theorem SH_69 : SH 69 = .inr (2, 260) := rfl
theorem SH_70 : SH 70 = .inr (0, 260) := rfl
theorem SH_71 : SH 71 = .inr (0, 260) := rfl
theorem SH_72 : SH 72 = .inr (0, 260) := rfl
theorem SH_73 : SH 73 = .inr (0, 260) := rfl
theorem SH_74 : SH 74 = .inr (0, 840) := rfl
theorem SH_75 : SH 75 = .inr (0, 840) := rfl
theorem SH_76 : SH 76 = .inr (0, 64) := rfl
theorem SH_77 : SH 77 = .inr (0, 9) := rfl
theorem SH_78 : SH 78 = .inr (0, 400) := rfl
theorem SH_79 : SH 79 = .inr (0, 51) := rfl
theorem SH_80 : SH 80 = .inr (0, 51) := rfl
theorem SH_81 : SH 81 = .inr (0, 2040) := rfl
theorem SH_82 : SH 82 = .inr (0, 5) := rfl
theorem SH_83 : SH 83 = .inr (2, 144) := rfl
theorem SH_84 : SH 84 = .inr (2, 144) := rfl
theorem SH_85 : SH 85 = .inr (0, 5) := rfl
theorem SH_86 : SH 86 = .inr (0, 5) := rfl
theorem SH_87 : SH 87 = .inr (0, 32) := rfl
theorem SH_88 : SH 88 = .inr (0, 20) := rfl
theorem SH_89 : SH 89 = .inr (2, 20) := rfl
theorem SH_90 : SH 90 = .inr (2, 3) := rfl
theorem SH_91 : SH 91 = .inr (0, 153) := rfl
theorem K1_0_0 : (K1 0)[0]? = some 3 := rfl
theorem K1_0_1 : (K1 0)[1]? = some 0 := rfl
theorem K1_0_2 : (K1 0)[2]? = some 0 := rfl
theorem K1_0_3 : (K1 0)[3]? = some 3 := rfl
theorem K1_0_4 : (K1 0)[4]? = some 3 := rfl
theorem K1_0_5 : (K1 0)[5]? = some 3 := rfl
theorem K1_0_6 : (K1 0)[6]? = some 3 := rfl
theorem K1_0_7 : (K1 0)[7]? = some 3 := rfl
theorem K1_0_8 : (K1 0)[8]? = some 3 := rfl
theorem K1_0_9 : (K1 0)[9]? = some 3 := rfl
theorem K1_0_10 : (K1 0)[10]? = some 3 := rfl
theorem K1_0_11 : (K1 0)[11]? = some 3 := rfl
theorem K1_0_12 : (K1 0)[12]? = some 3 := rfl
theorem K1_0_13 : (K1 0)[13]? = some 3 := rfl
theorem KF_0_0 : (KF 0)[0]? = some 5 := rfl
theorem KF_0_1 : (KF 0)[1]? = some 0 := rfl
theorem KF_0_2 : (KF 0)[2]? = some 0 := rfl
theorem KF_0_3 : (KF 0)[3]? = some 6 := rfl
theorem KF_0_4 : (KF 0)[4]? = some 24 := rfl
theorem KF_0_5 : (KF 0)[5]? = some 35 := rfl
theorem KF_0_6 : (KF 0)[6]? = some 37 := rfl
theorem KF_0_7 : (KF 0)[7]? = some 39 := rfl
theorem KF_0_8 : (KF 0)[8]? = some 42 := rfl
theorem KF_0_9 : (KF 0)[9]? = some 43 := rfl
theorem KF_0_10 : (KF 0)[10]? = some 47 := rfl
theorem KF_0_11 : (KF 0)[11]? = some 48 := rfl
theorem KF_0_12 : (KF 0)[12]? = some 51 := rfl
theorem KF_0_13 : (KF 0)[13]? = some 54 := rfl
theorem K1_2_0 : (K1 2)[0]? = some 3 := rfl
theorem K1_2_1 : (K1 2)[1]? = some 3 := rfl
theorem K1_2_2 : (K1 2)[2]? = some 3 := rfl
theorem K1_2_3 : (K1 2)[3]? = some 0 := rfl
theorem K1_2_4 : (K1 2)[4]? = some 0 := rfl
theorem K1_2_5 : (K1 2)[5]? = some 0 := rfl
theorem K1_2_6 : (K1 2)[6]? = some 1 := rfl
theorem K1_2_7 : (K1 2)[7]? = some 0 := rfl
theorem K1_2_8 : (K1 2)[8]? = some 0 := rfl
theorem K1_2_9 : (K1 2)[9]? = some 0 := rfl
theorem K1_2_10 : (K1 2)[10]? = some 0 := rfl
theorem KF_2_0 : (KF 2)[0]? = some 7 := rfl
theorem KF_2_1 : (KF 2)[1]? = some 18 := rfl
theorem KF_2_2 : (KF 2)[2]? = some 23 := rfl
theorem KF_2_3 : (KF 2)[3]? = some 0 := rfl
theorem KF_2_4 : (KF 2)[4]? = some 0 := rfl
theorem KF_2_5 : (KF 2)[5]? = some 0 := rfl
theorem KF_2_6 : (KF 2)[6]? = some 1 := rfl
theorem KF_2_7 : (KF 2)[7]? = some 0 := rfl
theorem KF_2_8 : (KF 2)[8]? = some 0 := rfl
theorem KF_2_9 : (KF 2)[9]? = some 0 := rfl
theorem KF_2_10 : (KF 2)[10]? = some 0 := rfl
theorem K1_3_0 : (K1 3)[0]? = some 0 := rfl
theorem K1_3_1 : (K1 3)[1]? = some 0 := rfl
theorem K1_3_2 : (K1 3)[2]? = some 0 := rfl
theorem K1_3_3 : (K1 3)[3]? = some 3 := rfl
theorem K1_3_4 : (K1 3)[4]? = some 3 := rfl
theorem K1_3_5 : (K1 3)[5]? = some 3 := rfl
theorem K1_3_6 : (K1 3)[6]? = some 3 := rfl
theorem K1_3_7 : (K1 3)[7]? = some 3 := rfl
theorem KF_3_0 : (KF 3)[0]? = some 0 := rfl
theorem KF_3_1 : (KF 3)[1]? = some 0 := rfl
theorem KF_3_2 : (KF 3)[2]? = some 0 := rfl
theorem KF_3_3 : (KF 3)[3]? = some 8 := rfl
theorem KF_3_4 : (KF 3)[4]? = some 14 := rfl
theorem KF_3_5 : (KF 3)[5]? = some 15 := rfl
theorem KF_3_6 : (KF 3)[6]? = some 16 := rfl
theorem KF_3_7 : (KF 3)[7]? = some 17 := rfl
theorem K1_4_0 : (K1 4)[0]? = some 3 := rfl
theorem K1_4_1 : (K1 4)[1]? = some 3 := rfl
theorem K1_4_2 : (K1 4)[2]? = some 3 := rfl
theorem K1_4_3 : (K1 4)[3]? = some 3 := rfl
theorem K1_4_4 : (K1 4)[4]? = some 3 := rfl
theorem K1_4_5 : (K1 4)[5]? = some 0 := rfl
theorem KF_4_0 : (KF 4)[0]? = some 9 := rfl
theorem KF_4_1 : (KF 4)[1]? = some 10 := rfl
theorem KF_4_2 : (KF 4)[2]? = some 11 := rfl
theorem KF_4_3 : (KF 4)[3]? = some 12 := rfl
theorem KF_4_4 : (KF 4)[4]? = some 13 := rfl
theorem KF_4_5 : (KF 4)[5]? = some 0 := rfl
theorem K1_14_0 : (K1 14)[0]? = some 3 := rfl
theorem K1_14_1 : (K1 14)[1]? = some 3 := rfl
theorem K1_14_2 : (K1 14)[2]? = some 3 := rfl
theorem K1_14_3 : (K1 14)[3]? = some 3 := rfl
theorem K1_14_4 : (K1 14)[4]? = some 0 := rfl
theorem KF_14_0 : (KF 14)[0]? = some 19 := rfl
theorem KF_14_1 : (KF 14)[1]? = some 20 := rfl
theorem KF_14_2 : (KF 14)[2]? = some 21 := rfl
theorem KF_14_3 : (KF 14)[3]? = some 22 := rfl
theorem KF_14_4 : (KF 14)[4]? = some 0 := rfl
theorem K1_20_0 : (K1 20)[0]? = some 0 := rfl
theorem K1_20_1 : (K1 20)[1]? = some 0 := rfl
theorem K1_20_2 : (K1 20)[2]? = some 0 := rfl
theorem K1_20_3 : (K1 20)[3]? = some 3 := rfl
theorem K1_20_4 : (K1 20)[4]? = some 3 := rfl
theorem K1_20_5 : (K1 20)[5]? = some 3 := rfl
theorem K1_20_6 : (K1 20)[6]? = some 3 := rfl
theorem K1_20_7 : (K1 20)[7]? = some 3 := rfl
theorem KF_20_0 : (KF 20)[0]? = some 0 := rfl
theorem KF_20_1 : (KF 20)[1]? = some 0 := rfl
theorem KF_20_2 : (KF 20)[2]? = some 0 := rfl
theorem KF_20_3 : (KF 20)[3]? = some 25 := rfl
theorem KF_20_4 : (KF 20)[4]? = some 31 := rfl
theorem KF_20_5 : (KF 20)[5]? = some 32 := rfl
theorem KF_20_6 : (KF 20)[6]? = some 33 := rfl
theorem KF_20_7 : (KF 20)[7]? = some 34 := rfl
theorem K1_21_0 : (K1 21)[0]? = some 3 := rfl
theorem K1_21_1 : (K1 21)[1]? = some 3 := rfl
theorem K1_21_2 : (K1 21)[2]? = some 3 := rfl
theorem K1_21_3 : (K1 21)[3]? = some 3 := rfl
theorem K1_21_4 : (K1 21)[4]? = some 3 := rfl
theorem K1_21_5 : (K1 21)[5]? = some 0 := rfl
theorem KF_21_0 : (KF 21)[0]? = some 26 := rfl
theorem KF_21_1 : (KF 21)[1]? = some 27 := rfl
theorem KF_21_2 : (KF 21)[2]? = some 28 := rfl
theorem KF_21_3 : (KF 21)[3]? = some 29 := rfl
theorem KF_21_4 : (KF 21)[4]? = some 30 := rfl
theorem KF_21_5 : (KF 21)[5]? = some 0 := rfl
theorem K1_31_0 : (K1 31)[0]? = some 3 := rfl
theorem KF_31_0 : (KF 31)[0]? = some 36 := rfl
theorem K1_33_0 : (K1 33)[0]? = some 3 := rfl
theorem KF_33_0 : (KF 33)[0]? = some 38 := rfl
theorem K1_35_0 : (K1 35)[0]? = some 3 := rfl
theorem K1_35_1 : (K1 35)[1]? = some 3 := rfl
theorem K1_35_2 : (K1 35)[2]? = some 0 := rfl
theorem K1_35_3 : (K1 35)[3]? = some 0 := rfl
theorem K1_35_4 : (K1 35)[4]? = some 0 := rfl
theorem KF_35_0 : (KF 35)[0]? = some 40 := rfl
theorem KF_35_1 : (KF 35)[1]? = some 41 := rfl
theorem KF_35_2 : (KF 35)[2]? = some 0 := rfl
theorem KF_35_3 : (KF 35)[3]? = some 0 := rfl
theorem KF_35_4 : (KF 35)[4]? = some 0 := rfl
theorem K1_38_0 : (K1 38)[0]? = some 3 := rfl
theorem K1_38_1 : (K1 38)[1]? = some 3 := rfl
theorem KF_38_0 : (KF 38)[0]? = some 24 := rfl
theorem KF_38_1 : (KF 38)[1]? = some 25 := rfl
theorem K1_39_0 : (K1 39)[0]? = some 3 := rfl
theorem K1_39_1 : (K1 39)[1]? = some 3 := rfl
theorem K1_39_2 : (K1 39)[2]? = some 3 := rfl
theorem K1_39_3 : (K1 39)[3]? = some 3 := rfl
theorem K1_39_4 : (K1 39)[4]? = some 3 := rfl
theorem KF_39_0 : (KF 39)[0]? = some 24 := rfl
theorem KF_39_1 : (KF 39)[1]? = some 42 := rfl
theorem KF_39_2 : (KF 39)[2]? = some 44 := rfl
theorem KF_39_3 : (KF 39)[3]? = some 3 := rfl
theorem KF_39_4 : (KF 39)[4]? = some 3 := rfl
theorem K1_43_0 : (K1 43)[0]? = some 3 := rfl
theorem K1_43_1 : (K1 43)[1]? = some 3 := rfl
theorem KF_43_0 : (KF 43)[0]? = some 24 := rfl
theorem KF_43_1 : (KF 43)[1]? = some 42 := rfl
theorem K1_44_0 : (K1 44)[0]? = some 3 := rfl
theorem K1_44_1 : (K1 44)[1]? = some 3 := rfl
theorem K1_44_2 : (K1 44)[2]? = some 3 := rfl
theorem K1_44_3 : (K1 44)[3]? = some 3 := rfl
theorem KF_44_0 : (KF 44)[0]? = some 24 := rfl
theorem KF_44_1 : (KF 44)[1]? = some 42 := rfl
theorem KF_44_2 : (KF 44)[2]? = some 49 := rfl
theorem KF_44_3 : (KF 44)[3]? = some 50 := rfl
theorem K1_47_0 : (K1 47)[0]? = some 3 := rfl
theorem K1_47_1 : (K1 47)[1]? = some 3 := rfl
theorem K1_47_2 : (K1 47)[2]? = some 3 := rfl
theorem K1_47_3 : (K1 47)[3]? = some 0 := rfl
theorem KF_47_0 : (KF 47)[0]? = some 24 := rfl
theorem KF_47_1 : (KF 47)[1]? = some 52 := rfl
theorem KF_47_2 : (KF 47)[2]? = some 53 := rfl
theorem KF_47_3 : (KF 47)[3]? = some 0 := rfl
theorem K1_51_0 : (K1 51)[0]? = some 0 := rfl
theorem K1_51_1 : (K1 51)[1]? = some 3 := rfl
theorem K1_51_2 : (K1 51)[2]? = some 0 := rfl
theorem K1_51_3 : (K1 51)[3]? = some 3 := rfl
theorem K1_51_4 : (K1 51)[4]? = some 0 := rfl
theorem K1_51_5 : (K1 51)[5]? = some 3 := rfl
theorem K1_51_6 : (K1 51)[6]? = some 3 := rfl
theorem K1_51_7 : (K1 51)[7]? = some 3 := rfl
theorem K1_51_8 : (K1 51)[8]? = some 3 := rfl
theorem K1_51_9 : (K1 51)[9]? = some 3 := rfl
theorem K1_51_10 : (K1 51)[10]? = some 0 := rfl
theorem K1_51_11 : (K1 51)[11]? = some 0 := rfl
theorem K1_51_12 : (K1 51)[12]? = some 0 := rfl
theorem K1_51_13 : (K1 51)[13]? = some 0 := rfl
theorem K1_51_14 : (K1 51)[14]? = some 0 := rfl
theorem K1_51_15 : (K1 51)[15]? = some 0 := rfl
theorem K1_51_16 : (K1 51)[16]? = some 0 := rfl
theorem K1_51_17 : (K1 51)[17]? = some 0 := rfl
theorem K1_51_18 : (K1 51)[18]? = some 0 := rfl
theorem K1_51_19 : (K1 51)[19]? = some 0 := rfl
theorem K1_51_20 : (K1 51)[20]? = some 0 := rfl
theorem K1_51_21 : (K1 51)[21]? = some 3 := rfl
theorem K1_51_22 : (K1 51)[22]? = some 3 := rfl
theorem K1_51_23 : (K1 51)[23]? = some 3 := rfl
theorem K1_51_24 : (K1 51)[24]? = some 3 := rfl
theorem K1_51_25 : (K1 51)[25]? = some 3 := rfl
theorem K1_51_26 : (K1 51)[26]? = some 3 := rfl
theorem K1_51_27 : (K1 51)[27]? = some 3 := rfl
theorem K1_51_28 : (K1 51)[28]? = some 3 := rfl
theorem K1_51_29 : (K1 51)[29]? = some 3 := rfl
theorem K1_51_30 : (K1 51)[30]? = some 3 := rfl
theorem K1_51_31 : (K1 51)[31]? = some 0 := rfl
theorem K1_51_32 : (K1 51)[32]? = some 3 := rfl
theorem K1_51_33 : (K1 51)[33]? = some 3 := rfl
theorem K1_51_34 : (K1 51)[34]? = some 3 := rfl
theorem K1_51_35 : (K1 51)[35]? = some 3 := rfl
theorem K1_51_36 : (K1 51)[36]? = some 3 := rfl
theorem K1_51_37 : (K1 51)[37]? = some 0 := rfl
theorem K1_51_38 : (K1 51)[38]? = some 3 := rfl
theorem K1_51_39 : (K1 51)[39]? = some 3 := rfl
theorem K1_51_40 : (K1 51)[40]? = some 3 := rfl
theorem K1_51_41 : (K1 51)[41]? = some 0 := rfl
theorem K1_51_42 : (K1 51)[42]? = some 3 := rfl
theorem K1_51_43 : (K1 51)[43]? = some 3 := rfl
theorem K1_51_44 : (K1 51)[44]? = some 2 := rfl
theorem K1_51_45 : (K1 51)[45]? = some 3 := rfl
theorem K1_51_46 : (K1 51)[46]? = some 3 := rfl
theorem K1_51_47 : (K1 51)[47]? = some 0 := rfl
theorem K1_51_48 : (K1 51)[48]? = some 2 := rfl
theorem K1_51_49 : (K1 51)[49]? = some 0 := rfl
theorem K1_51_50 : (K1 51)[50]? = some 3 := rfl
theorem K1_51_51 : (K1 51)[51]? = some 3 := rfl
theorem K1_51_52 : (K1 51)[52]? = some 3 := rfl
theorem K1_51_53 : (K1 51)[53]? = some 3 := rfl
theorem K1_51_54 : (K1 51)[54]? = some 0 := rfl
theorem K1_51_55 : (K1 51)[55]? = some 3 := rfl
theorem K1_51_56 : (K1 51)[56]? = some 3 := rfl
theorem K1_51_57 : (K1 51)[57]? = some 3 := rfl
theorem K1_51_58 : (K1 51)[58]? = some 0 := rfl
theorem K1_51_59 : (K1 51)[59]? = some 3 := rfl
theorem K1_51_60 : (K1 51)[60]? = some 3 := rfl
theorem K1_51_61 : (K1 51)[61]? = some 3 := rfl
theorem K1_51_62 : (K1 51)[62]? = some 3 := rfl
theorem KF_51_0 : (KF 51)[0]? = some 0 := rfl
theorem KF_51_1 : (KF 51)[1]? = some 56 := rfl
theorem KF_51_2 : (KF 51)[2]? = some 0 := rfl
theorem KF_51_3 : (KF 51)[3]? = some 57 := rfl
theorem KF_51_4 : (KF 51)[4]? = some 0 := rfl
theorem KF_51_5 : (KF 51)[5]? = some 58 := rfl
theorem KF_51_6 : (KF 51)[6]? = some 59 := rfl
theorem KF_51_7 : (KF 51)[7]? = some 60 := rfl
theorem KF_51_8 : (KF 51)[8]? = some 61 := rfl
theorem KF_51_9 : (KF 51)[9]? = some 62 := rfl
theorem KF_51_10 : (KF 51)[10]? = some 0 := rfl
theorem KF_51_11 : (KF 51)[11]? = some 0 := rfl
theorem KF_51_12 : (KF 51)[12]? = some 0 := rfl
theorem KF_51_13 : (KF 51)[13]? = some 0 := rfl
theorem KF_51_14 : (KF 51)[14]? = some 0 := rfl
theorem KF_51_15 : (KF 51)[15]? = some 0 := rfl
theorem KF_51_16 : (KF 51)[16]? = some 0 := rfl
theorem KF_51_17 : (KF 51)[17]? = some 0 := rfl
theorem KF_51_18 : (KF 51)[18]? = some 0 := rfl
theorem KF_51_19 : (KF 51)[19]? = some 0 := rfl
theorem KF_51_20 : (KF 51)[20]? = some 0 := rfl
theorem KF_51_21 : (KF 51)[21]? = some 63 := rfl
theorem KF_51_22 : (KF 51)[22]? = some 64 := rfl
theorem KF_51_23 : (KF 51)[23]? = some 65 := rfl
theorem KF_51_24 : (KF 51)[24]? = some 66 := rfl
theorem KF_51_25 : (KF 51)[25]? = some 67 := rfl
theorem KF_51_26 : (KF 51)[26]? = some 68 := rfl
theorem KF_51_27 : (KF 51)[27]? = some 69 := rfl
theorem KF_51_28 : (KF 51)[28]? = some 70 := rfl
theorem KF_51_29 : (KF 51)[29]? = some 71 := rfl
theorem KF_51_30 : (KF 51)[30]? = some 72 := rfl
theorem KF_51_31 : (KF 51)[31]? = some 0 := rfl
theorem KF_51_32 : (KF 51)[32]? = some 73 := rfl
theorem KF_51_33 : (KF 51)[33]? = some 74 := rfl
theorem KF_51_34 : (KF 51)[34]? = some 75 := rfl
theorem KF_51_35 : (KF 51)[35]? = some 76 := rfl
theorem KF_51_36 : (KF 51)[36]? = some 77 := rfl
theorem KF_51_37 : (KF 51)[37]? = some 0 := rfl
theorem KF_51_38 : (KF 51)[38]? = some 78 := rfl
theorem KF_51_39 : (KF 51)[39]? = some 79 := rfl
theorem KF_51_40 : (KF 51)[40]? = some 80 := rfl
theorem KF_51_41 : (KF 51)[41]? = some 0 := rfl
theorem KF_51_42 : (KF 51)[42]? = some 81 := rfl
theorem KF_51_43 : (KF 51)[43]? = some 82 := rfl
theorem KF_51_44 : (KF 51)[44]? = some 2 := rfl
theorem KF_51_45 : (KF 51)[45]? = some 83 := rfl
theorem KF_51_46 : (KF 51)[46]? = some 84 := rfl
theorem KF_51_47 : (KF 51)[47]? = some 0 := rfl
theorem KF_51_48 : (KF 51)[48]? = some 2 := rfl
theorem KF_51_49 : (KF 51)[49]? = some 0 := rfl
theorem KF_51_50 : (KF 51)[50]? = some 85 := rfl
theorem KF_51_51 : (KF 51)[51]? = some 86 := rfl
theorem KF_51_52 : (KF 51)[52]? = some 87 := rfl
theorem KF_51_53 : (KF 51)[53]? = some 88 := rfl
theorem KF_51_54 : (KF 51)[54]? = some 0 := rfl
theorem KF_51_55 : (KF 51)[55]? = some 89 := rfl
theorem KF_51_56 : (KF 51)[56]? = some 90 := rfl
theorem KF_51_57 : (KF 51)[57]? = some 91 := rfl
theorem KF_51_58 : (KF 51)[58]? = some 0 := rfl
theorem KF_51_59 : (KF 51)[59]? = some 92 := rfl
theorem KF_51_60 : (KF 51)[60]? = some 93 := rfl
theorem KF_51_61 : (KF 51)[61]? = some 94 := rfl
theorem KF_51_62 : (KF 51)[62]? = some 95 := rfl
def TB : List Cond := lw_tbl.filter goodWord
theorem TB_good : ∀ w ∈ TB, goodWord w = true := fun w h => (List.mem_filter.mp h).2
theorem tb_at (i : Nat) {w : Cond} (h : lw_tbl[i]? = some w) (hg : goodWord w = true) : w ∈ TB := List.mem_filter.mpr ⟨List.mem_of_getElem? h, hg⟩
def NB : List Cond := lw_tbl
theorem nb_at (i : Nat) {w : Cond} (h : lw_tbl[i]? = some w) : w ∈ NB := List.mem_of_getElem? h
def tyc : Nat → Nat → FieldType := fun c k => match c with
  | 0 => tyX0 k
  | 1 => tyX1 k
  | 2 => tyX2 k
  | 3 => tyX3 k
  | 4 => tyX4 k
  | 5 => tyX5 k
  | 6 => tyX6 k
  | 7 => tyX7 k
  | 8 => tyX8 k
  | 9 => tyX9 k
  | 10 => tyX10 k
  | 11 => tyX11 k
  | 12 => tyX12 k
  | _ => .int
theorem iTB_X0 : ∀ w ∈ u_ws RX0 TX0 2, w ∈ TB := by decide +kernel
theorem iTB_X1 : ∀ w ∈ u_ws RX1 TX1 4, w ∈ TB := by decide +kernel
theorem iTB_X2 : ∀ w ∈ u_ws RX2 TX2 6, w ∈ TB := by decide +kernel
theorem iTB_X3 : ∀ w ∈ u_ws RX3 TX3 2, w ∈ TB := by decide +kernel
theorem iTB_X4 : ∀ w ∈ u_ws RX4 TX4 1, w ∈ TB := by decide +kernel
theorem iTB_X5 : ∀ w ∈ u_ws RX5 TX5 11, w ∈ TB := by decide +kernel
theorem iTB_X6 : ∀ w ∈ u_ws RX6 TX6 4, w ∈ TB := by decide +kernel
theorem iTB_X7 : ∀ w ∈ u_ws RX7 TX7 5, w ∈ TB := by decide +kernel
theorem iTB_X8 : ∀ w ∈ u_ws RX8 TX8 5, w ∈ TB := by decide +kernel
theorem iTB_X9 : ∀ w ∈ u_ws RX9 TX9 8, w ∈ TB := by decide +kernel
theorem iTB_X10 : ∀ w ∈ u_ws RX10 TX10 5, w ∈ TB := by decide +kernel
theorem iTB_X11 : ∀ w ∈ u_ws RX11 TX11 14, w ∈ TB := by decide +kernel
theorem iTB_X12 : ∀ w ∈ u_ws RX12 TX12 63, w ∈ TB := by decide +kernel
def wf_at (KF : am_Kf) (o : Nat) : Bool := match SH o with
  | .inr _ => true
  | .inl ci => match vwCl[ci]? with
    | none => false
    | some q => decide ((KF o).length = q.2.2) && ((KF o).zipIdx.all fun z => decide (min z.1 3 = am_tk (tyc ci z.2)))
theorem wf_of {KF : am_Kf} (h : (List.range 92).all (wf_at KF) = true) : ∀ o ci, SH o = .inl ci → ∃ q : vw_C, vwCl[ci]? = some q ∧ (KF o).length = q.2.2 ∧ ∀ k kd, (KF o)[k]? = some kd → min kd 3 = am_tk (tyc ci k) := by
  intro o ci hs
  have ho : o < 92 := by
    rcases Nat.lt_or_ge o 92 with q | q
    · exact q
    · exfalso
      have : SH o = .inr (0, 0) := by
        unfold SH
        rw [List.getD_eq_getElem?_getD, List.getElem?_eq_none (show SHl.length ≤ o from Nat.le_trans (by decide) q)]
        rfl
      rw [this] at hs
      cases hs
  have h1 := List.all_eq_true.mp h o (List.mem_range.mpr ho)
  unfold wf_at at h1
  rw [hs] at h1
  simp only at h1
  split at h1
  · cases h1
  · rename_i q hq
    rw [Bool.and_eq_true] at h1
    refine ⟨q, hq, of_decide_eq_true h1.1, fun k kd hk => ?_⟩
    have h2 := List.all_eq_true.mp h1.2 (kd, k) (List.mem_zipIdx_iff_getElem?.mpr hk)
    exact of_decide_eq_true h2
theorem G_at {KF : am_Kf} (h : (List.range 92).all (wf_at KF) = true) : ∃ tyc, am_G TB vwCl SH KF tyc := by
  refine ⟨tyc, fun c q hq => ?_, wf_of h, fun k ty hk => ?_⟩
  · match c, hq with
    | 0, hq => cases hq; exact ⟨iTB_X0, tyX0_ok, nmX0⟩
    | 1, hq => cases hq; exact ⟨iTB_X1, tyX1_ok, nmX1⟩
    | 2, hq => cases hq; exact ⟨iTB_X2, tyX2_ok, nmX2⟩
    | 3, hq => cases hq; exact ⟨iTB_X3, tyX3_ok, nmX3⟩
    | 4, hq => cases hq; exact ⟨iTB_X4, tyX4_ok, nmX4⟩
    | 5, hq => cases hq; exact ⟨iTB_X5, tyX5_ok, nmX5⟩
    | 6, hq => cases hq; exact ⟨iTB_X6, tyX6_ok, nmX6⟩
    | 7, hq => cases hq; exact ⟨iTB_X7, tyX7_ok, nmX7⟩
    | 8, hq => cases hq; exact ⟨iTB_X8, tyX8_ok, nmX8⟩
    | 9, hq => cases hq; exact ⟨iTB_X9, tyX9_ok, nmX9⟩
    | 10, hq => cases hq; exact ⟨iTB_X10, tyX10_ok, nmX10⟩
    | 11, hq => cases hq; exact ⟨iTB_X11, tyX11_ok, nmX11⟩
    | 12, hq => cases hq; exact ⟨iTB_X12, tyX12_ok, nmX12⟩
    | c + 13, hq => simp [vwCl] at hq
  · match k, hk with
    | 0, hk => cases hk; exact tb_at 174 (by decide +kernel) (by decide +kernel)
    | 1, hk => cases hk; exact tb_at 173 (by decide +kernel) (by decide +kernel)
    | 2, hk => cases hk; exact tb_at 458 (by decide +kernel) (by decide +kernel)
    | 3, hk => cases hk; exact tb_at 302 (by decide +kernel) (by decide +kernel)
    | k + 4, hk => simp [am_ty] at hk
theorem GF : ∃ tyc, am_G TB vwCl SH KF tyc := G_at (by decide +kernel)
theorem G1 : ∃ tyc, am_G TB vwCl SH K1 tyc := G_at (by decide +kernel)
end
section
/-! LINKS: what each class's pool entries are. Printed by wip/am/gen_glob.py. -/
def FT_X0 : List (Nat × Nat × Nat) := [(9, 0, 0), (15, 9, 3), (21, 0, 1), (22, 9, 0), (74, 9, 1)]
theorem FT_X0_ok : ∀ q ∈ FT_X0, am_FO TB vwCl RX0 q := List.forall_mem_cons.mpr ⟨⟨(RX0, TX0, 2), rfl, by decide, tb_at 378 (by decide +kernel) (by decide +kernel)⟩, List.forall_mem_cons.mpr ⟨⟨(RX9, TX9, 8), rfl, by decide, tb_at 203 (by decide +kernel) (by decide +kernel)⟩, List.forall_mem_cons.mpr ⟨⟨(RX0, TX0, 2), rfl, by decide, tb_at 379 (by decide +kernel) (by decide +kernel)⟩, List.forall_mem_cons.mpr ⟨⟨(RX9, TX9, 8), rfl, by decide, tb_at 188 (by decide +kernel) (by decide +kernel)⟩, List.forall_mem_cons.mpr ⟨⟨(RX9, TX9, 8), rfl, by decide, tb_at 197 (by decide +kernel) (by decide +kernel)⟩, fun _ h => absurd h List.not_mem_nil⟩⟩⟩⟩⟩
def PT_X0 : List (Nat × Nat × Nat) := [(22, 9, 0), (74, 9, 1)]
theorem PT_X0_ok (nm : String) : ∀ q ∈ PT_X0, am_PO TB vwCl RX0 nm q := List.forall_mem_cons.mpr ⟨⟨(RX9, TX9, 8), rfl, by decide, tb_at 188 (by decide +kernel) (by decide +kernel), Or.inl rfl⟩, List.forall_mem_cons.mpr ⟨⟨(RX9, TX9, 8), rfl, by decide, tb_at 197 (by decide +kernel) (by decide +kernel), Or.inl rfl⟩, fun _ h => absurd h List.not_mem_nil⟩⟩
def PI_X0 : List (Nat × Nat × Nat) := [(9, 0, 0), (21, 0, 1), (22, 9, 0), (74, 9, 1)]
theorem PI_X0_ok : ∀ q ∈ PI_X0, am_PO TB vwCl RX0 "<init>" q := List.forall_mem_cons.mpr ⟨⟨(RX0, TX0, 2), rfl, by decide, tb_at 378 (by decide +kernel) (by decide +kernel), Or.inr ⟨rfl, rfl, rfl⟩⟩, List.forall_mem_cons.mpr ⟨⟨(RX0, TX0, 2), rfl, by decide, tb_at 379 (by decide +kernel) (by decide +kernel), Or.inr ⟨rfl, rfl, rfl⟩⟩, List.forall_mem_cons.mpr ⟨⟨(RX9, TX9, 8), rfl, by decide, tb_at 188 (by decide +kernel) (by decide +kernel), Or.inl rfl⟩, List.forall_mem_cons.mpr ⟨⟨(RX9, TX9, 8), rfl, by decide, tb_at 197 (by decide +kernel) (by decide +kernel), Or.inl rfl⟩, fun _ h => absurd h List.not_mem_nil⟩⟩⟩⟩
theorem FT_X0_9 : am_find FT_X0 9 = some (0, 0) := rfl
theorem FT_X0_15 : am_find FT_X0 15 = some (9, 3) := rfl
theorem FT_X0_21 : am_find FT_X0 21 = some (0, 1) := rfl
theorem FT_X0_22 : am_find FT_X0 22 = some (9, 0) := rfl
theorem FT_X0_74 : am_find FT_X0 74 = some (9, 1) := rfl
theorem PT_X0_22 : am_find PT_X0 22 = some (9, 0) := rfl
theorem PT_X0_74 : am_find PT_X0 74 = some (9, 1) := rfl
theorem PI_X0_9 : am_find PI_X0 9 = some (0, 0) := rfl
theorem PI_X0_21 : am_find PI_X0 21 = some (0, 1) := rfl
theorem PI_X0_22 : am_find PI_X0 22 = some (9, 0) := rfl
theorem PI_X0_74 : am_find PI_X0 74 = some (9, 1) := rfl
def CT_X0 : List (Nat × Nat) := []
theorem CT_X0_ok : ∀ q ∈ CT_X0, am_CC TB vwCl RX0 q := fun _ h => absurd h List.not_mem_nil
def KT_X0 : List (Nat × Int32) := []
theorem KT_X0_ok : ∀ q ∈ KT_X0, Cond.constant RX0 q.1 q.2 ∈ TB := fun _ h => absurd h List.not_mem_nil
def LT_X0 : List (Nat × Int64) := []
theorem LT_X0_ok : ∀ q ∈ LT_X0, Cond.constantLong RX0 q.1 q.2 ∈ TB := fun _ h => absurd h List.not_mem_nil
def NT_X0 : List (Nat × Nat) := [(3, 3), (39, 1), (45, 0)]
theorem NT_X0_ok : ∀ q ∈ NT_X0, am_NO TB RX0 q := List.forall_mem_cons.mpr ⟨⟨tb_at 377 (by decide +kernel) (by decide +kernel), tb_at 134 (by decide +kernel) (by decide +kernel), tb_at 135 (by decide +kernel) (by decide +kernel)⟩, List.forall_mem_cons.mpr ⟨⟨tb_at 750 (by decide +kernel) (by decide +kernel), tb_at 545 (by decide +kernel) (by decide +kernel), tb_at 125 (by decide +kernel) (by decide +kernel), tb_at 546 (by decide +kernel) (by decide +kernel)⟩, List.forall_mem_cons.mpr ⟨⟨tb_at 751 (by decide +kernel) (by decide +kernel), tb_at 752 (by decide +kernel) (by decide +kernel), tb_at 125 (by decide +kernel) (by decide +kernel), tb_at 753 (by decide +kernel) (by decide +kernel)⟩, fun _ h => absurd h List.not_mem_nil⟩⟩⟩
def FT_X1 : List (Nat × Nat × Nat) := [(9, 1, 2), (15, 1, 3), (18, 1, 0), (22, 1, 1), (55, 9, 1)]
theorem FT_X1_ok : ∀ q ∈ FT_X1, am_FO TB vwCl RX1 q := List.forall_mem_cons.mpr ⟨⟨(RX1, TX1, 4), rfl, by decide, tb_at 428 (by decide +kernel) (by decide +kernel)⟩, List.forall_mem_cons.mpr ⟨⟨(RX1, TX1, 4), rfl, by decide, tb_at 429 (by decide +kernel) (by decide +kernel)⟩, List.forall_mem_cons.mpr ⟨⟨(RX1, TX1, 4), rfl, by decide, tb_at 426 (by decide +kernel) (by decide +kernel)⟩, List.forall_mem_cons.mpr ⟨⟨(RX1, TX1, 4), rfl, by decide, tb_at 427 (by decide +kernel) (by decide +kernel)⟩, List.forall_mem_cons.mpr ⟨⟨(RX9, TX9, 8), rfl, by decide, tb_at 195 (by decide +kernel) (by decide +kernel)⟩, fun _ h => absurd h List.not_mem_nil⟩⟩⟩⟩⟩
def PT_X1 : List (Nat × Nat × Nat) := [(55, 9, 1)]
theorem PT_X1_ok (nm : String) : ∀ q ∈ PT_X1, am_PO TB vwCl RX1 nm q := List.forall_mem_cons.mpr ⟨⟨(RX9, TX9, 8), rfl, by decide, tb_at 195 (by decide +kernel) (by decide +kernel), Or.inl rfl⟩, fun _ h => absurd h List.not_mem_nil⟩
def PI_X1 : List (Nat × Nat × Nat) := [(9, 1, 2), (15, 1, 3), (18, 1, 0), (22, 1, 1), (55, 9, 1)]
theorem PI_X1_ok : ∀ q ∈ PI_X1, am_PO TB vwCl RX1 "<init>" q := List.forall_mem_cons.mpr ⟨⟨(RX1, TX1, 4), rfl, by decide, tb_at 428 (by decide +kernel) (by decide +kernel), Or.inr ⟨rfl, rfl, rfl⟩⟩, List.forall_mem_cons.mpr ⟨⟨(RX1, TX1, 4), rfl, by decide, tb_at 429 (by decide +kernel) (by decide +kernel), Or.inr ⟨rfl, rfl, rfl⟩⟩, List.forall_mem_cons.mpr ⟨⟨(RX1, TX1, 4), rfl, by decide, tb_at 426 (by decide +kernel) (by decide +kernel), Or.inr ⟨rfl, rfl, rfl⟩⟩, List.forall_mem_cons.mpr ⟨⟨(RX1, TX1, 4), rfl, by decide, tb_at 427 (by decide +kernel) (by decide +kernel), Or.inr ⟨rfl, rfl, rfl⟩⟩, List.forall_mem_cons.mpr ⟨⟨(RX9, TX9, 8), rfl, by decide, tb_at 195 (by decide +kernel) (by decide +kernel), Or.inl rfl⟩, fun _ h => absurd h List.not_mem_nil⟩⟩⟩⟩⟩
theorem FT_X1_9 : am_find FT_X1 9 = some (1, 2) := rfl
theorem FT_X1_15 : am_find FT_X1 15 = some (1, 3) := rfl
theorem FT_X1_18 : am_find FT_X1 18 = some (1, 0) := rfl
theorem FT_X1_22 : am_find FT_X1 22 = some (1, 1) := rfl
theorem FT_X1_55 : am_find FT_X1 55 = some (9, 1) := rfl
theorem PT_X1_55 : am_find PT_X1 55 = some (9, 1) := rfl
theorem PI_X1_9 : am_find PI_X1 9 = some (1, 2) := rfl
theorem PI_X1_15 : am_find PI_X1 15 = some (1, 3) := rfl
theorem PI_X1_18 : am_find PI_X1 18 = some (1, 0) := rfl
theorem PI_X1_22 : am_find PI_X1 22 = some (1, 1) := rfl
theorem PI_X1_55 : am_find PI_X1 55 = some (9, 1) := rfl
def CT_X1 : List (Nat × Nat) := []
theorem CT_X1_ok : ∀ q ∈ CT_X1, am_CC TB vwCl RX1 q := fun _ h => absurd h List.not_mem_nil
def KT_X1 : List (Nat × Int32) := []
theorem KT_X1_ok : ∀ q ∈ KT_X1, Cond.constant RX1 q.1 q.2 ∈ TB := fun _ h => absurd h List.not_mem_nil
def LT_X1 : List (Nat × Int64) := []
theorem LT_X1_ok : ∀ q ∈ LT_X1, Cond.constantLong RX1 q.1 q.2 ∈ TB := fun _ h => absurd h List.not_mem_nil
def NT_X1 : List (Nat × Nat) := [(3, 3), (66, 2)]
theorem NT_X1_ok : ∀ q ∈ NT_X1, am_NO TB RX1 q := List.forall_mem_cons.mpr ⟨⟨tb_at 425 (by decide +kernel) (by decide +kernel), tb_at 134 (by decide +kernel) (by decide +kernel), tb_at 135 (by decide +kernel) (by decide +kernel)⟩, List.forall_mem_cons.mpr ⟨⟨tb_at 1135 (by decide +kernel) (by decide +kernel), tb_at 787 (by decide +kernel) (by decide +kernel), tb_at 125 (by decide +kernel) (by decide +kernel), tb_at 788 (by decide +kernel) (by decide +kernel)⟩, fun _ h => absurd h List.not_mem_nil⟩⟩
def FT_X2 : List (Nat × Nat × Nat) := [(11, 2, 0), (15, 2, 1), (18, 2, 2), (21, 2, 3), (24, 2, 4), (27, 2, 5)]
theorem FT_X2_ok : ∀ q ∈ FT_X2, am_FO TB vwCl RX2 q := List.forall_mem_cons.mpr ⟨⟨(RX2, TX2, 6), rfl, by decide, tb_at 154 (by decide +kernel) (by decide +kernel)⟩, List.forall_mem_cons.mpr ⟨⟨(RX2, TX2, 6), rfl, by decide, tb_at 155 (by decide +kernel) (by decide +kernel)⟩, List.forall_mem_cons.mpr ⟨⟨(RX2, TX2, 6), rfl, by decide, tb_at 156 (by decide +kernel) (by decide +kernel)⟩, List.forall_mem_cons.mpr ⟨⟨(RX2, TX2, 6), rfl, by decide, tb_at 157 (by decide +kernel) (by decide +kernel)⟩, List.forall_mem_cons.mpr ⟨⟨(RX2, TX2, 6), rfl, by decide, tb_at 158 (by decide +kernel) (by decide +kernel)⟩, List.forall_mem_cons.mpr ⟨⟨(RX2, TX2, 6), rfl, by decide, tb_at 159 (by decide +kernel) (by decide +kernel)⟩, fun _ h => absurd h List.not_mem_nil⟩⟩⟩⟩⟩⟩
def PT_X2 : List (Nat × Nat × Nat) := [(27, 2, 5)]
theorem PT_X2_ok (nm : String) : ∀ q ∈ PT_X2, am_PO TB vwCl RX2 nm q := List.forall_mem_cons.mpr ⟨⟨(RX2, TX2, 6), rfl, by decide, tb_at 159 (by decide +kernel) (by decide +kernel), Or.inl rfl⟩, fun _ h => absurd h List.not_mem_nil⟩
def PI_X2 : List (Nat × Nat × Nat) := [(11, 2, 0), (15, 2, 1), (18, 2, 2), (21, 2, 3), (24, 2, 4), (27, 2, 5)]
theorem PI_X2_ok : ∀ q ∈ PI_X2, am_PO TB vwCl RX2 "<init>" q := List.forall_mem_cons.mpr ⟨⟨(RX2, TX2, 6), rfl, by decide, tb_at 154 (by decide +kernel) (by decide +kernel), Or.inr ⟨rfl, rfl, rfl⟩⟩, List.forall_mem_cons.mpr ⟨⟨(RX2, TX2, 6), rfl, by decide, tb_at 155 (by decide +kernel) (by decide +kernel), Or.inr ⟨rfl, rfl, rfl⟩⟩, List.forall_mem_cons.mpr ⟨⟨(RX2, TX2, 6), rfl, by decide, tb_at 156 (by decide +kernel) (by decide +kernel), Or.inr ⟨rfl, rfl, rfl⟩⟩, List.forall_mem_cons.mpr ⟨⟨(RX2, TX2, 6), rfl, by decide, tb_at 157 (by decide +kernel) (by decide +kernel), Or.inr ⟨rfl, rfl, rfl⟩⟩, List.forall_mem_cons.mpr ⟨⟨(RX2, TX2, 6), rfl, by decide, tb_at 158 (by decide +kernel) (by decide +kernel), Or.inr ⟨rfl, rfl, rfl⟩⟩, List.forall_mem_cons.mpr ⟨⟨(RX2, TX2, 6), rfl, by decide, tb_at 159 (by decide +kernel) (by decide +kernel), Or.inl rfl⟩, fun _ h => absurd h List.not_mem_nil⟩⟩⟩⟩⟩⟩
theorem FT_X2_11 : am_find FT_X2 11 = some (2, 0) := rfl
theorem FT_X2_15 : am_find FT_X2 15 = some (2, 1) := rfl
theorem FT_X2_18 : am_find FT_X2 18 = some (2, 2) := rfl
theorem FT_X2_21 : am_find FT_X2 21 = some (2, 3) := rfl
theorem FT_X2_24 : am_find FT_X2 24 = some (2, 4) := rfl
theorem FT_X2_27 : am_find FT_X2 27 = some (2, 5) := rfl
theorem PT_X2_27 : am_find PT_X2 27 = some (2, 5) := rfl
theorem PI_X2_11 : am_find PI_X2 11 = some (2, 0) := rfl
theorem PI_X2_15 : am_find PI_X2 15 = some (2, 1) := rfl
theorem PI_X2_18 : am_find PI_X2 18 = some (2, 2) := rfl
theorem PI_X2_21 : am_find PI_X2 21 = some (2, 3) := rfl
theorem PI_X2_24 : am_find PI_X2 24 = some (2, 4) := rfl
theorem PI_X2_27 : am_find PI_X2 27 = some (2, 5) := rfl
def CT_X2 : List (Nat × Nat) := []
theorem CT_X2_ok : ∀ q ∈ CT_X2, am_CC TB vwCl RX2 q := fun _ h => absurd h List.not_mem_nil
def KT_X2 : List (Nat × Int32) := []
theorem KT_X2_ok : ∀ q ∈ KT_X2, Cond.constant RX2 q.1 q.2 ∈ TB := fun _ h => absurd h List.not_mem_nil
def LT_X2 : List (Nat × Int64) := []
theorem LT_X2_ok : ∀ q ∈ LT_X2, Cond.constantLong RX2 q.1 q.2 ∈ TB := fun _ h => absurd h List.not_mem_nil
def NT_X2 : List (Nat × Nat) := [(5, 3), (39, 4)]
theorem NT_X2_ok : ∀ q ∈ NT_X2, am_NO TB RX2 q := List.forall_mem_cons.mpr ⟨⟨tb_at 153 (by decide +kernel) (by decide +kernel), tb_at 134 (by decide +kernel) (by decide +kernel), tb_at 135 (by decide +kernel) (by decide +kernel)⟩, List.forall_mem_cons.mpr ⟨⟨tb_at 678 (by decide +kernel) (by decide +kernel), tb_at 680 (by decide +kernel) (by decide +kernel), tb_at 679 (by decide +kernel) (by decide +kernel), tb_at 126 (by decide +kernel) (by decide +kernel)⟩, fun _ h => absurd h List.not_mem_nil⟩⟩
def FT_X3 : List (Nat × Nat × Nat) := [(9, 3, 0), (15, 3, 1), (19, 9, 1), (31, 9, 0)]
theorem FT_X3_ok : ∀ q ∈ FT_X3, am_FO TB vwCl RX3 q := List.forall_mem_cons.mpr ⟨⟨(RX3, TX3, 2), rfl, by decide, tb_at 413 (by decide +kernel) (by decide +kernel)⟩, List.forall_mem_cons.mpr ⟨⟨(RX3, TX3, 2), rfl, by decide, tb_at 414 (by decide +kernel) (by decide +kernel)⟩, List.forall_mem_cons.mpr ⟨⟨(RX9, TX9, 8), rfl, by decide, tb_at 194 (by decide +kernel) (by decide +kernel)⟩, List.forall_mem_cons.mpr ⟨⟨(RX9, TX9, 8), rfl, by decide, tb_at 189 (by decide +kernel) (by decide +kernel)⟩, fun _ h => absurd h List.not_mem_nil⟩⟩⟩⟩
def PT_X3 : List (Nat × Nat × Nat) := [(19, 9, 1), (31, 9, 0)]
theorem PT_X3_ok (nm : String) : ∀ q ∈ PT_X3, am_PO TB vwCl RX3 nm q := List.forall_mem_cons.mpr ⟨⟨(RX9, TX9, 8), rfl, by decide, tb_at 194 (by decide +kernel) (by decide +kernel), Or.inl rfl⟩, List.forall_mem_cons.mpr ⟨⟨(RX9, TX9, 8), rfl, by decide, tb_at 189 (by decide +kernel) (by decide +kernel), Or.inl rfl⟩, fun _ h => absurd h List.not_mem_nil⟩⟩
def PI_X3 : List (Nat × Nat × Nat) := [(9, 3, 0), (15, 3, 1), (19, 9, 1), (31, 9, 0)]
theorem PI_X3_ok : ∀ q ∈ PI_X3, am_PO TB vwCl RX3 "<init>" q := List.forall_mem_cons.mpr ⟨⟨(RX3, TX3, 2), rfl, by decide, tb_at 413 (by decide +kernel) (by decide +kernel), Or.inr ⟨rfl, rfl, rfl⟩⟩, List.forall_mem_cons.mpr ⟨⟨(RX3, TX3, 2), rfl, by decide, tb_at 414 (by decide +kernel) (by decide +kernel), Or.inr ⟨rfl, rfl, rfl⟩⟩, List.forall_mem_cons.mpr ⟨⟨(RX9, TX9, 8), rfl, by decide, tb_at 194 (by decide +kernel) (by decide +kernel), Or.inl rfl⟩, List.forall_mem_cons.mpr ⟨⟨(RX9, TX9, 8), rfl, by decide, tb_at 189 (by decide +kernel) (by decide +kernel), Or.inl rfl⟩, fun _ h => absurd h List.not_mem_nil⟩⟩⟩⟩
theorem FT_X3_9 : am_find FT_X3 9 = some (3, 0) := rfl
theorem FT_X3_15 : am_find FT_X3 15 = some (3, 1) := rfl
theorem FT_X3_19 : am_find FT_X3 19 = some (9, 1) := rfl
theorem FT_X3_31 : am_find FT_X3 31 = some (9, 0) := rfl
theorem PT_X3_19 : am_find PT_X3 19 = some (9, 1) := rfl
theorem PT_X3_31 : am_find PT_X3 31 = some (9, 0) := rfl
theorem PI_X3_9 : am_find PI_X3 9 = some (3, 0) := rfl
theorem PI_X3_15 : am_find PI_X3 15 = some (3, 1) := rfl
theorem PI_X3_19 : am_find PI_X3 19 = some (9, 1) := rfl
theorem PI_X3_31 : am_find PI_X3 31 = some (9, 0) := rfl
def CT_X3 : List (Nat × Nat) := []
theorem CT_X3_ok : ∀ q ∈ CT_X3, am_CC TB vwCl RX3 q := fun _ h => absurd h List.not_mem_nil
def KT_X3 : List (Nat × Int32) := []
theorem KT_X3_ok : ∀ q ∈ KT_X3, Cond.constant RX3 q.1 q.2 ∈ TB := fun _ h => absurd h List.not_mem_nil
def LT_X3 : List (Nat × Int64) := []
theorem LT_X3_ok : ∀ q ∈ LT_X3, Cond.constantLong RX3 q.1 q.2 ∈ TB := fun _ h => absurd h List.not_mem_nil
def NT_X3 : List (Nat × Nat) := [(3, 3), (54, 1), (59, 0), (77, 2)]
theorem NT_X3_ok : ∀ q ∈ NT_X3, am_NO TB RX3 q := List.forall_mem_cons.mpr ⟨⟨tb_at 412 (by decide +kernel) (by decide +kernel), tb_at 134 (by decide +kernel) (by decide +kernel), tb_at 135 (by decide +kernel) (by decide +kernel)⟩, List.forall_mem_cons.mpr ⟨⟨tb_at 995 (by decide +kernel) (by decide +kernel), tb_at 545 (by decide +kernel) (by decide +kernel), tb_at 125 (by decide +kernel) (by decide +kernel), tb_at 546 (by decide +kernel) (by decide +kernel)⟩, List.forall_mem_cons.mpr ⟨⟨tb_at 996 (by decide +kernel) (by decide +kernel), tb_at 752 (by decide +kernel) (by decide +kernel), tb_at 125 (by decide +kernel) (by decide +kernel), tb_at 753 (by decide +kernel) (by decide +kernel)⟩, List.forall_mem_cons.mpr ⟨⟨tb_at 1082 (by decide +kernel) (by decide +kernel), tb_at 787 (by decide +kernel) (by decide +kernel), tb_at 125 (by decide +kernel) (by decide +kernel), tb_at 788 (by decide +kernel) (by decide +kernel)⟩, fun _ h => absurd h List.not_mem_nil⟩⟩⟩⟩
def FT_X4 : List (Nat × Nat × Nat) := [(11, 4, 0)]
theorem FT_X4_ok : ∀ q ∈ FT_X4, am_FO TB vwCl RX4 q := List.forall_mem_cons.mpr ⟨⟨(RX4, TX4, 1), rfl, by decide, tb_at 346 (by decide +kernel) (by decide +kernel)⟩, fun _ h => absurd h List.not_mem_nil⟩
def PT_X4 : List (Nat × Nat × Nat) := []
theorem PT_X4_ok (nm : String) : ∀ q ∈ PT_X4, am_PO TB vwCl RX4 nm q := fun _ h => absurd h List.not_mem_nil
def PI_X4 : List (Nat × Nat × Nat) := [(11, 4, 0)]
theorem PI_X4_ok : ∀ q ∈ PI_X4, am_PO TB vwCl RX4 "<init>" q := List.forall_mem_cons.mpr ⟨⟨(RX4, TX4, 1), rfl, by decide, tb_at 346 (by decide +kernel) (by decide +kernel), Or.inr ⟨rfl, rfl, rfl⟩⟩, fun _ h => absurd h List.not_mem_nil⟩
theorem FT_X4_11 : am_find FT_X4 11 = some (4, 0) := rfl
theorem PI_X4_11 : am_find PI_X4 11 = some (4, 0) := rfl
def CT_X4 : List (Nat × Nat) := []
theorem CT_X4_ok : ∀ q ∈ CT_X4, am_CC TB vwCl RX4 q := fun _ h => absurd h List.not_mem_nil
def KT_X4 : List (Nat × Int32) := [(45, 99999)]
theorem KT_X4_ok : ∀ q ∈ KT_X4, Cond.constant RX4 q.1 q.2 ∈ TB := List.forall_mem_cons.mpr ⟨tb_at 927 (by decide +kernel) (by decide +kernel), fun _ h => absurd h List.not_mem_nil⟩
def LT_X4 : List (Nat × Int64) := []
theorem LT_X4_ok : ∀ q ∈ LT_X4, Cond.constantLong RX4 q.1 q.2 ∈ TB := fun _ h => absurd h List.not_mem_nil
def NT_X4 : List (Nat × Nat) := [(5, 3), (31, 4), (46, 1)]
theorem NT_X4_ok : ∀ q ∈ NT_X4, am_NO TB RX4 q := List.forall_mem_cons.mpr ⟨⟨tb_at 345 (by decide +kernel) (by decide +kernel), tb_at 134 (by decide +kernel) (by decide +kernel), tb_at 135 (by decide +kernel) (by decide +kernel)⟩, List.forall_mem_cons.mpr ⟨⟨tb_at 869 (by decide +kernel) (by decide +kernel), tb_at 680 (by decide +kernel) (by decide +kernel), tb_at 679 (by decide +kernel) (by decide +kernel), tb_at 126 (by decide +kernel) (by decide +kernel)⟩, List.forall_mem_cons.mpr ⟨⟨tb_at 928 (by decide +kernel) (by decide +kernel), tb_at 545 (by decide +kernel) (by decide +kernel), tb_at 125 (by decide +kernel) (by decide +kernel), tb_at 546 (by decide +kernel) (by decide +kernel)⟩, fun _ h => absurd h List.not_mem_nil⟩⟩⟩
def FT_X5 : List (Nat × Nat × Nat) := [(12, 5, 0), (21, 5, 1), (25, 5, 2), (29, 5, 3), (33, 5, 4), (36, 5, 5), (39, 5, 6), (43, 5, 7), (46, 5, 8), (49, 5, 9), (52, 5, 10), (93, 9, 0), (102, 9, 2), (105, 9, 1), (115, 9, 3)]
theorem FT_X5_ok : ∀ q ∈ FT_X5, am_FO TB vwCl RX5 q := List.forall_mem_cons.mpr ⟨⟨(RX5, TX5, 11), rfl, by decide, tb_at 303 (by decide +kernel) (by decide +kernel)⟩, List.forall_mem_cons.mpr ⟨⟨(RX5, TX5, 11), rfl, by decide, tb_at 305 (by decide +kernel) (by decide +kernel)⟩, List.forall_mem_cons.mpr ⟨⟨(RX5, TX5, 11), rfl, by decide, tb_at 306 (by decide +kernel) (by decide +kernel)⟩, List.forall_mem_cons.mpr ⟨⟨(RX5, TX5, 11), rfl, by decide, tb_at 307 (by decide +kernel) (by decide +kernel)⟩, List.forall_mem_cons.mpr ⟨⟨(RX5, TX5, 11), rfl, by decide, tb_at 308 (by decide +kernel) (by decide +kernel)⟩, List.forall_mem_cons.mpr ⟨⟨(RX5, TX5, 11), rfl, by decide, tb_at 309 (by decide +kernel) (by decide +kernel)⟩, List.forall_mem_cons.mpr ⟨⟨(RX5, TX5, 11), rfl, by decide, tb_at 310 (by decide +kernel) (by decide +kernel)⟩, List.forall_mem_cons.mpr ⟨⟨(RX5, TX5, 11), rfl, by decide, tb_at 311 (by decide +kernel) (by decide +kernel)⟩, List.forall_mem_cons.mpr ⟨⟨(RX5, TX5, 11), rfl, by decide, tb_at 312 (by decide +kernel) (by decide +kernel)⟩, List.forall_mem_cons.mpr ⟨⟨(RX5, TX5, 11), rfl, by decide, tb_at 313 (by decide +kernel) (by decide +kernel)⟩, List.forall_mem_cons.mpr ⟨⟨(RX5, TX5, 11), rfl, by decide, tb_at 314 (by decide +kernel) (by decide +kernel)⟩, List.forall_mem_cons.mpr ⟨⟨(RX9, TX9, 8), rfl, by decide, tb_at 191 (by decide +kernel) (by decide +kernel)⟩, List.forall_mem_cons.mpr ⟨⟨(RX9, TX9, 8), rfl, by decide, tb_at 201 (by decide +kernel) (by decide +kernel)⟩, List.forall_mem_cons.mpr ⟨⟨(RX9, TX9, 8), rfl, by decide, tb_at 199 (by decide +kernel) (by decide +kernel)⟩, List.forall_mem_cons.mpr ⟨⟨(RX9, TX9, 8), rfl, by decide, tb_at 205 (by decide +kernel) (by decide +kernel)⟩, fun _ h => absurd h List.not_mem_nil⟩⟩⟩⟩⟩⟩⟩⟩⟩⟩⟩⟩⟩⟩⟩
def PT_X5 : List (Nat × Nat × Nat) := [(29, 5, 3), (33, 5, 4), (36, 5, 5), (39, 5, 6), (43, 5, 7), (46, 5, 8), (49, 5, 9), (52, 5, 10), (93, 9, 0), (102, 9, 2), (105, 9, 1)]
theorem PT_X5_ok (nm : String) : ∀ q ∈ PT_X5, am_PO TB vwCl RX5 nm q := List.forall_mem_cons.mpr ⟨⟨(RX5, TX5, 11), rfl, by decide, tb_at 307 (by decide +kernel) (by decide +kernel), Or.inl rfl⟩, List.forall_mem_cons.mpr ⟨⟨(RX5, TX5, 11), rfl, by decide, tb_at 308 (by decide +kernel) (by decide +kernel), Or.inl rfl⟩, List.forall_mem_cons.mpr ⟨⟨(RX5, TX5, 11), rfl, by decide, tb_at 309 (by decide +kernel) (by decide +kernel), Or.inl rfl⟩, List.forall_mem_cons.mpr ⟨⟨(RX5, TX5, 11), rfl, by decide, tb_at 310 (by decide +kernel) (by decide +kernel), Or.inl rfl⟩, List.forall_mem_cons.mpr ⟨⟨(RX5, TX5, 11), rfl, by decide, tb_at 311 (by decide +kernel) (by decide +kernel), Or.inl rfl⟩, List.forall_mem_cons.mpr ⟨⟨(RX5, TX5, 11), rfl, by decide, tb_at 312 (by decide +kernel) (by decide +kernel), Or.inl rfl⟩, List.forall_mem_cons.mpr ⟨⟨(RX5, TX5, 11), rfl, by decide, tb_at 313 (by decide +kernel) (by decide +kernel), Or.inl rfl⟩, List.forall_mem_cons.mpr ⟨⟨(RX5, TX5, 11), rfl, by decide, tb_at 314 (by decide +kernel) (by decide +kernel), Or.inl rfl⟩, List.forall_mem_cons.mpr ⟨⟨(RX9, TX9, 8), rfl, by decide, tb_at 191 (by decide +kernel) (by decide +kernel), Or.inl rfl⟩, List.forall_mem_cons.mpr ⟨⟨(RX9, TX9, 8), rfl, by decide, tb_at 201 (by decide +kernel) (by decide +kernel), Or.inl rfl⟩, List.forall_mem_cons.mpr ⟨⟨(RX9, TX9, 8), rfl, by decide, tb_at 199 (by decide +kernel) (by decide +kernel), Or.inl rfl⟩, fun _ h => absurd h List.not_mem_nil⟩⟩⟩⟩⟩⟩⟩⟩⟩⟩⟩
def PI_X5 : List (Nat × Nat × Nat) := [(12, 5, 0), (21, 5, 1), (25, 5, 2), (29, 5, 3), (33, 5, 4), (36, 5, 5), (39, 5, 6), (43, 5, 7), (46, 5, 8), (49, 5, 9), (52, 5, 10), (93, 9, 0), (102, 9, 2), (105, 9, 1)]
theorem PI_X5_ok : ∀ q ∈ PI_X5, am_PO TB vwCl RX5 "<init>" q := List.forall_mem_cons.mpr ⟨⟨(RX5, TX5, 11), rfl, by decide, tb_at 303 (by decide +kernel) (by decide +kernel), Or.inr ⟨rfl, rfl, rfl⟩⟩, List.forall_mem_cons.mpr ⟨⟨(RX5, TX5, 11), rfl, by decide, tb_at 305 (by decide +kernel) (by decide +kernel), Or.inr ⟨rfl, rfl, rfl⟩⟩, List.forall_mem_cons.mpr ⟨⟨(RX5, TX5, 11), rfl, by decide, tb_at 306 (by decide +kernel) (by decide +kernel), Or.inr ⟨rfl, rfl, rfl⟩⟩, List.forall_mem_cons.mpr ⟨⟨(RX5, TX5, 11), rfl, by decide, tb_at 307 (by decide +kernel) (by decide +kernel), Or.inl rfl⟩, List.forall_mem_cons.mpr ⟨⟨(RX5, TX5, 11), rfl, by decide, tb_at 308 (by decide +kernel) (by decide +kernel), Or.inl rfl⟩, List.forall_mem_cons.mpr ⟨⟨(RX5, TX5, 11), rfl, by decide, tb_at 309 (by decide +kernel) (by decide +kernel), Or.inl rfl⟩, List.forall_mem_cons.mpr ⟨⟨(RX5, TX5, 11), rfl, by decide, tb_at 310 (by decide +kernel) (by decide +kernel), Or.inl rfl⟩, List.forall_mem_cons.mpr ⟨⟨(RX5, TX5, 11), rfl, by decide, tb_at 311 (by decide +kernel) (by decide +kernel), Or.inl rfl⟩, List.forall_mem_cons.mpr ⟨⟨(RX5, TX5, 11), rfl, by decide, tb_at 312 (by decide +kernel) (by decide +kernel), Or.inl rfl⟩, List.forall_mem_cons.mpr ⟨⟨(RX5, TX5, 11), rfl, by decide, tb_at 313 (by decide +kernel) (by decide +kernel), Or.inl rfl⟩, List.forall_mem_cons.mpr ⟨⟨(RX5, TX5, 11), rfl, by decide, tb_at 314 (by decide +kernel) (by decide +kernel), Or.inl rfl⟩, List.forall_mem_cons.mpr ⟨⟨(RX9, TX9, 8), rfl, by decide, tb_at 191 (by decide +kernel) (by decide +kernel), Or.inl rfl⟩, List.forall_mem_cons.mpr ⟨⟨(RX9, TX9, 8), rfl, by decide, tb_at 201 (by decide +kernel) (by decide +kernel), Or.inl rfl⟩, List.forall_mem_cons.mpr ⟨⟨(RX9, TX9, 8), rfl, by decide, tb_at 199 (by decide +kernel) (by decide +kernel), Or.inl rfl⟩, fun _ h => absurd h List.not_mem_nil⟩⟩⟩⟩⟩⟩⟩⟩⟩⟩⟩⟩⟩⟩
theorem FT_X5_12 : am_find FT_X5 12 = some (5, 0) := rfl
theorem FT_X5_21 : am_find FT_X5 21 = some (5, 1) := rfl
theorem FT_X5_25 : am_find FT_X5 25 = some (5, 2) := rfl
theorem FT_X5_29 : am_find FT_X5 29 = some (5, 3) := rfl
theorem FT_X5_33 : am_find FT_X5 33 = some (5, 4) := rfl
theorem FT_X5_36 : am_find FT_X5 36 = some (5, 5) := rfl
theorem FT_X5_39 : am_find FT_X5 39 = some (5, 6) := rfl
theorem FT_X5_43 : am_find FT_X5 43 = some (5, 7) := rfl
theorem FT_X5_46 : am_find FT_X5 46 = some (5, 8) := rfl
theorem FT_X5_49 : am_find FT_X5 49 = some (5, 9) := rfl
theorem FT_X5_52 : am_find FT_X5 52 = some (5, 10) := rfl
theorem FT_X5_93 : am_find FT_X5 93 = some (9, 0) := rfl
theorem FT_X5_102 : am_find FT_X5 102 = some (9, 2) := rfl
theorem FT_X5_105 : am_find FT_X5 105 = some (9, 1) := rfl
theorem FT_X5_115 : am_find FT_X5 115 = some (9, 3) := rfl
theorem PT_X5_29 : am_find PT_X5 29 = some (5, 3) := rfl
theorem PT_X5_33 : am_find PT_X5 33 = some (5, 4) := rfl
theorem PT_X5_36 : am_find PT_X5 36 = some (5, 5) := rfl
theorem PT_X5_39 : am_find PT_X5 39 = some (5, 6) := rfl
theorem PT_X5_43 : am_find PT_X5 43 = some (5, 7) := rfl
theorem PT_X5_46 : am_find PT_X5 46 = some (5, 8) := rfl
theorem PT_X5_49 : am_find PT_X5 49 = some (5, 9) := rfl
theorem PT_X5_52 : am_find PT_X5 52 = some (5, 10) := rfl
theorem PT_X5_93 : am_find PT_X5 93 = some (9, 0) := rfl
theorem PT_X5_102 : am_find PT_X5 102 = some (9, 2) := rfl
theorem PT_X5_105 : am_find PT_X5 105 = some (9, 1) := rfl
theorem PI_X5_12 : am_find PI_X5 12 = some (5, 0) := rfl
theorem PI_X5_21 : am_find PI_X5 21 = some (5, 1) := rfl
theorem PI_X5_25 : am_find PI_X5 25 = some (5, 2) := rfl
theorem PI_X5_29 : am_find PI_X5 29 = some (5, 3) := rfl
theorem PI_X5_33 : am_find PI_X5 33 = some (5, 4) := rfl
theorem PI_X5_36 : am_find PI_X5 36 = some (5, 5) := rfl
theorem PI_X5_39 : am_find PI_X5 39 = some (5, 6) := rfl
theorem PI_X5_43 : am_find PI_X5 43 = some (5, 7) := rfl
theorem PI_X5_46 : am_find PI_X5 46 = some (5, 8) := rfl
theorem PI_X5_49 : am_find PI_X5 49 = some (5, 9) := rfl
theorem PI_X5_52 : am_find PI_X5 52 = some (5, 10) := rfl
theorem PI_X5_93 : am_find PI_X5 93 = some (9, 0) := rfl
theorem PI_X5_102 : am_find PI_X5 102 = some (9, 2) := rfl
theorem PI_X5_105 : am_find PI_X5 105 = some (9, 1) := rfl
def CT_X5 : List (Nat × Nat) := [(9, 9), (18, 8)]
theorem CT_X5_ok : ∀ q ∈ CT_X5, am_CC TB vwCl RX5 q := List.forall_mem_cons.mpr ⟨⟨(RX9, TX9, 8), rfl, tb_at 142 (by decide +kernel) (by decide +kernel), tb_at 143 (by decide +kernel) (by decide +kernel), tb_at 109 (by decide +kernel) (by decide +kernel)⟩, List.forall_mem_cons.mpr ⟨⟨(RX8, TX8, 5), rfl, tb_at 227 (by decide +kernel) (by decide +kernel), tb_at 228 (by decide +kernel) (by decide +kernel), tb_at 111 (by decide +kernel) (by decide +kernel)⟩, fun _ h => absurd h List.not_mem_nil⟩⟩
def KT_X5 : List (Nat × Int32) := []
theorem KT_X5_ok : ∀ q ∈ KT_X5, Cond.constant RX5 q.1 q.2 ∈ TB := fun _ h => absurd h List.not_mem_nil
def LT_X5 : List (Nat × Int64) := []
theorem LT_X5_ok : ∀ q ∈ LT_X5, Cond.constantLong RX5 q.1 q.2 ∈ TB := fun _ h => absurd h List.not_mem_nil
def NT_X5 : List (Nat × Nat) := [(3, 3)]
theorem NT_X5_ok : ∀ q ∈ NT_X5, am_NO TB RX5 q := List.forall_mem_cons.mpr ⟨⟨tb_at 141 (by decide +kernel) (by decide +kernel), tb_at 134 (by decide +kernel) (by decide +kernel), tb_at 135 (by decide +kernel) (by decide +kernel)⟩, fun _ h => absurd h List.not_mem_nil⟩
def FT_X6 : List (Nat × Nat × Nat) := [(11, 6, 1), (15, 6, 2), (19, 6, 3), (23, 6, 0), (27, 9, 1), (49, 9, 0)]
theorem FT_X6_ok : ∀ q ∈ FT_X6, am_FO TB vwCl RX6 q := List.forall_mem_cons.mpr ⟨⟨(RX6, TX6, 4), rfl, by decide, tb_at 446 (by decide +kernel) (by decide +kernel)⟩, List.forall_mem_cons.mpr ⟨⟨(RX6, TX6, 4), rfl, by decide, tb_at 447 (by decide +kernel) (by decide +kernel)⟩, List.forall_mem_cons.mpr ⟨⟨(RX6, TX6, 4), rfl, by decide, tb_at 448 (by decide +kernel) (by decide +kernel)⟩, List.forall_mem_cons.mpr ⟨⟨(RX6, TX6, 4), rfl, by decide, tb_at 445 (by decide +kernel) (by decide +kernel)⟩, List.forall_mem_cons.mpr ⟨⟨(RX9, TX9, 8), rfl, by decide, tb_at 196 (by decide +kernel) (by decide +kernel)⟩, List.forall_mem_cons.mpr ⟨⟨(RX9, TX9, 8), rfl, by decide, tb_at 190 (by decide +kernel) (by decide +kernel)⟩, fun _ h => absurd h List.not_mem_nil⟩⟩⟩⟩⟩⟩
def PT_X6 : List (Nat × Nat × Nat) := [(19, 6, 3), (27, 9, 1), (49, 9, 0)]
theorem PT_X6_ok (nm : String) : ∀ q ∈ PT_X6, am_PO TB vwCl RX6 nm q := List.forall_mem_cons.mpr ⟨⟨(RX6, TX6, 4), rfl, by decide, tb_at 448 (by decide +kernel) (by decide +kernel), Or.inl rfl⟩, List.forall_mem_cons.mpr ⟨⟨(RX9, TX9, 8), rfl, by decide, tb_at 196 (by decide +kernel) (by decide +kernel), Or.inl rfl⟩, List.forall_mem_cons.mpr ⟨⟨(RX9, TX9, 8), rfl, by decide, tb_at 190 (by decide +kernel) (by decide +kernel), Or.inl rfl⟩, fun _ h => absurd h List.not_mem_nil⟩⟩⟩
def PI_X6 : List (Nat × Nat × Nat) := [(11, 6, 1), (15, 6, 2), (19, 6, 3), (23, 6, 0), (27, 9, 1), (49, 9, 0)]
theorem PI_X6_ok : ∀ q ∈ PI_X6, am_PO TB vwCl RX6 "<init>" q := List.forall_mem_cons.mpr ⟨⟨(RX6, TX6, 4), rfl, by decide, tb_at 446 (by decide +kernel) (by decide +kernel), Or.inr ⟨rfl, rfl, rfl⟩⟩, List.forall_mem_cons.mpr ⟨⟨(RX6, TX6, 4), rfl, by decide, tb_at 447 (by decide +kernel) (by decide +kernel), Or.inr ⟨rfl, rfl, rfl⟩⟩, List.forall_mem_cons.mpr ⟨⟨(RX6, TX6, 4), rfl, by decide, tb_at 448 (by decide +kernel) (by decide +kernel), Or.inl rfl⟩, List.forall_mem_cons.mpr ⟨⟨(RX6, TX6, 4), rfl, by decide, tb_at 445 (by decide +kernel) (by decide +kernel), Or.inr ⟨rfl, rfl, rfl⟩⟩, List.forall_mem_cons.mpr ⟨⟨(RX9, TX9, 8), rfl, by decide, tb_at 196 (by decide +kernel) (by decide +kernel), Or.inl rfl⟩, List.forall_mem_cons.mpr ⟨⟨(RX9, TX9, 8), rfl, by decide, tb_at 190 (by decide +kernel) (by decide +kernel), Or.inl rfl⟩, fun _ h => absurd h List.not_mem_nil⟩⟩⟩⟩⟩⟩
theorem FT_X6_11 : am_find FT_X6 11 = some (6, 1) := rfl
theorem FT_X6_15 : am_find FT_X6 15 = some (6, 2) := rfl
theorem FT_X6_19 : am_find FT_X6 19 = some (6, 3) := rfl
theorem FT_X6_23 : am_find FT_X6 23 = some (6, 0) := rfl
theorem FT_X6_27 : am_find FT_X6 27 = some (9, 1) := rfl
theorem FT_X6_49 : am_find FT_X6 49 = some (9, 0) := rfl
theorem PT_X6_19 : am_find PT_X6 19 = some (6, 3) := rfl
theorem PT_X6_27 : am_find PT_X6 27 = some (9, 1) := rfl
theorem PT_X6_49 : am_find PT_X6 49 = some (9, 0) := rfl
theorem PI_X6_11 : am_find PI_X6 11 = some (6, 1) := rfl
theorem PI_X6_15 : am_find PI_X6 15 = some (6, 2) := rfl
theorem PI_X6_19 : am_find PI_X6 19 = some (6, 3) := rfl
theorem PI_X6_23 : am_find PI_X6 23 = some (6, 0) := rfl
theorem PI_X6_27 : am_find PI_X6 27 = some (9, 1) := rfl
theorem PI_X6_49 : am_find PI_X6 49 = some (9, 0) := rfl
def CT_X6 : List (Nat × Nat) := []
theorem CT_X6_ok : ∀ q ∈ CT_X6, am_CC TB vwCl RX6 q := fun _ h => absurd h List.not_mem_nil
def KT_X6 : List (Nat × Int32) := []
theorem KT_X6_ok : ∀ q ∈ KT_X6, Cond.constant RX6 q.1 q.2 ∈ TB := fun _ h => absurd h List.not_mem_nil
def LT_X6 : List (Nat × Int64) := []
theorem LT_X6_ok : ∀ q ∈ LT_X6, Cond.constantLong RX6 q.1 q.2 ∈ TB := fun _ h => absurd h List.not_mem_nil
def NT_X6 : List (Nat × Nat) := [(3, 3), (60, 0)]
theorem NT_X6_ok : ∀ q ∈ NT_X6, am_NO TB RX6 q := List.forall_mem_cons.mpr ⟨⟨tb_at 444 (by decide +kernel) (by decide +kernel), tb_at 134 (by decide +kernel) (by decide +kernel), tb_at 135 (by decide +kernel) (by decide +kernel)⟩, List.forall_mem_cons.mpr ⟨⟨tb_at 1300 (by decide +kernel) (by decide +kernel), tb_at 752 (by decide +kernel) (by decide +kernel), tb_at 125 (by decide +kernel) (by decide +kernel), tb_at 753 (by decide +kernel) (by decide +kernel)⟩, fun _ h => absurd h List.not_mem_nil⟩⟩
def FT_X7 : List (Nat × Nat × Nat) := [(11, 7, 0), (15, 7, 1), (18, 7, 2), (22, 7, 3), (25, 7, 4)]
theorem FT_X7_ok : ∀ q ∈ FT_X7, am_FO TB vwCl RX7 q := List.forall_mem_cons.mpr ⟨⟨(RX7, TX7, 5), rfl, by decide, tb_at 356 (by decide +kernel) (by decide +kernel)⟩, List.forall_mem_cons.mpr ⟨⟨(RX7, TX7, 5), rfl, by decide, tb_at 357 (by decide +kernel) (by decide +kernel)⟩, List.forall_mem_cons.mpr ⟨⟨(RX7, TX7, 5), rfl, by decide, tb_at 358 (by decide +kernel) (by decide +kernel)⟩, List.forall_mem_cons.mpr ⟨⟨(RX7, TX7, 5), rfl, by decide, tb_at 359 (by decide +kernel) (by decide +kernel)⟩, List.forall_mem_cons.mpr ⟨⟨(RX7, TX7, 5), rfl, by decide, tb_at 360 (by decide +kernel) (by decide +kernel)⟩, fun _ h => absurd h List.not_mem_nil⟩⟩⟩⟩⟩
def PT_X7 : List (Nat × Nat × Nat) := [(18, 7, 2), (22, 7, 3), (25, 7, 4)]
theorem PT_X7_ok (nm : String) : ∀ q ∈ PT_X7, am_PO TB vwCl RX7 nm q := List.forall_mem_cons.mpr ⟨⟨(RX7, TX7, 5), rfl, by decide, tb_at 358 (by decide +kernel) (by decide +kernel), Or.inl rfl⟩, List.forall_mem_cons.mpr ⟨⟨(RX7, TX7, 5), rfl, by decide, tb_at 359 (by decide +kernel) (by decide +kernel), Or.inl rfl⟩, List.forall_mem_cons.mpr ⟨⟨(RX7, TX7, 5), rfl, by decide, tb_at 360 (by decide +kernel) (by decide +kernel), Or.inl rfl⟩, fun _ h => absurd h List.not_mem_nil⟩⟩⟩
def PI_X7 : List (Nat × Nat × Nat) := [(11, 7, 0), (15, 7, 1), (18, 7, 2), (22, 7, 3), (25, 7, 4)]
theorem PI_X7_ok : ∀ q ∈ PI_X7, am_PO TB vwCl RX7 "<init>" q := List.forall_mem_cons.mpr ⟨⟨(RX7, TX7, 5), rfl, by decide, tb_at 356 (by decide +kernel) (by decide +kernel), Or.inr ⟨rfl, rfl, rfl⟩⟩, List.forall_mem_cons.mpr ⟨⟨(RX7, TX7, 5), rfl, by decide, tb_at 357 (by decide +kernel) (by decide +kernel), Or.inr ⟨rfl, rfl, rfl⟩⟩, List.forall_mem_cons.mpr ⟨⟨(RX7, TX7, 5), rfl, by decide, tb_at 358 (by decide +kernel) (by decide +kernel), Or.inl rfl⟩, List.forall_mem_cons.mpr ⟨⟨(RX7, TX7, 5), rfl, by decide, tb_at 359 (by decide +kernel) (by decide +kernel), Or.inl rfl⟩, List.forall_mem_cons.mpr ⟨⟨(RX7, TX7, 5), rfl, by decide, tb_at 360 (by decide +kernel) (by decide +kernel), Or.inl rfl⟩, fun _ h => absurd h List.not_mem_nil⟩⟩⟩⟩⟩
theorem FT_X7_11 : am_find FT_X7 11 = some (7, 0) := rfl
theorem FT_X7_15 : am_find FT_X7 15 = some (7, 1) := rfl
theorem FT_X7_18 : am_find FT_X7 18 = some (7, 2) := rfl
theorem FT_X7_22 : am_find FT_X7 22 = some (7, 3) := rfl
theorem FT_X7_25 : am_find FT_X7 25 = some (7, 4) := rfl
theorem PT_X7_18 : am_find PT_X7 18 = some (7, 2) := rfl
theorem PT_X7_22 : am_find PT_X7 22 = some (7, 3) := rfl
theorem PT_X7_25 : am_find PT_X7 25 = some (7, 4) := rfl
theorem PI_X7_11 : am_find PI_X7 11 = some (7, 0) := rfl
theorem PI_X7_15 : am_find PI_X7 15 = some (7, 1) := rfl
theorem PI_X7_18 : am_find PI_X7 18 = some (7, 2) := rfl
theorem PI_X7_22 : am_find PI_X7 22 = some (7, 3) := rfl
theorem PI_X7_25 : am_find PI_X7 25 = some (7, 4) := rfl
def CT_X7 : List (Nat × Nat) := []
theorem CT_X7_ok : ∀ q ∈ CT_X7, am_CC TB vwCl RX7 q := fun _ h => absurd h List.not_mem_nil
def KT_X7 : List (Nat × Int32) := []
theorem KT_X7_ok : ∀ q ∈ KT_X7, Cond.constant RX7 q.1 q.2 ∈ TB := fun _ h => absurd h List.not_mem_nil
def LT_X7 : List (Nat × Int64) := []
theorem LT_X7_ok : ∀ q ∈ LT_X7, Cond.constantLong RX7 q.1 q.2 ∈ TB := fun _ h => absurd h List.not_mem_nil
def NT_X7 : List (Nat × Nat) := [(1, 3), (38, 1)]
theorem NT_X7_ok : ∀ q ∈ NT_X7, am_NO TB RX7 q := List.forall_mem_cons.mpr ⟨⟨tb_at 355 (by decide +kernel) (by decide +kernel), tb_at 134 (by decide +kernel) (by decide +kernel), tb_at 135 (by decide +kernel) (by decide +kernel)⟩, List.forall_mem_cons.mpr ⟨⟨tb_at 870 (by decide +kernel) (by decide +kernel), tb_at 545 (by decide +kernel) (by decide +kernel), tb_at 125 (by decide +kernel) (by decide +kernel), tb_at 546 (by decide +kernel) (by decide +kernel)⟩, fun _ h => absurd h List.not_mem_nil⟩⟩
def FT_X8 : List (Nat × Nat × Nat) := [(9, 8, 0), (13, 8, 1), (17, 8, 2), (20, 8, 3), (23, 8, 4)]
theorem FT_X8_ok : ∀ q ∈ FT_X8, am_FO TB vwCl RX8 q := List.forall_mem_cons.mpr ⟨⟨(RX8, TX8, 5), rfl, by decide, tb_at 286 (by decide +kernel) (by decide +kernel)⟩, List.forall_mem_cons.mpr ⟨⟨(RX8, TX8, 5), rfl, by decide, tb_at 287 (by decide +kernel) (by decide +kernel)⟩, List.forall_mem_cons.mpr ⟨⟨(RX8, TX8, 5), rfl, by decide, tb_at 288 (by decide +kernel) (by decide +kernel)⟩, List.forall_mem_cons.mpr ⟨⟨(RX8, TX8, 5), rfl, by decide, tb_at 289 (by decide +kernel) (by decide +kernel)⟩, List.forall_mem_cons.mpr ⟨⟨(RX8, TX8, 5), rfl, by decide, tb_at 290 (by decide +kernel) (by decide +kernel)⟩, fun _ h => absurd h List.not_mem_nil⟩⟩⟩⟩⟩
def PT_X8 : List (Nat × Nat × Nat) := [(23, 8, 4)]
theorem PT_X8_ok (nm : String) : ∀ q ∈ PT_X8, am_PO TB vwCl RX8 nm q := List.forall_mem_cons.mpr ⟨⟨(RX8, TX8, 5), rfl, by decide, tb_at 290 (by decide +kernel) (by decide +kernel), Or.inl rfl⟩, fun _ h => absurd h List.not_mem_nil⟩
def PI_X8 : List (Nat × Nat × Nat) := [(9, 8, 0), (13, 8, 1), (17, 8, 2), (20, 8, 3), (23, 8, 4)]
theorem PI_X8_ok : ∀ q ∈ PI_X8, am_PO TB vwCl RX8 "<init>" q := List.forall_mem_cons.mpr ⟨⟨(RX8, TX8, 5), rfl, by decide, tb_at 286 (by decide +kernel) (by decide +kernel), Or.inr ⟨rfl, rfl, rfl⟩⟩, List.forall_mem_cons.mpr ⟨⟨(RX8, TX8, 5), rfl, by decide, tb_at 287 (by decide +kernel) (by decide +kernel), Or.inr ⟨rfl, rfl, rfl⟩⟩, List.forall_mem_cons.mpr ⟨⟨(RX8, TX8, 5), rfl, by decide, tb_at 288 (by decide +kernel) (by decide +kernel), Or.inr ⟨rfl, rfl, rfl⟩⟩, List.forall_mem_cons.mpr ⟨⟨(RX8, TX8, 5), rfl, by decide, tb_at 289 (by decide +kernel) (by decide +kernel), Or.inr ⟨rfl, rfl, rfl⟩⟩, List.forall_mem_cons.mpr ⟨⟨(RX8, TX8, 5), rfl, by decide, tb_at 290 (by decide +kernel) (by decide +kernel), Or.inl rfl⟩, fun _ h => absurd h List.not_mem_nil⟩⟩⟩⟩⟩
theorem FT_X8_9 : am_find FT_X8 9 = some (8, 0) := rfl
theorem FT_X8_13 : am_find FT_X8 13 = some (8, 1) := rfl
theorem FT_X8_17 : am_find FT_X8 17 = some (8, 2) := rfl
theorem FT_X8_20 : am_find FT_X8 20 = some (8, 3) := rfl
theorem FT_X8_23 : am_find FT_X8 23 = some (8, 4) := rfl
theorem PT_X8_23 : am_find PT_X8 23 = some (8, 4) := rfl
theorem PI_X8_9 : am_find PI_X8 9 = some (8, 0) := rfl
theorem PI_X8_13 : am_find PI_X8 13 = some (8, 1) := rfl
theorem PI_X8_17 : am_find PI_X8 17 = some (8, 2) := rfl
theorem PI_X8_20 : am_find PI_X8 20 = some (8, 3) := rfl
theorem PI_X8_23 : am_find PI_X8 23 = some (8, 4) := rfl
def CT_X8 : List (Nat × Nat) := []
theorem CT_X8_ok : ∀ q ∈ CT_X8, am_CC TB vwCl RX8 q := fun _ h => absurd h List.not_mem_nil
def KT_X8 : List (Nat × Int32) := []
theorem KT_X8_ok : ∀ q ∈ KT_X8, Cond.constant RX8 q.1 q.2 ∈ TB := fun _ h => absurd h List.not_mem_nil
def LT_X8 : List (Nat × Int64) := [(43, 27)]
theorem LT_X8_ok : ∀ q ∈ LT_X8, Cond.constantLong RX8 q.1 q.2 ∈ TB := List.forall_mem_cons.mpr ⟨tb_at 285 (by decide +kernel) (by decide +kernel), fun _ h => absurd h List.not_mem_nil⟩
def NT_X8 : List (Nat × Nat) := [(1, 3), (45, 1)]
theorem NT_X8_ok : ∀ q ∈ NT_X8, am_NO TB RX8 q := List.forall_mem_cons.mpr ⟨⟨tb_at 232 (by decide +kernel) (by decide +kernel), tb_at 134 (by decide +kernel) (by decide +kernel), tb_at 135 (by decide +kernel) (by decide +kernel)⟩, List.forall_mem_cons.mpr ⟨⟨tb_at 544 (by decide +kernel) (by decide +kernel), tb_at 545 (by decide +kernel) (by decide +kernel), tb_at 125 (by decide +kernel) (by decide +kernel), tb_at 546 (by decide +kernel) (by decide +kernel)⟩, fun _ h => absurd h List.not_mem_nil⟩⟩
def FT_X9 : List (Nat × Nat × Nat) := [(9, 9, 0), (15, 9, 1), (18, 9, 2), (24, 9, 3), (28, 9, 4), (32, 9, 5), (35, 9, 6), (38, 9, 7)]
theorem FT_X9_ok : ∀ q ∈ FT_X9, am_FO TB vwCl RX9 q := List.forall_mem_cons.mpr ⟨⟨(RX9, TX9, 8), rfl, by decide, tb_at 187 (by decide +kernel) (by decide +kernel)⟩, List.forall_mem_cons.mpr ⟨⟨(RX9, TX9, 8), rfl, by decide, tb_at 193 (by decide +kernel) (by decide +kernel)⟩, List.forall_mem_cons.mpr ⟨⟨(RX9, TX9, 8), rfl, by decide, tb_at 200 (by decide +kernel) (by decide +kernel)⟩, List.forall_mem_cons.mpr ⟨⟨(RX9, TX9, 8), rfl, by decide, tb_at 204 (by decide +kernel) (by decide +kernel)⟩, List.forall_mem_cons.mpr ⟨⟨(RX9, TX9, 8), rfl, by decide, tb_at 206 (by decide +kernel) (by decide +kernel)⟩, List.forall_mem_cons.mpr ⟨⟨(RX9, TX9, 8), rfl, by decide, tb_at 207 (by decide +kernel) (by decide +kernel)⟩, List.forall_mem_cons.mpr ⟨⟨(RX9, TX9, 8), rfl, by decide, tb_at 208 (by decide +kernel) (by decide +kernel)⟩, List.forall_mem_cons.mpr ⟨⟨(RX9, TX9, 8), rfl, by decide, tb_at 209 (by decide +kernel) (by decide +kernel)⟩, fun _ h => absurd h List.not_mem_nil⟩⟩⟩⟩⟩⟩⟩⟩
def PT_X9 : List (Nat × Nat × Nat) := [(9, 9, 0), (15, 9, 1), (18, 9, 2)]
theorem PT_X9_ok (nm : String) : ∀ q ∈ PT_X9, am_PO TB vwCl RX9 nm q := List.forall_mem_cons.mpr ⟨⟨(RX9, TX9, 8), rfl, by decide, tb_at 187 (by decide +kernel) (by decide +kernel), Or.inl rfl⟩, List.forall_mem_cons.mpr ⟨⟨(RX9, TX9, 8), rfl, by decide, tb_at 193 (by decide +kernel) (by decide +kernel), Or.inl rfl⟩, List.forall_mem_cons.mpr ⟨⟨(RX9, TX9, 8), rfl, by decide, tb_at 200 (by decide +kernel) (by decide +kernel), Or.inl rfl⟩, fun _ h => absurd h List.not_mem_nil⟩⟩⟩
def PI_X9 : List (Nat × Nat × Nat) := [(9, 9, 0), (15, 9, 1), (18, 9, 2), (24, 9, 3), (28, 9, 4), (32, 9, 5), (35, 9, 6), (38, 9, 7)]
theorem PI_X9_ok : ∀ q ∈ PI_X9, am_PO TB vwCl RX9 "<init>" q := List.forall_mem_cons.mpr ⟨⟨(RX9, TX9, 8), rfl, by decide, tb_at 187 (by decide +kernel) (by decide +kernel), Or.inl rfl⟩, List.forall_mem_cons.mpr ⟨⟨(RX9, TX9, 8), rfl, by decide, tb_at 193 (by decide +kernel) (by decide +kernel), Or.inl rfl⟩, List.forall_mem_cons.mpr ⟨⟨(RX9, TX9, 8), rfl, by decide, tb_at 200 (by decide +kernel) (by decide +kernel), Or.inl rfl⟩, List.forall_mem_cons.mpr ⟨⟨(RX9, TX9, 8), rfl, by decide, tb_at 204 (by decide +kernel) (by decide +kernel), Or.inr ⟨rfl, rfl, rfl⟩⟩, List.forall_mem_cons.mpr ⟨⟨(RX9, TX9, 8), rfl, by decide, tb_at 206 (by decide +kernel) (by decide +kernel), Or.inr ⟨rfl, rfl, rfl⟩⟩, List.forall_mem_cons.mpr ⟨⟨(RX9, TX9, 8), rfl, by decide, tb_at 207 (by decide +kernel) (by decide +kernel), Or.inr ⟨rfl, rfl, rfl⟩⟩, List.forall_mem_cons.mpr ⟨⟨(RX9, TX9, 8), rfl, by decide, tb_at 208 (by decide +kernel) (by decide +kernel), Or.inr ⟨rfl, rfl, rfl⟩⟩, List.forall_mem_cons.mpr ⟨⟨(RX9, TX9, 8), rfl, by decide, tb_at 209 (by decide +kernel) (by decide +kernel), Or.inr ⟨rfl, rfl, rfl⟩⟩, fun _ h => absurd h List.not_mem_nil⟩⟩⟩⟩⟩⟩⟩⟩
theorem FT_X9_9 : am_find FT_X9 9 = some (9, 0) := rfl
theorem FT_X9_15 : am_find FT_X9 15 = some (9, 1) := rfl
theorem FT_X9_18 : am_find FT_X9 18 = some (9, 2) := rfl
theorem FT_X9_24 : am_find FT_X9 24 = some (9, 3) := rfl
theorem FT_X9_28 : am_find FT_X9 28 = some (9, 4) := rfl
theorem FT_X9_32 : am_find FT_X9 32 = some (9, 5) := rfl
theorem FT_X9_35 : am_find FT_X9 35 = some (9, 6) := rfl
theorem FT_X9_38 : am_find FT_X9 38 = some (9, 7) := rfl
theorem PT_X9_9 : am_find PT_X9 9 = some (9, 0) := rfl
theorem PT_X9_15 : am_find PT_X9 15 = some (9, 1) := rfl
theorem PT_X9_18 : am_find PT_X9 18 = some (9, 2) := rfl
theorem PI_X9_9 : am_find PI_X9 9 = some (9, 0) := rfl
theorem PI_X9_15 : am_find PI_X9 15 = some (9, 1) := rfl
theorem PI_X9_18 : am_find PI_X9 18 = some (9, 2) := rfl
theorem PI_X9_24 : am_find PI_X9 24 = some (9, 3) := rfl
theorem PI_X9_28 : am_find PI_X9 28 = some (9, 4) := rfl
theorem PI_X9_32 : am_find PI_X9 32 = some (9, 5) := rfl
theorem PI_X9_35 : am_find PI_X9 35 = some (9, 6) := rfl
theorem PI_X9_38 : am_find PI_X9 38 = some (9, 7) := rfl
def CT_X9 : List (Nat × Nat) := [(21, 2)]
theorem CT_X9_ok : ∀ q ∈ CT_X9, am_CC TB vwCl RX9 q := List.forall_mem_cons.mpr ⟨⟨(RX2, TX2, 6), rfl, tb_at 148 (by decide +kernel) (by decide +kernel), tb_at 149 (by decide +kernel) (by decide +kernel), tb_at 110 (by decide +kernel) (by decide +kernel)⟩, fun _ h => absurd h List.not_mem_nil⟩
def KT_X9 : List (Nat × Int32) := []
theorem KT_X9_ok : ∀ q ∈ KT_X9, Cond.constant RX9 q.1 q.2 ∈ TB := fun _ h => absurd h List.not_mem_nil
def LT_X9 : List (Nat × Int64) := []
theorem LT_X9_ok : ∀ q ∈ LT_X9, Cond.constantLong RX9 q.1 q.2 ∈ TB := fun _ h => absurd h List.not_mem_nil
def NT_X9 : List (Nat × Nat) := [(3, 3), (48, 4)]
theorem NT_X9_ok : ∀ q ∈ NT_X9, am_NO TB RX9 q := List.forall_mem_cons.mpr ⟨⟨tb_at 147 (by decide +kernel) (by decide +kernel), tb_at 134 (by decide +kernel) (by decide +kernel), tb_at 135 (by decide +kernel) (by decide +kernel)⟩, List.forall_mem_cons.mpr ⟨⟨tb_at 681 (by decide +kernel) (by decide +kernel), tb_at 680 (by decide +kernel) (by decide +kernel), tb_at 679 (by decide +kernel) (by decide +kernel), tb_at 126 (by decide +kernel) (by decide +kernel)⟩, fun _ h => absurd h List.not_mem_nil⟩⟩
def FT_X10 : List (Nat × Nat × Nat) := [(9, 10, 2), (15, 10, 3), (18, 10, 4), (21, 10, 0), (25, 10, 1)]
theorem FT_X10_ok : ∀ q ∈ FT_X10, am_FO TB vwCl RX10 q := List.forall_mem_cons.mpr ⟨⟨(RX10, TX10, 5), rfl, by decide, tb_at 393 (by decide +kernel) (by decide +kernel)⟩, List.forall_mem_cons.mpr ⟨⟨(RX10, TX10, 5), rfl, by decide, tb_at 394 (by decide +kernel) (by decide +kernel)⟩, List.forall_mem_cons.mpr ⟨⟨(RX10, TX10, 5), rfl, by decide, tb_at 395 (by decide +kernel) (by decide +kernel)⟩, List.forall_mem_cons.mpr ⟨⟨(RX10, TX10, 5), rfl, by decide, tb_at 391 (by decide +kernel) (by decide +kernel)⟩, List.forall_mem_cons.mpr ⟨⟨(RX10, TX10, 5), rfl, by decide, tb_at 392 (by decide +kernel) (by decide +kernel)⟩, fun _ h => absurd h List.not_mem_nil⟩⟩⟩⟩⟩
def PT_X10 : List (Nat × Nat × Nat) := [(15, 10, 3), (18, 10, 4)]
theorem PT_X10_ok (nm : String) : ∀ q ∈ PT_X10, am_PO TB vwCl RX10 nm q := List.forall_mem_cons.mpr ⟨⟨(RX10, TX10, 5), rfl, by decide, tb_at 394 (by decide +kernel) (by decide +kernel), Or.inl rfl⟩, List.forall_mem_cons.mpr ⟨⟨(RX10, TX10, 5), rfl, by decide, tb_at 395 (by decide +kernel) (by decide +kernel), Or.inl rfl⟩, fun _ h => absurd h List.not_mem_nil⟩⟩
def PI_X10 : List (Nat × Nat × Nat) := [(9, 10, 2), (15, 10, 3), (18, 10, 4), (21, 10, 0), (25, 10, 1)]
theorem PI_X10_ok : ∀ q ∈ PI_X10, am_PO TB vwCl RX10 "<init>" q := List.forall_mem_cons.mpr ⟨⟨(RX10, TX10, 5), rfl, by decide, tb_at 393 (by decide +kernel) (by decide +kernel), Or.inr ⟨rfl, rfl, rfl⟩⟩, List.forall_mem_cons.mpr ⟨⟨(RX10, TX10, 5), rfl, by decide, tb_at 394 (by decide +kernel) (by decide +kernel), Or.inl rfl⟩, List.forall_mem_cons.mpr ⟨⟨(RX10, TX10, 5), rfl, by decide, tb_at 395 (by decide +kernel) (by decide +kernel), Or.inl rfl⟩, List.forall_mem_cons.mpr ⟨⟨(RX10, TX10, 5), rfl, by decide, tb_at 391 (by decide +kernel) (by decide +kernel), Or.inr ⟨rfl, rfl, rfl⟩⟩, List.forall_mem_cons.mpr ⟨⟨(RX10, TX10, 5), rfl, by decide, tb_at 392 (by decide +kernel) (by decide +kernel), Or.inr ⟨rfl, rfl, rfl⟩⟩, fun _ h => absurd h List.not_mem_nil⟩⟩⟩⟩⟩
theorem FT_X10_9 : am_find FT_X10 9 = some (10, 2) := rfl
theorem FT_X10_15 : am_find FT_X10 15 = some (10, 3) := rfl
theorem FT_X10_18 : am_find FT_X10 18 = some (10, 4) := rfl
theorem FT_X10_21 : am_find FT_X10 21 = some (10, 0) := rfl
theorem FT_X10_25 : am_find FT_X10 25 = some (10, 1) := rfl
theorem PT_X10_15 : am_find PT_X10 15 = some (10, 3) := rfl
theorem PT_X10_18 : am_find PT_X10 18 = some (10, 4) := rfl
theorem PI_X10_9 : am_find PI_X10 9 = some (10, 2) := rfl
theorem PI_X10_15 : am_find PI_X10 15 = some (10, 3) := rfl
theorem PI_X10_18 : am_find PI_X10 18 = some (10, 4) := rfl
theorem PI_X10_21 : am_find PI_X10 21 = some (10, 0) := rfl
theorem PI_X10_25 : am_find PI_X10 25 = some (10, 1) := rfl
def CT_X10 : List (Nat × Nat) := []
theorem CT_X10_ok : ∀ q ∈ CT_X10, am_CC TB vwCl RX10 q := fun _ h => absurd h List.not_mem_nil
def KT_X10 : List (Nat × Int32) := []
theorem KT_X10_ok : ∀ q ∈ KT_X10, Cond.constant RX10 q.1 q.2 ∈ TB := fun _ h => absurd h List.not_mem_nil
def LT_X10 : List (Nat × Int64) := []
theorem LT_X10_ok : ∀ q ∈ LT_X10, Cond.constantLong RX10 q.1 q.2 ∈ TB := fun _ h => absurd h List.not_mem_nil
def NT_X10 : List (Nat × Nat) := [(3, 3), (97, 0)]
theorem NT_X10_ok : ∀ q ∈ NT_X10, am_NO TB RX10 q := List.forall_mem_cons.mpr ⟨⟨tb_at 390 (by decide +kernel) (by decide +kernel), tb_at 134 (by decide +kernel) (by decide +kernel), tb_at 135 (by decide +kernel) (by decide +kernel)⟩, List.forall_mem_cons.mpr ⟨⟨tb_at 1037 (by decide +kernel) (by decide +kernel), tb_at 752 (by decide +kernel) (by decide +kernel), tb_at 125 (by decide +kernel) (by decide +kernel), tb_at 753 (by decide +kernel) (by decide +kernel)⟩, fun _ h => absurd h List.not_mem_nil⟩⟩
def FT_X11 : List (Nat × Nat × Nat) := [(9, 11, 0), (13, 11, 1), (17, 11, 2), (23, 11, 3), (30, 11, 4), (37, 11, 5), (41, 11, 6), (47, 11, 7), (56, 11, 8), (65, 11, 9), (72, 11, 10), (79, 11, 11), (86, 11, 12), (90, 11, 13), (120, 5, 0), (184, 9, 0), (187, 9, 1), (242, 9, 2)]
theorem FT_X11_ok : ∀ q ∈ FT_X11, am_FO TB vwCl RX11 q := List.forall_mem_cons.mpr ⟨⟨(RX11, TX11, 14), rfl, by decide, tb_at 477 (by decide +kernel) (by decide +kernel)⟩, List.forall_mem_cons.mpr ⟨⟨(RX11, TX11, 14), rfl, by decide, tb_at 478 (by decide +kernel) (by decide +kernel)⟩, List.forall_mem_cons.mpr ⟨⟨(RX11, TX11, 14), rfl, by decide, tb_at 479 (by decide +kernel) (by decide +kernel)⟩, List.forall_mem_cons.mpr ⟨⟨(RX11, TX11, 14), rfl, by decide, tb_at 480 (by decide +kernel) (by decide +kernel)⟩, List.forall_mem_cons.mpr ⟨⟨(RX11, TX11, 14), rfl, by decide, tb_at 481 (by decide +kernel) (by decide +kernel)⟩, List.forall_mem_cons.mpr ⟨⟨(RX11, TX11, 14), rfl, by decide, tb_at 482 (by decide +kernel) (by decide +kernel)⟩, List.forall_mem_cons.mpr ⟨⟨(RX11, TX11, 14), rfl, by decide, tb_at 483 (by decide +kernel) (by decide +kernel)⟩, List.forall_mem_cons.mpr ⟨⟨(RX11, TX11, 14), rfl, by decide, tb_at 484 (by decide +kernel) (by decide +kernel)⟩, List.forall_mem_cons.mpr ⟨⟨(RX11, TX11, 14), rfl, by decide, tb_at 485 (by decide +kernel) (by decide +kernel)⟩, List.forall_mem_cons.mpr ⟨⟨(RX11, TX11, 14), rfl, by decide, tb_at 486 (by decide +kernel) (by decide +kernel)⟩, List.forall_mem_cons.mpr ⟨⟨(RX11, TX11, 14), rfl, by decide, tb_at 487 (by decide +kernel) (by decide +kernel)⟩, List.forall_mem_cons.mpr ⟨⟨(RX11, TX11, 14), rfl, by decide, tb_at 488 (by decide +kernel) (by decide +kernel)⟩, List.forall_mem_cons.mpr ⟨⟨(RX11, TX11, 14), rfl, by decide, tb_at 489 (by decide +kernel) (by decide +kernel)⟩, List.forall_mem_cons.mpr ⟨⟨(RX11, TX11, 14), rfl, by decide, tb_at 490 (by decide +kernel) (by decide +kernel)⟩, List.forall_mem_cons.mpr ⟨⟨(RX5, TX5, 11), rfl, by decide, tb_at 304 (by decide +kernel) (by decide +kernel)⟩, List.forall_mem_cons.mpr ⟨⟨(RX9, TX9, 8), rfl, by decide, tb_at 192 (by decide +kernel) (by decide +kernel)⟩, List.forall_mem_cons.mpr ⟨⟨(RX9, TX9, 8), rfl, by decide, tb_at 198 (by decide +kernel) (by decide +kernel)⟩, List.forall_mem_cons.mpr ⟨⟨(RX9, TX9, 8), rfl, by decide, tb_at 202 (by decide +kernel) (by decide +kernel)⟩, fun _ h => absurd h List.not_mem_nil⟩⟩⟩⟩⟩⟩⟩⟩⟩⟩⟩⟩⟩⟩⟩⟩⟩⟩
def PT_X11 : List (Nat × Nat × Nat) := [(13, 11, 1), (17, 11, 2), (184, 9, 0), (187, 9, 1), (242, 9, 2)]
theorem PT_X11_ok (nm : String) : ∀ q ∈ PT_X11, am_PO TB vwCl RX11 nm q := List.forall_mem_cons.mpr ⟨⟨(RX11, TX11, 14), rfl, by decide, tb_at 478 (by decide +kernel) (by decide +kernel), Or.inl rfl⟩, List.forall_mem_cons.mpr ⟨⟨(RX11, TX11, 14), rfl, by decide, tb_at 479 (by decide +kernel) (by decide +kernel), Or.inl rfl⟩, List.forall_mem_cons.mpr ⟨⟨(RX9, TX9, 8), rfl, by decide, tb_at 192 (by decide +kernel) (by decide +kernel), Or.inl rfl⟩, List.forall_mem_cons.mpr ⟨⟨(RX9, TX9, 8), rfl, by decide, tb_at 198 (by decide +kernel) (by decide +kernel), Or.inl rfl⟩, List.forall_mem_cons.mpr ⟨⟨(RX9, TX9, 8), rfl, by decide, tb_at 202 (by decide +kernel) (by decide +kernel), Or.inl rfl⟩, fun _ h => absurd h List.not_mem_nil⟩⟩⟩⟩⟩
def PI_X11 : List (Nat × Nat × Nat) := [(9, 11, 0), (13, 11, 1), (17, 11, 2), (23, 11, 3), (30, 11, 4), (37, 11, 5), (41, 11, 6), (47, 11, 7), (56, 11, 8), (65, 11, 9), (72, 11, 10), (79, 11, 11), (86, 11, 12), (90, 11, 13), (184, 9, 0), (187, 9, 1), (242, 9, 2)]
theorem PI_X11_ok : ∀ q ∈ PI_X11, am_PO TB vwCl RX11 "<init>" q := List.forall_mem_cons.mpr ⟨⟨(RX11, TX11, 14), rfl, by decide, tb_at 477 (by decide +kernel) (by decide +kernel), Or.inr ⟨rfl, rfl, rfl⟩⟩, List.forall_mem_cons.mpr ⟨⟨(RX11, TX11, 14), rfl, by decide, tb_at 478 (by decide +kernel) (by decide +kernel), Or.inl rfl⟩, List.forall_mem_cons.mpr ⟨⟨(RX11, TX11, 14), rfl, by decide, tb_at 479 (by decide +kernel) (by decide +kernel), Or.inl rfl⟩, List.forall_mem_cons.mpr ⟨⟨(RX11, TX11, 14), rfl, by decide, tb_at 480 (by decide +kernel) (by decide +kernel), Or.inr ⟨rfl, rfl, rfl⟩⟩, List.forall_mem_cons.mpr ⟨⟨(RX11, TX11, 14), rfl, by decide, tb_at 481 (by decide +kernel) (by decide +kernel), Or.inr ⟨rfl, rfl, rfl⟩⟩, List.forall_mem_cons.mpr ⟨⟨(RX11, TX11, 14), rfl, by decide, tb_at 482 (by decide +kernel) (by decide +kernel), Or.inr ⟨rfl, rfl, rfl⟩⟩, List.forall_mem_cons.mpr ⟨⟨(RX11, TX11, 14), rfl, by decide, tb_at 483 (by decide +kernel) (by decide +kernel), Or.inr ⟨rfl, rfl, rfl⟩⟩, List.forall_mem_cons.mpr ⟨⟨(RX11, TX11, 14), rfl, by decide, tb_at 484 (by decide +kernel) (by decide +kernel), Or.inr ⟨rfl, rfl, rfl⟩⟩, List.forall_mem_cons.mpr ⟨⟨(RX11, TX11, 14), rfl, by decide, tb_at 485 (by decide +kernel) (by decide +kernel), Or.inr ⟨rfl, rfl, rfl⟩⟩, List.forall_mem_cons.mpr ⟨⟨(RX11, TX11, 14), rfl, by decide, tb_at 486 (by decide +kernel) (by decide +kernel), Or.inr ⟨rfl, rfl, rfl⟩⟩, List.forall_mem_cons.mpr ⟨⟨(RX11, TX11, 14), rfl, by decide, tb_at 487 (by decide +kernel) (by decide +kernel), Or.inr ⟨rfl, rfl, rfl⟩⟩, List.forall_mem_cons.mpr ⟨⟨(RX11, TX11, 14), rfl, by decide, tb_at 488 (by decide +kernel) (by decide +kernel), Or.inr ⟨rfl, rfl, rfl⟩⟩, List.forall_mem_cons.mpr ⟨⟨(RX11, TX11, 14), rfl, by decide, tb_at 489 (by decide +kernel) (by decide +kernel), Or.inr ⟨rfl, rfl, rfl⟩⟩, List.forall_mem_cons.mpr ⟨⟨(RX11, TX11, 14), rfl, by decide, tb_at 490 (by decide +kernel) (by decide +kernel), Or.inr ⟨rfl, rfl, rfl⟩⟩, List.forall_mem_cons.mpr ⟨⟨(RX9, TX9, 8), rfl, by decide, tb_at 192 (by decide +kernel) (by decide +kernel), Or.inl rfl⟩, List.forall_mem_cons.mpr ⟨⟨(RX9, TX9, 8), rfl, by decide, tb_at 198 (by decide +kernel) (by decide +kernel), Or.inl rfl⟩, List.forall_mem_cons.mpr ⟨⟨(RX9, TX9, 8), rfl, by decide, tb_at 202 (by decide +kernel) (by decide +kernel), Or.inl rfl⟩, fun _ h => absurd h List.not_mem_nil⟩⟩⟩⟩⟩⟩⟩⟩⟩⟩⟩⟩⟩⟩⟩⟩⟩
theorem FT_X11_9 : am_find FT_X11 9 = some (11, 0) := rfl
theorem FT_X11_13 : am_find FT_X11 13 = some (11, 1) := rfl
theorem FT_X11_17 : am_find FT_X11 17 = some (11, 2) := rfl
theorem FT_X11_23 : am_find FT_X11 23 = some (11, 3) := rfl
theorem FT_X11_30 : am_find FT_X11 30 = some (11, 4) := rfl
theorem FT_X11_37 : am_find FT_X11 37 = some (11, 5) := rfl
theorem FT_X11_41 : am_find FT_X11 41 = some (11, 6) := rfl
theorem FT_X11_47 : am_find FT_X11 47 = some (11, 7) := rfl
theorem FT_X11_56 : am_find FT_X11 56 = some (11, 8) := rfl
theorem FT_X11_65 : am_find FT_X11 65 = some (11, 9) := rfl
theorem FT_X11_72 : am_find FT_X11 72 = some (11, 10) := rfl
theorem FT_X11_79 : am_find FT_X11 79 = some (11, 11) := rfl
theorem FT_X11_86 : am_find FT_X11 86 = some (11, 12) := rfl
theorem FT_X11_90 : am_find FT_X11 90 = some (11, 13) := rfl
theorem FT_X11_120 : am_find FT_X11 120 = some (5, 0) := rfl
theorem FT_X11_184 : am_find FT_X11 184 = some (9, 0) := rfl
theorem FT_X11_187 : am_find FT_X11 187 = some (9, 1) := rfl
theorem FT_X11_242 : am_find FT_X11 242 = some (9, 2) := rfl
theorem PT_X11_13 : am_find PT_X11 13 = some (11, 1) := rfl
theorem PT_X11_17 : am_find PT_X11 17 = some (11, 2) := rfl
theorem PT_X11_184 : am_find PT_X11 184 = some (9, 0) := rfl
theorem PT_X11_187 : am_find PT_X11 187 = some (9, 1) := rfl
theorem PT_X11_242 : am_find PT_X11 242 = some (9, 2) := rfl
theorem PI_X11_9 : am_find PI_X11 9 = some (11, 0) := rfl
theorem PI_X11_13 : am_find PI_X11 13 = some (11, 1) := rfl
theorem PI_X11_17 : am_find PI_X11 17 = some (11, 2) := rfl
theorem PI_X11_23 : am_find PI_X11 23 = some (11, 3) := rfl
theorem PI_X11_30 : am_find PI_X11 30 = some (11, 4) := rfl
theorem PI_X11_37 : am_find PI_X11 37 = some (11, 5) := rfl
theorem PI_X11_41 : am_find PI_X11 41 = some (11, 6) := rfl
theorem PI_X11_47 : am_find PI_X11 47 = some (11, 7) := rfl
theorem PI_X11_56 : am_find PI_X11 56 = some (11, 8) := rfl
theorem PI_X11_65 : am_find PI_X11 65 = some (11, 9) := rfl
theorem PI_X11_72 : am_find PI_X11 72 = some (11, 10) := rfl
theorem PI_X11_79 : am_find PI_X11 79 = some (11, 11) := rfl
theorem PI_X11_86 : am_find PI_X11 86 = some (11, 12) := rfl
theorem PI_X11_90 : am_find PI_X11 90 = some (11, 13) := rfl
theorem PI_X11_184 : am_find PI_X11 184 = some (9, 0) := rfl
theorem PI_X11_187 : am_find PI_X11 187 = some (9, 1) := rfl
theorem PI_X11_242 : am_find PI_X11 242 = some (9, 2) := rfl
def CT_X11 : List (Nat × Nat) := [(20, 5), (27, 9), (34, 4), (44, 7), (51, 0), (60, 10), (69, 3), (76, 1), (83, 6)]
theorem CT_X11_ok : ∀ q ∈ CT_X11, am_CC TB vwCl RX11 q := List.forall_mem_cons.mpr ⟨⟨(RX5, TX5, 11), rfl, tb_at 136 (by decide +kernel) (by decide +kernel), tb_at 137 (by decide +kernel) (by decide +kernel), tb_at 108 (by decide +kernel) (by decide +kernel)⟩, List.forall_mem_cons.mpr ⟨⟨(RX9, TX9, 8), rfl, tb_at 338 (by decide +kernel) (by decide +kernel), tb_at 143 (by decide +kernel) (by decide +kernel), tb_at 109 (by decide +kernel) (by decide +kernel)⟩, List.forall_mem_cons.mpr ⟨⟨(RX4, TX4, 1), rfl, tb_at 340 (by decide +kernel) (by decide +kernel), tb_at 341 (by decide +kernel) (by decide +kernel), tb_at 116 (by decide +kernel) (by decide +kernel)⟩, List.forall_mem_cons.mpr ⟨⟨(RX7, TX7, 5), rfl, tb_at 350 (by decide +kernel) (by decide +kernel), tb_at 351 (by decide +kernel) (by decide +kernel), tb_at 117 (by decide +kernel) (by decide +kernel)⟩, List.forall_mem_cons.mpr ⟨⟨(RX0, TX0, 2), rfl, tb_at 372 (by decide +kernel) (by decide +kernel), tb_at 373 (by decide +kernel) (by decide +kernel), tb_at 118 (by decide +kernel) (by decide +kernel)⟩, List.forall_mem_cons.mpr ⟨⟨(RX10, TX10, 5), rfl, tb_at 385 (by decide +kernel) (by decide +kernel), tb_at 386 (by decide +kernel) (by decide +kernel), tb_at 119 (by decide +kernel) (by decide +kernel)⟩, List.forall_mem_cons.mpr ⟨⟨(RX3, TX3, 2), rfl, tb_at 407 (by decide +kernel) (by decide +kernel), tb_at 408 (by decide +kernel) (by decide +kernel), tb_at 120 (by decide +kernel) (by decide +kernel)⟩, List.forall_mem_cons.mpr ⟨⟨(RX1, TX1, 4), rfl, tb_at 420 (by decide +kernel) (by decide +kernel), tb_at 421 (by decide +kernel) (by decide +kernel), tb_at 121 (by decide +kernel) (by decide +kernel)⟩, List.forall_mem_cons.mpr ⟨⟨(RX6, TX6, 4), rfl, tb_at 439 (by decide +kernel) (by decide +kernel), tb_at 440 (by decide +kernel) (by decide +kernel), tb_at 122 (by decide +kernel) (by decide +kernel)⟩, fun _ h => absurd h List.not_mem_nil⟩⟩⟩⟩⟩⟩⟩⟩⟩
def KT_X11 : List (Nat × Int32) := [(359, 1103515245)]
theorem KT_X11_ok : ∀ q ∈ KT_X11, Cond.constant RX11 q.1 q.2 ∈ TB := List.forall_mem_cons.mpr ⟨tb_at 943 (by decide +kernel) (by decide +kernel), fun _ h => absurd h List.not_mem_nil⟩
def LT_X11 : List (Nat × Int64) := []
theorem LT_X11_ok : ∀ q ∈ LT_X11, Cond.constantLong RX11 q.1 q.2 ∈ TB := fun _ h => absurd h List.not_mem_nil
def NT_X11 : List (Nat × Nat) := [(1, 3), (175, 2)]
theorem NT_X11_ok : ∀ q ∈ NT_X11, am_NO TB RX11 q := List.forall_mem_cons.mpr ⟨⟨tb_at 133 (by decide +kernel) (by decide +kernel), tb_at 134 (by decide +kernel) (by decide +kernel), tb_at 135 (by decide +kernel) (by decide +kernel)⟩, List.forall_mem_cons.mpr ⟨⟨tb_at 786 (by decide +kernel) (by decide +kernel), tb_at 787 (by decide +kernel) (by decide +kernel), tb_at 125 (by decide +kernel) (by decide +kernel), tb_at 788 (by decide +kernel) (by decide +kernel)⟩, fun _ h => absurd h List.not_mem_nil⟩⟩
def FT_X12 : List (Nat × Nat × Nat) := [(13, 12, 1), (17, 12, 3), (20, 12, 5), (24, 12, 6), (27, 12, 7), (30, 12, 8), (34, 12, 9), (37, 12, 17), (40, 12, 21), (43, 12, 22), (46, 12, 23), (49, 12, 24), (52, 12, 25), (55, 12, 26), (58, 12, 27), (61, 12, 28), (64, 12, 29), (67, 12, 30), (70, 12, 32), (74, 12, 33), (77, 12, 34), (80, 12, 35), (83, 12, 36), (86, 12, 38), (89, 12, 39), (92, 12, 40), (95, 12, 42), (98, 12, 43), (101, 12, 45), (104, 12, 46), (107, 12, 50), (110, 12, 51), (113, 12, 52), (116, 12, 53), (119, 12, 55), (122, 12, 56), (125, 12, 57), (128, 12, 59), (131, 12, 60), (134, 12, 61), (137, 12, 62), (154, 12, 2), (160, 12, 4), (169, 12, 10), (191, 12, 13), (194, 12, 11), (197, 12, 14), (200, 12, 15), (203, 12, 16), (218, 12, 12), (221, 12, 18), (224, 12, 19), (227, 12, 20), (230, 12, 31), (233, 12, 37), (247, 12, 49), (250, 12, 58), (275, 12, 41), (288, 12, 44), (296, 12, 47), (299, 12, 48), (417, 12, 54)]
theorem FT_X12_ok : ∀ q ∈ FT_X12, am_FO TB vwCl RX12 q := List.forall_mem_cons.mpr ⟨⟨(RX12, TX12, 63), rfl, by decide, tb_at 1326 (by decide +kernel) (by decide +kernel)⟩, List.forall_mem_cons.mpr ⟨⟨(RX12, TX12, 63), rfl, by decide, tb_at 1328 (by decide +kernel) (by decide +kernel)⟩, List.forall_mem_cons.mpr ⟨⟨(RX12, TX12, 63), rfl, by decide, tb_at 1330 (by decide +kernel) (by decide +kernel)⟩, List.forall_mem_cons.mpr ⟨⟨(RX12, TX12, 63), rfl, by decide, tb_at 1331 (by decide +kernel) (by decide +kernel)⟩, List.forall_mem_cons.mpr ⟨⟨(RX12, TX12, 63), rfl, by decide, tb_at 1332 (by decide +kernel) (by decide +kernel)⟩, List.forall_mem_cons.mpr ⟨⟨(RX12, TX12, 63), rfl, by decide, tb_at 1333 (by decide +kernel) (by decide +kernel)⟩, List.forall_mem_cons.mpr ⟨⟨(RX12, TX12, 63), rfl, by decide, tb_at 1334 (by decide +kernel) (by decide +kernel)⟩, List.forall_mem_cons.mpr ⟨⟨(RX12, TX12, 63), rfl, by decide, tb_at 1342 (by decide +kernel) (by decide +kernel)⟩, List.forall_mem_cons.mpr ⟨⟨(RX12, TX12, 63), rfl, by decide, tb_at 1346 (by decide +kernel) (by decide +kernel)⟩, List.forall_mem_cons.mpr ⟨⟨(RX12, TX12, 63), rfl, by decide, tb_at 1347 (by decide +kernel) (by decide +kernel)⟩, List.forall_mem_cons.mpr ⟨⟨(RX12, TX12, 63), rfl, by decide, tb_at 1348 (by decide +kernel) (by decide +kernel)⟩, List.forall_mem_cons.mpr ⟨⟨(RX12, TX12, 63), rfl, by decide, tb_at 1349 (by decide +kernel) (by decide +kernel)⟩, List.forall_mem_cons.mpr ⟨⟨(RX12, TX12, 63), rfl, by decide, tb_at 1350 (by decide +kernel) (by decide +kernel)⟩, List.forall_mem_cons.mpr ⟨⟨(RX12, TX12, 63), rfl, by decide, tb_at 1351 (by decide +kernel) (by decide +kernel)⟩, List.forall_mem_cons.mpr ⟨⟨(RX12, TX12, 63), rfl, by decide, tb_at 1352 (by decide +kernel) (by decide +kernel)⟩, List.forall_mem_cons.mpr ⟨⟨(RX12, TX12, 63), rfl, by decide, tb_at 1353 (by decide +kernel) (by decide +kernel)⟩, List.forall_mem_cons.mpr ⟨⟨(RX12, TX12, 63), rfl, by decide, tb_at 1354 (by decide +kernel) (by decide +kernel)⟩, List.forall_mem_cons.mpr ⟨⟨(RX12, TX12, 63), rfl, by decide, tb_at 1355 (by decide +kernel) (by decide +kernel)⟩, List.forall_mem_cons.mpr ⟨⟨(RX12, TX12, 63), rfl, by decide, tb_at 1357 (by decide +kernel) (by decide +kernel)⟩, List.forall_mem_cons.mpr ⟨⟨(RX12, TX12, 63), rfl, by decide, tb_at 1358 (by decide +kernel) (by decide +kernel)⟩, List.forall_mem_cons.mpr ⟨⟨(RX12, TX12, 63), rfl, by decide, tb_at 1359 (by decide +kernel) (by decide +kernel)⟩, List.forall_mem_cons.mpr ⟨⟨(RX12, TX12, 63), rfl, by decide, tb_at 1360 (by decide +kernel) (by decide +kernel)⟩, List.forall_mem_cons.mpr ⟨⟨(RX12, TX12, 63), rfl, by decide, tb_at 1361 (by decide +kernel) (by decide +kernel)⟩, List.forall_mem_cons.mpr ⟨⟨(RX12, TX12, 63), rfl, by decide, tb_at 1363 (by decide +kernel) (by decide +kernel)⟩, List.forall_mem_cons.mpr ⟨⟨(RX12, TX12, 63), rfl, by decide, tb_at 1364 (by decide +kernel) (by decide +kernel)⟩, List.forall_mem_cons.mpr ⟨⟨(RX12, TX12, 63), rfl, by decide, tb_at 1365 (by decide +kernel) (by decide +kernel)⟩, List.forall_mem_cons.mpr ⟨⟨(RX12, TX12, 63), rfl, by decide, tb_at 1367 (by decide +kernel) (by decide +kernel)⟩, List.forall_mem_cons.mpr ⟨⟨(RX12, TX12, 63), rfl, by decide, tb_at 1368 (by decide +kernel) (by decide +kernel)⟩, List.forall_mem_cons.mpr ⟨⟨(RX12, TX12, 63), rfl, by decide, tb_at 1370 (by decide +kernel) (by decide +kernel)⟩, List.forall_mem_cons.mpr ⟨⟨(RX12, TX12, 63), rfl, by decide, tb_at 1371 (by decide +kernel) (by decide +kernel)⟩, List.forall_mem_cons.mpr ⟨⟨(RX12, TX12, 63), rfl, by decide, tb_at 1375 (by decide +kernel) (by decide +kernel)⟩, List.forall_mem_cons.mpr ⟨⟨(RX12, TX12, 63), rfl, by decide, tb_at 1376 (by decide +kernel) (by decide +kernel)⟩, List.forall_mem_cons.mpr ⟨⟨(RX12, TX12, 63), rfl, by decide, tb_at 1377 (by decide +kernel) (by decide +kernel)⟩, List.forall_mem_cons.mpr ⟨⟨(RX12, TX12, 63), rfl, by decide, tb_at 1378 (by decide +kernel) (by decide +kernel)⟩, List.forall_mem_cons.mpr ⟨⟨(RX12, TX12, 63), rfl, by decide, tb_at 1380 (by decide +kernel) (by decide +kernel)⟩, List.forall_mem_cons.mpr ⟨⟨(RX12, TX12, 63), rfl, by decide, tb_at 1381 (by decide +kernel) (by decide +kernel)⟩, List.forall_mem_cons.mpr ⟨⟨(RX12, TX12, 63), rfl, by decide, tb_at 1382 (by decide +kernel) (by decide +kernel)⟩, List.forall_mem_cons.mpr ⟨⟨(RX12, TX12, 63), rfl, by decide, tb_at 1384 (by decide +kernel) (by decide +kernel)⟩, List.forall_mem_cons.mpr ⟨⟨(RX12, TX12, 63), rfl, by decide, tb_at 1385 (by decide +kernel) (by decide +kernel)⟩, List.forall_mem_cons.mpr ⟨⟨(RX12, TX12, 63), rfl, by decide, tb_at 1386 (by decide +kernel) (by decide +kernel)⟩, List.forall_mem_cons.mpr ⟨⟨(RX12, TX12, 63), rfl, by decide, tb_at 1387 (by decide +kernel) (by decide +kernel)⟩, List.forall_mem_cons.mpr ⟨⟨(RX12, TX12, 63), rfl, by decide, tb_at 1327 (by decide +kernel) (by decide +kernel)⟩, List.forall_mem_cons.mpr ⟨⟨(RX12, TX12, 63), rfl, by decide, tb_at 1329 (by decide +kernel) (by decide +kernel)⟩, List.forall_mem_cons.mpr ⟨⟨(RX12, TX12, 63), rfl, by decide, tb_at 1335 (by decide +kernel) (by decide +kernel)⟩, List.forall_mem_cons.mpr ⟨⟨(RX12, TX12, 63), rfl, by decide, tb_at 1338 (by decide +kernel) (by decide +kernel)⟩, List.forall_mem_cons.mpr ⟨⟨(RX12, TX12, 63), rfl, by decide, tb_at 1336 (by decide +kernel) (by decide +kernel)⟩, List.forall_mem_cons.mpr ⟨⟨(RX12, TX12, 63), rfl, by decide, tb_at 1339 (by decide +kernel) (by decide +kernel)⟩, List.forall_mem_cons.mpr ⟨⟨(RX12, TX12, 63), rfl, by decide, tb_at 1340 (by decide +kernel) (by decide +kernel)⟩, List.forall_mem_cons.mpr ⟨⟨(RX12, TX12, 63), rfl, by decide, tb_at 1341 (by decide +kernel) (by decide +kernel)⟩, List.forall_mem_cons.mpr ⟨⟨(RX12, TX12, 63), rfl, by decide, tb_at 1337 (by decide +kernel) (by decide +kernel)⟩, List.forall_mem_cons.mpr ⟨⟨(RX12, TX12, 63), rfl, by decide, tb_at 1343 (by decide +kernel) (by decide +kernel)⟩, List.forall_mem_cons.mpr ⟨⟨(RX12, TX12, 63), rfl, by decide, tb_at 1344 (by decide +kernel) (by decide +kernel)⟩, List.forall_mem_cons.mpr ⟨⟨(RX12, TX12, 63), rfl, by decide, tb_at 1345 (by decide +kernel) (by decide +kernel)⟩, List.forall_mem_cons.mpr ⟨⟨(RX12, TX12, 63), rfl, by decide, tb_at 1356 (by decide +kernel) (by decide +kernel)⟩, List.forall_mem_cons.mpr ⟨⟨(RX12, TX12, 63), rfl, by decide, tb_at 1362 (by decide +kernel) (by decide +kernel)⟩, List.forall_mem_cons.mpr ⟨⟨(RX12, TX12, 63), rfl, by decide, tb_at 1374 (by decide +kernel) (by decide +kernel)⟩, List.forall_mem_cons.mpr ⟨⟨(RX12, TX12, 63), rfl, by decide, tb_at 1383 (by decide +kernel) (by decide +kernel)⟩, List.forall_mem_cons.mpr ⟨⟨(RX12, TX12, 63), rfl, by decide, tb_at 1366 (by decide +kernel) (by decide +kernel)⟩, List.forall_mem_cons.mpr ⟨⟨(RX12, TX12, 63), rfl, by decide, tb_at 1369 (by decide +kernel) (by decide +kernel)⟩, List.forall_mem_cons.mpr ⟨⟨(RX12, TX12, 63), rfl, by decide, tb_at 1372 (by decide +kernel) (by decide +kernel)⟩, List.forall_mem_cons.mpr ⟨⟨(RX12, TX12, 63), rfl, by decide, tb_at 1373 (by decide +kernel) (by decide +kernel)⟩, List.forall_mem_cons.mpr ⟨⟨(RX12, TX12, 63), rfl, by decide, tb_at 1379 (by decide +kernel) (by decide +kernel)⟩, fun _ h => absurd h List.not_mem_nil⟩⟩⟩⟩⟩⟩⟩⟩⟩⟩⟩⟩⟩⟩⟩⟩⟩⟩⟩⟩⟩⟩⟩⟩⟩⟩⟩⟩⟩⟩⟩⟩⟩⟩⟩⟩⟩⟩⟩⟩⟩⟩⟩⟩⟩⟩⟩⟩⟩⟩⟩⟩⟩⟩⟩⟩⟩⟩⟩⟩⟩⟩
def PT_X12 : List (Nat × Nat × Nat) := [(37, 12, 17), (154, 12, 2), (160, 12, 4), (169, 12, 10), (191, 12, 13), (194, 12, 11), (197, 12, 14), (200, 12, 15), (203, 12, 16), (218, 12, 12), (221, 12, 18), (224, 12, 19), (227, 12, 20), (230, 12, 31), (233, 12, 37), (247, 12, 49), (250, 12, 58), (275, 12, 41), (288, 12, 44), (296, 12, 47), (299, 12, 48), (417, 12, 54)]
theorem PT_X12_ok (nm : String) : ∀ q ∈ PT_X12, am_PO TB vwCl RX12 nm q := List.forall_mem_cons.mpr ⟨⟨(RX12, TX12, 63), rfl, by decide, tb_at 1342 (by decide +kernel) (by decide +kernel), Or.inl rfl⟩, List.forall_mem_cons.mpr ⟨⟨(RX12, TX12, 63), rfl, by decide, tb_at 1327 (by decide +kernel) (by decide +kernel), Or.inl rfl⟩, List.forall_mem_cons.mpr ⟨⟨(RX12, TX12, 63), rfl, by decide, tb_at 1329 (by decide +kernel) (by decide +kernel), Or.inl rfl⟩, List.forall_mem_cons.mpr ⟨⟨(RX12, TX12, 63), rfl, by decide, tb_at 1335 (by decide +kernel) (by decide +kernel), Or.inl rfl⟩, List.forall_mem_cons.mpr ⟨⟨(RX12, TX12, 63), rfl, by decide, tb_at 1338 (by decide +kernel) (by decide +kernel), Or.inl rfl⟩, List.forall_mem_cons.mpr ⟨⟨(RX12, TX12, 63), rfl, by decide, tb_at 1336 (by decide +kernel) (by decide +kernel), Or.inl rfl⟩, List.forall_mem_cons.mpr ⟨⟨(RX12, TX12, 63), rfl, by decide, tb_at 1339 (by decide +kernel) (by decide +kernel), Or.inl rfl⟩, List.forall_mem_cons.mpr ⟨⟨(RX12, TX12, 63), rfl, by decide, tb_at 1340 (by decide +kernel) (by decide +kernel), Or.inl rfl⟩, List.forall_mem_cons.mpr ⟨⟨(RX12, TX12, 63), rfl, by decide, tb_at 1341 (by decide +kernel) (by decide +kernel), Or.inl rfl⟩, List.forall_mem_cons.mpr ⟨⟨(RX12, TX12, 63), rfl, by decide, tb_at 1337 (by decide +kernel) (by decide +kernel), Or.inl rfl⟩, List.forall_mem_cons.mpr ⟨⟨(RX12, TX12, 63), rfl, by decide, tb_at 1343 (by decide +kernel) (by decide +kernel), Or.inl rfl⟩, List.forall_mem_cons.mpr ⟨⟨(RX12, TX12, 63), rfl, by decide, tb_at 1344 (by decide +kernel) (by decide +kernel), Or.inl rfl⟩, List.forall_mem_cons.mpr ⟨⟨(RX12, TX12, 63), rfl, by decide, tb_at 1345 (by decide +kernel) (by decide +kernel), Or.inl rfl⟩, List.forall_mem_cons.mpr ⟨⟨(RX12, TX12, 63), rfl, by decide, tb_at 1356 (by decide +kernel) (by decide +kernel), Or.inl rfl⟩, List.forall_mem_cons.mpr ⟨⟨(RX12, TX12, 63), rfl, by decide, tb_at 1362 (by decide +kernel) (by decide +kernel), Or.inl rfl⟩, List.forall_mem_cons.mpr ⟨⟨(RX12, TX12, 63), rfl, by decide, tb_at 1374 (by decide +kernel) (by decide +kernel), Or.inl rfl⟩, List.forall_mem_cons.mpr ⟨⟨(RX12, TX12, 63), rfl, by decide, tb_at 1383 (by decide +kernel) (by decide +kernel), Or.inl rfl⟩, List.forall_mem_cons.mpr ⟨⟨(RX12, TX12, 63), rfl, by decide, tb_at 1366 (by decide +kernel) (by decide +kernel), Or.inl rfl⟩, List.forall_mem_cons.mpr ⟨⟨(RX12, TX12, 63), rfl, by decide, tb_at 1369 (by decide +kernel) (by decide +kernel), Or.inl rfl⟩, List.forall_mem_cons.mpr ⟨⟨(RX12, TX12, 63), rfl, by decide, tb_at 1372 (by decide +kernel) (by decide +kernel), Or.inl rfl⟩, List.forall_mem_cons.mpr ⟨⟨(RX12, TX12, 63), rfl, by decide, tb_at 1373 (by decide +kernel) (by decide +kernel), Or.inl rfl⟩, List.forall_mem_cons.mpr ⟨⟨(RX12, TX12, 63), rfl, by decide, tb_at 1379 (by decide +kernel) (by decide +kernel), Or.inl rfl⟩, fun _ h => absurd h List.not_mem_nil⟩⟩⟩⟩⟩⟩⟩⟩⟩⟩⟩⟩⟩⟩⟩⟩⟩⟩⟩⟩⟩⟩
def PI_X12 : List (Nat × Nat × Nat) := [(13, 12, 1), (17, 12, 3), (20, 12, 5), (24, 12, 6), (27, 12, 7), (30, 12, 8), (34, 12, 9), (37, 12, 17), (40, 12, 21), (43, 12, 22), (46, 12, 23), (49, 12, 24), (52, 12, 25), (55, 12, 26), (58, 12, 27), (61, 12, 28), (64, 12, 29), (67, 12, 30), (70, 12, 32), (74, 12, 33), (77, 12, 34), (80, 12, 35), (83, 12, 36), (86, 12, 38), (89, 12, 39), (92, 12, 40), (95, 12, 42), (98, 12, 43), (101, 12, 45), (104, 12, 46), (107, 12, 50), (110, 12, 51), (113, 12, 52), (116, 12, 53), (119, 12, 55), (122, 12, 56), (125, 12, 57), (128, 12, 59), (131, 12, 60), (134, 12, 61), (137, 12, 62), (154, 12, 2), (160, 12, 4), (169, 12, 10), (191, 12, 13), (194, 12, 11), (197, 12, 14), (200, 12, 15), (203, 12, 16), (218, 12, 12), (221, 12, 18), (224, 12, 19), (227, 12, 20), (230, 12, 31), (233, 12, 37), (247, 12, 49), (250, 12, 58), (275, 12, 41), (288, 12, 44), (296, 12, 47), (299, 12, 48), (417, 12, 54)]
theorem PI_X12_ok : ∀ q ∈ PI_X12, am_PO TB vwCl RX12 "<init>" q := List.forall_mem_cons.mpr ⟨⟨(RX12, TX12, 63), rfl, by decide, tb_at 1326 (by decide +kernel) (by decide +kernel), Or.inr ⟨rfl, rfl, rfl⟩⟩, List.forall_mem_cons.mpr ⟨⟨(RX12, TX12, 63), rfl, by decide, tb_at 1328 (by decide +kernel) (by decide +kernel), Or.inr ⟨rfl, rfl, rfl⟩⟩, List.forall_mem_cons.mpr ⟨⟨(RX12, TX12, 63), rfl, by decide, tb_at 1330 (by decide +kernel) (by decide +kernel), Or.inr ⟨rfl, rfl, rfl⟩⟩, List.forall_mem_cons.mpr ⟨⟨(RX12, TX12, 63), rfl, by decide, tb_at 1331 (by decide +kernel) (by decide +kernel), Or.inr ⟨rfl, rfl, rfl⟩⟩, List.forall_mem_cons.mpr ⟨⟨(RX12, TX12, 63), rfl, by decide, tb_at 1332 (by decide +kernel) (by decide +kernel), Or.inr ⟨rfl, rfl, rfl⟩⟩, List.forall_mem_cons.mpr ⟨⟨(RX12, TX12, 63), rfl, by decide, tb_at 1333 (by decide +kernel) (by decide +kernel), Or.inr ⟨rfl, rfl, rfl⟩⟩, List.forall_mem_cons.mpr ⟨⟨(RX12, TX12, 63), rfl, by decide, tb_at 1334 (by decide +kernel) (by decide +kernel), Or.inr ⟨rfl, rfl, rfl⟩⟩, List.forall_mem_cons.mpr ⟨⟨(RX12, TX12, 63), rfl, by decide, tb_at 1342 (by decide +kernel) (by decide +kernel), Or.inl rfl⟩, List.forall_mem_cons.mpr ⟨⟨(RX12, TX12, 63), rfl, by decide, tb_at 1346 (by decide +kernel) (by decide +kernel), Or.inr ⟨rfl, rfl, rfl⟩⟩, List.forall_mem_cons.mpr ⟨⟨(RX12, TX12, 63), rfl, by decide, tb_at 1347 (by decide +kernel) (by decide +kernel), Or.inr ⟨rfl, rfl, rfl⟩⟩, List.forall_mem_cons.mpr ⟨⟨(RX12, TX12, 63), rfl, by decide, tb_at 1348 (by decide +kernel) (by decide +kernel), Or.inr ⟨rfl, rfl, rfl⟩⟩, List.forall_mem_cons.mpr ⟨⟨(RX12, TX12, 63), rfl, by decide, tb_at 1349 (by decide +kernel) (by decide +kernel), Or.inr ⟨rfl, rfl, rfl⟩⟩, List.forall_mem_cons.mpr ⟨⟨(RX12, TX12, 63), rfl, by decide, tb_at 1350 (by decide +kernel) (by decide +kernel), Or.inr ⟨rfl, rfl, rfl⟩⟩, List.forall_mem_cons.mpr ⟨⟨(RX12, TX12, 63), rfl, by decide, tb_at 1351 (by decide +kernel) (by decide +kernel), Or.inr ⟨rfl, rfl, rfl⟩⟩, List.forall_mem_cons.mpr ⟨⟨(RX12, TX12, 63), rfl, by decide, tb_at 1352 (by decide +kernel) (by decide +kernel), Or.inr ⟨rfl, rfl, rfl⟩⟩, List.forall_mem_cons.mpr ⟨⟨(RX12, TX12, 63), rfl, by decide, tb_at 1353 (by decide +kernel) (by decide +kernel), Or.inr ⟨rfl, rfl, rfl⟩⟩, List.forall_mem_cons.mpr ⟨⟨(RX12, TX12, 63), rfl, by decide, tb_at 1354 (by decide +kernel) (by decide +kernel), Or.inr ⟨rfl, rfl, rfl⟩⟩, List.forall_mem_cons.mpr ⟨⟨(RX12, TX12, 63), rfl, by decide, tb_at 1355 (by decide +kernel) (by decide +kernel), Or.inr ⟨rfl, rfl, rfl⟩⟩, List.forall_mem_cons.mpr ⟨⟨(RX12, TX12, 63), rfl, by decide, tb_at 1357 (by decide +kernel) (by decide +kernel), Or.inr ⟨rfl, rfl, rfl⟩⟩, List.forall_mem_cons.mpr ⟨⟨(RX12, TX12, 63), rfl, by decide, tb_at 1358 (by decide +kernel) (by decide +kernel), Or.inr ⟨rfl, rfl, rfl⟩⟩, List.forall_mem_cons.mpr ⟨⟨(RX12, TX12, 63), rfl, by decide, tb_at 1359 (by decide +kernel) (by decide +kernel), Or.inr ⟨rfl, rfl, rfl⟩⟩, List.forall_mem_cons.mpr ⟨⟨(RX12, TX12, 63), rfl, by decide, tb_at 1360 (by decide +kernel) (by decide +kernel), Or.inr ⟨rfl, rfl, rfl⟩⟩, List.forall_mem_cons.mpr ⟨⟨(RX12, TX12, 63), rfl, by decide, tb_at 1361 (by decide +kernel) (by decide +kernel), Or.inr ⟨rfl, rfl, rfl⟩⟩, List.forall_mem_cons.mpr ⟨⟨(RX12, TX12, 63), rfl, by decide, tb_at 1363 (by decide +kernel) (by decide +kernel), Or.inr ⟨rfl, rfl, rfl⟩⟩, List.forall_mem_cons.mpr ⟨⟨(RX12, TX12, 63), rfl, by decide, tb_at 1364 (by decide +kernel) (by decide +kernel), Or.inr ⟨rfl, rfl, rfl⟩⟩, List.forall_mem_cons.mpr ⟨⟨(RX12, TX12, 63), rfl, by decide, tb_at 1365 (by decide +kernel) (by decide +kernel), Or.inr ⟨rfl, rfl, rfl⟩⟩, List.forall_mem_cons.mpr ⟨⟨(RX12, TX12, 63), rfl, by decide, tb_at 1367 (by decide +kernel) (by decide +kernel), Or.inr ⟨rfl, rfl, rfl⟩⟩, List.forall_mem_cons.mpr ⟨⟨(RX12, TX12, 63), rfl, by decide, tb_at 1368 (by decide +kernel) (by decide +kernel), Or.inr ⟨rfl, rfl, rfl⟩⟩, List.forall_mem_cons.mpr ⟨⟨(RX12, TX12, 63), rfl, by decide, tb_at 1370 (by decide +kernel) (by decide +kernel), Or.inr ⟨rfl, rfl, rfl⟩⟩, List.forall_mem_cons.mpr ⟨⟨(RX12, TX12, 63), rfl, by decide, tb_at 1371 (by decide +kernel) (by decide +kernel), Or.inr ⟨rfl, rfl, rfl⟩⟩, List.forall_mem_cons.mpr ⟨⟨(RX12, TX12, 63), rfl, by decide, tb_at 1375 (by decide +kernel) (by decide +kernel), Or.inr ⟨rfl, rfl, rfl⟩⟩, List.forall_mem_cons.mpr ⟨⟨(RX12, TX12, 63), rfl, by decide, tb_at 1376 (by decide +kernel) (by decide +kernel), Or.inr ⟨rfl, rfl, rfl⟩⟩, List.forall_mem_cons.mpr ⟨⟨(RX12, TX12, 63), rfl, by decide, tb_at 1377 (by decide +kernel) (by decide +kernel), Or.inr ⟨rfl, rfl, rfl⟩⟩, List.forall_mem_cons.mpr ⟨⟨(RX12, TX12, 63), rfl, by decide, tb_at 1378 (by decide +kernel) (by decide +kernel), Or.inr ⟨rfl, rfl, rfl⟩⟩, List.forall_mem_cons.mpr ⟨⟨(RX12, TX12, 63), rfl, by decide, tb_at 1380 (by decide +kernel) (by decide +kernel), Or.inr ⟨rfl, rfl, rfl⟩⟩, List.forall_mem_cons.mpr ⟨⟨(RX12, TX12, 63), rfl, by decide, tb_at 1381 (by decide +kernel) (by decide +kernel), Or.inr ⟨rfl, rfl, rfl⟩⟩, List.forall_mem_cons.mpr ⟨⟨(RX12, TX12, 63), rfl, by decide, tb_at 1382 (by decide +kernel) (by decide +kernel), Or.inr ⟨rfl, rfl, rfl⟩⟩, List.forall_mem_cons.mpr ⟨⟨(RX12, TX12, 63), rfl, by decide, tb_at 1384 (by decide +kernel) (by decide +kernel), Or.inr ⟨rfl, rfl, rfl⟩⟩, List.forall_mem_cons.mpr ⟨⟨(RX12, TX12, 63), rfl, by decide, tb_at 1385 (by decide +kernel) (by decide +kernel), Or.inr ⟨rfl, rfl, rfl⟩⟩, List.forall_mem_cons.mpr ⟨⟨(RX12, TX12, 63), rfl, by decide, tb_at 1386 (by decide +kernel) (by decide +kernel), Or.inr ⟨rfl, rfl, rfl⟩⟩, List.forall_mem_cons.mpr ⟨⟨(RX12, TX12, 63), rfl, by decide, tb_at 1387 (by decide +kernel) (by decide +kernel), Or.inr ⟨rfl, rfl, rfl⟩⟩, List.forall_mem_cons.mpr ⟨⟨(RX12, TX12, 63), rfl, by decide, tb_at 1327 (by decide +kernel) (by decide +kernel), Or.inl rfl⟩, List.forall_mem_cons.mpr ⟨⟨(RX12, TX12, 63), rfl, by decide, tb_at 1329 (by decide +kernel) (by decide +kernel), Or.inl rfl⟩, List.forall_mem_cons.mpr ⟨⟨(RX12, TX12, 63), rfl, by decide, tb_at 1335 (by decide +kernel) (by decide +kernel), Or.inl rfl⟩, List.forall_mem_cons.mpr ⟨⟨(RX12, TX12, 63), rfl, by decide, tb_at 1338 (by decide +kernel) (by decide +kernel), Or.inl rfl⟩, List.forall_mem_cons.mpr ⟨⟨(RX12, TX12, 63), rfl, by decide, tb_at 1336 (by decide +kernel) (by decide +kernel), Or.inl rfl⟩, List.forall_mem_cons.mpr ⟨⟨(RX12, TX12, 63), rfl, by decide, tb_at 1339 (by decide +kernel) (by decide +kernel), Or.inl rfl⟩, List.forall_mem_cons.mpr ⟨⟨(RX12, TX12, 63), rfl, by decide, tb_at 1340 (by decide +kernel) (by decide +kernel), Or.inl rfl⟩, List.forall_mem_cons.mpr ⟨⟨(RX12, TX12, 63), rfl, by decide, tb_at 1341 (by decide +kernel) (by decide +kernel), Or.inl rfl⟩, List.forall_mem_cons.mpr ⟨⟨(RX12, TX12, 63), rfl, by decide, tb_at 1337 (by decide +kernel) (by decide +kernel), Or.inl rfl⟩, List.forall_mem_cons.mpr ⟨⟨(RX12, TX12, 63), rfl, by decide, tb_at 1343 (by decide +kernel) (by decide +kernel), Or.inl rfl⟩, List.forall_mem_cons.mpr ⟨⟨(RX12, TX12, 63), rfl, by decide, tb_at 1344 (by decide +kernel) (by decide +kernel), Or.inl rfl⟩, List.forall_mem_cons.mpr ⟨⟨(RX12, TX12, 63), rfl, by decide, tb_at 1345 (by decide +kernel) (by decide +kernel), Or.inl rfl⟩, List.forall_mem_cons.mpr ⟨⟨(RX12, TX12, 63), rfl, by decide, tb_at 1356 (by decide +kernel) (by decide +kernel), Or.inl rfl⟩, List.forall_mem_cons.mpr ⟨⟨(RX12, TX12, 63), rfl, by decide, tb_at 1362 (by decide +kernel) (by decide +kernel), Or.inl rfl⟩, List.forall_mem_cons.mpr ⟨⟨(RX12, TX12, 63), rfl, by decide, tb_at 1374 (by decide +kernel) (by decide +kernel), Or.inl rfl⟩, List.forall_mem_cons.mpr ⟨⟨(RX12, TX12, 63), rfl, by decide, tb_at 1383 (by decide +kernel) (by decide +kernel), Or.inl rfl⟩, List.forall_mem_cons.mpr ⟨⟨(RX12, TX12, 63), rfl, by decide, tb_at 1366 (by decide +kernel) (by decide +kernel), Or.inl rfl⟩, List.forall_mem_cons.mpr ⟨⟨(RX12, TX12, 63), rfl, by decide, tb_at 1369 (by decide +kernel) (by decide +kernel), Or.inl rfl⟩, List.forall_mem_cons.mpr ⟨⟨(RX12, TX12, 63), rfl, by decide, tb_at 1372 (by decide +kernel) (by decide +kernel), Or.inl rfl⟩, List.forall_mem_cons.mpr ⟨⟨(RX12, TX12, 63), rfl, by decide, tb_at 1373 (by decide +kernel) (by decide +kernel), Or.inl rfl⟩, List.forall_mem_cons.mpr ⟨⟨(RX12, TX12, 63), rfl, by decide, tb_at 1379 (by decide +kernel) (by decide +kernel), Or.inl rfl⟩, fun _ h => absurd h List.not_mem_nil⟩⟩⟩⟩⟩⟩⟩⟩⟩⟩⟩⟩⟩⟩⟩⟩⟩⟩⟩⟩⟩⟩⟩⟩⟩⟩⟩⟩⟩⟩⟩⟩⟩⟩⟩⟩⟩⟩⟩⟩⟩⟩⟩⟩⟩⟩⟩⟩⟩⟩⟩⟩⟩⟩⟩⟩⟩⟩⟩⟩⟩⟩
theorem FT_X12_13 : am_find FT_X12 13 = some (12, 1) := rfl
theorem FT_X12_17 : am_find FT_X12 17 = some (12, 3) := rfl
theorem FT_X12_20 : am_find FT_X12 20 = some (12, 5) := rfl
theorem FT_X12_24 : am_find FT_X12 24 = some (12, 6) := rfl
theorem FT_X12_27 : am_find FT_X12 27 = some (12, 7) := rfl
theorem FT_X12_30 : am_find FT_X12 30 = some (12, 8) := rfl
theorem FT_X12_34 : am_find FT_X12 34 = some (12, 9) := rfl
theorem FT_X12_37 : am_find FT_X12 37 = some (12, 17) := rfl
theorem FT_X12_40 : am_find FT_X12 40 = some (12, 21) := rfl
theorem FT_X12_43 : am_find FT_X12 43 = some (12, 22) := rfl
theorem FT_X12_46 : am_find FT_X12 46 = some (12, 23) := rfl
theorem FT_X12_49 : am_find FT_X12 49 = some (12, 24) := rfl
theorem FT_X12_52 : am_find FT_X12 52 = some (12, 25) := rfl
theorem FT_X12_55 : am_find FT_X12 55 = some (12, 26) := rfl
theorem FT_X12_58 : am_find FT_X12 58 = some (12, 27) := rfl
theorem FT_X12_61 : am_find FT_X12 61 = some (12, 28) := rfl
theorem FT_X12_64 : am_find FT_X12 64 = some (12, 29) := rfl
theorem FT_X12_67 : am_find FT_X12 67 = some (12, 30) := rfl
theorem FT_X12_70 : am_find FT_X12 70 = some (12, 32) := rfl
theorem FT_X12_74 : am_find FT_X12 74 = some (12, 33) := rfl
theorem FT_X12_77 : am_find FT_X12 77 = some (12, 34) := rfl
theorem FT_X12_80 : am_find FT_X12 80 = some (12, 35) := rfl
theorem FT_X12_83 : am_find FT_X12 83 = some (12, 36) := rfl
theorem FT_X12_86 : am_find FT_X12 86 = some (12, 38) := rfl
theorem FT_X12_89 : am_find FT_X12 89 = some (12, 39) := rfl
theorem FT_X12_92 : am_find FT_X12 92 = some (12, 40) := rfl
theorem FT_X12_95 : am_find FT_X12 95 = some (12, 42) := rfl
theorem FT_X12_98 : am_find FT_X12 98 = some (12, 43) := rfl
theorem FT_X12_101 : am_find FT_X12 101 = some (12, 45) := rfl
theorem FT_X12_104 : am_find FT_X12 104 = some (12, 46) := rfl
theorem FT_X12_107 : am_find FT_X12 107 = some (12, 50) := rfl
theorem FT_X12_110 : am_find FT_X12 110 = some (12, 51) := rfl
theorem FT_X12_113 : am_find FT_X12 113 = some (12, 52) := rfl
theorem FT_X12_116 : am_find FT_X12 116 = some (12, 53) := rfl
theorem FT_X12_119 : am_find FT_X12 119 = some (12, 55) := rfl
theorem FT_X12_122 : am_find FT_X12 122 = some (12, 56) := rfl
theorem FT_X12_125 : am_find FT_X12 125 = some (12, 57) := rfl
theorem FT_X12_128 : am_find FT_X12 128 = some (12, 59) := rfl
theorem FT_X12_131 : am_find FT_X12 131 = some (12, 60) := rfl
theorem FT_X12_134 : am_find FT_X12 134 = some (12, 61) := rfl
theorem FT_X12_137 : am_find FT_X12 137 = some (12, 62) := rfl
theorem FT_X12_154 : am_find FT_X12 154 = some (12, 2) := rfl
theorem FT_X12_160 : am_find FT_X12 160 = some (12, 4) := rfl
theorem FT_X12_169 : am_find FT_X12 169 = some (12, 10) := rfl
theorem FT_X12_191 : am_find FT_X12 191 = some (12, 13) := rfl
theorem FT_X12_194 : am_find FT_X12 194 = some (12, 11) := rfl
theorem FT_X12_197 : am_find FT_X12 197 = some (12, 14) := rfl
theorem FT_X12_200 : am_find FT_X12 200 = some (12, 15) := rfl
theorem FT_X12_203 : am_find FT_X12 203 = some (12, 16) := rfl
theorem FT_X12_218 : am_find FT_X12 218 = some (12, 12) := rfl
theorem FT_X12_221 : am_find FT_X12 221 = some (12, 18) := rfl
theorem FT_X12_224 : am_find FT_X12 224 = some (12, 19) := rfl
theorem FT_X12_227 : am_find FT_X12 227 = some (12, 20) := rfl
theorem FT_X12_230 : am_find FT_X12 230 = some (12, 31) := rfl
theorem FT_X12_233 : am_find FT_X12 233 = some (12, 37) := rfl
theorem FT_X12_247 : am_find FT_X12 247 = some (12, 49) := rfl
theorem FT_X12_250 : am_find FT_X12 250 = some (12, 58) := rfl
theorem FT_X12_275 : am_find FT_X12 275 = some (12, 41) := rfl
theorem FT_X12_288 : am_find FT_X12 288 = some (12, 44) := rfl
theorem FT_X12_296 : am_find FT_X12 296 = some (12, 47) := rfl
theorem FT_X12_299 : am_find FT_X12 299 = some (12, 48) := rfl
theorem FT_X12_417 : am_find FT_X12 417 = some (12, 54) := rfl
theorem PT_X12_37 : am_find PT_X12 37 = some (12, 17) := rfl
theorem PT_X12_154 : am_find PT_X12 154 = some (12, 2) := rfl
theorem PT_X12_160 : am_find PT_X12 160 = some (12, 4) := rfl
theorem PT_X12_169 : am_find PT_X12 169 = some (12, 10) := rfl
theorem PT_X12_191 : am_find PT_X12 191 = some (12, 13) := rfl
theorem PT_X12_194 : am_find PT_X12 194 = some (12, 11) := rfl
theorem PT_X12_197 : am_find PT_X12 197 = some (12, 14) := rfl
theorem PT_X12_200 : am_find PT_X12 200 = some (12, 15) := rfl
theorem PT_X12_203 : am_find PT_X12 203 = some (12, 16) := rfl
theorem PT_X12_218 : am_find PT_X12 218 = some (12, 12) := rfl
theorem PT_X12_221 : am_find PT_X12 221 = some (12, 18) := rfl
theorem PT_X12_224 : am_find PT_X12 224 = some (12, 19) := rfl
theorem PT_X12_227 : am_find PT_X12 227 = some (12, 20) := rfl
theorem PT_X12_230 : am_find PT_X12 230 = some (12, 31) := rfl
theorem PT_X12_233 : am_find PT_X12 233 = some (12, 37) := rfl
theorem PT_X12_247 : am_find PT_X12 247 = some (12, 49) := rfl
theorem PT_X12_250 : am_find PT_X12 250 = some (12, 58) := rfl
theorem PT_X12_275 : am_find PT_X12 275 = some (12, 41) := rfl
theorem PT_X12_288 : am_find PT_X12 288 = some (12, 44) := rfl
theorem PT_X12_296 : am_find PT_X12 296 = some (12, 47) := rfl
theorem PT_X12_299 : am_find PT_X12 299 = some (12, 48) := rfl
theorem PT_X12_417 : am_find PT_X12 417 = some (12, 54) := rfl
theorem PI_X12_13 : am_find PI_X12 13 = some (12, 1) := rfl
theorem PI_X12_17 : am_find PI_X12 17 = some (12, 3) := rfl
theorem PI_X12_20 : am_find PI_X12 20 = some (12, 5) := rfl
theorem PI_X12_24 : am_find PI_X12 24 = some (12, 6) := rfl
theorem PI_X12_27 : am_find PI_X12 27 = some (12, 7) := rfl
theorem PI_X12_30 : am_find PI_X12 30 = some (12, 8) := rfl
theorem PI_X12_34 : am_find PI_X12 34 = some (12, 9) := rfl
theorem PI_X12_37 : am_find PI_X12 37 = some (12, 17) := rfl
theorem PI_X12_40 : am_find PI_X12 40 = some (12, 21) := rfl
theorem PI_X12_43 : am_find PI_X12 43 = some (12, 22) := rfl
theorem PI_X12_46 : am_find PI_X12 46 = some (12, 23) := rfl
theorem PI_X12_49 : am_find PI_X12 49 = some (12, 24) := rfl
theorem PI_X12_52 : am_find PI_X12 52 = some (12, 25) := rfl
theorem PI_X12_55 : am_find PI_X12 55 = some (12, 26) := rfl
theorem PI_X12_58 : am_find PI_X12 58 = some (12, 27) := rfl
theorem PI_X12_61 : am_find PI_X12 61 = some (12, 28) := rfl
theorem PI_X12_64 : am_find PI_X12 64 = some (12, 29) := rfl
theorem PI_X12_67 : am_find PI_X12 67 = some (12, 30) := rfl
theorem PI_X12_70 : am_find PI_X12 70 = some (12, 32) := rfl
theorem PI_X12_74 : am_find PI_X12 74 = some (12, 33) := rfl
theorem PI_X12_77 : am_find PI_X12 77 = some (12, 34) := rfl
theorem PI_X12_80 : am_find PI_X12 80 = some (12, 35) := rfl
theorem PI_X12_83 : am_find PI_X12 83 = some (12, 36) := rfl
theorem PI_X12_86 : am_find PI_X12 86 = some (12, 38) := rfl
theorem PI_X12_89 : am_find PI_X12 89 = some (12, 39) := rfl
theorem PI_X12_92 : am_find PI_X12 92 = some (12, 40) := rfl
theorem PI_X12_95 : am_find PI_X12 95 = some (12, 42) := rfl
theorem PI_X12_98 : am_find PI_X12 98 = some (12, 43) := rfl
theorem PI_X12_101 : am_find PI_X12 101 = some (12, 45) := rfl
theorem PI_X12_104 : am_find PI_X12 104 = some (12, 46) := rfl
theorem PI_X12_107 : am_find PI_X12 107 = some (12, 50) := rfl
theorem PI_X12_110 : am_find PI_X12 110 = some (12, 51) := rfl
theorem PI_X12_113 : am_find PI_X12 113 = some (12, 52) := rfl
theorem PI_X12_116 : am_find PI_X12 116 = some (12, 53) := rfl
theorem PI_X12_119 : am_find PI_X12 119 = some (12, 55) := rfl
theorem PI_X12_122 : am_find PI_X12 122 = some (12, 56) := rfl
theorem PI_X12_125 : am_find PI_X12 125 = some (12, 57) := rfl
theorem PI_X12_128 : am_find PI_X12 128 = some (12, 59) := rfl
theorem PI_X12_131 : am_find PI_X12 131 = some (12, 60) := rfl
theorem PI_X12_134 : am_find PI_X12 134 = some (12, 61) := rfl
theorem PI_X12_137 : am_find PI_X12 137 = some (12, 62) := rfl
theorem PI_X12_154 : am_find PI_X12 154 = some (12, 2) := rfl
theorem PI_X12_160 : am_find PI_X12 160 = some (12, 4) := rfl
theorem PI_X12_169 : am_find PI_X12 169 = some (12, 10) := rfl
theorem PI_X12_191 : am_find PI_X12 191 = some (12, 13) := rfl
theorem PI_X12_194 : am_find PI_X12 194 = some (12, 11) := rfl
theorem PI_X12_197 : am_find PI_X12 197 = some (12, 14) := rfl
theorem PI_X12_200 : am_find PI_X12 200 = some (12, 15) := rfl
theorem PI_X12_203 : am_find PI_X12 203 = some (12, 16) := rfl
theorem PI_X12_218 : am_find PI_X12 218 = some (12, 12) := rfl
theorem PI_X12_221 : am_find PI_X12 221 = some (12, 18) := rfl
theorem PI_X12_224 : am_find PI_X12 224 = some (12, 19) := rfl
theorem PI_X12_227 : am_find PI_X12 227 = some (12, 20) := rfl
theorem PI_X12_230 : am_find PI_X12 230 = some (12, 31) := rfl
theorem PI_X12_233 : am_find PI_X12 233 = some (12, 37) := rfl
theorem PI_X12_247 : am_find PI_X12 247 = some (12, 49) := rfl
theorem PI_X12_250 : am_find PI_X12 250 = some (12, 58) := rfl
theorem PI_X12_275 : am_find PI_X12 275 = some (12, 41) := rfl
theorem PI_X12_288 : am_find PI_X12 288 = some (12, 44) := rfl
theorem PI_X12_296 : am_find PI_X12 296 = some (12, 47) := rfl
theorem PI_X12_299 : am_find PI_X12 299 = some (12, 48) := rfl
theorem PI_X12_417 : am_find PI_X12 417 = some (12, 54) := rfl
def CT_X12 : List (Nat × Nat) := []
theorem CT_X12_ok : ∀ q ∈ CT_X12, am_CC TB vwCl RX12 q := fun _ h => absurd h List.not_mem_nil
def KT_X12 : List (Nat × Int32) := [(302, 1103515245), (355, 99999)]
theorem KT_X12_ok : ∀ q ∈ KT_X12, Cond.constant RX12 q.1 q.2 ∈ TB := List.forall_mem_cons.mpr ⟨tb_at 1771 (by decide +kernel) (by decide +kernel), List.forall_mem_cons.mpr ⟨tb_at 1759 (by decide +kernel) (by decide +kernel), fun _ h => absurd h List.not_mem_nil⟩⟩
def LT_X12 : List (Nat × Int64) := [(163, 27)]
theorem LT_X12_ok : ∀ q ∈ LT_X12, Cond.constantLong RX12 q.1 q.2 ∈ TB := List.forall_mem_cons.mpr ⟨tb_at 1317 (by decide +kernel) (by decide +kernel), fun _ h => absurd h List.not_mem_nil⟩
def NT_X12 : List (Nat × Nat) := [(7, 3)]
theorem NT_X12_ok : ∀ q ∈ NT_X12, am_NO TB RX12 q := List.forall_mem_cons.mpr ⟨⟨tb_at 1306 (by decide +kernel) (by decide +kernel), tb_at 134 (by decide +kernel) (by decide +kernel), tb_at 135 (by decide +kernel) (by decide +kernel)⟩, fun _ h => absurd h List.not_mem_nil⟩
def FT_J6 : List (Nat × Nat × Nat) := []
theorem FT_J6_ok : ∀ q ∈ FT_J6, am_FO TB vwCl RJ6 q := fun _ h => absurd h List.not_mem_nil
def PT_J6 : List (Nat × Nat × Nat) := []
theorem PT_J6_ok (nm : String) : ∀ q ∈ PT_J6, am_PO TB vwCl RJ6 nm q := fun _ h => absurd h List.not_mem_nil
def PI_J6 : List (Nat × Nat × Nat) := []
theorem PI_J6_ok : ∀ q ∈ PI_J6, am_PO TB vwCl RJ6 "<init>" q := fun _ h => absurd h List.not_mem_nil
def CT_J6 : List (Nat × Nat) := []
theorem CT_J6_ok : ∀ q ∈ CT_J6, am_CC TB vwCl RJ6 q := fun _ h => absurd h List.not_mem_nil
def KT_J6 : List (Nat × Int32) := [(265, 1431655765), (266, 858993459), (267, 252645135)]
theorem KT_J6_ok : ∀ q ∈ KT_J6, Cond.constant RJ6 q.1 q.2 ∈ TB := List.forall_mem_cons.mpr ⟨tb_at 832 (by decide +kernel) (by decide +kernel), List.forall_mem_cons.mpr ⟨tb_at 833 (by decide +kernel) (by decide +kernel), List.forall_mem_cons.mpr ⟨tb_at 834 (by decide +kernel) (by decide +kernel), fun _ h => absurd h List.not_mem_nil⟩⟩⟩
def LT_J6 : List (Nat × Int64) := []
theorem LT_J6_ok : ∀ q ∈ LT_J6, Cond.constantLong RJ6 q.1 q.2 ∈ TB := fun _ h => absurd h List.not_mem_nil
def NT_J6 : List (Nat × Nat) := []
theorem NT_J6_ok : ∀ q ∈ NT_J6, am_NO TB RJ6 q := fun _ h => absurd h List.not_mem_nil
def FT_J9 : List (Nat × Nat × Nat) := []
theorem FT_J9_ok : ∀ q ∈ FT_J9, am_FO TB vwCl RJ9 q := fun _ h => absurd h List.not_mem_nil
def PT_J9 : List (Nat × Nat × Nat) := []
theorem PT_J9_ok (nm : String) : ∀ q ∈ PT_J9, am_PO TB vwCl RJ9 nm q := fun _ h => absurd h List.not_mem_nil
def PI_J9 : List (Nat × Nat × Nat) := []
theorem PI_J9_ok : ∀ q ∈ PI_J9, am_PO TB vwCl RJ9 "<init>" q := fun _ h => absurd h List.not_mem_nil
def CT_J9 : List (Nat × Nat) := []
theorem CT_J9_ok : ∀ q ∈ CT_J9, am_CC TB vwCl RJ9 q := fun _ h => absurd h List.not_mem_nil
def KT_J9 : List (Nat × Int32) := []
theorem KT_J9_ok : ∀ q ∈ KT_J9, Cond.constant RJ9 q.1 q.2 ∈ TB := fun _ h => absurd h List.not_mem_nil
def LT_J9 : List (Nat × Int64) := []
theorem LT_J9_ok : ∀ q ∈ LT_J9, Cond.constantLong RJ9 q.1 q.2 ∈ TB := fun _ h => absurd h List.not_mem_nil
def NT_J9 : List (Nat × Nat) := []
theorem NT_J9_ok : ∀ q ∈ NT_J9, am_NO TB RJ9 q := fun _ h => absurd h List.not_mem_nil
def FT_J7 : List (Nat × Nat × Nat) := []
theorem FT_J7_ok : ∀ q ∈ FT_J7, am_FO TB vwCl RJ7 q := fun _ h => absurd h List.not_mem_nil
def PT_J7 : List (Nat × Nat × Nat) := []
theorem PT_J7_ok (nm : String) : ∀ q ∈ PT_J7, am_PO TB vwCl RJ7 nm q := fun _ h => absurd h List.not_mem_nil
def PI_J7 : List (Nat × Nat × Nat) := []
theorem PI_J7_ok : ∀ q ∈ PI_J7, am_PO TB vwCl RJ7 "<init>" q := fun _ h => absurd h List.not_mem_nil
def CT_J7 : List (Nat × Nat) := []
theorem CT_J7_ok : ∀ q ∈ CT_J7, am_CC TB vwCl RJ7 q := fun _ h => absurd h List.not_mem_nil
def KT_J7 : List (Nat × Int32) := []
theorem KT_J7_ok : ∀ q ∈ KT_J7, Cond.constant RJ7 q.1 q.2 ∈ TB := fun _ h => absurd h List.not_mem_nil
def LT_J7 : List (Nat × Int64) := []
theorem LT_J7_ok : ∀ q ∈ LT_J7, Cond.constantLong RJ7 q.1 q.2 ∈ TB := fun _ h => absurd h List.not_mem_nil
def NT_J7 : List (Nat × Nat) := []
theorem NT_J7_ok : ∀ q ∈ NT_J7, am_NO TB RJ7 q := fun _ h => absurd h List.not_mem_nil
def FT_L : List (Nat × Nat × Nat) := []
theorem FT_L_ok : ∀ q ∈ FT_L, am_FO TB vwCl RL q := fun _ h => absurd h List.not_mem_nil
def PT_L : List (Nat × Nat × Nat) := []
theorem PT_L_ok (nm : String) : ∀ q ∈ PT_L, am_PO TB vwCl RL nm q := fun _ h => absurd h List.not_mem_nil
def PI_L : List (Nat × Nat × Nat) := []
theorem PI_L_ok : ∀ q ∈ PI_L, am_PO TB vwCl RL "<init>" q := fun _ h => absurd h List.not_mem_nil
def CT_L : List (Nat × Nat) := [(7, 11), (10, 12)]
theorem CT_L_ok : ∀ q ∈ CT_L, am_CC TB vwCl RL q := List.forall_mem_cons.mpr ⟨⟨(RX11, TX11, 14), rfl, tb_at 128 (by decide +kernel) (by decide +kernel), tb_at 129 (by decide +kernel) (by decide +kernel), tb_at 107 (by decide +kernel) (by decide +kernel)⟩, List.forall_mem_cons.mpr ⟨⟨(RX12, TX12, 63), rfl, tb_at 1301 (by decide +kernel) (by decide +kernel), tb_at 1302 (by decide +kernel) (by decide +kernel), tb_at 124 (by decide +kernel) (by decide +kernel)⟩, fun _ h => absurd h List.not_mem_nil⟩⟩
def KT_L : List (Nat × Int32) := []
theorem KT_L_ok : ∀ q ∈ KT_L, Cond.constant RL q.1 q.2 ∈ TB := fun _ h => absurd h List.not_mem_nil
def LT_L : List (Nat × Int64) := []
theorem LT_L_ok : ∀ q ∈ LT_L, Cond.constantLong RL q.1 q.2 ∈ TB := fun _ h => absurd h List.not_mem_nil
def NT_L : List (Nat × Nat) := []
theorem NT_L_ok : ∀ q ∈ NT_L, am_NO TB RL q := fun _ h => absurd h List.not_mem_nil
end
section
theorem dX12_put_0 : decode cX12_put 0 = .ok (.bipush 24, 2) := by decide +kernel
theorem dX12_put_2 : decode cX12_put 2 = .ok (.istore_n 2, 1) := by decide +kernel
theorem dX12_put_3 : decode cX12_put 3 = .ok (.iload_n 2, 1) := by decide +kernel
theorem dX12_put_4 : decode cX12_put 4 = .ok (.ifCond .lt 32, 3) := by decide +kernel
theorem dX12_put_7 : decode cX12_put 7 = .ok (.aload_n 0, 1) := by decide +kernel
theorem dX12_put_8 : decode cX12_put 8 = .ok (.getfield 13, 3) := by decide +kernel
theorem dX12_put_11 : decode cX12_put 11 = .ok (.aload_n 0, 1) := by decide +kernel
theorem dX12_put_12 : decode cX12_put 12 = .ok (.getfield 154, 3) := by decide +kernel
theorem dX12_put_15 : decode cX12_put 15 = .ok (.iload_n 1, 1) := by decide +kernel
theorem dX12_put_16 : decode cX12_put 16 = .ok (.iload_n 2, 1) := by decide +kernel
theorem dX12_put_17 : decode cX12_put 17 = .ok (.ishr, 1) := by decide +kernel
theorem dX12_put_18 : decode cX12_put 18 = .ok (.i2b, 1) := by decide +kernel
theorem dX12_put_19 : decode cX12_put 19 = .ok (.bastore, 1) := by decide +kernel
theorem dX12_put_20 : decode cX12_put 20 = .ok (.aload_n 0, 1) := by decide +kernel
theorem dX12_put_21 : decode cX12_put 21 = .ok (.dup, 1) := by decide +kernel
theorem dX12_put_22 : decode cX12_put 22 = .ok (.getfield 154, 3) := by decide +kernel
theorem dX12_put_25 : decode cX12_put 25 = .ok (.iconst 1, 1) := by decide +kernel
theorem dX12_put_26 : decode cX12_put 26 = .ok (.iadd, 1) := by decide +kernel
theorem dX12_put_27 : decode cX12_put 27 = .ok (.putfield 154, 3) := by decide +kernel
theorem dX12_put_30 : decode cX12_put 30 = .ok (.iinc 2 (-8), 3) := by decide +kernel
theorem dX12_put_33 : decode cX12_put 33 = .ok (.goto (-30), 3) := by decide +kernel
theorem dX12_put_36 : decode cX12_put 36 = .ok (.return_, 1) := by decide +kernel
theorem dX12_feed_0 : decode cX12_feed 0 = .ok (.aload_n 0, 1) := by decide +kernel
theorem dX12_feed_1 : decode cX12_feed 1 = .ok (.getfield 154, 3) := by decide +kernel
theorem dX12_feed_4 : decode cX12_feed 4 = .ok (.bipush 20, 2) := by decide +kernel
theorem dX12_feed_6 : decode cX12_feed 6 = .ok (.iadd, 1) := by decide +kernel
theorem dX12_feed_7 : decode cX12_feed 7 = .ok (.sipush 2000, 3) := by decide +kernel
theorem dX12_feed_10 : decode cX12_feed 10 = .ok (.if_icmp .le 5, 3) := by decide +kernel
theorem dX12_feed_13 : decode cX12_feed 13 = .ok (.iconst (-1), 1) := by decide +kernel
theorem dX12_feed_14 : decode cX12_feed 14 = .ok (.ireturn, 1) := by decide +kernel
theorem dX12_feed_15 : decode cX12_feed 15 = .ok (.aload_n 0, 1) := by decide +kernel
theorem dX12_feed_16 : decode cX12_feed 16 = .ok (.iload_n 1, 1) := by decide +kernel
theorem dX12_feed_17 : decode cX12_feed 17 = .ok (.invokevirtual 157, 3) := by decide +kernel
theorem dX12_feed_20 : decode cX12_feed 20 = .ok (.aload_n 0, 1) := by decide +kernel
theorem dX12_feed_21 : decode cX12_feed 21 = .ok (.iload_n 2, 1) := by decide +kernel
theorem dX12_feed_22 : decode cX12_feed 22 = .ok (.invokevirtual 157, 3) := by decide +kernel
theorem dX12_feed_25 : decode cX12_feed 25 = .ok (.aload_n 0, 1) := by decide +kernel
theorem dX12_feed_26 : decode cX12_feed 26 = .ok (.iload_n 3, 1) := by decide +kernel
theorem dX12_feed_27 : decode cX12_feed 27 = .ok (.invokevirtual 157, 3) := by decide +kernel
theorem dX12_feed_30 : decode cX12_feed 30 = .ok (.aload_n 0, 1) := by decide +kernel
theorem dX12_feed_31 : decode cX12_feed 31 = .ok (.iload 4, 2) := by decide +kernel
theorem dX12_feed_33 : decode cX12_feed 33 = .ok (.invokevirtual 157, 3) := by decide +kernel
theorem dX12_feed_36 : decode cX12_feed 36 = .ok (.aload_n 0, 1) := by decide +kernel
theorem dX12_feed_37 : decode cX12_feed 37 = .ok (.iload 5, 2) := by decide +kernel
theorem dX12_feed_39 : decode cX12_feed 39 = .ok (.invokevirtual 157, 3) := by decide +kernel
theorem dX12_feed_42 : decode cX12_feed 42 = .ok (.aload_n 0, 1) := by decide +kernel
theorem dX12_feed_43 : decode cX12_feed 43 = .ok (.getfield 154, 3) := by decide +kernel
theorem dX12_feed_46 : decode cX12_feed 46 = .ok (.ireturn, 1) := by decide +kernel
theorem dX12_back_0 : decode cX12_back 0 = .ok (.iload_n 1, 1) := by decide +kernel
theorem dX12_back_1 : decode cX12_back 1 = .ok (.ifCond .lt 11, 3) := by decide +kernel
theorem dX12_back_4 : decode cX12_back 4 = .ok (.iload_n 1, 1) := by decide +kernel
theorem dX12_back_5 : decode cX12_back 5 = .ok (.aload_n 0, 1) := by decide +kernel
theorem dX12_back_6 : decode cX12_back 6 = .ok (.getfield 154, 3) := by decide +kernel
theorem dX12_back_9 : decode cX12_back 9 = .ok (.if_icmp .le 5, 3) := by decide +kernel
theorem dX12_back_12 : decode cX12_back 12 = .ok (.iconst (-1), 1) := by decide +kernel
theorem dX12_back_13 : decode cX12_back 13 = .ok (.ireturn, 1) := by decide +kernel
theorem dX12_back_14 : decode cX12_back 14 = .ok (.aload_n 0, 1) := by decide +kernel
theorem dX12_back_15 : decode cX12_back 15 = .ok (.dup, 1) := by decide +kernel
theorem dX12_back_16 : decode cX12_back 16 = .ok (.getfield 154, 3) := by decide +kernel
theorem dX12_back_19 : decode cX12_back 19 = .ok (.iload_n 1, 1) := by decide +kernel
theorem dX12_back_20 : decode cX12_back 20 = .ok (.isub, 1) := by decide +kernel
theorem dX12_back_21 : decode cX12_back 21 = .ok (.putfield 154, 3) := by decide +kernel
theorem dX12_back_24 : decode cX12_back 24 = .ok (.aload_n 0, 1) := by decide +kernel
theorem dX12_back_25 : decode cX12_back 25 = .ok (.getfield 154, 3) := by decide +kernel
theorem dX12_back_28 : decode cX12_back 28 = .ok (.ireturn, 1) := by decide +kernel
theorem dX12_isDigit_0 : decode cX12_isDigit 0 = .ok (.iload_n 0, 1) := by decide +kernel
theorem dX12_isDigit_1 : decode cX12_isDigit 1 = .ok (.bipush 48, 2) := by decide +kernel
theorem dX12_isDigit_3 : decode cX12_isDigit 3 = .ok (.if_icmp .lt 13, 3) := by decide +kernel
theorem dX12_isDigit_6 : decode cX12_isDigit 6 = .ok (.iload_n 0, 1) := by decide +kernel
theorem dX12_isDigit_7 : decode cX12_isDigit 7 = .ok (.bipush 57, 2) := by decide +kernel
theorem dX12_isDigit_9 : decode cX12_isDigit 9 = .ok (.if_icmp .gt 7, 3) := by decide +kernel
theorem dX12_isDigit_12 : decode cX12_isDigit 12 = .ok (.iconst 1, 1) := by decide +kernel
theorem dX12_isDigit_13 : decode cX12_isDigit 13 = .ok (.goto 4, 3) := by decide +kernel
theorem dX12_isDigit_16 : decode cX12_isDigit 16 = .ok (.iconst 0, 1) := by decide +kernel
theorem dX12_isDigit_17 : decode cX12_isDigit 17 = .ok (.ireturn, 1) := by decide +kernel
theorem dX12_isLetter_0 : decode cX12_isLetter 0 = .ok (.iload_n 0, 1) := by decide +kernel
theorem dX12_isLetter_1 : decode cX12_isLetter 1 = .ok (.bipush 97, 2) := by decide +kernel
theorem dX12_isLetter_3 : decode cX12_isLetter 3 = .ok (.if_icmp .lt 13, 3) := by decide +kernel
theorem dX12_isLetter_6 : decode cX12_isLetter 6 = .ok (.iload_n 0, 1) := by decide +kernel
theorem dX12_isLetter_7 : decode cX12_isLetter 7 = .ok (.bipush 122, 2) := by decide +kernel
theorem dX12_isLetter_9 : decode cX12_isLetter 9 = .ok (.if_icmp .gt 7, 3) := by decide +kernel
theorem dX12_isLetter_12 : decode cX12_isLetter 12 = .ok (.iconst 1, 1) := by decide +kernel
theorem dX12_isLetter_13 : decode cX12_isLetter 13 = .ok (.goto 4, 3) := by decide +kernel
theorem dX12_isLetter_16 : decode cX12_isLetter 16 = .ok (.iconst 0, 1) := by decide +kernel
theorem dX12_isLetter_17 : decode cX12_isLetter 17 = .ok (.ireturn, 1) := by decide +kernel
theorem dX12_in_0 : decode cX12_in 0 = .ok (.iload_n 0, 1) := by decide +kernel
theorem dX12_in_1 : decode cX12_in 1 = .ok (.iload_n 1, 1) := by decide +kernel
theorem dX12_in_2 : decode cX12_in 2 = .ok (.if_icmp .lt 12, 3) := by decide +kernel
theorem dX12_in_5 : decode cX12_in 5 = .ok (.iload_n 0, 1) := by decide +kernel
theorem dX12_in_6 : decode cX12_in 6 = .ok (.iload_n 2, 1) := by decide +kernel
theorem dX12_in_7 : decode cX12_in 7 = .ok (.if_icmp .gt 7, 3) := by decide +kernel
theorem dX12_in_10 : decode cX12_in 10 = .ok (.iconst 1, 1) := by decide +kernel
theorem dX12_in_11 : decode cX12_in 11 = .ok (.goto 4, 3) := by decide +kernel
theorem dX12_in_14 : decode cX12_in 14 = .ok (.iconst 0, 1) := by decide +kernel
theorem dX12_in_15 : decode cX12_in 15 = .ok (.ireturn, 1) := by decide +kernel
theorem dX12_within_0 : decode cX12_within 0 = .ok (.iload_n 0, 1) := by decide +kernel
theorem dX12_within_1 : decode cX12_within 1 = .ok (.iload_n 1, 1) := by decide +kernel
theorem dX12_within_2 : decode cX12_within 2 = .ok (.if_icmp .ge 7, 3) := by decide +kernel
theorem dX12_within_5 : decode cX12_within 5 = .ok (.iload_n 1, 1) := by decide +kernel
theorem dX12_within_6 : decode cX12_within 6 = .ok (.goto 13, 3) := by decide +kernel
theorem dX12_within_9 : decode cX12_within 9 = .ok (.iload_n 0, 1) := by decide +kernel
theorem dX12_within_10 : decode cX12_within 10 = .ok (.iload_n 2, 1) := by decide +kernel
theorem dX12_within_11 : decode cX12_within 11 = .ok (.if_icmp .le 7, 3) := by decide +kernel
theorem dX12_within_14 : decode cX12_within 14 = .ok (.iload_n 2, 1) := by decide +kernel
theorem dX12_within_15 : decode cX12_within 15 = .ok (.goto 4, 3) := by decide +kernel
theorem dX12_within_18 : decode cX12_within 18 = .ok (.iload_n 0, 1) := by decide +kernel
theorem dX12_within_19 : decode cX12_within 19 = .ok (.ireturn, 1) := by decide +kernel
theorem dX12_off_0 : decode cX12_off 0 = .ok (.iload_n 0, 1) := by decide +kernel
theorem dX12_off_1 : decode cX12_off 1 = .ok (.iload_n 1, 1) := by decide +kernel
theorem dX12_off_2 : decode cX12_off 2 = .ok (.if_icmp .ge 9, 3) := by decide +kernel
theorem dX12_off_5 : decode cX12_off 5 = .ok (.iload_n 1, 1) := by decide +kernel
theorem dX12_off_6 : decode cX12_off 6 = .ok (.iload_n 0, 1) := by decide +kernel
theorem dX12_off_7 : decode cX12_off 7 = .ok (.isub, 1) := by decide +kernel
theorem dX12_off_8 : decode cX12_off 8 = .ok (.goto 6, 3) := by decide +kernel
theorem dX12_off_11 : decode cX12_off 11 = .ok (.iload_n 0, 1) := by decide +kernel
theorem dX12_off_12 : decode cX12_off 12 = .ok (.iload_n 1, 1) := by decide +kernel
theorem dX12_off_13 : decode cX12_off 13 = .ok (.isub, 1) := by decide +kernel
theorem dX12_off_14 : decode cX12_off 14 = .ok (.ireturn, 1) := by decide +kernel
theorem dX12_byteAt_0 : decode cX12_byteAt 0 = .ok (.iload_n 1, 1) := by decide +kernel
theorem dX12_byteAt_1 : decode cX12_byteAt 1 = .ok (.aload_n 0, 1) := by decide +kernel
theorem dX12_byteAt_2 : decode cX12_byteAt 2 = .ok (.getfield 160, 3) := by decide +kernel
theorem dX12_byteAt_5 : decode cX12_byteAt 5 = .ok (.if_icmp .ge 16, 3) := by decide +kernel
theorem dX12_byteAt_8 : decode cX12_byteAt 8 = .ok (.aload_n 0, 1) := by decide +kernel
theorem dX12_byteAt_9 : decode cX12_byteAt 9 = .ok (.getfield 17, 3) := by decide +kernel
theorem dX12_byteAt_12 : decode cX12_byteAt 12 = .ok (.iload_n 1, 1) := by decide +kernel
theorem dX12_byteAt_13 : decode cX12_byteAt 13 = .ok (.baload, 1) := by decide +kernel
theorem dX12_byteAt_14 : decode cX12_byteAt 14 = .ok (.sipush 255, 3) := by decide +kernel
theorem dX12_byteAt_17 : decode cX12_byteAt 17 = .ok (.iand, 1) := by decide +kernel
theorem dX12_byteAt_18 : decode cX12_byteAt 18 = .ok (.goto 4, 3) := by decide +kernel
theorem dX12_byteAt_21 : decode cX12_byteAt 21 = .ok (.iconst 0, 1) := by decide +kernel
theorem dX12_byteAt_22 : decode cX12_byteAt 22 = .ok (.ireturn, 1) := by decide +kernel
theorem dX12_isRung_0 : decode cX12_isRung 0 = .ok (.iload_n 1, 1) := by decide +kernel
theorem dX12_isRung_1 : decode cX12_isRung 1 = .ok (.iconst 0, 1) := by decide +kernel
theorem dX12_isRung_2 : decode cX12_isRung 2 = .ok (.aload_n 0, 1) := by decide +kernel
theorem dX12_isRung_3 : decode cX12_isRung 3 = .ok (.getfield 43, 3) := by decide +kernel
theorem dX12_isRung_6 : decode cX12_isRung 6 = .ok (.aload_n 0, 1) := by decide +kernel
theorem dX12_isRung_7 : decode cX12_isRung 7 = .ok (.getfield 221, 3) := by decide +kernel
theorem dX12_isRung_10 : decode cX12_isRung 10 = .ok (.iaload, 1) := by decide +kernel
theorem dX12_isRung_11 : decode cX12_isRung 11 = .ok (.iconst 1, 1) := by decide +kernel
theorem dX12_isRung_12 : decode cX12_isRung 12 = .ok (.isub, 1) := by decide +kernel
theorem dX12_isRung_13 : decode cX12_isRung 13 = .ok (.invokestatic 292, 3) := by decide +kernel
theorem dX12_isRung_16 : decode cX12_isRung 16 = .ok (.ireturn, 1) := by decide +kernel
theorem dX12_isPerson_0 : decode cX12_isPerson 0 = .ok (.iload_n 1, 1) := by decide +kernel
theorem dX12_isPerson_1 : decode cX12_isPerson 1 = .ok (.iconst 0, 1) := by decide +kernel
theorem dX12_isPerson_2 : decode cX12_isPerson 2 = .ok (.aload_n 0, 1) := by decide +kernel
theorem dX12_isPerson_3 : decode cX12_isPerson 3 = .ok (.getfield 46, 3) := by decide +kernel
theorem dX12_isPerson_6 : decode cX12_isPerson 6 = .ok (.aload_n 0, 1) := by decide +kernel
theorem dX12_isPerson_7 : decode cX12_isPerson 7 = .ok (.getfield 221, 3) := by decide +kernel
theorem dX12_isPerson_10 : decode cX12_isPerson 10 = .ok (.iaload, 1) := by decide +kernel
theorem dX12_isPerson_11 : decode cX12_isPerson 11 = .ok (.iconst 1, 1) := by decide +kernel
theorem dX12_isPerson_12 : decode cX12_isPerson 12 = .ok (.isub, 1) := by decide +kernel
theorem dX12_isPerson_13 : decode cX12_isPerson 13 = .ok (.invokestatic 292, 3) := by decide +kernel
theorem dX12_isPerson_16 : decode cX12_isPerson 16 = .ok (.ireturn, 1) := by decide +kernel
theorem dX12_copies_0 : decode cX12_copies 0 = .ok (.iconst 0, 1) := by decide +kernel
theorem dX12_copies_1 : decode cX12_copies 1 = .ok (.istore_n 1, 1) := by decide +kernel
theorem dX12_copies_2 : decode cX12_copies 2 = .ok (.iload_n 1, 1) := by decide +kernel
theorem dX12_copies_3 : decode cX12_copies 3 = .ok (.bipush 51, 2) := by decide +kernel
theorem dX12_copies_5 : decode cX12_copies 5 = .ok (.if_icmp .ge 21, 3) := by decide +kernel
theorem dX12_copies_8 : decode cX12_copies 8 = .ok (.aload_n 0, 1) := by decide +kernel
theorem dX12_copies_9 : decode cX12_copies 9 = .ok (.getfield 104, 3) := by decide +kernel
theorem dX12_copies_12 : decode cX12_copies 12 = .ok (.iload_n 1, 1) := by decide +kernel
theorem dX12_copies_13 : decode cX12_copies 13 = .ok (.aload_n 0, 1) := by decide +kernel
theorem dX12_copies_14 : decode cX12_copies 14 = .ok (.getfield 101, 3) := by decide +kernel
theorem dX12_copies_17 : decode cX12_copies 17 = .ok (.iload_n 1, 1) := by decide +kernel
theorem dX12_copies_18 : decode cX12_copies 18 = .ok (.iaload, 1) := by decide +kernel
theorem dX12_copies_19 : decode cX12_copies 19 = .ok (.iastore, 1) := by decide +kernel
theorem dX12_copies_20 : decode cX12_copies 20 = .ok (.iinc 1 1, 3) := by decide +kernel
theorem dX12_copies_23 : decode cX12_copies 23 = .ok (.goto (-21), 3) := by decide +kernel
theorem dX12_copies_26 : decode cX12_copies 26 = .ok (.aload_n 0, 1) := by decide +kernel
theorem dX12_copies_27 : decode cX12_copies 27 = .ok (.aload_n 0, 1) := by decide +kernel
theorem dX12_copies_28 : decode cX12_copies 28 = .ok (.getfield 61, 3) := by decide +kernel
theorem dX12_copies_31 : decode cX12_copies 31 = .ok (.aload_n 0, 1) := by decide +kernel
theorem dX12_copies_32 : decode cX12_copies 32 = .ok (.getfield 221, 3) := by decide +kernel
theorem dX12_copies_35 : decode cX12_copies 35 = .ok (.iaload, 1) := by decide +kernel
theorem dX12_copies_36 : decode cX12_copies 36 = .ok (.putfield 296, 3) := by decide +kernel
theorem dX12_copies_39 : decode cX12_copies 39 = .ok (.aload_n 0, 1) := by decide +kernel
theorem dX12_copies_40 : decode cX12_copies 40 = .ok (.iconst 0, 1) := by decide +kernel
theorem dX12_copies_41 : decode cX12_copies 41 = .ok (.putfield 299, 3) := by decide +kernel
theorem dX12_copies_44 : decode cX12_copies 44 = .ok (.return_, 1) := by decide +kernel
theorem dX12_keepsRow_0 : decode cX12_keepsRow 0 = .ok (.iconst 0, 1) := by decide +kernel
theorem dX12_keepsRow_1 : decode cX12_keepsRow 1 = .ok (.istore_n 1, 1) := by decide +kernel
theorem dX12_keepsRow_2 : decode cX12_keepsRow 2 = .ok (.iload_n 1, 1) := by decide +kernel
theorem dX12_keepsRow_3 : decode cX12_keepsRow 3 = .ok (.bipush 51, 2) := by decide +kernel
theorem dX12_keepsRow_5 : decode cX12_keepsRow 5 = .ok (.if_icmp .ge 21, 3) := by decide +kernel
theorem dX12_keepsRow_8 : decode cX12_keepsRow 8 = .ok (.aload_n 0, 1) := by decide +kernel
theorem dX12_keepsRow_9 : decode cX12_keepsRow 9 = .ok (.getfield 101, 3) := by decide +kernel
theorem dX12_keepsRow_12 : decode cX12_keepsRow 12 = .ok (.iload_n 1, 1) := by decide +kernel
theorem dX12_keepsRow_13 : decode cX12_keepsRow 13 = .ok (.aload_n 0, 1) := by decide +kernel
theorem dX12_keepsRow_14 : decode cX12_keepsRow 14 = .ok (.getfield 104, 3) := by decide +kernel
theorem dX12_keepsRow_17 : decode cX12_keepsRow 17 = .ok (.iload_n 1, 1) := by decide +kernel
theorem dX12_keepsRow_18 : decode cX12_keepsRow 18 = .ok (.iaload, 1) := by decide +kernel
theorem dX12_keepsRow_19 : decode cX12_keepsRow 19 = .ok (.iastore, 1) := by decide +kernel
theorem dX12_keepsRow_20 : decode cX12_keepsRow 20 = .ok (.iinc 1 1, 3) := by decide +kernel
theorem dX12_keepsRow_23 : decode cX12_keepsRow 23 = .ok (.goto (-21), 3) := by decide +kernel
theorem dX12_keepsRow_26 : decode cX12_keepsRow 26 = .ok (.return_, 1) := by decide +kernel
theorem dX12_begins_0 : decode cX12_begins 0 = .ok (.iconst 0, 1) := by decide +kernel
theorem dX12_begins_1 : decode cX12_begins 1 = .ok (.istore_n 1, 1) := by decide +kernel
theorem dX12_begins_2 : decode cX12_begins 2 = .ok (.iload_n 1, 1) := by decide +kernel
theorem dX12_begins_3 : decode cX12_begins 3 = .ok (.bipush 51, 2) := by decide +kernel
theorem dX12_begins_5 : decode cX12_begins 5 = .ok (.if_icmp .ge 16, 3) := by decide +kernel
theorem dX12_begins_8 : decode cX12_begins 8 = .ok (.aload_n 0, 1) := by decide +kernel
theorem dX12_begins_9 : decode cX12_begins 9 = .ok (.getfield 104, 3) := by decide +kernel
theorem dX12_begins_12 : decode cX12_begins 12 = .ok (.iload_n 1, 1) := by decide +kernel
theorem dX12_begins_13 : decode cX12_begins 13 = .ok (.iconst 0, 1) := by decide +kernel
theorem dX12_begins_14 : decode cX12_begins 14 = .ok (.iastore, 1) := by decide +kernel
theorem dX12_begins_15 : decode cX12_begins 15 = .ok (.iinc 1 1, 3) := by decide +kernel
theorem dX12_begins_18 : decode cX12_begins 18 = .ok (.goto (-16), 3) := by decide +kernel
theorem dX12_begins_21 : decode cX12_begins 21 = .ok (.iconst 0, 1) := by decide +kernel
theorem dX12_begins_22 : decode cX12_begins 22 = .ok (.istore_n 1, 1) := by decide +kernel
theorem dX12_begins_23 : decode cX12_begins 23 = .ok (.iload_n 1, 1) := by decide +kernel
theorem dX12_begins_24 : decode cX12_begins 24 = .ok (.iconst 5, 1) := by decide +kernel
theorem dX12_begins_25 : decode cX12_begins 25 = .ok (.if_icmp .ge 55, 3) := by decide +kernel
theorem dX12_begins_28 : decode cX12_begins 28 = .ok (.aload_n 0, 1) := by decide +kernel
theorem dX12_begins_29 : decode cX12_begins 29 = .ok (.getfield 104, 3) := by decide +kernel
theorem dX12_begins_32 : decode cX12_begins 32 = .ok (.iload_n 1, 1) := by decide +kernel
theorem dX12_begins_33 : decode cX12_begins 33 = .ok (.iload_n 1, 1) := by decide +kernel
theorem dX12_begins_34 : decode cX12_begins 34 = .ok (.aload_n 0, 1) := by decide +kernel
theorem dX12_begins_35 : decode cX12_begins 35 = .ok (.getfield 46, 3) := by decide +kernel
theorem dX12_begins_38 : decode cX12_begins 38 = .ok (.aload_n 0, 1) := by decide +kernel
theorem dX12_begins_39 : decode cX12_begins 39 = .ok (.getfield 221, 3) := by decide +kernel
theorem dX12_begins_42 : decode cX12_begins 42 = .ok (.iaload, 1) := by decide +kernel
theorem dX12_begins_43 : decode cX12_begins 43 = .ok (.if_icmp .ge 19, 3) := by decide +kernel
theorem dX12_begins_46 : decode cX12_begins 46 = .ok (.aload_n 0, 1) := by decide +kernel
theorem dX12_begins_47 : decode cX12_begins 47 = .ok (.getfield 49, 3) := by decide +kernel
theorem dX12_begins_50 : decode cX12_begins 50 = .ok (.iconst 5, 1) := by decide +kernel
theorem dX12_begins_51 : decode cX12_begins 51 = .ok (.aload_n 0, 1) := by decide +kernel
theorem dX12_begins_52 : decode cX12_begins 52 = .ok (.getfield 221, 3) := by decide +kernel
theorem dX12_begins_55 : decode cX12_begins 55 = .ok (.imul, 1) := by decide +kernel
theorem dX12_begins_56 : decode cX12_begins 56 = .ok (.iload_n 1, 1) := by decide +kernel
theorem dX12_begins_57 : decode cX12_begins 57 = .ok (.iadd, 1) := by decide +kernel
theorem dX12_begins_58 : decode cX12_begins 58 = .ok (.iaload, 1) := by decide +kernel
theorem dX12_begins_59 : decode cX12_begins 59 = .ok (.goto 4, 3) := by decide +kernel
theorem dX12_begins_62 : decode cX12_begins 62 = .ok (.iconst (-1), 1) := by decide +kernel
theorem dX12_begins_63 : decode cX12_begins 63 = .ok (.iastore, 1) := by decide +kernel
theorem dX12_begins_64 : decode cX12_begins 64 = .ok (.aload_n 0, 1) := by decide +kernel
theorem dX12_begins_65 : decode cX12_begins 65 = .ok (.getfield 104, 3) := by decide +kernel
theorem dX12_begins_68 : decode cX12_begins 68 = .ok (.iconst 5, 1) := by decide +kernel
theorem dX12_begins_69 : decode cX12_begins 69 = .ok (.iload_n 1, 1) := by decide +kernel
theorem dX12_begins_70 : decode cX12_begins 70 = .ok (.iadd, 1) := by decide +kernel
theorem dX12_begins_71 : decode cX12_begins 71 = .ok (.bipush (-2), 2) := by decide +kernel
theorem dX12_begins_73 : decode cX12_begins 73 = .ok (.iastore, 1) := by decide +kernel
theorem dX12_begins_74 : decode cX12_begins 74 = .ok (.iinc 1 1, 3) := by decide +kernel
theorem dX12_begins_77 : decode cX12_begins 77 = .ok (.goto (-54), 3) := by decide +kernel
theorem dX12_begins_80 : decode cX12_begins 80 = .ok (.aload_n 0, 1) := by decide +kernel
theorem dX12_begins_81 : decode cX12_begins 81 = .ok (.aload_n 0, 1) := by decide +kernel
theorem dX12_begins_82 : decode cX12_begins 82 = .ok (.getfield 61, 3) := by decide +kernel
theorem dX12_begins_85 : decode cX12_begins 85 = .ok (.aload_n 0, 1) := by decide +kernel
theorem dX12_begins_86 : decode cX12_begins 86 = .ok (.getfield 221, 3) := by decide +kernel
theorem dX12_begins_89 : decode cX12_begins 89 = .ok (.iaload, 1) := by decide +kernel
theorem dX12_begins_90 : decode cX12_begins 90 = .ok (.putfield 296, 3) := by decide +kernel
theorem dX12_begins_93 : decode cX12_begins 93 = .ok (.aload_n 0, 1) := by decide +kernel
theorem dX12_begins_94 : decode cX12_begins 94 = .ok (.iconst 0, 1) := by decide +kernel
theorem dX12_begins_95 : decode cX12_begins 95 = .ok (.putfield 299, 3) := by decide +kernel
theorem dX12_begins_98 : decode cX12_begins 98 = .ok (.return_, 1) := by decide +kernel
theorem dX12_mixed_0 : decode cX12_mixed 0 = .ok (.iload_n 0, 1) := by decide +kernel
theorem dX12_mixed_1 : decode cX12_mixed 1 = .ok (.iload_n 1, 1) := by decide +kernel
theorem dX12_mixed_2 : decode cX12_mixed 2 = .ok (.ixor, 1) := by decide +kernel
theorem dX12_mixed_3 : decode cX12_mixed 3 = .ok (.ldc_w 302, 3) := by decide +kernel
theorem dX12_mixed_6 : decode cX12_mixed 6 = .ok (.imul, 1) := by decide +kernel
theorem dX12_mixed_7 : decode cX12_mixed 7 = .ok (.sipush 12345, 3) := by decide +kernel
theorem dX12_mixed_10 : decode cX12_mixed 10 = .ok (.iadd, 1) := by decide +kernel
theorem dX12_mixed_11 : decode cX12_mixed 11 = .ok (.istore_n 2, 1) := by decide +kernel
theorem dX12_mixed_12 : decode cX12_mixed 12 = .ok (.iload_n 2, 1) := by decide +kernel
theorem dX12_mixed_13 : decode cX12_mixed 13 = .ok (.iload_n 2, 1) := by decide +kernel
theorem dX12_mixed_14 : decode cX12_mixed 14 = .ok (.bipush 15, 2) := by decide +kernel
theorem dX12_mixed_16 : decode cX12_mixed 16 = .ok (.iushr, 1) := by decide +kernel
theorem dX12_mixed_17 : decode cX12_mixed 17 = .ok (.ixor, 1) := by decide +kernel
theorem dX12_mixed_18 : decode cX12_mixed 18 = .ok (.ireturn, 1) := by decide +kernel
theorem dX12_bits_0 : decode cX12_bits 0 = .ok (.iconst 0, 1) := by decide +kernel
theorem dX12_bits_1 : decode cX12_bits 1 = .ok (.istore_n 1, 1) := by decide +kernel
theorem dX12_bits_2 : decode cX12_bits 2 = .ok (.iconst 0, 1) := by decide +kernel
theorem dX12_bits_3 : decode cX12_bits 3 = .ok (.istore_n 2, 1) := by decide +kernel
theorem dX12_bits_4 : decode cX12_bits 4 = .ok (.iload_n 2, 1) := by decide +kernel
theorem dX12_bits_5 : decode cX12_bits 5 = .ok (.bipush 12, 2) := by decide +kernel
theorem dX12_bits_7 : decode cX12_bits 7 = .ok (.if_icmp .ge 17, 3) := by decide +kernel
theorem dX12_bits_10 : decode cX12_bits 10 = .ok (.iload_n 1, 1) := by decide +kernel
theorem dX12_bits_11 : decode cX12_bits 11 = .ok (.iload_n 0, 1) := by decide +kernel
theorem dX12_bits_12 : decode cX12_bits 12 = .ok (.iload_n 2, 1) := by decide +kernel
theorem dX12_bits_13 : decode cX12_bits 13 = .ok (.ishr, 1) := by decide +kernel
theorem dX12_bits_14 : decode cX12_bits 14 = .ok (.iconst 1, 1) := by decide +kernel
theorem dX12_bits_15 : decode cX12_bits 15 = .ok (.iand, 1) := by decide +kernel
theorem dX12_bits_16 : decode cX12_bits 16 = .ok (.iadd, 1) := by decide +kernel
theorem dX12_bits_17 : decode cX12_bits 17 = .ok (.istore_n 1, 1) := by decide +kernel
theorem dX12_bits_18 : decode cX12_bits 18 = .ok (.iinc 2 1, 3) := by decide +kernel
theorem dX12_bits_21 : decode cX12_bits 21 = .ok (.goto (-17), 3) := by decide +kernel
theorem dX12_bits_24 : decode cX12_bits 24 = .ok (.iload_n 1, 1) := by decide +kernel
theorem dX12_bits_25 : decode cX12_bits 25 = .ok (.ireturn, 1) := by decide +kernel
theorem dX12_lotOf_0 : decode cX12_lotOf 0 = .ok (.aload_n 0, 1) := by decide +kernel
theorem dX12_lotOf_1 : decode cX12_lotOf 1 = .ok (.getfield 296, 3) := by decide +kernel
theorem dX12_lotOf_4 : decode cX12_lotOf 4 = .ok (.sipush 131, 3) := by decide +kernel
theorem dX12_lotOf_7 : decode cX12_lotOf 7 = .ok (.invokestatic 303, 3) := by decide +kernel
theorem dX12_lotOf_10 : decode cX12_lotOf 10 = .ok (.iload_n 1, 1) := by decide +kernel
theorem dX12_lotOf_11 : decode cX12_lotOf 11 = .ok (.invokestatic 303, 3) := by decide +kernel
theorem dX12_lotOf_14 : decode cX12_lotOf 14 = .ok (.iconst 1, 1) := by decide +kernel
theorem dX12_lotOf_15 : decode cX12_lotOf 15 = .ok (.iushr, 1) := by decide +kernel
theorem dX12_lotOf_16 : decode cX12_lotOf 16 = .ok (.bipush 100, 2) := by decide +kernel
theorem dX12_lotOf_18 : decode cX12_lotOf 18 = .ok (.irem, 1) := by decide +kernel
theorem dX12_lotOf_19 : decode cX12_lotOf 19 = .ok (.ireturn, 1) := by decide +kernel
theorem dX12_isWhole_0 : decode cX12_isWhole 0 = .ok (.aload_n 0, 1) := by decide +kernel
theorem dX12_isWhole_1 : decode cX12_isWhole 1 = .ok (.iload_n 1, 1) := by decide +kernel
theorem dX12_isWhole_2 : decode cX12_isWhole 2 = .ok (.invokevirtual 306, 3) := by decide +kernel
theorem dX12_isWhole_5 : decode cX12_isWhole 5 = .ok (.ifCond .eq 19, 3) := by decide +kernel
theorem dX12_isWhole_8 : decode cX12_isWhole 8 = .ok (.aload_n 0, 1) := by decide +kernel
theorem dX12_isWhole_9 : decode cX12_isWhole 9 = .ok (.getfield 104, 3) := by decide +kernel
theorem dX12_isWhole_12 : decode cX12_isWhole 12 = .ok (.bipush 25, 2) := by decide +kernel
theorem dX12_isWhole_14 : decode cX12_isWhole 14 = .ok (.iload_n 1, 1) := by decide +kernel
theorem dX12_isWhole_15 : decode cX12_isWhole 15 = .ok (.iadd, 1) := by decide +kernel
theorem dX12_isWhole_16 : decode cX12_isWhole 16 = .ok (.iaload, 1) := by decide +kernel
theorem dX12_isWhole_17 : decode cX12_isWhole 17 = .ok (.ifCond .ne 7, 3) := by decide +kernel
theorem dX12_isWhole_20 : decode cX12_isWhole 20 = .ok (.iconst 1, 1) := by decide +kernel
theorem dX12_isWhole_21 : decode cX12_isWhole 21 = .ok (.goto 4, 3) := by decide +kernel
theorem dX12_isWhole_24 : decode cX12_isWhole 24 = .ok (.iconst 0, 1) := by decide +kernel
theorem dX12_isWhole_25 : decode cX12_isWhole 25 = .ok (.ireturn, 1) := by decide +kernel
theorem dX12_widthAt_0 : decode cX12_widthAt 0 = .ok (.aload_n 0, 1) := by decide +kernel
theorem dX12_widthAt_1 : decode cX12_widthAt 1 = .ok (.getfield 52, 3) := by decide +kernel
theorem dX12_widthAt_4 : decode cX12_widthAt 4 = .ok (.iconst 5, 1) := by decide +kernel
theorem dX12_widthAt_5 : decode cX12_widthAt 5 = .ok (.aload_n 0, 1) := by decide +kernel
theorem dX12_widthAt_6 : decode cX12_widthAt 6 = .ok (.getfield 221, 3) := by decide +kernel
theorem dX12_widthAt_9 : decode cX12_widthAt 9 = .ok (.imul, 1) := by decide +kernel
theorem dX12_widthAt_10 : decode cX12_widthAt 10 = .ok (.iload_n 1, 1) := by decide +kernel
theorem dX12_widthAt_11 : decode cX12_widthAt 11 = .ok (.iadd, 1) := by decide +kernel
theorem dX12_widthAt_12 : decode cX12_widthAt 12 = .ok (.iaload, 1) := by decide +kernel
theorem dX12_widthAt_13 : decode cX12_widthAt 13 = .ok (.ireturn, 1) := by decide +kernel
theorem dX12_onRung_0 : decode cX12_onRung 0 = .ok (.iconst 0, 1) := by decide +kernel
theorem dX12_onRung_1 : decode cX12_onRung 1 = .ok (.istore_n 2, 1) := by decide +kernel
theorem dX12_onRung_2 : decode cX12_onRung 2 = .ok (.iconst 0, 1) := by decide +kernel
theorem dX12_onRung_3 : decode cX12_onRung 3 = .ok (.istore_n 3, 1) := by decide +kernel
theorem dX12_onRung_4 : decode cX12_onRung 4 = .ok (.iload_n 3, 1) := by decide +kernel
theorem dX12_onRung_5 : decode cX12_onRung 5 = .ok (.aload_n 0, 1) := by decide +kernel
theorem dX12_onRung_6 : decode cX12_onRung 6 = .ok (.getfield 46, 3) := by decide +kernel
theorem dX12_onRung_9 : decode cX12_onRung 9 = .ok (.aload_n 0, 1) := by decide +kernel
theorem dX12_onRung_10 : decode cX12_onRung 10 = .ok (.getfield 221, 3) := by decide +kernel
theorem dX12_onRung_13 : decode cX12_onRung 13 = .ok (.iaload, 1) := by decide +kernel
theorem dX12_onRung_14 : decode cX12_onRung 14 = .ok (.if_icmp .ge 25, 3) := by decide +kernel
theorem dX12_onRung_17 : decode cX12_onRung 17 = .ok (.aload_n 0, 1) := by decide +kernel
theorem dX12_onRung_18 : decode cX12_onRung 18 = .ok (.getfield 104, 3) := by decide +kernel
theorem dX12_onRung_21 : decode cX12_onRung 21 = .ok (.iload_n 3, 1) := by decide +kernel
theorem dX12_onRung_22 : decode cX12_onRung 22 = .ok (.iaload, 1) := by decide +kernel
theorem dX12_onRung_23 : decode cX12_onRung 23 = .ok (.iload_n 1, 1) := by decide +kernel
theorem dX12_onRung_24 : decode cX12_onRung 24 = .ok (.if_icmp .ne 9, 3) := by decide +kernel
theorem dX12_onRung_27 : decode cX12_onRung 27 = .ok (.iload_n 2, 1) := by decide +kernel
theorem dX12_onRung_28 : decode cX12_onRung 28 = .ok (.iconst 1, 1) := by decide +kernel
theorem dX12_onRung_29 : decode cX12_onRung 29 = .ok (.iload_n 3, 1) := by decide +kernel
theorem dX12_onRung_30 : decode cX12_onRung 30 = .ok (.ishl, 1) := by decide +kernel
theorem dX12_onRung_31 : decode cX12_onRung 31 = .ok (.ior, 1) := by decide +kernel
theorem dX12_onRung_32 : decode cX12_onRung 32 = .ok (.istore_n 2, 1) := by decide +kernel
theorem dX12_onRung_33 : decode cX12_onRung 33 = .ok (.iinc 3 1, 3) := by decide +kernel
theorem dX12_onRung_36 : decode cX12_onRung 36 = .ok (.goto (-32), 3) := by decide +kernel
theorem dX12_onRung_39 : decode cX12_onRung 39 = .ok (.iload_n 2, 1) := by decide +kernel
theorem dX12_onRung_40 : decode cX12_onRung 40 = .ok (.ireturn, 1) := by decide +kernel
theorem dX12_widthsOf_0 : decode cX12_widthsOf 0 = .ok (.iconst 0, 1) := by decide +kernel
theorem dX12_widthsOf_1 : decode cX12_widthsOf 1 = .ok (.istore_n 2, 1) := by decide +kernel
theorem dX12_widthsOf_2 : decode cX12_widthsOf 2 = .ok (.iconst 0, 1) := by decide +kernel
theorem dX12_widthsOf_3 : decode cX12_widthsOf 3 = .ok (.istore_n 3, 1) := by decide +kernel
theorem dX12_widthsOf_4 : decode cX12_widthsOf 4 = .ok (.iload_n 3, 1) := by decide +kernel
theorem dX12_widthsOf_5 : decode cX12_widthsOf 5 = .ok (.aload_n 0, 1) := by decide +kernel
theorem dX12_widthsOf_6 : decode cX12_widthsOf 6 = .ok (.getfield 46, 3) := by decide +kernel
theorem dX12_widthsOf_9 : decode cX12_widthsOf 9 = .ok (.aload_n 0, 1) := by decide +kernel
theorem dX12_widthsOf_10 : decode cX12_widthsOf 10 = .ok (.getfield 221, 3) := by decide +kernel
theorem dX12_widthsOf_13 : decode cX12_widthsOf 13 = .ok (.iaload, 1) := by decide +kernel
theorem dX12_widthsOf_14 : decode cX12_widthsOf 14 = .ok (.if_icmp .ge 26, 3) := by decide +kernel
theorem dX12_widthsOf_17 : decode cX12_widthsOf 17 = .ok (.iload_n 1, 1) := by decide +kernel
theorem dX12_widthsOf_18 : decode cX12_widthsOf 18 = .ok (.iload_n 3, 1) := by decide +kernel
theorem dX12_widthsOf_19 : decode cX12_widthsOf 19 = .ok (.ishr, 1) := by decide +kernel
theorem dX12_widthsOf_20 : decode cX12_widthsOf 20 = .ok (.iconst 1, 1) := by decide +kernel
theorem dX12_widthsOf_21 : decode cX12_widthsOf 21 = .ok (.iand, 1) := by decide +kernel
theorem dX12_widthsOf_22 : decode cX12_widthsOf 22 = .ok (.iconst 1, 1) := by decide +kernel
theorem dX12_widthsOf_23 : decode cX12_widthsOf 23 = .ok (.if_icmp .ne 11, 3) := by decide +kernel
theorem dX12_widthsOf_26 : decode cX12_widthsOf 26 = .ok (.iload_n 2, 1) := by decide +kernel
theorem dX12_widthsOf_27 : decode cX12_widthsOf 27 = .ok (.aload_n 0, 1) := by decide +kernel
theorem dX12_widthsOf_28 : decode cX12_widthsOf 28 = .ok (.iload_n 3, 1) := by decide +kernel
theorem dX12_widthsOf_29 : decode cX12_widthsOf 29 = .ok (.invokevirtual 309, 3) := by decide +kernel
theorem dX12_widthsOf_32 : decode cX12_widthsOf 32 = .ok (.iadd, 1) := by decide +kernel
theorem dX12_widthsOf_33 : decode cX12_widthsOf 33 = .ok (.istore_n 2, 1) := by decide +kernel
theorem dX12_widthsOf_34 : decode cX12_widthsOf 34 = .ok (.iinc 3 1, 3) := by decide +kernel
theorem dX12_widthsOf_37 : decode cX12_widthsOf 37 = .ok (.goto (-33), 3) := by decide +kernel
theorem dX12_widthsOf_40 : decode cX12_widthsOf 40 = .ok (.iload_n 2, 1) := by decide +kernel
theorem dX12_widthsOf_41 : decode cX12_widthsOf 41 = .ok (.ireturn, 1) := by decide +kernel
theorem dX12_widthsOn_0 : decode cX12_widthsOn 0 = .ok (.aload_n 0, 1) := by decide +kernel
theorem dX12_widthsOn_1 : decode cX12_widthsOn 1 = .ok (.aload_n 0, 1) := by decide +kernel
theorem dX12_widthsOn_2 : decode cX12_widthsOn 2 = .ok (.iload_n 1, 1) := by decide +kernel
theorem dX12_widthsOn_3 : decode cX12_widthsOn 3 = .ok (.invokevirtual 312, 3) := by decide +kernel
theorem dX12_widthsOn_6 : decode cX12_widthsOn 6 = .ok (.invokevirtual 315, 3) := by decide +kernel
theorem dX12_widthsOn_9 : decode cX12_widthsOn 9 = .ok (.ireturn, 1) := by decide +kernel
theorem dX12_looks_0 : decode cX12_looks 0 = .ok (.iconst 0, 1) := by decide +kernel
theorem dX12_looks_1 : decode cX12_looks 1 = .ok (.istore_n 2, 1) := by decide +kernel
theorem dX12_looks_2 : decode cX12_looks 2 = .ok (.iload_n 2, 1) := by decide +kernel
theorem dX12_looks_3 : decode cX12_looks 3 = .ok (.bipush 9, 2) := by decide +kernel
theorem dX12_looks_5 : decode cX12_looks 5 = .ok (.if_icmp .ge 16, 3) := by decide +kernel
theorem dX12_looks_8 : decode cX12_looks 8 = .ok (.aload_n 0, 1) := by decide +kernel
theorem dX12_looks_9 : decode cX12_looks 9 = .ok (.getfield 95, 3) := by decide +kernel
theorem dX12_looks_12 : decode cX12_looks 12 = .ok (.iload_n 2, 1) := by decide +kernel
theorem dX12_looks_13 : decode cX12_looks 13 = .ok (.iconst 0, 1) := by decide +kernel
theorem dX12_looks_14 : decode cX12_looks 14 = .ok (.iastore, 1) := by decide +kernel
theorem dX12_looks_15 : decode cX12_looks 15 = .ok (.iinc 2 1, 3) := by decide +kernel
theorem dX12_looks_18 : decode cX12_looks 18 = .ok (.goto (-16), 3) := by decide +kernel
theorem dX12_looks_21 : decode cX12_looks 21 = .ok (.aload_n 0, 1) := by decide +kernel
theorem dX12_looks_22 : decode cX12_looks 22 = .ok (.getfield 95, 3) := by decide +kernel
theorem dX12_looks_25 : decode cX12_looks 25 = .ok (.iconst 0, 1) := by decide +kernel
theorem dX12_looks_26 : decode cX12_looks 26 = .ok (.iload_n 1, 1) := by decide +kernel
theorem dX12_looks_27 : decode cX12_looks 27 = .ok (.iastore, 1) := by decide +kernel
theorem dX12_looks_28 : decode cX12_looks 28 = .ok (.aload_n 0, 1) := by decide +kernel
theorem dX12_looks_29 : decode cX12_looks 29 = .ok (.getfield 95, 3) := by decide +kernel
theorem dX12_looks_32 : decode cX12_looks 32 = .ok (.iconst 1, 1) := by decide +kernel
theorem dX12_looks_33 : decode cX12_looks 33 = .ok (.aload_n 0, 1) := by decide +kernel
theorem dX12_looks_34 : decode cX12_looks 34 = .ok (.getfield 43, 3) := by decide +kernel
theorem dX12_looks_37 : decode cX12_looks 37 = .ok (.aload_n 0, 1) := by decide +kernel
theorem dX12_looks_38 : decode cX12_looks 38 = .ok (.getfield 221, 3) := by decide +kernel
theorem dX12_looks_41 : decode cX12_looks 41 = .ok (.iaload, 1) := by decide +kernel
theorem dX12_looks_42 : decode cX12_looks 42 = .ok (.iastore, 1) := by decide +kernel
theorem dX12_looks_43 : decode cX12_looks 43 = .ok (.aload_n 0, 1) := by decide +kernel
theorem dX12_looks_44 : decode cX12_looks 44 = .ok (.getfield 95, 3) := by decide +kernel
theorem dX12_looks_47 : decode cX12_looks 47 = .ok (.iconst 2, 1) := by decide +kernel
theorem dX12_looks_48 : decode cX12_looks 48 = .ok (.aload_n 0, 1) := by decide +kernel
theorem dX12_looks_49 : decode cX12_looks 49 = .ok (.getfield 104, 3) := by decide +kernel
theorem dX12_looks_52 : decode cX12_looks 52 = .ok (.bipush 49, 2) := by decide +kernel
theorem dX12_looks_54 : decode cX12_looks 54 = .ok (.iaload, 1) := by decide +kernel
theorem dX12_looks_55 : decode cX12_looks 55 = .ok (.iastore, 1) := by decide +kernel
theorem dX12_looks_56 : decode cX12_looks 56 = .ok (.return_, 1) := by decide +kernel
theorem dX12_lawTells_0 : decode cX12_lawTells 0 = .ok (.iconst 4, 1) := by decide +kernel
theorem dX12_lawTells_1 : decode cX12_lawTells 1 = .ok (.aload_n 0, 1) := by decide +kernel
theorem dX12_lawTells_2 : decode cX12_lawTells 2 = .ok (.getfield 221, 3) := by decide +kernel
theorem dX12_lawTells_5 : decode cX12_lawTells 5 = .ok (.imul, 1) := by decide +kernel
theorem dX12_lawTells_6 : decode cX12_lawTells 6 = .ok (.iload_n 1, 1) := by decide +kernel
theorem dX12_lawTells_7 : decode cX12_lawTells 7 = .ok (.iadd, 1) := by decide +kernel
theorem dX12_lawTells_8 : decode cX12_lawTells 8 = .ok (.istore_n 3, 1) := by decide +kernel
theorem dX12_lawTells_9 : decode cX12_lawTells 9 = .ok (.aload_n 0, 1) := by decide +kernel
theorem dX12_lawTells_10 : decode cX12_lawTells 10 = .ok (.getfield 64, 3) := by decide +kernel
theorem dX12_lawTells_13 : decode cX12_lawTells 13 = .ok (.iload_n 3, 1) := by decide +kernel
theorem dX12_lawTells_14 : decode cX12_lawTells 14 = .ok (.iaload, 1) := by decide +kernel
theorem dX12_lawTells_15 : decode cX12_lawTells 15 = .ok (.aload_n 0, 1) := by decide +kernel
theorem dX12_lawTells_16 : decode cX12_lawTells 16 = .ok (.getfield 67, 3) := by decide +kernel
theorem dX12_lawTells_19 : decode cX12_lawTells 19 = .ok (.iload_n 3, 1) := by decide +kernel
theorem dX12_lawTells_20 : decode cX12_lawTells 20 = .ok (.iaload, 1) := by decide +kernel
theorem dX12_lawTells_21 : decode cX12_lawTells 21 = .ok (.if_icmp .ne 5, 3) := by decide +kernel
theorem dX12_lawTells_24 : decode cX12_lawTells 24 = .ok (.iload_n 2, 1) := by decide +kernel
theorem dX12_lawTells_25 : decode cX12_lawTells 25 = .ok (.ireturn, 1) := by decide +kernel
theorem dX12_lawTells_26 : decode cX12_lawTells 26 = .ok (.aload_n 0, 1) := by decide +kernel
theorem dX12_lawTells_27 : decode cX12_lawTells 27 = .ok (.iconst 0, 1) := by decide +kernel
theorem dX12_lawTells_28 : decode cX12_lawTells 28 = .ok (.putfield 288, 3) := by decide +kernel
theorem dX12_lawTells_31 : decode cX12_lawTells 31 = .ok (.aload_n 0, 1) := by decide +kernel
theorem dX12_lawTells_32 : decode cX12_lawTells 32 = .ok (.getfield 64, 3) := by decide +kernel
theorem dX12_lawTells_35 : decode cX12_lawTells 35 = .ok (.iload_n 3, 1) := by decide +kernel
theorem dX12_lawTells_36 : decode cX12_lawTells 36 = .ok (.iaload, 1) := by decide +kernel
theorem dX12_lawTells_37 : decode cX12_lawTells 37 = .ok (.istore 4, 2) := by decide +kernel
theorem dX12_lawTells_39 : decode cX12_lawTells 39 = .ok (.iload 4, 2) := by decide +kernel
theorem dX12_lawTells_41 : decode cX12_lawTells 41 = .ok (.aload_n 0, 1) := by decide +kernel
theorem dX12_lawTells_42 : decode cX12_lawTells 42 = .ok (.getfield 67, 3) := by decide +kernel
theorem dX12_lawTells_45 : decode cX12_lawTells 45 = .ok (.iload_n 3, 1) := by decide +kernel
theorem dX12_lawTells_46 : decode cX12_lawTells 46 = .ok (.iaload, 1) := by decide +kernel
theorem dX12_lawTells_47 : decode cX12_lawTells 47 = .ok (.if_icmp .ge 112, 3) := by decide +kernel
theorem dX12_lawTells_50 : decode cX12_lawTells 50 = .ok (.aload_n 0, 1) := by decide +kernel
theorem dX12_lawTells_51 : decode cX12_lawTells 51 = .ok (.getfield 70, 3) := by decide +kernel
theorem dX12_lawTells_54 : decode cX12_lawTells 54 = .ok (.iload 4, 2) := by decide +kernel
theorem dX12_lawTells_56 : decode cX12_lawTells 56 = .ok (.baload, 1) := by decide +kernel
theorem dX12_lawTells_57 : decode cX12_lawTells 57 = .ok (.ifCond .eq 62, 3) := by decide +kernel
theorem dX12_lawTells_60 : decode cX12_lawTells 60 = .ok (.aload_n 0, 1) := by decide +kernel
theorem dX12_lawTells_61 : decode cX12_lawTells 61 = .ok (.aload_n 0, 1) := by decide +kernel
theorem dX12_lawTells_62 : decode cX12_lawTells 62 = .ok (.getfield 74, 3) := by decide +kernel
theorem dX12_lawTells_65 : decode cX12_lawTells 65 = .ok (.iload 4, 2) := by decide +kernel
theorem dX12_lawTells_67 : decode cX12_lawTells 67 = .ok (.iaload, 1) := by decide +kernel
theorem dX12_lawTells_68 : decode cX12_lawTells 68 = .ok (.aload_n 0, 1) := by decide +kernel
theorem dX12_lawTells_69 : decode cX12_lawTells 69 = .ok (.getfield 77, 3) := by decide +kernel
theorem dX12_lawTells_72 : decode cX12_lawTells 72 = .ok (.iload 4, 2) := by decide +kernel
theorem dX12_lawTells_74 : decode cX12_lawTells 74 = .ok (.iaload, 1) := by decide +kernel
theorem dX12_lawTells_75 : decode cX12_lawTells 75 = .ok (.invokevirtual 321, 3) := by decide +kernel
theorem dX12_lawTells_78 : decode cX12_lawTells 78 = .ok (.istore 5, 2) := by decide +kernel
theorem dX12_lawTells_80 : decode cX12_lawTells 80 = .ok (.aload_n 0, 1) := by decide +kernel
theorem dX12_lawTells_81 : decode cX12_lawTells 81 = .ok (.aload_n 0, 1) := by decide +kernel
theorem dX12_lawTells_82 : decode cX12_lawTells 82 = .ok (.getfield 77, 3) := by decide +kernel
theorem dX12_lawTells_85 : decode cX12_lawTells 85 = .ok (.iload 4, 2) := by decide +kernel
theorem dX12_lawTells_87 : decode cX12_lawTells 87 = .ok (.iaload, 1) := by decide +kernel
theorem dX12_lawTells_88 : decode cX12_lawTells 88 = .ok (.aload_n 0, 1) := by decide +kernel
theorem dX12_lawTells_89 : decode cX12_lawTells 89 = .ok (.getfield 80, 3) := by decide +kernel
theorem dX12_lawTells_92 : decode cX12_lawTells 92 = .ok (.iload 4, 2) := by decide +kernel
theorem dX12_lawTells_94 : decode cX12_lawTells 94 = .ok (.iaload, 1) := by decide +kernel
theorem dX12_lawTells_95 : decode cX12_lawTells 95 = .ok (.invokevirtual 321, 3) := by decide +kernel
theorem dX12_lawTells_98 : decode cX12_lawTells 98 = .ok (.istore 6, 2) := by decide +kernel
theorem dX12_lawTells_100 : decode cX12_lawTells 100 = .ok (.aload_n 0, 1) := by decide +kernel
theorem dX12_lawTells_101 : decode cX12_lawTells 101 = .ok (.getfield 288, 3) := by decide +kernel
theorem dX12_lawTells_104 : decode cX12_lawTells 104 = .ok (.ifCond .eq 5, 3) := by decide +kernel
theorem dX12_lawTells_107 : decode cX12_lawTells 107 = .ok (.iconst 0, 1) := by decide +kernel
theorem dX12_lawTells_108 : decode cX12_lawTells 108 = .ok (.ireturn, 1) := by decide +kernel
theorem dX12_lawTells_109 : decode cX12_lawTells 109 = .ok (.iload 5, 2) := by decide +kernel
theorem dX12_lawTells_111 : decode cX12_lawTells 111 = .ok (.iload 6, 2) := by decide +kernel
theorem dX12_lawTells_113 : decode cX12_lawTells 113 = .ok (.if_icmp .lt 6, 3) := by decide +kernel
theorem dX12_lawTells_116 : decode cX12_lawTells 116 = .ok (.goto 37, 3) := by decide +kernel
theorem dX12_lawTells_119 : decode cX12_lawTells 119 = .ok (.aload_n 0, 1) := by decide +kernel
theorem dX12_lawTells_120 : decode cX12_lawTells 120 = .ok (.aload_n 0, 1) := by decide +kernel
theorem dX12_lawTells_121 : decode cX12_lawTells 121 = .ok (.getfield 80, 3) := by decide +kernel
theorem dX12_lawTells_124 : decode cX12_lawTells 124 = .ok (.iload 4, 2) := by decide +kernel
theorem dX12_lawTells_126 : decode cX12_lawTells 126 = .ok (.iaload, 1) := by decide +kernel
theorem dX12_lawTells_127 : decode cX12_lawTells 127 = .ok (.aload_n 0, 1) := by decide +kernel
theorem dX12_lawTells_128 : decode cX12_lawTells 128 = .ok (.getfield 83, 3) := by decide +kernel
theorem dX12_lawTells_131 : decode cX12_lawTells 131 = .ok (.iload 4, 2) := by decide +kernel
theorem dX12_lawTells_133 : decode cX12_lawTells 133 = .ok (.iaload, 1) := by decide +kernel
theorem dX12_lawTells_134 : decode cX12_lawTells 134 = .ok (.invokevirtual 321, 3) := by decide +kernel
theorem dX12_lawTells_137 : decode cX12_lawTells 137 = .ok (.istore 5, 2) := by decide +kernel
theorem dX12_lawTells_139 : decode cX12_lawTells 139 = .ok (.aload_n 0, 1) := by decide +kernel
theorem dX12_lawTells_140 : decode cX12_lawTells 140 = .ok (.getfield 288, 3) := by decide +kernel
theorem dX12_lawTells_143 : decode cX12_lawTells 143 = .ok (.ifCond .eq 7, 3) := by decide +kernel
theorem dX12_lawTells_146 : decode cX12_lawTells 146 = .ok (.iconst 0, 1) := by decide +kernel
theorem dX12_lawTells_147 : decode cX12_lawTells 147 = .ok (.goto 5, 3) := by decide +kernel
theorem dX12_lawTells_150 : decode cX12_lawTells 150 = .ok (.iload 5, 2) := by decide +kernel
theorem dX12_lawTells_152 : decode cX12_lawTells 152 = .ok (.ireturn, 1) := by decide +kernel
theorem dX12_lawTells_153 : decode cX12_lawTells 153 = .ok (.iinc 4 1, 3) := by decide +kernel
theorem dX12_lawTells_156 : decode cX12_lawTells 156 = .ok (.goto (-117), 3) := by decide +kernel
theorem dX12_lawTells_159 : decode cX12_lawTells 159 = .ok (.iconst 0, 1) := by decide +kernel
theorem dX12_lawTells_160 : decode cX12_lawTells 160 = .ok (.ireturn, 1) := by decide +kernel
theorem dX12_roomOf_0 : decode cX12_roomOf 0 = .ok (.aload_n 0, 1) := by decide +kernel
theorem dX12_roomOf_1 : decode cX12_roomOf 1 = .ok (.iload_n 1, 1) := by decide +kernel
theorem dX12_roomOf_2 : decode cX12_roomOf 2 = .ok (.invokevirtual 318, 3) := by decide +kernel
theorem dX12_roomOf_5 : decode cX12_roomOf 5 = .ok (.aload_n 0, 1) := by decide +kernel
theorem dX12_roomOf_6 : decode cX12_roomOf 6 = .ok (.iconst 0, 1) := by decide +kernel
theorem dX12_roomOf_7 : decode cX12_roomOf 7 = .ok (.bipush 9, 2) := by decide +kernel
theorem dX12_roomOf_9 : decode cX12_roomOf 9 = .ok (.invokevirtual 324, 3) := by decide +kernel
theorem dX12_roomOf_12 : decode cX12_roomOf 12 = .ok (.iconst 0, 1) := by decide +kernel
theorem dX12_roomOf_13 : decode cX12_roomOf 13 = .ok (.bipush 99, 2) := by decide +kernel
theorem dX12_roomOf_15 : decode cX12_roomOf 15 = .ok (.invokestatic 327, 3) := by decide +kernel
theorem dX12_roomOf_18 : decode cX12_roomOf 18 = .ok (.ireturn, 1) := by decide +kernel
theorem dX12_breaksOf_0 : decode cX12_breaksOf 0 = .ok (.aload_n 0, 1) := by decide +kernel
theorem dX12_breaksOf_1 : decode cX12_breaksOf 1 = .ok (.iload_n 1, 1) := by decide +kernel
theorem dX12_breaksOf_2 : decode cX12_breaksOf 2 = .ok (.invokevirtual 318, 3) := by decide +kernel
theorem dX12_breaksOf_5 : decode cX12_breaksOf 5 = .ok (.aload_n 0, 1) := by decide +kernel
theorem dX12_breaksOf_6 : decode cX12_breaksOf 6 = .ok (.getfield 95, 3) := by decide +kernel
theorem dX12_breaksOf_9 : decode cX12_breaksOf 9 = .ok (.bipush 7, 2) := by decide +kernel
theorem dX12_breaksOf_11 : decode cX12_breaksOf 11 = .ok (.aload_n 0, 1) := by decide +kernel
theorem dX12_breaksOf_12 : decode cX12_breaksOf 12 = .ok (.iload_n 1, 1) := by decide +kernel
theorem dX12_breaksOf_13 : decode cX12_breaksOf 13 = .ok (.invokevirtual 333, 3) := by decide +kernel
theorem dX12_breaksOf_16 : decode cX12_breaksOf 16 = .ok (.iastore, 1) := by decide +kernel
theorem dX12_breaksOf_17 : decode cX12_breaksOf 17 = .ok (.aload_n 0, 1) := by decide +kernel
theorem dX12_breaksOf_18 : decode cX12_breaksOf 18 = .ok (.iconst 3, 1) := by decide +kernel
theorem dX12_breaksOf_19 : decode cX12_breaksOf 19 = .ok (.iconst 0, 1) := by decide +kernel
theorem dX12_breaksOf_20 : decode cX12_breaksOf 20 = .ok (.invokevirtual 324, 3) := by decide +kernel
theorem dX12_breaksOf_23 : decode cX12_breaksOf 23 = .ok (.iconst 0, 1) := by decide +kernel
theorem dX12_breaksOf_24 : decode cX12_breaksOf 24 = .ok (.bipush 100, 2) := by decide +kernel
theorem dX12_breaksOf_26 : decode cX12_breaksOf 26 = .ok (.invokestatic 327, 3) := by decide +kernel
theorem dX12_breaksOf_29 : decode cX12_breaksOf 29 = .ok (.ireturn, 1) := by decide +kernel
theorem dX12_hasRoom_0 : decode cX12_hasRoom 0 = .ok (.aload_n 0, 1) := by decide +kernel
theorem dX12_hasRoom_1 : decode cX12_hasRoom 1 = .ok (.iload_n 1, 1) := by decide +kernel
theorem dX12_hasRoom_2 : decode cX12_hasRoom 2 = .ok (.invokevirtual 336, 3) := by decide +kernel
theorem dX12_hasRoom_5 : decode cX12_hasRoom 5 = .ok (.ifCond .eq 30, 3) := by decide +kernel
theorem dX12_hasRoom_8 : decode cX12_hasRoom 8 = .ok (.aload_n 0, 1) := by decide +kernel
theorem dX12_hasRoom_9 : decode cX12_hasRoom 9 = .ok (.aload_n 0, 1) := by decide +kernel
theorem dX12_hasRoom_10 : decode cX12_hasRoom 10 = .ok (.iload_n 1, 1) := by decide +kernel
theorem dX12_hasRoom_11 : decode cX12_hasRoom 11 = .ok (.invokevirtual 312, 3) := by decide +kernel
theorem dX12_hasRoom_14 : decode cX12_hasRoom 14 = .ok (.iload_n 3, 1) := by decide +kernel
theorem dX12_hasRoom_15 : decode cX12_hasRoom 15 = .ok (.iconst (-1), 1) := by decide +kernel
theorem dX12_hasRoom_16 : decode cX12_hasRoom 16 = .ok (.ixor, 1) := by decide +kernel
theorem dX12_hasRoom_17 : decode cX12_hasRoom 17 = .ok (.iand, 1) := by decide +kernel
theorem dX12_hasRoom_18 : decode cX12_hasRoom 18 = .ok (.invokevirtual 315, 3) := by decide +kernel
theorem dX12_hasRoom_21 : decode cX12_hasRoom 21 = .ok (.iload_n 2, 1) := by decide +kernel
theorem dX12_hasRoom_22 : decode cX12_hasRoom 22 = .ok (.iadd, 1) := by decide +kernel
theorem dX12_hasRoom_23 : decode cX12_hasRoom 23 = .ok (.aload_n 0, 1) := by decide +kernel
theorem dX12_hasRoom_24 : decode cX12_hasRoom 24 = .ok (.iload_n 1, 1) := by decide +kernel
theorem dX12_hasRoom_25 : decode cX12_hasRoom 25 = .ok (.invokevirtual 339, 3) := by decide +kernel
theorem dX12_hasRoom_28 : decode cX12_hasRoom 28 = .ok (.if_icmp .gt 7, 3) := by decide +kernel
theorem dX12_hasRoom_31 : decode cX12_hasRoom 31 = .ok (.iconst 1, 1) := by decide +kernel
theorem dX12_hasRoom_32 : decode cX12_hasRoom 32 = .ok (.goto 4, 3) := by decide +kernel
theorem dX12_hasRoom_35 : decode cX12_hasRoom 35 = .ok (.iconst 0, 1) := by decide +kernel
theorem dX12_hasRoom_36 : decode cX12_hasRoom 36 = .ok (.ireturn, 1) := by decide +kernel
theorem dX12_breakingBits_0 : decode cX12_breakingBits 0 = .ok (.iconst 0, 1) := by decide +kernel
theorem dX12_breakingBits_1 : decode cX12_breakingBits 1 = .ok (.istore_n 1, 1) := by decide +kernel
theorem dX12_breakingBits_2 : decode cX12_breakingBits 2 = .ok (.iconst 0, 1) := by decide +kernel
theorem dX12_breakingBits_3 : decode cX12_breakingBits 3 = .ok (.istore_n 2, 1) := by decide +kernel
theorem dX12_breakingBits_4 : decode cX12_breakingBits 4 = .ok (.iload_n 2, 1) := by decide +kernel
theorem dX12_breakingBits_5 : decode cX12_breakingBits 5 = .ok (.aload_n 0, 1) := by decide +kernel
theorem dX12_breakingBits_6 : decode cX12_breakingBits 6 = .ok (.getfield 43, 3) := by decide +kernel
theorem dX12_breakingBits_9 : decode cX12_breakingBits 9 = .ok (.aload_n 0, 1) := by decide +kernel
theorem dX12_breakingBits_10 : decode cX12_breakingBits 10 = .ok (.getfield 221, 3) := by decide +kernel
theorem dX12_breakingBits_13 : decode cX12_breakingBits 13 = .ok (.iaload, 1) := by decide +kernel
theorem dX12_breakingBits_14 : decode cX12_breakingBits 14 = .ok (.if_icmp .ge 47, 3) := by decide +kernel
theorem dX12_breakingBits_17 : decode cX12_breakingBits 17 = .ok (.aload_n 0, 1) := by decide +kernel
theorem dX12_breakingBits_18 : decode cX12_breakingBits 18 = .ok (.iload_n 2, 1) := by decide +kernel
theorem dX12_breakingBits_19 : decode cX12_breakingBits 19 = .ok (.invokevirtual 336, 3) := by decide +kernel
theorem dX12_breakingBits_22 : decode cX12_breakingBits 22 = .ok (.ifCond .eq 33, 3) := by decide +kernel
theorem dX12_breakingBits_25 : decode cX12_breakingBits 25 = .ok (.aload_n 0, 1) := by decide +kernel
theorem dX12_breakingBits_26 : decode cX12_breakingBits 26 = .ok (.bipush 16, 2) := by decide +kernel
theorem dX12_breakingBits_28 : decode cX12_breakingBits 28 = .ok (.aload_n 0, 1) := by decide +kernel
theorem dX12_breakingBits_29 : decode cX12_breakingBits 29 = .ok (.getfield 104, 3) := by decide +kernel
theorem dX12_breakingBits_32 : decode cX12_breakingBits 32 = .ok (.bipush 49, 2) := by decide +kernel
theorem dX12_breakingBits_34 : decode cX12_breakingBits 34 = .ok (.iaload, 1) := by decide +kernel
theorem dX12_breakingBits_35 : decode cX12_breakingBits 35 = .ok (.imul, 1) := by decide +kernel
theorem dX12_breakingBits_36 : decode cX12_breakingBits 36 = .ok (.iload_n 2, 1) := by decide +kernel
theorem dX12_breakingBits_37 : decode cX12_breakingBits 37 = .ok (.iadd, 1) := by decide +kernel
theorem dX12_breakingBits_38 : decode cX12_breakingBits 38 = .ok (.invokevirtual 356, 3) := by decide +kernel
theorem dX12_breakingBits_41 : decode cX12_breakingBits 41 = .ok (.aload_n 0, 1) := by decide +kernel
theorem dX12_breakingBits_42 : decode cX12_breakingBits 42 = .ok (.iload_n 2, 1) := by decide +kernel
theorem dX12_breakingBits_43 : decode cX12_breakingBits 43 = .ok (.invokevirtual 359, 3) := by decide +kernel
theorem dX12_breakingBits_46 : decode cX12_breakingBits 46 = .ok (.if_icmp .ge 9, 3) := by decide +kernel
theorem dX12_breakingBits_49 : decode cX12_breakingBits 49 = .ok (.iload_n 1, 1) := by decide +kernel
theorem dX12_breakingBits_50 : decode cX12_breakingBits 50 = .ok (.iconst 1, 1) := by decide +kernel
theorem dX12_breakingBits_51 : decode cX12_breakingBits 51 = .ok (.iload_n 2, 1) := by decide +kernel
theorem dX12_breakingBits_52 : decode cX12_breakingBits 52 = .ok (.ishl, 1) := by decide +kernel
theorem dX12_breakingBits_53 : decode cX12_breakingBits 53 = .ok (.ior, 1) := by decide +kernel
theorem dX12_breakingBits_54 : decode cX12_breakingBits 54 = .ok (.istore_n 1, 1) := by decide +kernel
theorem dX12_breakingBits_55 : decode cX12_breakingBits 55 = .ok (.iinc 2 1, 3) := by decide +kernel
theorem dX12_breakingBits_58 : decode cX12_breakingBits 58 = .ok (.goto (-54), 3) := by decide +kernel
theorem dX12_breakingBits_61 : decode cX12_breakingBits 61 = .ok (.iload_n 1, 1) := by decide +kernel
theorem dX12_breakingBits_62 : decode cX12_breakingBits 62 = .ok (.ireturn, 1) := by decide +kernel
theorem dX12_theyBreak_0 : decode cX12_theyBreak 0 = .ok (.iconst 0, 1) := by decide +kernel
theorem dX12_theyBreak_1 : decode cX12_theyBreak 1 = .ok (.istore_n 2, 1) := by decide +kernel
theorem dX12_theyBreak_2 : decode cX12_theyBreak 2 = .ok (.iload_n 2, 1) := by decide +kernel
theorem dX12_theyBreak_3 : decode cX12_theyBreak 3 = .ok (.aload_n 0, 1) := by decide +kernel
theorem dX12_theyBreak_4 : decode cX12_theyBreak 4 = .ok (.getfield 43, 3) := by decide +kernel
theorem dX12_theyBreak_7 : decode cX12_theyBreak 7 = .ok (.aload_n 0, 1) := by decide +kernel
theorem dX12_theyBreak_8 : decode cX12_theyBreak 8 = .ok (.getfield 221, 3) := by decide +kernel
theorem dX12_theyBreak_11 : decode cX12_theyBreak 11 = .ok (.iaload, 1) := by decide +kernel
theorem dX12_theyBreak_12 : decode cX12_theyBreak 12 = .ok (.if_icmp .ge 43, 3) := by decide +kernel
theorem dX12_theyBreak_15 : decode cX12_theyBreak 15 = .ok (.iload_n 1, 1) := by decide +kernel
theorem dX12_theyBreak_16 : decode cX12_theyBreak 16 = .ok (.iload_n 2, 1) := by decide +kernel
theorem dX12_theyBreak_17 : decode cX12_theyBreak 17 = .ok (.ishr, 1) := by decide +kernel
theorem dX12_theyBreak_18 : decode cX12_theyBreak 18 = .ok (.iconst 1, 1) := by decide +kernel
theorem dX12_theyBreak_19 : decode cX12_theyBreak 19 = .ok (.iand, 1) := by decide +kernel
theorem dX12_theyBreak_20 : decode cX12_theyBreak 20 = .ok (.ifCond .ne 6, 3) := by decide +kernel
theorem dX12_theyBreak_23 : decode cX12_theyBreak 23 = .ok (.goto 26, 3) := by decide +kernel
theorem dX12_theyBreak_26 : decode cX12_theyBreak 26 = .ok (.aload_n 0, 1) := by decide +kernel
theorem dX12_theyBreak_27 : decode cX12_theyBreak 27 = .ok (.getfield 104, 3) := by decide +kernel
theorem dX12_theyBreak_30 : decode cX12_theyBreak 30 = .ok (.bipush 25, 2) := by decide +kernel
theorem dX12_theyBreak_32 : decode cX12_theyBreak 32 = .ok (.iload_n 2, 1) := by decide +kernel
theorem dX12_theyBreak_33 : decode cX12_theyBreak 33 = .ok (.iadd, 1) := by decide +kernel
theorem dX12_theyBreak_34 : decode cX12_theyBreak 34 = .ok (.iconst 1, 1) := by decide +kernel
theorem dX12_theyBreak_35 : decode cX12_theyBreak 35 = .ok (.iastore, 1) := by decide +kernel
theorem dX12_theyBreak_36 : decode cX12_theyBreak 36 = .ok (.aload_n 0, 1) := by decide +kernel
theorem dX12_theyBreak_37 : decode cX12_theyBreak 37 = .ok (.getfield 104, 3) := by decide +kernel
theorem dX12_theyBreak_40 : decode cX12_theyBreak 40 = .ok (.bipush 37, 2) := by decide +kernel
theorem dX12_theyBreak_42 : decode cX12_theyBreak 42 = .ok (.iload_n 2, 1) := by decide +kernel
theorem dX12_theyBreak_43 : decode cX12_theyBreak 43 = .ok (.iadd, 1) := by decide +kernel
theorem dX12_theyBreak_44 : decode cX12_theyBreak 44 = .ok (.dup2, 1) := by decide +kernel
theorem dX12_theyBreak_45 : decode cX12_theyBreak 45 = .ok (.iaload, 1) := by decide +kernel
theorem dX12_theyBreak_46 : decode cX12_theyBreak 46 = .ok (.iconst 1, 1) := by decide +kernel
theorem dX12_theyBreak_47 : decode cX12_theyBreak 47 = .ok (.iadd, 1) := by decide +kernel
theorem dX12_theyBreak_48 : decode cX12_theyBreak 48 = .ok (.iastore, 1) := by decide +kernel
theorem dX12_theyBreak_49 : decode cX12_theyBreak 49 = .ok (.iinc 2 1, 3) := by decide +kernel
theorem dX12_theyBreak_52 : decode cX12_theyBreak 52 = .ok (.goto (-50), 3) := by decide +kernel
theorem dX12_theyBreak_55 : decode cX12_theyBreak 55 = .ok (.iconst 0, 1) := by decide +kernel
theorem dX12_theyBreak_56 : decode cX12_theyBreak 56 = .ok (.istore_n 2, 1) := by decide +kernel
theorem dX12_theyBreak_57 : decode cX12_theyBreak 57 = .ok (.iload_n 2, 1) := by decide +kernel
theorem dX12_theyBreak_58 : decode cX12_theyBreak 58 = .ok (.aload_n 0, 1) := by decide +kernel
theorem dX12_theyBreak_59 : decode cX12_theyBreak 59 = .ok (.getfield 46, 3) := by decide +kernel
theorem dX12_theyBreak_62 : decode cX12_theyBreak 62 = .ok (.aload_n 0, 1) := by decide +kernel
theorem dX12_theyBreak_63 : decode cX12_theyBreak 63 = .ok (.getfield 221, 3) := by decide +kernel
theorem dX12_theyBreak_66 : decode cX12_theyBreak 66 = .ok (.iaload, 1) := by decide +kernel
theorem dX12_theyBreak_67 : decode cX12_theyBreak 67 = .ok (.if_icmp .ge 28, 3) := by decide +kernel
theorem dX12_theyBreak_70 : decode cX12_theyBreak 70 = .ok (.iload_n 1, 1) := by decide +kernel
theorem dX12_theyBreak_71 : decode cX12_theyBreak 71 = .ok (.aload_n 0, 1) := by decide +kernel
theorem dX12_theyBreak_72 : decode cX12_theyBreak 72 = .ok (.getfield 104, 3) := by decide +kernel
theorem dX12_theyBreak_75 : decode cX12_theyBreak 75 = .ok (.iload_n 2, 1) := by decide +kernel
theorem dX12_theyBreak_76 : decode cX12_theyBreak 76 = .ok (.iaload, 1) := by decide +kernel
theorem dX12_theyBreak_77 : decode cX12_theyBreak 77 = .ok (.ishr, 1) := by decide +kernel
theorem dX12_theyBreak_78 : decode cX12_theyBreak 78 = .ok (.iconst 1, 1) := by decide +kernel
theorem dX12_theyBreak_79 : decode cX12_theyBreak 79 = .ok (.iand, 1) := by decide +kernel
theorem dX12_theyBreak_80 : decode cX12_theyBreak 80 = .ok (.iconst 1, 1) := by decide +kernel
theorem dX12_theyBreak_81 : decode cX12_theyBreak 81 = .ok (.if_icmp .ne 8, 3) := by decide +kernel
theorem dX12_theyBreak_84 : decode cX12_theyBreak 84 = .ok (.aload_n 0, 1) := by decide +kernel
theorem dX12_theyBreak_85 : decode cX12_theyBreak 85 = .ok (.iload_n 2, 1) := by decide +kernel
theorem dX12_theyBreak_86 : decode cX12_theyBreak 86 = .ok (.invokevirtual 362, 3) := by decide +kernel
theorem dX12_theyBreak_89 : decode cX12_theyBreak 89 = .ok (.iinc 2 1, 3) := by decide +kernel
theorem dX12_theyBreak_92 : decode cX12_theyBreak 92 = .ok (.goto (-35), 3) := by decide +kernel
theorem dX12_theyBreak_95 : decode cX12_theyBreak 95 = .ok (.return_, 1) := by decide +kernel
theorem dX12_minuteGoes_0 : decode cX12_minuteGoes 0 = .ok (.iconst 0, 1) := by decide +kernel
theorem dX12_minuteGoes_1 : decode cX12_minuteGoes 1 = .ok (.istore_n 1, 1) := by decide +kernel
theorem dX12_minuteGoes_2 : decode cX12_minuteGoes 2 = .ok (.iload_n 1, 1) := by decide +kernel
theorem dX12_minuteGoes_3 : decode cX12_minuteGoes 3 = .ok (.aload_n 0, 1) := by decide +kernel
theorem dX12_minuteGoes_4 : decode cX12_minuteGoes 4 = .ok (.getfield 46, 3) := by decide +kernel
theorem dX12_minuteGoes_7 : decode cX12_minuteGoes 7 = .ok (.aload_n 0, 1) := by decide +kernel
theorem dX12_minuteGoes_8 : decode cX12_minuteGoes 8 = .ok (.getfield 221, 3) := by decide +kernel
theorem dX12_minuteGoes_11 : decode cX12_minuteGoes 11 = .ok (.iaload, 1) := by decide +kernel
theorem dX12_minuteGoes_12 : decode cX12_minuteGoes 12 = .ok (.if_icmp .ge 14, 3) := by decide +kernel
theorem dX12_minuteGoes_15 : decode cX12_minuteGoes 15 = .ok (.aload_n 0, 1) := by decide +kernel
theorem dX12_minuteGoes_16 : decode cX12_minuteGoes 16 = .ok (.iload_n 1, 1) := by decide +kernel
theorem dX12_minuteGoes_17 : decode cX12_minuteGoes 17 = .ok (.invokevirtual 365, 3) := by decide +kernel
theorem dX12_minuteGoes_20 : decode cX12_minuteGoes 20 = .ok (.iinc 1 1, 3) := by decide +kernel
theorem dX12_minuteGoes_23 : decode cX12_minuteGoes 23 = .ok (.goto (-21), 3) := by decide +kernel
theorem dX12_minuteGoes_26 : decode cX12_minuteGoes 26 = .ok (.aload_n 0, 1) := by decide +kernel
theorem dX12_minuteGoes_27 : decode cX12_minuteGoes 27 = .ok (.getfield 299, 3) := by decide +kernel
theorem dX12_minuteGoes_30 : decode cX12_minuteGoes 30 = .ok (.ifCond .ne 11, 3) := by decide +kernel
theorem dX12_minuteGoes_33 : decode cX12_minuteGoes 33 = .ok (.aload_n 0, 1) := by decide +kernel
theorem dX12_minuteGoes_34 : decode cX12_minuteGoes 34 = .ok (.aload_n 0, 1) := by decide +kernel
theorem dX12_minuteGoes_35 : decode cX12_minuteGoes 35 = .ok (.invokevirtual 368, 3) := by decide +kernel
theorem dX12_minuteGoes_38 : decode cX12_minuteGoes 38 = .ok (.invokevirtual 372, 3) := by decide +kernel
theorem dX12_minuteGoes_41 : decode cX12_minuteGoes 41 = .ok (.aload_n 0, 1) := by decide +kernel
theorem dX12_minuteGoes_42 : decode cX12_minuteGoes 42 = .ok (.getfield 104, 3) := by decide +kernel
theorem dX12_minuteGoes_45 : decode cX12_minuteGoes 45 = .ok (.bipush 49, 2) := by decide +kernel
theorem dX12_minuteGoes_47 : decode cX12_minuteGoes 47 = .ok (.dup2, 1) := by decide +kernel
theorem dX12_minuteGoes_48 : decode cX12_minuteGoes 48 = .ok (.iaload, 1) := by decide +kernel
theorem dX12_minuteGoes_49 : decode cX12_minuteGoes 49 = .ok (.iconst 1, 1) := by decide +kernel
theorem dX12_minuteGoes_50 : decode cX12_minuteGoes 50 = .ok (.iadd, 1) := by decide +kernel
theorem dX12_minuteGoes_51 : decode cX12_minuteGoes 51 = .ok (.iastore, 1) := by decide +kernel
theorem dX12_minuteGoes_52 : decode cX12_minuteGoes 52 = .ok (.return_, 1) := by decide +kernel
theorem dX12_goes_0 : decode cX12_goes 0 = .ok (.iconst 0, 1) := by decide +kernel
theorem dX12_goes_1 : decode cX12_goes 1 = .ok (.istore_n 2, 1) := by decide +kernel
theorem dX12_goes_2 : decode cX12_goes 2 = .ok (.iload_n 2, 1) := by decide +kernel
theorem dX12_goes_3 : decode cX12_goes 3 = .ok (.iload_n 1, 1) := by decide +kernel
theorem dX12_goes_4 : decode cX12_goes 4 = .ok (.if_icmp .ge 13, 3) := by decide +kernel
theorem dX12_goes_7 : decode cX12_goes 7 = .ok (.aload_n 0, 1) := by decide +kernel
theorem dX12_goes_8 : decode cX12_goes 8 = .ok (.invokevirtual 375, 3) := by decide +kernel
theorem dX12_goes_11 : decode cX12_goes 11 = .ok (.iinc 2 1, 3) := by decide +kernel
theorem dX12_goes_14 : decode cX12_goes 14 = .ok (.goto (-12), 3) := by decide +kernel
theorem dX12_goes_17 : decode cX12_goes 17 = .ok (.return_, 1) := by decide +kernel
theorem dX12_person_0 : decode cX12_person 0 = .ok (.aload_n 0, 1) := by decide +kernel
theorem dX12_person_1 : decode cX12_person 1 = .ok (.iload_n 1, 1) := by decide +kernel
theorem dX12_person_2 : decode cX12_person 2 = .ok (.invokevirtual 378, 3) := by decide +kernel
theorem dX12_person_5 : decode cX12_person 5 = .ok (.ifCond .ne 5, 3) := by decide +kernel
theorem dX12_person_8 : decode cX12_person 8 = .ok (.iconst (-1), 1) := by decide +kernel
theorem dX12_person_9 : decode cX12_person 9 = .ok (.ireturn, 1) := by decide +kernel
theorem dX12_person_10 : decode cX12_person 10 = .ok (.iload_n 2, 1) := by decide +kernel
theorem dX12_person_11 : decode cX12_person 11 = .ok (.tableswitch 125 0 7 #[45, 52, 58, 72, 86, 95, 105, 115], 45) := by decide +kernel
theorem dX12_person_56 : decode cX12_person 56 = .ok (.aload_n 0, 1) := by decide +kernel
theorem dX12_person_57 : decode cX12_person 57 = .ok (.getfield 101, 3) := by decide +kernel
theorem dX12_person_60 : decode cX12_person 60 = .ok (.iload_n 1, 1) := by decide +kernel
theorem dX12_person_61 : decode cX12_person 61 = .ok (.iaload, 1) := by decide +kernel
theorem dX12_person_62 : decode cX12_person 62 = .ok (.ireturn, 1) := by decide +kernel
theorem dX12_person_63 : decode cX12_person 63 = .ok (.aload_n 0, 1) := by decide +kernel
theorem dX12_person_64 : decode cX12_person 64 = .ok (.iload_n 1, 1) := by decide +kernel
theorem dX12_person_65 : decode cX12_person 65 = .ok (.invokevirtual 309, 3) := by decide +kernel
theorem dX12_person_68 : decode cX12_person 68 = .ok (.ireturn, 1) := by decide +kernel
theorem dX12_person_69 : decode cX12_person 69 = .ok (.aload_n 0, 1) := by decide +kernel
theorem dX12_person_70 : decode cX12_person 70 = .ok (.getfield 55, 3) := by decide +kernel
theorem dX12_person_73 : decode cX12_person 73 = .ok (.iconst 5, 1) := by decide +kernel
theorem dX12_person_74 : decode cX12_person 74 = .ok (.aload_n 0, 1) := by decide +kernel
theorem dX12_person_75 : decode cX12_person 75 = .ok (.getfield 221, 3) := by decide +kernel
theorem dX12_person_78 : decode cX12_person 78 = .ok (.imul, 1) := by decide +kernel
theorem dX12_person_79 : decode cX12_person 79 = .ok (.iload_n 1, 1) := by decide +kernel
theorem dX12_person_80 : decode cX12_person 80 = .ok (.iadd, 1) := by decide +kernel
theorem dX12_person_81 : decode cX12_person 81 = .ok (.iaload, 1) := by decide +kernel
theorem dX12_person_82 : decode cX12_person 82 = .ok (.ireturn, 1) := by decide +kernel
theorem dX12_person_83 : decode cX12_person 83 = .ok (.aload_n 0, 1) := by decide +kernel
theorem dX12_person_84 : decode cX12_person 84 = .ok (.getfield 58, 3) := by decide +kernel
theorem dX12_person_87 : decode cX12_person 87 = .ok (.iconst 5, 1) := by decide +kernel
theorem dX12_person_88 : decode cX12_person 88 = .ok (.aload_n 0, 1) := by decide +kernel
theorem dX12_person_89 : decode cX12_person 89 = .ok (.getfield 221, 3) := by decide +kernel
theorem dX12_person_92 : decode cX12_person 92 = .ok (.imul, 1) := by decide +kernel
theorem dX12_person_93 : decode cX12_person 93 = .ok (.iload_n 1, 1) := by decide +kernel
theorem dX12_person_94 : decode cX12_person 94 = .ok (.iadd, 1) := by decide +kernel
theorem dX12_person_95 : decode cX12_person 95 = .ok (.iaload, 1) := by decide +kernel
theorem dX12_person_96 : decode cX12_person 96 = .ok (.ireturn, 1) := by decide +kernel
theorem dX12_person_97 : decode cX12_person 97 = .ok (.aload_n 0, 1) := by decide +kernel
theorem dX12_person_98 : decode cX12_person 98 = .ok (.getfield 101, 3) := by decide +kernel
theorem dX12_person_101 : decode cX12_person 101 = .ok (.iconst 5, 1) := by decide +kernel
theorem dX12_person_102 : decode cX12_person 102 = .ok (.iload_n 1, 1) := by decide +kernel
theorem dX12_person_103 : decode cX12_person 103 = .ok (.iadd, 1) := by decide +kernel
theorem dX12_person_104 : decode cX12_person 104 = .ok (.iaload, 1) := by decide +kernel
theorem dX12_person_105 : decode cX12_person 105 = .ok (.ireturn, 1) := by decide +kernel
theorem dX12_person_106 : decode cX12_person 106 = .ok (.aload_n 0, 1) := by decide +kernel
theorem dX12_person_107 : decode cX12_person 107 = .ok (.getfield 101, 3) := by decide +kernel
theorem dX12_person_110 : decode cX12_person 110 = .ok (.bipush 10, 2) := by decide +kernel
theorem dX12_person_112 : decode cX12_person 112 = .ok (.iload_n 1, 1) := by decide +kernel
theorem dX12_person_113 : decode cX12_person 113 = .ok (.iadd, 1) := by decide +kernel
theorem dX12_person_114 : decode cX12_person 114 = .ok (.iaload, 1) := by decide +kernel
theorem dX12_person_115 : decode cX12_person 115 = .ok (.ireturn, 1) := by decide +kernel
theorem dX12_person_116 : decode cX12_person 116 = .ok (.aload_n 0, 1) := by decide +kernel
theorem dX12_person_117 : decode cX12_person 117 = .ok (.getfield 101, 3) := by decide +kernel
theorem dX12_person_120 : decode cX12_person 120 = .ok (.bipush 15, 2) := by decide +kernel
theorem dX12_person_122 : decode cX12_person 122 = .ok (.iload_n 1, 1) := by decide +kernel
theorem dX12_person_123 : decode cX12_person 123 = .ok (.iadd, 1) := by decide +kernel
theorem dX12_person_124 : decode cX12_person 124 = .ok (.iaload, 1) := by decide +kernel
theorem dX12_person_125 : decode cX12_person 125 = .ok (.ireturn, 1) := by decide +kernel
theorem dX12_person_126 : decode cX12_person 126 = .ok (.aload_n 0, 1) := by decide +kernel
theorem dX12_person_127 : decode cX12_person 127 = .ok (.getfield 101, 3) := by decide +kernel
theorem dX12_person_130 : decode cX12_person 130 = .ok (.bipush 20, 2) := by decide +kernel
theorem dX12_person_132 : decode cX12_person 132 = .ok (.iload_n 1, 1) := by decide +kernel
theorem dX12_person_133 : decode cX12_person 133 = .ok (.iadd, 1) := by decide +kernel
theorem dX12_person_134 : decode cX12_person 134 = .ok (.iaload, 1) := by decide +kernel
theorem dX12_person_135 : decode cX12_person 135 = .ok (.ireturn, 1) := by decide +kernel
theorem dX12_person_136 : decode cX12_person 136 = .ok (.iconst (-1), 1) := by decide +kernel
theorem dX12_person_137 : decode cX12_person 137 = .ok (.ireturn, 1) := by decide +kernel
theorem dX12_rung_0 : decode cX12_rung 0 = .ok (.aload_n 0, 1) := by decide +kernel
theorem dX12_rung_1 : decode cX12_rung 1 = .ok (.iload_n 1, 1) := by decide +kernel
theorem dX12_rung_2 : decode cX12_rung 2 = .ok (.invokevirtual 306, 3) := by decide +kernel
theorem dX12_rung_5 : decode cX12_rung 5 = .ok (.ifCond .ne 5, 3) := by decide +kernel
theorem dX12_rung_8 : decode cX12_rung 8 = .ok (.iconst (-1), 1) := by decide +kernel
theorem dX12_rung_9 : decode cX12_rung 9 = .ok (.ireturn, 1) := by decide +kernel
theorem dX12_rung_10 : decode cX12_rung 10 = .ok (.aload_n 0, 1) := by decide +kernel
theorem dX12_rung_11 : decode cX12_rung 11 = .ok (.invokevirtual 381, 3) := by decide +kernel
theorem dX12_rung_14 : decode cX12_rung 14 = .ok (.iload_n 2, 1) := by decide +kernel
theorem dX12_rung_15 : decode cX12_rung 15 = .ok (.tableswitch 95 0 5 #[37, 43, 49, 55, 67, 85], 37) := by decide +kernel
theorem dX12_rung_52 : decode cX12_rung 52 = .ok (.aload_n 0, 1) := by decide +kernel
theorem dX12_rung_53 : decode cX12_rung 53 = .ok (.iload_n 1, 1) := by decide +kernel
theorem dX12_rung_54 : decode cX12_rung 54 = .ok (.invokevirtual 339, 3) := by decide +kernel
theorem dX12_rung_57 : decode cX12_rung 57 = .ok (.ireturn, 1) := by decide +kernel
theorem dX12_rung_58 : decode cX12_rung 58 = .ok (.aload_n 0, 1) := by decide +kernel
theorem dX12_rung_59 : decode cX12_rung 59 = .ok (.iload_n 1, 1) := by decide +kernel
theorem dX12_rung_60 : decode cX12_rung 60 = .ok (.invokevirtual 333, 3) := by decide +kernel
theorem dX12_rung_63 : decode cX12_rung 63 = .ok (.ireturn, 1) := by decide +kernel
theorem dX12_rung_64 : decode cX12_rung 64 = .ok (.aload_n 0, 1) := by decide +kernel
theorem dX12_rung_65 : decode cX12_rung 65 = .ok (.iload_n 1, 1) := by decide +kernel
theorem dX12_rung_66 : decode cX12_rung 66 = .ok (.invokevirtual 312, 3) := by decide +kernel
theorem dX12_rung_69 : decode cX12_rung 69 = .ok (.ireturn, 1) := by decide +kernel
theorem dX12_rung_70 : decode cX12_rung 70 = .ok (.iconst 1, 1) := by decide +kernel
theorem dX12_rung_71 : decode cX12_rung 71 = .ok (.aload_n 0, 1) := by decide +kernel
theorem dX12_rung_72 : decode cX12_rung 72 = .ok (.getfield 104, 3) := by decide +kernel
theorem dX12_rung_75 : decode cX12_rung 75 = .ok (.bipush 25, 2) := by decide +kernel
theorem dX12_rung_77 : decode cX12_rung 77 = .ok (.iload_n 1, 1) := by decide +kernel
theorem dX12_rung_78 : decode cX12_rung 78 = .ok (.iadd, 1) := by decide +kernel
theorem dX12_rung_79 : decode cX12_rung 79 = .ok (.iaload, 1) := by decide +kernel
theorem dX12_rung_80 : decode cX12_rung 80 = .ok (.isub, 1) := by decide +kernel
theorem dX12_rung_81 : decode cX12_rung 81 = .ok (.ireturn, 1) := by decide +kernel
theorem dX12_rung_82 : decode cX12_rung 82 = .ok (.aload_n 0, 1) := by decide +kernel
theorem dX12_rung_83 : decode cX12_rung 83 = .ok (.iload_n 1, 1) := by decide +kernel
theorem dX12_rung_84 : decode cX12_rung 84 = .ok (.invokevirtual 336, 3) := by decide +kernel
theorem dX12_rung_87 : decode cX12_rung 87 = .ok (.ifCond .eq 11, 3) := by decide +kernel
theorem dX12_rung_90 : decode cX12_rung 90 = .ok (.aload_n 0, 1) := by decide +kernel
theorem dX12_rung_91 : decode cX12_rung 91 = .ok (.iload_n 1, 1) := by decide +kernel
theorem dX12_rung_92 : decode cX12_rung 92 = .ok (.invokevirtual 359, 3) := by decide +kernel
theorem dX12_rung_95 : decode cX12_rung 95 = .ok (.goto 4, 3) := by decide +kernel
theorem dX12_rung_98 : decode cX12_rung 98 = .ok (.iconst 0, 1) := by decide +kernel
theorem dX12_rung_99 : decode cX12_rung 99 = .ok (.ireturn, 1) := by decide +kernel
theorem dX12_rung_100 : decode cX12_rung 100 = .ok (.aload_n 0, 1) := by decide +kernel
theorem dX12_rung_101 : decode cX12_rung 101 = .ok (.getfield 104, 3) := by decide +kernel
theorem dX12_rung_104 : decode cX12_rung 104 = .ok (.bipush 37, 2) := by decide +kernel
theorem dX12_rung_106 : decode cX12_rung 106 = .ok (.iload_n 1, 1) := by decide +kernel
theorem dX12_rung_107 : decode cX12_rung 107 = .ok (.iadd, 1) := by decide +kernel
theorem dX12_rung_108 : decode cX12_rung 108 = .ok (.iaload, 1) := by decide +kernel
theorem dX12_rung_109 : decode cX12_rung 109 = .ok (.ireturn, 1) := by decide +kernel
theorem dX12_rung_110 : decode cX12_rung 110 = .ok (.iconst (-1), 1) := by decide +kernel
theorem dX12_rung_111 : decode cX12_rung 111 = .ok (.ireturn, 1) := by decide +kernel
theorem dX12_can_0 : decode cX12_can 0 = .ok (.aload_n 0, 1) := by decide +kernel
theorem dX12_can_1 : decode cX12_can 1 = .ok (.iload_n 1, 1) := by decide +kernel
theorem dX12_can_2 : decode cX12_can 2 = .ok (.invokevirtual 378, 3) := by decide +kernel
theorem dX12_can_5 : decode cX12_can 5 = .ok (.ifCond .eq 25, 3) := by decide +kernel
theorem dX12_can_8 : decode cX12_can 8 = .ok (.aload_n 0, 1) := by decide +kernel
theorem dX12_can_9 : decode cX12_can 9 = .ok (.iload_n 2, 1) := by decide +kernel
theorem dX12_can_10 : decode cX12_can 10 = .ok (.invokevirtual 306, 3) := by decide +kernel
theorem dX12_can_13 : decode cX12_can 13 = .ok (.ifCond .eq 17, 3) := by decide +kernel
theorem dX12_can_16 : decode cX12_can 16 = .ok (.aload_n 0, 1) := by decide +kernel
theorem dX12_can_17 : decode cX12_can 17 = .ok (.getfield 101, 3) := by decide +kernel
theorem dX12_can_20 : decode cX12_can 20 = .ok (.iload_n 1, 1) := by decide +kernel
theorem dX12_can_21 : decode cX12_can 21 = .ok (.iaload, 1) := by decide +kernel
theorem dX12_can_22 : decode cX12_can 22 = .ok (.iload_n 2, 1) := by decide +kernel
theorem dX12_can_23 : decode cX12_can 23 = .ok (.invokestatic 384, 3) := by decide +kernel
theorem dX12_can_26 : decode cX12_can 26 = .ok (.iconst 1, 1) := by decide +kernel
theorem dX12_can_27 : decode cX12_can 27 = .ok (.if_icmp .eq 5, 3) := by decide +kernel
theorem dX12_can_30 : decode cX12_can 30 = .ok (.iconst (-1), 1) := by decide +kernel
theorem dX12_can_31 : decode cX12_can 31 = .ok (.ireturn, 1) := by decide +kernel
theorem dX12_can_32 : decode cX12_can 32 = .ok (.aload_n 0, 1) := by decide +kernel
theorem dX12_can_33 : decode cX12_can 33 = .ok (.invokevirtual 381, 3) := by decide +kernel
theorem dX12_can_36 : decode cX12_can 36 = .ok (.aload_n 0, 1) := by decide +kernel
theorem dX12_can_37 : decode cX12_can 37 = .ok (.iload_n 1, 1) := by decide +kernel
theorem dX12_can_38 : decode cX12_can 38 = .ok (.iload_n 2, 1) := by decide +kernel
theorem dX12_can_39 : decode cX12_can 39 = .ok (.invokevirtual 348, 3) := by decide +kernel
theorem dX12_can_42 : decode cX12_can 42 = .ok (.ifCond .eq 7, 3) := by decide +kernel
theorem dX12_can_45 : decode cX12_can 45 = .ok (.iconst 1, 1) := by decide +kernel
theorem dX12_can_46 : decode cX12_can 46 = .ok (.goto 4, 3) := by decide +kernel
theorem dX12_can_49 : decode cX12_can 49 = .ok (.iconst 0, 1) := by decide +kernel
theorem dX12_can_50 : decode cX12_can 50 = .ok (.ireturn, 1) := by decide +kernel
theorem dX12_records_0 : decode cX12_records 0 = .ok (.aload_n 0, 1) := by decide +kernel
theorem dX12_records_1 : decode cX12_records 1 = .ok (.getfield 247, 3) := by decide +kernel
theorem dX12_records_4 : decode cX12_records 4 = .ok (.bipush 40, 2) := by decide +kernel
theorem dX12_records_6 : decode cX12_records 6 = .ok (.if_icmp .ne 43, 3) := by decide +kernel
theorem dX12_records_9 : decode cX12_records 9 = .ok (.iconst 0, 1) := by decide +kernel
theorem dX12_records_10 : decode cX12_records 10 = .ok (.istore_n 1, 1) := by decide +kernel
theorem dX12_records_11 : decode cX12_records 11 = .ok (.iload_n 1, 1) := by decide +kernel
theorem dX12_records_12 : decode cX12_records 12 = .ok (.sipush 1989, 3) := by decide +kernel
theorem dX12_records_15 : decode cX12_records 15 = .ok (.if_icmp .ge 24, 3) := by decide +kernel
theorem dX12_records_18 : decode cX12_records 18 = .ok (.aload_n 0, 1) := by decide +kernel
theorem dX12_records_19 : decode cX12_records 19 = .ok (.getfield 107, 3) := by decide +kernel
theorem dX12_records_22 : decode cX12_records 22 = .ok (.iload_n 1, 1) := by decide +kernel
theorem dX12_records_23 : decode cX12_records 23 = .ok (.aload_n 0, 1) := by decide +kernel
theorem dX12_records_24 : decode cX12_records 24 = .ok (.getfield 107, 3) := by decide +kernel
theorem dX12_records_27 : decode cX12_records 27 = .ok (.iload_n 1, 1) := by decide +kernel
theorem dX12_records_28 : decode cX12_records 28 = .ok (.bipush 51, 2) := by decide +kernel
theorem dX12_records_30 : decode cX12_records 30 = .ok (.iadd, 1) := by decide +kernel
theorem dX12_records_31 : decode cX12_records 31 = .ok (.iaload, 1) := by decide +kernel
theorem dX12_records_32 : decode cX12_records 32 = .ok (.iastore, 1) := by decide +kernel
theorem dX12_records_33 : decode cX12_records 33 = .ok (.iinc 1 1, 3) := by decide +kernel
theorem dX12_records_36 : decode cX12_records 36 = .ok (.goto (-25), 3) := by decide +kernel
theorem dX12_records_39 : decode cX12_records 39 = .ok (.aload_n 0, 1) := by decide +kernel
theorem dX12_records_40 : decode cX12_records 40 = .ok (.dup, 1) := by decide +kernel
theorem dX12_records_41 : decode cX12_records 41 = .ok (.getfield 247, 3) := by decide +kernel
theorem dX12_records_44 : decode cX12_records 44 = .ok (.iconst 1, 1) := by decide +kernel
theorem dX12_records_45 : decode cX12_records 45 = .ok (.isub, 1) := by decide +kernel
theorem dX12_records_46 : decode cX12_records 46 = .ok (.putfield 247, 3) := by decide +kernel
theorem dX12_records_49 : decode cX12_records 49 = .ok (.iconst 0, 1) := by decide +kernel
theorem dX12_records_50 : decode cX12_records 50 = .ok (.istore_n 1, 1) := by decide +kernel
theorem dX12_records_51 : decode cX12_records 51 = .ok (.iload_n 1, 1) := by decide +kernel
theorem dX12_records_52 : decode cX12_records 52 = .ok (.bipush 51, 2) := by decide +kernel
theorem dX12_records_54 : decode cX12_records 54 = .ok (.if_icmp .ge 29, 3) := by decide +kernel
theorem dX12_records_57 : decode cX12_records 57 = .ok (.aload_n 0, 1) := by decide +kernel
theorem dX12_records_58 : decode cX12_records 58 = .ok (.getfield 107, 3) := by decide +kernel
theorem dX12_records_61 : decode cX12_records 61 = .ok (.bipush 51, 2) := by decide +kernel
theorem dX12_records_63 : decode cX12_records 63 = .ok (.aload_n 0, 1) := by decide +kernel
theorem dX12_records_64 : decode cX12_records 64 = .ok (.getfield 247, 3) := by decide +kernel
theorem dX12_records_67 : decode cX12_records 67 = .ok (.imul, 1) := by decide +kernel
theorem dX12_records_68 : decode cX12_records 68 = .ok (.iload_n 1, 1) := by decide +kernel
theorem dX12_records_69 : decode cX12_records 69 = .ok (.iadd, 1) := by decide +kernel
theorem dX12_records_70 : decode cX12_records 70 = .ok (.aload_n 0, 1) := by decide +kernel
theorem dX12_records_71 : decode cX12_records 71 = .ok (.getfield 101, 3) := by decide +kernel
theorem dX12_records_74 : decode cX12_records 74 = .ok (.iload_n 1, 1) := by decide +kernel
theorem dX12_records_75 : decode cX12_records 75 = .ok (.iaload, 1) := by decide +kernel
theorem dX12_records_76 : decode cX12_records 76 = .ok (.iastore, 1) := by decide +kernel
theorem dX12_records_77 : decode cX12_records 77 = .ok (.iinc 1 1, 3) := by decide +kernel
theorem dX12_records_80 : decode cX12_records 80 = .ok (.goto (-29), 3) := by decide +kernel
theorem dX12_records_83 : decode cX12_records 83 = .ok (.aload_n 0, 1) := by decide +kernel
theorem dX12_records_84 : decode cX12_records 84 = .ok (.dup, 1) := by decide +kernel
theorem dX12_records_85 : decode cX12_records 85 = .ok (.getfield 247, 3) := by decide +kernel
theorem dX12_records_88 : decode cX12_records 88 = .ok (.iconst 1, 1) := by decide +kernel
theorem dX12_records_89 : decode cX12_records 89 = .ok (.iadd, 1) := by decide +kernel
theorem dX12_records_90 : decode cX12_records 90 = .ok (.putfield 247, 3) := by decide +kernel
theorem dX12_records_93 : decode cX12_records 93 = .ok (.aload_n 0, 1) := by decide +kernel
theorem dX12_records_94 : decode cX12_records 94 = .ok (.invokevirtual 151, 3) := by decide +kernel
theorem dX12_records_97 : decode cX12_records 97 = .ok (.return_, 1) := by decide +kernel
theorem dX12_send_0 : decode cX12_send 0 = .ok (.aload_n 0, 1) := by decide +kernel
theorem dX12_send_1 : decode cX12_send 1 = .ok (.iload_n 1, 1) := by decide +kernel
theorem dX12_send_2 : decode cX12_send 2 = .ok (.invokevirtual 378, 3) := by decide +kernel
theorem dX12_send_5 : decode cX12_send 5 = .ok (.ifCond .eq 16, 3) := by decide +kernel
theorem dX12_send_8 : decode cX12_send 8 = .ok (.iload_n 2, 1) := by decide +kernel
theorem dX12_send_9 : decode cX12_send 9 = .ok (.iconst (-1), 1) := by decide +kernel
theorem dX12_send_10 : decode cX12_send 10 = .ok (.if_icmp .eq 13, 3) := by decide +kernel
theorem dX12_send_13 : decode cX12_send 13 = .ok (.aload_n 0, 1) := by decide +kernel
theorem dX12_send_14 : decode cX12_send 14 = .ok (.iload_n 2, 1) := by decide +kernel
theorem dX12_send_15 : decode cX12_send 15 = .ok (.invokevirtual 306, 3) := by decide +kernel
theorem dX12_send_18 : decode cX12_send 18 = .ok (.ifCond .ne 5, 3) := by decide +kernel
theorem dX12_send_21 : decode cX12_send 21 = .ok (.iconst 0, 1) := by decide +kernel
theorem dX12_send_22 : decode cX12_send 22 = .ok (.ireturn, 1) := by decide +kernel
theorem dX12_send_23 : decode cX12_send 23 = .ok (.iload_n 2, 1) := by decide +kernel
theorem dX12_send_24 : decode cX12_send 24 = .ok (.iconst (-1), 1) := by decide +kernel
theorem dX12_send_25 : decode cX12_send 25 = .ok (.if_icmp .eq 13, 3) := by decide +kernel
theorem dX12_send_28 : decode cX12_send 28 = .ok (.iload_n 2, 1) := by decide +kernel
theorem dX12_send_29 : decode cX12_send 29 = .ok (.aload_n 0, 1) := by decide +kernel
theorem dX12_send_30 : decode cX12_send 30 = .ok (.getfield 101, 3) := by decide +kernel
theorem dX12_send_33 : decode cX12_send 33 = .ok (.iload_n 1, 1) := by decide +kernel
theorem dX12_send_34 : decode cX12_send 34 = .ok (.iaload, 1) := by decide +kernel
theorem dX12_send_35 : decode cX12_send 35 = .ok (.if_icmp .ne 8, 3) := by decide +kernel
theorem dX12_send_38 : decode cX12_send 38 = .ok (.bipush (-2), 2) := by decide +kernel
theorem dX12_send_40 : decode cX12_send 40 = .ok (.goto 4, 3) := by decide +kernel
theorem dX12_send_43 : decode cX12_send 43 = .ok (.iload_n 2, 1) := by decide +kernel
theorem dX12_send_44 : decode cX12_send 44 = .ok (.istore_n 3, 1) := by decide +kernel
theorem dX12_send_45 : decode cX12_send 45 = .ok (.aload_n 0, 1) := by decide +kernel
theorem dX12_send_46 : decode cX12_send 46 = .ok (.getfield 101, 3) := by decide +kernel
theorem dX12_send_49 : decode cX12_send 49 = .ok (.iconst 5, 1) := by decide +kernel
theorem dX12_send_50 : decode cX12_send 50 = .ok (.iload_n 1, 1) := by decide +kernel
theorem dX12_send_51 : decode cX12_send 51 = .ok (.iadd, 1) := by decide +kernel
theorem dX12_send_52 : decode cX12_send 52 = .ok (.iaload, 1) := by decide +kernel
theorem dX12_send_53 : decode cX12_send 53 = .ok (.iload_n 3, 1) := by decide +kernel
theorem dX12_send_54 : decode cX12_send 54 = .ok (.if_icmp .ne 5, 3) := by decide +kernel
theorem dX12_send_57 : decode cX12_send 57 = .ok (.iconst 0, 1) := by decide +kernel
theorem dX12_send_58 : decode cX12_send 58 = .ok (.ireturn, 1) := by decide +kernel
theorem dX12_send_59 : decode cX12_send 59 = .ok (.aload_n 0, 1) := by decide +kernel
theorem dX12_send_60 : decode cX12_send 60 = .ok (.invokevirtual 381, 3) := by decide +kernel
theorem dX12_send_63 : decode cX12_send 63 = .ok (.aload_n 0, 1) := by decide +kernel
theorem dX12_send_64 : decode cX12_send 64 = .ok (.getfield 104, 3) := by decide +kernel
theorem dX12_send_67 : decode cX12_send 67 = .ok (.iconst 5, 1) := by decide +kernel
theorem dX12_send_68 : decode cX12_send 68 = .ok (.iload_n 1, 1) := by decide +kernel
theorem dX12_send_69 : decode cX12_send 69 = .ok (.iadd, 1) := by decide +kernel
theorem dX12_send_70 : decode cX12_send 70 = .ok (.iload_n 3, 1) := by decide +kernel
theorem dX12_send_71 : decode cX12_send 71 = .ok (.iastore, 1) := by decide +kernel
theorem dX12_send_72 : decode cX12_send 72 = .ok (.iload_n 3, 1) := by decide +kernel
theorem dX12_send_73 : decode cX12_send 73 = .ok (.ifCond .ge 13, 3) := by decide +kernel
theorem dX12_send_76 : decode cX12_send 76 = .ok (.aload_n 0, 1) := by decide +kernel
theorem dX12_send_77 : decode cX12_send 77 = .ok (.getfield 104, 3) := by decide +kernel
theorem dX12_send_80 : decode cX12_send 80 = .ok (.bipush 10, 2) := by decide +kernel
theorem dX12_send_82 : decode cX12_send 82 = .ok (.iload_n 1, 1) := by decide +kernel
theorem dX12_send_83 : decode cX12_send 83 = .ok (.iadd, 1) := by decide +kernel
theorem dX12_send_84 : decode cX12_send 84 = .ok (.iconst 0, 1) := by decide +kernel
theorem dX12_send_85 : decode cX12_send 85 = .ok (.iastore, 1) := by decide +kernel
theorem dX12_send_86 : decode cX12_send 86 = .ok (.aload_n 0, 1) := by decide +kernel
theorem dX12_send_87 : decode cX12_send 87 = .ok (.invokevirtual 387, 3) := by decide +kernel
theorem dX12_send_90 : decode cX12_send 90 = .ok (.iconst 1, 1) := by decide +kernel
theorem dX12_send_91 : decode cX12_send 91 = .ok (.ireturn, 1) := by decide +kernel
theorem dX12_mend_0 : decode cX12_mend 0 = .ok (.aload_n 0, 1) := by decide +kernel
theorem dX12_mend_1 : decode cX12_mend 1 = .ok (.iload_n 1, 1) := by decide +kernel
theorem dX12_mend_2 : decode cX12_mend 2 = .ok (.invokevirtual 306, 3) := by decide +kernel
theorem dX12_mend_5 : decode cX12_mend 5 = .ok (.ifCond .eq 15, 3) := by decide +kernel
theorem dX12_mend_8 : decode cX12_mend 8 = .ok (.aload_n 0, 1) := by decide +kernel
theorem dX12_mend_9 : decode cX12_mend 9 = .ok (.getfield 101, 3) := by decide +kernel
theorem dX12_mend_12 : decode cX12_mend 12 = .ok (.bipush 25, 2) := by decide +kernel
theorem dX12_mend_14 : decode cX12_mend 14 = .ok (.iload_n 1, 1) := by decide +kernel
theorem dX12_mend_15 : decode cX12_mend 15 = .ok (.iadd, 1) := by decide +kernel
theorem dX12_mend_16 : decode cX12_mend 16 = .ok (.iaload, 1) := by decide +kernel
theorem dX12_mend_17 : decode cX12_mend 17 = .ok (.ifCond .ne 5, 3) := by decide +kernel
theorem dX12_mend_20 : decode cX12_mend 20 = .ok (.iconst 0, 1) := by decide +kernel
theorem dX12_mend_21 : decode cX12_mend 21 = .ok (.ireturn, 1) := by decide +kernel
theorem dX12_mend_22 : decode cX12_mend 22 = .ok (.aload_n 0, 1) := by decide +kernel
theorem dX12_mend_23 : decode cX12_mend 23 = .ok (.invokevirtual 381, 3) := by decide +kernel
theorem dX12_mend_26 : decode cX12_mend 26 = .ok (.aload_n 0, 1) := by decide +kernel
theorem dX12_mend_27 : decode cX12_mend 27 = .ok (.getfield 104, 3) := by decide +kernel
theorem dX12_mend_30 : decode cX12_mend 30 = .ok (.bipush 25, 2) := by decide +kernel
theorem dX12_mend_32 : decode cX12_mend 32 = .ok (.iload_n 1, 1) := by decide +kernel
theorem dX12_mend_33 : decode cX12_mend 33 = .ok (.iadd, 1) := by decide +kernel
theorem dX12_mend_34 : decode cX12_mend 34 = .ok (.iconst 0, 1) := by decide +kernel
theorem dX12_mend_35 : decode cX12_mend 35 = .ok (.iastore, 1) := by decide +kernel
theorem dX12_mend_36 : decode cX12_mend 36 = .ok (.aload_n 0, 1) := by decide +kernel
theorem dX12_mend_37 : decode cX12_mend 37 = .ok (.invokevirtual 387, 3) := by decide +kernel
theorem dX12_mend_40 : decode cX12_mend 40 = .ok (.iconst 1, 1) := by decide +kernel
theorem dX12_mend_41 : decode cX12_mend 41 = .ok (.ireturn, 1) := by decide +kernel
theorem dX12_pours_0 : decode cX12_pours 0 = .ok (.iload_n 1, 1) := by decide +kernel
theorem dX12_pours_1 : decode cX12_pours 1 = .ok (.istore_n 2, 1) := by decide +kernel
theorem dX12_pours_2 : decode cX12_pours 2 = .ok (.iconst 0, 1) := by decide +kernel
theorem dX12_pours_3 : decode cX12_pours 3 = .ok (.istore_n 3, 1) := by decide +kernel
theorem dX12_pours_4 : decode cX12_pours 4 = .ok (.iload_n 3, 1) := by decide +kernel
theorem dX12_pours_5 : decode cX12_pours 5 = .ok (.aload_n 0, 1) := by decide +kernel
theorem dX12_pours_6 : decode cX12_pours 6 = .ok (.getfield 43, 3) := by decide +kernel
theorem dX12_pours_9 : decode cX12_pours 9 = .ok (.aload_n 0, 1) := by decide +kernel
theorem dX12_pours_10 : decode cX12_pours 10 = .ok (.getfield 221, 3) := by decide +kernel
theorem dX12_pours_13 : decode cX12_pours 13 = .ok (.iaload, 1) := by decide +kernel
theorem dX12_pours_14 : decode cX12_pours 14 = .ok (.if_icmp .ge 70, 3) := by decide +kernel
theorem dX12_pours_17 : decode cX12_pours 17 = .ok (.iconst 0, 1) := by decide +kernel
theorem dX12_pours_18 : decode cX12_pours 18 = .ok (.istore 4, 2) := by decide +kernel
theorem dX12_pours_20 : decode cX12_pours 20 = .ok (.iload 4, 2) := by decide +kernel
theorem dX12_pours_22 : decode cX12_pours 22 = .ok (.aload_n 0, 1) := by decide +kernel
theorem dX12_pours_23 : decode cX12_pours 23 = .ok (.getfield 46, 3) := by decide +kernel
theorem dX12_pours_26 : decode cX12_pours 26 = .ok (.aload_n 0, 1) := by decide +kernel
theorem dX12_pours_27 : decode cX12_pours 27 = .ok (.getfield 221, 3) := by decide +kernel
theorem dX12_pours_30 : decode cX12_pours 30 = .ok (.iaload, 1) := by decide +kernel
theorem dX12_pours_31 : decode cX12_pours 31 = .ok (.if_icmp .ge 47, 3) := by decide +kernel
theorem dX12_pours_34 : decode cX12_pours 34 = .ok (.aload_n 0, 1) := by decide +kernel
theorem dX12_pours_35 : decode cX12_pours 35 = .ok (.getfield 104, 3) := by decide +kernel
theorem dX12_pours_38 : decode cX12_pours 38 = .ok (.iload 4, 2) := by decide +kernel
theorem dX12_pours_40 : decode cX12_pours 40 = .ok (.iaload, 1) := by decide +kernel
theorem dX12_pours_41 : decode cX12_pours 41 = .ok (.iload_n 3, 1) := by decide +kernel
theorem dX12_pours_42 : decode cX12_pours 42 = .ok (.if_icmp .eq 6, 3) := by decide +kernel
theorem dX12_pours_45 : decode cX12_pours 45 = .ok (.goto 27, 3) := by decide +kernel
theorem dX12_pours_48 : decode cX12_pours 48 = .ok (.aload_n 0, 1) := by decide +kernel
theorem dX12_pours_49 : decode cX12_pours 49 = .ok (.getfield 110, 3) := by decide +kernel
theorem dX12_pours_52 : decode cX12_pours 52 = .ok (.iload 4, 2) := by decide +kernel
theorem dX12_pours_54 : decode cX12_pours 54 = .ok (.aload_n 0, 1) := by decide +kernel
theorem dX12_pours_55 : decode cX12_pours 55 = .ok (.iload 4, 2) := by decide +kernel
theorem dX12_pours_57 : decode cX12_pours 57 = .ok (.iload_n 2, 1) := by decide +kernel
theorem dX12_pours_58 : decode cX12_pours 58 = .ok (.invokevirtual 390, 3) := by decide +kernel
theorem dX12_pours_61 : decode cX12_pours 61 = .ok (.iastore, 1) := by decide +kernel
theorem dX12_pours_62 : decode cX12_pours 62 = .ok (.iload_n 2, 1) := by decide +kernel
theorem dX12_pours_63 : decode cX12_pours 63 = .ok (.aload_n 0, 1) := by decide +kernel
theorem dX12_pours_64 : decode cX12_pours 64 = .ok (.getfield 110, 3) := by decide +kernel
theorem dX12_pours_67 : decode cX12_pours 67 = .ok (.iload 4, 2) := by decide +kernel
theorem dX12_pours_69 : decode cX12_pours 69 = .ok (.iaload, 1) := by decide +kernel
theorem dX12_pours_70 : decode cX12_pours 70 = .ok (.isub, 1) := by decide +kernel
theorem dX12_pours_71 : decode cX12_pours 71 = .ok (.istore_n 2, 1) := by decide +kernel
theorem dX12_pours_72 : decode cX12_pours 72 = .ok (.iinc 4 1, 3) := by decide +kernel
theorem dX12_pours_75 : decode cX12_pours 75 = .ok (.goto (-55), 3) := by decide +kernel
theorem dX12_pours_78 : decode cX12_pours 78 = .ok (.iinc 3 1, 3) := by decide +kernel
theorem dX12_pours_81 : decode cX12_pours 81 = .ok (.goto (-77), 3) := by decide +kernel
theorem dX12_pours_84 : decode cX12_pours 84 = .ok (.iload_n 2, 1) := by decide +kernel
theorem dX12_pours_85 : decode cX12_pours 85 = .ok (.ireturn, 1) := by decide +kernel
theorem dX12_isWater_0 : decode cX12_isWater 0 = .ok (.iload_n 0, 1) := by decide +kernel
theorem dX12_isWater_1 : decode cX12_isWater 1 = .ok (.iconst 0, 1) := by decide +kernel
theorem dX12_isWater_2 : decode cX12_isWater 2 = .ok (.bipush 99, 2) := by decide +kernel
theorem dX12_isWater_4 : decode cX12_isWater 4 = .ok (.invokestatic 292, 3) := by decide +kernel
theorem dX12_isWater_7 : decode cX12_isWater 7 = .ok (.ireturn, 1) := by decide +kernel
theorem dX12_bucket_0 : decode cX12_bucket 0 = .ok (.iload_n 1, 1) := by decide +kernel
theorem dX12_bucket_1 : decode cX12_bucket 1 = .ok (.invokestatic 393, 3) := by decide +kernel
theorem dX12_bucket_4 : decode cX12_bucket 4 = .ok (.ifCond .ne 5, 3) := by decide +kernel
theorem dX12_bucket_7 : decode cX12_bucket 7 = .ok (.iconst (-1), 1) := by decide +kernel
theorem dX12_bucket_8 : decode cX12_bucket 8 = .ok (.ireturn, 1) := by decide +kernel
theorem dX12_bucket_9 : decode cX12_bucket 9 = .ok (.aload_n 0, 1) := by decide +kernel
theorem dX12_bucket_10 : decode cX12_bucket 10 = .ok (.invokevirtual 381, 3) := by decide +kernel
theorem dX12_bucket_13 : decode cX12_bucket 13 = .ok (.aload_n 0, 1) := by decide +kernel
theorem dX12_bucket_14 : decode cX12_bucket 14 = .ok (.iload_n 1, 1) := by decide +kernel
theorem dX12_bucket_15 : decode cX12_bucket 15 = .ok (.invokevirtual 396, 3) := by decide +kernel
theorem dX12_bucket_18 : decode cX12_bucket 18 = .ok (.istore_n 2, 1) := by decide +kernel
theorem dX12_bucket_19 : decode cX12_bucket 19 = .ok (.iconst 0, 1) := by decide +kernel
theorem dX12_bucket_20 : decode cX12_bucket 20 = .ok (.istore_n 3, 1) := by decide +kernel
theorem dX12_bucket_21 : decode cX12_bucket 21 = .ok (.iload_n 3, 1) := by decide +kernel
theorem dX12_bucket_22 : decode cX12_bucket 22 = .ok (.aload_n 0, 1) := by decide +kernel
theorem dX12_bucket_23 : decode cX12_bucket 23 = .ok (.getfield 46, 3) := by decide +kernel
theorem dX12_bucket_26 : decode cX12_bucket 26 = .ok (.aload_n 0, 1) := by decide +kernel
theorem dX12_bucket_27 : decode cX12_bucket 27 = .ok (.getfield 221, 3) := by decide +kernel
theorem dX12_bucket_30 : decode cX12_bucket 30 = .ok (.iaload, 1) := by decide +kernel
theorem dX12_bucket_31 : decode cX12_bucket 31 = .ok (.if_icmp .ge 27, 3) := by decide +kernel
theorem dX12_bucket_34 : decode cX12_bucket 34 = .ok (.aload_n 0, 1) := by decide +kernel
theorem dX12_bucket_35 : decode cX12_bucket 35 = .ok (.getfield 104, 3) := by decide +kernel
theorem dX12_bucket_38 : decode cX12_bucket 38 = .ok (.bipush 15, 2) := by decide +kernel
theorem dX12_bucket_40 : decode cX12_bucket 40 = .ok (.iload_n 3, 1) := by decide +kernel
theorem dX12_bucket_41 : decode cX12_bucket 41 = .ok (.iadd, 1) := by decide +kernel
theorem dX12_bucket_42 : decode cX12_bucket 42 = .ok (.dup2, 1) := by decide +kernel
theorem dX12_bucket_43 : decode cX12_bucket 43 = .ok (.iaload, 1) := by decide +kernel
theorem dX12_bucket_44 : decode cX12_bucket 44 = .ok (.aload_n 0, 1) := by decide +kernel
theorem dX12_bucket_45 : decode cX12_bucket 45 = .ok (.getfield 110, 3) := by decide +kernel
theorem dX12_bucket_48 : decode cX12_bucket 48 = .ok (.iload_n 3, 1) := by decide +kernel
theorem dX12_bucket_49 : decode cX12_bucket 49 = .ok (.iaload, 1) := by decide +kernel
theorem dX12_bucket_50 : decode cX12_bucket 50 = .ok (.iadd, 1) := by decide +kernel
theorem dX12_bucket_51 : decode cX12_bucket 51 = .ok (.iastore, 1) := by decide +kernel
theorem dX12_bucket_52 : decode cX12_bucket 52 = .ok (.iinc 3 1, 3) := by decide +kernel
theorem dX12_bucket_55 : decode cX12_bucket 55 = .ok (.goto (-34), 3) := by decide +kernel
theorem dX12_bucket_58 : decode cX12_bucket 58 = .ok (.aload_n 0, 1) := by decide +kernel
theorem dX12_bucket_59 : decode cX12_bucket 59 = .ok (.invokevirtual 387, 3) := by decide +kernel
theorem dX12_bucket_62 : decode cX12_bucket 62 = .ok (.iload_n 2, 1) := by decide +kernel
theorem dX12_bucket_63 : decode cX12_bucket 63 = .ok (.ireturn, 1) := by decide +kernel
theorem dX12_isLong_0 : decode cX12_isLong 0 = .ok (.iload_n 0, 1) := by decide +kernel
theorem dX12_isLong_1 : decode cX12_isLong 1 = .ok (.iconst 0, 1) := by decide +kernel
theorem dX12_isLong_2 : decode cX12_isLong 2 = .ok (.bipush 60, 2) := by decide +kernel
theorem dX12_isLong_4 : decode cX12_isLong 4 = .ok (.invokestatic 292, 3) := by decide +kernel
theorem dX12_isLong_7 : decode cX12_isLong 7 = .ok (.ireturn, 1) := by decide +kernel
theorem dX12_minutes_0 : decode cX12_minutes 0 = .ok (.iload_n 1, 1) := by decide +kernel
theorem dX12_minutes_1 : decode cX12_minutes 1 = .ok (.invokestatic 399, 3) := by decide +kernel
theorem dX12_minutes_4 : decode cX12_minutes 4 = .ok (.ifCond .ne 5, 3) := by decide +kernel
theorem dX12_minutes_7 : decode cX12_minutes 7 = .ok (.iconst (-1), 1) := by decide +kernel
theorem dX12_minutes_8 : decode cX12_minutes 8 = .ok (.ireturn, 1) := by decide +kernel
theorem dX12_minutes_9 : decode cX12_minutes 9 = .ok (.iload_n 1, 1) := by decide +kernel
theorem dX12_minutes_10 : decode cX12_minutes 10 = .ok (.ifCond .ne 11, 3) := by decide +kernel
theorem dX12_minutes_13 : decode cX12_minutes 13 = .ok (.aload_n 0, 1) := by decide +kernel
theorem dX12_minutes_14 : decode cX12_minutes 14 = .ok (.getfield 101, 3) := by decide +kernel
theorem dX12_minutes_17 : decode cX12_minutes 17 = .ok (.bipush 49, 2) := by decide +kernel
theorem dX12_minutes_19 : decode cX12_minutes 19 = .ok (.iaload, 1) := by decide +kernel
theorem dX12_minutes_20 : decode cX12_minutes 20 = .ok (.ireturn, 1) := by decide +kernel
theorem dX12_minutes_21 : decode cX12_minutes 21 = .ok (.aload_n 0, 1) := by decide +kernel
theorem dX12_minutes_22 : decode cX12_minutes 22 = .ok (.invokevirtual 381, 3) := by decide +kernel
theorem dX12_minutes_25 : decode cX12_minutes 25 = .ok (.aload_n 0, 1) := by decide +kernel
theorem dX12_minutes_26 : decode cX12_minutes 26 = .ok (.iload_n 1, 1) := by decide +kernel
theorem dX12_minutes_27 : decode cX12_minutes 27 = .ok (.invokevirtual 402, 3) := by decide +kernel
theorem dX12_minutes_30 : decode cX12_minutes 30 = .ok (.aload_n 0, 1) := by decide +kernel
theorem dX12_minutes_31 : decode cX12_minutes 31 = .ok (.invokevirtual 387, 3) := by decide +kernel
theorem dX12_minutes_34 : decode cX12_minutes 34 = .ok (.aload_n 0, 1) := by decide +kernel
theorem dX12_minutes_35 : decode cX12_minutes 35 = .ok (.getfield 101, 3) := by decide +kernel
theorem dX12_minutes_38 : decode cX12_minutes 38 = .ok (.bipush 49, 2) := by decide +kernel
theorem dX12_minutes_40 : decode cX12_minutes 40 = .ok (.iaload, 1) := by decide +kernel
theorem dX12_minutes_41 : decode cX12_minutes 41 = .ok (.ireturn, 1) := by decide +kernel
theorem dX12_undo_0 : decode cX12_undo 0 = .ok (.aload_n 0, 1) := by decide +kernel
theorem dX12_undo_1 : decode cX12_undo 1 = .ok (.getfield 247, 3) := by decide +kernel
theorem dX12_undo_4 : decode cX12_undo 4 = .ok (.ifCond .ne 5, 3) := by decide +kernel
theorem dX12_undo_7 : decode cX12_undo 7 = .ok (.iconst 0, 1) := by decide +kernel
theorem dX12_undo_8 : decode cX12_undo 8 = .ok (.ireturn, 1) := by decide +kernel
theorem dX12_undo_9 : decode cX12_undo 9 = .ok (.aload_n 0, 1) := by decide +kernel
theorem dX12_undo_10 : decode cX12_undo 10 = .ok (.dup, 1) := by decide +kernel
theorem dX12_undo_11 : decode cX12_undo 11 = .ok (.getfield 247, 3) := by decide +kernel
theorem dX12_undo_14 : decode cX12_undo 14 = .ok (.iconst 1, 1) := by decide +kernel
theorem dX12_undo_15 : decode cX12_undo 15 = .ok (.isub, 1) := by decide +kernel
theorem dX12_undo_16 : decode cX12_undo 16 = .ok (.putfield 247, 3) := by decide +kernel
theorem dX12_undo_19 : decode cX12_undo 19 = .ok (.iconst 0, 1) := by decide +kernel
theorem dX12_undo_20 : decode cX12_undo 20 = .ok (.istore_n 1, 1) := by decide +kernel
theorem dX12_undo_21 : decode cX12_undo 21 = .ok (.iload_n 1, 1) := by decide +kernel
theorem dX12_undo_22 : decode cX12_undo 22 = .ok (.bipush 51, 2) := by decide +kernel
theorem dX12_undo_24 : decode cX12_undo 24 = .ok (.if_icmp .ge 29, 3) := by decide +kernel
theorem dX12_undo_27 : decode cX12_undo 27 = .ok (.aload_n 0, 1) := by decide +kernel
theorem dX12_undo_28 : decode cX12_undo 28 = .ok (.getfield 101, 3) := by decide +kernel
theorem dX12_undo_31 : decode cX12_undo 31 = .ok (.iload_n 1, 1) := by decide +kernel
theorem dX12_undo_32 : decode cX12_undo 32 = .ok (.aload_n 0, 1) := by decide +kernel
theorem dX12_undo_33 : decode cX12_undo 33 = .ok (.getfield 107, 3) := by decide +kernel
theorem dX12_undo_36 : decode cX12_undo 36 = .ok (.bipush 51, 2) := by decide +kernel
theorem dX12_undo_38 : decode cX12_undo 38 = .ok (.aload_n 0, 1) := by decide +kernel
theorem dX12_undo_39 : decode cX12_undo 39 = .ok (.getfield 247, 3) := by decide +kernel
theorem dX12_undo_42 : decode cX12_undo 42 = .ok (.imul, 1) := by decide +kernel
theorem dX12_undo_43 : decode cX12_undo 43 = .ok (.iload_n 1, 1) := by decide +kernel
theorem dX12_undo_44 : decode cX12_undo 44 = .ok (.iadd, 1) := by decide +kernel
theorem dX12_undo_45 : decode cX12_undo 45 = .ok (.iaload, 1) := by decide +kernel
theorem dX12_undo_46 : decode cX12_undo 46 = .ok (.iastore, 1) := by decide +kernel
theorem dX12_undo_47 : decode cX12_undo 47 = .ok (.iinc 1 1, 3) := by decide +kernel
theorem dX12_undo_50 : decode cX12_undo 50 = .ok (.goto (-29), 3) := by decide +kernel
theorem dX12_undo_53 : decode cX12_undo 53 = .ok (.iconst 1, 1) := by decide +kernel
theorem dX12_undo_54 : decode cX12_undo 54 = .ok (.ireturn, 1) := by decide +kernel
theorem dX12_inTheWay_0 : decode cX12_inTheWay 0 = .ok (.aload_n 0, 1) := by decide +kernel
theorem dX12_inTheWay_1 : decode cX12_inTheWay 1 = .ok (.iload_n 1, 1) := by decide +kernel
theorem dX12_inTheWay_2 : decode cX12_inTheWay 2 = .ok (.invokevirtual 378, 3) := by decide +kernel
theorem dX12_inTheWay_5 : decode cX12_inTheWay 5 = .ok (.ifCond .eq 11, 3) := by decide +kernel
theorem dX12_inTheWay_8 : decode cX12_inTheWay 8 = .ok (.aload_n 0, 1) := by decide +kernel
theorem dX12_inTheWay_9 : decode cX12_inTheWay 9 = .ok (.iload_n 2, 1) := by decide +kernel
theorem dX12_inTheWay_10 : decode cX12_inTheWay 10 = .ok (.invokevirtual 306, 3) := by decide +kernel
theorem dX12_inTheWay_13 : decode cX12_inTheWay 13 = .ok (.ifCond .ne 5, 3) := by decide +kernel
theorem dX12_inTheWay_16 : decode cX12_inTheWay 16 = .ok (.iconst (-1), 1) := by decide +kernel
theorem dX12_inTheWay_17 : decode cX12_inTheWay 17 = .ok (.ireturn, 1) := by decide +kernel
theorem dX12_inTheWay_18 : decode cX12_inTheWay 18 = .ok (.aload_n 0, 1) := by decide +kernel
theorem dX12_inTheWay_19 : decode cX12_inTheWay 19 = .ok (.invokevirtual 381, 3) := by decide +kernel
theorem dX12_inTheWay_22 : decode cX12_inTheWay 22 = .ok (.aload_n 0, 1) := by decide +kernel
theorem dX12_inTheWay_23 : decode cX12_inTheWay 23 = .ok (.iload_n 1, 1) := by decide +kernel
theorem dX12_inTheWay_24 : decode cX12_inTheWay 24 = .ok (.iload_n 2, 1) := by decide +kernel
theorem dX12_inTheWay_25 : decode cX12_inTheWay 25 = .ok (.invokevirtual 405, 3) := by decide +kernel
theorem dX12_inTheWay_28 : decode cX12_inTheWay 28 = .ok (.ireturn, 1) := by decide +kernel
theorem dX12_goalBits_0 : decode cX12_goalBits 0 = .ok (.iconst 0, 1) := by decide +kernel
theorem dX12_goalBits_1 : decode cX12_goalBits 1 = .ok (.istore_n 1, 1) := by decide +kernel
theorem dX12_goalBits_2 : decode cX12_goalBits 2 = .ok (.iconst 0, 1) := by decide +kernel
theorem dX12_goalBits_3 : decode cX12_goalBits 3 = .ok (.istore_n 2, 1) := by decide +kernel
theorem dX12_goalBits_4 : decode cX12_goalBits 4 = .ok (.iload_n 2, 1) := by decide +kernel
theorem dX12_goalBits_5 : decode cX12_goalBits 5 = .ok (.aload_n 0, 1) := by decide +kernel
theorem dX12_goalBits_6 : decode cX12_goalBits 6 = .ok (.getfield 46, 3) := by decide +kernel
theorem dX12_goalBits_9 : decode cX12_goalBits 9 = .ok (.aload_n 0, 1) := by decide +kernel
theorem dX12_goalBits_10 : decode cX12_goalBits 10 = .ok (.getfield 221, 3) := by decide +kernel
theorem dX12_goalBits_13 : decode cX12_goalBits 13 = .ok (.iaload, 1) := by decide +kernel
theorem dX12_goalBits_14 : decode cX12_goalBits 14 = .ok (.if_icmp .ge 26, 3) := by decide +kernel
theorem dX12_goalBits_17 : decode cX12_goalBits 17 = .ok (.aload_n 0, 1) := by decide +kernel
theorem dX12_goalBits_18 : decode cX12_goalBits 18 = .ok (.getfield 104, 3) := by decide +kernel
theorem dX12_goalBits_21 : decode cX12_goalBits 21 = .ok (.iconst 5, 1) := by decide +kernel
theorem dX12_goalBits_22 : decode cX12_goalBits 22 = .ok (.iload_n 2, 1) := by decide +kernel
theorem dX12_goalBits_23 : decode cX12_goalBits 23 = .ok (.iadd, 1) := by decide +kernel
theorem dX12_goalBits_24 : decode cX12_goalBits 24 = .ok (.iaload, 1) := by decide +kernel
theorem dX12_goalBits_25 : decode cX12_goalBits 25 = .ok (.ifCond .lt 9, 3) := by decide +kernel
theorem dX12_goalBits_28 : decode cX12_goalBits 28 = .ok (.iload_n 1, 1) := by decide +kernel
theorem dX12_goalBits_29 : decode cX12_goalBits 29 = .ok (.iconst 1, 1) := by decide +kernel
theorem dX12_goalBits_30 : decode cX12_goalBits 30 = .ok (.iload_n 2, 1) := by decide +kernel
theorem dX12_goalBits_31 : decode cX12_goalBits 31 = .ok (.ishl, 1) := by decide +kernel
theorem dX12_goalBits_32 : decode cX12_goalBits 32 = .ok (.ior, 1) := by decide +kernel
theorem dX12_goalBits_33 : decode cX12_goalBits 33 = .ok (.istore_n 1, 1) := by decide +kernel
theorem dX12_goalBits_34 : decode cX12_goalBits 34 = .ok (.iinc 2 1, 3) := by decide +kernel
theorem dX12_goalBits_37 : decode cX12_goalBits 37 = .ok (.goto (-33), 3) := by decide +kernel
theorem dX12_goalBits_40 : decode cX12_goalBits 40 = .ok (.iload_n 1, 1) := by decide +kernel
theorem dX12_goalBits_41 : decode cX12_goalBits 41 = .ok (.ireturn, 1) := by decide +kernel
theorem dX12_errandsFrom_0 : decode cX12_errandsFrom 0 = .ok (.aload_n 0, 1) := by decide +kernel
theorem dX12_errandsFrom_1 : decode cX12_errandsFrom 1 = .ok (.iconst 1, 1) := by decide +kernel
theorem dX12_errandsFrom_2 : decode cX12_errandsFrom 2 = .ok (.putfield 299, 3) := by decide +kernel
theorem dX12_errandsFrom_5 : decode cX12_errandsFrom 5 = .ok (.iconst 0, 1) := by decide +kernel
theorem dX12_errandsFrom_6 : decode cX12_errandsFrom 6 = .ok (.istore_n 1, 1) := by decide +kernel
theorem dX12_errandsFrom_7 : decode cX12_errandsFrom 7 = .ok (.iload_n 1, 1) := by decide +kernel
theorem dX12_errandsFrom_8 : decode cX12_errandsFrom 8 = .ok (.sipush 200, 3) := by decide +kernel
theorem dX12_errandsFrom_11 : decode cX12_errandsFrom 11 = .ok (.if_icmp .gt 22, 3) := by decide +kernel
theorem dX12_errandsFrom_14 : decode cX12_errandsFrom 14 = .ok (.aload_n 0, 1) := by decide +kernel
theorem dX12_errandsFrom_15 : decode cX12_errandsFrom 15 = .ok (.invokevirtual 408, 3) := by decide +kernel
theorem dX12_errandsFrom_18 : decode cX12_errandsFrom 18 = .ok (.ifCond .ne 5, 3) := by decide +kernel
theorem dX12_errandsFrom_21 : decode cX12_errandsFrom 21 = .ok (.iload_n 1, 1) := by decide +kernel
theorem dX12_errandsFrom_22 : decode cX12_errandsFrom 22 = .ok (.ireturn, 1) := by decide +kernel
theorem dX12_errandsFrom_23 : decode cX12_errandsFrom 23 = .ok (.aload_n 0, 1) := by decide +kernel
theorem dX12_errandsFrom_24 : decode cX12_errandsFrom 24 = .ok (.invokevirtual 375, 3) := by decide +kernel
theorem dX12_errandsFrom_27 : decode cX12_errandsFrom 27 = .ok (.iinc 1 1, 3) := by decide +kernel
theorem dX12_errandsFrom_30 : decode cX12_errandsFrom 30 = .ok (.goto (-23), 3) := by decide +kernel
theorem dX12_errandsFrom_33 : decode cX12_errandsFrom 33 = .ok (.sipush 201, 3) := by decide +kernel
theorem dX12_errandsFrom_36 : decode cX12_errandsFrom 36 = .ok (.ireturn, 1) := by decide +kernel
theorem dX12_errands_0 : decode cX12_errands 0 = .ok (.aload_n 0, 1) := by decide +kernel
theorem dX12_errands_1 : decode cX12_errands 1 = .ok (.invokevirtual 381, 3) := by decide +kernel
theorem dX12_errands_4 : decode cX12_errands 4 = .ok (.aload_n 0, 1) := by decide +kernel
theorem dX12_errands_5 : decode cX12_errands 5 = .ok (.invokevirtual 411, 3) := by decide +kernel
theorem dX12_errands_8 : decode cX12_errands 8 = .ok (.istore_n 1, 1) := by decide +kernel
theorem dX12_errands_9 : decode cX12_errands 9 = .ok (.iload_n 1, 1) := by decide +kernel
theorem dX12_errands_10 : decode cX12_errands 10 = .ok (.sipush 201, 3) := by decide +kernel
theorem dX12_errands_13 : decode cX12_errands 13 = .ok (.if_icmp .ne 8, 3) := by decide +kernel
theorem dX12_errands_16 : decode cX12_errands 16 = .ok (.bipush (-2), 2) := by decide +kernel
theorem dX12_errands_18 : decode cX12_errands 18 = .ok (.goto 4, 3) := by decide +kernel
theorem dX12_errands_21 : decode cX12_errands 21 = .ok (.iload_n 1, 1) := by decide +kernel
theorem dX12_errands_22 : decode cX12_errands 22 = .ok (.ireturn, 1) := by decide +kernel
theorem dX12_past_0 : decode cX12_past 0 = .ok (.aload_n 0, 1) := by decide +kernel
theorem dX12_past_1 : decode cX12_past 1 = .ok (.iload_n 1, 1) := by decide +kernel
theorem dX12_past_2 : decode cX12_past 2 = .ok (.invokevirtual 378, 3) := by decide +kernel
theorem dX12_past_5 : decode cX12_past 5 = .ok (.ifCond .eq 33, 3) := by decide +kernel
theorem dX12_past_8 : decode cX12_past 8 = .ok (.aload_n 0, 1) := by decide +kernel
theorem dX12_past_9 : decode cX12_past 9 = .ok (.iload_n 3, 1) := by decide +kernel
theorem dX12_past_10 : decode cX12_past 10 = .ok (.invokevirtual 378, 3) := by decide +kernel
theorem dX12_past_13 : decode cX12_past 13 = .ok (.ifCond .eq 25, 3) := by decide +kernel
theorem dX12_past_16 : decode cX12_past 16 = .ok (.iload_n 1, 1) := by decide +kernel
theorem dX12_past_17 : decode cX12_past 17 = .ok (.iload_n 3, 1) := by decide +kernel
theorem dX12_past_18 : decode cX12_past 18 = .ok (.if_icmp .eq 20, 3) := by decide +kernel
theorem dX12_past_21 : decode cX12_past 21 = .ok (.aload_n 0, 1) := by decide +kernel
theorem dX12_past_22 : decode cX12_past 22 = .ok (.iload_n 2, 1) := by decide +kernel
theorem dX12_past_23 : decode cX12_past 23 = .ok (.invokevirtual 306, 3) := by decide +kernel
theorem dX12_past_26 : decode cX12_past 26 = .ok (.ifCond .eq 12, 3) := by decide +kernel
theorem dX12_past_29 : decode cX12_past 29 = .ok (.aload_n 0, 1) := by decide +kernel
theorem dX12_past_30 : decode cX12_past 30 = .ok (.iload 4, 2) := by decide +kernel
theorem dX12_past_32 : decode cX12_past 32 = .ok (.invokevirtual 306, 3) := by decide +kernel
theorem dX12_past_35 : decode cX12_past 35 = .ok (.ifCond .ne 5, 3) := by decide +kernel
theorem dX12_past_38 : decode cX12_past 38 = .ok (.iconst (-1), 1) := by decide +kernel
theorem dX12_past_39 : decode cX12_past 39 = .ok (.ireturn, 1) := by decide +kernel
theorem dX12_past_40 : decode cX12_past 40 = .ok (.aload_n 0, 1) := by decide +kernel
theorem dX12_past_41 : decode cX12_past 41 = .ok (.invokevirtual 381, 3) := by decide +kernel
theorem dX12_past_44 : decode cX12_past 44 = .ok (.iconst 0, 1) := by decide +kernel
theorem dX12_past_45 : decode cX12_past 45 = .ok (.istore 5, 2) := by decide +kernel
theorem dX12_past_47 : decode cX12_past 47 = .ok (.iload 5, 2) := by decide +kernel
theorem dX12_past_49 : decode cX12_past 49 = .ok (.sipush 144, 3) := by decide +kernel
theorem dX12_past_52 : decode cX12_past 52 = .ok (.if_icmp .ge 42, 3) := by decide +kernel
theorem dX12_past_55 : decode cX12_past 55 = .ok (.aload_n 0, 1) := by decide +kernel
theorem dX12_past_56 : decode cX12_past 56 = .ok (.getfield 113, 3) := by decide +kernel
theorem dX12_past_59 : decode cX12_past 59 = .ok (.iload 5, 2) := by decide +kernel
theorem dX12_past_61 : decode cX12_past 61 = .ok (.iload 5, 2) := by decide +kernel
theorem dX12_past_63 : decode cX12_past 63 = .ok (.bipush 12, 2) := by decide +kernel
theorem dX12_past_65 : decode cX12_past 65 = .ok (.aload_n 0, 1) := by decide +kernel
theorem dX12_past_66 : decode cX12_past 66 = .ok (.getfield 101, 3) := by decide +kernel
theorem dX12_past_69 : decode cX12_past 69 = .ok (.iload_n 1, 1) := by decide +kernel
theorem dX12_past_70 : decode cX12_past 70 = .ok (.iaload, 1) := by decide +kernel
theorem dX12_past_71 : decode cX12_past 71 = .ok (.imul, 1) := by decide +kernel
theorem dX12_past_72 : decode cX12_past 72 = .ok (.aload_n 0, 1) := by decide +kernel
theorem dX12_past_73 : decode cX12_past 73 = .ok (.getfield 101, 3) := by decide +kernel
theorem dX12_past_76 : decode cX12_past 76 = .ok (.iload_n 3, 1) := by decide +kernel
theorem dX12_past_77 : decode cX12_past 77 = .ok (.iaload, 1) := by decide +kernel
theorem dX12_past_78 : decode cX12_past 78 = .ok (.iadd, 1) := by decide +kernel
theorem dX12_past_79 : decode cX12_past 79 = .ok (.if_icmp .ne 7, 3) := by decide +kernel
theorem dX12_past_82 : decode cX12_past 82 = .ok (.iconst 1, 1) := by decide +kernel
theorem dX12_past_83 : decode cX12_past 83 = .ok (.goto 4, 3) := by decide +kernel
theorem dX12_past_86 : decode cX12_past 86 = .ok (.iconst 0, 1) := by decide +kernel
theorem dX12_past_87 : decode cX12_past 87 = .ok (.bastore, 1) := by decide +kernel
theorem dX12_past_88 : decode cX12_past 88 = .ok (.iinc 5 1, 3) := by decide +kernel
theorem dX12_past_91 : decode cX12_past 91 = .ok (.goto (-44), 3) := by decide +kernel
theorem dX12_past_94 : decode cX12_past 94 = .ok (.iconst 0, 1) := by decide +kernel
theorem dX12_past_95 : decode cX12_past 95 = .ok (.istore 5, 2) := by decide +kernel
theorem dX12_past_97 : decode cX12_past 97 = .ok (.iload 5, 2) := by decide +kernel
theorem dX12_past_99 : decode cX12_past 99 = .ok (.bipush 40, 2) := by decide +kernel
theorem dX12_past_101 : decode cX12_past 101 = .ok (.if_icmp .gt 126, 3) := by decide +kernel
theorem dX12_past_104 : decode cX12_past 104 = .ok (.aload_n 0, 1) := by decide +kernel
theorem dX12_past_105 : decode cX12_past 105 = .ok (.getfield 113, 3) := by decide +kernel
theorem dX12_past_108 : decode cX12_past 108 = .ok (.bipush 12, 2) := by decide +kernel
theorem dX12_past_110 : decode cX12_past 110 = .ok (.iload_n 2, 1) := by decide +kernel
theorem dX12_past_111 : decode cX12_past 111 = .ok (.imul, 1) := by decide +kernel
theorem dX12_past_112 : decode cX12_past 112 = .ok (.iload 4, 2) := by decide +kernel
theorem dX12_past_114 : decode cX12_past 114 = .ok (.iadd, 1) := by decide +kernel
theorem dX12_past_115 : decode cX12_past 115 = .ok (.baload, 1) := by decide +kernel
theorem dX12_past_116 : decode cX12_past 116 = .ok (.ifCond .eq 6, 3) := by decide +kernel
theorem dX12_past_119 : decode cX12_past 119 = .ok (.iload 5, 2) := by decide +kernel
theorem dX12_past_121 : decode cX12_past 121 = .ok (.ireturn, 1) := by decide +kernel
theorem dX12_past_122 : decode cX12_past 122 = .ok (.iconst 0, 1) := by decide +kernel
theorem dX12_past_123 : decode cX12_past 123 = .ok (.istore 6, 2) := by decide +kernel
theorem dX12_past_125 : decode cX12_past 125 = .ok (.iload 6, 2) := by decide +kernel
theorem dX12_past_127 : decode cX12_past 127 = .ok (.sipush 144, 3) := by decide +kernel
theorem dX12_past_130 : decode cX12_past 130 = .ok (.if_icmp .ge 17, 3) := by decide +kernel
theorem dX12_past_133 : decode cX12_past 133 = .ok (.aload_n 0, 1) := by decide +kernel
theorem dX12_past_134 : decode cX12_past 134 = .ok (.getfield 116, 3) := by decide +kernel
theorem dX12_past_137 : decode cX12_past 137 = .ok (.iload 6, 2) := by decide +kernel
theorem dX12_past_139 : decode cX12_past 139 = .ok (.iconst 0, 1) := by decide +kernel
theorem dX12_past_140 : decode cX12_past 140 = .ok (.bastore, 1) := by decide +kernel
theorem dX12_past_141 : decode cX12_past 141 = .ok (.iinc 6 1, 3) := by decide +kernel
theorem dX12_past_144 : decode cX12_past 144 = .ok (.goto (-19), 3) := by decide +kernel
theorem dX12_past_147 : decode cX12_past 147 = .ok (.iconst 0, 1) := by decide +kernel
theorem dX12_past_148 : decode cX12_past 148 = .ok (.istore 6, 2) := by decide +kernel
theorem dX12_past_150 : decode cX12_past 150 = .ok (.iload 6, 2) := by decide +kernel
theorem dX12_past_152 : decode cX12_past 152 = .ok (.sipush 144, 3) := by decide +kernel
theorem dX12_past_155 : decode cX12_past 155 = .ok (.if_icmp .ge 35, 3) := by decide +kernel
theorem dX12_past_158 : decode cX12_past 158 = .ok (.aload_n 0, 1) := by decide +kernel
theorem dX12_past_159 : decode cX12_past 159 = .ok (.getfield 113, 3) := by decide +kernel
theorem dX12_past_162 : decode cX12_past 162 = .ok (.iload 6, 2) := by decide +kernel
theorem dX12_past_164 : decode cX12_past 164 = .ok (.baload, 1) := by decide +kernel
theorem dX12_past_165 : decode cX12_past 165 = .ok (.ifCond .eq 19, 3) := by decide +kernel
theorem dX12_past_168 : decode cX12_past 168 = .ok (.aload_n 0, 1) := by decide +kernel
theorem dX12_past_169 : decode cX12_past 169 = .ok (.iload_n 1, 1) := by decide +kernel
theorem dX12_past_170 : decode cX12_past 170 = .ok (.iload_n 3, 1) := by decide +kernel
theorem dX12_past_171 : decode cX12_past 171 = .ok (.iload 6, 2) := by decide +kernel
theorem dX12_past_173 : decode cX12_past 173 = .ok (.bipush 12, 2) := by decide +kernel
theorem dX12_past_175 : decode cX12_past 175 = .ok (.idiv, 1) := by decide +kernel
theorem dX12_past_176 : decode cX12_past 176 = .ok (.iload 6, 2) := by decide +kernel
theorem dX12_past_178 : decode cX12_past 178 = .ok (.bipush 12, 2) := by decide +kernel
theorem dX12_past_180 : decode cX12_past 180 = .ok (.irem, 1) := by decide +kernel
theorem dX12_past_181 : decode cX12_past 181 = .ok (.invokevirtual 423, 3) := by decide +kernel
theorem dX12_past_184 : decode cX12_past 184 = .ok (.iinc 6 1, 3) := by decide +kernel
theorem dX12_past_187 : decode cX12_past 187 = .ok (.goto (-37), 3) := by decide +kernel
theorem dX12_past_190 : decode cX12_past 190 = .ok (.iconst 0, 1) := by decide +kernel
theorem dX12_past_191 : decode cX12_past 191 = .ok (.istore 6, 2) := by decide +kernel
theorem dX12_past_193 : decode cX12_past 193 = .ok (.iload 6, 2) := by decide +kernel
theorem dX12_past_195 : decode cX12_past 195 = .ok (.sipush 144, 3) := by decide +kernel
theorem dX12_past_198 : decode cX12_past 198 = .ok (.if_icmp .ge 23, 3) := by decide +kernel
theorem dX12_past_201 : decode cX12_past 201 = .ok (.aload_n 0, 1) := by decide +kernel
theorem dX12_past_202 : decode cX12_past 202 = .ok (.getfield 113, 3) := by decide +kernel
theorem dX12_past_205 : decode cX12_past 205 = .ok (.iload 6, 2) := by decide +kernel
theorem dX12_past_207 : decode cX12_past 207 = .ok (.aload_n 0, 1) := by decide +kernel
theorem dX12_past_208 : decode cX12_past 208 = .ok (.getfield 116, 3) := by decide +kernel
theorem dX12_past_211 : decode cX12_past 211 = .ok (.iload 6, 2) := by decide +kernel
theorem dX12_past_213 : decode cX12_past 213 = .ok (.baload, 1) := by decide +kernel
theorem dX12_past_214 : decode cX12_past 214 = .ok (.bastore, 1) := by decide +kernel
theorem dX12_past_215 : decode cX12_past 215 = .ok (.iinc 6 1, 3) := by decide +kernel
theorem dX12_past_218 : decode cX12_past 218 = .ok (.goto (-25), 3) := by decide +kernel
theorem dX12_past_221 : decode cX12_past 221 = .ok (.iinc 5 1, 3) := by decide +kernel
theorem dX12_past_224 : decode cX12_past 224 = .ok (.goto (-127), 3) := by decide +kernel
theorem dX12_past_227 : decode cX12_past 227 = .ok (.bipush (-2), 2) := by decide +kernel
theorem dX12_past_229 : decode cX12_past 229 = .ok (.ireturn, 1) := by decide +kernel
theorem dX12_alone_0 : decode cX12_alone 0 = .ok (.aload_n 0, 1) := by decide +kernel
theorem dX12_alone_1 : decode cX12_alone 1 = .ok (.iload_n 1, 1) := by decide +kernel
theorem dX12_alone_2 : decode cX12_alone 2 = .ok (.invokevirtual 378, 3) := by decide +kernel
theorem dX12_alone_5 : decode cX12_alone 5 = .ok (.ifCond .eq 11, 3) := by decide +kernel
theorem dX12_alone_8 : decode cX12_alone 8 = .ok (.aload_n 0, 1) := by decide +kernel
theorem dX12_alone_9 : decode cX12_alone 9 = .ok (.iload_n 2, 1) := by decide +kernel
theorem dX12_alone_10 : decode cX12_alone 10 = .ok (.invokevirtual 306, 3) := by decide +kernel
theorem dX12_alone_13 : decode cX12_alone 13 = .ok (.ifCond .ne 5, 3) := by decide +kernel
theorem dX12_alone_16 : decode cX12_alone 16 = .ok (.iconst (-1), 1) := by decide +kernel
theorem dX12_alone_17 : decode cX12_alone 17 = .ok (.ireturn, 1) := by decide +kernel
theorem dX12_alone_18 : decode cX12_alone 18 = .ok (.aload_n 0, 1) := by decide +kernel
theorem dX12_alone_19 : decode cX12_alone 19 = .ok (.invokevirtual 381, 3) := by decide +kernel
theorem dX12_alone_22 : decode cX12_alone 22 = .ok (.aload_n 0, 1) := by decide +kernel
theorem dX12_alone_23 : decode cX12_alone 23 = .ok (.iload_n 1, 1) := by decide +kernel
theorem dX12_alone_24 : decode cX12_alone 24 = .ok (.iload_n 2, 1) := by decide +kernel
theorem dX12_alone_25 : decode cX12_alone 25 = .ok (.invokevirtual 427, 3) := by decide +kernel
theorem dX12_alone_28 : decode cX12_alone 28 = .ok (.ireturn, 1) := by decide +kernel
theorem dX12_reach_0 : decode cX12_reach 0 = .ok (.aload_n 0, 1) := by decide +kernel
theorem dX12_reach_1 : decode cX12_reach 1 = .ok (.iload_n 1, 1) := by decide +kernel
theorem dX12_reach_2 : decode cX12_reach 2 = .ok (.invokevirtual 378, 3) := by decide +kernel
theorem dX12_reach_5 : decode cX12_reach 5 = .ok (.ifCond .ne 5, 3) := by decide +kernel
theorem dX12_reach_8 : decode cX12_reach 8 = .ok (.iconst (-1), 1) := by decide +kernel
theorem dX12_reach_9 : decode cX12_reach 9 = .ok (.ireturn, 1) := by decide +kernel
theorem dX12_reach_10 : decode cX12_reach 10 = .ok (.aload_n 0, 1) := by decide +kernel
theorem dX12_reach_11 : decode cX12_reach 11 = .ok (.invokevirtual 381, 3) := by decide +kernel
theorem dX12_reach_14 : decode cX12_reach 14 = .ok (.iconst 0, 1) := by decide +kernel
theorem dX12_reach_15 : decode cX12_reach 15 = .ok (.istore_n 2, 1) := by decide +kernel
theorem dX12_reach_16 : decode cX12_reach 16 = .ok (.iconst 0, 1) := by decide +kernel
theorem dX12_reach_17 : decode cX12_reach 17 = .ok (.istore_n 3, 1) := by decide +kernel
theorem dX12_reach_18 : decode cX12_reach 18 = .ok (.iload_n 3, 1) := by decide +kernel
theorem dX12_reach_19 : decode cX12_reach 19 = .ok (.aload_n 0, 1) := by decide +kernel
theorem dX12_reach_20 : decode cX12_reach 20 = .ok (.getfield 43, 3) := by decide +kernel
theorem dX12_reach_23 : decode cX12_reach 23 = .ok (.aload_n 0, 1) := by decide +kernel
theorem dX12_reach_24 : decode cX12_reach 24 = .ok (.getfield 221, 3) := by decide +kernel
theorem dX12_reach_27 : decode cX12_reach 27 = .ok (.iaload, 1) := by decide +kernel
theorem dX12_reach_28 : decode cX12_reach 28 = .ok (.if_icmp .ge 24, 3) := by decide +kernel
theorem dX12_reach_31 : decode cX12_reach 31 = .ok (.aload_n 0, 1) := by decide +kernel
theorem dX12_reach_32 : decode cX12_reach 32 = .ok (.iload_n 1, 1) := by decide +kernel
theorem dX12_reach_33 : decode cX12_reach 33 = .ok (.iload_n 3, 1) := by decide +kernel
theorem dX12_reach_34 : decode cX12_reach 34 = .ok (.invokevirtual 427, 3) := by decide +kernel
theorem dX12_reach_37 : decode cX12_reach 37 = .ok (.ifCond .lt 9, 3) := by decide +kernel
theorem dX12_reach_40 : decode cX12_reach 40 = .ok (.iload_n 2, 1) := by decide +kernel
theorem dX12_reach_41 : decode cX12_reach 41 = .ok (.iconst 1, 1) := by decide +kernel
theorem dX12_reach_42 : decode cX12_reach 42 = .ok (.iload_n 3, 1) := by decide +kernel
theorem dX12_reach_43 : decode cX12_reach 43 = .ok (.ishl, 1) := by decide +kernel
theorem dX12_reach_44 : decode cX12_reach 44 = .ok (.ior, 1) := by decide +kernel
theorem dX12_reach_45 : decode cX12_reach 45 = .ok (.istore_n 2, 1) := by decide +kernel
theorem dX12_reach_46 : decode cX12_reach 46 = .ok (.iinc 3 1, 3) := by decide +kernel
theorem dX12_reach_49 : decode cX12_reach 49 = .ok (.goto (-31), 3) := by decide +kernel
theorem dX12_reach_52 : decode cX12_reach 52 = .ok (.iload_n 2, 1) := by decide +kernel
theorem dX12_reach_53 : decode cX12_reach 53 = .ok (.ireturn, 1) := by decide +kernel
theorem dX12_above_0 : decode cX12_above 0 = .ok (.aload_n 0, 1) := by decide +kernel
theorem dX12_above_1 : decode cX12_above 1 = .ok (.iload_n 1, 1) := by decide +kernel
theorem dX12_above_2 : decode cX12_above 2 = .ok (.invokevirtual 378, 3) := by decide +kernel
theorem dX12_above_5 : decode cX12_above 5 = .ok (.ifCond .ne 5, 3) := by decide +kernel
theorem dX12_above_8 : decode cX12_above 8 = .ok (.iconst (-1), 1) := by decide +kernel
theorem dX12_above_9 : decode cX12_above 9 = .ok (.ireturn, 1) := by decide +kernel
theorem dX12_above_10 : decode cX12_above 10 = .ok (.iconst 0, 1) := by decide +kernel
theorem dX12_above_11 : decode cX12_above 11 = .ok (.istore_n 2, 1) := by decide +kernel
theorem dX12_above_12 : decode cX12_above 12 = .ok (.iconst 0, 1) := by decide +kernel
theorem dX12_above_13 : decode cX12_above 13 = .ok (.istore_n 3, 1) := by decide +kernel
theorem dX12_above_14 : decode cX12_above 14 = .ok (.iload_n 3, 1) := by decide +kernel
theorem dX12_above_15 : decode cX12_above 15 = .ok (.aload_n 0, 1) := by decide +kernel
theorem dX12_above_16 : decode cX12_above 16 = .ok (.getfield 46, 3) := by decide +kernel
theorem dX12_above_19 : decode cX12_above 19 = .ok (.aload_n 0, 1) := by decide +kernel
theorem dX12_above_20 : decode cX12_above 20 = .ok (.getfield 221, 3) := by decide +kernel
theorem dX12_above_23 : decode cX12_above 23 = .ok (.iaload, 1) := by decide +kernel
theorem dX12_above_24 : decode cX12_above 24 = .ok (.if_icmp .ge 30, 3) := by decide +kernel
theorem dX12_above_27 : decode cX12_above 27 = .ok (.aload_n 0, 1) := by decide +kernel
theorem dX12_above_28 : decode cX12_above 28 = .ok (.getfield 101, 3) := by decide +kernel
theorem dX12_above_31 : decode cX12_above 31 = .ok (.iload_n 3, 1) := by decide +kernel
theorem dX12_above_32 : decode cX12_above 32 = .ok (.iaload, 1) := by decide +kernel
theorem dX12_above_33 : decode cX12_above 33 = .ok (.aload_n 0, 1) := by decide +kernel
theorem dX12_above_34 : decode cX12_above 34 = .ok (.getfield 101, 3) := by decide +kernel
theorem dX12_above_37 : decode cX12_above 37 = .ok (.iload_n 1, 1) := by decide +kernel
theorem dX12_above_38 : decode cX12_above 38 = .ok (.iaload, 1) := by decide +kernel
theorem dX12_above_39 : decode cX12_above 39 = .ok (.if_icmp .ge 9, 3) := by decide +kernel
theorem dX12_above_42 : decode cX12_above 42 = .ok (.iload_n 2, 1) := by decide +kernel
theorem dX12_above_43 : decode cX12_above 43 = .ok (.iconst 1, 1) := by decide +kernel
theorem dX12_above_44 : decode cX12_above 44 = .ok (.iload_n 3, 1) := by decide +kernel
theorem dX12_above_45 : decode cX12_above 45 = .ok (.ishl, 1) := by decide +kernel
theorem dX12_above_46 : decode cX12_above 46 = .ok (.ior, 1) := by decide +kernel
theorem dX12_above_47 : decode cX12_above 47 = .ok (.istore_n 2, 1) := by decide +kernel
theorem dX12_above_48 : decode cX12_above 48 = .ok (.iinc 3 1, 3) := by decide +kernel
theorem dX12_above_51 : decode cX12_above 51 = .ok (.goto (-37), 3) := by decide +kernel
theorem dX12_above_54 : decode cX12_above 54 = .ok (.iload_n 2, 1) := by decide +kernel
theorem dX12_above_55 : decode cX12_above 55 = .ok (.ireturn, 1) := by decide +kernel
theorem dX12_driest_0 : decode cX12_driest 0 = .ok (.iload_n 1, 1) := by decide +kernel
theorem dX12_driest_1 : decode cX12_driest 1 = .ok (.iconst 0, 1) := by decide +kernel
theorem dX12_driest_2 : decode cX12_driest 2 = .ok (.iconst 1, 1) := by decide +kernel
theorem dX12_driest_3 : decode cX12_driest 3 = .ok (.invokestatic 292, 3) := by decide +kernel
theorem dX12_driest_6 : decode cX12_driest 6 = .ok (.ifCond .ne 5, 3) := by decide +kernel
theorem dX12_driest_9 : decode cX12_driest 9 = .ok (.iconst (-1), 1) := by decide +kernel
theorem dX12_driest_10 : decode cX12_driest 10 = .ok (.ireturn, 1) := by decide +kernel
theorem dX12_driest_11 : decode cX12_driest 11 = .ok (.bipush (-2), 2) := by decide +kernel
theorem dX12_driest_13 : decode cX12_driest 13 = .ok (.istore_n 2, 1) := by decide +kernel
theorem dX12_driest_14 : decode cX12_driest 14 = .ok (.iconst 0, 1) := by decide +kernel
theorem dX12_driest_15 : decode cX12_driest 15 = .ok (.istore_n 3, 1) := by decide +kernel
theorem dX12_driest_16 : decode cX12_driest 16 = .ok (.iload_n 3, 1) := by decide +kernel
theorem dX12_driest_17 : decode cX12_driest 17 = .ok (.aload_n 0, 1) := by decide +kernel
theorem dX12_driest_18 : decode cX12_driest 18 = .ok (.getfield 46, 3) := by decide +kernel
theorem dX12_driest_21 : decode cX12_driest 21 = .ok (.aload_n 0, 1) := by decide +kernel
theorem dX12_driest_22 : decode cX12_driest 22 = .ok (.getfield 221, 3) := by decide +kernel
theorem dX12_driest_25 : decode cX12_driest 25 = .ok (.iaload, 1) := by decide +kernel
theorem dX12_driest_26 : decode cX12_driest 26 = .ok (.if_icmp .ge 36, 3) := by decide +kernel
theorem dX12_driest_29 : decode cX12_driest 29 = .ok (.iload_n 2, 1) := by decide +kernel
theorem dX12_driest_30 : decode cX12_driest 30 = .ok (.ifCond .lt 24, 3) := by decide +kernel
theorem dX12_driest_33 : decode cX12_driest 33 = .ok (.aload_n 0, 1) := by decide +kernel
theorem dX12_driest_34 : decode cX12_driest 34 = .ok (.getfield 101, 3) := by decide +kernel
theorem dX12_driest_37 : decode cX12_driest 37 = .ok (.bipush 15, 2) := by decide +kernel
theorem dX12_driest_39 : decode cX12_driest 39 = .ok (.iload_n 3, 1) := by decide +kernel
theorem dX12_driest_40 : decode cX12_driest 40 = .ok (.iadd, 1) := by decide +kernel
theorem dX12_driest_41 : decode cX12_driest 41 = .ok (.iaload, 1) := by decide +kernel
theorem dX12_driest_42 : decode cX12_driest 42 = .ok (.aload_n 0, 1) := by decide +kernel
theorem dX12_driest_43 : decode cX12_driest 43 = .ok (.getfield 101, 3) := by decide +kernel
theorem dX12_driest_46 : decode cX12_driest 46 = .ok (.bipush 15, 2) := by decide +kernel
theorem dX12_driest_48 : decode cX12_driest 48 = .ok (.iload_n 2, 1) := by decide +kernel
theorem dX12_driest_49 : decode cX12_driest 49 = .ok (.iadd, 1) := by decide +kernel
theorem dX12_driest_50 : decode cX12_driest 50 = .ok (.iaload, 1) := by decide +kernel
theorem dX12_driest_51 : decode cX12_driest 51 = .ok (.if_icmp .ge 5, 3) := by decide +kernel
theorem dX12_driest_54 : decode cX12_driest 54 = .ok (.iload_n 3, 1) := by decide +kernel
theorem dX12_driest_55 : decode cX12_driest 55 = .ok (.istore_n 2, 1) := by decide +kernel
theorem dX12_driest_56 : decode cX12_driest 56 = .ok (.iinc 3 1, 3) := by decide +kernel
theorem dX12_driest_59 : decode cX12_driest 59 = .ok (.goto (-43), 3) := by decide +kernel
theorem dX12_driest_62 : decode cX12_driest 62 = .ok (.iload_n 2, 1) := by decide +kernel
theorem dX12_driest_63 : decode cX12_driest 63 = .ok (.ifCond .lt 7, 3) := by decide +kernel
theorem dX12_driest_66 : decode cX12_driest 66 = .ok (.iload_n 1, 1) := by decide +kernel
theorem dX12_driest_67 : decode cX12_driest 67 = .ok (.ifCond .ne 7, 3) := by decide +kernel
theorem dX12_driest_70 : decode cX12_driest 70 = .ok (.iload_n 2, 1) := by decide +kernel
theorem dX12_driest_71 : decode cX12_driest 71 = .ok (.goto 12, 3) := by decide +kernel
theorem dX12_driest_74 : decode cX12_driest 74 = .ok (.aload_n 0, 1) := by decide +kernel
theorem dX12_driest_75 : decode cX12_driest 75 = .ok (.getfield 101, 3) := by decide +kernel
theorem dX12_driest_78 : decode cX12_driest 78 = .ok (.bipush 15, 2) := by decide +kernel
theorem dX12_driest_80 : decode cX12_driest 80 = .ok (.iload_n 2, 1) := by decide +kernel
theorem dX12_driest_81 : decode cX12_driest 81 = .ok (.iadd, 1) := by decide +kernel
theorem dX12_driest_82 : decode cX12_driest 82 = .ok (.iaload, 1) := by decide +kernel
theorem dX12_driest_83 : decode cX12_driest 83 = .ok (.ireturn, 1) := by decide +kernel
theorem dX12_isWidth_0 : decode cX12_isWidth 0 = .ok (.iload_n 0, 1) := by decide +kernel
theorem dX12_isWidth_1 : decode cX12_isWidth 1 = .ok (.iconst 1, 1) := by decide +kernel
theorem dX12_isWidth_2 : decode cX12_isWidth 2 = .ok (.bipush 9, 2) := by decide +kernel
theorem dX12_isWidth_4 : decode cX12_isWidth 4 = .ok (.invokestatic 292, 3) := by decide +kernel
theorem dX12_isWidth_7 : decode cX12_isWidth 7 = .ok (.ireturn, 1) := by decide +kernel
theorem dX12_partsOf_0 : decode cX12_partsOf 0 = .ok (.iconst 0, 1) := by decide +kernel
theorem dX12_partsOf_1 : decode cX12_partsOf 1 = .ok (.istore_n 3, 1) := by decide +kernel
theorem dX12_partsOf_2 : decode cX12_partsOf 2 = .ok (.iconst 0, 1) := by decide +kernel
theorem dX12_partsOf_3 : decode cX12_partsOf 3 = .ok (.istore 4, 2) := by decide +kernel
theorem dX12_partsOf_5 : decode cX12_partsOf 5 = .ok (.iload 4, 2) := by decide +kernel
theorem dX12_partsOf_7 : decode cX12_partsOf 7 = .ok (.aload_n 0, 1) := by decide +kernel
theorem dX12_partsOf_8 : decode cX12_partsOf 8 = .ok (.getfield 46, 3) := by decide +kernel
theorem dX12_partsOf_11 : decode cX12_partsOf 11 = .ok (.aload_n 0, 1) := by decide +kernel
theorem dX12_partsOf_12 : decode cX12_partsOf 12 = .ok (.getfield 221, 3) := by decide +kernel
theorem dX12_partsOf_15 : decode cX12_partsOf 15 = .ok (.iaload, 1) := by decide +kernel
theorem dX12_partsOf_16 : decode cX12_partsOf 16 = .ok (.if_icmp .ge 118, 3) := by decide +kernel
theorem dX12_partsOf_19 : decode cX12_partsOf 19 = .ok (.iconst 0, 1) := by decide +kernel
theorem dX12_partsOf_20 : decode cX12_partsOf 20 = .ok (.istore 5, 2) := by decide +kernel
theorem dX12_partsOf_22 : decode cX12_partsOf 22 = .ok (.iload 5, 2) := by decide +kernel
theorem dX12_partsOf_24 : decode cX12_partsOf 24 = .ok (.aload_n 0, 1) := by decide +kernel
theorem dX12_partsOf_25 : decode cX12_partsOf 25 = .ok (.getfield 46, 3) := by decide +kernel
theorem dX12_partsOf_28 : decode cX12_partsOf 28 = .ok (.aload_n 0, 1) := by decide +kernel
theorem dX12_partsOf_29 : decode cX12_partsOf 29 = .ok (.getfield 221, 3) := by decide +kernel
theorem dX12_partsOf_32 : decode cX12_partsOf 32 = .ok (.iaload, 1) := by decide +kernel
theorem dX12_partsOf_33 : decode cX12_partsOf 33 = .ok (.if_icmp .ge 95, 3) := by decide +kernel
theorem dX12_partsOf_36 : decode cX12_partsOf 36 = .ok (.aload_n 0, 1) := by decide +kernel
theorem dX12_partsOf_37 : decode cX12_partsOf 37 = .ok (.getfield 104, 3) := by decide +kernel
theorem dX12_partsOf_40 : decode cX12_partsOf 40 = .ok (.iload 4, 2) := by decide +kernel
theorem dX12_partsOf_42 : decode cX12_partsOf 42 = .ok (.iaload, 1) := by decide +kernel
theorem dX12_partsOf_43 : decode cX12_partsOf 43 = .ok (.iload_n 2, 1) := by decide +kernel
theorem dX12_partsOf_44 : decode cX12_partsOf 44 = .ok (.if_icmp .ge 78, 3) := by decide +kernel
theorem dX12_partsOf_47 : decode cX12_partsOf 47 = .ok (.aload_n 0, 1) := by decide +kernel
theorem dX12_partsOf_48 : decode cX12_partsOf 48 = .ok (.getfield 104, 3) := by decide +kernel
theorem dX12_partsOf_51 : decode cX12_partsOf 51 = .ok (.iload 5, 2) := by decide +kernel
theorem dX12_partsOf_53 : decode cX12_partsOf 53 = .ok (.iaload, 1) := by decide +kernel
theorem dX12_partsOf_54 : decode cX12_partsOf 54 = .ok (.iload_n 2, 1) := by decide +kernel
theorem dX12_partsOf_55 : decode cX12_partsOf 55 = .ok (.if_icmp .gt 6, 3) := by decide +kernel
theorem dX12_partsOf_58 : decode cX12_partsOf 58 = .ok (.goto 64, 3) := by decide +kernel
theorem dX12_partsOf_61 : decode cX12_partsOf 61 = .ok (.aload_n 0, 1) := by decide +kernel
theorem dX12_partsOf_62 : decode cX12_partsOf 62 = .ok (.iload 4, 2) := by decide +kernel
theorem dX12_partsOf_64 : decode cX12_partsOf 64 = .ok (.invokevirtual 309, 3) := by decide +kernel
theorem dX12_partsOf_67 : decode cX12_partsOf 67 = .ok (.aload_n 0, 1) := by decide +kernel
theorem dX12_partsOf_68 : decode cX12_partsOf 68 = .ok (.iload 5, 2) := by decide +kernel
theorem dX12_partsOf_70 : decode cX12_partsOf 70 = .ok (.invokevirtual 309, 3) := by decide +kernel
theorem dX12_partsOf_73 : decode cX12_partsOf 73 = .ok (.if_icmp .le 12, 3) := by decide +kernel
theorem dX12_partsOf_76 : decode cX12_partsOf 76 = .ok (.aload_n 0, 1) := by decide +kernel
theorem dX12_partsOf_77 : decode cX12_partsOf 77 = .ok (.iload 4, 2) := by decide +kernel
theorem dX12_partsOf_79 : decode cX12_partsOf 79 = .ok (.invokevirtual 309, 3) := by decide +kernel
theorem dX12_partsOf_82 : decode cX12_partsOf 82 = .ok (.goto 9, 3) := by decide +kernel
theorem dX12_partsOf_85 : decode cX12_partsOf 85 = .ok (.aload_n 0, 1) := by decide +kernel
theorem dX12_partsOf_86 : decode cX12_partsOf 86 = .ok (.iload 5, 2) := by decide +kernel
theorem dX12_partsOf_88 : decode cX12_partsOf 88 = .ok (.invokevirtual 309, 3) := by decide +kernel
theorem dX12_partsOf_91 : decode cX12_partsOf 91 = .ok (.istore 6, 2) := by decide +kernel
theorem dX12_partsOf_93 : decode cX12_partsOf 93 = .ok (.aload_n 0, 1) := by decide +kernel
theorem dX12_partsOf_94 : decode cX12_partsOf 94 = .ok (.iload_n 2, 1) := by decide +kernel
theorem dX12_partsOf_95 : decode cX12_partsOf 95 = .ok (.invokevirtual 336, 3) := by decide +kernel
theorem dX12_partsOf_98 : decode cX12_partsOf 98 = .ok (.ifCond .eq 21, 3) := by decide +kernel
theorem dX12_partsOf_101 : decode cX12_partsOf 101 = .ok (.aload_n 0, 1) := by decide +kernel
theorem dX12_partsOf_102 : decode cX12_partsOf 102 = .ok (.iload_n 2, 1) := by decide +kernel
theorem dX12_partsOf_103 : decode cX12_partsOf 103 = .ok (.invokevirtual 333, 3) := by decide +kernel
theorem dX12_partsOf_106 : decode cX12_partsOf 106 = .ok (.iload_n 1, 1) := by decide +kernel
theorem dX12_partsOf_107 : decode cX12_partsOf 107 = .ok (.iadd, 1) := by decide +kernel
theorem dX12_partsOf_108 : decode cX12_partsOf 108 = .ok (.iload 6, 2) := by decide +kernel
theorem dX12_partsOf_110 : decode cX12_partsOf 110 = .ok (.iadd, 1) := by decide +kernel
theorem dX12_partsOf_111 : decode cX12_partsOf 111 = .ok (.aload_n 0, 1) := by decide +kernel
theorem dX12_partsOf_112 : decode cX12_partsOf 112 = .ok (.iload_n 2, 1) := by decide +kernel
theorem dX12_partsOf_113 : decode cX12_partsOf 113 = .ok (.invokevirtual 339, 3) := by decide +kernel
theorem dX12_partsOf_116 : decode cX12_partsOf 116 = .ok (.if_icmp .le 6, 3) := by decide +kernel
theorem dX12_partsOf_119 : decode cX12_partsOf 119 = .ok (.iinc 3 1, 3) := by decide +kernel
theorem dX12_partsOf_122 : decode cX12_partsOf 122 = .ok (.iinc 5 1, 3) := by decide +kernel
theorem dX12_partsOf_125 : decode cX12_partsOf 125 = .ok (.goto (-103), 3) := by decide +kernel
theorem dX12_partsOf_128 : decode cX12_partsOf 128 = .ok (.iinc 4 1, 3) := by decide +kernel
theorem dX12_partsOf_131 : decode cX12_partsOf 131 = .ok (.goto (-126), 3) := by decide +kernel
theorem dX12_partsOf_134 : decode cX12_partsOf 134 = .ok (.iload_n 3, 1) := by decide +kernel
theorem dX12_partsOf_135 : decode cX12_partsOf 135 = .ok (.ireturn, 1) := by decide +kernel
theorem dX12_parts_0 : decode cX12_parts 0 = .ok (.iload_n 1, 1) := by decide +kernel
theorem dX12_parts_1 : decode cX12_parts 1 = .ok (.invokestatic 430, 3) := by decide +kernel
theorem dX12_parts_4 : decode cX12_parts 4 = .ok (.ifCond .eq 11, 3) := by decide +kernel
theorem dX12_parts_7 : decode cX12_parts 7 = .ok (.aload_n 0, 1) := by decide +kernel
theorem dX12_parts_8 : decode cX12_parts 8 = .ok (.iload_n 2, 1) := by decide +kernel
theorem dX12_parts_9 : decode cX12_parts 9 = .ok (.invokevirtual 306, 3) := by decide +kernel
theorem dX12_parts_12 : decode cX12_parts 12 = .ok (.ifCond .ne 5, 3) := by decide +kernel
theorem dX12_parts_15 : decode cX12_parts 15 = .ok (.iconst (-1), 1) := by decide +kernel
theorem dX12_parts_16 : decode cX12_parts 16 = .ok (.ireturn, 1) := by decide +kernel
theorem dX12_parts_17 : decode cX12_parts 17 = .ok (.aload_n 0, 1) := by decide +kernel
theorem dX12_parts_18 : decode cX12_parts 18 = .ok (.invokevirtual 381, 3) := by decide +kernel
theorem dX12_parts_21 : decode cX12_parts 21 = .ok (.aload_n 0, 1) := by decide +kernel
theorem dX12_parts_22 : decode cX12_parts 22 = .ok (.iload_n 1, 1) := by decide +kernel
theorem dX12_parts_23 : decode cX12_parts 23 = .ok (.iload_n 2, 1) := by decide +kernel
theorem dX12_parts_24 : decode cX12_parts 24 = .ok (.invokevirtual 433, 3) := by decide +kernel
theorem dX12_parts_27 : decode cX12_parts 27 = .ok (.ireturn, 1) := by decide +kernel
theorem dX12_least_0 : decode cX12_least 0 = .ok (.iload_n 1, 1) := by decide +kernel
theorem dX12_least_1 : decode cX12_least 1 = .ok (.invokestatic 430, 3) := by decide +kernel
theorem dX12_least_4 : decode cX12_least 4 = .ok (.ifCond .eq 12, 3) := by decide +kernel
theorem dX12_least_7 : decode cX12_least 7 = .ok (.iload_n 2, 1) := by decide +kernel
theorem dX12_least_8 : decode cX12_least 8 = .ok (.iconst 0, 1) := by decide +kernel
theorem dX12_least_9 : decode cX12_least 9 = .ok (.iconst 1, 1) := by decide +kernel
theorem dX12_least_10 : decode cX12_least 10 = .ok (.invokestatic 292, 3) := by decide +kernel
theorem dX12_least_13 : decode cX12_least 13 = .ok (.ifCond .ne 5, 3) := by decide +kernel
theorem dX12_least_16 : decode cX12_least 16 = .ok (.iconst (-1), 1) := by decide +kernel
theorem dX12_least_17 : decode cX12_least 17 = .ok (.ireturn, 1) := by decide +kernel
theorem dX12_least_18 : decode cX12_least 18 = .ok (.aload_n 0, 1) := by decide +kernel
theorem dX12_least_19 : decode cX12_least 19 = .ok (.invokevirtual 381, 3) := by decide +kernel
theorem dX12_least_22 : decode cX12_least 22 = .ok (.bipush (-2), 2) := by decide +kernel
theorem dX12_least_24 : decode cX12_least 24 = .ok (.istore_n 3, 1) := by decide +kernel
theorem dX12_least_25 : decode cX12_least 25 = .ok (.bipush (-2), 2) := by decide +kernel
theorem dX12_least_27 : decode cX12_least 27 = .ok (.istore 4, 2) := by decide +kernel
theorem dX12_least_29 : decode cX12_least 29 = .ok (.iconst 0, 1) := by decide +kernel
theorem dX12_least_30 : decode cX12_least 30 = .ok (.istore 5, 2) := by decide +kernel
theorem dX12_least_32 : decode cX12_least 32 = .ok (.iload 5, 2) := by decide +kernel
theorem dX12_least_34 : decode cX12_least 34 = .ok (.aload_n 0, 1) := by decide +kernel
theorem dX12_least_35 : decode cX12_least 35 = .ok (.getfield 43, 3) := by decide +kernel
theorem dX12_least_38 : decode cX12_least 38 = .ok (.aload_n 0, 1) := by decide +kernel
theorem dX12_least_39 : decode cX12_least 39 = .ok (.getfield 221, 3) := by decide +kernel
theorem dX12_least_42 : decode cX12_least 42 = .ok (.iaload, 1) := by decide +kernel
theorem dX12_least_43 : decode cX12_least 43 = .ok (.if_icmp .ge 53, 3) := by decide +kernel
theorem dX12_least_46 : decode cX12_least 46 = .ok (.aload_n 0, 1) := by decide +kernel
theorem dX12_least_47 : decode cX12_least 47 = .ok (.iload 5, 2) := by decide +kernel
theorem dX12_least_49 : decode cX12_least 49 = .ok (.iload_n 1, 1) := by decide +kernel
theorem dX12_least_50 : decode cX12_least 50 = .ok (.iconst 0, 1) := by decide +kernel
theorem dX12_least_51 : decode cX12_least 51 = .ok (.invokevirtual 342, 3) := by decide +kernel
theorem dX12_least_54 : decode cX12_least 54 = .ok (.ifCond .ne 6, 3) := by decide +kernel
theorem dX12_least_57 : decode cX12_least 57 = .ok (.goto 33, 3) := by decide +kernel
theorem dX12_least_60 : decode cX12_least 60 = .ok (.aload_n 0, 1) := by decide +kernel
theorem dX12_least_61 : decode cX12_least 61 = .ok (.iload_n 1, 1) := by decide +kernel
theorem dX12_least_62 : decode cX12_least 62 = .ok (.iload 5, 2) := by decide +kernel
theorem dX12_least_64 : decode cX12_least 64 = .ok (.invokevirtual 433, 3) := by decide +kernel
theorem dX12_least_67 : decode cX12_least 67 = .ok (.istore 6, 2) := by decide +kernel
theorem dX12_least_69 : decode cX12_least 69 = .ok (.iload_n 3, 1) := by decide +kernel
theorem dX12_least_70 : decode cX12_least 70 = .ok (.ifCond .lt 13, 3) := by decide +kernel
theorem dX12_least_73 : decode cX12_least 73 = .ok (.iload 6, 2) := by decide +kernel
theorem dX12_least_75 : decode cX12_least 75 = .ok (.iload 4, 2) := by decide +kernel
theorem dX12_least_77 : decode cX12_least 77 = .ok (.if_icmp .lt 6, 3) := by decide +kernel
theorem dX12_least_80 : decode cX12_least 80 = .ok (.goto 10, 3) := by decide +kernel
theorem dX12_least_83 : decode cX12_least 83 = .ok (.iload 5, 2) := by decide +kernel
theorem dX12_least_85 : decode cX12_least 85 = .ok (.istore_n 3, 1) := by decide +kernel
theorem dX12_least_86 : decode cX12_least 86 = .ok (.iload 6, 2) := by decide +kernel
theorem dX12_least_88 : decode cX12_least 88 = .ok (.istore 4, 2) := by decide +kernel
theorem dX12_least_90 : decode cX12_least 90 = .ok (.iinc 5 1, 3) := by decide +kernel
theorem dX12_least_93 : decode cX12_least 93 = .ok (.goto (-61), 3) := by decide +kernel
theorem dX12_least_96 : decode cX12_least 96 = .ok (.iload_n 2, 1) := by decide +kernel
theorem dX12_least_97 : decode cX12_least 97 = .ok (.ifCond .ne 7, 3) := by decide +kernel
theorem dX12_least_100 : decode cX12_least 100 = .ok (.iload_n 3, 1) := by decide +kernel
theorem dX12_least_101 : decode cX12_least 101 = .ok (.goto 5, 3) := by decide +kernel
theorem dX12_least_104 : decode cX12_least 104 = .ok (.iload 4, 2) := by decide +kernel
theorem dX12_least_106 : decode cX12_least 106 = .ok (.ireturn, 1) := by decide +kernel
theorem dX12_findsHomes_0 : decode cX12_findsHomes 0 = .ok (.iconst 0, 1) := by decide +kernel
theorem dX12_findsHomes_1 : decode cX12_findsHomes 1 = .ok (.istore_n 2, 1) := by decide +kernel
theorem dX12_findsHomes_2 : decode cX12_findsHomes 2 = .ok (.aload_n 0, 1) := by decide +kernel
theorem dX12_findsHomes_3 : decode cX12_findsHomes 3 = .ok (.getfield 119, 3) := by decide +kernel
theorem dX12_findsHomes_6 : decode cX12_findsHomes 6 = .ok (.iconst 0, 1) := by decide +kernel
theorem dX12_findsHomes_7 : decode cX12_findsHomes 7 = .ok (.iconst (-1), 1) := by decide +kernel
theorem dX12_findsHomes_8 : decode cX12_findsHomes 8 = .ok (.iastore, 1) := by decide +kernel
theorem dX12_findsHomes_9 : decode cX12_findsHomes 9 = .ok (.iload_n 2, 1) := by decide +kernel
theorem dX12_findsHomes_10 : decode cX12_findsHomes 10 = .ok (.ifCond .lt 122, 3) := by decide +kernel
theorem dX12_findsHomes_13 : decode cX12_findsHomes 13 = .ok (.iload_n 2, 1) := by decide +kernel
theorem dX12_findsHomes_14 : decode cX12_findsHomes 14 = .ok (.aload_n 0, 1) := by decide +kernel
theorem dX12_findsHomes_15 : decode cX12_findsHomes 15 = .ok (.getfield 46, 3) := by decide +kernel
theorem dX12_findsHomes_18 : decode cX12_findsHomes 18 = .ok (.aload_n 0, 1) := by decide +kernel
theorem dX12_findsHomes_19 : decode cX12_findsHomes 19 = .ok (.getfield 221, 3) := by decide +kernel
theorem dX12_findsHomes_22 : decode cX12_findsHomes 22 = .ok (.iaload, 1) := by decide +kernel
theorem dX12_findsHomes_23 : decode cX12_findsHomes 23 = .ok (.if_icmp .ge 109, 3) := by decide +kernel
theorem dX12_findsHomes_26 : decode cX12_findsHomes 26 = .ok (.aload_n 0, 1) := by decide +kernel
theorem dX12_findsHomes_27 : decode cX12_findsHomes 27 = .ok (.getfield 119, 3) := by decide +kernel
theorem dX12_findsHomes_30 : decode cX12_findsHomes 30 = .ok (.iload_n 2, 1) := by decide +kernel
theorem dX12_findsHomes_31 : decode cX12_findsHomes 31 = .ok (.dup2, 1) := by decide +kernel
theorem dX12_findsHomes_32 : decode cX12_findsHomes 32 = .ok (.iaload, 1) := by decide +kernel
theorem dX12_findsHomes_33 : decode cX12_findsHomes 33 = .ok (.iconst 1, 1) := by decide +kernel
theorem dX12_findsHomes_34 : decode cX12_findsHomes 34 = .ok (.iadd, 1) := by decide +kernel
theorem dX12_findsHomes_35 : decode cX12_findsHomes 35 = .ok (.iastore, 1) := by decide +kernel
theorem dX12_findsHomes_36 : decode cX12_findsHomes 36 = .ok (.aload_n 0, 1) := by decide +kernel
theorem dX12_findsHomes_37 : decode cX12_findsHomes 37 = .ok (.getfield 119, 3) := by decide +kernel
theorem dX12_findsHomes_40 : decode cX12_findsHomes 40 = .ok (.iload_n 2, 1) := by decide +kernel
theorem dX12_findsHomes_41 : decode cX12_findsHomes 41 = .ok (.iaload, 1) := by decide +kernel
theorem dX12_findsHomes_42 : decode cX12_findsHomes 42 = .ok (.aload_n 0, 1) := by decide +kernel
theorem dX12_findsHomes_43 : decode cX12_findsHomes 43 = .ok (.getfield 43, 3) := by decide +kernel
theorem dX12_findsHomes_46 : decode cX12_findsHomes 46 = .ok (.aload_n 0, 1) := by decide +kernel
theorem dX12_findsHomes_47 : decode cX12_findsHomes 47 = .ok (.getfield 221, 3) := by decide +kernel
theorem dX12_findsHomes_50 : decode cX12_findsHomes 50 = .ok (.iaload, 1) := by decide +kernel
theorem dX12_findsHomes_51 : decode cX12_findsHomes 51 = .ok (.if_icmp .ge 31, 3) := by decide +kernel
theorem dX12_findsHomes_54 : decode cX12_findsHomes 54 = .ok (.aload_n 0, 1) := by decide +kernel
theorem dX12_findsHomes_55 : decode cX12_findsHomes 55 = .ok (.iload_n 2, 1) := by decide +kernel
theorem dX12_findsHomes_56 : decode cX12_findsHomes 56 = .ok (.aload_n 0, 1) := by decide +kernel
theorem dX12_findsHomes_57 : decode cX12_findsHomes 57 = .ok (.getfield 119, 3) := by decide +kernel
theorem dX12_findsHomes_60 : decode cX12_findsHomes 60 = .ok (.iload_n 2, 1) := by decide +kernel
theorem dX12_findsHomes_61 : decode cX12_findsHomes 61 = .ok (.iaload, 1) := by decide +kernel
theorem dX12_findsHomes_62 : decode cX12_findsHomes 62 = .ok (.iload_n 1, 1) := by decide +kernel
theorem dX12_findsHomes_63 : decode cX12_findsHomes 63 = .ok (.invokevirtual 436, 3) := by decide +kernel
theorem dX12_findsHomes_66 : decode cX12_findsHomes 66 = .ok (.ifCond .ne 16, 3) := by decide +kernel
theorem dX12_findsHomes_69 : decode cX12_findsHomes 69 = .ok (.aload_n 0, 1) := by decide +kernel
theorem dX12_findsHomes_70 : decode cX12_findsHomes 70 = .ok (.getfield 119, 3) := by decide +kernel
theorem dX12_findsHomes_73 : decode cX12_findsHomes 73 = .ok (.iload_n 2, 1) := by decide +kernel
theorem dX12_findsHomes_74 : decode cX12_findsHomes 74 = .ok (.dup2, 1) := by decide +kernel
theorem dX12_findsHomes_75 : decode cX12_findsHomes 75 = .ok (.iaload, 1) := by decide +kernel
theorem dX12_findsHomes_76 : decode cX12_findsHomes 76 = .ok (.iconst 1, 1) := by decide +kernel
theorem dX12_findsHomes_77 : decode cX12_findsHomes 77 = .ok (.iadd, 1) := by decide +kernel
theorem dX12_findsHomes_78 : decode cX12_findsHomes 78 = .ok (.iastore, 1) := by decide +kernel
theorem dX12_findsHomes_79 : decode cX12_findsHomes 79 = .ok (.goto (-43), 3) := by decide +kernel
theorem dX12_findsHomes_82 : decode cX12_findsHomes 82 = .ok (.aload_n 0, 1) := by decide +kernel
theorem dX12_findsHomes_83 : decode cX12_findsHomes 83 = .ok (.getfield 119, 3) := by decide +kernel
theorem dX12_findsHomes_86 : decode cX12_findsHomes 86 = .ok (.iload_n 2, 1) := by decide +kernel
theorem dX12_findsHomes_87 : decode cX12_findsHomes 87 = .ok (.iaload, 1) := by decide +kernel
theorem dX12_findsHomes_88 : decode cX12_findsHomes 88 = .ok (.aload_n 0, 1) := by decide +kernel
theorem dX12_findsHomes_89 : decode cX12_findsHomes 89 = .ok (.getfield 43, 3) := by decide +kernel
theorem dX12_findsHomes_92 : decode cX12_findsHomes 92 = .ok (.aload_n 0, 1) := by decide +kernel
theorem dX12_findsHomes_93 : decode cX12_findsHomes 93 = .ok (.getfield 221, 3) := by decide +kernel
theorem dX12_findsHomes_96 : decode cX12_findsHomes 96 = .ok (.iaload, 1) := by decide +kernel
theorem dX12_findsHomes_97 : decode cX12_findsHomes 97 = .ok (.if_icmp .ne 9, 3) := by decide +kernel
theorem dX12_findsHomes_100 : decode cX12_findsHomes 100 = .ok (.iinc 2 (-1), 3) := by decide +kernel
theorem dX12_findsHomes_103 : decode cX12_findsHomes 103 = .ok (.goto (-94), 3) := by decide +kernel
theorem dX12_findsHomes_106 : decode cX12_findsHomes 106 = .ok (.iinc 2 1, 3) := by decide +kernel
theorem dX12_findsHomes_109 : decode cX12_findsHomes 109 = .ok (.iload_n 2, 1) := by decide +kernel
theorem dX12_findsHomes_110 : decode cX12_findsHomes 110 = .ok (.aload_n 0, 1) := by decide +kernel
theorem dX12_findsHomes_111 : decode cX12_findsHomes 111 = .ok (.getfield 46, 3) := by decide +kernel
theorem dX12_findsHomes_114 : decode cX12_findsHomes 114 = .ok (.aload_n 0, 1) := by decide +kernel
theorem dX12_findsHomes_115 : decode cX12_findsHomes 115 = .ok (.getfield 221, 3) := by decide +kernel
theorem dX12_findsHomes_118 : decode cX12_findsHomes 118 = .ok (.iaload, 1) := by decide +kernel
theorem dX12_findsHomes_119 : decode cX12_findsHomes 119 = .ok (.if_icmp .ge (-110), 3) := by decide +kernel
theorem dX12_findsHomes_122 : decode cX12_findsHomes 122 = .ok (.aload_n 0, 1) := by decide +kernel
theorem dX12_findsHomes_123 : decode cX12_findsHomes 123 = .ok (.getfield 119, 3) := by decide +kernel
theorem dX12_findsHomes_126 : decode cX12_findsHomes 126 = .ok (.iload_n 2, 1) := by decide +kernel
theorem dX12_findsHomes_127 : decode cX12_findsHomes 127 = .ok (.iconst (-1), 1) := by decide +kernel
theorem dX12_findsHomes_128 : decode cX12_findsHomes 128 = .ok (.iastore, 1) := by decide +kernel
theorem dX12_findsHomes_129 : decode cX12_findsHomes 129 = .ok (.goto (-120), 3) := by decide +kernel
theorem dX12_findsHomes_132 : decode cX12_findsHomes 132 = .ok (.iload_n 2, 1) := by decide +kernel
theorem dX12_findsHomes_133 : decode cX12_findsHomes 133 = .ok (.ifCond .lt 7, 3) := by decide +kernel
theorem dX12_findsHomes_136 : decode cX12_findsHomes 136 = .ok (.iconst 1, 1) := by decide +kernel
theorem dX12_findsHomes_137 : decode cX12_findsHomes 137 = .ok (.goto 4, 3) := by decide +kernel
theorem dX12_findsHomes_140 : decode cX12_findsHomes 140 = .ok (.iconst 0, 1) := by decide +kernel
theorem dX12_findsHomes_141 : decode cX12_findsHomes 141 = .ok (.ireturn, 1) := by decide +kernel
theorem dX12_homes_0 : decode cX12_homes 0 = .ok (.iload_n 1, 1) := by decide +kernel
theorem dX12_homes_1 : decode cX12_homes 1 = .ok (.iconst 0, 1) := by decide +kernel
theorem dX12_homes_2 : decode cX12_homes 2 = .ok (.bipush 11, 2) := by decide +kernel
theorem dX12_homes_4 : decode cX12_homes 4 = .ok (.invokestatic 292, 3) := by decide +kernel
theorem dX12_homes_7 : decode cX12_homes 7 = .ok (.ifCond .eq 16, 3) := by decide +kernel
theorem dX12_homes_10 : decode cX12_homes 10 = .ok (.iload_n 2, 1) := by decide +kernel
theorem dX12_homes_11 : decode cX12_homes 11 = .ok (.iconst (-1), 1) := by decide +kernel
theorem dX12_homes_12 : decode cX12_homes 12 = .ok (.if_icmp .eq 13, 3) := by decide +kernel
theorem dX12_homes_15 : decode cX12_homes 15 = .ok (.aload_n 0, 1) := by decide +kernel
theorem dX12_homes_16 : decode cX12_homes 16 = .ok (.iload_n 2, 1) := by decide +kernel
theorem dX12_homes_17 : decode cX12_homes 17 = .ok (.invokevirtual 378, 3) := by decide +kernel
theorem dX12_homes_20 : decode cX12_homes 20 = .ok (.ifCond .ne 5, 3) := by decide +kernel
theorem dX12_homes_23 : decode cX12_homes 23 = .ok (.iconst (-1), 1) := by decide +kernel
theorem dX12_homes_24 : decode cX12_homes 24 = .ok (.ireturn, 1) := by decide +kernel
theorem dX12_homes_25 : decode cX12_homes 25 = .ok (.aload_n 0, 1) := by decide +kernel
theorem dX12_homes_26 : decode cX12_homes 26 = .ok (.invokevirtual 381, 3) := by decide +kernel
theorem dX12_homes_29 : decode cX12_homes 29 = .ok (.aload_n 0, 1) := by decide +kernel
theorem dX12_homes_30 : decode cX12_homes 30 = .ok (.iload_n 1, 1) := by decide +kernel
theorem dX12_homes_31 : decode cX12_homes 31 = .ok (.invokevirtual 439, 3) := by decide +kernel
theorem dX12_homes_34 : decode cX12_homes 34 = .ok (.istore_n 3, 1) := by decide +kernel
theorem dX12_homes_35 : decode cX12_homes 35 = .ok (.iload_n 2, 1) := by decide +kernel
theorem dX12_homes_36 : decode cX12_homes 36 = .ok (.iconst (-1), 1) := by decide +kernel
theorem dX12_homes_37 : decode cX12_homes 37 = .ok (.if_icmp .ne 15, 3) := by decide +kernel
theorem dX12_homes_40 : decode cX12_homes 40 = .ok (.iload_n 3, 1) := by decide +kernel
theorem dX12_homes_41 : decode cX12_homes 41 = .ok (.ifCond .eq 7, 3) := by decide +kernel
theorem dX12_homes_44 : decode cX12_homes 44 = .ok (.iconst 1, 1) := by decide +kernel
theorem dX12_homes_45 : decode cX12_homes 45 = .ok (.goto 22, 3) := by decide +kernel
theorem dX12_homes_48 : decode cX12_homes 48 = .ok (.iconst 0, 1) := by decide +kernel
theorem dX12_homes_49 : decode cX12_homes 49 = .ok (.goto 18, 3) := by decide +kernel
theorem dX12_homes_52 : decode cX12_homes 52 = .ok (.iload_n 3, 1) := by decide +kernel
theorem dX12_homes_53 : decode cX12_homes 53 = .ok (.ifCond .eq 12, 3) := by decide +kernel
theorem dX12_homes_56 : decode cX12_homes 56 = .ok (.aload_n 0, 1) := by decide +kernel
theorem dX12_homes_57 : decode cX12_homes 57 = .ok (.getfield 119, 3) := by decide +kernel
theorem dX12_homes_60 : decode cX12_homes 60 = .ok (.iload_n 2, 1) := by decide +kernel
theorem dX12_homes_61 : decode cX12_homes 61 = .ok (.iaload, 1) := by decide +kernel
theorem dX12_homes_62 : decode cX12_homes 62 = .ok (.goto 5, 3) := by decide +kernel
theorem dX12_homes_65 : decode cX12_homes 65 = .ok (.bipush (-2), 2) := by decide +kernel
theorem dX12_homes_67 : decode cX12_homes 67 = .ok (.ireturn, 1) := by decide +kernel
theorem dX12_share_0 : decode cX12_share 0 = .ok (.aload_n 0, 1) := by decide +kernel
theorem dX12_share_1 : decode cX12_share 1 = .ok (.iload_n 1, 1) := by decide +kernel
theorem dX12_share_2 : decode cX12_share 2 = .ok (.invokevirtual 378, 3) := by decide +kernel
theorem dX12_share_5 : decode cX12_share 5 = .ok (.ifCond .eq 10, 3) := by decide +kernel
theorem dX12_share_8 : decode cX12_share 8 = .ok (.iload_n 2, 1) := by decide +kernel
theorem dX12_share_9 : decode cX12_share 9 = .ok (.invokestatic 393, 3) := by decide +kernel
theorem dX12_share_12 : decode cX12_share 12 = .ok (.ifCond .ne 5, 3) := by decide +kernel
theorem dX12_share_15 : decode cX12_share 15 = .ok (.iconst (-1), 1) := by decide +kernel
theorem dX12_share_16 : decode cX12_share 16 = .ok (.ireturn, 1) := by decide +kernel
theorem dX12_share_17 : decode cX12_share 17 = .ok (.aload_n 0, 1) := by decide +kernel
theorem dX12_share_18 : decode cX12_share 18 = .ok (.invokevirtual 381, 3) := by decide +kernel
theorem dX12_share_21 : decode cX12_share 21 = .ok (.aload_n 0, 1) := by decide +kernel
theorem dX12_share_22 : decode cX12_share 22 = .ok (.iload_n 2, 1) := by decide +kernel
theorem dX12_share_23 : decode cX12_share 23 = .ok (.invokevirtual 396, 3) := by decide +kernel
theorem dX12_share_26 : decode cX12_share 26 = .ok (.pop, 1) := by decide +kernel
theorem dX12_share_27 : decode cX12_share 27 = .ok (.aload_n 0, 1) := by decide +kernel
theorem dX12_share_28 : decode cX12_share 28 = .ok (.getfield 110, 3) := by decide +kernel
theorem dX12_share_31 : decode cX12_share 31 = .ok (.iload_n 1, 1) := by decide +kernel
theorem dX12_share_32 : decode cX12_share 32 = .ok (.iaload, 1) := by decide +kernel
theorem dX12_share_33 : decode cX12_share 33 = .ok (.ireturn, 1) := by decide +kernel
theorem dX12_enough_0 : decode cX12_enough 0 = .ok (.aload_n 0, 1) := by decide +kernel
theorem dX12_enough_1 : decode cX12_enough 1 = .ok (.invokevirtual 381, 3) := by decide +kernel
theorem dX12_enough_4 : decode cX12_enough 4 = .ok (.aload_n 0, 1) := by decide +kernel
theorem dX12_enough_5 : decode cX12_enough 5 = .ok (.bipush 99, 2) := by decide +kernel
theorem dX12_enough_7 : decode cX12_enough 7 = .ok (.invokevirtual 396, 3) := by decide +kernel
theorem dX12_enough_10 : decode cX12_enough 10 = .ok (.pop, 1) := by decide +kernel
theorem dX12_enough_11 : decode cX12_enough 11 = .ok (.iconst 0, 1) := by decide +kernel
theorem dX12_enough_12 : decode cX12_enough 12 = .ok (.istore_n 1, 1) := by decide +kernel
theorem dX12_enough_13 : decode cX12_enough 13 = .ok (.iload_n 1, 1) := by decide +kernel
theorem dX12_enough_14 : decode cX12_enough 14 = .ok (.aload_n 0, 1) := by decide +kernel
theorem dX12_enough_15 : decode cX12_enough 15 = .ok (.getfield 46, 3) := by decide +kernel
theorem dX12_enough_18 : decode cX12_enough 18 = .ok (.aload_n 0, 1) := by decide +kernel
theorem dX12_enough_19 : decode cX12_enough 19 = .ok (.getfield 221, 3) := by decide +kernel
theorem dX12_enough_22 : decode cX12_enough 22 = .ok (.iaload, 1) := by decide +kernel
theorem dX12_enough_23 : decode cX12_enough 23 = .ok (.if_icmp .ge 21, 3) := by decide +kernel
theorem dX12_enough_26 : decode cX12_enough 26 = .ok (.aload_n 0, 1) := by decide +kernel
theorem dX12_enough_27 : decode cX12_enough 27 = .ok (.getfield 122, 3) := by decide +kernel
theorem dX12_enough_30 : decode cX12_enough 30 = .ok (.iload_n 1, 1) := by decide +kernel
theorem dX12_enough_31 : decode cX12_enough 31 = .ok (.aload_n 0, 1) := by decide +kernel
theorem dX12_enough_32 : decode cX12_enough 32 = .ok (.getfield 110, 3) := by decide +kernel
theorem dX12_enough_35 : decode cX12_enough 35 = .ok (.iload_n 1, 1) := by decide +kernel
theorem dX12_enough_36 : decode cX12_enough 36 = .ok (.iaload, 1) := by decide +kernel
theorem dX12_enough_37 : decode cX12_enough 37 = .ok (.iastore, 1) := by decide +kernel
theorem dX12_enough_38 : decode cX12_enough 38 = .ok (.iinc 1 1, 3) := by decide +kernel
theorem dX12_enough_41 : decode cX12_enough 41 = .ok (.goto (-28), 3) := by decide +kernel
theorem dX12_enough_44 : decode cX12_enough 44 = .ok (.iconst 0, 1) := by decide +kernel
theorem dX12_enough_45 : decode cX12_enough 45 = .ok (.istore_n 1, 1) := by decide +kernel
theorem dX12_enough_46 : decode cX12_enough 46 = .ok (.iload_n 1, 1) := by decide +kernel
theorem dX12_enough_47 : decode cX12_enough 47 = .ok (.bipush 99, 2) := by decide +kernel
theorem dX12_enough_49 : decode cX12_enough 49 = .ok (.if_icmp .ge 61, 3) := by decide +kernel
theorem dX12_enough_52 : decode cX12_enough 52 = .ok (.aload_n 0, 1) := by decide +kernel
theorem dX12_enough_53 : decode cX12_enough 53 = .ok (.iload_n 1, 1) := by decide +kernel
theorem dX12_enough_54 : decode cX12_enough 54 = .ok (.invokevirtual 396, 3) := by decide +kernel
theorem dX12_enough_57 : decode cX12_enough 57 = .ok (.pop, 1) := by decide +kernel
theorem dX12_enough_58 : decode cX12_enough 58 = .ok (.iconst 1, 1) := by decide +kernel
theorem dX12_enough_59 : decode cX12_enough 59 = .ok (.istore_n 2, 1) := by decide +kernel
theorem dX12_enough_60 : decode cX12_enough 60 = .ok (.iconst 0, 1) := by decide +kernel
theorem dX12_enough_61 : decode cX12_enough 61 = .ok (.istore_n 3, 1) := by decide +kernel
theorem dX12_enough_62 : decode cX12_enough 62 = .ok (.iload_n 3, 1) := by decide +kernel
theorem dX12_enough_63 : decode cX12_enough 63 = .ok (.aload_n 0, 1) := by decide +kernel
theorem dX12_enough_64 : decode cX12_enough 64 = .ok (.getfield 46, 3) := by decide +kernel
theorem dX12_enough_67 : decode cX12_enough 67 = .ok (.aload_n 0, 1) := by decide +kernel
theorem dX12_enough_68 : decode cX12_enough 68 = .ok (.getfield 221, 3) := by decide +kernel
theorem dX12_enough_71 : decode cX12_enough 71 = .ok (.iaload, 1) := by decide +kernel
theorem dX12_enough_72 : decode cX12_enough 72 = .ok (.if_icmp .ge 26, 3) := by decide +kernel
theorem dX12_enough_75 : decode cX12_enough 75 = .ok (.aload_n 0, 1) := by decide +kernel
theorem dX12_enough_76 : decode cX12_enough 76 = .ok (.getfield 110, 3) := by decide +kernel
theorem dX12_enough_79 : decode cX12_enough 79 = .ok (.iload_n 3, 1) := by decide +kernel
theorem dX12_enough_80 : decode cX12_enough 80 = .ok (.iaload, 1) := by decide +kernel
theorem dX12_enough_81 : decode cX12_enough 81 = .ok (.aload_n 0, 1) := by decide +kernel
theorem dX12_enough_82 : decode cX12_enough 82 = .ok (.getfield 122, 3) := by decide +kernel
theorem dX12_enough_85 : decode cX12_enough 85 = .ok (.iload_n 3, 1) := by decide +kernel
theorem dX12_enough_86 : decode cX12_enough 86 = .ok (.iaload, 1) := by decide +kernel
theorem dX12_enough_87 : decode cX12_enough 87 = .ok (.if_icmp .eq 5, 3) := by decide +kernel
theorem dX12_enough_90 : decode cX12_enough 90 = .ok (.iconst 0, 1) := by decide +kernel
theorem dX12_enough_91 : decode cX12_enough 91 = .ok (.istore_n 2, 1) := by decide +kernel
theorem dX12_enough_92 : decode cX12_enough 92 = .ok (.iinc 3 1, 3) := by decide +kernel
theorem dX12_enough_95 : decode cX12_enough 95 = .ok (.goto (-33), 3) := by decide +kernel
theorem dX12_enough_98 : decode cX12_enough 98 = .ok (.iload_n 2, 1) := by decide +kernel
theorem dX12_enough_99 : decode cX12_enough 99 = .ok (.ifCond .eq 5, 3) := by decide +kernel
theorem dX12_enough_102 : decode cX12_enough 102 = .ok (.iload_n 1, 1) := by decide +kernel
theorem dX12_enough_103 : decode cX12_enough 103 = .ok (.ireturn, 1) := by decide +kernel
theorem dX12_enough_104 : decode cX12_enough 104 = .ok (.iinc 1 1, 3) := by decide +kernel
theorem dX12_enough_107 : decode cX12_enough 107 = .ok (.goto (-61), 3) := by decide +kernel
theorem dX12_enough_110 : decode cX12_enough 110 = .ok (.bipush 99, 2) := by decide +kernel
theorem dX12_enough_112 : decode cX12_enough 112 = .ok (.ireturn, 1) := by decide +kernel
theorem dX12_news_0 : decode cX12_news 0 = .ok (.aload_n 0, 1) := by decide +kernel
theorem dX12_news_1 : decode cX12_news 1 = .ok (.iload_n 1, 1) := by decide +kernel
theorem dX12_news_2 : decode cX12_news 2 = .ok (.invokevirtual 378, 3) := by decide +kernel
theorem dX12_news_5 : decode cX12_news 5 = .ok (.ifCond .eq 13, 3) := by decide +kernel
theorem dX12_news_8 : decode cX12_news 8 = .ok (.iload_n 2, 1) := by decide +kernel
theorem dX12_news_9 : decode cX12_news 9 = .ok (.iconst 0, 1) := by decide +kernel
theorem dX12_news_10 : decode cX12_news 10 = .ok (.bipush 12, 2) := by decide +kernel
theorem dX12_news_12 : decode cX12_news 12 = .ok (.invokestatic 292, 3) := by decide +kernel
theorem dX12_news_15 : decode cX12_news 15 = .ok (.ifCond .ne 5, 3) := by decide +kernel
theorem dX12_news_18 : decode cX12_news 18 = .ok (.iconst (-1), 1) := by decide +kernel
theorem dX12_news_19 : decode cX12_news 19 = .ok (.ireturn, 1) := by decide +kernel
theorem dX12_news_20 : decode cX12_news 20 = .ok (.iconst 1, 1) := by decide +kernel
theorem dX12_news_21 : decode cX12_news 21 = .ok (.iload_n 1, 1) := by decide +kernel
theorem dX12_news_22 : decode cX12_news 22 = .ok (.ishl, 1) := by decide +kernel
theorem dX12_news_23 : decode cX12_news 23 = .ok (.istore_n 3, 1) := by decide +kernel
theorem dX12_news_24 : decode cX12_news 24 = .ok (.iconst 0, 1) := by decide +kernel
theorem dX12_news_25 : decode cX12_news 25 = .ok (.istore 4, 2) := by decide +kernel
theorem dX12_news_27 : decode cX12_news 27 = .ok (.iload 4, 2) := by decide +kernel
theorem dX12_news_29 : decode cX12_news 29 = .ok (.iload_n 2, 1) := by decide +kernel
theorem dX12_news_30 : decode cX12_news 30 = .ok (.if_icmp .ge 101, 3) := by decide +kernel
theorem dX12_news_33 : decode cX12_news 33 = .ok (.iload_n 3, 1) := by decide +kernel
theorem dX12_news_34 : decode cX12_news 34 = .ok (.istore 5, 2) := by decide +kernel
theorem dX12_news_36 : decode cX12_news 36 = .ok (.iconst 0, 1) := by decide +kernel
theorem dX12_news_37 : decode cX12_news 37 = .ok (.istore 6, 2) := by decide +kernel
theorem dX12_news_39 : decode cX12_news 39 = .ok (.iload 6, 2) := by decide +kernel
theorem dX12_news_41 : decode cX12_news 41 = .ok (.aload_n 0, 1) := by decide +kernel
theorem dX12_news_42 : decode cX12_news 42 = .ok (.getfield 46, 3) := by decide +kernel
theorem dX12_news_45 : decode cX12_news 45 = .ok (.aload_n 0, 1) := by decide +kernel
theorem dX12_news_46 : decode cX12_news 46 = .ok (.getfield 221, 3) := by decide +kernel
theorem dX12_news_49 : decode cX12_news 49 = .ok (.iaload, 1) := by decide +kernel
theorem dX12_news_50 : decode cX12_news 50 = .ok (.if_icmp .ge 72, 3) := by decide +kernel
theorem dX12_news_53 : decode cX12_news 53 = .ok (.iconst 0, 1) := by decide +kernel
theorem dX12_news_54 : decode cX12_news 54 = .ok (.istore 7, 2) := by decide +kernel
theorem dX12_news_56 : decode cX12_news 56 = .ok (.iload 7, 2) := by decide +kernel
theorem dX12_news_58 : decode cX12_news 58 = .ok (.aload_n 0, 1) := by decide +kernel
theorem dX12_news_59 : decode cX12_news 59 = .ok (.getfield 46, 3) := by decide +kernel
theorem dX12_news_62 : decode cX12_news 62 = .ok (.aload_n 0, 1) := by decide +kernel
theorem dX12_news_63 : decode cX12_news 63 = .ok (.getfield 221, 3) := by decide +kernel
theorem dX12_news_66 : decode cX12_news 66 = .ok (.iaload, 1) := by decide +kernel
theorem dX12_news_67 : decode cX12_news 67 = .ok (.if_icmp .ge 49, 3) := by decide +kernel
theorem dX12_news_70 : decode cX12_news 70 = .ok (.iload_n 3, 1) := by decide +kernel
theorem dX12_news_71 : decode cX12_news 71 = .ok (.iload 7, 2) := by decide +kernel
theorem dX12_news_73 : decode cX12_news 73 = .ok (.ishr, 1) := by decide +kernel
theorem dX12_news_74 : decode cX12_news 74 = .ok (.iconst 1, 1) := by decide +kernel
theorem dX12_news_75 : decode cX12_news 75 = .ok (.iand, 1) := by decide +kernel
theorem dX12_news_76 : decode cX12_news 76 = .ok (.iconst 1, 1) := by decide +kernel
theorem dX12_news_77 : decode cX12_news 77 = .ok (.if_icmp .ne 33, 3) := by decide +kernel
theorem dX12_news_80 : decode cX12_news 80 = .ok (.aload_n 0, 1) := by decide +kernel
theorem dX12_news_81 : decode cX12_news 81 = .ok (.getfield 101, 3) := by decide +kernel
theorem dX12_news_84 : decode cX12_news 84 = .ok (.iload 6, 2) := by decide +kernel
theorem dX12_news_86 : decode cX12_news 86 = .ok (.iaload, 1) := by decide +kernel
theorem dX12_news_87 : decode cX12_news 87 = .ok (.aload_n 0, 1) := by decide +kernel
theorem dX12_news_88 : decode cX12_news 88 = .ok (.getfield 101, 3) := by decide +kernel
theorem dX12_news_91 : decode cX12_news 91 = .ok (.iload 7, 2) := by decide +kernel
theorem dX12_news_93 : decode cX12_news 93 = .ok (.iaload, 1) := by decide +kernel
theorem dX12_news_94 : decode cX12_news 94 = .ok (.invokestatic 384, 3) := by decide +kernel
theorem dX12_news_97 : decode cX12_news 97 = .ok (.iconst 2, 1) := by decide +kernel
theorem dX12_news_98 : decode cX12_news 98 = .ok (.if_icmp .gt 12, 3) := by decide +kernel
theorem dX12_news_101 : decode cX12_news 101 = .ok (.iload 5, 2) := by decide +kernel
theorem dX12_news_103 : decode cX12_news 103 = .ok (.iconst 1, 1) := by decide +kernel
theorem dX12_news_104 : decode cX12_news 104 = .ok (.iload 6, 2) := by decide +kernel
theorem dX12_news_106 : decode cX12_news 106 = .ok (.ishl, 1) := by decide +kernel
theorem dX12_news_107 : decode cX12_news 107 = .ok (.ior, 1) := by decide +kernel
theorem dX12_news_108 : decode cX12_news 108 = .ok (.istore 5, 2) := by decide +kernel
theorem dX12_news_110 : decode cX12_news 110 = .ok (.iinc 7 1, 3) := by decide +kernel
theorem dX12_news_113 : decode cX12_news 113 = .ok (.goto (-57), 3) := by decide +kernel
theorem dX12_news_116 : decode cX12_news 116 = .ok (.iinc 6 1, 3) := by decide +kernel
theorem dX12_news_119 : decode cX12_news 119 = .ok (.goto (-80), 3) := by decide +kernel
theorem dX12_news_122 : decode cX12_news 122 = .ok (.iload 5, 2) := by decide +kernel
theorem dX12_news_124 : decode cX12_news 124 = .ok (.istore_n 3, 1) := by decide +kernel
theorem dX12_news_125 : decode cX12_news 125 = .ok (.iinc 4 1, 3) := by decide +kernel
theorem dX12_news_128 : decode cX12_news 128 = .ok (.goto (-101), 3) := by decide +kernel
theorem dX12_news_131 : decode cX12_news 131 = .ok (.iload_n 3, 1) := by decide +kernel
theorem dX12_news_132 : decode cX12_news 132 = .ok (.ireturn, 1) := by decide +kernel
theorem dX12_pairs_0 : decode cX12_pairs 0 = .ok (.iload_n 1, 1) := by decide +kernel
theorem dX12_pairs_1 : decode cX12_pairs 1 = .ok (.iconst 0, 1) := by decide +kernel
theorem dX12_pairs_2 : decode cX12_pairs 2 = .ok (.bipush 11, 2) := by decide +kernel
theorem dX12_pairs_4 : decode cX12_pairs 4 = .ok (.invokestatic 292, 3) := by decide +kernel
theorem dX12_pairs_7 : decode cX12_pairs 7 = .ok (.ifCond .ne 5, 3) := by decide +kernel
theorem dX12_pairs_10 : decode cX12_pairs 10 = .ok (.iconst (-1), 1) := by decide +kernel
theorem dX12_pairs_11 : decode cX12_pairs 11 = .ok (.ireturn, 1) := by decide +kernel
theorem dX12_pairs_12 : decode cX12_pairs 12 = .ok (.iconst 1, 1) := by decide +kernel
theorem dX12_pairs_13 : decode cX12_pairs 13 = .ok (.istore_n 2, 1) := by decide +kernel
theorem dX12_pairs_14 : decode cX12_pairs 14 = .ok (.iload_n 2, 1) := by decide +kernel
theorem dX12_pairs_15 : decode cX12_pairs 15 = .ok (.iconst 1, 1) := by decide +kernel
theorem dX12_pairs_16 : decode cX12_pairs 16 = .ok (.aload_n 0, 1) := by decide +kernel
theorem dX12_pairs_17 : decode cX12_pairs 17 = .ok (.getfield 46, 3) := by decide +kernel
theorem dX12_pairs_20 : decode cX12_pairs 20 = .ok (.aload_n 0, 1) := by decide +kernel
theorem dX12_pairs_21 : decode cX12_pairs 21 = .ok (.getfield 221, 3) := by decide +kernel
theorem dX12_pairs_24 : decode cX12_pairs 24 = .ok (.iaload, 1) := by decide +kernel
theorem dX12_pairs_25 : decode cX12_pairs 25 = .ok (.ishl, 1) := by decide +kernel
theorem dX12_pairs_26 : decode cX12_pairs 26 = .ok (.if_icmp .ge 150, 3) := by decide +kernel
theorem dX12_pairs_29 : decode cX12_pairs 29 = .ok (.iconst 0, 1) := by decide +kernel
theorem dX12_pairs_30 : decode cX12_pairs 30 = .ok (.istore_n 3, 1) := by decide +kernel
theorem dX12_pairs_31 : decode cX12_pairs 31 = .ok (.iload_n 2, 1) := by decide +kernel
theorem dX12_pairs_32 : decode cX12_pairs 32 = .ok (.iload_n 3, 1) := by decide +kernel
theorem dX12_pairs_33 : decode cX12_pairs 33 = .ok (.ishr, 1) := by decide +kernel
theorem dX12_pairs_34 : decode cX12_pairs 34 = .ok (.iconst 1, 1) := by decide +kernel
theorem dX12_pairs_35 : decode cX12_pairs 35 = .ok (.iand, 1) := by decide +kernel
theorem dX12_pairs_36 : decode cX12_pairs 36 = .ok (.ifCond .ne 9, 3) := by decide +kernel
theorem dX12_pairs_39 : decode cX12_pairs 39 = .ok (.iinc 3 1, 3) := by decide +kernel
theorem dX12_pairs_42 : decode cX12_pairs 42 = .ok (.goto (-11), 3) := by decide +kernel
theorem dX12_pairs_45 : decode cX12_pairs 45 = .ok (.iload_n 2, 1) := by decide +kernel
theorem dX12_pairs_46 : decode cX12_pairs 46 = .ok (.iconst 1, 1) := by decide +kernel
theorem dX12_pairs_47 : decode cX12_pairs 47 = .ok (.iload_n 3, 1) := by decide +kernel
theorem dX12_pairs_48 : decode cX12_pairs 48 = .ok (.ishl, 1) := by decide +kernel
theorem dX12_pairs_49 : decode cX12_pairs 49 = .ok (.iconst (-1), 1) := by decide +kernel
theorem dX12_pairs_50 : decode cX12_pairs 50 = .ok (.ixor, 1) := by decide +kernel
theorem dX12_pairs_51 : decode cX12_pairs 51 = .ok (.iand, 1) := by decide +kernel
theorem dX12_pairs_52 : decode cX12_pairs 52 = .ok (.istore 4, 2) := by decide +kernel
theorem dX12_pairs_54 : decode cX12_pairs 54 = .ok (.aload_n 0, 1) := by decide +kernel
theorem dX12_pairs_55 : decode cX12_pairs 55 = .ok (.getfield 125, 3) := by decide +kernel
theorem dX12_pairs_58 : decode cX12_pairs 58 = .ok (.iload_n 2, 1) := by decide +kernel
theorem dX12_pairs_59 : decode cX12_pairs 59 = .ok (.aload_n 0, 1) := by decide +kernel
theorem dX12_pairs_60 : decode cX12_pairs 60 = .ok (.getfield 125, 3) := by decide +kernel
theorem dX12_pairs_63 : decode cX12_pairs 63 = .ok (.iload 4, 2) := by decide +kernel
theorem dX12_pairs_65 : decode cX12_pairs 65 = .ok (.iaload, 1) := by decide +kernel
theorem dX12_pairs_66 : decode cX12_pairs 66 = .ok (.iastore, 1) := by decide +kernel
theorem dX12_pairs_67 : decode cX12_pairs 67 = .ok (.iload_n 3, 1) := by decide +kernel
theorem dX12_pairs_68 : decode cX12_pairs 68 = .ok (.iconst 1, 1) := by decide +kernel
theorem dX12_pairs_69 : decode cX12_pairs 69 = .ok (.iadd, 1) := by decide +kernel
theorem dX12_pairs_70 : decode cX12_pairs 70 = .ok (.istore 5, 2) := by decide +kernel
theorem dX12_pairs_72 : decode cX12_pairs 72 = .ok (.iload 5, 2) := by decide +kernel
theorem dX12_pairs_74 : decode cX12_pairs 74 = .ok (.aload_n 0, 1) := by decide +kernel
theorem dX12_pairs_75 : decode cX12_pairs 75 = .ok (.getfield 46, 3) := by decide +kernel
theorem dX12_pairs_78 : decode cX12_pairs 78 = .ok (.aload_n 0, 1) := by decide +kernel
theorem dX12_pairs_79 : decode cX12_pairs 79 = .ok (.getfield 221, 3) := by decide +kernel
theorem dX12_pairs_82 : decode cX12_pairs 82 = .ok (.iaload, 1) := by decide +kernel
theorem dX12_pairs_83 : decode cX12_pairs 83 = .ok (.if_icmp .ge 87, 3) := by decide +kernel
theorem dX12_pairs_86 : decode cX12_pairs 86 = .ok (.iload 4, 2) := by decide +kernel
theorem dX12_pairs_88 : decode cX12_pairs 88 = .ok (.iload 5, 2) := by decide +kernel
theorem dX12_pairs_90 : decode cX12_pairs 90 = .ok (.ishr, 1) := by decide +kernel
theorem dX12_pairs_91 : decode cX12_pairs 91 = .ok (.iconst 1, 1) := by decide +kernel
theorem dX12_pairs_92 : decode cX12_pairs 92 = .ok (.iand, 1) := by decide +kernel
theorem dX12_pairs_93 : decode cX12_pairs 93 = .ok (.iconst 1, 1) := by decide +kernel
theorem dX12_pairs_94 : decode cX12_pairs 94 = .ok (.if_icmp .ne 70, 3) := by decide +kernel
theorem dX12_pairs_97 : decode cX12_pairs 97 = .ok (.aload_n 0, 1) := by decide +kernel
theorem dX12_pairs_98 : decode cX12_pairs 98 = .ok (.getfield 101, 3) := by decide +kernel
theorem dX12_pairs_101 : decode cX12_pairs 101 = .ok (.iload_n 3, 1) := by decide +kernel
theorem dX12_pairs_102 : decode cX12_pairs 102 = .ok (.iaload, 1) := by decide +kernel
theorem dX12_pairs_103 : decode cX12_pairs 103 = .ok (.aload_n 0, 1) := by decide +kernel
theorem dX12_pairs_104 : decode cX12_pairs 104 = .ok (.getfield 101, 3) := by decide +kernel
theorem dX12_pairs_107 : decode cX12_pairs 107 = .ok (.iload 5, 2) := by decide +kernel
theorem dX12_pairs_109 : decode cX12_pairs 109 = .ok (.iaload, 1) := by decide +kernel
theorem dX12_pairs_110 : decode cX12_pairs 110 = .ok (.invokestatic 384, 3) := by decide +kernel
theorem dX12_pairs_113 : decode cX12_pairs 113 = .ok (.iload_n 1, 1) := by decide +kernel
theorem dX12_pairs_114 : decode cX12_pairs 114 = .ok (.if_icmp .gt 50, 3) := by decide +kernel
theorem dX12_pairs_117 : decode cX12_pairs 117 = .ok (.aload_n 0, 1) := by decide +kernel
theorem dX12_pairs_118 : decode cX12_pairs 118 = .ok (.getfield 125, 3) := by decide +kernel
theorem dX12_pairs_121 : decode cX12_pairs 121 = .ok (.iload 4, 2) := by decide +kernel
theorem dX12_pairs_123 : decode cX12_pairs 123 = .ok (.iconst 1, 1) := by decide +kernel
theorem dX12_pairs_124 : decode cX12_pairs 124 = .ok (.iload 5, 2) := by decide +kernel
theorem dX12_pairs_126 : decode cX12_pairs 126 = .ok (.ishl, 1) := by decide +kernel
theorem dX12_pairs_127 : decode cX12_pairs 127 = .ok (.iconst (-1), 1) := by decide +kernel
theorem dX12_pairs_128 : decode cX12_pairs 128 = .ok (.ixor, 1) := by decide +kernel
theorem dX12_pairs_129 : decode cX12_pairs 129 = .ok (.iand, 1) := by decide +kernel
theorem dX12_pairs_130 : decode cX12_pairs 130 = .ok (.iaload, 1) := by decide +kernel
theorem dX12_pairs_131 : decode cX12_pairs 131 = .ok (.iconst 1, 1) := by decide +kernel
theorem dX12_pairs_132 : decode cX12_pairs 132 = .ok (.iadd, 1) := by decide +kernel
theorem dX12_pairs_133 : decode cX12_pairs 133 = .ok (.aload_n 0, 1) := by decide +kernel
theorem dX12_pairs_134 : decode cX12_pairs 134 = .ok (.getfield 125, 3) := by decide +kernel
theorem dX12_pairs_137 : decode cX12_pairs 137 = .ok (.iload_n 2, 1) := by decide +kernel
theorem dX12_pairs_138 : decode cX12_pairs 138 = .ok (.iaload, 1) := by decide +kernel
theorem dX12_pairs_139 : decode cX12_pairs 139 = .ok (.if_icmp .le 25, 3) := by decide +kernel
theorem dX12_pairs_142 : decode cX12_pairs 142 = .ok (.aload_n 0, 1) := by decide +kernel
theorem dX12_pairs_143 : decode cX12_pairs 143 = .ok (.getfield 125, 3) := by decide +kernel
theorem dX12_pairs_146 : decode cX12_pairs 146 = .ok (.iload_n 2, 1) := by decide +kernel
theorem dX12_pairs_147 : decode cX12_pairs 147 = .ok (.aload_n 0, 1) := by decide +kernel
theorem dX12_pairs_148 : decode cX12_pairs 148 = .ok (.getfield 125, 3) := by decide +kernel
theorem dX12_pairs_151 : decode cX12_pairs 151 = .ok (.iload 4, 2) := by decide +kernel
theorem dX12_pairs_153 : decode cX12_pairs 153 = .ok (.iconst 1, 1) := by decide +kernel
theorem dX12_pairs_154 : decode cX12_pairs 154 = .ok (.iload 5, 2) := by decide +kernel
theorem dX12_pairs_156 : decode cX12_pairs 156 = .ok (.ishl, 1) := by decide +kernel
theorem dX12_pairs_157 : decode cX12_pairs 157 = .ok (.iconst (-1), 1) := by decide +kernel
theorem dX12_pairs_158 : decode cX12_pairs 158 = .ok (.ixor, 1) := by decide +kernel
theorem dX12_pairs_159 : decode cX12_pairs 159 = .ok (.iand, 1) := by decide +kernel
theorem dX12_pairs_160 : decode cX12_pairs 160 = .ok (.iaload, 1) := by decide +kernel
theorem dX12_pairs_161 : decode cX12_pairs 161 = .ok (.iconst 1, 1) := by decide +kernel
theorem dX12_pairs_162 : decode cX12_pairs 162 = .ok (.iadd, 1) := by decide +kernel
theorem dX12_pairs_163 : decode cX12_pairs 163 = .ok (.iastore, 1) := by decide +kernel
theorem dX12_pairs_164 : decode cX12_pairs 164 = .ok (.iinc 5 1, 3) := by decide +kernel
theorem dX12_pairs_167 : decode cX12_pairs 167 = .ok (.goto (-95), 3) := by decide +kernel
theorem dX12_pairs_170 : decode cX12_pairs 170 = .ok (.iinc 2 1, 3) := by decide +kernel
theorem dX12_pairs_173 : decode cX12_pairs 173 = .ok (.goto (-159), 3) := by decide +kernel
theorem dX12_pairs_176 : decode cX12_pairs 176 = .ok (.aload_n 0, 1) := by decide +kernel
theorem dX12_pairs_177 : decode cX12_pairs 177 = .ok (.getfield 125, 3) := by decide +kernel
theorem dX12_pairs_180 : decode cX12_pairs 180 = .ok (.iconst 1, 1) := by decide +kernel
theorem dX12_pairs_181 : decode cX12_pairs 181 = .ok (.aload_n 0, 1) := by decide +kernel
theorem dX12_pairs_182 : decode cX12_pairs 182 = .ok (.getfield 46, 3) := by decide +kernel
theorem dX12_pairs_185 : decode cX12_pairs 185 = .ok (.aload_n 0, 1) := by decide +kernel
theorem dX12_pairs_186 : decode cX12_pairs 186 = .ok (.getfield 221, 3) := by decide +kernel
theorem dX12_pairs_189 : decode cX12_pairs 189 = .ok (.iaload, 1) := by decide +kernel
theorem dX12_pairs_190 : decode cX12_pairs 190 = .ok (.ishl, 1) := by decide +kernel
theorem dX12_pairs_191 : decode cX12_pairs 191 = .ok (.iconst 1, 1) := by decide +kernel
theorem dX12_pairs_192 : decode cX12_pairs 192 = .ok (.isub, 1) := by decide +kernel
theorem dX12_pairs_193 : decode cX12_pairs 193 = .ok (.iaload, 1) := by decide +kernel
theorem dX12_pairs_194 : decode cX12_pairs 194 = .ok (.ireturn, 1) := by decide +kernel
theorem dX12_kept_0 : decode cX12_kept 0 = .ok (.aload_n 0, 1) := by decide +kernel
theorem dX12_kept_1 : decode cX12_kept 1 = .ok (.iload_n 1, 1) := by decide +kernel
theorem dX12_kept_2 : decode cX12_kept 2 = .ok (.invokevirtual 378, 3) := by decide +kernel
theorem dX12_kept_5 : decode cX12_kept 5 = .ok (.ifCond .ne 5, 3) := by decide +kernel
theorem dX12_kept_8 : decode cX12_kept 8 = .ok (.iconst (-1), 1) := by decide +kernel
theorem dX12_kept_9 : decode cX12_kept 9 = .ok (.ireturn, 1) := by decide +kernel
theorem dX12_kept_10 : decode cX12_kept 10 = .ok (.aload_n 0, 1) := by decide +kernel
theorem dX12_kept_11 : decode cX12_kept 11 = .ok (.invokevirtual 381, 3) := by decide +kernel
theorem dX12_kept_14 : decode cX12_kept 14 = .ok (.iconst 0, 1) := by decide +kernel
theorem dX12_kept_15 : decode cX12_kept 15 = .ok (.istore_n 2, 1) := by decide +kernel
theorem dX12_kept_16 : decode cX12_kept 16 = .ok (.iconst 0, 1) := by decide +kernel
theorem dX12_kept_17 : decode cX12_kept 17 = .ok (.istore_n 3, 1) := by decide +kernel
theorem dX12_kept_18 : decode cX12_kept 18 = .ok (.iload_n 3, 1) := by decide +kernel
theorem dX12_kept_19 : decode cX12_kept 19 = .ok (.aload_n 0, 1) := by decide +kernel
theorem dX12_kept_20 : decode cX12_kept 20 = .ok (.getfield 46, 3) := by decide +kernel
theorem dX12_kept_23 : decode cX12_kept 23 = .ok (.aload_n 0, 1) := by decide +kernel
theorem dX12_kept_24 : decode cX12_kept 24 = .ok (.getfield 221, 3) := by decide +kernel
theorem dX12_kept_27 : decode cX12_kept 27 = .ok (.iaload, 1) := by decide +kernel
theorem dX12_kept_28 : decode cX12_kept 28 = .ok (.if_icmp .ge 84, 3) := by decide +kernel
theorem dX12_kept_31 : decode cX12_kept 31 = .ok (.iload_n 3, 1) := by decide +kernel
theorem dX12_kept_32 : decode cX12_kept 32 = .ok (.iload_n 1, 1) := by decide +kernel
theorem dX12_kept_33 : decode cX12_kept 33 = .ok (.if_icmp .eq 73, 3) := by decide +kernel
theorem dX12_kept_36 : decode cX12_kept 36 = .ok (.aload_n 0, 1) := by decide +kernel
theorem dX12_kept_37 : decode cX12_kept 37 = .ok (.getfield 104, 3) := by decide +kernel
theorem dX12_kept_40 : decode cX12_kept 40 = .ok (.iconst 5, 1) := by decide +kernel
theorem dX12_kept_41 : decode cX12_kept 41 = .ok (.iload_n 3, 1) := by decide +kernel
theorem dX12_kept_42 : decode cX12_kept 42 = .ok (.iadd, 1) := by decide +kernel
theorem dX12_kept_43 : decode cX12_kept 43 = .ok (.iaload, 1) := by decide +kernel
theorem dX12_kept_44 : decode cX12_kept 44 = .ok (.ifCond .ge 6, 3) := by decide +kernel
theorem dX12_kept_47 : decode cX12_kept 47 = .ok (.goto 59, 3) := by decide +kernel
theorem dX12_kept_50 : decode cX12_kept 50 = .ok (.aload_n 0, 1) := by decide +kernel
theorem dX12_kept_51 : decode cX12_kept 51 = .ok (.getfield 104, 3) := by decide +kernel
theorem dX12_kept_54 : decode cX12_kept 54 = .ok (.iload_n 3, 1) := by decide +kernel
theorem dX12_kept_55 : decode cX12_kept 55 = .ok (.iaload, 1) := by decide +kernel
theorem dX12_kept_56 : decode cX12_kept 56 = .ok (.aload_n 0, 1) := by decide +kernel
theorem dX12_kept_57 : decode cX12_kept 57 = .ok (.getfield 104, 3) := by decide +kernel
theorem dX12_kept_60 : decode cX12_kept 60 = .ok (.iconst 5, 1) := by decide +kernel
theorem dX12_kept_61 : decode cX12_kept 61 = .ok (.iload_n 3, 1) := by decide +kernel
theorem dX12_kept_62 : decode cX12_kept 62 = .ok (.iadd, 1) := by decide +kernel
theorem dX12_kept_63 : decode cX12_kept 63 = .ok (.iaload, 1) := by decide +kernel
theorem dX12_kept_64 : decode cX12_kept 64 = .ok (.invokestatic 345, 3) := by decide +kernel
theorem dX12_kept_67 : decode cX12_kept 67 = .ok (.istore 4, 2) := by decide +kernel
theorem dX12_kept_69 : decode cX12_kept 69 = .ok (.aload_n 0, 1) := by decide +kernel
theorem dX12_kept_70 : decode cX12_kept 70 = .ok (.iload_n 3, 1) := by decide +kernel
theorem dX12_kept_71 : decode cX12_kept 71 = .ok (.iload 4, 2) := by decide +kernel
theorem dX12_kept_73 : decode cX12_kept 73 = .ok (.invokevirtual 348, 3) := by decide +kernel
theorem dX12_kept_76 : decode cX12_kept 76 = .ok (.ifCond .ne 30, 3) := by decide +kernel
theorem dX12_kept_79 : decode cX12_kept 79 = .ok (.aload_n 0, 1) := by decide +kernel
theorem dX12_kept_80 : decode cX12_kept 80 = .ok (.iload 4, 2) := by decide +kernel
theorem dX12_kept_82 : decode cX12_kept 82 = .ok (.aload_n 0, 1) := by decide +kernel
theorem dX12_kept_83 : decode cX12_kept 83 = .ok (.iload_n 3, 1) := by decide +kernel
theorem dX12_kept_84 : decode cX12_kept 84 = .ok (.invokevirtual 309, 3) := by decide +kernel
theorem dX12_kept_87 : decode cX12_kept 87 = .ok (.iconst 1, 1) := by decide +kernel
theorem dX12_kept_88 : decode cX12_kept 88 = .ok (.iload_n 3, 1) := by decide +kernel
theorem dX12_kept_89 : decode cX12_kept 89 = .ok (.ishl, 1) := by decide +kernel
theorem dX12_kept_90 : decode cX12_kept 90 = .ok (.iconst 1, 1) := by decide +kernel
theorem dX12_kept_91 : decode cX12_kept 91 = .ok (.iload_n 1, 1) := by decide +kernel
theorem dX12_kept_92 : decode cX12_kept 92 = .ok (.ishl, 1) := by decide +kernel
theorem dX12_kept_93 : decode cX12_kept 93 = .ok (.ior, 1) := by decide +kernel
theorem dX12_kept_94 : decode cX12_kept 94 = .ok (.invokevirtual 342, 3) := by decide +kernel
theorem dX12_kept_97 : decode cX12_kept 97 = .ok (.ifCond .eq 9, 3) := by decide +kernel
theorem dX12_kept_100 : decode cX12_kept 100 = .ok (.iload_n 2, 1) := by decide +kernel
theorem dX12_kept_101 : decode cX12_kept 101 = .ok (.iconst 1, 1) := by decide +kernel
theorem dX12_kept_102 : decode cX12_kept 102 = .ok (.iload_n 3, 1) := by decide +kernel
theorem dX12_kept_103 : decode cX12_kept 103 = .ok (.ishl, 1) := by decide +kernel
theorem dX12_kept_104 : decode cX12_kept 104 = .ok (.ior, 1) := by decide +kernel
theorem dX12_kept_105 : decode cX12_kept 105 = .ok (.istore_n 2, 1) := by decide +kernel
theorem dX12_kept_106 : decode cX12_kept 106 = .ok (.iinc 3 1, 3) := by decide +kernel
theorem dX12_kept_109 : decode cX12_kept 109 = .ok (.goto (-91), 3) := by decide +kernel
theorem dX12_kept_112 : decode cX12_kept 112 = .ok (.iload_n 2, 1) := by decide +kernel
theorem dX12_kept_113 : decode cX12_kept 113 = .ok (.ireturn, 1) := by decide +kernel
theorem dX12_waits_0 : decode cX12_waits 0 = .ok (.iload_n 1, 1) := by decide +kernel
theorem dX12_waits_1 : decode cX12_waits 1 = .ok (.invokestatic 399, 3) := by decide +kernel
theorem dX12_waits_4 : decode cX12_waits 4 = .ok (.ifCond .eq 12, 3) := by decide +kernel
theorem dX12_waits_7 : decode cX12_waits 7 = .ok (.iload_n 2, 1) := by decide +kernel
theorem dX12_waits_8 : decode cX12_waits 8 = .ok (.iconst 0, 1) := by decide +kernel
theorem dX12_waits_9 : decode cX12_waits 9 = .ok (.iconst 1, 1) := by decide +kernel
theorem dX12_waits_10 : decode cX12_waits 10 = .ok (.invokestatic 292, 3) := by decide +kernel
theorem dX12_waits_13 : decode cX12_waits 13 = .ok (.ifCond .ne 5, 3) := by decide +kernel
theorem dX12_waits_16 : decode cX12_waits 16 = .ok (.iconst (-1), 1) := by decide +kernel
theorem dX12_waits_17 : decode cX12_waits 17 = .ok (.ireturn, 1) := by decide +kernel
theorem dX12_waits_18 : decode cX12_waits 18 = .ok (.aload_n 0, 1) := by decide +kernel
theorem dX12_waits_19 : decode cX12_waits 19 = .ok (.invokevirtual 381, 3) := by decide +kernel
theorem dX12_waits_22 : decode cX12_waits 22 = .ok (.aload_n 0, 1) := by decide +kernel
theorem dX12_waits_23 : decode cX12_waits 23 = .ok (.iload_n 1, 1) := by decide +kernel
theorem dX12_waits_24 : decode cX12_waits 24 = .ok (.invokevirtual 402, 3) := by decide +kernel
theorem dX12_waits_27 : decode cX12_waits 27 = .ok (.bipush (-2), 2) := by decide +kernel
theorem dX12_waits_29 : decode cX12_waits 29 = .ok (.istore_n 3, 1) := by decide +kernel
theorem dX12_waits_30 : decode cX12_waits 30 = .ok (.iconst 0, 1) := by decide +kernel
theorem dX12_waits_31 : decode cX12_waits 31 = .ok (.istore 4, 2) := by decide +kernel
theorem dX12_waits_33 : decode cX12_waits 33 = .ok (.iload 4, 2) := by decide +kernel
theorem dX12_waits_35 : decode cX12_waits 35 = .ok (.aload_n 0, 1) := by decide +kernel
theorem dX12_waits_36 : decode cX12_waits 36 = .ok (.getfield 46, 3) := by decide +kernel
theorem dX12_waits_39 : decode cX12_waits 39 = .ok (.aload_n 0, 1) := by decide +kernel
theorem dX12_waits_40 : decode cX12_waits 40 = .ok (.getfield 221, 3) := by decide +kernel
theorem dX12_waits_43 : decode cX12_waits 43 = .ok (.iaload, 1) := by decide +kernel
theorem dX12_waits_44 : decode cX12_waits 44 = .ok (.if_icmp .ge 38, 3) := by decide +kernel
theorem dX12_waits_47 : decode cX12_waits 47 = .ok (.iload_n 3, 1) := by decide +kernel
theorem dX12_waits_48 : decode cX12_waits 48 = .ok (.ifCond .lt 25, 3) := by decide +kernel
theorem dX12_waits_51 : decode cX12_waits 51 = .ok (.aload_n 0, 1) := by decide +kernel
theorem dX12_waits_52 : decode cX12_waits 52 = .ok (.getfield 104, 3) := by decide +kernel
theorem dX12_waits_55 : decode cX12_waits 55 = .ok (.bipush 10, 2) := by decide +kernel
theorem dX12_waits_57 : decode cX12_waits 57 = .ok (.iload 4, 2) := by decide +kernel
theorem dX12_waits_59 : decode cX12_waits 59 = .ok (.iadd, 1) := by decide +kernel
theorem dX12_waits_60 : decode cX12_waits 60 = .ok (.iaload, 1) := by decide +kernel
theorem dX12_waits_61 : decode cX12_waits 61 = .ok (.aload_n 0, 1) := by decide +kernel
theorem dX12_waits_62 : decode cX12_waits 62 = .ok (.getfield 104, 3) := by decide +kernel
theorem dX12_waits_65 : decode cX12_waits 65 = .ok (.bipush 10, 2) := by decide +kernel
theorem dX12_waits_67 : decode cX12_waits 67 = .ok (.iload_n 3, 1) := by decide +kernel
theorem dX12_waits_68 : decode cX12_waits 68 = .ok (.iadd, 1) := by decide +kernel
theorem dX12_waits_69 : decode cX12_waits 69 = .ok (.iaload, 1) := by decide +kernel
theorem dX12_waits_70 : decode cX12_waits 70 = .ok (.if_icmp .le 6, 3) := by decide +kernel
theorem dX12_waits_73 : decode cX12_waits 73 = .ok (.iload 4, 2) := by decide +kernel
theorem dX12_waits_75 : decode cX12_waits 75 = .ok (.istore_n 3, 1) := by decide +kernel
theorem dX12_waits_76 : decode cX12_waits 76 = .ok (.iinc 4 1, 3) := by decide +kernel
theorem dX12_waits_79 : decode cX12_waits 79 = .ok (.goto (-46), 3) := by decide +kernel
theorem dX12_waits_82 : decode cX12_waits 82 = .ok (.iload_n 3, 1) := by decide +kernel
theorem dX12_waits_83 : decode cX12_waits 83 = .ok (.ifCond .lt 7, 3) := by decide +kernel
theorem dX12_waits_86 : decode cX12_waits 86 = .ok (.iload_n 2, 1) := by decide +kernel
theorem dX12_waits_87 : decode cX12_waits 87 = .ok (.ifCond .ne 7, 3) := by decide +kernel
theorem dX12_waits_90 : decode cX12_waits 90 = .ok (.iload_n 3, 1) := by decide +kernel
theorem dX12_waits_91 : decode cX12_waits 91 = .ok (.goto 12, 3) := by decide +kernel
theorem dX12_waits_94 : decode cX12_waits 94 = .ok (.aload_n 0, 1) := by decide +kernel
theorem dX12_waits_95 : decode cX12_waits 95 = .ok (.getfield 104, 3) := by decide +kernel
theorem dX12_waits_98 : decode cX12_waits 98 = .ok (.bipush 10, 2) := by decide +kernel
theorem dX12_waits_100 : decode cX12_waits 100 = .ok (.iload_n 3, 1) := by decide +kernel
theorem dX12_waits_101 : decode cX12_waits 101 = .ok (.iadd, 1) := by decide +kernel
theorem dX12_waits_102 : decode cX12_waits 102 = .ok (.iaload, 1) := by decide +kernel
theorem dX12_waits_103 : decode cX12_waits 103 = .ok (.ireturn, 1) := by decide +kernel
theorem dX12_crowd_0 : decode cX12_crowd 0 = .ok (.iload_n 1, 1) := by decide +kernel
theorem dX12_crowd_1 : decode cX12_crowd 1 = .ok (.invokestatic 399, 3) := by decide +kernel
theorem dX12_crowd_4 : decode cX12_crowd 4 = .ok (.ifCond .eq 12, 3) := by decide +kernel
theorem dX12_crowd_7 : decode cX12_crowd 7 = .ok (.iload_n 2, 1) := by decide +kernel
theorem dX12_crowd_8 : decode cX12_crowd 8 = .ok (.iconst 0, 1) := by decide +kernel
theorem dX12_crowd_9 : decode cX12_crowd 9 = .ok (.iconst 1, 1) := by decide +kernel
theorem dX12_crowd_10 : decode cX12_crowd 10 = .ok (.invokestatic 292, 3) := by decide +kernel
theorem dX12_crowd_13 : decode cX12_crowd 13 = .ok (.ifCond .ne 5, 3) := by decide +kernel
theorem dX12_crowd_16 : decode cX12_crowd 16 = .ok (.iconst (-1), 1) := by decide +kernel
theorem dX12_crowd_17 : decode cX12_crowd 17 = .ok (.ireturn, 1) := by decide +kernel
theorem dX12_crowd_18 : decode cX12_crowd 18 = .ok (.aload_n 0, 1) := by decide +kernel
theorem dX12_crowd_19 : decode cX12_crowd 19 = .ok (.invokevirtual 381, 3) := by decide +kernel
theorem dX12_crowd_22 : decode cX12_crowd 22 = .ok (.aload_n 0, 1) := by decide +kernel
theorem dX12_crowd_23 : decode cX12_crowd 23 = .ok (.iload_n 1, 1) := by decide +kernel
theorem dX12_crowd_24 : decode cX12_crowd 24 = .ok (.invokevirtual 402, 3) := by decide +kernel
theorem dX12_crowd_27 : decode cX12_crowd 27 = .ok (.iconst 0, 1) := by decide +kernel
theorem dX12_crowd_28 : decode cX12_crowd 28 = .ok (.istore_n 3, 1) := by decide +kernel
theorem dX12_crowd_29 : decode cX12_crowd 29 = .ok (.iconst 1, 1) := by decide +kernel
theorem dX12_crowd_30 : decode cX12_crowd 30 = .ok (.istore 4, 2) := by decide +kernel
theorem dX12_crowd_32 : decode cX12_crowd 32 = .ok (.iload 4, 2) := by decide +kernel
theorem dX12_crowd_34 : decode cX12_crowd 34 = .ok (.aload_n 0, 1) := by decide +kernel
theorem dX12_crowd_35 : decode cX12_crowd 35 = .ok (.getfield 43, 3) := by decide +kernel
theorem dX12_crowd_38 : decode cX12_crowd 38 = .ok (.aload_n 0, 1) := by decide +kernel
theorem dX12_crowd_39 : decode cX12_crowd 39 = .ok (.getfield 221, 3) := by decide +kernel
theorem dX12_crowd_42 : decode cX12_crowd 42 = .ok (.iaload, 1) := by decide +kernel
theorem dX12_crowd_43 : decode cX12_crowd 43 = .ok (.if_icmp .ge 26, 3) := by decide +kernel
theorem dX12_crowd_46 : decode cX12_crowd 46 = .ok (.aload_n 0, 1) := by decide +kernel
theorem dX12_crowd_47 : decode cX12_crowd 47 = .ok (.iload 4, 2) := by decide +kernel
theorem dX12_crowd_49 : decode cX12_crowd 49 = .ok (.invokevirtual 333, 3) := by decide +kernel
theorem dX12_crowd_52 : decode cX12_crowd 52 = .ok (.aload_n 0, 1) := by decide +kernel
theorem dX12_crowd_53 : decode cX12_crowd 53 = .ok (.iload_n 3, 1) := by decide +kernel
theorem dX12_crowd_54 : decode cX12_crowd 54 = .ok (.invokevirtual 333, 3) := by decide +kernel
theorem dX12_crowd_57 : decode cX12_crowd 57 = .ok (.if_icmp .le 6, 3) := by decide +kernel
theorem dX12_crowd_60 : decode cX12_crowd 60 = .ok (.iload 4, 2) := by decide +kernel
theorem dX12_crowd_62 : decode cX12_crowd 62 = .ok (.istore_n 3, 1) := by decide +kernel
theorem dX12_crowd_63 : decode cX12_crowd 63 = .ok (.iinc 4 1, 3) := by decide +kernel
theorem dX12_crowd_66 : decode cX12_crowd 66 = .ok (.goto (-34), 3) := by decide +kernel
theorem dX12_crowd_69 : decode cX12_crowd 69 = .ok (.iload_n 2, 1) := by decide +kernel
theorem dX12_crowd_70 : decode cX12_crowd 70 = .ok (.ifCond .ne 7, 3) := by decide +kernel
theorem dX12_crowd_73 : decode cX12_crowd 73 = .ok (.iload_n 3, 1) := by decide +kernel
theorem dX12_crowd_74 : decode cX12_crowd 74 = .ok (.goto 8, 3) := by decide +kernel
theorem dX12_crowd_77 : decode cX12_crowd 77 = .ok (.aload_n 0, 1) := by decide +kernel
theorem dX12_crowd_78 : decode cX12_crowd 78 = .ok (.iload_n 3, 1) := by decide +kernel
theorem dX12_crowd_79 : decode cX12_crowd 79 = .ok (.invokevirtual 333, 3) := by decide +kernel
theorem dX12_crowd_82 : decode cX12_crowd 82 = .ok (.ireturn, 1) := by decide +kernel
theorem dX12_free_0 : decode cX12_free 0 = .ok (.iload_n 1, 1) := by decide +kernel
theorem dX12_free_1 : decode cX12_free 1 = .ok (.invokestatic 430, 3) := by decide +kernel
theorem dX12_free_4 : decode cX12_free 4 = .ok (.ifCond .ne 5, 3) := by decide +kernel
theorem dX12_free_7 : decode cX12_free 7 = .ok (.iconst (-1), 1) := by decide +kernel
theorem dX12_free_8 : decode cX12_free 8 = .ok (.ireturn, 1) := by decide +kernel
theorem dX12_free_9 : decode cX12_free 9 = .ok (.aload_n 0, 1) := by decide +kernel
theorem dX12_free_10 : decode cX12_free 10 = .ok (.invokevirtual 381, 3) := by decide +kernel
theorem dX12_free_13 : decode cX12_free 13 = .ok (.iconst 0, 1) := by decide +kernel
theorem dX12_free_14 : decode cX12_free 14 = .ok (.istore_n 2, 1) := by decide +kernel
theorem dX12_free_15 : decode cX12_free 15 = .ok (.iconst 0, 1) := by decide +kernel
theorem dX12_free_16 : decode cX12_free 16 = .ok (.istore_n 3, 1) := by decide +kernel
theorem dX12_free_17 : decode cX12_free 17 = .ok (.iload_n 3, 1) := by decide +kernel
theorem dX12_free_18 : decode cX12_free 18 = .ok (.aload_n 0, 1) := by decide +kernel
theorem dX12_free_19 : decode cX12_free 19 = .ok (.getfield 43, 3) := by decide +kernel
theorem dX12_free_22 : decode cX12_free 22 = .ok (.aload_n 0, 1) := by decide +kernel
theorem dX12_free_23 : decode cX12_free 23 = .ok (.getfield 221, 3) := by decide +kernel
theorem dX12_free_26 : decode cX12_free 26 = .ok (.iaload, 1) := by decide +kernel
theorem dX12_free_27 : decode cX12_free 27 = .ok (.if_icmp .ge 25, 3) := by decide +kernel
theorem dX12_free_30 : decode cX12_free 30 = .ok (.aload_n 0, 1) := by decide +kernel
theorem dX12_free_31 : decode cX12_free 31 = .ok (.iload_n 3, 1) := by decide +kernel
theorem dX12_free_32 : decode cX12_free 32 = .ok (.iload_n 1, 1) := by decide +kernel
theorem dX12_free_33 : decode cX12_free 33 = .ok (.iconst 0, 1) := by decide +kernel
theorem dX12_free_34 : decode cX12_free 34 = .ok (.invokevirtual 342, 3) := by decide +kernel
theorem dX12_free_37 : decode cX12_free 37 = .ok (.ifCond .eq 9, 3) := by decide +kernel
theorem dX12_free_40 : decode cX12_free 40 = .ok (.iload_n 2, 1) := by decide +kernel
theorem dX12_free_41 : decode cX12_free 41 = .ok (.iconst 1, 1) := by decide +kernel
theorem dX12_free_42 : decode cX12_free 42 = .ok (.iload_n 3, 1) := by decide +kernel
theorem dX12_free_43 : decode cX12_free 43 = .ok (.ishl, 1) := by decide +kernel
theorem dX12_free_44 : decode cX12_free 44 = .ok (.ior, 1) := by decide +kernel
theorem dX12_free_45 : decode cX12_free 45 = .ok (.istore_n 2, 1) := by decide +kernel
theorem dX12_free_46 : decode cX12_free 46 = .ok (.iinc 3 1, 3) := by decide +kernel
theorem dX12_free_49 : decode cX12_free 49 = .ok (.goto (-32), 3) := by decide +kernel
theorem dX12_free_52 : decode cX12_free 52 = .ok (.iload_n 2, 1) := by decide +kernel
theorem dX12_free_53 : decode cX12_free 53 = .ok (.ireturn, 1) := by decide +kernel
theorem dX12_meet_0 : decode cX12_meet 0 = .ok (.aload_n 0, 1) := by decide +kernel
theorem dX12_meet_1 : decode cX12_meet 1 = .ok (.iload_n 1, 1) := by decide +kernel
theorem dX12_meet_2 : decode cX12_meet 2 = .ok (.invokevirtual 378, 3) := by decide +kernel
theorem dX12_meet_5 : decode cX12_meet 5 = .ok (.ifCond .eq 25, 3) := by decide +kernel
theorem dX12_meet_8 : decode cX12_meet 8 = .ok (.aload_n 0, 1) := by decide +kernel
theorem dX12_meet_9 : decode cX12_meet 9 = .ok (.iload_n 2, 1) := by decide +kernel
theorem dX12_meet_10 : decode cX12_meet 10 = .ok (.invokevirtual 378, 3) := by decide +kernel
theorem dX12_meet_13 : decode cX12_meet 13 = .ok (.ifCond .eq 17, 3) := by decide +kernel
theorem dX12_meet_16 : decode cX12_meet 16 = .ok (.iload_n 1, 1) := by decide +kernel
theorem dX12_meet_17 : decode cX12_meet 17 = .ok (.iload_n 2, 1) := by decide +kernel
theorem dX12_meet_18 : decode cX12_meet 18 = .ok (.if_icmp .eq 12, 3) := by decide +kernel
theorem dX12_meet_21 : decode cX12_meet 21 = .ok (.iload_n 3, 1) := by decide +kernel
theorem dX12_meet_22 : decode cX12_meet 22 = .ok (.iconst 0, 1) := by decide +kernel
theorem dX12_meet_23 : decode cX12_meet 23 = .ok (.iconst 1, 1) := by decide +kernel
theorem dX12_meet_24 : decode cX12_meet 24 = .ok (.invokestatic 292, 3) := by decide +kernel
theorem dX12_meet_27 : decode cX12_meet 27 = .ok (.ifCond .ne 5, 3) := by decide +kernel
theorem dX12_meet_30 : decode cX12_meet 30 = .ok (.iconst (-1), 1) := by decide +kernel
theorem dX12_meet_31 : decode cX12_meet 31 = .ok (.ireturn, 1) := by decide +kernel
theorem dX12_meet_32 : decode cX12_meet 32 = .ok (.aload_n 0, 1) := by decide +kernel
theorem dX12_meet_33 : decode cX12_meet 33 = .ok (.invokevirtual 381, 3) := by decide +kernel
theorem dX12_meet_36 : decode cX12_meet 36 = .ok (.bipush (-2), 2) := by decide +kernel
theorem dX12_meet_38 : decode cX12_meet 38 = .ok (.istore 4, 2) := by decide +kernel
theorem dX12_meet_40 : decode cX12_meet 40 = .ok (.bipush (-2), 2) := by decide +kernel
theorem dX12_meet_42 : decode cX12_meet 42 = .ok (.istore 5, 2) := by decide +kernel
theorem dX12_meet_44 : decode cX12_meet 44 = .ok (.iconst 0, 1) := by decide +kernel
theorem dX12_meet_45 : decode cX12_meet 45 = .ok (.istore 6, 2) := by decide +kernel
theorem dX12_meet_47 : decode cX12_meet 47 = .ok (.iload 6, 2) := by decide +kernel
theorem dX12_meet_49 : decode cX12_meet 49 = .ok (.aload_n 0, 1) := by decide +kernel
theorem dX12_meet_50 : decode cX12_meet 50 = .ok (.getfield 43, 3) := by decide +kernel
theorem dX12_meet_53 : decode cX12_meet 53 = .ok (.aload_n 0, 1) := by decide +kernel
theorem dX12_meet_54 : decode cX12_meet 54 = .ok (.getfield 221, 3) := by decide +kernel
theorem dX12_meet_57 : decode cX12_meet 57 = .ok (.iaload, 1) := by decide +kernel
theorem dX12_meet_58 : decode cX12_meet 58 = .ok (.if_icmp .ge 111, 3) := by decide +kernel
theorem dX12_meet_61 : decode cX12_meet 61 = .ok (.aload_n 0, 1) := by decide +kernel
theorem dX12_meet_62 : decode cX12_meet 62 = .ok (.getfield 104, 3) := by decide +kernel
theorem dX12_meet_65 : decode cX12_meet 65 = .ok (.iload_n 1, 1) := by decide +kernel
theorem dX12_meet_66 : decode cX12_meet 66 = .ok (.iaload, 1) := by decide +kernel
theorem dX12_meet_67 : decode cX12_meet 67 = .ok (.iload 6, 2) := by decide +kernel
theorem dX12_meet_69 : decode cX12_meet 69 = .ok (.invokestatic 384, 3) := by decide +kernel
theorem dX12_meet_72 : decode cX12_meet 72 = .ok (.aload_n 0, 1) := by decide +kernel
theorem dX12_meet_73 : decode cX12_meet 73 = .ok (.getfield 104, 3) := by decide +kernel
theorem dX12_meet_76 : decode cX12_meet 76 = .ok (.iload_n 2, 1) := by decide +kernel
theorem dX12_meet_77 : decode cX12_meet 77 = .ok (.iaload, 1) := by decide +kernel
theorem dX12_meet_78 : decode cX12_meet 78 = .ok (.iload 6, 2) := by decide +kernel
theorem dX12_meet_80 : decode cX12_meet 80 = .ok (.invokestatic 384, 3) := by decide +kernel
theorem dX12_meet_83 : decode cX12_meet 83 = .ok (.if_icmp .le 17, 3) := by decide +kernel
theorem dX12_meet_86 : decode cX12_meet 86 = .ok (.aload_n 0, 1) := by decide +kernel
theorem dX12_meet_87 : decode cX12_meet 87 = .ok (.getfield 104, 3) := by decide +kernel
theorem dX12_meet_90 : decode cX12_meet 90 = .ok (.iload_n 1, 1) := by decide +kernel
theorem dX12_meet_91 : decode cX12_meet 91 = .ok (.iaload, 1) := by decide +kernel
theorem dX12_meet_92 : decode cX12_meet 92 = .ok (.iload 6, 2) := by decide +kernel
theorem dX12_meet_94 : decode cX12_meet 94 = .ok (.invokestatic 384, 3) := by decide +kernel
theorem dX12_meet_97 : decode cX12_meet 97 = .ok (.goto 14, 3) := by decide +kernel
theorem dX12_meet_100 : decode cX12_meet 100 = .ok (.aload_n 0, 1) := by decide +kernel
theorem dX12_meet_101 : decode cX12_meet 101 = .ok (.getfield 104, 3) := by decide +kernel
theorem dX12_meet_104 : decode cX12_meet 104 = .ok (.iload_n 2, 1) := by decide +kernel
theorem dX12_meet_105 : decode cX12_meet 105 = .ok (.iaload, 1) := by decide +kernel
theorem dX12_meet_106 : decode cX12_meet 106 = .ok (.iload 6, 2) := by decide +kernel
theorem dX12_meet_108 : decode cX12_meet 108 = .ok (.invokestatic 384, 3) := by decide +kernel
theorem dX12_meet_111 : decode cX12_meet 111 = .ok (.istore 7, 2) := by decide +kernel
theorem dX12_meet_113 : decode cX12_meet 113 = .ok (.aload_n 0, 1) := by decide +kernel
theorem dX12_meet_114 : decode cX12_meet 114 = .ok (.iload 6, 2) := by decide +kernel
theorem dX12_meet_116 : decode cX12_meet 116 = .ok (.aload_n 0, 1) := by decide +kernel
theorem dX12_meet_117 : decode cX12_meet 117 = .ok (.iload_n 1, 1) := by decide +kernel
theorem dX12_meet_118 : decode cX12_meet 118 = .ok (.invokevirtual 309, 3) := by decide +kernel
theorem dX12_meet_121 : decode cX12_meet 121 = .ok (.aload_n 0, 1) := by decide +kernel
theorem dX12_meet_122 : decode cX12_meet 122 = .ok (.iload_n 2, 1) := by decide +kernel
theorem dX12_meet_123 : decode cX12_meet 123 = .ok (.invokevirtual 309, 3) := by decide +kernel
theorem dX12_meet_126 : decode cX12_meet 126 = .ok (.iadd, 1) := by decide +kernel
theorem dX12_meet_127 : decode cX12_meet 127 = .ok (.iconst 1, 1) := by decide +kernel
theorem dX12_meet_128 : decode cX12_meet 128 = .ok (.iload_n 1, 1) := by decide +kernel
theorem dX12_meet_129 : decode cX12_meet 129 = .ok (.ishl, 1) := by decide +kernel
theorem dX12_meet_130 : decode cX12_meet 130 = .ok (.iconst 1, 1) := by decide +kernel
theorem dX12_meet_131 : decode cX12_meet 131 = .ok (.iload_n 2, 1) := by decide +kernel
theorem dX12_meet_132 : decode cX12_meet 132 = .ok (.ishl, 1) := by decide +kernel
theorem dX12_meet_133 : decode cX12_meet 133 = .ok (.ior, 1) := by decide +kernel
theorem dX12_meet_134 : decode cX12_meet 134 = .ok (.invokevirtual 342, 3) := by decide +kernel
theorem dX12_meet_137 : decode cX12_meet 137 = .ok (.ifCond .eq 26, 3) := by decide +kernel
theorem dX12_meet_140 : decode cX12_meet 140 = .ok (.iload 4, 2) := by decide +kernel
theorem dX12_meet_142 : decode cX12_meet 142 = .ok (.ifCond .lt 13, 3) := by decide +kernel
theorem dX12_meet_145 : decode cX12_meet 145 = .ok (.iload 7, 2) := by decide +kernel
theorem dX12_meet_147 : decode cX12_meet 147 = .ok (.iload 5, 2) := by decide +kernel
theorem dX12_meet_149 : decode cX12_meet 149 = .ok (.if_icmp .lt 6, 3) := by decide +kernel
theorem dX12_meet_152 : decode cX12_meet 152 = .ok (.goto 11, 3) := by decide +kernel
theorem dX12_meet_155 : decode cX12_meet 155 = .ok (.iload 6, 2) := by decide +kernel
theorem dX12_meet_157 : decode cX12_meet 157 = .ok (.istore 4, 2) := by decide +kernel
theorem dX12_meet_159 : decode cX12_meet 159 = .ok (.iload 7, 2) := by decide +kernel
theorem dX12_meet_161 : decode cX12_meet 161 = .ok (.istore 5, 2) := by decide +kernel
theorem dX12_meet_163 : decode cX12_meet 163 = .ok (.iinc 6 1, 3) := by decide +kernel
theorem dX12_meet_166 : decode cX12_meet 166 = .ok (.goto (-119), 3) := by decide +kernel
theorem dX12_meet_169 : decode cX12_meet 169 = .ok (.iload_n 3, 1) := by decide +kernel
theorem dX12_meet_170 : decode cX12_meet 170 = .ok (.ifCond .ne 8, 3) := by decide +kernel
theorem dX12_meet_173 : decode cX12_meet 173 = .ok (.iload 4, 2) := by decide +kernel
theorem dX12_meet_175 : decode cX12_meet 175 = .ok (.goto 5, 3) := by decide +kernel
theorem dX12_meet_178 : decode cX12_meet 178 = .ok (.iload 5, 2) := by decide +kernel
theorem dX12_meet_180 : decode cX12_meet 180 = .ok (.ireturn, 1) := by decide +kernel
theorem dX12_mendFirst_0 : decode cX12_mendFirst 0 = .ok (.aload_n 0, 1) := by decide +kernel
theorem dX12_mendFirst_1 : decode cX12_mendFirst 1 = .ok (.invokevirtual 381, 3) := by decide +kernel
theorem dX12_mendFirst_4 : decode cX12_mendFirst 4 = .ok (.aload_n 0, 1) := by decide +kernel
theorem dX12_mendFirst_5 : decode cX12_mendFirst 5 = .ok (.invokevirtual 411, 3) := by decide +kernel
theorem dX12_mendFirst_8 : decode cX12_mendFirst 8 = .ok (.istore_n 1, 1) := by decide +kernel
theorem dX12_mendFirst_9 : decode cX12_mendFirst 9 = .ok (.bipush (-2), 2) := by decide +kernel
theorem dX12_mendFirst_11 : decode cX12_mendFirst 11 = .ok (.istore_n 2, 1) := by decide +kernel
theorem dX12_mendFirst_12 : decode cX12_mendFirst 12 = .ok (.iconst 0, 1) := by decide +kernel
theorem dX12_mendFirst_13 : decode cX12_mendFirst 13 = .ok (.istore_n 3, 1) := by decide +kernel
theorem dX12_mendFirst_14 : decode cX12_mendFirst 14 = .ok (.iload_n 3, 1) := by decide +kernel
theorem dX12_mendFirst_15 : decode cX12_mendFirst 15 = .ok (.aload_n 0, 1) := by decide +kernel
theorem dX12_mendFirst_16 : decode cX12_mendFirst 16 = .ok (.getfield 43, 3) := by decide +kernel
theorem dX12_mendFirst_19 : decode cX12_mendFirst 19 = .ok (.aload_n 0, 1) := by decide +kernel
theorem dX12_mendFirst_20 : decode cX12_mendFirst 20 = .ok (.getfield 221, 3) := by decide +kernel
theorem dX12_mendFirst_23 : decode cX12_mendFirst 23 = .ok (.iaload, 1) := by decide +kernel
theorem dX12_mendFirst_24 : decode cX12_mendFirst 24 = .ok (.if_icmp .ge 58, 3) := by decide +kernel
theorem dX12_mendFirst_27 : decode cX12_mendFirst 27 = .ok (.aload_n 0, 1) := by decide +kernel
theorem dX12_mendFirst_28 : decode cX12_mendFirst 28 = .ok (.invokevirtual 381, 3) := by decide +kernel
theorem dX12_mendFirst_31 : decode cX12_mendFirst 31 = .ok (.aload_n 0, 1) := by decide +kernel
theorem dX12_mendFirst_32 : decode cX12_mendFirst 32 = .ok (.getfield 104, 3) := by decide +kernel
theorem dX12_mendFirst_35 : decode cX12_mendFirst 35 = .ok (.bipush 25, 2) := by decide +kernel
theorem dX12_mendFirst_37 : decode cX12_mendFirst 37 = .ok (.iload_n 3, 1) := by decide +kernel
theorem dX12_mendFirst_38 : decode cX12_mendFirst 38 = .ok (.iadd, 1) := by decide +kernel
theorem dX12_mendFirst_39 : decode cX12_mendFirst 39 = .ok (.iaload, 1) := by decide +kernel
theorem dX12_mendFirst_40 : decode cX12_mendFirst 40 = .ok (.ifCond .ne 6, 3) := by decide +kernel
theorem dX12_mendFirst_43 : decode cX12_mendFirst 43 = .ok (.goto 33, 3) := by decide +kernel
theorem dX12_mendFirst_46 : decode cX12_mendFirst 46 = .ok (.aload_n 0, 1) := by decide +kernel
theorem dX12_mendFirst_47 : decode cX12_mendFirst 47 = .ok (.getfield 104, 3) := by decide +kernel
theorem dX12_mendFirst_50 : decode cX12_mendFirst 50 = .ok (.bipush 25, 2) := by decide +kernel
theorem dX12_mendFirst_52 : decode cX12_mendFirst 52 = .ok (.iload_n 3, 1) := by decide +kernel
theorem dX12_mendFirst_53 : decode cX12_mendFirst 53 = .ok (.iadd, 1) := by decide +kernel
theorem dX12_mendFirst_54 : decode cX12_mendFirst 54 = .ok (.iconst 0, 1) := by decide +kernel
theorem dX12_mendFirst_55 : decode cX12_mendFirst 55 = .ok (.iastore, 1) := by decide +kernel
theorem dX12_mendFirst_56 : decode cX12_mendFirst 56 = .ok (.aload_n 0, 1) := by decide +kernel
theorem dX12_mendFirst_57 : decode cX12_mendFirst 57 = .ok (.invokevirtual 411, 3) := by decide +kernel
theorem dX12_mendFirst_60 : decode cX12_mendFirst 60 = .ok (.istore 4, 2) := by decide +kernel
theorem dX12_mendFirst_62 : decode cX12_mendFirst 62 = .ok (.iload 4, 2) := by decide +kernel
theorem dX12_mendFirst_64 : decode cX12_mendFirst 64 = .ok (.iload_n 1, 1) := by decide +kernel
theorem dX12_mendFirst_65 : decode cX12_mendFirst 65 = .ok (.if_icmp .lt 6, 3) := by decide +kernel
theorem dX12_mendFirst_68 : decode cX12_mendFirst 68 = .ok (.goto 8, 3) := by decide +kernel
theorem dX12_mendFirst_71 : decode cX12_mendFirst 71 = .ok (.iload_n 3, 1) := by decide +kernel
theorem dX12_mendFirst_72 : decode cX12_mendFirst 72 = .ok (.istore_n 2, 1) := by decide +kernel
theorem dX12_mendFirst_73 : decode cX12_mendFirst 73 = .ok (.iload 4, 2) := by decide +kernel
theorem dX12_mendFirst_75 : decode cX12_mendFirst 75 = .ok (.istore_n 1, 1) := by decide +kernel
theorem dX12_mendFirst_76 : decode cX12_mendFirst 76 = .ok (.iinc 3 1, 3) := by decide +kernel
theorem dX12_mendFirst_79 : decode cX12_mendFirst 79 = .ok (.goto (-65), 3) := by decide +kernel
theorem dX12_mendFirst_82 : decode cX12_mendFirst 82 = .ok (.iload_n 2, 1) := by decide +kernel
theorem dX12_mendFirst_83 : decode cX12_mendFirst 83 = .ok (.ireturn, 1) := by decide +kernel
theorem dX12_brokenBits_0 : decode cX12_brokenBits 0 = .ok (.iconst 0, 1) := by decide +kernel
theorem dX12_brokenBits_1 : decode cX12_brokenBits 1 = .ok (.istore_n 1, 1) := by decide +kernel
theorem dX12_brokenBits_2 : decode cX12_brokenBits 2 = .ok (.iconst 0, 1) := by decide +kernel
theorem dX12_brokenBits_3 : decode cX12_brokenBits 3 = .ok (.istore_n 2, 1) := by decide +kernel
theorem dX12_brokenBits_4 : decode cX12_brokenBits 4 = .ok (.iload_n 2, 1) := by decide +kernel
theorem dX12_brokenBits_5 : decode cX12_brokenBits 5 = .ok (.aload_n 0, 1) := by decide +kernel
theorem dX12_brokenBits_6 : decode cX12_brokenBits 6 = .ok (.getfield 43, 3) := by decide +kernel
theorem dX12_brokenBits_9 : decode cX12_brokenBits 9 = .ok (.aload_n 0, 1) := by decide +kernel
theorem dX12_brokenBits_10 : decode cX12_brokenBits 10 = .ok (.getfield 221, 3) := by decide +kernel
theorem dX12_brokenBits_13 : decode cX12_brokenBits 13 = .ok (.iaload, 1) := by decide +kernel
theorem dX12_brokenBits_14 : decode cX12_brokenBits 14 = .ok (.if_icmp .ge 28, 3) := by decide +kernel
theorem dX12_brokenBits_17 : decode cX12_brokenBits 17 = .ok (.aload_n 0, 1) := by decide +kernel
theorem dX12_brokenBits_18 : decode cX12_brokenBits 18 = .ok (.getfield 104, 3) := by decide +kernel
theorem dX12_brokenBits_21 : decode cX12_brokenBits 21 = .ok (.bipush 25, 2) := by decide +kernel
theorem dX12_brokenBits_23 : decode cX12_brokenBits 23 = .ok (.iload_n 2, 1) := by decide +kernel
theorem dX12_brokenBits_24 : decode cX12_brokenBits 24 = .ok (.iadd, 1) := by decide +kernel
theorem dX12_brokenBits_25 : decode cX12_brokenBits 25 = .ok (.iaload, 1) := by decide +kernel
theorem dX12_brokenBits_26 : decode cX12_brokenBits 26 = .ok (.iconst 1, 1) := by decide +kernel
theorem dX12_brokenBits_27 : decode cX12_brokenBits 27 = .ok (.if_icmp .ne 9, 3) := by decide +kernel
theorem dX12_brokenBits_30 : decode cX12_brokenBits 30 = .ok (.iload_n 1, 1) := by decide +kernel
theorem dX12_brokenBits_31 : decode cX12_brokenBits 31 = .ok (.iconst 1, 1) := by decide +kernel
theorem dX12_brokenBits_32 : decode cX12_brokenBits 32 = .ok (.iload_n 2, 1) := by decide +kernel
theorem dX12_brokenBits_33 : decode cX12_brokenBits 33 = .ok (.ishl, 1) := by decide +kernel
theorem dX12_brokenBits_34 : decode cX12_brokenBits 34 = .ok (.ior, 1) := by decide +kernel
theorem dX12_brokenBits_35 : decode cX12_brokenBits 35 = .ok (.istore_n 1, 1) := by decide +kernel
theorem dX12_brokenBits_36 : decode cX12_brokenBits 36 = .ok (.iinc 2 1, 3) := by decide +kernel
theorem dX12_brokenBits_39 : decode cX12_brokenBits 39 = .ok (.goto (-35), 3) := by decide +kernel
theorem dX12_brokenBits_42 : decode cX12_brokenBits 42 = .ok (.iload_n 1, 1) := by decide +kernel
theorem dX12_brokenBits_43 : decode cX12_brokenBits 43 = .ok (.ireturn, 1) := by decide +kernel
theorem dX12_then_0 : decode cX12_then 0 = .ok (.iload_n 2, 1) := by decide +kernel
theorem dX12_then_1 : decode cX12_then 1 = .ok (.invokestatic 399, 3) := by decide +kernel
theorem dX12_then_4 : decode cX12_then 4 = .ok (.ifCond .eq 25, 3) := by decide +kernel
theorem dX12_then_7 : decode cX12_then 7 = .ok (.iload_n 3, 1) := by decide +kernel
theorem dX12_then_8 : decode cX12_then 8 = .ok (.iconst 0, 1) := by decide +kernel
theorem dX12_then_9 : decode cX12_then 9 = .ok (.iconst 3, 1) := by decide +kernel
theorem dX12_then_10 : decode cX12_then 10 = .ok (.invokestatic 292, 3) := by decide +kernel
theorem dX12_then_13 : decode cX12_then 13 = .ok (.ifCond .eq 16, 3) := by decide +kernel
theorem dX12_then_16 : decode cX12_then 16 = .ok (.iload_n 3, 1) := by decide +kernel
theorem dX12_then_17 : decode cX12_then 17 = .ok (.iconst 2, 1) := by decide +kernel
theorem dX12_then_18 : decode cX12_then 18 = .ok (.if_icmp .ge 13, 3) := by decide +kernel
theorem dX12_then_21 : decode cX12_then 21 = .ok (.aload_n 0, 1) := by decide +kernel
theorem dX12_then_22 : decode cX12_then 22 = .ok (.iload_n 1, 1) := by decide +kernel
theorem dX12_then_23 : decode cX12_then 23 = .ok (.invokevirtual 378, 3) := by decide +kernel
theorem dX12_then_26 : decode cX12_then 26 = .ok (.ifCond .ne 5, 3) := by decide +kernel
theorem dX12_then_29 : decode cX12_then 29 = .ok (.iconst (-1), 1) := by decide +kernel
theorem dX12_then_30 : decode cX12_then 30 = .ok (.ireturn, 1) := by decide +kernel
theorem dX12_then_31 : decode cX12_then 31 = .ok (.aload_n 0, 1) := by decide +kernel
theorem dX12_then_32 : decode cX12_then 32 = .ok (.invokevirtual 381, 3) := by decide +kernel
theorem dX12_then_35 : decode cX12_then 35 = .ok (.aload_n 0, 1) := by decide +kernel
theorem dX12_then_36 : decode cX12_then 36 = .ok (.iload_n 2, 1) := by decide +kernel
theorem dX12_then_37 : decode cX12_then 37 = .ok (.invokevirtual 402, 3) := by decide +kernel
theorem dX12_then_40 : decode cX12_then 40 = .ok (.iload_n 3, 1) := by decide +kernel
theorem dX12_then_41 : decode cX12_then 41 = .ok (.tableswitch 60 0 2 #[27, 34, 44], 27) := by decide +kernel
theorem dX12_then_68 : decode cX12_then 68 = .ok (.aload_n 0, 1) := by decide +kernel
theorem dX12_then_69 : decode cX12_then 69 = .ok (.getfield 104, 3) := by decide +kernel
theorem dX12_then_72 : decode cX12_then 72 = .ok (.iload_n 1, 1) := by decide +kernel
theorem dX12_then_73 : decode cX12_then 73 = .ok (.iaload, 1) := by decide +kernel
theorem dX12_then_74 : decode cX12_then 74 = .ok (.ireturn, 1) := by decide +kernel
theorem dX12_then_75 : decode cX12_then 75 = .ok (.aload_n 0, 1) := by decide +kernel
theorem dX12_then_76 : decode cX12_then 76 = .ok (.getfield 104, 3) := by decide +kernel
theorem dX12_then_79 : decode cX12_then 79 = .ok (.bipush 10, 2) := by decide +kernel
theorem dX12_then_81 : decode cX12_then 81 = .ok (.iload_n 1, 1) := by decide +kernel
theorem dX12_then_82 : decode cX12_then 82 = .ok (.iadd, 1) := by decide +kernel
theorem dX12_then_83 : decode cX12_then 83 = .ok (.iaload, 1) := by decide +kernel
theorem dX12_then_84 : decode cX12_then 84 = .ok (.ireturn, 1) := by decide +kernel
theorem dX12_then_85 : decode cX12_then 85 = .ok (.aload_n 0, 1) := by decide +kernel
theorem dX12_then_86 : decode cX12_then 86 = .ok (.getfield 104, 3) := by decide +kernel
theorem dX12_then_89 : decode cX12_then 89 = .ok (.bipush 50, 2) := by decide +kernel
theorem dX12_then_91 : decode cX12_then 91 = .ok (.iaload, 1) := by decide +kernel
theorem dX12_then_92 : decode cX12_then 92 = .ok (.aload_n 0, 1) := by decide +kernel
theorem dX12_then_93 : decode cX12_then 93 = .ok (.getfield 101, 3) := by decide +kernel
theorem dX12_then_96 : decode cX12_then 96 = .ok (.bipush 50, 2) := by decide +kernel
theorem dX12_then_98 : decode cX12_then 98 = .ok (.iaload, 1) := by decide +kernel
theorem dX12_then_99 : decode cX12_then 99 = .ok (.isub, 1) := by decide +kernel
theorem dX12_then_100 : decode cX12_then 100 = .ok (.ireturn, 1) := by decide +kernel
theorem dX12_then_101 : decode cX12_then 101 = .ok (.aload_n 0, 1) := by decide +kernel
theorem dX12_then_102 : decode cX12_then 102 = .ok (.invokevirtual 442, 3) := by decide +kernel
theorem dX12_then_105 : decode cX12_then 105 = .ok (.invokestatic 445, 3) := by decide +kernel
theorem dX12_then_108 : decode cX12_then 108 = .ok (.ireturn, 1) := by decide +kernel
theorem dX12_year_0 : decode cX12_year 0 = .ok (.iload_n 1, 1) := by decide +kernel
theorem dX12_year_1 : decode cX12_year 1 = .ok (.invokestatic 399, 3) := by decide +kernel
theorem dX12_year_4 : decode cX12_year 4 = .ok (.ifCond .eq 13, 3) := by decide +kernel
theorem dX12_year_7 : decode cX12_year 7 = .ok (.iload_n 2, 1) := by decide +kernel
theorem dX12_year_8 : decode cX12_year 8 = .ok (.iconst 1, 1) := by decide +kernel
theorem dX12_year_9 : decode cX12_year 9 = .ok (.bipush 20, 2) := by decide +kernel
theorem dX12_year_11 : decode cX12_year 11 = .ok (.invokestatic 292, 3) := by decide +kernel
theorem dX12_year_14 : decode cX12_year 14 = .ok (.ifCond .ne 5, 3) := by decide +kernel
theorem dX12_year_17 : decode cX12_year 17 = .ok (.iconst (-1), 1) := by decide +kernel
theorem dX12_year_18 : decode cX12_year 18 = .ok (.ireturn, 1) := by decide +kernel
theorem dX12_year_19 : decode cX12_year 19 = .ok (.iconst 0, 1) := by decide +kernel
theorem dX12_year_20 : decode cX12_year 20 = .ok (.istore_n 3, 1) := by decide +kernel
theorem dX12_year_21 : decode cX12_year 21 = .ok (.iconst 0, 1) := by decide +kernel
theorem dX12_year_22 : decode cX12_year 22 = .ok (.istore 4, 2) := by decide +kernel
theorem dX12_year_24 : decode cX12_year 24 = .ok (.iload 4, 2) := by decide +kernel
theorem dX12_year_26 : decode cX12_year 26 = .ok (.iload_n 2, 1) := by decide +kernel
theorem dX12_year_27 : decode cX12_year 27 = .ok (.if_icmp .ge 39, 3) := by decide +kernel
theorem dX12_year_30 : decode cX12_year 30 = .ok (.aload_n 0, 1) := by decide +kernel
theorem dX12_year_31 : decode cX12_year 31 = .ok (.invokevirtual 381, 3) := by decide +kernel
theorem dX12_year_34 : decode cX12_year 34 = .ok (.aload_n 0, 1) := by decide +kernel
theorem dX12_year_35 : decode cX12_year 35 = .ok (.dup, 1) := by decide +kernel
theorem dX12_year_36 : decode cX12_year 36 = .ok (.getfield 296, 3) := by decide +kernel
theorem dX12_year_39 : decode cX12_year 39 = .ok (.iload 4, 2) := by decide +kernel
theorem dX12_year_41 : decode cX12_year 41 = .ok (.iadd, 1) := by decide +kernel
theorem dX12_year_42 : decode cX12_year 42 = .ok (.putfield 296, 3) := by decide +kernel
theorem dX12_year_45 : decode cX12_year 45 = .ok (.aload_n 0, 1) := by decide +kernel
theorem dX12_year_46 : decode cX12_year 46 = .ok (.iload_n 1, 1) := by decide +kernel
theorem dX12_year_47 : decode cX12_year 47 = .ok (.invokevirtual 402, 3) := by decide +kernel
theorem dX12_year_50 : decode cX12_year 50 = .ok (.aload_n 0, 1) := by decide +kernel
theorem dX12_year_51 : decode cX12_year 51 = .ok (.invokevirtual 408, 3) := by decide +kernel
theorem dX12_year_54 : decode cX12_year 54 = .ok (.ifCond .ne 6, 3) := by decide +kernel
theorem dX12_year_57 : decode cX12_year 57 = .ok (.iinc 3 1, 3) := by decide +kernel
theorem dX12_year_60 : decode cX12_year 60 = .ok (.iinc 4 1, 3) := by decide +kernel
theorem dX12_year_63 : decode cX12_year 63 = .ok (.goto (-39), 3) := by decide +kernel
theorem dX12_year_66 : decode cX12_year 66 = .ok (.iload_n 3, 1) := by decide +kernel
theorem dX12_year_67 : decode cX12_year 67 = .ok (.ireturn, 1) := by decide +kernel
theorem dX12_tell_0 : decode cX12_tell 0 = .ok (.aload_n 0, 1) := by decide +kernel
theorem dX12_tell_1 : decode cX12_tell 1 = .ok (.getfield 250, 3) := by decide +kernel
theorem dX12_tell_4 : decode cX12_tell 4 = .ok (.bipush 20, 2) := by decide +kernel
theorem dX12_tell_6 : decode cX12_tell 6 = .ok (.if_icmp .eq 11, 3) := by decide +kernel
theorem dX12_tell_9 : decode cX12_tell 9 = .ok (.aload_n 0, 1) := by decide +kernel
theorem dX12_tell_10 : decode cX12_tell 10 = .ok (.iload_n 1, 1) := by decide +kernel
theorem dX12_tell_11 : decode cX12_tell 11 = .ok (.invokevirtual 306, 3) := by decide +kernel
theorem dX12_tell_14 : decode cX12_tell 14 = .ok (.ifCond .ne 5, 3) := by decide +kernel
theorem dX12_tell_17 : decode cX12_tell 17 = .ok (.iconst (-1), 1) := by decide +kernel
theorem dX12_tell_18 : decode cX12_tell 18 = .ok (.ireturn, 1) := by decide +kernel
theorem dX12_tell_19 : decode cX12_tell 19 = .ok (.aload_n 0, 1) := by decide +kernel
theorem dX12_tell_20 : decode cX12_tell 20 = .ok (.getfield 128, 3) := by decide +kernel
theorem dX12_tell_23 : decode cX12_tell 23 = .ok (.aload_n 0, 1) := by decide +kernel
theorem dX12_tell_24 : decode cX12_tell 24 = .ok (.getfield 250, 3) := by decide +kernel
theorem dX12_tell_27 : decode cX12_tell 27 = .ok (.iload_n 1, 1) := by decide +kernel
theorem dX12_tell_28 : decode cX12_tell 28 = .ok (.iastore, 1) := by decide +kernel
theorem dX12_tell_29 : decode cX12_tell 29 = .ok (.aload_n 0, 1) := by decide +kernel
theorem dX12_tell_30 : decode cX12_tell 30 = .ok (.getfield 131, 3) := by decide +kernel
theorem dX12_tell_33 : decode cX12_tell 33 = .ok (.aload_n 0, 1) := by decide +kernel
theorem dX12_tell_34 : decode cX12_tell 34 = .ok (.getfield 250, 3) := by decide +kernel
theorem dX12_tell_37 : decode cX12_tell 37 = .ok (.iload_n 2, 1) := by decide +kernel
theorem dX12_tell_38 : decode cX12_tell 38 = .ok (.bastore, 1) := by decide +kernel
theorem dX12_tell_39 : decode cX12_tell 39 = .ok (.aload_n 0, 1) := by decide +kernel
theorem dX12_tell_40 : decode cX12_tell 40 = .ok (.dup, 1) := by decide +kernel
theorem dX12_tell_41 : decode cX12_tell 41 = .ok (.getfield 250, 3) := by decide +kernel
theorem dX12_tell_44 : decode cX12_tell 44 = .ok (.iconst 1, 1) := by decide +kernel
theorem dX12_tell_45 : decode cX12_tell 45 = .ok (.iadd, 1) := by decide +kernel
theorem dX12_tell_46 : decode cX12_tell 46 = .ok (.putfield 250, 3) := by decide +kernel
theorem dX12_tell_49 : decode cX12_tell 49 = .ok (.aload_n 0, 1) := by decide +kernel
theorem dX12_tell_50 : decode cX12_tell 50 = .ok (.getfield 250, 3) := by decide +kernel
theorem dX12_tell_53 : decode cX12_tell 53 = .ok (.iconst 1, 1) := by decide +kernel
theorem dX12_tell_54 : decode cX12_tell 54 = .ok (.isub, 1) := by decide +kernel
theorem dX12_tell_55 : decode cX12_tell 55 = .ok (.ireturn, 1) := by decide +kernel
theorem dX12_forget_0 : decode cX12_forget 0 = .ok (.aload_n 0, 1) := by decide +kernel
theorem dX12_forget_1 : decode cX12_forget 1 = .ok (.getfield 250, 3) := by decide +kernel
theorem dX12_forget_4 : decode cX12_forget 4 = .ok (.istore_n 1, 1) := by decide +kernel
theorem dX12_forget_5 : decode cX12_forget 5 = .ok (.aload_n 0, 1) := by decide +kernel
theorem dX12_forget_6 : decode cX12_forget 6 = .ok (.iconst 0, 1) := by decide +kernel
theorem dX12_forget_7 : decode cX12_forget 7 = .ok (.putfield 250, 3) := by decide +kernel
theorem dX12_forget_10 : decode cX12_forget 10 = .ok (.iload_n 1, 1) := by decide +kernel
theorem dX12_forget_11 : decode cX12_forget 11 = .ok (.ireturn, 1) := by decide +kernel
theorem dX12_trodBits_0 : decode cX12_trodBits 0 = .ok (.iconst 0, 1) := by decide +kernel
theorem dX12_trodBits_1 : decode cX12_trodBits 1 = .ok (.istore_n 2, 1) := by decide +kernel
theorem dX12_trodBits_2 : decode cX12_trodBits 2 = .ok (.iconst 0, 1) := by decide +kernel
theorem dX12_trodBits_3 : decode cX12_trodBits 3 = .ok (.istore_n 3, 1) := by decide +kernel
theorem dX12_trodBits_4 : decode cX12_trodBits 4 = .ok (.iload_n 3, 1) := by decide +kernel
theorem dX12_trodBits_5 : decode cX12_trodBits 5 = .ok (.aload_n 0, 1) := by decide +kernel
theorem dX12_trodBits_6 : decode cX12_trodBits 6 = .ok (.getfield 46, 3) := by decide +kernel
theorem dX12_trodBits_9 : decode cX12_trodBits 9 = .ok (.aload_n 0, 1) := by decide +kernel
theorem dX12_trodBits_10 : decode cX12_trodBits 10 = .ok (.getfield 221, 3) := by decide +kernel
theorem dX12_trodBits_13 : decode cX12_trodBits 13 = .ok (.iaload, 1) := by decide +kernel
theorem dX12_trodBits_14 : decode cX12_trodBits 14 = .ok (.if_icmp .ge 88, 3) := by decide +kernel
theorem dX12_trodBits_17 : decode cX12_trodBits 17 = .ok (.iconst 1, 1) := by decide +kernel
theorem dX12_trodBits_18 : decode cX12_trodBits 18 = .ok (.istore 4, 2) := by decide +kernel
theorem dX12_trodBits_20 : decode cX12_trodBits 20 = .ok (.iconst 0, 1) := by decide +kernel
theorem dX12_trodBits_21 : decode cX12_trodBits 21 = .ok (.istore 5, 2) := by decide +kernel
theorem dX12_trodBits_23 : decode cX12_trodBits 23 = .ok (.iload 5, 2) := by decide +kernel
theorem dX12_trodBits_25 : decode cX12_trodBits 25 = .ok (.iload_n 1, 1) := by decide +kernel
theorem dX12_trodBits_26 : decode cX12_trodBits 26 = .ok (.if_icmp .ge 59, 3) := by decide +kernel
theorem dX12_trodBits_29 : decode cX12_trodBits 29 = .ok (.aload_n 0, 1) := by decide +kernel
theorem dX12_trodBits_30 : decode cX12_trodBits 30 = .ok (.iload_n 3, 1) := by decide +kernel
theorem dX12_trodBits_31 : decode cX12_trodBits 31 = .ok (.aload_n 0, 1) := by decide +kernel
theorem dX12_trodBits_32 : decode cX12_trodBits 32 = .ok (.getfield 128, 3) := by decide +kernel
theorem dX12_trodBits_35 : decode cX12_trodBits 35 = .ok (.iload 5, 2) := by decide +kernel
theorem dX12_trodBits_37 : decode cX12_trodBits 37 = .ok (.iaload, 1) := by decide +kernel
theorem dX12_trodBits_38 : decode cX12_trodBits 38 = .ok (.invokevirtual 448, 3) := by decide +kernel
theorem dX12_trodBits_41 : decode cX12_trodBits 41 = .ok (.ifCond .eq 35, 3) := by decide +kernel
theorem dX12_trodBits_44 : decode cX12_trodBits 44 = .ok (.aload_n 0, 1) := by decide +kernel
theorem dX12_trodBits_45 : decode cX12_trodBits 45 = .ok (.getfield 101, 3) := by decide +kernel
theorem dX12_trodBits_48 : decode cX12_trodBits 48 = .ok (.iconst 5, 1) := by decide +kernel
theorem dX12_trodBits_49 : decode cX12_trodBits 49 = .ok (.iload_n 3, 1) := by decide +kernel
theorem dX12_trodBits_50 : decode cX12_trodBits 50 = .ok (.iadd, 1) := by decide +kernel
theorem dX12_trodBits_51 : decode cX12_trodBits 51 = .ok (.iaload, 1) := by decide +kernel
theorem dX12_trodBits_52 : decode cX12_trodBits 52 = .ok (.aload_n 0, 1) := by decide +kernel
theorem dX12_trodBits_53 : decode cX12_trodBits 53 = .ok (.getfield 101, 3) := by decide +kernel
theorem dX12_trodBits_56 : decode cX12_trodBits 56 = .ok (.iload_n 3, 1) := by decide +kernel
theorem dX12_trodBits_57 : decode cX12_trodBits 57 = .ok (.iaload, 1) := by decide +kernel
theorem dX12_trodBits_58 : decode cX12_trodBits 58 = .ok (.if_icmp .le 7, 3) := by decide +kernel
theorem dX12_trodBits_61 : decode cX12_trodBits 61 = .ok (.iconst 1, 1) := by decide +kernel
theorem dX12_trodBits_62 : decode cX12_trodBits 62 = .ok (.goto 4, 3) := by decide +kernel
theorem dX12_trodBits_65 : decode cX12_trodBits 65 = .ok (.iconst 0, 1) := by decide +kernel
theorem dX12_trodBits_66 : decode cX12_trodBits 66 = .ok (.aload_n 0, 1) := by decide +kernel
theorem dX12_trodBits_67 : decode cX12_trodBits 67 = .ok (.getfield 131, 3) := by decide +kernel
theorem dX12_trodBits_70 : decode cX12_trodBits 70 = .ok (.iload 5, 2) := by decide +kernel
theorem dX12_trodBits_72 : decode cX12_trodBits 72 = .ok (.baload, 1) := by decide +kernel
theorem dX12_trodBits_73 : decode cX12_trodBits 73 = .ok (.if_icmp .eq 6, 3) := by decide +kernel
theorem dX12_trodBits_76 : decode cX12_trodBits 76 = .ok (.iconst 0, 1) := by decide +kernel
theorem dX12_trodBits_77 : decode cX12_trodBits 77 = .ok (.istore 4, 2) := by decide +kernel
theorem dX12_trodBits_79 : decode cX12_trodBits 79 = .ok (.iinc 5 1, 3) := by decide +kernel
theorem dX12_trodBits_82 : decode cX12_trodBits 82 = .ok (.goto (-59), 3) := by decide +kernel
theorem dX12_trodBits_85 : decode cX12_trodBits 85 = .ok (.iload 4, 2) := by decide +kernel
theorem dX12_trodBits_87 : decode cX12_trodBits 87 = .ok (.ifCond .eq 9, 3) := by decide +kernel
theorem dX12_trodBits_90 : decode cX12_trodBits 90 = .ok (.iload_n 2, 1) := by decide +kernel
theorem dX12_trodBits_91 : decode cX12_trodBits 91 = .ok (.iconst 1, 1) := by decide +kernel
theorem dX12_trodBits_92 : decode cX12_trodBits 92 = .ok (.iload_n 3, 1) := by decide +kernel
theorem dX12_trodBits_93 : decode cX12_trodBits 93 = .ok (.ishl, 1) := by decide +kernel
theorem dX12_trodBits_94 : decode cX12_trodBits 94 = .ok (.ior, 1) := by decide +kernel
theorem dX12_trodBits_95 : decode cX12_trodBits 95 = .ok (.istore_n 2, 1) := by decide +kernel
theorem dX12_trodBits_96 : decode cX12_trodBits 96 = .ok (.iinc 3 1, 3) := by decide +kernel
theorem dX12_trodBits_99 : decode cX12_trodBits 99 = .ok (.goto (-95), 3) := by decide +kernel
theorem dX12_trodBits_102 : decode cX12_trodBits 102 = .ok (.iload_n 2, 1) := by decide +kernel
theorem dX12_trodBits_103 : decode cX12_trodBits 103 = .ok (.ireturn, 1) := by decide +kernel
theorem dX12_trod_0 : decode cX12_trod 0 = .ok (.iload_n 1, 1) := by decide +kernel
theorem dX12_trod_1 : decode cX12_trod 1 = .ok (.iconst 0, 1) := by decide +kernel
theorem dX12_trod_2 : decode cX12_trod 2 = .ok (.aload_n 0, 1) := by decide +kernel
theorem dX12_trod_3 : decode cX12_trod 3 = .ok (.getfield 250, 3) := by decide +kernel
theorem dX12_trod_6 : decode cX12_trod 6 = .ok (.invokestatic 292, 3) := by decide +kernel
theorem dX12_trod_9 : decode cX12_trod 9 = .ok (.ifCond .eq 12, 3) := by decide +kernel
theorem dX12_trod_12 : decode cX12_trod 12 = .ok (.iload_n 2, 1) := by decide +kernel
theorem dX12_trod_13 : decode cX12_trod 13 = .ok (.iconst 0, 1) := by decide +kernel
theorem dX12_trod_14 : decode cX12_trod 14 = .ok (.iconst 1, 1) := by decide +kernel
theorem dX12_trod_15 : decode cX12_trod 15 = .ok (.invokestatic 292, 3) := by decide +kernel
theorem dX12_trod_18 : decode cX12_trod 18 = .ok (.ifCond .ne 5, 3) := by decide +kernel
theorem dX12_trod_21 : decode cX12_trod 21 = .ok (.iconst (-1), 1) := by decide +kernel
theorem dX12_trod_22 : decode cX12_trod 22 = .ok (.ireturn, 1) := by decide +kernel
theorem dX12_trod_23 : decode cX12_trod 23 = .ok (.aload_n 0, 1) := by decide +kernel
theorem dX12_trod_24 : decode cX12_trod 24 = .ok (.iload_n 1, 1) := by decide +kernel
theorem dX12_trod_25 : decode cX12_trod 25 = .ok (.invokevirtual 451, 3) := by decide +kernel
theorem dX12_trod_28 : decode cX12_trod 28 = .ok (.istore_n 3, 1) := by decide +kernel
theorem dX12_trod_29 : decode cX12_trod 29 = .ok (.iload_n 2, 1) := by decide +kernel
theorem dX12_trod_30 : decode cX12_trod 30 = .ok (.ifCond .ne 10, 3) := by decide +kernel
theorem dX12_trod_33 : decode cX12_trod 33 = .ok (.iload_n 3, 1) := by decide +kernel
theorem dX12_trod_34 : decode cX12_trod 34 = .ok (.invokestatic 445, 3) := by decide +kernel
theorem dX12_trod_37 : decode cX12_trod 37 = .ok (.goto 4, 3) := by decide +kernel
theorem dX12_trod_40 : decode cX12_trod 40 = .ok (.iload_n 3, 1) := by decide +kernel
theorem dX12_trod_41 : decode cX12_trod 41 = .ok (.ireturn, 1) := by decide +kernel
theorem dX12_ask_0 : decode cX12_ask 0 = .ok (.iload_n 1, 1) := by decide +kernel
theorem dX12_ask_1 : decode cX12_ask 1 = .ok (.iconst 0, 1) := by decide +kernel
theorem dX12_ask_2 : decode cX12_ask 2 = .ok (.aload_n 0, 1) := by decide +kernel
theorem dX12_ask_3 : decode cX12_ask 3 = .ok (.getfield 250, 3) := by decide +kernel
theorem dX12_ask_6 : decode cX12_ask 6 = .ok (.invokestatic 292, 3) := by decide +kernel
theorem dX12_ask_9 : decode cX12_ask 9 = .ok (.ifCond .ne 5, 3) := by decide +kernel
theorem dX12_ask_12 : decode cX12_ask 12 = .ok (.iconst (-1), 1) := by decide +kernel
theorem dX12_ask_13 : decode cX12_ask 13 = .ok (.ireturn, 1) := by decide +kernel
theorem dX12_ask_14 : decode cX12_ask 14 = .ok (.aload_n 0, 1) := by decide +kernel
theorem dX12_ask_15 : decode cX12_ask 15 = .ok (.iload_n 1, 1) := by decide +kernel
theorem dX12_ask_16 : decode cX12_ask 16 = .ok (.invokevirtual 451, 3) := by decide +kernel
theorem dX12_ask_19 : decode cX12_ask 19 = .ok (.istore_n 2, 1) := by decide +kernel
theorem dX12_ask_20 : decode cX12_ask 20 = .ok (.bipush (-2), 2) := by decide +kernel
theorem dX12_ask_22 : decode cX12_ask 22 = .ok (.istore_n 3, 1) := by decide +kernel
theorem dX12_ask_23 : decode cX12_ask 23 = .ok (.iconst 0, 1) := by decide +kernel
theorem dX12_ask_24 : decode cX12_ask 24 = .ok (.istore 4, 2) := by decide +kernel
theorem dX12_ask_26 : decode cX12_ask 26 = .ok (.iconst 0, 1) := by decide +kernel
theorem dX12_ask_27 : decode cX12_ask 27 = .ok (.istore 5, 2) := by decide +kernel
theorem dX12_ask_29 : decode cX12_ask 29 = .ok (.iload 5, 2) := by decide +kernel
theorem dX12_ask_31 : decode cX12_ask 31 = .ok (.aload_n 0, 1) := by decide +kernel
theorem dX12_ask_32 : decode cX12_ask 32 = .ok (.getfield 43, 3) := by decide +kernel
theorem dX12_ask_35 : decode cX12_ask 35 = .ok (.aload_n 0, 1) := by decide +kernel
theorem dX12_ask_36 : decode cX12_ask 36 = .ok (.getfield 221, 3) := by decide +kernel
theorem dX12_ask_39 : decode cX12_ask 39 = .ok (.iaload, 1) := by decide +kernel
theorem dX12_ask_40 : decode cX12_ask 40 = .ok (.if_icmp .ge 110, 3) := by decide +kernel
theorem dX12_ask_43 : decode cX12_ask 43 = .ok (.iload_n 2, 1) := by decide +kernel
theorem dX12_ask_44 : decode cX12_ask 44 = .ok (.ifCond .eq 106, 3) := by decide +kernel
theorem dX12_ask_47 : decode cX12_ask 47 = .ok (.iconst 0, 1) := by decide +kernel
theorem dX12_ask_48 : decode cX12_ask 48 = .ok (.istore 6, 2) := by decide +kernel
theorem dX12_ask_50 : decode cX12_ask 50 = .ok (.iconst 0, 1) := by decide +kernel
theorem dX12_ask_51 : decode cX12_ask 51 = .ok (.istore 7, 2) := by decide +kernel
theorem dX12_ask_53 : decode cX12_ask 53 = .ok (.iload 7, 2) := by decide +kernel
theorem dX12_ask_55 : decode cX12_ask 55 = .ok (.aload_n 0, 1) := by decide +kernel
theorem dX12_ask_56 : decode cX12_ask 56 = .ok (.getfield 46, 3) := by decide +kernel
theorem dX12_ask_59 : decode cX12_ask 59 = .ok (.aload_n 0, 1) := by decide +kernel
theorem dX12_ask_60 : decode cX12_ask 60 = .ok (.getfield 221, 3) := by decide +kernel
theorem dX12_ask_63 : decode cX12_ask 63 = .ok (.iaload, 1) := by decide +kernel
theorem dX12_ask_64 : decode cX12_ask 64 = .ok (.if_icmp .ge 33, 3) := by decide +kernel
theorem dX12_ask_67 : decode cX12_ask 67 = .ok (.iload_n 2, 1) := by decide +kernel
theorem dX12_ask_68 : decode cX12_ask 68 = .ok (.iload 7, 2) := by decide +kernel
theorem dX12_ask_70 : decode cX12_ask 70 = .ok (.ishr, 1) := by decide +kernel
theorem dX12_ask_71 : decode cX12_ask 71 = .ok (.iconst 1, 1) := by decide +kernel
theorem dX12_ask_72 : decode cX12_ask 72 = .ok (.iand, 1) := by decide +kernel
theorem dX12_ask_73 : decode cX12_ask 73 = .ok (.iconst 1, 1) := by decide +kernel
theorem dX12_ask_74 : decode cX12_ask 74 = .ok (.if_icmp .ne 17, 3) := by decide +kernel
theorem dX12_ask_77 : decode cX12_ask 77 = .ok (.aload_n 0, 1) := by decide +kernel
theorem dX12_ask_78 : decode cX12_ask 78 = .ok (.iload 7, 2) := by decide +kernel
theorem dX12_ask_80 : decode cX12_ask 80 = .ok (.iload 5, 2) := by decide +kernel
theorem dX12_ask_82 : decode cX12_ask 82 = .ok (.invokevirtual 448, 3) := by decide +kernel
theorem dX12_ask_85 : decode cX12_ask 85 = .ok (.ifCond .eq 6, 3) := by decide +kernel
theorem dX12_ask_88 : decode cX12_ask 88 = .ok (.iinc 6 1, 3) := by decide +kernel
theorem dX12_ask_91 : decode cX12_ask 91 = .ok (.iinc 7 1, 3) := by decide +kernel
theorem dX12_ask_94 : decode cX12_ask 94 = .ok (.goto (-41), 3) := by decide +kernel
theorem dX12_ask_97 : decode cX12_ask 97 = .ok (.iload 6, 2) := by decide +kernel
theorem dX12_ask_99 : decode cX12_ask 99 = .ok (.iload_n 2, 1) := by decide +kernel
theorem dX12_ask_100 : decode cX12_ask 100 = .ok (.invokestatic 445, 3) := by decide +kernel
theorem dX12_ask_103 : decode cX12_ask 103 = .ok (.iload 6, 2) := by decide +kernel
theorem dX12_ask_105 : decode cX12_ask 105 = .ok (.isub, 1) := by decide +kernel
theorem dX12_ask_106 : decode cX12_ask 106 = .ok (.if_icmp .le 8, 3) := by decide +kernel
theorem dX12_ask_109 : decode cX12_ask 109 = .ok (.iload 6, 2) := by decide +kernel
theorem dX12_ask_111 : decode cX12_ask 111 = .ok (.goto 10, 3) := by decide +kernel
theorem dX12_ask_114 : decode cX12_ask 114 = .ok (.iload_n 2, 1) := by decide +kernel
theorem dX12_ask_115 : decode cX12_ask 115 = .ok (.invokestatic 445, 3) := by decide +kernel
theorem dX12_ask_118 : decode cX12_ask 118 = .ok (.iload 6, 2) := by decide +kernel
theorem dX12_ask_120 : decode cX12_ask 120 = .ok (.isub, 1) := by decide +kernel
theorem dX12_ask_121 : decode cX12_ask 121 = .ok (.istore 7, 2) := by decide +kernel
theorem dX12_ask_123 : decode cX12_ask 123 = .ok (.iload_n 3, 1) := by decide +kernel
theorem dX12_ask_124 : decode cX12_ask 124 = .ok (.ifCond .lt 13, 3) := by decide +kernel
theorem dX12_ask_127 : decode cX12_ask 127 = .ok (.iload 7, 2) := by decide +kernel
theorem dX12_ask_129 : decode cX12_ask 129 = .ok (.iload 4, 2) := by decide +kernel
theorem dX12_ask_131 : decode cX12_ask 131 = .ok (.if_icmp .lt 6, 3) := by decide +kernel
theorem dX12_ask_134 : decode cX12_ask 134 = .ok (.goto 10, 3) := by decide +kernel
theorem dX12_ask_137 : decode cX12_ask 137 = .ok (.iload 5, 2) := by decide +kernel
theorem dX12_ask_139 : decode cX12_ask 139 = .ok (.istore_n 3, 1) := by decide +kernel
theorem dX12_ask_140 : decode cX12_ask 140 = .ok (.iload 7, 2) := by decide +kernel
theorem dX12_ask_142 : decode cX12_ask 142 = .ok (.istore 4, 2) := by decide +kernel
theorem dX12_ask_144 : decode cX12_ask 144 = .ok (.iinc 5 1, 3) := by decide +kernel
theorem dX12_ask_147 : decode cX12_ask 147 = .ok (.goto (-118), 3) := by decide +kernel
theorem dX12_ask_150 : decode cX12_ask 150 = .ok (.iload_n 3, 1) := by decide +kernel
theorem dX12_ask_151 : decode cX12_ask 151 = .ok (.ireturn, 1) := by decide +kernel
theorem dX12_hold_0 : decode cX12_hold 0 = .ok (.iload_n 1, 1) := by decide +kernel
theorem dX12_hold_1 : decode cX12_hold 1 = .ok (.iconst 0, 1) := by decide +kernel
theorem dX12_hold_2 : decode cX12_hold 2 = .ok (.iconst 2, 1) := by decide +kernel
theorem dX12_hold_3 : decode cX12_hold 3 = .ok (.invokestatic 292, 3) := by decide +kernel
theorem dX12_hold_6 : decode cX12_hold 6 = .ok (.ifCond .ne 5, 3) := by decide +kernel
theorem dX12_hold_9 : decode cX12_hold 9 = .ok (.iconst 0, 1) := by decide +kernel
theorem dX12_hold_10 : decode cX12_hold 10 = .ok (.ireturn, 1) := by decide +kernel
theorem dX12_hold_11 : decode cX12_hold 11 = .ok (.aload_n 0, 1) := by decide +kernel
theorem dX12_hold_12 : decode cX12_hold 12 = .ok (.getfield 134, 3) := by decide +kernel
theorem dX12_hold_15 : decode cX12_hold 15 = .ok (.iload_n 1, 1) := by decide +kernel
theorem dX12_hold_16 : decode cX12_hold 16 = .ok (.iconst 1, 1) := by decide +kernel
theorem dX12_hold_17 : decode cX12_hold 17 = .ok (.bastore, 1) := by decide +kernel
theorem dX12_hold_18 : decode cX12_hold 18 = .ok (.iconst 0, 1) := by decide +kernel
theorem dX12_hold_19 : decode cX12_hold 19 = .ok (.istore_n 2, 1) := by decide +kernel
theorem dX12_hold_20 : decode cX12_hold 20 = .ok (.iload_n 2, 1) := by decide +kernel
theorem dX12_hold_21 : decode cX12_hold 21 = .ok (.bipush 51, 2) := by decide +kernel
theorem dX12_hold_23 : decode cX12_hold 23 = .ok (.if_icmp .ge 26, 3) := by decide +kernel
theorem dX12_hold_26 : decode cX12_hold 26 = .ok (.aload_n 0, 1) := by decide +kernel
theorem dX12_hold_27 : decode cX12_hold 27 = .ok (.getfield 137, 3) := by decide +kernel
theorem dX12_hold_30 : decode cX12_hold 30 = .ok (.bipush 51, 2) := by decide +kernel
theorem dX12_hold_32 : decode cX12_hold 32 = .ok (.iload_n 1, 1) := by decide +kernel
theorem dX12_hold_33 : decode cX12_hold 33 = .ok (.imul, 1) := by decide +kernel
theorem dX12_hold_34 : decode cX12_hold 34 = .ok (.iload_n 2, 1) := by decide +kernel
theorem dX12_hold_35 : decode cX12_hold 35 = .ok (.iadd, 1) := by decide +kernel
theorem dX12_hold_36 : decode cX12_hold 36 = .ok (.aload_n 0, 1) := by decide +kernel
theorem dX12_hold_37 : decode cX12_hold 37 = .ok (.getfield 101, 3) := by decide +kernel
theorem dX12_hold_40 : decode cX12_hold 40 = .ok (.iload_n 2, 1) := by decide +kernel
theorem dX12_hold_41 : decode cX12_hold 41 = .ok (.iaload, 1) := by decide +kernel
theorem dX12_hold_42 : decode cX12_hold 42 = .ok (.iastore, 1) := by decide +kernel
theorem dX12_hold_43 : decode cX12_hold 43 = .ok (.iinc 2 1, 3) := by decide +kernel
theorem dX12_hold_46 : decode cX12_hold 46 = .ok (.goto (-26), 3) := by decide +kernel
theorem dX12_hold_49 : decode cX12_hold 49 = .ok (.iconst 1, 1) := by decide +kernel
theorem dX12_hold_50 : decode cX12_hold 50 = .ok (.ireturn, 1) := by decide +kernel
theorem dX12_restore_0 : decode cX12_restore 0 = .ok (.iload_n 1, 1) := by decide +kernel
theorem dX12_restore_1 : decode cX12_restore 1 = .ok (.iconst 0, 1) := by decide +kernel
theorem dX12_restore_2 : decode cX12_restore 2 = .ok (.iconst 2, 1) := by decide +kernel
theorem dX12_restore_3 : decode cX12_restore 3 = .ok (.invokestatic 292, 3) := by decide +kernel
theorem dX12_restore_6 : decode cX12_restore 6 = .ok (.ifCond .eq 12, 3) := by decide +kernel
theorem dX12_restore_9 : decode cX12_restore 9 = .ok (.aload_n 0, 1) := by decide +kernel
theorem dX12_restore_10 : decode cX12_restore 10 = .ok (.getfield 134, 3) := by decide +kernel
theorem dX12_restore_13 : decode cX12_restore 13 = .ok (.iload_n 1, 1) := by decide +kernel
theorem dX12_restore_14 : decode cX12_restore 14 = .ok (.baload, 1) := by decide +kernel
theorem dX12_restore_15 : decode cX12_restore 15 = .ok (.ifCond .ne 5, 3) := by decide +kernel
theorem dX12_restore_18 : decode cX12_restore 18 = .ok (.iconst 0, 1) := by decide +kernel
theorem dX12_restore_19 : decode cX12_restore 19 = .ok (.ireturn, 1) := by decide +kernel
theorem dX12_restore_20 : decode cX12_restore 20 = .ok (.iconst 0, 1) := by decide +kernel
theorem dX12_restore_21 : decode cX12_restore 21 = .ok (.istore_n 2, 1) := by decide +kernel
theorem dX12_restore_22 : decode cX12_restore 22 = .ok (.iload_n 2, 1) := by decide +kernel
theorem dX12_restore_23 : decode cX12_restore 23 = .ok (.bipush 51, 2) := by decide +kernel
theorem dX12_restore_25 : decode cX12_restore 25 = .ok (.if_icmp .ge 26, 3) := by decide +kernel
theorem dX12_restore_28 : decode cX12_restore 28 = .ok (.aload_n 0, 1) := by decide +kernel
theorem dX12_restore_29 : decode cX12_restore 29 = .ok (.getfield 101, 3) := by decide +kernel
theorem dX12_restore_32 : decode cX12_restore 32 = .ok (.iload_n 2, 1) := by decide +kernel
theorem dX12_restore_33 : decode cX12_restore 33 = .ok (.aload_n 0, 1) := by decide +kernel
theorem dX12_restore_34 : decode cX12_restore 34 = .ok (.getfield 137, 3) := by decide +kernel
theorem dX12_restore_37 : decode cX12_restore 37 = .ok (.bipush 51, 2) := by decide +kernel
theorem dX12_restore_39 : decode cX12_restore 39 = .ok (.iload_n 1, 1) := by decide +kernel
theorem dX12_restore_40 : decode cX12_restore 40 = .ok (.imul, 1) := by decide +kernel
theorem dX12_restore_41 : decode cX12_restore 41 = .ok (.iload_n 2, 1) := by decide +kernel
theorem dX12_restore_42 : decode cX12_restore 42 = .ok (.iadd, 1) := by decide +kernel
theorem dX12_restore_43 : decode cX12_restore 43 = .ok (.iaload, 1) := by decide +kernel
theorem dX12_restore_44 : decode cX12_restore 44 = .ok (.iastore, 1) := by decide +kernel
theorem dX12_restore_45 : decode cX12_restore 45 = .ok (.iinc 2 1, 3) := by decide +kernel
theorem dX12_restore_48 : decode cX12_restore 48 = .ok (.goto (-26), 3) := by decide +kernel
theorem dX12_restore_51 : decode cX12_restore 51 = .ok (.aload_n 0, 1) := by decide +kernel
theorem dX12_restore_52 : decode cX12_restore 52 = .ok (.iconst 0, 1) := by decide +kernel
theorem dX12_restore_53 : decode cX12_restore 53 = .ok (.putfield 247, 3) := by decide +kernel
theorem dX12_restore_56 : decode cX12_restore 56 = .ok (.iconst 1, 1) := by decide +kernel
theorem dX12_restore_57 : decode cX12_restore 57 = .ok (.ireturn, 1) := by decide +kernel
theorem dX12_sumNow_0 : decode cX12_sumNow 0 = .ok (.iconst 0, 1) := by decide +kernel
theorem dX12_sumNow_1 : decode cX12_sumNow 1 = .ok (.istore_n 2, 1) := by decide +kernel
theorem dX12_sumNow_2 : decode cX12_sumNow 2 = .ok (.iload_n 1, 1) := by decide +kernel
theorem dX12_sumNow_3 : decode cX12_sumNow 3 = .ok (.istore_n 3, 1) := by decide +kernel
theorem dX12_sumNow_4 : decode cX12_sumNow 4 = .ok (.iload_n 3, 1) := by decide +kernel
theorem dX12_sumNow_5 : decode cX12_sumNow 5 = .ok (.iload_n 1, 1) := by decide +kernel
theorem dX12_sumNow_6 : decode cX12_sumNow 6 = .ok (.iconst 5, 1) := by decide +kernel
theorem dX12_sumNow_7 : decode cX12_sumNow 7 = .ok (.iadd, 1) := by decide +kernel
theorem dX12_sumNow_8 : decode cX12_sumNow 8 = .ok (.if_icmp .ge 18, 3) := by decide +kernel
theorem dX12_sumNow_11 : decode cX12_sumNow 11 = .ok (.iload_n 2, 1) := by decide +kernel
theorem dX12_sumNow_12 : decode cX12_sumNow 12 = .ok (.aload_n 0, 1) := by decide +kernel
theorem dX12_sumNow_13 : decode cX12_sumNow 13 = .ok (.getfield 101, 3) := by decide +kernel
theorem dX12_sumNow_16 : decode cX12_sumNow 16 = .ok (.iload_n 3, 1) := by decide +kernel
theorem dX12_sumNow_17 : decode cX12_sumNow 17 = .ok (.iaload, 1) := by decide +kernel
theorem dX12_sumNow_18 : decode cX12_sumNow 18 = .ok (.iadd, 1) := by decide +kernel
theorem dX12_sumNow_19 : decode cX12_sumNow 19 = .ok (.istore_n 2, 1) := by decide +kernel
theorem dX12_sumNow_20 : decode cX12_sumNow 20 = .ok (.iinc 3 1, 3) := by decide +kernel
theorem dX12_sumNow_23 : decode cX12_sumNow 23 = .ok (.goto (-19), 3) := by decide +kernel
theorem dX12_sumNow_26 : decode cX12_sumNow 26 = .ok (.iload_n 2, 1) := by decide +kernel
theorem dX12_sumNow_27 : decode cX12_sumNow 27 = .ok (.ireturn, 1) := by decide +kernel
theorem dX12_count_0 : decode cX12_count 0 = .ok (.aload_n 0, 1) := by decide +kernel
theorem dX12_count_1 : decode cX12_count 1 = .ok (.invokevirtual 381, 3) := by decide +kernel
theorem dX12_count_4 : decode cX12_count 4 = .ok (.iconst 0, 1) := by decide +kernel
theorem dX12_count_5 : decode cX12_count 5 = .ok (.istore_n 2, 1) := by decide +kernel
theorem dX12_count_6 : decode cX12_count 6 = .ok (.iload_n 1, 1) := by decide +kernel
theorem dX12_count_7 : decode cX12_count 7 = .ok (.tableswitch 333 0 16 #[81, 91, 101, 109, 117, 122, 127, 134, 141, 146, 151, 156, 201, 208, 250, 257, 294], 81) := by decide +kernel
theorem dX12_count_88 : decode cX12_count 88 = .ok (.aload_n 0, 1) := by decide +kernel
theorem dX12_count_89 : decode cX12_count 89 = .ok (.getfield 43, 3) := by decide +kernel
theorem dX12_count_92 : decode cX12_count 92 = .ok (.aload_n 0, 1) := by decide +kernel
theorem dX12_count_93 : decode cX12_count 93 = .ok (.getfield 221, 3) := by decide +kernel
theorem dX12_count_96 : decode cX12_count 96 = .ok (.iaload, 1) := by decide +kernel
theorem dX12_count_97 : decode cX12_count 97 = .ok (.ireturn, 1) := by decide +kernel
theorem dX12_count_98 : decode cX12_count 98 = .ok (.aload_n 0, 1) := by decide +kernel
theorem dX12_count_99 : decode cX12_count 99 = .ok (.getfield 46, 3) := by decide +kernel
theorem dX12_count_102 : decode cX12_count 102 = .ok (.aload_n 0, 1) := by decide +kernel
theorem dX12_count_103 : decode cX12_count 103 = .ok (.getfield 221, 3) := by decide +kernel
theorem dX12_count_106 : decode cX12_count 106 = .ok (.iaload, 1) := by decide +kernel
theorem dX12_count_107 : decode cX12_count 107 = .ok (.ireturn, 1) := by decide +kernel
theorem dX12_count_108 : decode cX12_count 108 = .ok (.aload_n 0, 1) := by decide +kernel
theorem dX12_count_109 : decode cX12_count 109 = .ok (.getfield 104, 3) := by decide +kernel
theorem dX12_count_112 : decode cX12_count 112 = .ok (.bipush 49, 2) := by decide +kernel
theorem dX12_count_114 : decode cX12_count 114 = .ok (.iaload, 1) := by decide +kernel
theorem dX12_count_115 : decode cX12_count 115 = .ok (.ireturn, 1) := by decide +kernel
theorem dX12_count_116 : decode cX12_count 116 = .ok (.aload_n 0, 1) := by decide +kernel
theorem dX12_count_117 : decode cX12_count 117 = .ok (.getfield 104, 3) := by decide +kernel
theorem dX12_count_120 : decode cX12_count 120 = .ok (.bipush 50, 2) := by decide +kernel
theorem dX12_count_122 : decode cX12_count 122 = .ok (.iaload, 1) := by decide +kernel
theorem dX12_count_123 : decode cX12_count 123 = .ok (.ireturn, 1) := by decide +kernel
theorem dX12_count_124 : decode cX12_count 124 = .ok (.aload_n 0, 1) := by decide +kernel
theorem dX12_count_125 : decode cX12_count 125 = .ok (.invokevirtual 442, 3) := by decide +kernel
theorem dX12_count_128 : decode cX12_count 128 = .ok (.ireturn, 1) := by decide +kernel
theorem dX12_count_129 : decode cX12_count 129 = .ok (.aload_n 0, 1) := by decide +kernel
theorem dX12_count_130 : decode cX12_count 130 = .ok (.invokevirtual 408, 3) := by decide +kernel
theorem dX12_count_133 : decode cX12_count 133 = .ok (.ireturn, 1) := by decide +kernel
theorem dX12_count_134 : decode cX12_count 134 = .ok (.aload_n 0, 1) := by decide +kernel
theorem dX12_count_135 : decode cX12_count 135 = .ok (.bipush 15, 2) := by decide +kernel
theorem dX12_count_137 : decode cX12_count 137 = .ok (.invokevirtual 454, 3) := by decide +kernel
theorem dX12_count_140 : decode cX12_count 140 = .ok (.ireturn, 1) := by decide +kernel
theorem dX12_count_141 : decode cX12_count 141 = .ok (.aload_n 0, 1) := by decide +kernel
theorem dX12_count_142 : decode cX12_count 142 = .ok (.bipush 20, 2) := by decide +kernel
theorem dX12_count_144 : decode cX12_count 144 = .ok (.invokevirtual 454, 3) := by decide +kernel
theorem dX12_count_147 : decode cX12_count 147 = .ok (.ireturn, 1) := by decide +kernel
theorem dX12_count_148 : decode cX12_count 148 = .ok (.aload_n 0, 1) := by decide +kernel
theorem dX12_count_149 : decode cX12_count 149 = .ok (.getfield 154, 3) := by decide +kernel
theorem dX12_count_152 : decode cX12_count 152 = .ok (.ireturn, 1) := by decide +kernel
theorem dX12_count_153 : decode cX12_count 153 = .ok (.aload_n 0, 1) := by decide +kernel
theorem dX12_count_154 : decode cX12_count 154 = .ok (.getfield 247, 3) := by decide +kernel
theorem dX12_count_157 : decode cX12_count 157 = .ok (.ireturn, 1) := by decide +kernel
theorem dX12_count_158 : decode cX12_count 158 = .ok (.aload_n 0, 1) := by decide +kernel
theorem dX12_count_159 : decode cX12_count 159 = .ok (.getfield 250, 3) := by decide +kernel
theorem dX12_count_162 : decode cX12_count 162 = .ok (.ireturn, 1) := by decide +kernel
theorem dX12_count_163 : decode cX12_count 163 = .ok (.aload_n 0, 1) := by decide +kernel
theorem dX12_count_164 : decode cX12_count 164 = .ok (.getfield 134, 3) := by decide +kernel
theorem dX12_count_167 : decode cX12_count 167 = .ok (.iconst 0, 1) := by decide +kernel
theorem dX12_count_168 : decode cX12_count 168 = .ok (.baload, 1) := by decide +kernel
theorem dX12_count_169 : decode cX12_count 169 = .ok (.ifCond .eq 7, 3) := by decide +kernel
theorem dX12_count_172 : decode cX12_count 172 = .ok (.iconst 1, 1) := by decide +kernel
theorem dX12_count_173 : decode cX12_count 173 = .ok (.goto 4, 3) := by decide +kernel
theorem dX12_count_176 : decode cX12_count 176 = .ok (.iconst 0, 1) := by decide +kernel
theorem dX12_count_177 : decode cX12_count 177 = .ok (.aload_n 0, 1) := by decide +kernel
theorem dX12_count_178 : decode cX12_count 178 = .ok (.getfield 134, 3) := by decide +kernel
theorem dX12_count_181 : decode cX12_count 181 = .ok (.iconst 1, 1) := by decide +kernel
theorem dX12_count_182 : decode cX12_count 182 = .ok (.baload, 1) := by decide +kernel
theorem dX12_count_183 : decode cX12_count 183 = .ok (.ifCond .eq 7, 3) := by decide +kernel
theorem dX12_count_186 : decode cX12_count 186 = .ok (.iconst 1, 1) := by decide +kernel
theorem dX12_count_187 : decode cX12_count 187 = .ok (.goto 4, 3) := by decide +kernel
theorem dX12_count_190 : decode cX12_count 190 = .ok (.iconst 0, 1) := by decide +kernel
theorem dX12_count_191 : decode cX12_count 191 = .ok (.iadd, 1) := by decide +kernel
theorem dX12_count_192 : decode cX12_count 192 = .ok (.aload_n 0, 1) := by decide +kernel
theorem dX12_count_193 : decode cX12_count 193 = .ok (.getfield 134, 3) := by decide +kernel
theorem dX12_count_196 : decode cX12_count 196 = .ok (.iconst 2, 1) := by decide +kernel
theorem dX12_count_197 : decode cX12_count 197 = .ok (.baload, 1) := by decide +kernel
theorem dX12_count_198 : decode cX12_count 198 = .ok (.ifCond .eq 7, 3) := by decide +kernel
theorem dX12_count_201 : decode cX12_count 201 = .ok (.iconst 1, 1) := by decide +kernel
theorem dX12_count_202 : decode cX12_count 202 = .ok (.goto 4, 3) := by decide +kernel
theorem dX12_count_205 : decode cX12_count 205 = .ok (.iconst 0, 1) := by decide +kernel
theorem dX12_count_206 : decode cX12_count 206 = .ok (.iadd, 1) := by decide +kernel
theorem dX12_count_207 : decode cX12_count 207 = .ok (.ireturn, 1) := by decide +kernel
theorem dX12_count_208 : decode cX12_count 208 = .ok (.aload_n 0, 1) := by decide +kernel
theorem dX12_count_209 : decode cX12_count 209 = .ok (.bipush 31, 2) := by decide +kernel
theorem dX12_count_211 : decode cX12_count 211 = .ok (.invokevirtual 315, 3) := by decide +kernel
theorem dX12_count_214 : decode cX12_count 214 = .ok (.ireturn, 1) := by decide +kernel
theorem dX12_count_215 : decode cX12_count 215 = .ok (.iconst 0, 1) := by decide +kernel
theorem dX12_count_216 : decode cX12_count 216 = .ok (.istore_n 3, 1) := by decide +kernel
theorem dX12_count_217 : decode cX12_count 217 = .ok (.iload_n 3, 1) := by decide +kernel
theorem dX12_count_218 : decode cX12_count 218 = .ok (.aload_n 0, 1) := by decide +kernel
theorem dX12_count_219 : decode cX12_count 219 = .ok (.getfield 43, 3) := by decide +kernel
theorem dX12_count_222 : decode cX12_count 222 = .ok (.aload_n 0, 1) := by decide +kernel
theorem dX12_count_223 : decode cX12_count 223 = .ok (.getfield 221, 3) := by decide +kernel
theorem dX12_count_226 : decode cX12_count 226 = .ok (.iaload, 1) := by decide +kernel
theorem dX12_count_227 : decode cX12_count 227 = .ok (.if_icmp .ge 28, 3) := by decide +kernel
theorem dX12_count_230 : decode cX12_count 230 = .ok (.aload_n 0, 1) := by decide +kernel
theorem dX12_count_231 : decode cX12_count 231 = .ok (.iload_n 3, 1) := by decide +kernel
theorem dX12_count_232 : decode cX12_count 232 = .ok (.invokevirtual 333, 3) := by decide +kernel
theorem dX12_count_235 : decode cX12_count 235 = .ok (.aload_n 0, 1) := by decide +kernel
theorem dX12_count_236 : decode cX12_count 236 = .ok (.iload_n 3, 1) := by decide +kernel
theorem dX12_count_237 : decode cX12_count 237 = .ok (.invokevirtual 339, 3) := by decide +kernel
theorem dX12_count_240 : decode cX12_count 240 = .ok (.if_icmp .le 9, 3) := by decide +kernel
theorem dX12_count_243 : decode cX12_count 243 = .ok (.iload_n 2, 1) := by decide +kernel
theorem dX12_count_244 : decode cX12_count 244 = .ok (.iconst 1, 1) := by decide +kernel
theorem dX12_count_245 : decode cX12_count 245 = .ok (.iload_n 3, 1) := by decide +kernel
theorem dX12_count_246 : decode cX12_count 246 = .ok (.ishl, 1) := by decide +kernel
theorem dX12_count_247 : decode cX12_count 247 = .ok (.ior, 1) := by decide +kernel
theorem dX12_count_248 : decode cX12_count 248 = .ok (.istore_n 2, 1) := by decide +kernel
theorem dX12_count_249 : decode cX12_count 249 = .ok (.iinc 3 1, 3) := by decide +kernel
theorem dX12_count_252 : decode cX12_count 252 = .ok (.goto (-35), 3) := by decide +kernel
theorem dX12_count_255 : decode cX12_count 255 = .ok (.iload_n 2, 1) := by decide +kernel
theorem dX12_count_256 : decode cX12_count 256 = .ok (.ireturn, 1) := by decide +kernel
theorem dX12_count_257 : decode cX12_count 257 = .ok (.aload_n 0, 1) := by decide +kernel
theorem dX12_count_258 : decode cX12_count 258 = .ok (.bipush 10, 2) := by decide +kernel
theorem dX12_count_260 : decode cX12_count 260 = .ok (.invokevirtual 454, 3) := by decide +kernel
theorem dX12_count_263 : decode cX12_count 263 = .ok (.ireturn, 1) := by decide +kernel
theorem dX12_count_264 : decode cX12_count 264 = .ok (.iconst 0, 1) := by decide +kernel
theorem dX12_count_265 : decode cX12_count 265 = .ok (.istore_n 3, 1) := by decide +kernel
theorem dX12_count_266 : decode cX12_count 266 = .ok (.iload_n 3, 1) := by decide +kernel
theorem dX12_count_267 : decode cX12_count 267 = .ok (.aload_n 0, 1) := by decide +kernel
theorem dX12_count_268 : decode cX12_count 268 = .ok (.getfield 43, 3) := by decide +kernel
theorem dX12_count_271 : decode cX12_count 271 = .ok (.aload_n 0, 1) := by decide +kernel
theorem dX12_count_272 : decode cX12_count 272 = .ok (.getfield 221, 3) := by decide +kernel
theorem dX12_count_275 : decode cX12_count 275 = .ok (.iaload, 1) := by decide +kernel
theorem dX12_count_276 : decode cX12_count 276 = .ok (.if_icmp .ge 23, 3) := by decide +kernel
theorem dX12_count_279 : decode cX12_count 279 = .ok (.aload_n 0, 1) := by decide +kernel
theorem dX12_count_280 : decode cX12_count 280 = .ok (.iload_n 3, 1) := by decide +kernel
theorem dX12_count_281 : decode cX12_count 281 = .ok (.invokevirtual 312, 3) := by decide +kernel
theorem dX12_count_284 : decode cX12_count 284 = .ok (.ifCond .ne 9, 3) := by decide +kernel
theorem dX12_count_287 : decode cX12_count 287 = .ok (.iload_n 2, 1) := by decide +kernel
theorem dX12_count_288 : decode cX12_count 288 = .ok (.iconst 1, 1) := by decide +kernel
theorem dX12_count_289 : decode cX12_count 289 = .ok (.iload_n 3, 1) := by decide +kernel
theorem dX12_count_290 : decode cX12_count 290 = .ok (.ishl, 1) := by decide +kernel
theorem dX12_count_291 : decode cX12_count 291 = .ok (.ior, 1) := by decide +kernel
theorem dX12_count_292 : decode cX12_count 292 = .ok (.istore_n 2, 1) := by decide +kernel
theorem dX12_count_293 : decode cX12_count 293 = .ok (.iinc 3 1, 3) := by decide +kernel
theorem dX12_count_296 : decode cX12_count 296 = .ok (.goto (-30), 3) := by decide +kernel
theorem dX12_count_299 : decode cX12_count 299 = .ok (.iload_n 2, 1) := by decide +kernel
theorem dX12_count_300 : decode cX12_count 300 = .ok (.ireturn, 1) := by decide +kernel
theorem dX12_count_301 : decode cX12_count 301 = .ok (.iconst 0, 1) := by decide +kernel
theorem dX12_count_302 : decode cX12_count 302 = .ok (.istore_n 3, 1) := by decide +kernel
theorem dX12_count_303 : decode cX12_count 303 = .ok (.iload_n 3, 1) := by decide +kernel
theorem dX12_count_304 : decode cX12_count 304 = .ok (.aload_n 0, 1) := by decide +kernel
theorem dX12_count_305 : decode cX12_count 305 = .ok (.getfield 46, 3) := by decide +kernel
theorem dX12_count_308 : decode cX12_count 308 = .ok (.aload_n 0, 1) := by decide +kernel
theorem dX12_count_309 : decode cX12_count 309 = .ok (.getfield 221, 3) := by decide +kernel
theorem dX12_count_312 : decode cX12_count 312 = .ok (.iaload, 1) := by decide +kernel
theorem dX12_count_313 : decode cX12_count 313 = .ok (.if_icmp .ge 25, 3) := by decide +kernel
theorem dX12_count_316 : decode cX12_count 316 = .ok (.iload_n 2, 1) := by decide +kernel
theorem dX12_count_317 : decode cX12_count 317 = .ok (.aload_n 0, 1) := by decide +kernel
theorem dX12_count_318 : decode cX12_count 318 = .ok (.getfield 58, 3) := by decide +kernel
theorem dX12_count_321 : decode cX12_count 321 = .ok (.iconst 5, 1) := by decide +kernel
theorem dX12_count_322 : decode cX12_count 322 = .ok (.aload_n 0, 1) := by decide +kernel
theorem dX12_count_323 : decode cX12_count 323 = .ok (.getfield 221, 3) := by decide +kernel
theorem dX12_count_326 : decode cX12_count 326 = .ok (.imul, 1) := by decide +kernel
theorem dX12_count_327 : decode cX12_count 327 = .ok (.iload_n 3, 1) := by decide +kernel
theorem dX12_count_328 : decode cX12_count 328 = .ok (.iadd, 1) := by decide +kernel
theorem dX12_count_329 : decode cX12_count 329 = .ok (.iaload, 1) := by decide +kernel
theorem dX12_count_330 : decode cX12_count 330 = .ok (.iadd, 1) := by decide +kernel
theorem dX12_count_331 : decode cX12_count 331 = .ok (.istore_n 2, 1) := by decide +kernel
theorem dX12_count_332 : decode cX12_count 332 = .ok (.iinc 3 1, 3) := by decide +kernel
theorem dX12_count_335 : decode cX12_count 335 = .ok (.goto (-32), 3) := by decide +kernel
theorem dX12_count_338 : decode cX12_count 338 = .ok (.iload_n 2, 1) := by decide +kernel
theorem dX12_count_339 : decode cX12_count 339 = .ok (.ireturn, 1) := by decide +kernel
theorem dX12_count_340 : decode cX12_count 340 = .ok (.iconst (-1), 1) := by decide +kernel
theorem dX12_count_341 : decode cX12_count 341 = .ok (.ireturn, 1) := by decide +kernel
theorem dX12_plain_0 : decode cX12_plain 0 = .ok (.aload_n 0, 1) := by decide +kernel
theorem dX12_plain_1 : decode cX12_plain 1 = .ok (.getfield 43, 3) := by decide +kernel
theorem dX12_plain_4 : decode cX12_plain 4 = .ok (.iload_n 1, 1) := by decide +kernel
theorem dX12_plain_5 : decode cX12_plain 5 = .ok (.bipush 8, 2) := by decide +kernel
theorem dX12_plain_7 : decode cX12_plain 7 = .ok (.iastore, 1) := by decide +kernel
theorem dX12_plain_8 : decode cX12_plain 8 = .ok (.aload_n 0, 1) := by decide +kernel
theorem dX12_plain_9 : decode cX12_plain 9 = .ok (.getfield 46, 3) := by decide +kernel
theorem dX12_plain_12 : decode cX12_plain 12 = .ok (.iload_n 1, 1) := by decide +kernel
theorem dX12_plain_13 : decode cX12_plain 13 = .ok (.iconst 0, 1) := by decide +kernel
theorem dX12_plain_14 : decode cX12_plain 14 = .ok (.iastore, 1) := by decide +kernel
theorem dX12_plain_15 : decode cX12_plain 15 = .ok (.aload_n 0, 1) := by decide +kernel
theorem dX12_plain_16 : decode cX12_plain 16 = .ok (.getfield 61, 3) := by decide +kernel
theorem dX12_plain_19 : decode cX12_plain 19 = .ok (.iload_n 1, 1) := by decide +kernel
theorem dX12_plain_20 : decode cX12_plain 20 = .ok (.iconst 0, 1) := by decide +kernel
theorem dX12_plain_21 : decode cX12_plain 21 = .ok (.iastore, 1) := by decide +kernel
theorem dX12_plain_22 : decode cX12_plain 22 = .ok (.iconst 0, 1) := by decide +kernel
theorem dX12_plain_23 : decode cX12_plain 23 = .ok (.istore_n 2, 1) := by decide +kernel
theorem dX12_plain_24 : decode cX12_plain 24 = .ok (.iload_n 2, 1) := by decide +kernel
theorem dX12_plain_25 : decode cX12_plain 25 = .ok (.iconst 4, 1) := by decide +kernel
theorem dX12_plain_26 : decode cX12_plain 26 = .ok (.if_icmp .ge 31, 3) := by decide +kernel
theorem dX12_plain_29 : decode cX12_plain 29 = .ok (.aload_n 0, 1) := by decide +kernel
theorem dX12_plain_30 : decode cX12_plain 30 = .ok (.getfield 64, 3) := by decide +kernel
theorem dX12_plain_33 : decode cX12_plain 33 = .ok (.iconst 4, 1) := by decide +kernel
theorem dX12_plain_34 : decode cX12_plain 34 = .ok (.iload_n 1, 1) := by decide +kernel
theorem dX12_plain_35 : decode cX12_plain 35 = .ok (.imul, 1) := by decide +kernel
theorem dX12_plain_36 : decode cX12_plain 36 = .ok (.iload_n 2, 1) := by decide +kernel
theorem dX12_plain_37 : decode cX12_plain 37 = .ok (.iadd, 1) := by decide +kernel
theorem dX12_plain_38 : decode cX12_plain 38 = .ok (.iconst 0, 1) := by decide +kernel
theorem dX12_plain_39 : decode cX12_plain 39 = .ok (.iastore, 1) := by decide +kernel
theorem dX12_plain_40 : decode cX12_plain 40 = .ok (.aload_n 0, 1) := by decide +kernel
theorem dX12_plain_41 : decode cX12_plain 41 = .ok (.getfield 67, 3) := by decide +kernel
theorem dX12_plain_44 : decode cX12_plain 44 = .ok (.iconst 4, 1) := by decide +kernel
theorem dX12_plain_45 : decode cX12_plain 45 = .ok (.iload_n 1, 1) := by decide +kernel
theorem dX12_plain_46 : decode cX12_plain 46 = .ok (.imul, 1) := by decide +kernel
theorem dX12_plain_47 : decode cX12_plain 47 = .ok (.iload_n 2, 1) := by decide +kernel
theorem dX12_plain_48 : decode cX12_plain 48 = .ok (.iadd, 1) := by decide +kernel
theorem dX12_plain_49 : decode cX12_plain 49 = .ok (.iconst 0, 1) := by decide +kernel
theorem dX12_plain_50 : decode cX12_plain 50 = .ok (.iastore, 1) := by decide +kernel
theorem dX12_plain_51 : decode cX12_plain 51 = .ok (.iinc 2 1, 3) := by decide +kernel
theorem dX12_plain_54 : decode cX12_plain 54 = .ok (.goto (-30), 3) := by decide +kernel
theorem dX12_plain_57 : decode cX12_plain 57 = .ok (.return_, 1) := by decide +kernel
theorem dX12_word_0 : decode cX12_word 0 = .ok (.lconst 0, 1) := by decide +kernel
theorem dX12_word_1 : decode cX12_word 1 = .ok (.iload_n 0, 1) := by decide +kernel
theorem dX12_word_2 : decode cX12_word 2 = .ok (.invokestatic 165, 3) := by decide +kernel
theorem dX12_word_5 : decode cX12_word 5 = .ok (.iload_n 1, 1) := by decide +kernel
theorem dX12_word_6 : decode cX12_word 6 = .ok (.invokestatic 165, 3) := by decide +kernel
theorem dX12_word_9 : decode cX12_word 9 = .ok (.iload_n 2, 1) := by decide +kernel
theorem dX12_word_10 : decode cX12_word 10 = .ok (.invokestatic 165, 3) := by decide +kernel
theorem dX12_word_13 : decode cX12_word 13 = .ok (.iload_n 3, 1) := by decide +kernel
theorem dX12_word_14 : decode cX12_word 14 = .ok (.invokestatic 165, 3) := by decide +kernel
theorem dX12_word_17 : decode cX12_word 17 = .ok (.iload 4, 2) := by decide +kernel
theorem dX12_word_19 : decode cX12_word 19 = .ok (.invokestatic 165, 3) := by decide +kernel
theorem dX12_word_22 : decode cX12_word 22 = .ok (.iload 5, 2) := by decide +kernel
theorem dX12_word_24 : decode cX12_word 24 = .ok (.invokestatic 165, 3) := by decide +kernel
theorem dX12_word_27 : decode cX12_word 27 = .ok (.iload 6, 2) := by decide +kernel
theorem dX12_word_29 : decode cX12_word 29 = .ok (.invokestatic 165, 3) := by decide +kernel
theorem dX12_word_32 : decode cX12_word 32 = .ok (.lreturn, 1) := by decide +kernel
theorem dX12_appends_0 : decode cX12_appends 0 = .ok (.iload_n 2, 1) := by decide +kernel
theorem dX12_appends_1 : decode cX12_appends 1 = .ok (.ifCond .ne 7, 3) := by decide +kernel
theorem dX12_appends_4 : decode cX12_appends 4 = .ok (.lload_n 0, 1) := by decide +kernel
theorem dX12_appends_5 : decode cX12_appends 5 = .ok (.goto 16, 3) := by decide +kernel
theorem dX12_appends_8 : decode cX12_appends 8 = .ok (.ldc2_w 163, 3) := by decide +kernel
theorem dX12_appends_11 : decode cX12_appends 11 = .ok (.lload_n 0, 1) := by decide +kernel
theorem dX12_appends_12 : decode cX12_appends 12 = .ok (.lmul, 1) := by decide +kernel
theorem dX12_appends_13 : decode cX12_appends 13 = .ok (.iload_n 2, 1) := by decide +kernel
theorem dX12_appends_14 : decode cX12_appends 14 = .ok (.bipush 97, 2) := by decide +kernel
theorem dX12_appends_16 : decode cX12_appends 16 = .ok (.isub, 1) := by decide +kernel
theorem dX12_appends_17 : decode cX12_appends 17 = .ok (.iconst 1, 1) := by decide +kernel
theorem dX12_appends_18 : decode cX12_appends 18 = .ok (.iadd, 1) := by decide +kernel
theorem dX12_appends_19 : decode cX12_appends 19 = .ok (.i2l, 1) := by decide +kernel
theorem dX12_appends_20 : decode cX12_appends 20 = .ok (.ladd, 1) := by decide +kernel
theorem dX12_appends_21 : decode cX12_appends 21 = .ok (.lreturn, 1) := by decide +kernel
theorem dX12_token_0 : decode cX12_token 0 = .ok (.aload_n 0, 1) := by decide +kernel
theorem dX12_token_1 : decode cX12_token 1 = .ok (.getfield 20, 3) := by decide +kernel
theorem dX12_token_4 : decode cX12_token 4 = .ok (.aload_n 0, 1) := by decide +kernel
theorem dX12_token_5 : decode cX12_token 5 = .ok (.getfield 169, 3) := by decide +kernel
theorem dX12_token_8 : decode cX12_token 8 = .ok (.iload_n 1, 1) := by decide +kernel
theorem dX12_token_9 : decode cX12_token 9 = .ok (.iastore, 1) := by decide +kernel
theorem dX12_token_10 : decode cX12_token 10 = .ok (.aload_n 0, 1) := by decide +kernel
theorem dX12_token_11 : decode cX12_token 11 = .ok (.getfield 24, 3) := by decide +kernel
theorem dX12_token_14 : decode cX12_token 14 = .ok (.aload_n 0, 1) := by decide +kernel
theorem dX12_token_15 : decode cX12_token 15 = .ok (.getfield 169, 3) := by decide +kernel
theorem dX12_token_18 : decode cX12_token 18 = .ok (.iload_n 2, 1) := by decide +kernel
theorem dX12_token_19 : decode cX12_token 19 = .ok (.iastore, 1) := by decide +kernel
theorem dX12_token_20 : decode cX12_token 20 = .ok (.aload_n 0, 1) := by decide +kernel
theorem dX12_token_21 : decode cX12_token 21 = .ok (.getfield 27, 3) := by decide +kernel
theorem dX12_token_24 : decode cX12_token 24 = .ok (.aload_n 0, 1) := by decide +kernel
theorem dX12_token_25 : decode cX12_token 25 = .ok (.getfield 169, 3) := by decide +kernel
theorem dX12_token_28 : decode cX12_token 28 = .ok (.iload_n 3, 1) := by decide +kernel
theorem dX12_token_29 : decode cX12_token 29 = .ok (.iastore, 1) := by decide +kernel
theorem dX12_token_30 : decode cX12_token 30 = .ok (.aload_n 0, 1) := by decide +kernel
theorem dX12_token_31 : decode cX12_token 31 = .ok (.getfield 30, 3) := by decide +kernel
theorem dX12_token_34 : decode cX12_token 34 = .ok (.aload_n 0, 1) := by decide +kernel
theorem dX12_token_35 : decode cX12_token 35 = .ok (.getfield 169, 3) := by decide +kernel
theorem dX12_token_38 : decode cX12_token 38 = .ok (.lload 4, 2) := by decide +kernel
theorem dX12_token_40 : decode cX12_token 40 = .ok (.lastore, 1) := by decide +kernel
theorem dX12_token_41 : decode cX12_token 41 = .ok (.aload_n 0, 1) := by decide +kernel
theorem dX12_token_42 : decode cX12_token 42 = .ok (.dup, 1) := by decide +kernel
theorem dX12_token_43 : decode cX12_token 43 = .ok (.getfield 169, 3) := by decide +kernel
theorem dX12_token_46 : decode cX12_token 46 = .ok (.iconst 1, 1) := by decide +kernel
theorem dX12_token_47 : decode cX12_token 47 = .ok (.iadd, 1) := by decide +kernel
theorem dX12_token_48 : decode cX12_token 48 = .ok (.putfield 169, 3) := by decide +kernel
theorem dX12_token_51 : decode cX12_token 51 = .ok (.return_, 1) := by decide +kernel
theorem dX12_cut_0 : decode cX12_cut 0 = .ok (.aload_n 0, 1) := by decide +kernel
theorem dX12_cut_1 : decode cX12_cut 1 = .ok (.iconst 0, 1) := by decide +kernel
theorem dX12_cut_2 : decode cX12_cut 2 = .ok (.putfield 169, 3) := by decide +kernel
theorem dX12_cut_5 : decode cX12_cut 5 = .ok (.iconst 0, 1) := by decide +kernel
theorem dX12_cut_6 : decode cX12_cut 6 = .ok (.istore_n 1, 1) := by decide +kernel
theorem dX12_cut_7 : decode cX12_cut 7 = .ok (.aload_n 0, 1) := by decide +kernel
theorem dX12_cut_8 : decode cX12_cut 8 = .ok (.getfield 169, 3) := by decide +kernel
theorem dX12_cut_11 : decode cX12_cut 11 = .ok (.sipush 400, 3) := by decide +kernel
theorem dX12_cut_14 : decode cX12_cut 14 = .ok (.if_icmp .gt 280, 3) := by decide +kernel
theorem dX12_cut_17 : decode cX12_cut 17 = .ok (.aload_n 0, 1) := by decide +kernel
theorem dX12_cut_18 : decode cX12_cut 18 = .ok (.iload_n 1, 1) := by decide +kernel
theorem dX12_cut_19 : decode cX12_cut 19 = .ok (.invokevirtual 172, 3) := by decide +kernel
theorem dX12_cut_22 : decode cX12_cut 22 = .ok (.istore_n 2, 1) := by decide +kernel
theorem dX12_cut_23 : decode cX12_cut 23 = .ok (.iload_n 1, 1) := by decide +kernel
theorem dX12_cut_24 : decode cX12_cut 24 = .ok (.aload_n 0, 1) := by decide +kernel
theorem dX12_cut_25 : decode cX12_cut 25 = .ok (.getfield 160, 3) := by decide +kernel
theorem dX12_cut_28 : decode cX12_cut 28 = .ok (.if_icmp .lt 15, 3) := by decide +kernel
theorem dX12_cut_31 : decode cX12_cut 31 = .ok (.aload_n 0, 1) := by decide +kernel
theorem dX12_cut_32 : decode cX12_cut 32 = .ok (.iconst 0, 1) := by decide +kernel
theorem dX12_cut_33 : decode cX12_cut 33 = .ok (.aload_n 0, 1) := by decide +kernel
theorem dX12_cut_34 : decode cX12_cut 34 = .ok (.getfield 160, 3) := by decide +kernel
theorem dX12_cut_37 : decode cX12_cut 37 = .ok (.iconst 0, 1) := by decide +kernel
theorem dX12_cut_38 : decode cX12_cut 38 = .ok (.lconst 0, 1) := by decide +kernel
theorem dX12_cut_39 : decode cX12_cut 39 = .ok (.invokevirtual 176, 3) := by decide +kernel
theorem dX12_cut_42 : decode cX12_cut 42 = .ok (.return_, 1) := by decide +kernel
theorem dX12_cut_43 : decode cX12_cut 43 = .ok (.iload_n 2, 1) := by decide +kernel
theorem dX12_cut_44 : decode cX12_cut 44 = .ok (.bipush 9, 2) := by decide +kernel
theorem dX12_cut_46 : decode cX12_cut 46 = .ok (.if_icmp .eq 21, 3) := by decide +kernel
theorem dX12_cut_49 : decode cX12_cut 49 = .ok (.iload_n 2, 1) := by decide +kernel
theorem dX12_cut_50 : decode cX12_cut 50 = .ok (.bipush 10, 2) := by decide +kernel
theorem dX12_cut_52 : decode cX12_cut 52 = .ok (.if_icmp .eq 15, 3) := by decide +kernel
theorem dX12_cut_55 : decode cX12_cut 55 = .ok (.iload_n 2, 1) := by decide +kernel
theorem dX12_cut_56 : decode cX12_cut 56 = .ok (.bipush 13, 2) := by decide +kernel
theorem dX12_cut_58 : decode cX12_cut 58 = .ok (.if_icmp .eq 9, 3) := by decide +kernel
theorem dX12_cut_61 : decode cX12_cut 61 = .ok (.iload_n 2, 1) := by decide +kernel
theorem dX12_cut_62 : decode cX12_cut 62 = .ok (.bipush 32, 2) := by decide +kernel
theorem dX12_cut_64 : decode cX12_cut 64 = .ok (.if_icmp .ne 9, 3) := by decide +kernel
theorem dX12_cut_67 : decode cX12_cut 67 = .ok (.iinc 1 1, 3) := by decide +kernel
theorem dX12_cut_70 : decode cX12_cut 70 = .ok (.goto 221, 3) := by decide +kernel
theorem dX12_cut_73 : decode cX12_cut 73 = .ok (.iload_n 2, 1) := by decide +kernel
theorem dX12_cut_74 : decode cX12_cut 74 = .ok (.invokestatic 180, 3) := by decide +kernel
theorem dX12_cut_77 : decode cX12_cut 77 = .ok (.ifCond .eq 119, 3) := by decide +kernel
theorem dX12_cut_80 : decode cX12_cut 80 = .ok (.iconst 0, 1) := by decide +kernel
theorem dX12_cut_81 : decode cX12_cut 81 = .ok (.istore_n 3, 1) := by decide +kernel
theorem dX12_cut_82 : decode cX12_cut 82 = .ok (.lconst 0, 1) := by decide +kernel
theorem dX12_cut_83 : decode cX12_cut 83 = .ok (.lstore 4, 2) := by decide +kernel
theorem dX12_cut_85 : decode cX12_cut 85 = .ok (.aload_n 0, 1) := by decide +kernel
theorem dX12_cut_86 : decode cX12_cut 86 = .ok (.iload_n 1, 1) := by decide +kernel
theorem dX12_cut_87 : decode cX12_cut 87 = .ok (.iload_n 3, 1) := by decide +kernel
theorem dX12_cut_88 : decode cX12_cut 88 = .ok (.iadd, 1) := by decide +kernel
theorem dX12_cut_89 : decode cX12_cut 89 = .ok (.invokevirtual 172, 3) := by decide +kernel
theorem dX12_cut_92 : decode cX12_cut 92 = .ok (.invokestatic 180, 3) := by decide +kernel
theorem dX12_cut_95 : decode cX12_cut 95 = .ok (.ifCond .eq 29, 3) := by decide +kernel
theorem dX12_cut_98 : decode cX12_cut 98 = .ok (.iload_n 3, 1) := by decide +kernel
theorem dX12_cut_99 : decode cX12_cut 99 = .ok (.bipush 8, 2) := by decide +kernel
theorem dX12_cut_101 : decode cX12_cut 101 = .ok (.if_icmp .ge 17, 3) := by decide +kernel
theorem dX12_cut_104 : decode cX12_cut 104 = .ok (.lload 4, 2) := by decide +kernel
theorem dX12_cut_106 : decode cX12_cut 106 = .ok (.aload_n 0, 1) := by decide +kernel
theorem dX12_cut_107 : decode cX12_cut 107 = .ok (.iload_n 1, 1) := by decide +kernel
theorem dX12_cut_108 : decode cX12_cut 108 = .ok (.iload_n 3, 1) := by decide +kernel
theorem dX12_cut_109 : decode cX12_cut 109 = .ok (.iadd, 1) := by decide +kernel
theorem dX12_cut_110 : decode cX12_cut 110 = .ok (.invokevirtual 172, 3) := by decide +kernel
theorem dX12_cut_113 : decode cX12_cut 113 = .ok (.invokestatic 165, 3) := by decide +kernel
theorem dX12_cut_116 : decode cX12_cut 116 = .ok (.lstore 4, 2) := by decide +kernel
theorem dX12_cut_118 : decode cX12_cut 118 = .ok (.iinc 3 1, 3) := by decide +kernel
theorem dX12_cut_121 : decode cX12_cut 121 = .ok (.goto (-36), 3) := by decide +kernel
theorem dX12_cut_124 : decode cX12_cut 124 = .ok (.iload_n 3, 1) := by decide +kernel
theorem dX12_cut_125 : decode cX12_cut 125 = .ok (.bipush 8, 2) := by decide +kernel
theorem dX12_cut_127 : decode cX12_cut 127 = .ok (.if_icmp .le 7, 3) := by decide +kernel
theorem dX12_cut_130 : decode cX12_cut 130 = .ok (.iconst 3, 1) := by decide +kernel
theorem dX12_cut_131 : decode cX12_cut 131 = .ok (.goto 4, 3) := by decide +kernel
theorem dX12_cut_134 : decode cX12_cut 134 = .ok (.iconst 1, 1) := by decide +kernel
theorem dX12_cut_135 : decode cX12_cut 135 = .ok (.istore 6, 2) := by decide +kernel
theorem dX12_cut_137 : decode cX12_cut 137 = .ok (.iload_n 3, 1) := by decide +kernel
theorem dX12_cut_138 : decode cX12_cut 138 = .ok (.bipush 8, 2) := by decide +kernel
theorem dX12_cut_140 : decode cX12_cut 140 = .ok (.if_icmp .gt 39, 3) := by decide +kernel
theorem dX12_cut_143 : decode cX12_cut 143 = .ok (.iconst 0, 1) := by decide +kernel
theorem dX12_cut_144 : decode cX12_cut 144 = .ok (.istore 7, 2) := by decide +kernel
theorem dX12_cut_146 : decode cX12_cut 146 = .ok (.iload 7, 2) := by decide +kernel
theorem dX12_cut_148 : decode cX12_cut 148 = .ok (.bipush 19, 2) := by decide +kernel
theorem dX12_cut_150 : decode cX12_cut 150 = .ok (.if_icmp .ge 29, 3) := by decide +kernel
theorem dX12_cut_153 : decode cX12_cut 153 = .ok (.aload_n 0, 1) := by decide +kernel
theorem dX12_cut_154 : decode cX12_cut 154 = .ok (.getfield 34, 3) := by decide +kernel
theorem dX12_cut_157 : decode cX12_cut 157 = .ok (.iload 7, 2) := by decide +kernel
theorem dX12_cut_159 : decode cX12_cut 159 = .ok (.laload, 1) := by decide +kernel
theorem dX12_cut_160 : decode cX12_cut 160 = .ok (.lload 4, 2) := by decide +kernel
theorem dX12_cut_162 : decode cX12_cut 162 = .ok (.lcmp, 1) := by decide +kernel
theorem dX12_cut_163 : decode cX12_cut 163 = .ok (.ifCond .ne 10, 3) := by decide +kernel
theorem dX12_cut_166 : decode cX12_cut 166 = .ok (.bipush 20, 2) := by decide +kernel
theorem dX12_cut_168 : decode cX12_cut 168 = .ok (.iload 7, 2) := by decide +kernel
theorem dX12_cut_170 : decode cX12_cut 170 = .ok (.iadd, 1) := by decide +kernel
theorem dX12_cut_171 : decode cX12_cut 171 = .ok (.istore 6, 2) := by decide +kernel
theorem dX12_cut_173 : decode cX12_cut 173 = .ok (.iinc 7 1, 3) := by decide +kernel
theorem dX12_cut_176 : decode cX12_cut 176 = .ok (.goto (-30), 3) := by decide +kernel
theorem dX12_cut_179 : decode cX12_cut 179 = .ok (.aload_n 0, 1) := by decide +kernel
theorem dX12_cut_180 : decode cX12_cut 180 = .ok (.iload 6, 2) := by decide +kernel
theorem dX12_cut_182 : decode cX12_cut 182 = .ok (.iload_n 1, 1) := by decide +kernel
theorem dX12_cut_183 : decode cX12_cut 183 = .ok (.iconst 0, 1) := by decide +kernel
theorem dX12_cut_184 : decode cX12_cut 184 = .ok (.lload 4, 2) := by decide +kernel
theorem dX12_cut_186 : decode cX12_cut 186 = .ok (.invokevirtual 176, 3) := by decide +kernel
theorem dX12_cut_189 : decode cX12_cut 189 = .ok (.iload_n 1, 1) := by decide +kernel
theorem dX12_cut_190 : decode cX12_cut 190 = .ok (.iload_n 3, 1) := by decide +kernel
theorem dX12_cut_191 : decode cX12_cut 191 = .ok (.iadd, 1) := by decide +kernel
theorem dX12_cut_192 : decode cX12_cut 192 = .ok (.istore_n 1, 1) := by decide +kernel
theorem dX12_cut_193 : decode cX12_cut 193 = .ok (.goto 98, 3) := by decide +kernel
theorem dX12_cut_196 : decode cX12_cut 196 = .ok (.iload_n 2, 1) := by decide +kernel
theorem dX12_cut_197 : decode cX12_cut 197 = .ok (.invokestatic 184, 3) := by decide +kernel
theorem dX12_cut_200 : decode cX12_cut 200 = .ok (.ifCond .eq 75, 3) := by decide +kernel
theorem dX12_cut_203 : decode cX12_cut 203 = .ok (.iconst 0, 1) := by decide +kernel
theorem dX12_cut_204 : decode cX12_cut 204 = .ok (.istore_n 3, 1) := by decide +kernel
theorem dX12_cut_205 : decode cX12_cut 205 = .ok (.iconst 0, 1) := by decide +kernel
theorem dX12_cut_206 : decode cX12_cut 206 = .ok (.istore 4, 2) := by decide +kernel
theorem dX12_cut_208 : decode cX12_cut 208 = .ok (.aload_n 0, 1) := by decide +kernel
theorem dX12_cut_209 : decode cX12_cut 209 = .ok (.iload_n 1, 1) := by decide +kernel
theorem dX12_cut_210 : decode cX12_cut 210 = .ok (.iload_n 3, 1) := by decide +kernel
theorem dX12_cut_211 : decode cX12_cut 211 = .ok (.iadd, 1) := by decide +kernel
theorem dX12_cut_212 : decode cX12_cut 212 = .ok (.invokevirtual 172, 3) := by decide +kernel
theorem dX12_cut_215 : decode cX12_cut 215 = .ok (.invokestatic 184, 3) := by decide +kernel
theorem dX12_cut_218 : decode cX12_cut 218 = .ok (.ifCond .eq 32, 3) := by decide +kernel
theorem dX12_cut_221 : decode cX12_cut 221 = .ok (.iload_n 3, 1) := by decide +kernel
theorem dX12_cut_222 : decode cX12_cut 222 = .ok (.iconst 4, 1) := by decide +kernel
theorem dX12_cut_223 : decode cX12_cut 223 = .ok (.if_icmp .ge 21, 3) := by decide +kernel
theorem dX12_cut_226 : decode cX12_cut 226 = .ok (.bipush 10, 2) := by decide +kernel
theorem dX12_cut_228 : decode cX12_cut 228 = .ok (.iload 4, 2) := by decide +kernel
theorem dX12_cut_230 : decode cX12_cut 230 = .ok (.imul, 1) := by decide +kernel
theorem dX12_cut_231 : decode cX12_cut 231 = .ok (.aload_n 0, 1) := by decide +kernel
theorem dX12_cut_232 : decode cX12_cut 232 = .ok (.iload_n 1, 1) := by decide +kernel
theorem dX12_cut_233 : decode cX12_cut 233 = .ok (.iload_n 3, 1) := by decide +kernel
theorem dX12_cut_234 : decode cX12_cut 234 = .ok (.iadd, 1) := by decide +kernel
theorem dX12_cut_235 : decode cX12_cut 235 = .ok (.invokevirtual 172, 3) := by decide +kernel
theorem dX12_cut_238 : decode cX12_cut 238 = .ok (.iadd, 1) := by decide +kernel
theorem dX12_cut_239 : decode cX12_cut 239 = .ok (.bipush 48, 2) := by decide +kernel
theorem dX12_cut_241 : decode cX12_cut 241 = .ok (.isub, 1) := by decide +kernel
theorem dX12_cut_242 : decode cX12_cut 242 = .ok (.istore 4, 2) := by decide +kernel
theorem dX12_cut_244 : decode cX12_cut 244 = .ok (.iinc 3 1, 3) := by decide +kernel
theorem dX12_cut_247 : decode cX12_cut 247 = .ok (.goto (-39), 3) := by decide +kernel
theorem dX12_cut_250 : decode cX12_cut 250 = .ok (.aload_n 0, 1) := by decide +kernel
theorem dX12_cut_251 : decode cX12_cut 251 = .ok (.iload_n 3, 1) := by decide +kernel
theorem dX12_cut_252 : decode cX12_cut 252 = .ok (.iconst 4, 1) := by decide +kernel
theorem dX12_cut_253 : decode cX12_cut 253 = .ok (.if_icmp .le 7, 3) := by decide +kernel
theorem dX12_cut_256 : decode cX12_cut 256 = .ok (.iconst 3, 1) := by decide +kernel
theorem dX12_cut_257 : decode cX12_cut 257 = .ok (.goto 4, 3) := by decide +kernel
theorem dX12_cut_260 : decode cX12_cut 260 = .ok (.iconst 2, 1) := by decide +kernel
theorem dX12_cut_261 : decode cX12_cut 261 = .ok (.iload_n 1, 1) := by decide +kernel
theorem dX12_cut_262 : decode cX12_cut 262 = .ok (.iload 4, 2) := by decide +kernel
theorem dX12_cut_264 : decode cX12_cut 264 = .ok (.lconst 0, 1) := by decide +kernel
theorem dX12_cut_265 : decode cX12_cut 265 = .ok (.invokevirtual 176, 3) := by decide +kernel
theorem dX12_cut_268 : decode cX12_cut 268 = .ok (.iload_n 1, 1) := by decide +kernel
theorem dX12_cut_269 : decode cX12_cut 269 = .ok (.iload_n 3, 1) := by decide +kernel
theorem dX12_cut_270 : decode cX12_cut 270 = .ok (.iadd, 1) := by decide +kernel
theorem dX12_cut_271 : decode cX12_cut 271 = .ok (.istore_n 1, 1) := by decide +kernel
theorem dX12_cut_272 : decode cX12_cut 272 = .ok (.goto 19, 3) := by decide +kernel
theorem dX12_cut_275 : decode cX12_cut 275 = .ok (.iload_n 1, 1) := by decide +kernel
theorem dX12_cut_276 : decode cX12_cut 276 = .ok (.aload_n 0, 1) := by decide +kernel
theorem dX12_cut_277 : decode cX12_cut 277 = .ok (.iload_n 1, 1) := by decide +kernel
theorem dX12_cut_278 : decode cX12_cut 278 = .ok (.iload_n 2, 1) := by decide +kernel
theorem dX12_cut_279 : decode cX12_cut 279 = .ok (.aload_n 0, 1) := by decide +kernel
theorem dX12_cut_280 : decode cX12_cut 280 = .ok (.iload_n 1, 1) := by decide +kernel
theorem dX12_cut_281 : decode cX12_cut 281 = .ok (.iconst 1, 1) := by decide +kernel
theorem dX12_cut_282 : decode cX12_cut 282 = .ok (.iadd, 1) := by decide +kernel
theorem dX12_cut_283 : decode cX12_cut 283 = .ok (.invokevirtual 172, 3) := by decide +kernel
theorem dX12_cut_286 : decode cX12_cut 286 = .ok (.invokevirtual 187, 3) := by decide +kernel
theorem dX12_cut_289 : decode cX12_cut 289 = .ok (.iadd, 1) := by decide +kernel
theorem dX12_cut_290 : decode cX12_cut 290 = .ok (.istore_n 1, 1) := by decide +kernel
theorem dX12_cut_291 : decode cX12_cut 291 = .ok (.goto (-284), 3) := by decide +kernel
theorem dX12_cut_294 : decode cX12_cut 294 = .ok (.return_, 1) := by decide +kernel
theorem dX12_is_0 : decode cX12_is 0 = .ok (.aload_n 0, 1) := by decide +kernel
theorem dX12_is_1 : decode cX12_is 1 = .ok (.getfield 191, 3) := by decide +kernel
theorem dX12_is_4 : decode cX12_is 4 = .ok (.ifCond .ne 20, 3) := by decide +kernel
theorem dX12_is_7 : decode cX12_is 7 = .ok (.aload_n 0, 1) := by decide +kernel
theorem dX12_is_8 : decode cX12_is 8 = .ok (.getfield 20, 3) := by decide +kernel
theorem dX12_is_11 : decode cX12_is 11 = .ok (.aload_n 0, 1) := by decide +kernel
theorem dX12_is_12 : decode cX12_is 12 = .ok (.getfield 194, 3) := by decide +kernel
theorem dX12_is_15 : decode cX12_is 15 = .ok (.iaload, 1) := by decide +kernel
theorem dX12_is_16 : decode cX12_is 16 = .ok (.iload_n 1, 1) := by decide +kernel
theorem dX12_is_17 : decode cX12_is 17 = .ok (.if_icmp .ne 7, 3) := by decide +kernel
theorem dX12_is_20 : decode cX12_is 20 = .ok (.iconst 1, 1) := by decide +kernel
theorem dX12_is_21 : decode cX12_is 21 = .ok (.goto 4, 3) := by decide +kernel
theorem dX12_is_24 : decode cX12_is 24 = .ok (.iconst 0, 1) := by decide +kernel
theorem dX12_is_25 : decode cX12_is 25 = .ok (.ireturn, 1) := by decide +kernel
theorem dX12_areOn_0 : decode cX12_areOn 0 = .ok (.iconst 0, 1) := by decide +kernel
theorem dX12_areOn_1 : decode cX12_areOn 1 = .ok (.istore_n 1, 1) := by decide +kernel
theorem dX12_areOn_2 : decode cX12_areOn 2 = .ok (.iload_n 1, 1) := by decide +kernel
theorem dX12_areOn_3 : decode cX12_areOn 3 = .ok (.aload_n 0, 1) := by decide +kernel
theorem dX12_areOn_4 : decode cX12_areOn 4 = .ok (.getfield 46, 3) := by decide +kernel
theorem dX12_areOn_7 : decode cX12_areOn 7 = .ok (.aload_n 0, 1) := by decide +kernel
theorem dX12_areOn_8 : decode cX12_areOn 8 = .ok (.getfield 224, 3) := by decide +kernel
theorem dX12_areOn_11 : decode cX12_areOn 11 = .ok (.iaload, 1) := by decide +kernel
theorem dX12_areOn_12 : decode cX12_areOn 12 = .ok (.if_icmp .ge 36, 3) := by decide +kernel
theorem dX12_areOn_15 : decode cX12_areOn 15 = .ok (.aload_n 0, 1) := by decide +kernel
theorem dX12_areOn_16 : decode cX12_areOn 16 = .ok (.getfield 49, 3) := by decide +kernel
theorem dX12_areOn_19 : decode cX12_areOn 19 = .ok (.iconst 5, 1) := by decide +kernel
theorem dX12_areOn_20 : decode cX12_areOn 20 = .ok (.aload_n 0, 1) := by decide +kernel
theorem dX12_areOn_21 : decode cX12_areOn 21 = .ok (.getfield 224, 3) := by decide +kernel
theorem dX12_areOn_24 : decode cX12_areOn 24 = .ok (.imul, 1) := by decide +kernel
theorem dX12_areOn_25 : decode cX12_areOn 25 = .ok (.iload_n 1, 1) := by decide +kernel
theorem dX12_areOn_26 : decode cX12_areOn 26 = .ok (.iadd, 1) := by decide +kernel
theorem dX12_areOn_27 : decode cX12_areOn 27 = .ok (.iaload, 1) := by decide +kernel
theorem dX12_areOn_28 : decode cX12_areOn 28 = .ok (.aload_n 0, 1) := by decide +kernel
theorem dX12_areOn_29 : decode cX12_areOn 29 = .ok (.getfield 43, 3) := by decide +kernel
theorem dX12_areOn_32 : decode cX12_areOn 32 = .ok (.aload_n 0, 1) := by decide +kernel
theorem dX12_areOn_33 : decode cX12_areOn 33 = .ok (.getfield 224, 3) := by decide +kernel
theorem dX12_areOn_36 : decode cX12_areOn 36 = .ok (.iaload, 1) := by decide +kernel
theorem dX12_areOn_37 : decode cX12_areOn 37 = .ok (.if_icmp .lt 5, 3) := by decide +kernel
theorem dX12_areOn_40 : decode cX12_areOn 40 = .ok (.iconst 0, 1) := by decide +kernel
theorem dX12_areOn_41 : decode cX12_areOn 41 = .ok (.ireturn, 1) := by decide +kernel
theorem dX12_areOn_42 : decode cX12_areOn 42 = .ok (.iinc 1 1, 3) := by decide +kernel
theorem dX12_areOn_45 : decode cX12_areOn 45 = .ok (.goto (-43), 3) := by decide +kernel
theorem dX12_areOn_48 : decode cX12_areOn 48 = .ok (.iconst 1, 1) := by decide +kernel
theorem dX12_areOn_49 : decode cX12_areOn 49 = .ok (.ireturn, 1) := by decide +kernel
theorem dX12_read_0 : decode cX12_read 0 = .ok (.aload_n 0, 1) := by decide +kernel
theorem dX12_read_1 : decode cX12_read 1 = .ok (.aload_n 0, 1) := by decide +kernel
theorem dX12_read_2 : decode cX12_read 2 = .ok (.getfield 154, 3) := by decide +kernel
theorem dX12_read_5 : decode cX12_read 5 = .ok (.putfield 160, 3) := by decide +kernel
theorem dX12_read_8 : decode cX12_read 8 = .ok (.iconst 0, 1) := by decide +kernel
theorem dX12_read_9 : decode cX12_read 9 = .ok (.istore_n 1, 1) := by decide +kernel
theorem dX12_read_10 : decode cX12_read 10 = .ok (.iload_n 1, 1) := by decide +kernel
theorem dX12_read_11 : decode cX12_read 11 = .ok (.aload_n 0, 1) := by decide +kernel
theorem dX12_read_12 : decode cX12_read 12 = .ok (.getfield 160, 3) := by decide +kernel
theorem dX12_read_15 : decode cX12_read 15 = .ok (.if_icmp .ge 21, 3) := by decide +kernel
theorem dX12_read_18 : decode cX12_read 18 = .ok (.aload_n 0, 1) := by decide +kernel
theorem dX12_read_19 : decode cX12_read 19 = .ok (.getfield 17, 3) := by decide +kernel
theorem dX12_read_22 : decode cX12_read 22 = .ok (.iload_n 1, 1) := by decide +kernel
theorem dX12_read_23 : decode cX12_read 23 = .ok (.aload_n 0, 1) := by decide +kernel
theorem dX12_read_24 : decode cX12_read 24 = .ok (.getfield 13, 3) := by decide +kernel
theorem dX12_read_27 : decode cX12_read 27 = .ok (.iload_n 1, 1) := by decide +kernel
theorem dX12_read_28 : decode cX12_read 28 = .ok (.baload, 1) := by decide +kernel
theorem dX12_read_29 : decode cX12_read 29 = .ok (.bastore, 1) := by decide +kernel
theorem dX12_read_30 : decode cX12_read 30 = .ok (.iinc 1 1, 3) := by decide +kernel
theorem dX12_read_33 : decode cX12_read 33 = .ok (.goto (-23), 3) := by decide +kernel
theorem dX12_read_36 : decode cX12_read 36 = .ok (.aload_n 0, 1) := by decide +kernel
theorem dX12_read_37 : decode cX12_read 37 = .ok (.iconst 0, 1) := by decide +kernel
theorem dX12_read_38 : decode cX12_read 38 = .ok (.putfield 154, 3) := by decide +kernel
theorem dX12_read_41 : decode cX12_read 41 = .ok (.aload_n 0, 1) := by decide +kernel
theorem dX12_read_42 : decode cX12_read 42 = .ok (.invokevirtual 215, 3) := by decide +kernel
theorem dX12_read_45 : decode cX12_read 45 = .ok (.aload_n 0, 1) := by decide +kernel
theorem dX12_read_46 : decode cX12_read 46 = .ok (.iconst 0, 1) := by decide +kernel
theorem dX12_read_47 : decode cX12_read 47 = .ok (.putfield 194, 3) := by decide +kernel
theorem dX12_read_50 : decode cX12_read 50 = .ok (.aload_n 0, 1) := by decide +kernel
theorem dX12_read_51 : decode cX12_read 51 = .ok (.iconst 0, 1) := by decide +kernel
theorem dX12_read_52 : decode cX12_read 52 = .ok (.putfield 218, 3) := by decide +kernel
theorem dX12_read_55 : decode cX12_read 55 = .ok (.aload_n 0, 1) := by decide +kernel
theorem dX12_read_56 : decode cX12_read 56 = .ok (.iconst 0, 1) := by decide +kernel
theorem dX12_read_57 : decode cX12_read 57 = .ok (.putfield 191, 3) := by decide +kernel
theorem dX12_read_60 : decode cX12_read 60 = .ok (.aload_n 0, 1) := by decide +kernel
theorem dX12_read_61 : decode cX12_read 61 = .ok (.iconst 0, 1) := by decide +kernel
theorem dX12_read_62 : decode cX12_read 62 = .ok (.putfield 200, 3) := by decide +kernel
theorem dX12_read_65 : decode cX12_read 65 = .ok (.aload_n 0, 1) := by decide +kernel
theorem dX12_read_66 : decode cX12_read 66 = .ok (.iconst 1, 1) := by decide +kernel
theorem dX12_read_67 : decode cX12_read 67 = .ok (.aload_n 0, 1) := by decide +kernel
theorem dX12_read_68 : decode cX12_read 68 = .ok (.getfield 221, 3) := by decide +kernel
theorem dX12_read_71 : decode cX12_read 71 = .ok (.isub, 1) := by decide +kernel
theorem dX12_read_72 : decode cX12_read 72 = .ok (.putfield 224, 3) := by decide +kernel
theorem dX12_read_75 : decode cX12_read 75 = .ok (.aload_n 0, 1) := by decide +kernel
theorem dX12_read_76 : decode cX12_read 76 = .ok (.iconst 0, 1) := by decide +kernel
theorem dX12_read_77 : decode cX12_read 77 = .ok (.putfield 227, 3) := by decide +kernel
theorem dX12_read_80 : decode cX12_read 80 = .ok (.aload_n 0, 1) := by decide +kernel
theorem dX12_read_81 : decode cX12_read 81 = .ok (.aload_n 0, 1) := by decide +kernel
theorem dX12_read_82 : decode cX12_read 82 = .ok (.getfield 224, 3) := by decide +kernel
theorem dX12_read_85 : decode cX12_read 85 = .ok (.invokevirtual 140, 3) := by decide +kernel
theorem dX12_read_88 : decode cX12_read 88 = .ok (.aload_n 0, 1) := by decide +kernel
theorem dX12_read_89 : decode cX12_read 89 = .ok (.sipush 130, 3) := by decide +kernel
theorem dX12_read_92 : decode cX12_read 92 = .ok (.aload_n 0, 1) := by decide +kernel
theorem dX12_read_93 : decode cX12_read 93 = .ok (.getfield 224, 3) := by decide +kernel
theorem dX12_read_96 : decode cX12_read 96 = .ok (.imul, 1) := by decide +kernel
theorem dX12_read_97 : decode cX12_read 97 = .ok (.putfield 230, 3) := by decide +kernel
theorem dX12_read_100 : decode cX12_read 100 = .ok (.aload_n 0, 1) := by decide +kernel
theorem dX12_read_101 : decode cX12_read 101 = .ok (.sipush 420, 3) := by decide +kernel
theorem dX12_read_104 : decode cX12_read 104 = .ok (.aload_n 0, 1) := by decide +kernel
theorem dX12_read_105 : decode cX12_read 105 = .ok (.getfield 224, 3) := by decide +kernel
theorem dX12_read_108 : decode cX12_read 108 = .ok (.imul, 1) := by decide +kernel
theorem dX12_read_109 : decode cX12_read 109 = .ok (.putfield 233, 3) := by decide +kernel
theorem dX12_read_112 : decode cX12_read 112 = .ok (.aload_n 0, 1) := by decide +kernel
theorem dX12_read_113 : decode cX12_read 113 = .ok (.getfield 191, 3) := by decide +kernel
theorem dX12_read_116 : decode cX12_read 116 = .ok (.ifCond .ne 18, 3) := by decide +kernel
theorem dX12_read_119 : decode cX12_read 119 = .ok (.aload_n 0, 1) := by decide +kernel
theorem dX12_read_120 : decode cX12_read 120 = .ok (.iconst 0, 1) := by decide +kernel
theorem dX12_read_121 : decode cX12_read 121 = .ok (.invokevirtual 209, 3) := by decide +kernel
theorem dX12_read_124 : decode cX12_read 124 = .ok (.ifCond .ne 10, 3) := by decide +kernel
theorem dX12_read_127 : decode cX12_read 127 = .ok (.aload_n 0, 1) := by decide +kernel
theorem dX12_read_128 : decode cX12_read 128 = .ok (.invokevirtual 236, 3) := by decide +kernel
theorem dX12_read_131 : decode cX12_read 131 = .ok (.goto (-19), 3) := by decide +kernel
theorem dX12_read_134 : decode cX12_read 134 = .ok (.aload_n 0, 1) := by decide +kernel
theorem dX12_read_135 : decode cX12_read 135 = .ok (.getfield 191, 3) := by decide +kernel
theorem dX12_read_138 : decode cX12_read 138 = .ok (.ifCond .ne 20, 3) := by decide +kernel
theorem dX12_read_141 : decode cX12_read 141 = .ok (.aload_n 0, 1) := by decide +kernel
theorem dX12_read_142 : decode cX12_read 142 = .ok (.invokevirtual 239, 3) := by decide +kernel
theorem dX12_read_145 : decode cX12_read 145 = .ok (.ifCond .ne 13, 3) := by decide +kernel
theorem dX12_read_148 : decode cX12_read 148 = .ok (.aload_n 0, 1) := by decide +kernel
theorem dX12_read_149 : decode cX12_read 149 = .ok (.bipush 6, 2) := by decide +kernel
theorem dX12_read_151 : decode cX12_read 151 = .ok (.aload_n 0, 1) := by decide +kernel
theorem dX12_read_152 : decode cX12_read 152 = .ok (.getfield 194, 3) := by decide +kernel
theorem dX12_read_155 : decode cX12_read 155 = .ok (.invokevirtual 243, 3) := by decide +kernel
theorem dX12_read_158 : decode cX12_read 158 = .ok (.aload_n 0, 1) := by decide +kernel
theorem dX12_read_159 : decode cX12_read 159 = .ok (.aload_n 0, 1) := by decide +kernel
theorem dX12_read_160 : decode cX12_read 160 = .ok (.getfield 191, 3) := by decide +kernel
theorem dX12_read_163 : decode cX12_read 163 = .ok (.ifCond .le 10, 3) := by decide +kernel
theorem dX12_read_166 : decode cX12_read 166 = .ok (.aload_n 0, 1) := by decide +kernel
theorem dX12_read_167 : decode cX12_read 167 = .ok (.getfield 197, 3) := by decide +kernel
theorem dX12_read_170 : decode cX12_read 170 = .ok (.goto 18, 3) := by decide +kernel
theorem dX12_read_173 : decode cX12_read 173 = .ok (.aload_n 0, 1) := by decide +kernel
theorem dX12_read_174 : decode cX12_read 174 = .ok (.getfield 200, 3) := by decide +kernel
theorem dX12_read_177 : decode cX12_read 177 = .ok (.ifCond .le 10, 3) := by decide +kernel
theorem dX12_read_180 : decode cX12_read 180 = .ok (.aload_n 0, 1) := by decide +kernel
theorem dX12_read_181 : decode cX12_read 181 = .ok (.getfield 203, 3) := by decide +kernel
theorem dX12_read_184 : decode cX12_read 184 = .ok (.goto 4, 3) := by decide +kernel
theorem dX12_read_187 : decode cX12_read 187 = .ok (.iconst (-1), 1) := by decide +kernel
theorem dX12_read_188 : decode cX12_read 188 = .ok (.putfield 37, 3) := by decide +kernel
theorem dX12_read_191 : decode cX12_read 191 = .ok (.aload_n 0, 1) := by decide +kernel
theorem dX12_read_192 : decode cX12_read 192 = .ok (.getfield 191, 3) := by decide +kernel
theorem dX12_read_195 : decode cX12_read 195 = .ok (.ifCond .le 8, 3) := by decide +kernel
theorem dX12_read_198 : decode cX12_read 198 = .ok (.aload_n 0, 1) := by decide +kernel
theorem dX12_read_199 : decode cX12_read 199 = .ok (.getfield 191, 3) := by decide +kernel
theorem dX12_read_202 : decode cX12_read 202 = .ok (.ireturn, 1) := by decide +kernel
theorem dX12_read_203 : decode cX12_read 203 = .ok (.aload_n 0, 1) := by decide +kernel
theorem dX12_read_204 : decode cX12_read 204 = .ok (.getfield 200, 3) := by decide +kernel
theorem dX12_read_207 : decode cX12_read 207 = .ok (.ifCond .le 8, 3) := by decide +kernel
theorem dX12_read_210 : decode cX12_read 210 = .ok (.aload_n 0, 1) := by decide +kernel
theorem dX12_read_211 : decode cX12_read 211 = .ok (.getfield 200, 3) := by decide +kernel
theorem dX12_read_214 : decode cX12_read 214 = .ok (.ireturn, 1) := by decide +kernel
theorem dX12_read_215 : decode cX12_read 215 = .ok (.aload_n 0, 1) := by decide +kernel
theorem dX12_read_216 : decode cX12_read 216 = .ok (.aload_n 0, 1) := by decide +kernel
theorem dX12_read_217 : decode cX12_read 217 = .ok (.getfield 224, 3) := by decide +kernel
theorem dX12_read_220 : decode cX12_read 220 = .ok (.putfield 221, 3) := by decide +kernel
theorem dX12_read_223 : decode cX12_read 223 = .ok (.aload_n 0, 1) := by decide +kernel
theorem dX12_read_224 : decode cX12_read 224 = .ok (.invokevirtual 148, 3) := by decide +kernel
theorem dX12_read_227 : decode cX12_read 227 = .ok (.aload_n 0, 1) := by decide +kernel
theorem dX12_read_228 : decode cX12_read 228 = .ok (.invokevirtual 151, 3) := by decide +kernel
theorem dX12_read_231 : decode cX12_read 231 = .ok (.aload_n 0, 1) := by decide +kernel
theorem dX12_read_232 : decode cX12_read 232 = .ok (.iconst 0, 1) := by decide +kernel
theorem dX12_read_233 : decode cX12_read 233 = .ok (.putfield 247, 3) := by decide +kernel
theorem dX12_read_236 : decode cX12_read 236 = .ok (.aload_n 0, 1) := by decide +kernel
theorem dX12_read_237 : decode cX12_read 237 = .ok (.iconst 0, 1) := by decide +kernel
theorem dX12_read_238 : decode cX12_read 238 = .ok (.putfield 250, 3) := by decide +kernel
theorem dX12_read_241 : decode cX12_read 241 = .ok (.iconst 0, 1) := by decide +kernel
theorem dX12_read_242 : decode cX12_read 242 = .ok (.istore_n 1, 1) := by decide +kernel
theorem dX12_read_243 : decode cX12_read 243 = .ok (.iload_n 1, 1) := by decide +kernel
theorem dX12_read_244 : decode cX12_read 244 = .ok (.iconst 3, 1) := by decide +kernel
theorem dX12_read_245 : decode cX12_read 245 = .ok (.if_icmp .ge 16, 3) := by decide +kernel
theorem dX12_read_248 : decode cX12_read 248 = .ok (.aload_n 0, 1) := by decide +kernel
theorem dX12_read_249 : decode cX12_read 249 = .ok (.getfield 134, 3) := by decide +kernel
theorem dX12_read_252 : decode cX12_read 252 = .ok (.iload_n 1, 1) := by decide +kernel
theorem dX12_read_253 : decode cX12_read 253 = .ok (.iconst 0, 1) := by decide +kernel
theorem dX12_read_254 : decode cX12_read 254 = .ok (.bastore, 1) := by decide +kernel
theorem dX12_read_255 : decode cX12_read 255 = .ok (.iinc 1 1, 3) := by decide +kernel
theorem dX12_read_258 : decode cX12_read 258 = .ok (.goto (-15), 3) := by decide +kernel
theorem dX12_read_261 : decode cX12_read 261 = .ok (.iconst 0, 1) := by decide +kernel
theorem dX12_read_262 : decode cX12_read 262 = .ok (.ireturn, 1) := by decide +kernel
theorem dX12_place_0 : decode cX12_place 0 = .ok (.aload_n 0, 1) := by decide +kernel
theorem dX12_place_1 : decode cX12_place 1 = .ok (.getfield 37, 3) := by decide +kernel
theorem dX12_place_4 : decode cX12_place 4 = .ok (.ireturn, 1) := by decide +kernel
end
section
theorem nb_0 : vp_nar .boolean (Int32.ofInt 0) = Int32.ofInt 0 := rfl
theorem nb_1 : vp_nar .boolean (Int32.ofInt 1) = Int32.ofInt 1 := rfl
theorem rg_of (x : Int32) : ∃ z : Int, x = Int32.ofInt z ∧ -2147483648 ≤ z ∧ z < 2147483648 := ⟨x.toInt, ii_of x, ii_lo x, ii_hi x⟩
theorem am_Sext {σ τ : am_S} (h : ∀ o k, σ.1 o k = τ.1 o k) (h2 : σ.2 = τ.2) : σ = τ := Prod.ext (funext fun o => funext fun k => h o k) h2
theorem ij_in {a : Int} {n : Nat} (h : -2147483648 ≤ a) (h2 : a < 2147483648) : vp_in (Int32.ofInt a) n = (0 ≤ a ∧ a.toNat < n) := by
  rw [ii_in h h2]
  apply propext
  constructor
  · intro q; omega
  · intro q; omega
theorem nb_if {p : Prop} [Decidable p] : vp_nar .boolean (Int32.ofInt (if p then 1 else 0)) = Int32.ofInt (if p then 1 else 0) := by split <;> rfl
theorem am_tn {n : Nat} : ((n : Int)).toNat = n := Int.toNat_natCast n
theorem am_pe {post : Option Value → am_S → Prop} {σ : am_S} {a b : Int} (h : post (some (.int (Int32.ofInt a))) σ) (e : b = a) : post (some (.int (Int32.ofInt b))) σ := e ▸ h
/-- a loop that counts up to N -/
theorem am_up {P : Nat → Prop} (N : Nat) (h : ∀ k, k ≤ N → (k < N → P (k + 1)) → P k) : ∀ k, k ≤ N → P k := by
  have key : ∀ (d k : Nat), k + d = N → P k := by
    intro d
    induction d with
    | zero => intro k hk; exact h k (by omega) (fun q => absurd hk (by omega))
    | succ d ih => intro k hk; exact h k (by omega) (fun _ => ih (k + 1) (by omega))
  intro k hk
  exact key (N - k) k (by omega)
theorem ik_s (k : Nat) : Int32.ofInt (k : Int) + Int32.ofInt 1 = Int32.ofInt ((k + 1 : Nat) : Int) := by rw [ii_add]; rfl
theorem ik_c {k : Nat} (h : k < 2147483648) : (Int32.ofInt (k : Int)).toNatClampNeg = k := by rw [ii_c (by omega) (by omega)]; exact Int.toNat_natCast k
theorem ik_in {k n : Nat} (h : k < 2147483648) : vp_in (Int32.ofInt (k : Int)) n = (k < n) := by
  rw [ij_in (by omega) (by omega), Int.toNat_natCast]
  apply propext
  constructor
  · intro q; exact q.2
  · intro q; exact ⟨by omega, q⟩
theorem ik_0 : Int32.ofInt 0 = Int32.ofInt ((0 : Nat) : Int) := rfl
-- in(v, least, most)
def sX12_in : am_Sp := fun as _ σ post => ∃ v a b : Int, (-2147483648 ≤ v ∧ v < 2147483648) ∧ (-2147483648 ≤ a ∧ a < 2147483648) ∧ (-2147483648 ≤ b ∧ b < 2147483648) ∧ as = [.int (Int32.ofInt v), .int (Int32.ofInt a), .int (Int32.ofInt b)] ∧ post (some (.int (Int32.ofInt (if a ≤ v ∧ v ≤ b then 1 else 0)))) σ
def xX12_in : am_X := (SH, KF, (some .boolean), FT_X12, PT_X12, CT_X12, KT_X12, LT_X12, NT_X12, [])
theorem xX12_in_SH : am_SH xX12_in = SH := rfl
theorem xX12_in_KF : am_KF xX12_in = KF := rfl
theorem xX12_in_rt : am_rt xX12_in = (some .boolean) := rfl
theorem xX12_in_FT : am_FT xX12_in = FT_X12 := rfl
theorem xX12_in_PT : am_PT xX12_in = PT_X12 := rfl
theorem xX12_in_CT : am_CT xX12_in = CT_X12 := rfl
theorem xX12_in_KT : am_KT xX12_in = KT_X12 := rfl
theorem xX12_in_LT : am_LT xX12_in = LT_X12 := rfl
theorem xX12_in_NT : am_NT xX12_in = NT_X12 := rfl
theorem xX12_in_t2 (k : Nat → Prop) : am_tg 2 (12) k = k 14 := am_tg_eq (by decide)
theorem xX12_in_t7 (k : Nat → Prop) : am_tg 7 (7) k = k 14 := am_tg_eq (by decide)
theorem xX12_in_t11 (k : Nat → Prop) : am_tg 11 (4) k = k 15 := am_tg_eq (by decide)

theorem pX12_in : am_B cX12_in xX12_in 3 0 sX12_in := by
  intro n0 as σ post AA hA h
  obtain ⟨v, a, b, hv, ha, hb, rfl, h⟩ := h
  refine ⟨by simp [am_sl, Value.category], ?_⟩
  show AA 0 [some (.int (Int32.ofInt v)), some (.int (Int32.ofInt a)), some (.int (Int32.ofInt b))] [] n0 σ
  refine hA [] 40 _ _ _ _ _ ?_
  simp (disch := omega) only [dX12_in_0, dX12_in_1, dX12_in_2, xX12_in_t2, dX12_in_5, dX12_in_6, dX12_in_7, xX12_in_t7, dX12_in_10, dX12_in_11, xX12_in_t11, dX12_in_14, dX12_in_15, xX12_in_SH, xX12_in_KF, xX12_in_rt, xX12_in_FT, xX12_in_PT, xX12_in_CT, xX12_in_KT, xX12_in_LT, xX12_in_NT, o_goto, o_iconst, o_if_icmp_gt, o_if_icmp_lt, o_iload_n, o_ireturn, am_vc, am_opt, am_cl, am_find, am_ldi, am_ldl, am_lda, am_v, am_1, am_1l, am_1a, am_2, am_2l, am_ix, am_ri, am_arr, am_pf, am_rc, am_mask, am_lg, am_av, am_nat, fv_0, fv_1, fv_2, fv_3, fw_0, fw_1, List.getElem?_cons_zero, List.getElem?_cons_succ, List.set_cons_zero, List.set_cons_succ, List.length_cons, List.length_nil, List.take_succ_cons, List.take_zero, List.drop_succ_cons, List.drop_zero, List.reverse_cons, List.reverse_nil, List.nil_append, List.cons_append, List.append_nil, List.map_cons, List.map_nil, List.sum_cons, List.sum_nil, Value.category, Option.toList_some, Option.toList_none, Nat.reduceAdd, Nat.reduceLT, Nat.reduceLeDiff, Nat.reduceEqDiff, Nat.reduceSub, Nat.add_zero, Nat.le_refl, Nat.zero_le, Int.reduceNeg, Int.reduceLE, Int.reduceLT, true_and, and_true, and_self, if_true, if_false, ite_true, ite_false, eq_self_iff_true, reduceIte, reduceCtorEq, not_false_eq_true, not_true_eq_false, or_true, true_or, or_false, false_or, Nat.lt_irrefl, Nat.zero_lt_succ, nb_0, nb_1, ii_lt, ii_le]
  refine ⟨fun h1 => ?_, fun h1 => ⟨fun h2 => ?_, fun h2 => ?_⟩⟩
  · rw [if_neg (by omega)] at h; exact h
  · rw [if_neg (by omega)] at h; exact h
  · rw [if_pos (by omega)] at h; exact h
theorem mX12_in (l : Launch) : am_M l TB NB vwCl SH KF yX12_in cX12_in 3 (some .boolean) 2 0 0 sX12_in := by
  refine am_M.of xX12_in (by decide +kernel) TB_good GF rfl rfl rfl (by decide) ⟨FT_X12_ok, PT_X12_ok _, CT_X12_ok, KT_X12_ok, LT_X12_ok, NT_X12_ok, ?_⟩ pX12_in
  exact fun _ h => absurd h List.not_mem_nil


-- within, off, mixed
def sX12_within : am_Sp := fun as _ σ post => ∃ v a b : Int, (-2147483648 ≤ v ∧ v < 2147483648) ∧ (-2147483648 ≤ a ∧ a < 2147483648) ∧ (-2147483648 ≤ b ∧ b < 2147483648) ∧ as = [.int (Int32.ofInt v), .int (Int32.ofInt a), .int (Int32.ofInt b)] ∧ post (some (.int (Int32.ofInt (if v < a then a else if b < v then b else v)))) σ
def xX12_within : am_X := (SH, KF, (some .int), FT_X12, PT_X12, CT_X12, KT_X12, LT_X12, NT_X12, [])
theorem xX12_within_SH : am_SH xX12_within = SH := rfl
theorem xX12_within_KF : am_KF xX12_within = KF := rfl
theorem xX12_within_rt : am_rt xX12_within = (some .int) := rfl
theorem xX12_within_FT : am_FT xX12_within = FT_X12 := rfl
theorem xX12_within_PT : am_PT xX12_within = PT_X12 := rfl
theorem xX12_within_CT : am_CT xX12_within = CT_X12 := rfl
theorem xX12_within_KT : am_KT xX12_within = KT_X12 := rfl
theorem xX12_within_LT : am_LT xX12_within = LT_X12 := rfl
theorem xX12_within_NT : am_NT xX12_within = NT_X12 := rfl
theorem xX12_within_t2 (k : Nat → Prop) : am_tg 2 (7) k = k 9 := am_tg_eq (by decide)
theorem xX12_within_t6 (k : Nat → Prop) : am_tg 6 (13) k = k 19 := am_tg_eq (by decide)
theorem xX12_within_t11 (k : Nat → Prop) : am_tg 11 (7) k = k 18 := am_tg_eq (by decide)
theorem xX12_within_t15 (k : Nat → Prop) : am_tg 15 (4) k = k 19 := am_tg_eq (by decide)

theorem pX12_within : am_B cX12_within xX12_within 3 0 sX12_within := by
  intro n0 as σ post AA hA h
  obtain ⟨v, a, b, hv, ha, hb, rfl, h⟩ := h
  refine ⟨by simp [am_sl, Value.category], ?_⟩
  show AA 0 [some (.int (Int32.ofInt v)), some (.int (Int32.ofInt a)), some (.int (Int32.ofInt b))] [] n0 σ
  refine hA [] 40 _ _ _ _ _ ?_
  simp (disch := omega) only [dX12_within_0, dX12_within_1, dX12_within_2, xX12_within_t2, dX12_within_5, dX12_within_6, xX12_within_t6, dX12_within_9, dX12_within_10, dX12_within_11, xX12_within_t11, dX12_within_14, dX12_within_15, xX12_within_t15, dX12_within_18, dX12_within_19, xX12_within_SH, xX12_within_KF, xX12_within_rt, xX12_within_FT, xX12_within_PT, xX12_within_CT, xX12_within_KT, xX12_within_LT, xX12_within_NT, o_goto, o_if_icmp_ge, o_if_icmp_le, o_iload_n, o_ireturn, am_vc, am_opt, am_cl, am_find, am_ldi, am_ldl, am_lda, am_v, am_1, am_1l, am_1a, am_2, am_2l, am_ix, am_ri, am_arr, am_pf, am_rc, am_mask, am_lg, am_av, am_nat, fv_0, fv_1, fv_2, fv_3, fw_0, fw_1, List.getElem?_cons_zero, List.getElem?_cons_succ, List.set_cons_zero, List.set_cons_succ, List.length_cons, List.length_nil, List.take_succ_cons, List.take_zero, List.drop_succ_cons, List.drop_zero, List.reverse_cons, List.reverse_nil, List.nil_append, List.cons_append, List.append_nil, List.map_cons, List.map_nil, List.sum_cons, List.sum_nil, Value.category, Option.toList_some, Option.toList_none, Nat.reduceAdd, Nat.reduceLT, Nat.reduceLeDiff, Nat.reduceEqDiff, Nat.reduceSub, Nat.add_zero, Nat.le_refl, Nat.zero_le, Int.reduceNeg, Int.reduceLE, Int.reduceLT, true_and, and_true, and_self, if_true, if_false, ite_true, ite_false, eq_self_iff_true, reduceIte, reduceCtorEq, not_false_eq_true, not_true_eq_false, or_true, true_or, or_false, false_or, Nat.lt_irrefl, Nat.zero_lt_succ, nb_0, nb_1, ii_lt, ii_le]
  repeat' (first | refine And.intro ?_ ?_ | intro _)
  all_goals (refine am_pe h ?_; (repeat' split) <;> omega)
theorem mX12_within (l : Launch) : am_M l TB NB vwCl SH KF yX12_within cX12_within 3 (some .int) 2 0 0 sX12_within := by
  refine am_M.of xX12_within (by decide +kernel) TB_good GF rfl rfl rfl (by decide) ⟨FT_X12_ok, PT_X12_ok _, CT_X12_ok, KT_X12_ok, LT_X12_ok, NT_X12_ok, ?_⟩ pX12_within
  exact fun _ h => absurd h List.not_mem_nil

def sX12_off : am_Sp := fun as _ σ post => ∃ a b : Int, (-1073741824 ≤ a ∧ a < 1073741824) ∧ (-1073741824 ≤ b ∧ b < 1073741824) ∧ as = [.int (Int32.ofInt a), .int (Int32.ofInt b)] ∧ post (some (.int (Int32.ofInt (if a < b then b - a else a - b)))) σ
def xX12_off : am_X := (SH, KF, (some .int), FT_X12, PT_X12, CT_X12, KT_X12, LT_X12, NT_X12, [])
theorem xX12_off_SH : am_SH xX12_off = SH := rfl
theorem xX12_off_KF : am_KF xX12_off = KF := rfl
theorem xX12_off_rt : am_rt xX12_off = (some .int) := rfl
theorem xX12_off_FT : am_FT xX12_off = FT_X12 := rfl
theorem xX12_off_PT : am_PT xX12_off = PT_X12 := rfl
theorem xX12_off_CT : am_CT xX12_off = CT_X12 := rfl
theorem xX12_off_KT : am_KT xX12_off = KT_X12 := rfl
theorem xX12_off_LT : am_LT xX12_off = LT_X12 := rfl
theorem xX12_off_NT : am_NT xX12_off = NT_X12 := rfl
theorem xX12_off_t2 (k : Nat → Prop) : am_tg 2 (9) k = k 11 := am_tg_eq (by decide)
theorem xX12_off_t8 (k : Nat → Prop) : am_tg 8 (6) k = k 14 := am_tg_eq (by decide)

theorem pX12_off : am_B cX12_off xX12_off 2 0 sX12_off := by
  intro n0 as σ post AA hA h
  obtain ⟨a, b, ha, hb, rfl, h⟩ := h
  refine ⟨by simp [am_sl, Value.category], ?_⟩
  show AA 0 [some (.int (Int32.ofInt a)), some (.int (Int32.ofInt b))] [] n0 σ
  refine hA [] 40 _ _ _ _ _ ?_
  simp (disch := omega) only [dX12_off_0, dX12_off_1, dX12_off_2, xX12_off_t2, dX12_off_5, dX12_off_6, dX12_off_7, dX12_off_8, xX12_off_t8, dX12_off_11, dX12_off_12, dX12_off_13, dX12_off_14, xX12_off_SH, xX12_off_KF, xX12_off_rt, xX12_off_FT, xX12_off_PT, xX12_off_CT, xX12_off_KT, xX12_off_LT, xX12_off_NT, o_goto, o_if_icmp_ge, o_iload_n, o_ireturn, o_isub, am_vc, am_opt, am_cl, am_find, am_ldi, am_ldl, am_lda, am_v, am_1, am_1l, am_1a, am_2, am_2l, am_ix, am_ri, am_arr, am_pf, am_rc, am_mask, am_lg, am_av, am_nat, fv_0, fv_1, fv_2, fv_3, fw_0, fw_1, List.getElem?_cons_zero, List.getElem?_cons_succ, List.set_cons_zero, List.set_cons_succ, List.length_cons, List.length_nil, List.take_succ_cons, List.take_zero, List.drop_succ_cons, List.drop_zero, List.reverse_cons, List.reverse_nil, List.nil_append, List.cons_append, List.append_nil, List.map_cons, List.map_nil, List.sum_cons, List.sum_nil, Value.category, Option.toList_some, Option.toList_none, Nat.reduceAdd, Nat.reduceLT, Nat.reduceLeDiff, Nat.reduceEqDiff, Nat.reduceSub, Nat.add_zero, Nat.le_refl, Nat.zero_le, Int.reduceNeg, Int.reduceLE, Int.reduceLT, true_and, and_true, and_self, if_true, if_false, ite_true, ite_false, eq_self_iff_true, reduceIte, reduceCtorEq, not_false_eq_true, not_true_eq_false, or_true, true_or, or_false, false_or, Nat.lt_irrefl, Nat.zero_lt_succ, ii_lt, ii_le, ii_sub]
  repeat' (first | refine And.intro ?_ ?_ | intro _)
  all_goals (refine am_pe h ?_; (repeat' split) <;> omega)
theorem mX12_off (l : Launch) : am_M l TB NB vwCl SH KF yX12_off cX12_off 2 (some .int) 2 0 0 sX12_off := by
  refine am_M.of xX12_off (by decide +kernel) TB_good GF rfl rfl rfl (by decide) ⟨FT_X12_ok, PT_X12_ok _, CT_X12_ok, KT_X12_ok, LT_X12_ok, NT_X12_ok, ?_⟩ pX12_off
  exact fun _ h => absurd h List.not_mem_nil

def mixv (h v : Int32) : Int32 := ((h ^^^ v) * (1103515245 : Int32) + Int32.ofInt 12345) ^^^ (((h ^^^ v) * (1103515245 : Int32) + Int32.ofInt 12345).toUInt32 >>> ((Int32.ofInt 15).toUInt32 &&& Int32.toUInt32 31)).toInt32
def sX12_mixed : am_Sp := fun as _ σ post => ∃ a b : Int32, as = [.int a, .int b] ∧ post (some (.int (mixv a b))) σ
def xX12_mixed : am_X := (SH, KF, (some .int), FT_X12, PT_X12, CT_X12, KT_X12, LT_X12, NT_X12, [])
theorem xX12_mixed_SH : am_SH xX12_mixed = SH := rfl
theorem xX12_mixed_KF : am_KF xX12_mixed = KF := rfl
theorem xX12_mixed_rt : am_rt xX12_mixed = (some .int) := rfl
theorem xX12_mixed_FT : am_FT xX12_mixed = FT_X12 := rfl
theorem xX12_mixed_PT : am_PT xX12_mixed = PT_X12 := rfl
theorem xX12_mixed_CT : am_CT xX12_mixed = CT_X12 := rfl
theorem xX12_mixed_KT : am_KT xX12_mixed = KT_X12 := rfl
theorem xX12_mixed_LT : am_LT xX12_mixed = LT_X12 := rfl
theorem xX12_mixed_NT : am_NT xX12_mixed = NT_X12 := rfl

theorem pX12_mixed : am_B cX12_mixed xX12_mixed 3 0 sX12_mixed := by
  intro n0 as σ post AA hA h
  obtain ⟨a, b, rfl, h⟩ := h
  refine ⟨by simp [am_sl, Value.category], ?_⟩
  show AA 0 [some (.int a), some (.int b), none] [] n0 σ
  refine hA [] 40 _ _ _ _ _ ?_
  simp (disch := omega) only [dX12_mixed_0, dX12_mixed_1, dX12_mixed_2, dX12_mixed_3, KT_X12, dX12_mixed_6, dX12_mixed_7, dX12_mixed_10, dX12_mixed_11, dX12_mixed_12, dX12_mixed_13, dX12_mixed_14, dX12_mixed_16, dX12_mixed_17, dX12_mixed_18, xX12_mixed_SH, xX12_mixed_KF, xX12_mixed_rt, xX12_mixed_FT, xX12_mixed_PT, xX12_mixed_CT, xX12_mixed_KT, xX12_mixed_LT, xX12_mixed_NT, o_bipush, o_iadd, o_iload_n, o_imul, o_ireturn, o_istore_n, o_iushr, o_ixor, o_ldc_w, o_sipush, am_vc, am_opt, am_cl, am_find, am_ldi, am_ldl, am_lda, am_v, am_1, am_1l, am_1a, am_2, am_2l, am_ix, am_ri, am_arr, am_pf, am_rc, am_mask, am_lg, am_av, am_nat, fv_0, fv_1, fv_2, fv_3, fw_0, fw_1, List.getElem?_cons_zero, List.getElem?_cons_succ, List.set_cons_zero, List.set_cons_succ, List.length_cons, List.length_nil, List.take_succ_cons, List.take_zero, List.drop_succ_cons, List.drop_zero, List.reverse_cons, List.reverse_nil, List.nil_append, List.cons_append, List.append_nil, List.map_cons, List.map_nil, List.sum_cons, List.sum_nil, Value.category, Option.toList_some, Option.toList_none, Nat.reduceAdd, Nat.reduceLT, Nat.reduceLeDiff, Nat.reduceEqDiff, Nat.reduceSub, Nat.add_zero, Nat.le_refl, Nat.zero_le, Int.reduceNeg, Int.reduceLE, Int.reduceLT, true_and, and_true, and_self, if_true, if_false, ite_true, ite_false, eq_self_iff_true, reduceIte, reduceCtorEq, not_false_eq_true, not_true_eq_false, or_true, true_or, or_false, false_or, Nat.lt_irrefl, Nat.zero_lt_succ]
  exact h
theorem mX12_mixed (l : Launch) : am_M l TB NB vwCl SH KF yX12_mixed cX12_mixed 3 (some .int) 2 0 0 sX12_mixed := by
  refine am_M.of xX12_mixed (by decide +kernel) TB_good GF rfl rfl rfl (by decide) ⟨FT_X12_ok, PT_X12_ok _, CT_X12_ok, KT_X12_ok, LT_X12_ok, NT_X12_ok, ?_⟩ pX12_mixed
  exact fun _ h => absurd h List.not_mem_nil
end
section
/-! THE REFERENCE NEWLY MADE, AND ONE CALL ON IT (for p1): what is as it was at first. mn: the minute of the working row. -/
def n0w (k : Nat) : Int := if k < 5 then -1 else if k < 10 then -2 else 0
def FMd (o k : Nat) : Bool := match o with
  | 51 => k == 2 || k == 17 || k == 18 || k == 49 || k == 58
  | 60 => true
  | 61 => true
  | 66 => true
  | 67 => true
  | 68 => true
  | 79 => true
  | 80 => true
  | 90 => true
  | _ => false
def FM (mn : Int) (σ : am_S) : Prop :=
  (σ.1 51 2 = Int32.ofInt 0 ∧ σ.1 51 17 = Int32.ofInt (-1) ∧ σ.1 51 18 = Int32.ofInt 0 ∧ σ.1 51 49 = Int32.ofInt 0 ∧ σ.1 51 58 = Int32.ofInt 0) ∧
  (σ.1 60 0 = Int32.ofInt 8 ∧ σ.1 61 0 = Int32.ofInt 0 ∧ σ.1 66 0 = Int32.ofInt 0) ∧
  (∀ k, k < 4 → σ.1 67 k = Int32.ofInt 0 ∧ σ.1 68 k = Int32.ofInt 0) ∧
  (∀ k, k < 51 → σ.1 79 k = Int32.ofInt (n0w k)) ∧
  (∀ k, k < 51 → σ.1 80 k = Int32.ofInt (if k = 49 then mn else n0w k)) ∧
  (∀ k, k < 3 → σ.1 90 k = Int32.ofInt 0)
theorem FM_of {mn : Int} {σ τ : am_S} (h : ∀ o k, FMd o k = true → τ.1 o k = σ.1 o k) (hF : FM mn σ) : FM mn τ := by
  obtain ⟨⟨a1, a2, a3, a4, a5⟩, ⟨b1, b2, b3⟩, c1, d1, e1, f1⟩ := hF
  refine ⟨⟨?_, ?_, ?_, ?_, ?_⟩, ⟨?_, ?_, ?_⟩, fun k hk => ⟨?_, ?_⟩, fun k hk => ?_, fun k hk => ?_, fun k hk => ?_⟩
  · rw [h _ _ (by rfl)]; exact a1
  · rw [h _ _ (by rfl)]; exact a2
  · rw [h _ _ (by rfl)]; exact a3
  · rw [h _ _ (by rfl)]; exact a4
  · rw [h _ _ (by rfl)]; exact a5
  · rw [h _ _ (by rfl)]; exact b1
  · rw [h _ _ (by rfl)]; exact b2
  · rw [h _ _ (by rfl)]; exact b3
  · rw [h _ _ (by rfl)]; exact (c1 k hk).1
  · rw [h _ _ (by rfl)]; exact (c1 k hk).2
  · rw [h _ _ (by rfl)]; exact d1 k hk
  · rw [h _ _ (by rfl)]; exact e1 k hk
  · rw [h _ _ (by rfl)]; exact f1 k hk
theorem FM_pi {mn : Int} {σ : am_S} {o k : Nat} {x : Int32} (hd : FMd o k = false) (hF : FM mn σ) : FM mn (am_pi σ o k x) := by
  refine FM_of (fun o' k' h => pi_n _ _ _ _ ?_) hF
  rintro ⟨rfl, rfl⟩
  rw [hd] at h
  cases h
theorem FM_live {mn : Int} {σ : am_S} (h : FM mn σ) : σ.1 51 18 = Int32.ofInt 0 := h.1.2.2.1
theorem FM_shaft {mn : Int} {σ : am_S} (h : FM mn σ) : σ.1 60 0 = Int32.ofInt 8 := h.2.1.1
theorem FM_people {mn : Int} {σ : am_S} (h : FM mn σ) : σ.1 61 0 = Int32.ofInt 0 := h.2.1.2.1
theorem FM_seed {mn : Int} {σ : am_S} (h : FM mn σ) : σ.1 66 0 = Int32.ofInt 0 := h.2.1.2.2
theorem FM_row {mn : Int} {σ : am_S} (h : FM mn σ) (k : Nat) (hk : k < 51) : σ.1 80 k = Int32.ofInt (if k = 49 then mn else n0w k) := h.2.2.2.2.1 k hk
theorem FM_now {mn : Int} {σ : am_S} (h : FM mn σ) (k : Nat) (hk : k < 51) : σ.1 79 k = Int32.ofInt (n0w k) := h.2.2.2.1 k hk
theorem FM_z {mn : Int} {σ : am_S} (h : FM mn σ) (k : Nat) (hk : k < 51) (h2 : 10 ≤ k) (h3 : ¬ k = 49) : σ.1 80 k = Int32.ofInt 0 := by
  rw [FM_row h k hk, if_neg h3]
  unfold n0w
  rw [if_neg (by omega), if_neg (by omega)]
theorem FM_min {mn : Int} {σ : am_S} (h : FM mn σ) : σ.1 80 49 = Int32.ofInt mn := by
  rw [FM_row h 49 (by decide), if_pos rfl]
-- isRung(c), isPerson(a)
def sX12_isRung : am_Sp := fun as n σ post => ∃ (c mn : Int), (-2147483648 ≤ c ∧ c < 2147483648) ∧ n = 92 ∧ as = [.ref 51, .int (Int32.ofInt c)] ∧ FM mn σ ∧ post (some (.int (Int32.ofInt (if 0 ≤ c ∧ c ≤ 7 then 1 else 0)))) σ
def xX12_isRung : am_X := (SH, KF, (some .boolean), FT_X12, PT_X12, CT_X12, KT_X12, LT_X12, NT_X12, [(292, 1, 3, 12, 0, 0, sX12_in)])
theorem xX12_isRung_SH : am_SH xX12_isRung = SH := rfl
theorem xX12_isRung_KF : am_KF xX12_isRung = KF := rfl
theorem xX12_isRung_rt : am_rt xX12_isRung = (some .boolean) := rfl
theorem xX12_isRung_FT : am_FT xX12_isRung = FT_X12 := rfl
theorem xX12_isRung_PT : am_PT xX12_isRung = PT_X12 := rfl
theorem xX12_isRung_CT : am_CT xX12_isRung = CT_X12 := rfl
theorem xX12_isRung_KT : am_KT xX12_isRung = KT_X12 := rfl
theorem xX12_isRung_LT : am_LT xX12_isRung = LT_X12 := rfl
theorem xX12_isRung_NT : am_NT xX12_isRung = NT_X12 := rfl
theorem xX12_isRung_c292 : am_find (am_ML xX12_isRung) 292 = some (1, 3, 12, 0, 0, sX12_in) := rfl
theorem xX12_isRung_n292 : am_find NT_X12 292 = none := rfl

theorem pX12_isRung : am_B cX12_isRung xX12_isRung 2 0 sX12_isRung := by
  intro n0 as σ post AA hA h
  obtain ⟨c, mn, hc, rfl, rfl, hF, h⟩ := h
  refine ⟨by simp [am_sl, Value.category], ?_⟩
  show AA 0 [some (.ref 51), some (.int (Int32.ofInt c))] [] 92 σ
  refine hA [] 40 _ _ _ _ _ ?_
  have e1 := FM_live hF
  have e2 := FM_shaft hF
  simp (disch := omega) only [dX12_isRung_0, dX12_isRung_1, dX12_isRung_2, dX12_isRung_3, FT_X12_43, dX12_isRung_6, dX12_isRung_7, FT_X12_221, dX12_isRung_10, dX12_isRung_11, dX12_isRung_12, dX12_isRung_13, xX12_isRung_c292, xX12_isRung_n292, dX12_isRung_16, xX12_isRung_SH, xX12_isRung_KF, xX12_isRung_rt, xX12_isRung_FT, xX12_isRung_PT, xX12_isRung_CT, xX12_isRung_KT, xX12_isRung_LT, xX12_isRung_NT, o_aload_n, o_getfield, o_iaload, o_iconst, o_iload_n, o_invokestatic, o_ireturn, o_isub, SH_51, KF_51_22, SH_60, KF_51_18, am_vc, am_opt, am_cl, am_find, am_ldi, am_ldl, am_lda, am_v, am_1, am_1l, am_1a, am_2, am_2l, am_ix, am_ri, am_arr, am_pf, am_rc, am_mask, am_lg, am_av, am_nat, fv_0, fv_1, fv_2, fv_3, fw_0, fw_1, List.getElem?_cons_zero, List.getElem?_cons_succ, List.set_cons_zero, List.set_cons_succ, List.length_cons, List.length_nil, List.take_succ_cons, List.take_zero, List.drop_succ_cons, List.drop_zero, List.reverse_cons, List.reverse_nil, List.nil_append, List.cons_append, List.append_nil, List.map_cons, List.map_nil, List.sum_cons, List.sum_nil, Value.category, Option.toList_some, Option.toList_none, Nat.reduceAdd, Nat.reduceLT, Nat.reduceLeDiff, Nat.reduceEqDiff, Nat.reduceSub, Nat.add_zero, Nat.le_refl, Nat.zero_le, Int.reduceNeg, Int.reduceLE, Int.reduceLT, true_and, and_true, and_self, if_true, if_false, ite_true, ite_false, eq_self_iff_true, reduceIte, reduceCtorEq, not_false_eq_true, not_true_eq_false, or_true, true_or, or_false, false_or, Nat.lt_irrefl, Nat.zero_lt_succ, nb_0, nb_1, e1, e2, ii_lt, ii_le, ij_in, ii_c, ii_sub, Int.toNat_zero, Int.reduceSub]
  exact ⟨c, 0, 7, hc, by omega, by omega, rfl, rfl, nb_if, h⟩
theorem mX12_isRung (l : Launch) : am_M l TB NB vwCl SH KF yX12_isRung cX12_isRung 2 (some .boolean) 3 0 0 sX12_isRung := by
  refine am_M.of xX12_isRung (by decide +kernel) TB_good GF rfl rfl rfl (by decide) ⟨FT_X12_ok, PT_X12_ok _, CT_X12_ok, KT_X12_ok, LT_X12_ok, NT_X12_ok, ?_⟩ pX12_isRung
  exact List.forall_mem_cons.mpr ⟨⟨yX12_in, cX12_in, 3, (some .boolean), 2, 3, mX12_in l, by decide, by decide, tb_at 1631 (by decide +kernel) (by decide +kernel), tb_at 124 (by decide +kernel) (by decide +kernel), ⟨by decide +kernel, by decide +kernel, by decide +kernel⟩, rfl, tb_at 1629 (by decide +kernel) (by decide +kernel), tb_at 1630 (by decide +kernel) (by decide +kernel)⟩, fun _ h => absurd h List.not_mem_nil⟩

def sX12_isPerson : am_Sp := fun as n σ post => ∃ (c mn : Int), (-2147483648 ≤ c ∧ c < 2147483648) ∧ n = 92 ∧ as = [.ref 51, .int (Int32.ofInt c)] ∧ FM mn σ ∧ post (some (.int (Int32.ofInt 0))) σ
def xX12_isPerson : am_X := (SH, KF, (some .boolean), FT_X12, PT_X12, CT_X12, KT_X12, LT_X12, NT_X12, [(292, 1, 3, 12, 0, 0, sX12_in)])
theorem xX12_isPerson_SH : am_SH xX12_isPerson = SH := rfl
theorem xX12_isPerson_KF : am_KF xX12_isPerson = KF := rfl
theorem xX12_isPerson_rt : am_rt xX12_isPerson = (some .boolean) := rfl
theorem xX12_isPerson_FT : am_FT xX12_isPerson = FT_X12 := rfl
theorem xX12_isPerson_PT : am_PT xX12_isPerson = PT_X12 := rfl
theorem xX12_isPerson_CT : am_CT xX12_isPerson = CT_X12 := rfl
theorem xX12_isPerson_KT : am_KT xX12_isPerson = KT_X12 := rfl
theorem xX12_isPerson_LT : am_LT xX12_isPerson = LT_X12 := rfl
theorem xX12_isPerson_NT : am_NT xX12_isPerson = NT_X12 := rfl
theorem xX12_isPerson_c292 : am_find (am_ML xX12_isPerson) 292 = some (1, 3, 12, 0, 0, sX12_in) := rfl
theorem xX12_isPerson_n292 : am_find NT_X12 292 = none := rfl

theorem pX12_isPerson : am_B cX12_isPerson xX12_isPerson 2 0 sX12_isPerson := by
  intro n0 as σ post AA hA h
  obtain ⟨c, mn, hc, rfl, rfl, hF, h⟩ := h
  refine ⟨by simp [am_sl, Value.category], ?_⟩
  show AA 0 [some (.ref 51), some (.int (Int32.ofInt c))] [] 92 σ
  refine hA [] 40 _ _ _ _ _ ?_
  have e1 := FM_live hF
  have e2 := FM_people hF
  simp (disch := omega) only [dX12_isPerson_0, dX12_isPerson_1, dX12_isPerson_2, dX12_isPerson_3, FT_X12_46, dX12_isPerson_6, dX12_isPerson_7, FT_X12_221, dX12_isPerson_10, dX12_isPerson_11, dX12_isPerson_12, dX12_isPerson_13, xX12_isPerson_c292, xX12_isPerson_n292, dX12_isPerson_16, xX12_isPerson_SH, xX12_isPerson_KF, xX12_isPerson_rt, xX12_isPerson_FT, xX12_isPerson_PT, xX12_isPerson_CT, xX12_isPerson_KT, xX12_isPerson_LT, xX12_isPerson_NT, o_aload_n, o_getfield, o_iaload, o_iconst, o_iload_n, o_invokestatic, o_ireturn, o_isub, SH_51, KF_51_23, SH_61, KF_51_18, am_vc, am_opt, am_cl, am_find, am_ldi, am_ldl, am_lda, am_v, am_1, am_1l, am_1a, am_2, am_2l, am_ix, am_ri, am_arr, am_pf, am_rc, am_mask, am_lg, am_av, am_nat, fv_0, fv_1, fv_2, fv_3, fw_0, fw_1, List.getElem?_cons_zero, List.getElem?_cons_succ, List.set_cons_zero, List.set_cons_succ, List.length_cons, List.length_nil, List.take_succ_cons, List.take_zero, List.drop_succ_cons, List.drop_zero, List.reverse_cons, List.reverse_nil, List.nil_append, List.cons_append, List.append_nil, List.map_cons, List.map_nil, List.sum_cons, List.sum_nil, Value.category, Option.toList_some, Option.toList_none, Nat.reduceAdd, Nat.reduceLT, Nat.reduceLeDiff, Nat.reduceEqDiff, Nat.reduceSub, Nat.add_zero, Nat.le_refl, Nat.zero_le, Int.reduceNeg, Int.reduceLE, Int.reduceLT, true_and, and_true, and_self, if_true, if_false, ite_true, ite_false, eq_self_iff_true, reduceIte, reduceCtorEq, not_false_eq_true, not_true_eq_false, or_true, true_or, or_false, false_or, Nat.lt_irrefl, Nat.zero_lt_succ, nb_0, nb_1, e1, e2, ij_in, ii_c, ii_sub, Int.toNat_zero, Int.reduceSub]
  refine ⟨c, 0, -1, hc, by omega, by omega, rfl, ?_⟩
  rw [if_neg (by omega)]
  exact ⟨rfl, rfl, h⟩
theorem mX12_isPerson (l : Launch) : am_M l TB NB vwCl SH KF yX12_isPerson cX12_isPerson 2 (some .boolean) 3 0 0 sX12_isPerson := by
  refine am_M.of xX12_isPerson (by decide +kernel) TB_good GF rfl rfl rfl (by decide) ⟨FT_X12_ok, PT_X12_ok _, CT_X12_ok, KT_X12_ok, LT_X12_ok, NT_X12_ok, ?_⟩ pX12_isPerson
  exact List.forall_mem_cons.mpr ⟨⟨yX12_in, cX12_in, 3, (some .boolean), 2, 3, mX12_in l, by decide, by decide, tb_at 1631 (by decide +kernel) (by decide +kernel), tb_at 124 (by decide +kernel) (by decide +kernel), ⟨by decide +kernel, by decide +kernel, by decide +kernel⟩, rfl, tb_at 1629 (by decide +kernel) (by decide +kernel), tb_at 1630 (by decide +kernel) (by decide +kernel)⟩, fun _ h => absurd h List.not_mem_nil⟩

-- copies(): the working row is what is now
def cpl (σ : am_S) (k : Nat) : am_S := (fun o j => if o = 80 ∧ j < k then σ.1 79 j else σ.1 o j, σ.2)
theorem cpl_0 (σ : am_S) : cpl σ 0 = σ := am_Sext (fun o k => by simp [cpl]) rfl
theorem cpl_s (σ : am_S) (k : Nat) : am_pi (cpl σ k) 80 k (σ.1 79 k) = cpl σ (k + 1) := by
  refine am_Sext (fun o j => ?_) rfl
  by_cases h : o = 80 ∧ j = k
  · obtain ⟨rfl, rfl⟩ := h
    rw [pi_s]; simp [cpl]
  · rw [pi_n _ _ _ _ h]
    simp only [cpl]
    by_cases h2 : o = 80 ∧ j < k
    · rw [if_pos h2, if_pos ⟨h2.1, by omega⟩]
    · rw [if_neg h2, if_neg (fun q => h2 ⟨q.1, by omega⟩)]
theorem cpl_now (σ : am_S) (k j : Nat) : (cpl σ k).1 79 j = σ.1 79 j := by simp [cpl]
theorem cpl_n (σ : am_S) (k o j : Nat) (h : ¬ o = 80) : (cpl σ k).1 o j = σ.1 o j := by simp [cpl, h]
def sX12_copies : am_Sp := fun as n σ post => ∃ (mn : Int), n = 92 ∧ as = [.ref 51] ∧ FM mn σ ∧ ∀ τ, FM 0 τ → post none τ
def xX12_copies : am_X := (SH, KF, none, FT_X12, PT_X12, CT_X12, KT_X12, LT_X12, NT_X12, [])
theorem xX12_copies_SH : am_SH xX12_copies = SH := rfl
theorem xX12_copies_KF : am_KF xX12_copies = KF := rfl
theorem xX12_copies_rt : am_rt xX12_copies = none := rfl
theorem xX12_copies_FT : am_FT xX12_copies = FT_X12 := rfl
theorem xX12_copies_PT : am_PT xX12_copies = PT_X12 := rfl
theorem xX12_copies_CT : am_CT xX12_copies = CT_X12 := rfl
theorem xX12_copies_KT : am_KT xX12_copies = KT_X12 := rfl
theorem xX12_copies_LT : am_LT xX12_copies = LT_X12 := rfl
theorem xX12_copies_NT : am_NT xX12_copies = NT_X12 := rfl
theorem xX12_copies_t5 (k : Nat → Prop) : am_tg 5 (21) k = k 26 := am_tg_eq (by decide)
theorem xX12_copies_t23 (k : Nat → Prop) : am_tg 23 (-21) k = k 2 := am_tg_eq (by decide)

set_option maxRecDepth 100000 in
theorem cp_loop {σ : am_S} {post : Option Value → am_S → Prop} {AA : Nat → List (Option Value) → List Value → Nat → am_S → Prop} (hA : ∀ cuts f pc ls stk n τ, am_vc cX12_copies xX12_copies (92 + 0) post AA cuts f pc ls stk n τ → AA pc ls stk n τ) {mn : Int} (hF : FM mn σ) (h : ∀ τ, FM 0 τ → post none τ) : ∀ k : Nat, k ≤ 51 → AA 2 [some (.ref 51), some (.int (Int32.ofInt (k : Int)))] [] 92 (cpl σ k) := by
  refine am_up 51 fun k hk ih => ?_
  refine hA [(2, 2)] 60 _ _ _ _ _ ?_
  have e1 : (cpl σ k).1 51 18 = Int32.ofInt 0 := by rw [cpl_n _ _ _ _ (by decide)]; exact FM_live hF
  simp only [dX12_copies_0, dX12_copies_1, dX12_copies_2, dX12_copies_3, dX12_copies_5, xX12_copies_t5, dX12_copies_8, dX12_copies_9, FT_X12_104, dX12_copies_12, dX12_copies_13, dX12_copies_14, FT_X12_101, dX12_copies_17, dX12_copies_18, dX12_copies_19, dX12_copies_20, dX12_copies_23, xX12_copies_t23, dX12_copies_26, dX12_copies_27, dX12_copies_28, FT_X12_61, dX12_copies_31, dX12_copies_32, FT_X12_221, dX12_copies_35, dX12_copies_36, PT_X12_296, dX12_copies_39, dX12_copies_40, dX12_copies_41, PT_X12_299, dX12_copies_44, xX12_copies_SH, xX12_copies_KF, xX12_copies_rt, xX12_copies_FT, xX12_copies_PT, xX12_copies_CT, xX12_copies_KT, xX12_copies_LT, xX12_copies_NT, o_aload_n, o_bipush, o_getfield, o_goto, o_iaload, o_iastore, o_iconst, o_if_icmp_ge, o_iinc, o_iload_n, o_istore_n, o_putfield, o_return_, SH_51, KF_51_28, SH_66, KF_51_18, KF_51_47, KF_51_46, SH_80, KF_51_48, KF_51_45, SH_79, am_vc, am_opt, am_cl, am_find, am_ldi, am_ldl, am_lda, am_v, am_1, am_1l, am_1a, am_2, am_2l, am_ix, am_ri, am_arr, am_pf, am_rc, am_mask, am_lg, am_av, am_nat, fv_0, fv_1, fv_2, fv_3, fw_0, fw_1, List.getElem?_cons_zero, List.getElem?_cons_succ, List.set_cons_zero, List.set_cons_succ, List.length_cons, List.length_nil, List.take_succ_cons, List.take_zero, List.drop_succ_cons, List.drop_zero, List.reverse_cons, List.reverse_nil, List.nil_append, List.cons_append, List.append_nil, List.map_cons, List.map_nil, List.sum_cons, List.sum_nil, Value.category, Option.toList_some, Option.toList_none, Nat.reduceAdd, Nat.reduceLT, Nat.reduceLeDiff, Nat.reduceEqDiff, Nat.reduceSub, Nat.add_zero, Nat.le_refl, Nat.zero_le, Int.reduceNeg, Int.reduceLE, Int.reduceLT, true_and, and_true, and_self, if_true, if_false, ite_true, ite_false, eq_self_iff_true, reduceIte, reduceCtorEq, not_false_eq_true, not_true_eq_false, or_true, true_or, or_false, false_or, Nat.lt_irrefl, Nat.zero_lt_succ, cpl_now, e1, nb_0]
  simp (disch := omega) only [ii_le, ik_c, ik_in, ik_s, ij_in, ii_c, Int.toNat_natCast, cpl_s, Int.toNat_zero, Int.reduceLE, Nat.reduceLT, true_and]
  refine ⟨fun h1 => h _ ?_, fun h1 => ⟨by omega, by omega, ih (by omega)⟩⟩
  have hk : k = 51 := by omega
  subst hk
  obtain ⟨a1, b1, c1, d1, e2, f1⟩ := hF
  refine FM_pi (by rfl) (FM_pi (by rfl) ⟨?_, ?_, ?_, ?_, ?_, ?_⟩)
  · simpa [cpl] using a1
  · simpa [cpl] using b1
  · simpa [cpl] using c1
  · intro j hj; rw [cpl_now]; exact d1 j hj
  · intro j hj
    have q1 : (cpl σ 51).1 80 j = σ.1 79 j := by simp [cpl, hj]
    rw [q1, d1 j hj]
    by_cases q : j = 49
    · rw [if_pos q, q]; rfl
    · rw [if_neg q]
  · simpa [cpl] using f1
set_option maxRecDepth 100000 in
theorem pX12_copies : am_B cX12_copies xX12_copies 2 0 sX12_copies := by
  intro n0 as σ post AA hA h
  obtain ⟨mn, rfl, rfl, hF, h⟩ := h
  refine ⟨by simp [am_sl, Value.category], ?_⟩
  show AA 0 [some (.ref 51), none] [] 92 σ
  refine hA [(2, 2)] 20 _ _ _ _ _ ?_
  simp only [dX12_copies_0, dX12_copies_1, dX12_copies_2, dX12_copies_3, dX12_copies_5, xX12_copies_t5, dX12_copies_8, dX12_copies_9, FT_X12_104, dX12_copies_12, dX12_copies_13, dX12_copies_14, FT_X12_101, dX12_copies_17, dX12_copies_18, dX12_copies_19, dX12_copies_20, dX12_copies_23, xX12_copies_t23, dX12_copies_26, dX12_copies_27, dX12_copies_28, FT_X12_61, dX12_copies_31, dX12_copies_32, FT_X12_221, dX12_copies_35, dX12_copies_36, PT_X12_296, dX12_copies_39, dX12_copies_40, dX12_copies_41, PT_X12_299, dX12_copies_44, xX12_copies_SH, xX12_copies_KF, xX12_copies_rt, xX12_copies_FT, xX12_copies_PT, xX12_copies_CT, xX12_copies_KT, xX12_copies_LT, xX12_copies_NT, o_aload_n, o_bipush, o_getfield, o_goto, o_iaload, o_iastore, o_iconst, o_if_icmp_ge, o_iinc, o_iload_n, o_istore_n, o_putfield, o_return_, SH_51, KF_51_28, SH_66, KF_51_18, KF_51_47, KF_51_46, SH_80, KF_51_48, KF_51_45, SH_79, am_vc, am_opt, am_cl, am_find, am_ldi, am_ldl, am_lda, am_v, am_1, am_1l, am_1a, am_2, am_2l, am_ix, am_ri, am_arr, am_pf, am_rc, am_mask, am_lg, am_av, am_nat, fv_0, fv_1, fv_2, fv_3, fw_0, fw_1, List.getElem?_cons_zero, List.getElem?_cons_succ, List.set_cons_zero, List.set_cons_succ, List.length_cons, List.length_nil, List.take_succ_cons, List.take_zero, List.drop_succ_cons, List.drop_zero, List.reverse_cons, List.reverse_nil, List.nil_append, List.cons_append, List.append_nil, List.map_cons, List.map_nil, List.sum_cons, List.sum_nil, Value.category, Option.toList_some, Option.toList_none, Nat.reduceAdd, Nat.reduceLT, Nat.reduceLeDiff, Nat.reduceEqDiff, Nat.reduceSub, Nat.add_zero, Nat.le_refl, Nat.zero_le, Int.reduceNeg, Int.reduceLE, Int.reduceLT, true_and, and_true, and_self, if_true, if_false, ite_true, ite_false, eq_self_iff_true, reduceIte, reduceCtorEq, not_false_eq_true, not_true_eq_false, or_true, true_or, or_false, false_or, Nat.lt_irrefl, Nat.zero_lt_succ]
  have := cp_loop hA hF h 0 (by omega)
  rw [cpl_0] at this
  exact this
theorem mX12_copies (l : Launch) : am_M l TB NB vwCl SH KF yX12_copies cX12_copies 2 none 2 0 0 sX12_copies := by
  refine am_M.of xX12_copies (by decide +kernel) TB_good GF rfl rfl rfl (by decide) ⟨FT_X12_ok, PT_X12_ok _, CT_X12_ok, KT_X12_ok, LT_X12_ok, NT_X12_ok, ?_⟩ pX12_copies
  exact fun _ h => absurd h List.not_mem_nil
end
section
-- the facts of a state that are asked for most
theorem FM_e {mn : Int} {σ : am_S} (h : FM mn σ) : σ.1 51 18 = Int32.ofInt 0 ∧ σ.1 60 0 = Int32.ofInt 8 ∧ σ.1 61 0 = Int32.ofInt 0 ∧ σ.1 66 0 = Int32.ofInt 0 := ⟨h.1.2.2.1, h.2.1.1, h.2.1.2.1, h.2.1.2.2⟩
-- isWhole(c)
def sX12_isWhole : am_Sp := fun as n σ post => ∃ (c mn : Int), (-2147483648 ≤ c ∧ c < 2147483648) ∧ n = 92 ∧ as = [.ref 51, .int (Int32.ofInt c)] ∧ FM mn σ ∧ post (some (.int (Int32.ofInt (if 0 ≤ c ∧ c ≤ 7 then 1 else 0)))) σ
def xX12_isWhole : am_X := (SH, KF, (some .boolean), FT_X12, PT_X12, CT_X12, KT_X12, LT_X12, NT_X12, [(306, 0, 2, 12, 0, 0, sX12_isRung)])
theorem xX12_isWhole_SH : am_SH xX12_isWhole = SH := rfl
theorem xX12_isWhole_KF : am_KF xX12_isWhole = KF := rfl
theorem xX12_isWhole_rt : am_rt xX12_isWhole = (some .boolean) := rfl
theorem xX12_isWhole_FT : am_FT xX12_isWhole = FT_X12 := rfl
theorem xX12_isWhole_PT : am_PT xX12_isWhole = PT_X12 := rfl
theorem xX12_isWhole_CT : am_CT xX12_isWhole = CT_X12 := rfl
theorem xX12_isWhole_KT : am_KT xX12_isWhole = KT_X12 := rfl
theorem xX12_isWhole_LT : am_LT xX12_isWhole = LT_X12 := rfl
theorem xX12_isWhole_NT : am_NT xX12_isWhole = NT_X12 := rfl
theorem xX12_isWhole_c306 : am_find (am_ML xX12_isWhole) 306 = some (0, 2, 12, 0, 0, sX12_isRung) := rfl
theorem xX12_isWhole_n306 : am_find NT_X12 306 = none := rfl
theorem xX12_isWhole_t5 (k : Nat → Prop) : am_tg 5 (19) k = k 24 := am_tg_eq (by decide)
theorem xX12_isWhole_t17 (k : Nat → Prop) : am_tg 17 (7) k = k 24 := am_tg_eq (by decide)
theorem xX12_isWhole_t21 (k : Nat → Prop) : am_tg 21 (4) k = k 25 := am_tg_eq (by decide)

set_option maxRecDepth 100000 in
theorem pX12_isWhole : am_B cX12_isWhole xX12_isWhole 2 0 sX12_isWhole := by
  intro n0 as σ post AA hA h
  obtain ⟨c, mn, hc, rfl, rfl, hF, h⟩ := h
  refine ⟨by simp [am_sl, Value.category], ?_⟩
  show AA 0 [some (.ref 51), some (.int (Int32.ofInt c))] [] 92 σ
  refine hA [] 40 _ _ _ _ _ ?_
  simp (disch := omega) only [dX12_isWhole_0, dX12_isWhole_1, dX12_isWhole_2, xX12_isWhole_c306, xX12_isWhole_n306, dX12_isWhole_5, xX12_isWhole_t5, dX12_isWhole_8, dX12_isWhole_9, FT_X12_104, dX12_isWhole_12, dX12_isWhole_14, dX12_isWhole_15, dX12_isWhole_16, dX12_isWhole_17, xX12_isWhole_t17, dX12_isWhole_20, dX12_isWhole_21, xX12_isWhole_t21, dX12_isWhole_24, dX12_isWhole_25, xX12_isWhole_SH, xX12_isWhole_KF, xX12_isWhole_rt, xX12_isWhole_FT, xX12_isWhole_PT, xX12_isWhole_CT, xX12_isWhole_KT, xX12_isWhole_LT, xX12_isWhole_NT, o_aload_n, o_bipush, o_getfield, o_goto, o_iadd, o_iaload, o_iconst, o_ifCond_eq, o_ifCond_ne, o_iload_n, o_invokevirtual, o_ireturn, SH_51, KF_51_46, SH_80, am_vc, am_opt, am_cl, am_find, am_ldi, am_ldl, am_lda, am_v, am_1, am_1l, am_1a, am_2, am_2l, am_ix, am_ri, am_arr, am_pf, am_rc, am_mask, am_lg, am_av, am_nat, fv_0, fv_1, fv_2, fv_3, fw_0, fw_1, List.getElem?_cons_zero, List.getElem?_cons_succ, List.set_cons_zero, List.set_cons_succ, List.length_cons, List.length_nil, List.take_succ_cons, List.take_zero, List.drop_succ_cons, List.drop_zero, List.reverse_cons, List.reverse_nil, List.nil_append, List.cons_append, List.append_nil, List.map_cons, List.map_nil, List.sum_cons, List.sum_nil, Value.category, Option.toList_some, Option.toList_none, Nat.reduceAdd, Nat.reduceLT, Nat.reduceLeDiff, Nat.reduceEqDiff, Nat.reduceSub, Nat.add_zero, Nat.le_refl, Nat.zero_le, Int.reduceNeg, Int.reduceLE, Int.reduceLT, true_and, and_true, and_self, if_true, if_false, ite_true, ite_false, eq_self_iff_true, reduceIte, reduceCtorEq, not_false_eq_true, not_true_eq_false, or_true, true_or, or_false, false_or, Nat.lt_irrefl, Nat.zero_lt_succ, nb_0, nb_1, ii_add]
  refine ⟨c, mn, hc, rfl, rfl, hF, ?_⟩
  simp only [dX12_isWhole_0, dX12_isWhole_1, dX12_isWhole_2, xX12_isWhole_c306, xX12_isWhole_n306, dX12_isWhole_5, xX12_isWhole_t5, dX12_isWhole_8, dX12_isWhole_9, FT_X12_104, dX12_isWhole_12, dX12_isWhole_14, dX12_isWhole_15, dX12_isWhole_16, dX12_isWhole_17, xX12_isWhole_t17, dX12_isWhole_20, dX12_isWhole_21, xX12_isWhole_t21, dX12_isWhole_24, dX12_isWhole_25, xX12_isWhole_SH, xX12_isWhole_KF, xX12_isWhole_rt, xX12_isWhole_FT, xX12_isWhole_PT, xX12_isWhole_CT, xX12_isWhole_KT, xX12_isWhole_LT, xX12_isWhole_NT, o_aload_n, o_bipush, o_getfield, o_goto, o_iadd, o_iaload, o_iconst, o_ifCond_eq, o_ifCond_ne, o_iload_n, o_invokevirtual, o_ireturn, SH_51, KF_51_46, SH_80, am_vc, am_opt, am_cl, am_find, am_ldi, am_ldl, am_lda, am_v, am_1, am_1l, am_1a, am_2, am_2l, am_ix, am_ri, am_arr, am_pf, am_rc, am_mask, am_lg, am_av, am_nat, fv_0, fv_1, fv_2, fv_3, fw_0, fw_1, List.getElem?_cons_zero, List.getElem?_cons_succ, List.set_cons_zero, List.set_cons_succ, List.length_cons, List.length_nil, List.take_succ_cons, List.take_zero, List.drop_succ_cons, List.drop_zero, List.reverse_cons, List.reverse_nil, List.nil_append, List.cons_append, List.append_nil, List.map_cons, List.map_nil, List.sum_cons, List.sum_nil, Value.category, Option.toList_some, Option.toList_none, Nat.reduceAdd, Nat.reduceLT, Nat.reduceLeDiff, Nat.reduceEqDiff, Nat.reduceSub, Nat.add_zero, Nat.le_refl, Nat.zero_le, Int.reduceNeg, Int.reduceLE, Int.reduceLT, true_and, and_true, and_self, if_true, if_false, ite_true, ite_false, eq_self_iff_true, reduceIte, reduceCtorEq, not_false_eq_true, not_true_eq_false, or_true, true_or, or_false, false_or, Nat.lt_irrefl, Nat.zero_lt_succ, nb_0, nb_1, ii_add]
  by_cases q : 0 ≤ c ∧ c ≤ 7
  · rw [if_pos q] at h
    have e1 : σ.1 80 (25 + c).toNat = Int32.ofInt 0 := FM_z hF _ (by omega) (by omega) (by omega)
    simp (disch := omega) only [ii_0, ii_1, ii_add, ii_sub, ii_mul, ii_lt, ii_le, ii_eq, ij_in, ii_c, Int.toNat_natCast, Int.toNat_zero, Int.reduceToNat, Int.reduceEq, Int.reduceNe, Int.reduceLE, Int.reduceLT, Int.reduceAdd, Int.reduceSub, Int.reduceMul, Int.reduceNeg, Nat.reduceLT, Nat.reduceAdd, Nat.reduceMul, not_false_eq_true, not_true_eq_false, true_and, and_true, and_self, false_and, and_false, true_implies, false_implies, implies_true, forall_const, if_true, if_false, ite_true, ite_false, reduceIte, eq_self_iff_true, Int.natCast_nonneg, if_pos, q, e1]
    exact ⟨⟨by omega, by omega⟩, h⟩
  · rw [if_neg q] at h
    simp (disch := omega) only [ii_0, ii_1, ii_add, ii_sub, ii_mul, ii_lt, ii_le, ii_eq, ij_in, ii_c, Int.toNat_natCast, Int.toNat_zero, Int.reduceToNat, Int.reduceEq, Int.reduceNe, Int.reduceLE, Int.reduceLT, Int.reduceAdd, Int.reduceSub, Int.reduceMul, Int.reduceNeg, Nat.reduceLT, Nat.reduceAdd, Nat.reduceMul, not_false_eq_true, not_true_eq_false, true_and, and_true, and_self, false_and, and_false, true_implies, false_implies, implies_true, forall_const, if_true, if_false, ite_true, ite_false, reduceIte, eq_self_iff_true, Int.natCast_nonneg, if_neg, q]
    exact h
theorem mX12_isWhole (l : Launch) : am_M l TB NB vwCl SH KF yX12_isWhole cX12_isWhole 2 (some .boolean) 4 0 0 sX12_isWhole := by
  refine am_M.of xX12_isWhole (by decide +kernel) TB_good GF rfl rfl rfl (by decide) ⟨FT_X12_ok, PT_X12_ok _, CT_X12_ok, KT_X12_ok, LT_X12_ok, NT_X12_ok, ?_⟩ pX12_isWhole
  exact List.forall_mem_cons.mpr ⟨⟨yX12_isRung, cX12_isRung, 2, (some .boolean), 3, 1, mX12_isRung l, by decide, by decide, tb_at 1643 (by decide +kernel) (by decide +kernel), tb_at 124 (by decide +kernel) (by decide +kernel), ⟨by decide +kernel, by decide +kernel, by decide +kernel⟩, rfl, tb_at 1640 (by decide +kernel) (by decide +kernel), tb_at 1642 (by decide +kernel) (by decide +kernel), ⟨(RX12, TX12, 63), rfl, tb_at 67 (by decide +kernel) (by decide +kernel)⟩⟩, fun _ h => absurd h List.not_mem_nil⟩


-- nobody is there: onRung, widthsOf, widthsOn
def sX12_onRung : am_Sp := fun as n σ post => ∃ (c : Int32) (mn : Int), n = 92 ∧ as = [.ref 51, .int c] ∧ FM mn σ ∧ post (some (.int (Int32.ofInt 0))) σ
def xX12_onRung : am_X := (SH, KF, (some .int), FT_X12, PT_X12, CT_X12, KT_X12, LT_X12, NT_X12, [])
theorem xX12_onRung_SH : am_SH xX12_onRung = SH := rfl
theorem xX12_onRung_KF : am_KF xX12_onRung = KF := rfl
theorem xX12_onRung_rt : am_rt xX12_onRung = (some .int) := rfl
theorem xX12_onRung_FT : am_FT xX12_onRung = FT_X12 := rfl
theorem xX12_onRung_PT : am_PT xX12_onRung = PT_X12 := rfl
theorem xX12_onRung_CT : am_CT xX12_onRung = CT_X12 := rfl
theorem xX12_onRung_KT : am_KT xX12_onRung = KT_X12 := rfl
theorem xX12_onRung_LT : am_LT xX12_onRung = LT_X12 := rfl
theorem xX12_onRung_NT : am_NT xX12_onRung = NT_X12 := rfl
theorem xX12_onRung_t14 (k : Nat → Prop) : am_tg 14 (25) k = k 39 := am_tg_eq (by decide)
theorem xX12_onRung_t24 (k : Nat → Prop) : am_tg 24 (9) k = k 33 := am_tg_eq (by decide)
theorem xX12_onRung_t36 (k : Nat → Prop) : am_tg 36 (-32) k = k 4 := am_tg_eq (by decide)

set_option maxRecDepth 100000 in
theorem pX12_onRung : am_B cX12_onRung xX12_onRung 4 0 sX12_onRung := by
  intro n0 as σ post AA hA h
  obtain ⟨c, mn, rfl, rfl, hF, h⟩ := h
  refine ⟨by simp [am_sl, Value.category], ?_⟩
  show AA 0 [some (.ref 51), some (.int c), none, none] [] 92 σ
  obtain ⟨e1, e2, e3, e4⟩ := FM_e hF
  refine hA [(4, 4)] 40 _ _ _ _ _ ?_
  simp only [dX12_onRung_0, dX12_onRung_1, dX12_onRung_2, dX12_onRung_3, dX12_onRung_4, dX12_onRung_5, dX12_onRung_6, FT_X12_46, dX12_onRung_9, dX12_onRung_10, FT_X12_221, dX12_onRung_13, dX12_onRung_14, xX12_onRung_t14, dX12_onRung_17, dX12_onRung_18, FT_X12_104, dX12_onRung_21, dX12_onRung_22, dX12_onRung_23, dX12_onRung_24, xX12_onRung_t24, dX12_onRung_27, dX12_onRung_28, dX12_onRung_29, dX12_onRung_30, dX12_onRung_31, dX12_onRung_32, dX12_onRung_33, dX12_onRung_36, xX12_onRung_t36, dX12_onRung_39, dX12_onRung_40, xX12_onRung_SH, xX12_onRung_KF, xX12_onRung_rt, xX12_onRung_FT, xX12_onRung_PT, xX12_onRung_CT, xX12_onRung_KT, xX12_onRung_LT, xX12_onRung_NT, o_aload_n, o_getfield, o_goto, o_iaload, o_iconst, o_if_icmp_ge, o_if_icmp_ne, o_iinc, o_iload_n, o_ior, o_ireturn, o_ishl, o_istore_n, SH_51, KF_51_23, SH_61, KF_51_18, KF_51_46, SH_80, am_vc, am_opt, am_cl, am_find, am_ldi, am_ldl, am_lda, am_v, am_1, am_1l, am_1a, am_2, am_2l, am_ix, am_ri, am_arr, am_pf, am_rc, am_mask, am_lg, am_av, am_nat, fv_0, fv_1, fv_2, fv_3, fw_0, fw_1, List.getElem?_cons_zero, List.getElem?_cons_succ, List.set_cons_zero, List.set_cons_succ, List.length_cons, List.length_nil, List.take_succ_cons, List.take_zero, List.drop_succ_cons, List.drop_zero, List.reverse_cons, List.reverse_nil, List.nil_append, List.cons_append, List.append_nil, List.map_cons, List.map_nil, List.sum_cons, List.sum_nil, Value.category, Option.toList_some, Option.toList_none, Nat.reduceAdd, Nat.reduceLT, Nat.reduceLeDiff, Nat.reduceEqDiff, Nat.reduceSub, Nat.add_zero, Nat.le_refl, Nat.zero_le, Int.reduceNeg, Int.reduceLE, Int.reduceLT, true_and, and_true, and_self, if_true, if_false, ite_true, ite_false, eq_self_iff_true, reduceIte, reduceCtorEq, not_false_eq_true, not_true_eq_false, or_true, true_or, or_false, false_or, Nat.lt_irrefl, Nat.zero_lt_succ, e1]
  refine hA [(4, 4)] 40 _ _ _ _ _ ?_
  simp only [dX12_onRung_0, dX12_onRung_1, dX12_onRung_2, dX12_onRung_3, dX12_onRung_4, dX12_onRung_5, dX12_onRung_6, FT_X12_46, dX12_onRung_9, dX12_onRung_10, FT_X12_221, dX12_onRung_13, dX12_onRung_14, xX12_onRung_t14, dX12_onRung_17, dX12_onRung_18, FT_X12_104, dX12_onRung_21, dX12_onRung_22, dX12_onRung_23, dX12_onRung_24, xX12_onRung_t24, dX12_onRung_27, dX12_onRung_28, dX12_onRung_29, dX12_onRung_30, dX12_onRung_31, dX12_onRung_32, dX12_onRung_33, dX12_onRung_36, xX12_onRung_t36, dX12_onRung_39, dX12_onRung_40, xX12_onRung_SH, xX12_onRung_KF, xX12_onRung_rt, xX12_onRung_FT, xX12_onRung_PT, xX12_onRung_CT, xX12_onRung_KT, xX12_onRung_LT, xX12_onRung_NT, o_aload_n, o_getfield, o_goto, o_iaload, o_iconst, o_if_icmp_ge, o_if_icmp_ne, o_iinc, o_iload_n, o_ior, o_ireturn, o_ishl, o_istore_n, SH_51, KF_51_23, SH_61, KF_51_18, KF_51_46, SH_80, am_vc, am_opt, am_cl, am_find, am_ldi, am_ldl, am_lda, am_v, am_1, am_1l, am_1a, am_2, am_2l, am_ix, am_ri, am_arr, am_pf, am_rc, am_mask, am_lg, am_av, am_nat, fv_0, fv_1, fv_2, fv_3, fw_0, fw_1, List.getElem?_cons_zero, List.getElem?_cons_succ, List.set_cons_zero, List.set_cons_succ, List.length_cons, List.length_nil, List.take_succ_cons, List.take_zero, List.drop_succ_cons, List.drop_zero, List.reverse_cons, List.reverse_nil, List.nil_append, List.cons_append, List.append_nil, List.map_cons, List.map_nil, List.sum_cons, List.sum_nil, Value.category, Option.toList_some, Option.toList_none, Nat.reduceAdd, Nat.reduceLT, Nat.reduceLeDiff, Nat.reduceEqDiff, Nat.reduceSub, Nat.add_zero, Nat.le_refl, Nat.zero_le, Int.reduceNeg, Int.reduceLE, Int.reduceLT, true_and, and_true, and_self, if_true, if_false, ite_true, ite_false, eq_self_iff_true, reduceIte, reduceCtorEq, not_false_eq_true, not_true_eq_false, or_true, true_or, or_false, false_or, Nat.lt_irrefl, Nat.zero_lt_succ, e1]
  simp (disch := omega) only [ii_0, ii_1, ii_add, ii_sub, ii_mul, ii_lt, ii_le, ii_eq, ij_in, ii_c, Int.toNat_natCast, Int.toNat_zero, Int.reduceToNat, Int.reduceEq, Int.reduceNe, Int.reduceLE, Int.reduceLT, Int.reduceAdd, Int.reduceSub, Int.reduceMul, Int.reduceNeg, Nat.reduceLT, Nat.reduceAdd, Nat.reduceMul, not_false_eq_true, not_true_eq_false, true_and, and_true, and_self, false_and, and_false, true_implies, false_implies, implies_true, forall_const, if_true, if_false, ite_true, ite_false, reduceIte, eq_self_iff_true, Int.natCast_nonneg, e3]
  exact h
theorem mX12_onRung (l : Launch) : am_M l TB NB vwCl SH KF yX12_onRung cX12_onRung 4 (some .int) 2 0 0 sX12_onRung := by
  refine am_M.of xX12_onRung (by decide +kernel) TB_good GF rfl rfl rfl (by decide) ⟨FT_X12_ok, PT_X12_ok _, CT_X12_ok, KT_X12_ok, LT_X12_ok, NT_X12_ok, ?_⟩ pX12_onRung
  exact fun _ h => absurd h List.not_mem_nil

def sX12_widthsOf : am_Sp := fun as n σ post => ∃ (c : Int32) (mn : Int), n = 92 ∧ as = [.ref 51, .int c] ∧ FM mn σ ∧ post (some (.int (Int32.ofInt 0))) σ
def sX12_widthAt : am_Sp := fun _ _ _ _ => False
theorem am_never {l : Launch} {KF : am_Kf} {y : MethodName} {cc : ByteArray} {maxL : Nat} {ret : Option FieldType} {d mc ms : Nat} : am_M l TB NB vwCl SH KF y cc maxL ret d mc ms (fun _ _ _ _ => False) := fun _ _ _ _ _ _ _ h => h.elim
theorem mX12_widthAt (l : Launch) : am_M l TB NB vwCl SH KF yX12_widthAt cX12_widthAt 2 (some .int) 2 0 0 sX12_widthAt := am_never
def xX12_widthsOf : am_X := (SH, KF, (some .int), FT_X12, PT_X12, CT_X12, KT_X12, LT_X12, NT_X12, [(309, 0, 2, 12, 0, 0, sX12_widthAt)])
theorem xX12_widthsOf_SH : am_SH xX12_widthsOf = SH := rfl
theorem xX12_widthsOf_KF : am_KF xX12_widthsOf = KF := rfl
theorem xX12_widthsOf_rt : am_rt xX12_widthsOf = (some .int) := rfl
theorem xX12_widthsOf_FT : am_FT xX12_widthsOf = FT_X12 := rfl
theorem xX12_widthsOf_PT : am_PT xX12_widthsOf = PT_X12 := rfl
theorem xX12_widthsOf_CT : am_CT xX12_widthsOf = CT_X12 := rfl
theorem xX12_widthsOf_KT : am_KT xX12_widthsOf = KT_X12 := rfl
theorem xX12_widthsOf_LT : am_LT xX12_widthsOf = LT_X12 := rfl
theorem xX12_widthsOf_NT : am_NT xX12_widthsOf = NT_X12 := rfl
theorem xX12_widthsOf_c309 : am_find (am_ML xX12_widthsOf) 309 = some (0, 2, 12, 0, 0, sX12_widthAt) := rfl
theorem xX12_widthsOf_n309 : am_find NT_X12 309 = none := rfl
theorem xX12_widthsOf_t14 (k : Nat → Prop) : am_tg 14 (26) k = k 40 := am_tg_eq (by decide)
theorem xX12_widthsOf_t23 (k : Nat → Prop) : am_tg 23 (11) k = k 34 := am_tg_eq (by decide)
theorem xX12_widthsOf_t37 (k : Nat → Prop) : am_tg 37 (-33) k = k 4 := am_tg_eq (by decide)

set_option maxRecDepth 100000 in
theorem pX12_widthsOf : am_B cX12_widthsOf xX12_widthsOf 4 0 sX12_widthsOf := by
  intro n0 as σ post AA hA h
  obtain ⟨c, mn, rfl, rfl, hF, h⟩ := h
  refine ⟨by simp [am_sl, Value.category], ?_⟩
  show AA 0 [some (.ref 51), some (.int c), none, none] [] 92 σ
  obtain ⟨e1, e2, e3, e4⟩ := FM_e hF
  refine hA [(4, 4)] 40 _ _ _ _ _ ?_
  simp only [dX12_widthsOf_0, dX12_widthsOf_1, dX12_widthsOf_2, dX12_widthsOf_3, dX12_widthsOf_4, dX12_widthsOf_5, dX12_widthsOf_6, FT_X12_46, dX12_widthsOf_9, dX12_widthsOf_10, FT_X12_221, dX12_widthsOf_13, dX12_widthsOf_14, xX12_widthsOf_t14, dX12_widthsOf_17, dX12_widthsOf_18, dX12_widthsOf_19, dX12_widthsOf_20, dX12_widthsOf_21, dX12_widthsOf_22, dX12_widthsOf_23, xX12_widthsOf_t23, dX12_widthsOf_26, dX12_widthsOf_27, dX12_widthsOf_28, dX12_widthsOf_29, xX12_widthsOf_c309, xX12_widthsOf_n309, dX12_widthsOf_32, dX12_widthsOf_33, dX12_widthsOf_34, dX12_widthsOf_37, xX12_widthsOf_t37, dX12_widthsOf_40, dX12_widthsOf_41, xX12_widthsOf_SH, xX12_widthsOf_KF, xX12_widthsOf_rt, xX12_widthsOf_FT, xX12_widthsOf_PT, xX12_widthsOf_CT, xX12_widthsOf_KT, xX12_widthsOf_LT, xX12_widthsOf_NT, o_aload_n, o_getfield, o_goto, o_iadd, o_iaload, o_iand, o_iconst, o_if_icmp_ge, o_if_icmp_ne, o_iinc, o_iload_n, o_invokevirtual, o_ireturn, o_ishr, o_istore_n, SH_51, KF_51_23, SH_61, KF_51_18, am_vc, am_opt, am_cl, am_find, am_ldi, am_ldl, am_lda, am_v, am_1, am_1l, am_1a, am_2, am_2l, am_ix, am_ri, am_arr, am_pf, am_rc, am_mask, am_lg, am_av, am_nat, fv_0, fv_1, fv_2, fv_3, fw_0, fw_1, List.getElem?_cons_zero, List.getElem?_cons_succ, List.set_cons_zero, List.set_cons_succ, List.length_cons, List.length_nil, List.take_succ_cons, List.take_zero, List.drop_succ_cons, List.drop_zero, List.reverse_cons, List.reverse_nil, List.nil_append, List.cons_append, List.append_nil, List.map_cons, List.map_nil, List.sum_cons, List.sum_nil, Value.category, Option.toList_some, Option.toList_none, Nat.reduceAdd, Nat.reduceLT, Nat.reduceLeDiff, Nat.reduceEqDiff, Nat.reduceSub, Nat.add_zero, Nat.le_refl, Nat.zero_le, Int.reduceNeg, Int.reduceLE, Int.reduceLT, true_and, and_true, and_self, if_true, if_false, ite_true, ite_false, eq_self_iff_true, reduceIte, reduceCtorEq, not_false_eq_true, not_true_eq_false, or_true, true_or, or_false, false_or, Nat.lt_irrefl, Nat.zero_lt_succ, e1]
  refine hA [(4, 4)] 40 _ _ _ _ _ ?_
  simp only [dX12_widthsOf_0, dX12_widthsOf_1, dX12_widthsOf_2, dX12_widthsOf_3, dX12_widthsOf_4, dX12_widthsOf_5, dX12_widthsOf_6, FT_X12_46, dX12_widthsOf_9, dX12_widthsOf_10, FT_X12_221, dX12_widthsOf_13, dX12_widthsOf_14, xX12_widthsOf_t14, dX12_widthsOf_17, dX12_widthsOf_18, dX12_widthsOf_19, dX12_widthsOf_20, dX12_widthsOf_21, dX12_widthsOf_22, dX12_widthsOf_23, xX12_widthsOf_t23, dX12_widthsOf_26, dX12_widthsOf_27, dX12_widthsOf_28, dX12_widthsOf_29, xX12_widthsOf_c309, xX12_widthsOf_n309, dX12_widthsOf_32, dX12_widthsOf_33, dX12_widthsOf_34, dX12_widthsOf_37, xX12_widthsOf_t37, dX12_widthsOf_40, dX12_widthsOf_41, xX12_widthsOf_SH, xX12_widthsOf_KF, xX12_widthsOf_rt, xX12_widthsOf_FT, xX12_widthsOf_PT, xX12_widthsOf_CT, xX12_widthsOf_KT, xX12_widthsOf_LT, xX12_widthsOf_NT, o_aload_n, o_getfield, o_goto, o_iadd, o_iaload, o_iand, o_iconst, o_if_icmp_ge, o_if_icmp_ne, o_iinc, o_iload_n, o_invokevirtual, o_ireturn, o_ishr, o_istore_n, SH_51, KF_51_23, SH_61, KF_51_18, am_vc, am_opt, am_cl, am_find, am_ldi, am_ldl, am_lda, am_v, am_1, am_1l, am_1a, am_2, am_2l, am_ix, am_ri, am_arr, am_pf, am_rc, am_mask, am_lg, am_av, am_nat, fv_0, fv_1, fv_2, fv_3, fw_0, fw_1, List.getElem?_cons_zero, List.getElem?_cons_succ, List.set_cons_zero, List.set_cons_succ, List.length_cons, List.length_nil, List.take_succ_cons, List.take_zero, List.drop_succ_cons, List.drop_zero, List.reverse_cons, List.reverse_nil, List.nil_append, List.cons_append, List.append_nil, List.map_cons, List.map_nil, List.sum_cons, List.sum_nil, Value.category, Option.toList_some, Option.toList_none, Nat.reduceAdd, Nat.reduceLT, Nat.reduceLeDiff, Nat.reduceEqDiff, Nat.reduceSub, Nat.add_zero, Nat.le_refl, Nat.zero_le, Int.reduceNeg, Int.reduceLE, Int.reduceLT, true_and, and_true, and_self, if_true, if_false, ite_true, ite_false, eq_self_iff_true, reduceIte, reduceCtorEq, not_false_eq_true, not_true_eq_false, or_true, true_or, or_false, false_or, Nat.lt_irrefl, Nat.zero_lt_succ, e1]
  simp (disch := omega) only [ii_0, ii_1, ii_add, ii_sub, ii_mul, ii_lt, ii_le, ii_eq, ij_in, ii_c, Int.toNat_natCast, Int.toNat_zero, Int.reduceToNat, Int.reduceEq, Int.reduceNe, Int.reduceLE, Int.reduceLT, Int.reduceAdd, Int.reduceSub, Int.reduceMul, Int.reduceNeg, Nat.reduceLT, Nat.reduceAdd, Nat.reduceMul, not_false_eq_true, not_true_eq_false, true_and, and_true, and_self, false_and, and_false, true_implies, false_implies, implies_true, forall_const, if_true, if_false, ite_true, ite_false, reduceIte, eq_self_iff_true, Int.natCast_nonneg, e3]
  exact h
theorem mX12_widthsOf (l : Launch) : am_M l TB NB vwCl SH KF yX12_widthsOf cX12_widthsOf 4 (some .int) 3 0 0 sX12_widthsOf := by
  refine am_M.of xX12_widthsOf (by decide +kernel) TB_good GF rfl rfl rfl (by decide) ⟨FT_X12_ok, PT_X12_ok _, CT_X12_ok, KT_X12_ok, LT_X12_ok, NT_X12_ok, ?_⟩ pX12_widthsOf
  exact List.forall_mem_cons.mpr ⟨⟨yX12_widthAt, cX12_widthAt, 2, (some .int), 2, 1, mX12_widthAt l, by decide, by decide, tb_at 1635 (by decide +kernel) (by decide +kernel), tb_at 124 (by decide +kernel) (by decide +kernel), ⟨by decide +kernel, by decide +kernel, by decide +kernel⟩, rfl, tb_at 1632 (by decide +kernel) (by decide +kernel), tb_at 1634 (by decide +kernel) (by decide +kernel), ⟨(RX12, TX12, 63), rfl, tb_at 66 (by decide +kernel) (by decide +kernel)⟩⟩, fun _ h => absurd h List.not_mem_nil⟩

def sX12_widthsOn : am_Sp := fun as n σ post => ∃ (c : Int32) (mn : Int), n = 92 ∧ as = [.ref 51, .int c] ∧ FM mn σ ∧ post (some (.int (Int32.ofInt 0))) σ
def xX12_widthsOn : am_X := (SH, KF, (some .int), FT_X12, PT_X12, CT_X12, KT_X12, LT_X12, NT_X12, [(312, 0, 2, 12, 0, 0, sX12_onRung), (315, 0, 2, 12, 0, 0, sX12_widthsOf)])
theorem xX12_widthsOn_SH : am_SH xX12_widthsOn = SH := rfl
theorem xX12_widthsOn_KF : am_KF xX12_widthsOn = KF := rfl
theorem xX12_widthsOn_rt : am_rt xX12_widthsOn = (some .int) := rfl
theorem xX12_widthsOn_FT : am_FT xX12_widthsOn = FT_X12 := rfl
theorem xX12_widthsOn_PT : am_PT xX12_widthsOn = PT_X12 := rfl
theorem xX12_widthsOn_CT : am_CT xX12_widthsOn = CT_X12 := rfl
theorem xX12_widthsOn_KT : am_KT xX12_widthsOn = KT_X12 := rfl
theorem xX12_widthsOn_LT : am_LT xX12_widthsOn = LT_X12 := rfl
theorem xX12_widthsOn_NT : am_NT xX12_widthsOn = NT_X12 := rfl
theorem xX12_widthsOn_c312 : am_find (am_ML xX12_widthsOn) 312 = some (0, 2, 12, 0, 0, sX12_onRung) := rfl
theorem xX12_widthsOn_n312 : am_find NT_X12 312 = none := rfl
theorem xX12_widthsOn_c315 : am_find (am_ML xX12_widthsOn) 315 = some (0, 2, 12, 0, 0, sX12_widthsOf) := rfl
theorem xX12_widthsOn_n315 : am_find NT_X12 315 = none := rfl

set_option maxRecDepth 100000 in
theorem pX12_widthsOn : am_B cX12_widthsOn xX12_widthsOn 2 0 sX12_widthsOn := by
  intro n0 as σ post AA hA h
  obtain ⟨c, mn, rfl, rfl, hF, h⟩ := h
  refine ⟨by simp [am_sl, Value.category], ?_⟩
  show AA 0 [some (.ref 51), some (.int c)] [] 92 σ
  refine hA [] 40 _ _ _ _ _ ?_
  simp only [dX12_widthsOn_0, dX12_widthsOn_1, dX12_widthsOn_2, dX12_widthsOn_3, xX12_widthsOn_c312, xX12_widthsOn_n312, dX12_widthsOn_6, xX12_widthsOn_c315, xX12_widthsOn_n315, dX12_widthsOn_9, xX12_widthsOn_SH, xX12_widthsOn_KF, xX12_widthsOn_rt, xX12_widthsOn_FT, xX12_widthsOn_PT, xX12_widthsOn_CT, xX12_widthsOn_KT, xX12_widthsOn_LT, xX12_widthsOn_NT, o_aload_n, o_iload_n, o_invokevirtual, o_ireturn, SH_51, am_vc, am_opt, am_cl, am_find, am_ldi, am_ldl, am_lda, am_v, am_1, am_1l, am_1a, am_2, am_2l, am_ix, am_ri, am_arr, am_pf, am_rc, am_mask, am_lg, am_av, am_nat, fv_0, fv_1, fv_2, fv_3, fw_0, fw_1, List.getElem?_cons_zero, List.getElem?_cons_succ, List.set_cons_zero, List.set_cons_succ, List.length_cons, List.length_nil, List.take_succ_cons, List.take_zero, List.drop_succ_cons, List.drop_zero, List.reverse_cons, List.reverse_nil, List.nil_append, List.cons_append, List.append_nil, List.map_cons, List.map_nil, List.sum_cons, List.sum_nil, Value.category, Option.toList_some, Option.toList_none, Nat.reduceAdd, Nat.reduceLT, Nat.reduceLeDiff, Nat.reduceEqDiff, Nat.reduceSub, Nat.add_zero, Nat.le_refl, Nat.zero_le, Int.reduceNeg, Int.reduceLE, Int.reduceLT, true_and, and_true, and_self, if_true, if_false, ite_true, ite_false, eq_self_iff_true, reduceIte, reduceCtorEq, not_false_eq_true, not_true_eq_false, or_true, true_or, or_false, false_or, Nat.lt_irrefl, Nat.zero_lt_succ]
  refine ⟨c, mn, rfl, rfl, hF, ?_⟩
  simp only [dX12_widthsOn_0, dX12_widthsOn_1, dX12_widthsOn_2, dX12_widthsOn_3, xX12_widthsOn_c312, xX12_widthsOn_n312, dX12_widthsOn_6, xX12_widthsOn_c315, xX12_widthsOn_n315, dX12_widthsOn_9, xX12_widthsOn_SH, xX12_widthsOn_KF, xX12_widthsOn_rt, xX12_widthsOn_FT, xX12_widthsOn_PT, xX12_widthsOn_CT, xX12_widthsOn_KT, xX12_widthsOn_LT, xX12_widthsOn_NT, o_aload_n, o_iload_n, o_invokevirtual, o_ireturn, SH_51, am_vc, am_opt, am_cl, am_find, am_ldi, am_ldl, am_lda, am_v, am_1, am_1l, am_1a, am_2, am_2l, am_ix, am_ri, am_arr, am_pf, am_rc, am_mask, am_lg, am_av, am_nat, fv_0, fv_1, fv_2, fv_3, fw_0, fw_1, List.getElem?_cons_zero, List.getElem?_cons_succ, List.set_cons_zero, List.set_cons_succ, List.length_cons, List.length_nil, List.take_succ_cons, List.take_zero, List.drop_succ_cons, List.drop_zero, List.reverse_cons, List.reverse_nil, List.nil_append, List.cons_append, List.append_nil, List.map_cons, List.map_nil, List.sum_cons, List.sum_nil, Value.category, Option.toList_some, Option.toList_none, Nat.reduceAdd, Nat.reduceLT, Nat.reduceLeDiff, Nat.reduceEqDiff, Nat.reduceSub, Nat.add_zero, Nat.le_refl, Nat.zero_le, Int.reduceNeg, Int.reduceLE, Int.reduceLT, true_and, and_true, and_self, if_true, if_false, ite_true, ite_false, eq_self_iff_true, reduceIte, reduceCtorEq, not_false_eq_true, not_true_eq_false, or_true, true_or, or_false, false_or, Nat.lt_irrefl, Nat.zero_lt_succ]
  exact ⟨_, mn, rfl, rfl, hF, rfl, h⟩
theorem mX12_widthsOn (l : Launch) : am_M l TB NB vwCl SH KF yX12_widthsOn cX12_widthsOn 2 (some .int) 4 0 0 sX12_widthsOn := by
  refine am_M.of xX12_widthsOn (by decide +kernel) TB_good GF rfl rfl rfl (by decide) ⟨FT_X12_ok, PT_X12_ok _, CT_X12_ok, KT_X12_ok, LT_X12_ok, NT_X12_ok, ?_⟩ pX12_widthsOn
  exact List.forall_mem_cons.mpr ⟨⟨yX12_onRung, cX12_onRung, 4, (some .int), 2, 1, mX12_onRung l, by decide, by decide, tb_at 1674 (by decide +kernel) (by decide +kernel), tb_at 124 (by decide +kernel) (by decide +kernel), ⟨by decide +kernel, by decide +kernel, by decide +kernel⟩, rfl, tb_at 1671 (by decide +kernel) (by decide +kernel), tb_at 1673 (by decide +kernel) (by decide +kernel), ⟨(RX12, TX12, 63), rfl, tb_at 74 (by decide +kernel) (by decide +kernel)⟩⟩, List.forall_mem_cons.mpr ⟨⟨yX12_widthsOf, cX12_widthsOf, 4, (some .int), 3, 1, mX12_widthsOf l, by decide, by decide, tb_at 1678 (by decide +kernel) (by decide +kernel), tb_at 124 (by decide +kernel) (by decide +kernel), ⟨by decide +kernel, by decide +kernel, by decide +kernel⟩, rfl, tb_at 1675 (by decide +kernel) (by decide +kernel), tb_at 1677 (by decide +kernel) (by decide +kernel), ⟨(RX12, TX12, 63), rfl, tb_at 75 (by decide +kernel) (by decide +kernel)⟩⟩, fun _ h => absurd h List.not_mem_nil⟩⟩
end
section
def sX12_termOf : am_Sp := fun _ _ _ _ => False
theorem mX12_termOf (l : Launch) : am_M l TB NB vwCl SH KF yX12_termOf cX12_termOf 8 (some .int) 2 0 0 sX12_termOf := am_never
def sX12_personGoes : am_Sp := fun _ _ _ _ => False
theorem mX12_personGoes (l : Launch) : am_M l TB NB vwCl SH KF yX12_personGoes cX12_personGoes 3 none 7 0 0 sX12_personGoes := am_never
def sX12_falls : am_Sp := fun _ _ _ _ => False
theorem mX12_falls (l : Launch) : am_M l TB NB vwCl SH KF yX12_falls cX12_falls 3 none 5 0 0 sX12_falls := am_never
def sX12_couldCome : am_Sp := fun _ _ _ _ => False
theorem mX12_couldCome (l : Launch) : am_M l TB NB vwCl SH KF yX12_couldCome cX12_couldCome 3 (some .boolean) 6 0 0 sX12_couldCome := am_never

-- looks(c)
def sX12_looks : am_Sp := fun as n σ post => ∃ (c : Int32) (mn : Int), n = 92 ∧ as = [.ref 51, .int c] ∧ FM mn σ ∧ ∀ τ, FM mn τ → post none τ
def xX12_looks : am_X := (SH, KF, none, FT_X12, PT_X12, CT_X12, KT_X12, LT_X12, NT_X12, [])
theorem xX12_looks_SH : am_SH xX12_looks = SH := rfl
theorem xX12_looks_KF : am_KF xX12_looks = KF := rfl
theorem xX12_looks_rt : am_rt xX12_looks = none := rfl
theorem xX12_looks_FT : am_FT xX12_looks = FT_X12 := rfl
theorem xX12_looks_PT : am_PT xX12_looks = PT_X12 := rfl
theorem xX12_looks_CT : am_CT xX12_looks = CT_X12 := rfl
theorem xX12_looks_KT : am_KT xX12_looks = KT_X12 := rfl
theorem xX12_looks_LT : am_LT xX12_looks = LT_X12 := rfl
theorem xX12_looks_NT : am_NT xX12_looks = NT_X12 := rfl
theorem xX12_looks_t5 (k : Nat → Prop) : am_tg 5 (16) k = k 21 := am_tg_eq (by decide)
theorem xX12_looks_t18 (k : Nat → Prop) : am_tg 18 (-16) k = k 2 := am_tg_eq (by decide)

set_option maxRecDepth 100000 in
theorem looks_loop {post : Option Value → am_S → Prop} {AA : Nat → List (Option Value) → List Value → Nat → am_S → Prop} (hA : ∀ cuts f pc ls stk n τ, am_vc cX12_looks xX12_looks (92 + 0) post AA cuts f pc ls stk n τ → AA pc ls stk n τ) {mn : Int} {c : Int32} (h : ∀ τ, FM mn τ → post none τ) : ∀ k : Nat, k ≤ 9 → ∀ σ, FM mn σ → AA 2 [some (.ref 51), some (.int c), some (.int (Int32.ofInt (k : Int)))] [] 92 σ := by
  refine am_up 9 fun k hk ih σ hF => ?_
  obtain ⟨e1, e2, e3, e4⟩ := FM_e hF
  refine hA [(2, 3)] 60 _ _ _ _ _ ?_
  simp only [dX12_looks_0, dX12_looks_1, dX12_looks_2, dX12_looks_3, dX12_looks_5, xX12_looks_t5, dX12_looks_8, dX12_looks_9, FT_X12_95, dX12_looks_12, dX12_looks_13, dX12_looks_14, dX12_looks_15, dX12_looks_18, xX12_looks_t18, dX12_looks_21, dX12_looks_22, dX12_looks_25, dX12_looks_26, dX12_looks_27, dX12_looks_28, dX12_looks_29, dX12_looks_32, dX12_looks_33, dX12_looks_34, FT_X12_43, dX12_looks_37, dX12_looks_38, FT_X12_221, dX12_looks_41, dX12_looks_42, dX12_looks_43, dX12_looks_44, dX12_looks_47, dX12_looks_48, dX12_looks_49, FT_X12_104, dX12_looks_52, dX12_looks_54, dX12_looks_55, dX12_looks_56, xX12_looks_SH, xX12_looks_KF, xX12_looks_rt, xX12_looks_FT, xX12_looks_PT, xX12_looks_CT, xX12_looks_KT, xX12_looks_LT, xX12_looks_NT, o_aload_n, o_bipush, o_getfield, o_goto, o_iaload, o_iastore, o_iconst, o_if_icmp_ge, o_iinc, o_iload_n, o_istore_n, o_return_, SH_51, KF_51_22, SH_60, KF_51_18, KF_51_42, SH_77, KF_51_46, SH_80, am_vc, am_opt, am_cl, am_find, am_ldi, am_ldl, am_lda, am_v, am_1, am_1l, am_1a, am_2, am_2l, am_ix, am_ri, am_arr, am_pf, am_rc, am_mask, am_lg, am_av, am_nat, fv_0, fv_1, fv_2, fv_3, fw_0, fw_1, List.getElem?_cons_zero, List.getElem?_cons_succ, List.set_cons_zero, List.set_cons_succ, List.length_cons, List.length_nil, List.take_succ_cons, List.take_zero, List.drop_succ_cons, List.drop_zero, List.reverse_cons, List.reverse_nil, List.nil_append, List.cons_append, List.append_nil, List.map_cons, List.map_nil, List.sum_cons, List.sum_nil, Value.category, Option.toList_some, Option.toList_none, Nat.reduceAdd, Nat.reduceLT, Nat.reduceLeDiff, Nat.reduceEqDiff, Nat.reduceSub, Nat.add_zero, Nat.le_refl, Nat.zero_le, Int.reduceNeg, Int.reduceLE, Int.reduceLT, true_and, and_true, and_self, if_true, if_false, ite_true, ite_false, eq_self_iff_true, reduceIte, reduceCtorEq, not_false_eq_true, not_true_eq_false, or_true, true_or, or_false, false_or, Nat.lt_irrefl, Nat.zero_lt_succ, e1]
  simp (disch := omega) only [ii_0, ii_1, ii_add, ii_sub, ii_mul, ii_lt, ii_le, ii_eq, ij_in, ii_c, Int.toNat_natCast, Int.toNat_zero, Int.reduceToNat, Int.reduceEq, Int.reduceNe, Int.reduceLE, Int.reduceLT, Int.reduceAdd, Int.reduceSub, Int.reduceMul, Int.reduceNeg, Nat.reduceLT, Nat.reduceAdd, Nat.reduceMul, not_false_eq_true, not_true_eq_false, true_and, and_true, and_self, false_and, and_false, true_implies, false_implies, implies_true, forall_const, if_true, if_false, ite_true, ite_false, reduceIte, eq_self_iff_true, Int.natCast_nonneg, Int.zero_add, Int.add_zero, pi_s, pi_n, ik_s, e1]
  refine ⟨fun h1 => ?_, fun h1 => ⟨by omega, ih (by omega) _ (FM_pi (by rfl) hF)⟩⟩
  refine h _ ?_
  exact FM_pi rfl (FM_pi rfl (FM_pi rfl hF))
set_option maxRecDepth 100000 in
theorem pX12_looks : am_B cX12_looks xX12_looks 3 0 sX12_looks := by
  intro n0 as σ post AA hA h
  obtain ⟨c, mn, rfl, rfl, hF, h⟩ := h
  refine ⟨by simp [am_sl, Value.category], ?_⟩
  show AA 0 [some (.ref 51), some (.int c), none] [] 92 σ
  refine hA [(2, 3)] 20 _ _ _ _ _ ?_
  simp only [dX12_looks_0, dX12_looks_1, dX12_looks_2, dX12_looks_3, dX12_looks_5, xX12_looks_t5, dX12_looks_8, dX12_looks_9, FT_X12_95, dX12_looks_12, dX12_looks_13, dX12_looks_14, dX12_looks_15, dX12_looks_18, xX12_looks_t18, dX12_looks_21, dX12_looks_22, dX12_looks_25, dX12_looks_26, dX12_looks_27, dX12_looks_28, dX12_looks_29, dX12_looks_32, dX12_looks_33, dX12_looks_34, FT_X12_43, dX12_looks_37, dX12_looks_38, FT_X12_221, dX12_looks_41, dX12_looks_42, dX12_looks_43, dX12_looks_44, dX12_looks_47, dX12_looks_48, dX12_looks_49, FT_X12_104, dX12_looks_52, dX12_looks_54, dX12_looks_55, dX12_looks_56, xX12_looks_SH, xX12_looks_KF, xX12_looks_rt, xX12_looks_FT, xX12_looks_PT, xX12_looks_CT, xX12_looks_KT, xX12_looks_LT, xX12_looks_NT, o_aload_n, o_bipush, o_getfield, o_goto, o_iaload, o_iastore, o_iconst, o_if_icmp_ge, o_iinc, o_iload_n, o_istore_n, o_return_, SH_51, KF_51_22, SH_60, KF_51_18, KF_51_42, SH_77, KF_51_46, SH_80, am_vc, am_opt, am_cl, am_find, am_ldi, am_ldl, am_lda, am_v, am_1, am_1l, am_1a, am_2, am_2l, am_ix, am_ri, am_arr, am_pf, am_rc, am_mask, am_lg, am_av, am_nat, fv_0, fv_1, fv_2, fv_3, fw_0, fw_1, List.getElem?_cons_zero, List.getElem?_cons_succ, List.set_cons_zero, List.set_cons_succ, List.length_cons, List.length_nil, List.take_succ_cons, List.take_zero, List.drop_succ_cons, List.drop_zero, List.reverse_cons, List.reverse_nil, List.nil_append, List.cons_append, List.append_nil, List.map_cons, List.map_nil, List.sum_cons, List.sum_nil, Value.category, Option.toList_some, Option.toList_none, Nat.reduceAdd, Nat.reduceLT, Nat.reduceLeDiff, Nat.reduceEqDiff, Nat.reduceSub, Nat.add_zero, Nat.le_refl, Nat.zero_le, Int.reduceNeg, Int.reduceLE, Int.reduceLT, true_and, and_true, and_self, if_true, if_false, ite_true, ite_false, eq_self_iff_true, reduceIte, reduceCtorEq, not_false_eq_true, not_true_eq_false, or_true, true_or, or_false, false_or, Nat.lt_irrefl, Nat.zero_lt_succ]
  exact looks_loop hA h 0 (by omega) σ hF
theorem mX12_looks (l : Launch) : am_M l TB NB vwCl SH KF yX12_looks cX12_looks 3 none 2 0 0 sX12_looks := by
  refine am_M.of xX12_looks (by decide +kernel) TB_good GF rfl rfl rfl (by decide) ⟨FT_X12_ok, PT_X12_ok _, CT_X12_ok, KT_X12_ok, LT_X12_ok, NT_X12_ok, ?_⟩ pX12_looks
  exact fun _ h => absurd h List.not_mem_nil

-- lawTells(k, plain): no law is told
def sX12_lawTells : am_Sp := fun as n σ post => ∃ (k : Nat) (v : Int32) (mn : Int), k < 4 ∧ n = 92 ∧ as = [.ref 51, .int (Int32.ofInt (k : Int)), .int v] ∧ FM mn σ ∧ post (some (.int v)) σ
def xX12_lawTells : am_X := (SH, KF, (some .int), FT_X12, PT_X12, CT_X12, KT_X12, LT_X12, NT_X12, [(321, 0, 3, 12, 0, 0, sX12_termOf)])
theorem xX12_lawTells_SH : am_SH xX12_lawTells = SH := rfl
theorem xX12_lawTells_KF : am_KF xX12_lawTells = KF := rfl
theorem xX12_lawTells_rt : am_rt xX12_lawTells = (some .int) := rfl
theorem xX12_lawTells_FT : am_FT xX12_lawTells = FT_X12 := rfl
theorem xX12_lawTells_PT : am_PT xX12_lawTells = PT_X12 := rfl
theorem xX12_lawTells_CT : am_CT xX12_lawTells = CT_X12 := rfl
theorem xX12_lawTells_KT : am_KT xX12_lawTells = KT_X12 := rfl
theorem xX12_lawTells_LT : am_LT xX12_lawTells = LT_X12 := rfl
theorem xX12_lawTells_NT : am_NT xX12_lawTells = NT_X12 := rfl
theorem xX12_lawTells_c321 : am_find (am_ML xX12_lawTells) 321 = some (0, 3, 12, 0, 0, sX12_termOf) := rfl
theorem xX12_lawTells_n321 : am_find NT_X12 321 = none := rfl
theorem xX12_lawTells_t21 (k : Nat → Prop) : am_tg 21 (5) k = k 26 := am_tg_eq (by decide)
theorem xX12_lawTells_t47 (k : Nat → Prop) : am_tg 47 (112) k = k 159 := am_tg_eq (by decide)
theorem xX12_lawTells_t57 (k : Nat → Prop) : am_tg 57 (62) k = k 119 := am_tg_eq (by decide)
theorem xX12_lawTells_t104 (k : Nat → Prop) : am_tg 104 (5) k = k 109 := am_tg_eq (by decide)
theorem xX12_lawTells_t113 (k : Nat → Prop) : am_tg 113 (6) k = k 119 := am_tg_eq (by decide)
theorem xX12_lawTells_t116 (k : Nat → Prop) : am_tg 116 (37) k = k 153 := am_tg_eq (by decide)
theorem xX12_lawTells_t143 (k : Nat → Prop) : am_tg 143 (7) k = k 150 := am_tg_eq (by decide)
theorem xX12_lawTells_t147 (k : Nat → Prop) : am_tg 147 (5) k = k 152 := am_tg_eq (by decide)
theorem xX12_lawTells_t156 (k : Nat → Prop) : am_tg 156 (-117) k = k 39 := am_tg_eq (by decide)

set_option maxRecDepth 100000 in
theorem pX12_lawTells : am_B cX12_lawTells xX12_lawTells 7 0 sX12_lawTells := by
  intro n0 as σ post AA hA h
  obtain ⟨k, v, mn, hk, rfl, rfl, hF, h⟩ := h
  refine ⟨by simp [am_sl, Value.category], ?_⟩
  show AA 0 [some (.ref 51), some (.int (Int32.ofInt (k : Int))), some (.int v), none, none, none, none] [] 92 σ
  obtain ⟨e1, e2, e3, e4⟩ := FM_e hF
  refine hA [(29, 5), (46, 5)] 20 _ _ _ _ _ ?_
  simp only [dX12_lawTells_0, dX12_lawTells_1, dX12_lawTells_2, FT_X12_221, dX12_lawTells_5, dX12_lawTells_6, dX12_lawTells_7, dX12_lawTells_8, dX12_lawTells_9, dX12_lawTells_10, FT_X12_64, dX12_lawTells_13, dX12_lawTells_14, dX12_lawTells_15, dX12_lawTells_16, FT_X12_67, dX12_lawTells_19, dX12_lawTells_20, dX12_lawTells_21, xX12_lawTells_t21, dX12_lawTells_24, dX12_lawTells_25, dX12_lawTells_26, dX12_lawTells_27, dX12_lawTells_28, PT_X12_288, dX12_lawTells_31, dX12_lawTells_32, dX12_lawTells_35, dX12_lawTells_36, dX12_lawTells_37, dX12_lawTells_39, dX12_lawTells_41, dX12_lawTells_42, dX12_lawTells_45, dX12_lawTells_46, dX12_lawTells_47, xX12_lawTells_t47, dX12_lawTells_50, dX12_lawTells_51, FT_X12_70, dX12_lawTells_54, dX12_lawTells_56, dX12_lawTells_57, xX12_lawTells_t57, dX12_lawTells_60, dX12_lawTells_61, dX12_lawTells_62, FT_X12_74, dX12_lawTells_65, dX12_lawTells_67, dX12_lawTells_68, dX12_lawTells_69, FT_X12_77, dX12_lawTells_72, dX12_lawTells_74, dX12_lawTells_75, xX12_lawTells_c321, xX12_lawTells_n321, dX12_lawTells_78, dX12_lawTells_80, dX12_lawTells_81, dX12_lawTells_82, dX12_lawTells_85, dX12_lawTells_87, dX12_lawTells_88, dX12_lawTells_89, FT_X12_80, dX12_lawTells_92, dX12_lawTells_94, dX12_lawTells_95, dX12_lawTells_98, dX12_lawTells_100, dX12_lawTells_101, FT_X12_288, dX12_lawTells_104, xX12_lawTells_t104, dX12_lawTells_107, dX12_lawTells_108, dX12_lawTells_109, dX12_lawTells_111, dX12_lawTells_113, xX12_lawTells_t113, dX12_lawTells_116, xX12_lawTells_t116, dX12_lawTells_119, dX12_lawTells_120, dX12_lawTells_121, dX12_lawTells_124, dX12_lawTells_126, dX12_lawTells_127, dX12_lawTells_128, FT_X12_83, dX12_lawTells_131, dX12_lawTells_133, dX12_lawTells_134, dX12_lawTells_137, dX12_lawTells_139, dX12_lawTells_140, dX12_lawTells_143, xX12_lawTells_t143, dX12_lawTells_146, dX12_lawTells_147, xX12_lawTells_t147, dX12_lawTells_150, dX12_lawTells_152, dX12_lawTells_153, dX12_lawTells_156, xX12_lawTells_t156, dX12_lawTells_159, dX12_lawTells_160, xX12_lawTells_SH, xX12_lawTells_KF, xX12_lawTells_rt, xX12_lawTells_FT, xX12_lawTells_PT, xX12_lawTells_CT, xX12_lawTells_KT, xX12_lawTells_LT, xX12_lawTells_NT, o_aload_n, o_baload, o_getfield, o_goto, o_iadd, o_iaload, o_iconst, o_ifCond_eq, o_if_icmp_ge, o_if_icmp_lt, o_if_icmp_ne, o_iinc, o_iload, o_iload_n, o_imul, o_invokevirtual, o_ireturn, o_istore, o_istore_n, o_putfield, SH_51, KF_51_34, SH_71, KF_51_18, KF_51_33, SH_70, KF_51_30, SH_68, KF_51_36, SH_73, KF_51_29, SH_67, KF_51_35, SH_72, KF_51_32, SH_69, KF_51_44, am_vc, am_opt, am_cl, am_find, am_ldi, am_ldl, am_lda, am_v, am_1, am_1l, am_1a, am_2, am_2l, am_ix, am_ri, am_arr, am_pf, am_rc, am_mask, am_lg, am_av, am_nat, fv_0, fv_1, fv_2, fv_3, fw_0, fw_1, List.getElem?_cons_zero, List.getElem?_cons_succ, List.set_cons_zero, List.set_cons_succ, List.length_cons, List.length_nil, List.take_succ_cons, List.take_zero, List.drop_succ_cons, List.drop_zero, List.reverse_cons, List.reverse_nil, List.nil_append, List.cons_append, List.append_nil, List.map_cons, List.map_nil, List.sum_cons, List.sum_nil, Value.category, Option.toList_some, Option.toList_none, Nat.reduceAdd, Nat.reduceLT, Nat.reduceLeDiff, Nat.reduceEqDiff, Nat.reduceSub, Nat.add_zero, Nat.le_refl, Nat.zero_le, Int.reduceNeg, Int.reduceLE, Int.reduceLT, true_and, and_true, and_self, if_true, if_false, ite_true, ite_false, eq_self_iff_true, reduceIte, reduceCtorEq, not_false_eq_true, not_true_eq_false, or_true, true_or, or_false, false_or, Nat.lt_irrefl, Nat.zero_lt_succ, e1]
  have e5 : Int32.ofInt 4 * Int32.ofInt 0 + Int32.ofInt (k : Int) = Int32.ofInt (k : Int) := by rw [ii_mul, ii_add]; congr 1; omega
  have e6 := (hF.2.2.1 k hk).1
  have e7 := (hF.2.2.1 k hk).2
  simp (disch := omega) only [ii_0, ii_1, ii_add, ii_sub, ii_mul, ii_lt, ii_le, ii_eq, ij_in, ii_c, Int.toNat_natCast, Int.toNat_zero, Int.reduceToNat, Int.reduceEq, Int.reduceNe, Int.reduceLE, Int.reduceLT, Int.reduceAdd, Int.reduceSub, Int.reduceMul, Int.reduceNeg, Nat.reduceLT, Nat.reduceAdd, Nat.reduceMul, not_false_eq_true, not_true_eq_false, true_and, and_true, and_self, false_and, and_false, true_implies, false_implies, implies_true, forall_const, if_true, if_false, ite_true, ite_false, reduceIte, eq_self_iff_true, Int.natCast_nonneg, Int.zero_add, Int.add_zero, pi_s, pi_n, e6, e7]
  exact ⟨by omega, by omega, h⟩
theorem mX12_lawTells (l : Launch) : am_M l TB NB vwCl SH KF yX12_lawTells cX12_lawTells 7 (some .int) 3 0 0 sX12_lawTells := by
  refine am_M.of xX12_lawTells (by decide +kernel) TB_good GF rfl rfl rfl (by decide) ⟨FT_X12_ok, PT_X12_ok _, CT_X12_ok, KT_X12_ok, LT_X12_ok, NT_X12_ok, ?_⟩ pX12_lawTells
  exact List.forall_mem_cons.mpr ⟨⟨yX12_termOf, cX12_termOf, 8, (some .int), 2, 2, mX12_termOf l, by decide, by decide, tb_at 1663 (by decide +kernel) (by decide +kernel), tb_at 124 (by decide +kernel) (by decide +kernel), ⟨by decide +kernel, by decide +kernel, by decide +kernel⟩, rfl, tb_at 1660 (by decide +kernel) (by decide +kernel), tb_at 1662 (by decide +kernel) (by decide +kernel), ⟨(RX12, TX12, 63), rfl, tb_at 72 (by decide +kernel) (by decide +kernel)⟩⟩, fun _ h => absurd h List.not_mem_nil⟩


-- roomOf(c), breaksOf(c)
def sX12_roomOf : am_Sp := fun as n σ post => ∃ (c : Int32) (mn : Int), n = 92 ∧ as = [.ref 51, .int c] ∧ FM mn σ ∧ ∀ τ, FM mn τ → post (some (.int (Int32.ofInt 9))) τ
def xX12_roomOf : am_X := (SH, KF, (some .int), FT_X12, PT_X12, CT_X12, KT_X12, LT_X12, NT_X12, [(318, 0, 2, 12, 0, 0, sX12_looks), (324, 0, 3, 12, 0, 0, sX12_lawTells), (327, 1, 3, 12, 0, 0, sX12_within)])
theorem xX12_roomOf_SH : am_SH xX12_roomOf = SH := rfl
theorem xX12_roomOf_KF : am_KF xX12_roomOf = KF := rfl
theorem xX12_roomOf_rt : am_rt xX12_roomOf = (some .int) := rfl
theorem xX12_roomOf_FT : am_FT xX12_roomOf = FT_X12 := rfl
theorem xX12_roomOf_PT : am_PT xX12_roomOf = PT_X12 := rfl
theorem xX12_roomOf_CT : am_CT xX12_roomOf = CT_X12 := rfl
theorem xX12_roomOf_KT : am_KT xX12_roomOf = KT_X12 := rfl
theorem xX12_roomOf_LT : am_LT xX12_roomOf = LT_X12 := rfl
theorem xX12_roomOf_NT : am_NT xX12_roomOf = NT_X12 := rfl
theorem xX12_roomOf_c318 : am_find (am_ML xX12_roomOf) 318 = some (0, 2, 12, 0, 0, sX12_looks) := rfl
theorem xX12_roomOf_n318 : am_find NT_X12 318 = none := rfl
theorem xX12_roomOf_c324 : am_find (am_ML xX12_roomOf) 324 = some (0, 3, 12, 0, 0, sX12_lawTells) := rfl
theorem xX12_roomOf_n324 : am_find NT_X12 324 = none := rfl
theorem xX12_roomOf_c327 : am_find (am_ML xX12_roomOf) 327 = some (1, 3, 12, 0, 0, sX12_within) := rfl
theorem xX12_roomOf_n327 : am_find NT_X12 327 = none := rfl

set_option maxRecDepth 100000 in
theorem pX12_roomOf : am_B cX12_roomOf xX12_roomOf 2 0 sX12_roomOf := by
  intro n0 as σ post AA hA h
  obtain ⟨c, mn, rfl, rfl, hF, h⟩ := h
  refine ⟨by simp [am_sl, Value.category], ?_⟩
  show AA 0 [some (.ref 51), some (.int c)] [] 92 σ
  refine hA [] 40 _ _ _ _ _ ?_
  simp only [dX12_roomOf_0, dX12_roomOf_1, dX12_roomOf_2, xX12_roomOf_c318, xX12_roomOf_n318, dX12_roomOf_5, dX12_roomOf_6, dX12_roomOf_7, dX12_roomOf_9, xX12_roomOf_c324, xX12_roomOf_n324, dX12_roomOf_12, dX12_roomOf_13, dX12_roomOf_15, xX12_roomOf_c327, xX12_roomOf_n327, dX12_roomOf_18, xX12_roomOf_SH, xX12_roomOf_KF, xX12_roomOf_rt, xX12_roomOf_FT, xX12_roomOf_PT, xX12_roomOf_CT, xX12_roomOf_KT, xX12_roomOf_LT, xX12_roomOf_NT, o_aload_n, o_bipush, o_iconst, o_iload_n, o_invokestatic, o_invokevirtual, o_ireturn, SH_51, am_vc, am_opt, am_cl, am_find, am_ldi, am_ldl, am_lda, am_v, am_1, am_1l, am_1a, am_2, am_2l, am_ix, am_ri, am_arr, am_pf, am_rc, am_mask, am_lg, am_av, am_nat, fv_0, fv_1, fv_2, fv_3, fw_0, fw_1, List.getElem?_cons_zero, List.getElem?_cons_succ, List.set_cons_zero, List.set_cons_succ, List.length_cons, List.length_nil, List.take_succ_cons, List.take_zero, List.drop_succ_cons, List.drop_zero, List.reverse_cons, List.reverse_nil, List.nil_append, List.cons_append, List.append_nil, List.map_cons, List.map_nil, List.sum_cons, List.sum_nil, Value.category, Option.toList_some, Option.toList_none, Nat.reduceAdd, Nat.reduceLT, Nat.reduceLeDiff, Nat.reduceEqDiff, Nat.reduceSub, Nat.add_zero, Nat.le_refl, Nat.zero_le, Int.reduceNeg, Int.reduceLE, Int.reduceLT, true_and, and_true, and_self, if_true, if_false, ite_true, ite_false, eq_self_iff_true, reduceIte, reduceCtorEq, not_false_eq_true, not_true_eq_false, or_true, true_or, or_false, false_or, Nat.lt_irrefl, Nat.zero_lt_succ]
  refine ⟨c, mn, rfl, rfl, hF, fun τ hT => ?_⟩
  simp only [dX12_roomOf_0, dX12_roomOf_1, dX12_roomOf_2, xX12_roomOf_c318, xX12_roomOf_n318, dX12_roomOf_5, dX12_roomOf_6, dX12_roomOf_7, dX12_roomOf_9, xX12_roomOf_c324, xX12_roomOf_n324, dX12_roomOf_12, dX12_roomOf_13, dX12_roomOf_15, xX12_roomOf_c327, xX12_roomOf_n327, dX12_roomOf_18, xX12_roomOf_SH, xX12_roomOf_KF, xX12_roomOf_rt, xX12_roomOf_FT, xX12_roomOf_PT, xX12_roomOf_CT, xX12_roomOf_KT, xX12_roomOf_LT, xX12_roomOf_NT, o_aload_n, o_bipush, o_iconst, o_iload_n, o_invokestatic, o_invokevirtual, o_ireturn, SH_51, am_vc, am_opt, am_cl, am_find, am_ldi, am_ldl, am_lda, am_v, am_1, am_1l, am_1a, am_2, am_2l, am_ix, am_ri, am_arr, am_pf, am_rc, am_mask, am_lg, am_av, am_nat, fv_0, fv_1, fv_2, fv_3, fw_0, fw_1, List.getElem?_cons_zero, List.getElem?_cons_succ, List.set_cons_zero, List.set_cons_succ, List.length_cons, List.length_nil, List.take_succ_cons, List.take_zero, List.drop_succ_cons, List.drop_zero, List.reverse_cons, List.reverse_nil, List.nil_append, List.cons_append, List.append_nil, List.map_cons, List.map_nil, List.sum_cons, List.sum_nil, Value.category, Option.toList_some, Option.toList_none, Nat.reduceAdd, Nat.reduceLT, Nat.reduceLeDiff, Nat.reduceEqDiff, Nat.reduceSub, Nat.add_zero, Nat.le_refl, Nat.zero_le, Int.reduceNeg, Int.reduceLE, Int.reduceLT, true_and, and_true, and_self, if_true, if_false, ite_true, ite_false, eq_self_iff_true, reduceIte, reduceCtorEq, not_false_eq_true, not_true_eq_false, or_true, true_or, or_false, false_or, Nat.lt_irrefl, Nat.zero_lt_succ]
  refine ⟨0, _, mn, by decide, rfl, rfl, hT, ?_⟩
  simp only [dX12_roomOf_0, dX12_roomOf_1, dX12_roomOf_2, xX12_roomOf_c318, xX12_roomOf_n318, dX12_roomOf_5, dX12_roomOf_6, dX12_roomOf_7, dX12_roomOf_9, xX12_roomOf_c324, xX12_roomOf_n324, dX12_roomOf_12, dX12_roomOf_13, dX12_roomOf_15, xX12_roomOf_c327, xX12_roomOf_n327, dX12_roomOf_18, xX12_roomOf_SH, xX12_roomOf_KF, xX12_roomOf_rt, xX12_roomOf_FT, xX12_roomOf_PT, xX12_roomOf_CT, xX12_roomOf_KT, xX12_roomOf_LT, xX12_roomOf_NT, o_aload_n, o_bipush, o_iconst, o_iload_n, o_invokestatic, o_invokevirtual, o_ireturn, SH_51, am_vc, am_opt, am_cl, am_find, am_ldi, am_ldl, am_lda, am_v, am_1, am_1l, am_1a, am_2, am_2l, am_ix, am_ri, am_arr, am_pf, am_rc, am_mask, am_lg, am_av, am_nat, fv_0, fv_1, fv_2, fv_3, fw_0, fw_1, List.getElem?_cons_zero, List.getElem?_cons_succ, List.set_cons_zero, List.set_cons_succ, List.length_cons, List.length_nil, List.take_succ_cons, List.take_zero, List.drop_succ_cons, List.drop_zero, List.reverse_cons, List.reverse_nil, List.nil_append, List.cons_append, List.append_nil, List.map_cons, List.map_nil, List.sum_cons, List.sum_nil, Value.category, Option.toList_some, Option.toList_none, Nat.reduceAdd, Nat.reduceLT, Nat.reduceLeDiff, Nat.reduceEqDiff, Nat.reduceSub, Nat.add_zero, Nat.le_refl, Nat.zero_le, Int.reduceNeg, Int.reduceLE, Int.reduceLT, true_and, and_true, and_self, if_true, if_false, ite_true, ite_false, eq_self_iff_true, reduceIte, reduceCtorEq, not_false_eq_true, not_true_eq_false, or_true, true_or, or_false, false_or, Nat.lt_irrefl, Nat.zero_lt_succ]
  refine ⟨9, 0, 99, by omega, by omega, by omega, rfl, ?_⟩
  simp only [dX12_roomOf_0, dX12_roomOf_1, dX12_roomOf_2, xX12_roomOf_c318, xX12_roomOf_n318, dX12_roomOf_5, dX12_roomOf_6, dX12_roomOf_7, dX12_roomOf_9, xX12_roomOf_c324, xX12_roomOf_n324, dX12_roomOf_12, dX12_roomOf_13, dX12_roomOf_15, xX12_roomOf_c327, xX12_roomOf_n327, dX12_roomOf_18, xX12_roomOf_SH, xX12_roomOf_KF, xX12_roomOf_rt, xX12_roomOf_FT, xX12_roomOf_PT, xX12_roomOf_CT, xX12_roomOf_KT, xX12_roomOf_LT, xX12_roomOf_NT, o_aload_n, o_bipush, o_iconst, o_iload_n, o_invokestatic, o_invokevirtual, o_ireturn, SH_51, am_vc, am_opt, am_cl, am_find, am_ldi, am_ldl, am_lda, am_v, am_1, am_1l, am_1a, am_2, am_2l, am_ix, am_ri, am_arr, am_pf, am_rc, am_mask, am_lg, am_av, am_nat, fv_0, fv_1, fv_2, fv_3, fw_0, fw_1, List.getElem?_cons_zero, List.getElem?_cons_succ, List.set_cons_zero, List.set_cons_succ, List.length_cons, List.length_nil, List.take_succ_cons, List.take_zero, List.drop_succ_cons, List.drop_zero, List.reverse_cons, List.reverse_nil, List.nil_append, List.cons_append, List.append_nil, List.map_cons, List.map_nil, List.sum_cons, List.sum_nil, Value.category, Option.toList_some, Option.toList_none, Nat.reduceAdd, Nat.reduceLT, Nat.reduceLeDiff, Nat.reduceEqDiff, Nat.reduceSub, Nat.add_zero, Nat.le_refl, Nat.zero_le, Int.reduceNeg, Int.reduceLE, Int.reduceLT, true_and, and_true, and_self, if_true, if_false, ite_true, ite_false, eq_self_iff_true, reduceIte, reduceCtorEq, not_false_eq_true, not_true_eq_false, or_true, true_or, or_false, false_or, Nat.lt_irrefl, Nat.zero_lt_succ]
  exact h τ hT
theorem mX12_roomOf (l : Launch) : am_M l TB NB vwCl SH KF yX12_roomOf cX12_roomOf 2 (some .int) 4 0 0 sX12_roomOf := by
  refine am_M.of xX12_roomOf (by decide +kernel) TB_good GF rfl rfl rfl (by decide) ⟨FT_X12_ok, PT_X12_ok _, CT_X12_ok, KT_X12_ok, LT_X12_ok, NT_X12_ok, ?_⟩ pX12_roomOf
  exact List.forall_mem_cons.mpr ⟨⟨yX12_looks, cX12_looks, 3, none, 2, 1, mX12_looks l, by decide, by decide, tb_at 1655 (by decide +kernel) (by decide +kernel), tb_at 124 (by decide +kernel) (by decide +kernel), ⟨by decide +kernel, by decide +kernel, by decide +kernel⟩, rfl, tb_at 1652 (by decide +kernel) (by decide +kernel), tb_at 1654 (by decide +kernel) (by decide +kernel), ⟨(RX12, TX12, 63), rfl, tb_at 70 (by decide +kernel) (by decide +kernel)⟩⟩, List.forall_mem_cons.mpr ⟨⟨yX12_lawTells, cX12_lawTells, 7, (some .int), 3, 2, mX12_lawTells l, by decide, by decide, tb_at 1659 (by decide +kernel) (by decide +kernel), tb_at 124 (by decide +kernel) (by decide +kernel), ⟨by decide +kernel, by decide +kernel, by decide +kernel⟩, rfl, tb_at 1656 (by decide +kernel) (by decide +kernel), tb_at 1658 (by decide +kernel) (by decide +kernel), ⟨(RX12, TX12, 63), rfl, tb_at 71 (by decide +kernel) (by decide +kernel)⟩⟩, List.forall_mem_cons.mpr ⟨⟨yX12_within, cX12_within, 3, (some .int), 2, 3, mX12_within l, by decide, by decide, tb_at 1666 (by decide +kernel) (by decide +kernel), tb_at 124 (by decide +kernel) (by decide +kernel), ⟨by decide +kernel, by decide +kernel, by decide +kernel⟩, rfl, tb_at 1664 (by decide +kernel) (by decide +kernel), tb_at 1665 (by decide +kernel) (by decide +kernel)⟩, fun _ h => absurd h List.not_mem_nil⟩⟩⟩

def sX12_breaksOf : am_Sp := fun as n σ post => ∃ (c : Int32) (mn : Int), n = 92 ∧ as = [.ref 51, .int c] ∧ FM mn σ ∧ ∀ τ, FM mn τ → post (some (.int (Int32.ofInt 0))) τ
def xX12_breaksOf : am_X := (SH, KF, (some .int), FT_X12, PT_X12, CT_X12, KT_X12, LT_X12, NT_X12, [(318, 0, 2, 12, 0, 0, sX12_looks), (324, 0, 3, 12, 0, 0, sX12_lawTells), (327, 1, 3, 12, 0, 0, sX12_within), (333, 0, 2, 12, 0, 0, sX12_widthsOn)])
theorem xX12_breaksOf_SH : am_SH xX12_breaksOf = SH := rfl
theorem xX12_breaksOf_KF : am_KF xX12_breaksOf = KF := rfl
theorem xX12_breaksOf_rt : am_rt xX12_breaksOf = (some .int) := rfl
theorem xX12_breaksOf_FT : am_FT xX12_breaksOf = FT_X12 := rfl
theorem xX12_breaksOf_PT : am_PT xX12_breaksOf = PT_X12 := rfl
theorem xX12_breaksOf_CT : am_CT xX12_breaksOf = CT_X12 := rfl
theorem xX12_breaksOf_KT : am_KT xX12_breaksOf = KT_X12 := rfl
theorem xX12_breaksOf_LT : am_LT xX12_breaksOf = LT_X12 := rfl
theorem xX12_breaksOf_NT : am_NT xX12_breaksOf = NT_X12 := rfl
theorem xX12_breaksOf_c318 : am_find (am_ML xX12_breaksOf) 318 = some (0, 2, 12, 0, 0, sX12_looks) := rfl
theorem xX12_breaksOf_n318 : am_find NT_X12 318 = none := rfl
theorem xX12_breaksOf_c324 : am_find (am_ML xX12_breaksOf) 324 = some (0, 3, 12, 0, 0, sX12_lawTells) := rfl
theorem xX12_breaksOf_n324 : am_find NT_X12 324 = none := rfl
theorem xX12_breaksOf_c327 : am_find (am_ML xX12_breaksOf) 327 = some (1, 3, 12, 0, 0, sX12_within) := rfl
theorem xX12_breaksOf_n327 : am_find NT_X12 327 = none := rfl
theorem xX12_breaksOf_c333 : am_find (am_ML xX12_breaksOf) 333 = some (0, 2, 12, 0, 0, sX12_widthsOn) := rfl
theorem xX12_breaksOf_n333 : am_find NT_X12 333 = none := rfl

set_option maxRecDepth 100000 in
theorem pX12_breaksOf : am_B cX12_breaksOf xX12_breaksOf 2 0 sX12_breaksOf := by
  intro n0 as σ post AA hA h
  obtain ⟨c, mn, rfl, rfl, hF, h⟩ := h
  refine ⟨by simp [am_sl, Value.category], ?_⟩
  show AA 0 [some (.ref 51), some (.int c)] [] 92 σ
  refine hA [] 40 _ _ _ _ _ ?_
  simp only [dX12_breaksOf_0, dX12_breaksOf_1, dX12_breaksOf_2, xX12_breaksOf_c318, xX12_breaksOf_n318, dX12_breaksOf_5, dX12_breaksOf_6, FT_X12_95, dX12_breaksOf_9, dX12_breaksOf_11, dX12_breaksOf_12, dX12_breaksOf_13, xX12_breaksOf_c333, xX12_breaksOf_n333, dX12_breaksOf_16, dX12_breaksOf_17, dX12_breaksOf_18, dX12_breaksOf_19, dX12_breaksOf_20, xX12_breaksOf_c324, xX12_breaksOf_n324, dX12_breaksOf_23, dX12_breaksOf_24, dX12_breaksOf_26, xX12_breaksOf_c327, xX12_breaksOf_n327, dX12_breaksOf_29, xX12_breaksOf_SH, xX12_breaksOf_KF, xX12_breaksOf_rt, xX12_breaksOf_FT, xX12_breaksOf_PT, xX12_breaksOf_CT, xX12_breaksOf_KT, xX12_breaksOf_LT, xX12_breaksOf_NT, o_aload_n, o_bipush, o_getfield, o_iastore, o_iconst, o_iload_n, o_invokestatic, o_invokevirtual, o_ireturn, SH_51, KF_51_42, SH_77, am_vc, am_opt, am_cl, am_find, am_ldi, am_ldl, am_lda, am_v, am_1, am_1l, am_1a, am_2, am_2l, am_ix, am_ri, am_arr, am_pf, am_rc, am_mask, am_lg, am_av, am_nat, fv_0, fv_1, fv_2, fv_3, fw_0, fw_1, List.getElem?_cons_zero, List.getElem?_cons_succ, List.set_cons_zero, List.set_cons_succ, List.length_cons, List.length_nil, List.take_succ_cons, List.take_zero, List.drop_succ_cons, List.drop_zero, List.reverse_cons, List.reverse_nil, List.nil_append, List.cons_append, List.append_nil, List.map_cons, List.map_nil, List.sum_cons, List.sum_nil, Value.category, Option.toList_some, Option.toList_none, Nat.reduceAdd, Nat.reduceLT, Nat.reduceLeDiff, Nat.reduceEqDiff, Nat.reduceSub, Nat.add_zero, Nat.le_refl, Nat.zero_le, Int.reduceNeg, Int.reduceLE, Int.reduceLT, true_and, and_true, and_self, if_true, if_false, ite_true, ite_false, eq_self_iff_true, reduceIte, reduceCtorEq, not_false_eq_true, not_true_eq_false, or_true, true_or, or_false, false_or, Nat.lt_irrefl, Nat.zero_lt_succ]
  refine ⟨c, mn, rfl, rfl, hF, fun τ hT => ?_⟩
  simp only [dX12_breaksOf_0, dX12_breaksOf_1, dX12_breaksOf_2, xX12_breaksOf_c318, xX12_breaksOf_n318, dX12_breaksOf_5, dX12_breaksOf_6, FT_X12_95, dX12_breaksOf_9, dX12_breaksOf_11, dX12_breaksOf_12, dX12_breaksOf_13, xX12_breaksOf_c333, xX12_breaksOf_n333, dX12_breaksOf_16, dX12_breaksOf_17, dX12_breaksOf_18, dX12_breaksOf_19, dX12_breaksOf_20, xX12_breaksOf_c324, xX12_breaksOf_n324, dX12_breaksOf_23, dX12_breaksOf_24, dX12_breaksOf_26, xX12_breaksOf_c327, xX12_breaksOf_n327, dX12_breaksOf_29, xX12_breaksOf_SH, xX12_breaksOf_KF, xX12_breaksOf_rt, xX12_breaksOf_FT, xX12_breaksOf_PT, xX12_breaksOf_CT, xX12_breaksOf_KT, xX12_breaksOf_LT, xX12_breaksOf_NT, o_aload_n, o_bipush, o_getfield, o_iastore, o_iconst, o_iload_n, o_invokestatic, o_invokevirtual, o_ireturn, SH_51, KF_51_42, SH_77, am_vc, am_opt, am_cl, am_find, am_ldi, am_ldl, am_lda, am_v, am_1, am_1l, am_1a, am_2, am_2l, am_ix, am_ri, am_arr, am_pf, am_rc, am_mask, am_lg, am_av, am_nat, fv_0, fv_1, fv_2, fv_3, fw_0, fw_1, List.getElem?_cons_zero, List.getElem?_cons_succ, List.set_cons_zero, List.set_cons_succ, List.length_cons, List.length_nil, List.take_succ_cons, List.take_zero, List.drop_succ_cons, List.drop_zero, List.reverse_cons, List.reverse_nil, List.nil_append, List.cons_append, List.append_nil, List.map_cons, List.map_nil, List.sum_cons, List.sum_nil, Value.category, Option.toList_some, Option.toList_none, Nat.reduceAdd, Nat.reduceLT, Nat.reduceLeDiff, Nat.reduceEqDiff, Nat.reduceSub, Nat.add_zero, Nat.le_refl, Nat.zero_le, Int.reduceNeg, Int.reduceLE, Int.reduceLT, true_and, and_true, and_self, if_true, if_false, ite_true, ite_false, eq_self_iff_true, reduceIte, reduceCtorEq, not_false_eq_true, not_true_eq_false, or_true, true_or, or_false, false_or, Nat.lt_irrefl, Nat.zero_lt_succ]
  refine ⟨c, mn, rfl, rfl, hT, ?_⟩
  simp only [dX12_breaksOf_0, dX12_breaksOf_1, dX12_breaksOf_2, xX12_breaksOf_c318, xX12_breaksOf_n318, dX12_breaksOf_5, dX12_breaksOf_6, FT_X12_95, dX12_breaksOf_9, dX12_breaksOf_11, dX12_breaksOf_12, dX12_breaksOf_13, xX12_breaksOf_c333, xX12_breaksOf_n333, dX12_breaksOf_16, dX12_breaksOf_17, dX12_breaksOf_18, dX12_breaksOf_19, dX12_breaksOf_20, xX12_breaksOf_c324, xX12_breaksOf_n324, dX12_breaksOf_23, dX12_breaksOf_24, dX12_breaksOf_26, xX12_breaksOf_c327, xX12_breaksOf_n327, dX12_breaksOf_29, xX12_breaksOf_SH, xX12_breaksOf_KF, xX12_breaksOf_rt, xX12_breaksOf_FT, xX12_breaksOf_PT, xX12_breaksOf_CT, xX12_breaksOf_KT, xX12_breaksOf_LT, xX12_breaksOf_NT, o_aload_n, o_bipush, o_getfield, o_iastore, o_iconst, o_iload_n, o_invokestatic, o_invokevirtual, o_ireturn, SH_51, KF_51_42, SH_77, am_vc, am_opt, am_cl, am_find, am_ldi, am_ldl, am_lda, am_v, am_1, am_1l, am_1a, am_2, am_2l, am_ix, am_ri, am_arr, am_pf, am_rc, am_mask, am_lg, am_av, am_nat, fv_0, fv_1, fv_2, fv_3, fw_0, fw_1, List.getElem?_cons_zero, List.getElem?_cons_succ, List.set_cons_zero, List.set_cons_succ, List.length_cons, List.length_nil, List.take_succ_cons, List.take_zero, List.drop_succ_cons, List.drop_zero, List.reverse_cons, List.reverse_nil, List.nil_append, List.cons_append, List.append_nil, List.map_cons, List.map_nil, List.sum_cons, List.sum_nil, Value.category, Option.toList_some, Option.toList_none, Nat.reduceAdd, Nat.reduceLT, Nat.reduceLeDiff, Nat.reduceEqDiff, Nat.reduceSub, Nat.add_zero, Nat.le_refl, Nat.zero_le, Int.reduceNeg, Int.reduceLE, Int.reduceLT, true_and, and_true, and_self, if_true, if_false, ite_true, ite_false, eq_self_iff_true, reduceIte, reduceCtorEq, not_false_eq_true, not_true_eq_false, or_true, true_or, or_false, false_or, Nat.lt_irrefl, Nat.zero_lt_succ]
  simp (disch := omega) only [ii_0, ii_1, ii_add, ii_sub, ii_mul, ii_lt, ii_le, ii_eq, ij_in, ii_c, Int.toNat_natCast, Int.toNat_zero, Int.reduceToNat, Int.reduceEq, Int.reduceNe, Int.reduceLE, Int.reduceLT, Int.reduceAdd, Int.reduceSub, Int.reduceMul, Int.reduceNeg, Nat.reduceLT, Nat.reduceAdd, Nat.reduceMul, not_false_eq_true, not_true_eq_false, true_and, and_true, and_self, false_and, and_false, true_implies, false_implies, implies_true, forall_const, if_true, if_false, ite_true, ite_false, reduceIte, eq_self_iff_true, Int.natCast_nonneg, Int.zero_add, Int.add_zero, pi_s, pi_n]
  refine ⟨3, _, mn, by decide, rfl, rfl, FM_pi rfl hT, ?_⟩
  simp only [dX12_breaksOf_0, dX12_breaksOf_1, dX12_breaksOf_2, xX12_breaksOf_c318, xX12_breaksOf_n318, dX12_breaksOf_5, dX12_breaksOf_6, FT_X12_95, dX12_breaksOf_9, dX12_breaksOf_11, dX12_breaksOf_12, dX12_breaksOf_13, xX12_breaksOf_c333, xX12_breaksOf_n333, dX12_breaksOf_16, dX12_breaksOf_17, dX12_breaksOf_18, dX12_breaksOf_19, dX12_breaksOf_20, xX12_breaksOf_c324, xX12_breaksOf_n324, dX12_breaksOf_23, dX12_breaksOf_24, dX12_breaksOf_26, xX12_breaksOf_c327, xX12_breaksOf_n327, dX12_breaksOf_29, xX12_breaksOf_SH, xX12_breaksOf_KF, xX12_breaksOf_rt, xX12_breaksOf_FT, xX12_breaksOf_PT, xX12_breaksOf_CT, xX12_breaksOf_KT, xX12_breaksOf_LT, xX12_breaksOf_NT, o_aload_n, o_bipush, o_getfield, o_iastore, o_iconst, o_iload_n, o_invokestatic, o_invokevirtual, o_ireturn, SH_51, KF_51_42, SH_77, am_vc, am_opt, am_cl, am_find, am_ldi, am_ldl, am_lda, am_v, am_1, am_1l, am_1a, am_2, am_2l, am_ix, am_ri, am_arr, am_pf, am_rc, am_mask, am_lg, am_av, am_nat, fv_0, fv_1, fv_2, fv_3, fw_0, fw_1, List.getElem?_cons_zero, List.getElem?_cons_succ, List.set_cons_zero, List.set_cons_succ, List.length_cons, List.length_nil, List.take_succ_cons, List.take_zero, List.drop_succ_cons, List.drop_zero, List.reverse_cons, List.reverse_nil, List.nil_append, List.cons_append, List.append_nil, List.map_cons, List.map_nil, List.sum_cons, List.sum_nil, Value.category, Option.toList_some, Option.toList_none, Nat.reduceAdd, Nat.reduceLT, Nat.reduceLeDiff, Nat.reduceEqDiff, Nat.reduceSub, Nat.add_zero, Nat.le_refl, Nat.zero_le, Int.reduceNeg, Int.reduceLE, Int.reduceLT, true_and, and_true, and_self, if_true, if_false, ite_true, ite_false, eq_self_iff_true, reduceIte, reduceCtorEq, not_false_eq_true, not_true_eq_false, or_true, true_or, or_false, false_or, Nat.lt_irrefl, Nat.zero_lt_succ]
  refine ⟨0, 0, 100, by omega, by omega, by omega, rfl, ?_⟩
  simp only [dX12_breaksOf_0, dX12_breaksOf_1, dX12_breaksOf_2, xX12_breaksOf_c318, xX12_breaksOf_n318, dX12_breaksOf_5, dX12_breaksOf_6, FT_X12_95, dX12_breaksOf_9, dX12_breaksOf_11, dX12_breaksOf_12, dX12_breaksOf_13, xX12_breaksOf_c333, xX12_breaksOf_n333, dX12_breaksOf_16, dX12_breaksOf_17, dX12_breaksOf_18, dX12_breaksOf_19, dX12_breaksOf_20, xX12_breaksOf_c324, xX12_breaksOf_n324, dX12_breaksOf_23, dX12_breaksOf_24, dX12_breaksOf_26, xX12_breaksOf_c327, xX12_breaksOf_n327, dX12_breaksOf_29, xX12_breaksOf_SH, xX12_breaksOf_KF, xX12_breaksOf_rt, xX12_breaksOf_FT, xX12_breaksOf_PT, xX12_breaksOf_CT, xX12_breaksOf_KT, xX12_breaksOf_LT, xX12_breaksOf_NT, o_aload_n, o_bipush, o_getfield, o_iastore, o_iconst, o_iload_n, o_invokestatic, o_invokevirtual, o_ireturn, SH_51, KF_51_42, SH_77, am_vc, am_opt, am_cl, am_find, am_ldi, am_ldl, am_lda, am_v, am_1, am_1l, am_1a, am_2, am_2l, am_ix, am_ri, am_arr, am_pf, am_rc, am_mask, am_lg, am_av, am_nat, fv_0, fv_1, fv_2, fv_3, fw_0, fw_1, List.getElem?_cons_zero, List.getElem?_cons_succ, List.set_cons_zero, List.set_cons_succ, List.length_cons, List.length_nil, List.take_succ_cons, List.take_zero, List.drop_succ_cons, List.drop_zero, List.reverse_cons, List.reverse_nil, List.nil_append, List.cons_append, List.append_nil, List.map_cons, List.map_nil, List.sum_cons, List.sum_nil, Value.category, Option.toList_some, Option.toList_none, Nat.reduceAdd, Nat.reduceLT, Nat.reduceLeDiff, Nat.reduceEqDiff, Nat.reduceSub, Nat.add_zero, Nat.le_refl, Nat.zero_le, Int.reduceNeg, Int.reduceLE, Int.reduceLT, true_and, and_true, and_self, if_true, if_false, ite_true, ite_false, eq_self_iff_true, reduceIte, reduceCtorEq, not_false_eq_true, not_true_eq_false, or_true, true_or, or_false, false_or, Nat.lt_irrefl, Nat.zero_lt_succ]
  exact h _ (FM_pi rfl hT)
theorem mX12_breaksOf (l : Launch) : am_M l TB NB vwCl SH KF yX12_breaksOf cX12_breaksOf 2 (some .int) 5 0 0 sX12_breaksOf := by
  refine am_M.of xX12_breaksOf (by decide +kernel) TB_good GF rfl rfl rfl (by decide) ⟨FT_X12_ok, PT_X12_ok _, CT_X12_ok, KT_X12_ok, LT_X12_ok, NT_X12_ok, ?_⟩ pX12_breaksOf
  exact List.forall_mem_cons.mpr ⟨⟨yX12_looks, cX12_looks, 3, none, 2, 1, mX12_looks l, by decide, by decide, tb_at 1655 (by decide +kernel) (by decide +kernel), tb_at 124 (by decide +kernel) (by decide +kernel), ⟨by decide +kernel, by decide +kernel, by decide +kernel⟩, rfl, tb_at 1652 (by decide +kernel) (by decide +kernel), tb_at 1654 (by decide +kernel) (by decide +kernel), ⟨(RX12, TX12, 63), rfl, tb_at 70 (by decide +kernel) (by decide +kernel)⟩⟩, List.forall_mem_cons.mpr ⟨⟨yX12_lawTells, cX12_lawTells, 7, (some .int), 3, 2, mX12_lawTells l, by decide, by decide, tb_at 1659 (by decide +kernel) (by decide +kernel), tb_at 124 (by decide +kernel) (by decide +kernel), ⟨by decide +kernel, by decide +kernel, by decide +kernel⟩, rfl, tb_at 1656 (by decide +kernel) (by decide +kernel), tb_at 1658 (by decide +kernel) (by decide +kernel), ⟨(RX12, TX12, 63), rfl, tb_at 71 (by decide +kernel) (by decide +kernel)⟩⟩, List.forall_mem_cons.mpr ⟨⟨yX12_within, cX12_within, 3, (some .int), 2, 3, mX12_within l, by decide, by decide, tb_at 1666 (by decide +kernel) (by decide +kernel), tb_at 124 (by decide +kernel) (by decide +kernel), ⟨by decide +kernel, by decide +kernel, by decide +kernel⟩, rfl, tb_at 1664 (by decide +kernel) (by decide +kernel), tb_at 1665 (by decide +kernel) (by decide +kernel)⟩, List.forall_mem_cons.mpr ⟨⟨yX12_widthsOn, cX12_widthsOn, 2, (some .int), 4, 1, mX12_widthsOn l, by decide, by decide, tb_at 1670 (by decide +kernel) (by decide +kernel), tb_at 124 (by decide +kernel) (by decide +kernel), ⟨by decide +kernel, by decide +kernel, by decide +kernel⟩, rfl, tb_at 1667 (by decide +kernel) (by decide +kernel), tb_at 1669 (by decide +kernel) (by decide +kernel), ⟨(RX12, TX12, 63), rfl, tb_at 73 (by decide +kernel) (by decide +kernel)⟩⟩, fun _ h => absurd h List.not_mem_nil⟩⟩⟩⟩

-- lotOf(which): some number below 100
def sX12_lotOf : am_Sp := fun as n σ post => ∃ (c : Int32) (mn : Int), n = 92 ∧ as = [.ref 51, .int c] ∧ FM mn σ ∧ ∀ z : Int, 0 ≤ z → z < 100 → post (some (.int (Int32.ofInt z))) σ
theorem rem100 (x : Int32) (h : 0 ≤ x.toInt) : ∃ z : Int, 0 ≤ z ∧ z < 100 ∧ x - x / Int32.ofInt 100 * Int32.ofInt 100 = Int32.ofInt z := by
  obtain ⟨j, hj, rfl⟩ := nI_of (x := x) (by rw [Int32.lt_iff_toInt_lt]; simpa using h)
  refine ⟨((j % 100 : Nat) : Int), by omega, by omega, ?_⟩
  have := pk_rem (a := j) (d := 100) hj (by decide) (by decide)
  have e : nI 100 = Int32.ofInt 100 := by decide
  rw [e] at this
  rw [this]
  rfl
theorem ushr1 (x : Int32) : 0 ≤ ((x.toUInt32 >>> ((Int32.ofInt 1).toUInt32 &&& Int32.toUInt32 31)).toInt32).toInt := by
  have h := pk_ushr x (Int32.ofInt 1) 1 (by decide)
  have h2 : x.toBitVec.toNat < 2 ^ 32 := x.toBitVec.isLt
  have h3 : ((x.toUInt32 >>> ((Int32.ofInt 1).toUInt32 &&& Int32.toUInt32 31)).toInt32).toBitVec.toNat < 2 ^ 31 := by rw [h]; omega
  show 0 ≤ ((x.toUInt32 >>> ((Int32.ofInt 1).toUInt32 &&& Int32.toUInt32 31)).toInt32).toBitVec.toInt
  rw [BitVec.toInt_eq_toNat_cond]
  split <;> omega
def xX12_lotOf : am_X := (SH, KF, (some .int), FT_X12, PT_X12, CT_X12, KT_X12, LT_X12, NT_X12, [(303, 1, 2, 12, 0, 0, sX12_mixed)])
theorem xX12_lotOf_SH : am_SH xX12_lotOf = SH := rfl
theorem xX12_lotOf_KF : am_KF xX12_lotOf = KF := rfl
theorem xX12_lotOf_rt : am_rt xX12_lotOf = (some .int) := rfl
theorem xX12_lotOf_FT : am_FT xX12_lotOf = FT_X12 := rfl
theorem xX12_lotOf_PT : am_PT xX12_lotOf = PT_X12 := rfl
theorem xX12_lotOf_CT : am_CT xX12_lotOf = CT_X12 := rfl
theorem xX12_lotOf_KT : am_KT xX12_lotOf = KT_X12 := rfl
theorem xX12_lotOf_LT : am_LT xX12_lotOf = LT_X12 := rfl
theorem xX12_lotOf_NT : am_NT xX12_lotOf = NT_X12 := rfl
theorem xX12_lotOf_c303 : am_find (am_ML xX12_lotOf) 303 = some (1, 2, 12, 0, 0, sX12_mixed) := rfl
theorem xX12_lotOf_n303 : am_find NT_X12 303 = none := rfl

set_option maxRecDepth 100000 in
theorem pX12_lotOf : am_B cX12_lotOf xX12_lotOf 2 0 sX12_lotOf := by
  intro n0 as σ post AA hA h
  obtain ⟨c, mn, rfl, rfl, hF, h⟩ := h
  refine ⟨by simp [am_sl, Value.category], ?_⟩
  show AA 0 [some (.ref 51), some (.int c)] [] 92 σ
  refine hA [] 40 _ _ _ _ _ ?_
  simp only [dX12_lotOf_0, dX12_lotOf_1, FT_X12_296, dX12_lotOf_4, dX12_lotOf_7, xX12_lotOf_c303, xX12_lotOf_n303, dX12_lotOf_10, dX12_lotOf_11, dX12_lotOf_14, dX12_lotOf_15, dX12_lotOf_16, dX12_lotOf_18, dX12_lotOf_19, xX12_lotOf_SH, xX12_lotOf_KF, xX12_lotOf_rt, xX12_lotOf_FT, xX12_lotOf_PT, xX12_lotOf_CT, xX12_lotOf_KT, xX12_lotOf_LT, xX12_lotOf_NT, o_aload_n, o_bipush, o_getfield, o_iconst, o_iload_n, o_invokestatic, o_irem, o_ireturn, o_iushr, o_sipush, SH_51, KF_51_47, am_vc, am_opt, am_cl, am_find, am_ldi, am_ldl, am_lda, am_v, am_1, am_1l, am_1a, am_2, am_2l, am_ix, am_ri, am_arr, am_pf, am_rc, am_mask, am_lg, am_av, am_nat, fv_0, fv_1, fv_2, fv_3, fw_0, fw_1, List.getElem?_cons_zero, List.getElem?_cons_succ, List.set_cons_zero, List.set_cons_succ, List.length_cons, List.length_nil, List.take_succ_cons, List.take_zero, List.drop_succ_cons, List.drop_zero, List.reverse_cons, List.reverse_nil, List.nil_append, List.cons_append, List.append_nil, List.map_cons, List.map_nil, List.sum_cons, List.sum_nil, Value.category, Option.toList_some, Option.toList_none, Nat.reduceAdd, Nat.reduceLT, Nat.reduceLeDiff, Nat.reduceEqDiff, Nat.reduceSub, Nat.add_zero, Nat.le_refl, Nat.zero_le, Int.reduceNeg, Int.reduceLE, Int.reduceLT, true_and, and_true, and_self, if_true, if_false, ite_true, ite_false, eq_self_iff_true, reduceIte, reduceCtorEq, not_false_eq_true, not_true_eq_false, or_true, true_or, or_false, false_or, Nat.lt_irrefl, Nat.zero_lt_succ]
  refine ⟨_, _, rfl, ?_⟩
  simp only [dX12_lotOf_0, dX12_lotOf_1, FT_X12_296, dX12_lotOf_4, dX12_lotOf_7, xX12_lotOf_c303, xX12_lotOf_n303, dX12_lotOf_10, dX12_lotOf_11, dX12_lotOf_14, dX12_lotOf_15, dX12_lotOf_16, dX12_lotOf_18, dX12_lotOf_19, xX12_lotOf_SH, xX12_lotOf_KF, xX12_lotOf_rt, xX12_lotOf_FT, xX12_lotOf_PT, xX12_lotOf_CT, xX12_lotOf_KT, xX12_lotOf_LT, xX12_lotOf_NT, o_aload_n, o_bipush, o_getfield, o_iconst, o_iload_n, o_invokestatic, o_irem, o_ireturn, o_iushr, o_sipush, SH_51, KF_51_47, am_vc, am_opt, am_cl, am_find, am_ldi, am_ldl, am_lda, am_v, am_1, am_1l, am_1a, am_2, am_2l, am_ix, am_ri, am_arr, am_pf, am_rc, am_mask, am_lg, am_av, am_nat, fv_0, fv_1, fv_2, fv_3, fw_0, fw_1, List.getElem?_cons_zero, List.getElem?_cons_succ, List.set_cons_zero, List.set_cons_succ, List.length_cons, List.length_nil, List.take_succ_cons, List.take_zero, List.drop_succ_cons, List.drop_zero, List.reverse_cons, List.reverse_nil, List.nil_append, List.cons_append, List.append_nil, List.map_cons, List.map_nil, List.sum_cons, List.sum_nil, Value.category, Option.toList_some, Option.toList_none, Nat.reduceAdd, Nat.reduceLT, Nat.reduceLeDiff, Nat.reduceEqDiff, Nat.reduceSub, Nat.add_zero, Nat.le_refl, Nat.zero_le, Int.reduceNeg, Int.reduceLE, Int.reduceLT, true_and, and_true, and_self, if_true, if_false, ite_true, ite_false, eq_self_iff_true, reduceIte, reduceCtorEq, not_false_eq_true, not_true_eq_false, or_true, true_or, or_false, false_or, Nat.lt_irrefl, Nat.zero_lt_succ]
  refine ⟨_, _, rfl, ?_⟩
  simp only [dX12_lotOf_0, dX12_lotOf_1, FT_X12_296, dX12_lotOf_4, dX12_lotOf_7, xX12_lotOf_c303, xX12_lotOf_n303, dX12_lotOf_10, dX12_lotOf_11, dX12_lotOf_14, dX12_lotOf_15, dX12_lotOf_16, dX12_lotOf_18, dX12_lotOf_19, xX12_lotOf_SH, xX12_lotOf_KF, xX12_lotOf_rt, xX12_lotOf_FT, xX12_lotOf_PT, xX12_lotOf_CT, xX12_lotOf_KT, xX12_lotOf_LT, xX12_lotOf_NT, o_aload_n, o_bipush, o_getfield, o_iconst, o_iload_n, o_invokestatic, o_irem, o_ireturn, o_iushr, o_sipush, SH_51, KF_51_47, am_vc, am_opt, am_cl, am_find, am_ldi, am_ldl, am_lda, am_v, am_1, am_1l, am_1a, am_2, am_2l, am_ix, am_ri, am_arr, am_pf, am_rc, am_mask, am_lg, am_av, am_nat, fv_0, fv_1, fv_2, fv_3, fw_0, fw_1, List.getElem?_cons_zero, List.getElem?_cons_succ, List.set_cons_zero, List.set_cons_succ, List.length_cons, List.length_nil, List.take_succ_cons, List.take_zero, List.drop_succ_cons, List.drop_zero, List.reverse_cons, List.reverse_nil, List.nil_append, List.cons_append, List.append_nil, List.map_cons, List.map_nil, List.sum_cons, List.sum_nil, Value.category, Option.toList_some, Option.toList_none, Nat.reduceAdd, Nat.reduceLT, Nat.reduceLeDiff, Nat.reduceEqDiff, Nat.reduceSub, Nat.add_zero, Nat.le_refl, Nat.zero_le, Int.reduceNeg, Int.reduceLE, Int.reduceLT, true_and, and_true, and_self, if_true, if_false, ite_true, ite_false, eq_self_iff_true, reduceIte, reduceCtorEq, not_false_eq_true, not_true_eq_false, or_true, true_or, or_false, false_or, Nat.lt_irrefl, Nat.zero_lt_succ]
  refine ⟨by decide, ?_⟩
  obtain ⟨z, h1, h2, h3⟩ := rem100 _ (ushr1 (mixv (mixv (σ.1 51 47) (Int32.ofInt 131)) c))
  rw [h3]
  exact h z h1 h2
theorem mX12_lotOf (l : Launch) : am_M l TB NB vwCl SH KF yX12_lotOf cX12_lotOf 2 (some .int) 3 0 0 sX12_lotOf := by
  refine am_M.of xX12_lotOf (by decide +kernel) TB_good GF rfl rfl rfl (by decide) ⟨FT_X12_ok, PT_X12_ok _, CT_X12_ok, KT_X12_ok, LT_X12_ok, NT_X12_ok, ?_⟩ pX12_lotOf
  exact List.forall_mem_cons.mpr ⟨⟨yX12_mixed, cX12_mixed, 3, (some .int), 2, 2, mX12_mixed l, by decide, by decide, tb_at 1770 (by decide +kernel) (by decide +kernel), tb_at 124 (by decide +kernel) (by decide +kernel), ⟨by decide +kernel, by decide +kernel, by decide +kernel⟩, rfl, tb_at 1768 (by decide +kernel) (by decide +kernel), tb_at 1769 (by decide +kernel) (by decide +kernel)⟩, fun _ h => absurd h List.not_mem_nil⟩
end
section
theorem z_shr (y : Int32) : Int32.ofInt 0 >>> y = Int32.ofInt 0 := Int32.zero_shiftRight
theorem z_and (y : Int32) : Int32.ofInt 0 &&& y = Int32.ofInt 0 := Int32.zero_and
def sX12_breakingBits : am_Sp := fun as n σ post => ∃ (mn : Int), n = 92 ∧ as = [.ref 51] ∧ FM mn σ ∧ ∀ τ, FM mn τ → post (some (.int (Int32.ofInt 0))) τ
def xX12_breakingBits : am_X := (SH, KF, (some .int), FT_X12, PT_X12, CT_X12, KT_X12, LT_X12, NT_X12, [(336, 0, 2, 12, 0, 0, sX12_isWhole), (356, 0, 2, 12, 0, 0, sX12_lotOf), (359, 0, 2, 12, 0, 0, sX12_breaksOf)])
theorem xX12_breakingBits_SH : am_SH xX12_breakingBits = SH := rfl
theorem xX12_breakingBits_KF : am_KF xX12_breakingBits = KF := rfl
theorem xX12_breakingBits_rt : am_rt xX12_breakingBits = (some .int) := rfl
theorem xX12_breakingBits_FT : am_FT xX12_breakingBits = FT_X12 := rfl
theorem xX12_breakingBits_PT : am_PT xX12_breakingBits = PT_X12 := rfl
theorem xX12_breakingBits_CT : am_CT xX12_breakingBits = CT_X12 := rfl
theorem xX12_breakingBits_KT : am_KT xX12_breakingBits = KT_X12 := rfl
theorem xX12_breakingBits_LT : am_LT xX12_breakingBits = LT_X12 := rfl
theorem xX12_breakingBits_NT : am_NT xX12_breakingBits = NT_X12 := rfl
theorem xX12_breakingBits_c336 : am_find (am_ML xX12_breakingBits) 336 = some (0, 2, 12, 0, 0, sX12_isWhole) := rfl
theorem xX12_breakingBits_n336 : am_find NT_X12 336 = none := rfl
theorem xX12_breakingBits_c356 : am_find (am_ML xX12_breakingBits) 356 = some (0, 2, 12, 0, 0, sX12_lotOf) := rfl
theorem xX12_breakingBits_n356 : am_find NT_X12 356 = none := rfl
theorem xX12_breakingBits_c359 : am_find (am_ML xX12_breakingBits) 359 = some (0, 2, 12, 0, 0, sX12_breaksOf) := rfl
theorem xX12_breakingBits_n359 : am_find NT_X12 359 = none := rfl
theorem xX12_breakingBits_t14 (k : Nat → Prop) : am_tg 14 (47) k = k 61 := am_tg_eq (by decide)
theorem xX12_breakingBits_t22 (k : Nat → Prop) : am_tg 22 (33) k = k 55 := am_tg_eq (by decide)
theorem xX12_breakingBits_t46 (k : Nat → Prop) : am_tg 46 (9) k = k 55 := am_tg_eq (by decide)
theorem xX12_breakingBits_t58 (k : Nat → Prop) : am_tg 58 (-54) k = k 4 := am_tg_eq (by decide)

set_option maxRecDepth 100000 in
theorem bb_loop {post : Option Value → am_S → Prop} {AA : Nat → List (Option Value) → List Value → Nat → am_S → Prop} (hA : ∀ cuts f pc ls stk n τ, am_vc cX12_breakingBits xX12_breakingBits (92 + 0) post AA cuts f pc ls stk n τ → AA pc ls stk n τ) {mn : Int} (h : ∀ τ, FM mn τ → post (some (.int (Int32.ofInt 0))) τ) : ∀ k : Nat, k ≤ 8 → ∀ σ, FM mn σ → AA 4 [some (.ref 51), some (.int (Int32.ofInt 0)), some (.int (Int32.ofInt (k : Int)))] [] 92 σ := by
  refine am_up 8 fun k hk ih σ hF => ?_
  obtain ⟨e1, e2, e3, e4⟩ := FM_e hF
  refine hA [(4, 3)] 60 _ _ _ _ _ ?_
  try simp only [dX12_breakingBits_0, dX12_breakingBits_1, dX12_breakingBits_2, dX12_breakingBits_3, dX12_breakingBits_4, dX12_breakingBits_5, dX12_breakingBits_6, FT_X12_43, dX12_breakingBits_9, dX12_breakingBits_10, FT_X12_221, dX12_breakingBits_13, dX12_breakingBits_14, xX12_breakingBits_t14, dX12_breakingBits_17, dX12_breakingBits_18, dX12_breakingBits_19, xX12_breakingBits_c336, xX12_breakingBits_n336, dX12_breakingBits_22, xX12_breakingBits_t22, dX12_breakingBits_25, dX12_breakingBits_26, dX12_breakingBits_28, dX12_breakingBits_29, FT_X12_104, dX12_breakingBits_32, dX12_breakingBits_34, dX12_breakingBits_35, dX12_breakingBits_36, dX12_breakingBits_37, dX12_breakingBits_38, xX12_breakingBits_c356, xX12_breakingBits_n356, dX12_breakingBits_41, dX12_breakingBits_42, dX12_breakingBits_43, xX12_breakingBits_c359, xX12_breakingBits_n359, dX12_breakingBits_46, xX12_breakingBits_t46, dX12_breakingBits_49, dX12_breakingBits_50, dX12_breakingBits_51, dX12_breakingBits_52, dX12_breakingBits_53, dX12_breakingBits_54, dX12_breakingBits_55, dX12_breakingBits_58, xX12_breakingBits_t58, dX12_breakingBits_61, dX12_breakingBits_62, xX12_breakingBits_SH, xX12_breakingBits_KF, xX12_breakingBits_rt, xX12_breakingBits_FT, xX12_breakingBits_PT, xX12_breakingBits_CT, xX12_breakingBits_KT, xX12_breakingBits_LT, xX12_breakingBits_NT, o_aload_n, o_bipush, o_getfield, o_goto, o_iadd, o_iaload, o_iconst, o_ifCond_eq, o_if_icmp_ge, o_iinc, o_iload_n, o_imul, o_invokevirtual, o_ior, o_ireturn, o_ishl, o_istore_n, SH_51, KF_51_22, SH_60, KF_51_46, SH_80, KF_51_18, am_vc, am_opt, am_cl, am_find, am_ldi, am_ldl, am_lda, am_v, am_1, am_1l, am_1a, am_2, am_2l, am_ix, am_ri, am_arr, am_pf, am_rc, am_mask, am_lg, am_av, am_nat, fv_0, fv_1, fv_2, fv_3, fw_0, fw_1, List.getElem?_cons_zero, List.getElem?_cons_succ, List.set_cons_zero, List.set_cons_succ, List.length_cons, List.length_nil, List.take_succ_cons, List.take_zero, List.drop_succ_cons, List.drop_zero, List.reverse_cons, List.reverse_nil, List.nil_append, List.cons_append, List.append_nil, List.map_cons, List.map_nil, List.sum_cons, List.sum_nil, Value.category, Option.toList_some, Option.toList_none, Nat.reduceAdd, Nat.reduceLT, Nat.reduceLeDiff, Nat.reduceEqDiff, Nat.reduceSub, Nat.add_zero, Nat.le_refl, Nat.zero_le, Int.reduceNeg, Int.reduceLE, Int.reduceLT, true_and, and_true, and_self, if_true, if_false, ite_true, ite_false, eq_self_iff_true, reduceIte, reduceCtorEq, not_false_eq_true, not_true_eq_false, or_true, true_or, or_false, false_or, Nat.lt_irrefl, Nat.zero_lt_succ, e1]
  try simp (disch := omega) only [ii_0, ii_1, ii_add, ii_sub, ii_mul, ii_lt, ii_le, ii_eq, ij_in, ii_c, Int.toNat_natCast, Int.toNat_zero, Int.reduceToNat, Int.reduceEq, Int.reduceNe, Int.reduceLE, Int.reduceLT, Int.reduceAdd, Int.reduceSub, Int.reduceMul, Int.reduceNeg, Nat.reduceLT, Nat.reduceAdd, Nat.reduceMul, not_false_eq_true, not_true_eq_false, true_and, and_true, and_self, false_and, and_false, true_implies, false_implies, implies_true, forall_const, if_true, if_false, ite_true, ite_false, reduceIte, eq_self_iff_true, Int.natCast_nonneg, Int.zero_add, Int.add_zero, pi_s, pi_n, e2]
  refine ⟨fun h1 => h _ hF, fun h1 => ?_⟩
  refine ⟨(k : Int), mn, by omega, rfl, rfl, hF, ?_⟩
  rw [if_pos ⟨by omega, by omega⟩]
  try simp only [dX12_breakingBits_0, dX12_breakingBits_1, dX12_breakingBits_2, dX12_breakingBits_3, dX12_breakingBits_4, dX12_breakingBits_5, dX12_breakingBits_6, FT_X12_43, dX12_breakingBits_9, dX12_breakingBits_10, FT_X12_221, dX12_breakingBits_13, dX12_breakingBits_14, xX12_breakingBits_t14, dX12_breakingBits_17, dX12_breakingBits_18, dX12_breakingBits_19, xX12_breakingBits_c336, xX12_breakingBits_n336, dX12_breakingBits_22, xX12_breakingBits_t22, dX12_breakingBits_25, dX12_breakingBits_26, dX12_breakingBits_28, dX12_breakingBits_29, FT_X12_104, dX12_breakingBits_32, dX12_breakingBits_34, dX12_breakingBits_35, dX12_breakingBits_36, dX12_breakingBits_37, dX12_breakingBits_38, xX12_breakingBits_c356, xX12_breakingBits_n356, dX12_breakingBits_41, dX12_breakingBits_42, dX12_breakingBits_43, xX12_breakingBits_c359, xX12_breakingBits_n359, dX12_breakingBits_46, xX12_breakingBits_t46, dX12_breakingBits_49, dX12_breakingBits_50, dX12_breakingBits_51, dX12_breakingBits_52, dX12_breakingBits_53, dX12_breakingBits_54, dX12_breakingBits_55, dX12_breakingBits_58, xX12_breakingBits_t58, dX12_breakingBits_61, dX12_breakingBits_62, xX12_breakingBits_SH, xX12_breakingBits_KF, xX12_breakingBits_rt, xX12_breakingBits_FT, xX12_breakingBits_PT, xX12_breakingBits_CT, xX12_breakingBits_KT, xX12_breakingBits_LT, xX12_breakingBits_NT, o_aload_n, o_bipush, o_getfield, o_goto, o_iadd, o_iaload, o_iconst, o_ifCond_eq, o_if_icmp_ge, o_iinc, o_iload_n, o_imul, o_invokevirtual, o_ior, o_ireturn, o_ishl, o_istore_n, SH_51, KF_51_22, SH_60, KF_51_46, SH_80, KF_51_18, am_vc, am_opt, am_cl, am_find, am_ldi, am_ldl, am_lda, am_v, am_1, am_1l, am_1a, am_2, am_2l, am_ix, am_ri, am_arr, am_pf, am_rc, am_mask, am_lg, am_av, am_nat, fv_0, fv_1, fv_2, fv_3, fw_0, fw_1, List.getElem?_cons_zero, List.getElem?_cons_succ, List.set_cons_zero, List.set_cons_succ, List.length_cons, List.length_nil, List.take_succ_cons, List.take_zero, List.drop_succ_cons, List.drop_zero, List.reverse_cons, List.reverse_nil, List.nil_append, List.cons_append, List.append_nil, List.map_cons, List.map_nil, List.sum_cons, List.sum_nil, Value.category, Option.toList_some, Option.toList_none, Nat.reduceAdd, Nat.reduceLT, Nat.reduceLeDiff, Nat.reduceEqDiff, Nat.reduceSub, Nat.add_zero, Nat.le_refl, Nat.zero_le, Int.reduceNeg, Int.reduceLE, Int.reduceLT, true_and, and_true, and_self, if_true, if_false, ite_true, ite_false, eq_self_iff_true, reduceIte, reduceCtorEq, not_false_eq_true, not_true_eq_false, or_true, true_or, or_false, false_or, Nat.lt_irrefl, Nat.zero_lt_succ]
  try simp (disch := omega) only [ii_0, ii_1, ii_add, ii_sub, ii_mul, ii_lt, ii_le, ii_eq, ij_in, ii_c, Int.toNat_natCast, Int.toNat_zero, Int.reduceToNat, Int.reduceEq, Int.reduceNe, Int.reduceLE, Int.reduceLT, Int.reduceAdd, Int.reduceSub, Int.reduceMul, Int.reduceNeg, Nat.reduceLT, Nat.reduceAdd, Nat.reduceMul, not_false_eq_true, not_true_eq_false, true_and, and_true, and_self, false_and, and_false, true_implies, false_implies, implies_true, forall_const, if_true, if_false, ite_true, ite_false, reduceIte, eq_self_iff_true, Int.natCast_nonneg, Int.zero_add, Int.add_zero, pi_s, pi_n]
  refine ⟨_, mn, rfl, rfl, hF, fun z z1 z2 => ?_⟩
  try simp only [dX12_breakingBits_0, dX12_breakingBits_1, dX12_breakingBits_2, dX12_breakingBits_3, dX12_breakingBits_4, dX12_breakingBits_5, dX12_breakingBits_6, FT_X12_43, dX12_breakingBits_9, dX12_breakingBits_10, FT_X12_221, dX12_breakingBits_13, dX12_breakingBits_14, xX12_breakingBits_t14, dX12_breakingBits_17, dX12_breakingBits_18, dX12_breakingBits_19, xX12_breakingBits_c336, xX12_breakingBits_n336, dX12_breakingBits_22, xX12_breakingBits_t22, dX12_breakingBits_25, dX12_breakingBits_26, dX12_breakingBits_28, dX12_breakingBits_29, FT_X12_104, dX12_breakingBits_32, dX12_breakingBits_34, dX12_breakingBits_35, dX12_breakingBits_36, dX12_breakingBits_37, dX12_breakingBits_38, xX12_breakingBits_c356, xX12_breakingBits_n356, dX12_breakingBits_41, dX12_breakingBits_42, dX12_breakingBits_43, xX12_breakingBits_c359, xX12_breakingBits_n359, dX12_breakingBits_46, xX12_breakingBits_t46, dX12_breakingBits_49, dX12_breakingBits_50, dX12_breakingBits_51, dX12_breakingBits_52, dX12_breakingBits_53, dX12_breakingBits_54, dX12_breakingBits_55, dX12_breakingBits_58, xX12_breakingBits_t58, dX12_breakingBits_61, dX12_breakingBits_62, xX12_breakingBits_SH, xX12_breakingBits_KF, xX12_breakingBits_rt, xX12_breakingBits_FT, xX12_breakingBits_PT, xX12_breakingBits_CT, xX12_breakingBits_KT, xX12_breakingBits_LT, xX12_breakingBits_NT, o_aload_n, o_bipush, o_getfield, o_goto, o_iadd, o_iaload, o_iconst, o_ifCond_eq, o_if_icmp_ge, o_iinc, o_iload_n, o_imul, o_invokevirtual, o_ior, o_ireturn, o_ishl, o_istore_n, SH_51, KF_51_22, SH_60, KF_51_46, SH_80, KF_51_18, am_vc, am_opt, am_cl, am_find, am_ldi, am_ldl, am_lda, am_v, am_1, am_1l, am_1a, am_2, am_2l, am_ix, am_ri, am_arr, am_pf, am_rc, am_mask, am_lg, am_av, am_nat, fv_0, fv_1, fv_2, fv_3, fw_0, fw_1, List.getElem?_cons_zero, List.getElem?_cons_succ, List.set_cons_zero, List.set_cons_succ, List.length_cons, List.length_nil, List.take_succ_cons, List.take_zero, List.drop_succ_cons, List.drop_zero, List.reverse_cons, List.reverse_nil, List.nil_append, List.cons_append, List.append_nil, List.map_cons, List.map_nil, List.sum_cons, List.sum_nil, Value.category, Option.toList_some, Option.toList_none, Nat.reduceAdd, Nat.reduceLT, Nat.reduceLeDiff, Nat.reduceEqDiff, Nat.reduceSub, Nat.add_zero, Nat.le_refl, Nat.zero_le, Int.reduceNeg, Int.reduceLE, Int.reduceLT, true_and, and_true, and_self, if_true, if_false, ite_true, ite_false, eq_self_iff_true, reduceIte, reduceCtorEq, not_false_eq_true, not_true_eq_false, or_true, true_or, or_false, false_or, Nat.lt_irrefl, Nat.zero_lt_succ]
  refine ⟨_, mn, rfl, rfl, hF, fun τ hT => ?_⟩
  try simp only [dX12_breakingBits_0, dX12_breakingBits_1, dX12_breakingBits_2, dX12_breakingBits_3, dX12_breakingBits_4, dX12_breakingBits_5, dX12_breakingBits_6, FT_X12_43, dX12_breakingBits_9, dX12_breakingBits_10, FT_X12_221, dX12_breakingBits_13, dX12_breakingBits_14, xX12_breakingBits_t14, dX12_breakingBits_17, dX12_breakingBits_18, dX12_breakingBits_19, xX12_breakingBits_c336, xX12_breakingBits_n336, dX12_breakingBits_22, xX12_breakingBits_t22, dX12_breakingBits_25, dX12_breakingBits_26, dX12_breakingBits_28, dX12_breakingBits_29, FT_X12_104, dX12_breakingBits_32, dX12_breakingBits_34, dX12_breakingBits_35, dX12_breakingBits_36, dX12_breakingBits_37, dX12_breakingBits_38, xX12_breakingBits_c356, xX12_breakingBits_n356, dX12_breakingBits_41, dX12_breakingBits_42, dX12_breakingBits_43, xX12_breakingBits_c359, xX12_breakingBits_n359, dX12_breakingBits_46, xX12_breakingBits_t46, dX12_breakingBits_49, dX12_breakingBits_50, dX12_breakingBits_51, dX12_breakingBits_52, dX12_breakingBits_53, dX12_breakingBits_54, dX12_breakingBits_55, dX12_breakingBits_58, xX12_breakingBits_t58, dX12_breakingBits_61, dX12_breakingBits_62, xX12_breakingBits_SH, xX12_breakingBits_KF, xX12_breakingBits_rt, xX12_breakingBits_FT, xX12_breakingBits_PT, xX12_breakingBits_CT, xX12_breakingBits_KT, xX12_breakingBits_LT, xX12_breakingBits_NT, o_aload_n, o_bipush, o_getfield, o_goto, o_iadd, o_iaload, o_iconst, o_ifCond_eq, o_if_icmp_ge, o_iinc, o_iload_n, o_imul, o_invokevirtual, o_ior, o_ireturn, o_ishl, o_istore_n, SH_51, KF_51_22, SH_60, KF_51_46, SH_80, KF_51_18, am_vc, am_opt, am_cl, am_find, am_ldi, am_ldl, am_lda, am_v, am_1, am_1l, am_1a, am_2, am_2l, am_ix, am_ri, am_arr, am_pf, am_rc, am_mask, am_lg, am_av, am_nat, fv_0, fv_1, fv_2, fv_3, fw_0, fw_1, List.getElem?_cons_zero, List.getElem?_cons_succ, List.set_cons_zero, List.set_cons_succ, List.length_cons, List.length_nil, List.take_succ_cons, List.take_zero, List.drop_succ_cons, List.drop_zero, List.reverse_cons, List.reverse_nil, List.nil_append, List.cons_append, List.append_nil, List.map_cons, List.map_nil, List.sum_cons, List.sum_nil, Value.category, Option.toList_some, Option.toList_none, Nat.reduceAdd, Nat.reduceLT, Nat.reduceLeDiff, Nat.reduceEqDiff, Nat.reduceSub, Nat.add_zero, Nat.le_refl, Nat.zero_le, Int.reduceNeg, Int.reduceLE, Int.reduceLT, true_and, and_true, and_self, if_true, if_false, ite_true, ite_false, eq_self_iff_true, reduceIte, reduceCtorEq, not_false_eq_true, not_true_eq_false, or_true, true_or, or_false, false_or, Nat.lt_irrefl, Nat.zero_lt_succ]
  try simp (disch := omega) only [ii_0, ii_1, ii_add, ii_sub, ii_mul, ii_lt, ii_le, ii_eq, ij_in, ii_c, Int.toNat_natCast, Int.toNat_zero, Int.reduceToNat, Int.reduceEq, Int.reduceNe, Int.reduceLE, Int.reduceLT, Int.reduceAdd, Int.reduceSub, Int.reduceMul, Int.reduceNeg, Nat.reduceLT, Nat.reduceAdd, Nat.reduceMul, not_false_eq_true, not_true_eq_false, true_and, and_true, and_self, false_and, and_false, true_implies, false_implies, implies_true, forall_const, if_true, if_false, ite_true, ite_false, reduceIte, eq_self_iff_true, Int.natCast_nonneg, Int.zero_add, Int.add_zero, pi_s, pi_n, ik_s]
  exact ⟨fun _ => ih (by omega) _ hT, fun q => absurd z1 q⟩
set_option maxRecDepth 100000 in
theorem pX12_breakingBits : am_B cX12_breakingBits xX12_breakingBits 3 0 sX12_breakingBits := by
  intro n0 as σ post AA hA h
  obtain ⟨mn, rfl, rfl, hF, h⟩ := h
  refine ⟨by simp [am_sl, Value.category], ?_⟩
  show AA 0 [some (.ref 51), none, none] [] 92 σ
  refine hA [(4, 3)] 20 _ _ _ _ _ ?_
  try simp only [dX12_breakingBits_0, dX12_breakingBits_1, dX12_breakingBits_2, dX12_breakingBits_3, dX12_breakingBits_4, dX12_breakingBits_5, dX12_breakingBits_6, FT_X12_43, dX12_breakingBits_9, dX12_breakingBits_10, FT_X12_221, dX12_breakingBits_13, dX12_breakingBits_14, xX12_breakingBits_t14, dX12_breakingBits_17, dX12_breakingBits_18, dX12_breakingBits_19, xX12_breakingBits_c336, xX12_breakingBits_n336, dX12_breakingBits_22, xX12_breakingBits_t22, dX12_breakingBits_25, dX12_breakingBits_26, dX12_breakingBits_28, dX12_breakingBits_29, FT_X12_104, dX12_breakingBits_32, dX12_breakingBits_34, dX12_breakingBits_35, dX12_breakingBits_36, dX12_breakingBits_37, dX12_breakingBits_38, xX12_breakingBits_c356, xX12_breakingBits_n356, dX12_breakingBits_41, dX12_breakingBits_42, dX12_breakingBits_43, xX12_breakingBits_c359, xX12_breakingBits_n359, dX12_breakingBits_46, xX12_breakingBits_t46, dX12_breakingBits_49, dX12_breakingBits_50, dX12_breakingBits_51, dX12_breakingBits_52, dX12_breakingBits_53, dX12_breakingBits_54, dX12_breakingBits_55, dX12_breakingBits_58, xX12_breakingBits_t58, dX12_breakingBits_61, dX12_breakingBits_62, xX12_breakingBits_SH, xX12_breakingBits_KF, xX12_breakingBits_rt, xX12_breakingBits_FT, xX12_breakingBits_PT, xX12_breakingBits_CT, xX12_breakingBits_KT, xX12_breakingBits_LT, xX12_breakingBits_NT, o_aload_n, o_bipush, o_getfield, o_goto, o_iadd, o_iaload, o_iconst, o_ifCond_eq, o_if_icmp_ge, o_iinc, o_iload_n, o_imul, o_invokevirtual, o_ior, o_ireturn, o_ishl, o_istore_n, SH_51, KF_51_22, SH_60, KF_51_46, SH_80, KF_51_18, am_vc, am_opt, am_cl, am_find, am_ldi, am_ldl, am_lda, am_v, am_1, am_1l, am_1a, am_2, am_2l, am_ix, am_ri, am_arr, am_pf, am_rc, am_mask, am_lg, am_av, am_nat, fv_0, fv_1, fv_2, fv_3, fw_0, fw_1, List.getElem?_cons_zero, List.getElem?_cons_succ, List.set_cons_zero, List.set_cons_succ, List.length_cons, List.length_nil, List.take_succ_cons, List.take_zero, List.drop_succ_cons, List.drop_zero, List.reverse_cons, List.reverse_nil, List.nil_append, List.cons_append, List.append_nil, List.map_cons, List.map_nil, List.sum_cons, List.sum_nil, Value.category, Option.toList_some, Option.toList_none, Nat.reduceAdd, Nat.reduceLT, Nat.reduceLeDiff, Nat.reduceEqDiff, Nat.reduceSub, Nat.add_zero, Nat.le_refl, Nat.zero_le, Int.reduceNeg, Int.reduceLE, Int.reduceLT, true_and, and_true, and_self, if_true, if_false, ite_true, ite_false, eq_self_iff_true, reduceIte, reduceCtorEq, not_false_eq_true, not_true_eq_false, or_true, true_or, or_false, false_or, Nat.lt_irrefl, Nat.zero_lt_succ]
  exact bb_loop hA h 0 (by omega) σ hF
theorem mX12_breakingBits (l : Launch) : am_M l TB NB vwCl SH KF yX12_breakingBits cX12_breakingBits 3 (some .int) 6 0 0 sX12_breakingBits := by
  refine am_M.of xX12_breakingBits (by decide +kernel) TB_good GF rfl rfl rfl (by decide) ⟨FT_X12_ok, PT_X12_ok _, CT_X12_ok, KT_X12_ok, LT_X12_ok, NT_X12_ok, ?_⟩ pX12_breakingBits
  exact List.forall_mem_cons.mpr ⟨⟨yX12_isWhole, cX12_isWhole, 2, (some .boolean), 4, 1, mX12_isWhole l, by decide, by decide, tb_at 1682 (by decide +kernel) (by decide +kernel), tb_at 124 (by decide +kernel) (by decide +kernel), ⟨by decide +kernel, by decide +kernel, by decide +kernel⟩, rfl, tb_at 1679 (by decide +kernel) (by decide +kernel), tb_at 1681 (by decide +kernel) (by decide +kernel), ⟨(RX12, TX12, 63), rfl, tb_at 76 (by decide +kernel) (by decide +kernel)⟩⟩, List.forall_mem_cons.mpr ⟨⟨yX12_lotOf, cX12_lotOf, 2, (some .int), 3, 1, mX12_lotOf l, by decide, by decide, tb_at 1767 (by decide +kernel) (by decide +kernel), tb_at 124 (by decide +kernel) (by decide +kernel), ⟨by decide +kernel, by decide +kernel, by decide +kernel⟩, rfl, tb_at 1764 (by decide +kernel) (by decide +kernel), tb_at 1766 (by decide +kernel) (by decide +kernel), ⟨(RX12, TX12, 63), rfl, tb_at 89 (by decide +kernel) (by decide +kernel)⟩⟩, List.forall_mem_cons.mpr ⟨⟨yX12_breaksOf, cX12_breaksOf, 2, (some .int), 5, 1, mX12_breaksOf l, by decide, by decide, tb_at 1686 (by decide +kernel) (by decide +kernel), tb_at 124 (by decide +kernel) (by decide +kernel), ⟨by decide +kernel, by decide +kernel, by decide +kernel⟩, rfl, tb_at 1683 (by decide +kernel) (by decide +kernel), tb_at 1685 (by decide +kernel) (by decide +kernel), ⟨(RX12, TX12, 63), rfl, tb_at 77 (by decide +kernel) (by decide +kernel)⟩⟩, fun _ h => absurd h List.not_mem_nil⟩⟩⟩

-- theyBreak(0)
def sX12_theyBreak : am_Sp := fun as n σ post => ∃ (mn : Int), n = 92 ∧ as = [.ref 51, .int (Int32.ofInt 0)] ∧ FM mn σ ∧ post none σ
def xX12_theyBreak : am_X := (SH, KF, none, FT_X12, PT_X12, CT_X12, KT_X12, LT_X12, NT_X12, [(362, 0, 2, 12, 0, 0, sX12_falls)])
theorem xX12_theyBreak_SH : am_SH xX12_theyBreak = SH := rfl
theorem xX12_theyBreak_KF : am_KF xX12_theyBreak = KF := rfl
theorem xX12_theyBreak_rt : am_rt xX12_theyBreak = none := rfl
theorem xX12_theyBreak_FT : am_FT xX12_theyBreak = FT_X12 := rfl
theorem xX12_theyBreak_PT : am_PT xX12_theyBreak = PT_X12 := rfl
theorem xX12_theyBreak_CT : am_CT xX12_theyBreak = CT_X12 := rfl
theorem xX12_theyBreak_KT : am_KT xX12_theyBreak = KT_X12 := rfl
theorem xX12_theyBreak_LT : am_LT xX12_theyBreak = LT_X12 := rfl
theorem xX12_theyBreak_NT : am_NT xX12_theyBreak = NT_X12 := rfl
theorem xX12_theyBreak_c362 : am_find (am_ML xX12_theyBreak) 362 = some (0, 2, 12, 0, 0, sX12_falls) := rfl
theorem xX12_theyBreak_n362 : am_find NT_X12 362 = none := rfl
theorem xX12_theyBreak_t12 (k : Nat → Prop) : am_tg 12 (43) k = k 55 := am_tg_eq (by decide)
theorem xX12_theyBreak_t20 (k : Nat → Prop) : am_tg 20 (6) k = k 26 := am_tg_eq (by decide)
theorem xX12_theyBreak_t23 (k : Nat → Prop) : am_tg 23 (26) k = k 49 := am_tg_eq (by decide)
theorem xX12_theyBreak_t52 (k : Nat → Prop) : am_tg 52 (-50) k = k 2 := am_tg_eq (by decide)
theorem xX12_theyBreak_t67 (k : Nat → Prop) : am_tg 67 (28) k = k 95 := am_tg_eq (by decide)
theorem xX12_theyBreak_t81 (k : Nat → Prop) : am_tg 81 (8) k = k 89 := am_tg_eq (by decide)
theorem xX12_theyBreak_t92 (k : Nat → Prop) : am_tg 92 (-35) k = k 57 := am_tg_eq (by decide)

set_option maxRecDepth 100000 in
theorem tb_loop {post : Option Value → am_S → Prop} {AA : Nat → List (Option Value) → List Value → Nat → am_S → Prop} (hA : ∀ cuts f pc ls stk n τ, am_vc cX12_theyBreak xX12_theyBreak (92 + 0) post AA cuts f pc ls stk n τ → AA pc ls stk n τ) {mn : Int} {σ : am_S} (hF : FM mn σ) (h : post none σ) : ∀ k : Nat, k ≤ 8 → AA 2 [some (.ref 51), some (.int (Int32.ofInt 0)), some (.int (Int32.ofInt (k : Int)))] [] 92 σ := by
  obtain ⟨e1, e2, e3, e4⟩ := FM_e hF
  refine am_up 8 fun k hk ih => ?_
  refine hA [(2, 3), (57, 3)] 60 _ _ _ _ _ ?_
  try simp only [dX12_theyBreak_0, dX12_theyBreak_1, dX12_theyBreak_2, dX12_theyBreak_3, dX12_theyBreak_4, FT_X12_43, dX12_theyBreak_7, dX12_theyBreak_8, FT_X12_221, dX12_theyBreak_11, dX12_theyBreak_12, xX12_theyBreak_t12, dX12_theyBreak_15, dX12_theyBreak_16, dX12_theyBreak_17, dX12_theyBreak_18, dX12_theyBreak_19, dX12_theyBreak_20, xX12_theyBreak_t20, dX12_theyBreak_23, xX12_theyBreak_t23, dX12_theyBreak_26, dX12_theyBreak_27, FT_X12_104, dX12_theyBreak_30, dX12_theyBreak_32, dX12_theyBreak_33, dX12_theyBreak_34, dX12_theyBreak_35, dX12_theyBreak_36, dX12_theyBreak_37, dX12_theyBreak_40, dX12_theyBreak_42, dX12_theyBreak_43, dX12_theyBreak_44, dX12_theyBreak_45, dX12_theyBreak_46, dX12_theyBreak_47, dX12_theyBreak_48, dX12_theyBreak_49, dX12_theyBreak_52, xX12_theyBreak_t52, dX12_theyBreak_55, dX12_theyBreak_56, dX12_theyBreak_57, dX12_theyBreak_58, dX12_theyBreak_59, FT_X12_46, dX12_theyBreak_62, dX12_theyBreak_63, dX12_theyBreak_66, dX12_theyBreak_67, xX12_theyBreak_t67, dX12_theyBreak_70, dX12_theyBreak_71, dX12_theyBreak_72, dX12_theyBreak_75, dX12_theyBreak_76, dX12_theyBreak_77, dX12_theyBreak_78, dX12_theyBreak_79, dX12_theyBreak_80, dX12_theyBreak_81, xX12_theyBreak_t81, dX12_theyBreak_84, dX12_theyBreak_85, dX12_theyBreak_86, xX12_theyBreak_c362, xX12_theyBreak_n362, dX12_theyBreak_89, dX12_theyBreak_92, xX12_theyBreak_t92, dX12_theyBreak_95, xX12_theyBreak_SH, xX12_theyBreak_KF, xX12_theyBreak_rt, xX12_theyBreak_FT, xX12_theyBreak_PT, xX12_theyBreak_CT, xX12_theyBreak_KT, xX12_theyBreak_LT, xX12_theyBreak_NT, o_aload_n, o_bipush, o_dup2, o_getfield, o_goto, o_iadd, o_iaload, o_iand, o_iastore, o_iconst, o_ifCond_ne, o_if_icmp_ge, o_if_icmp_ne, o_iinc, o_iload_n, o_invokevirtual, o_ishr, o_istore_n, o_return_, SH_51, KF_51_23, SH_61, KF_51_46, SH_80, KF_51_22, SH_60, KF_51_18, am_vc, am_opt, am_cl, am_find, am_ldi, am_ldl, am_lda, am_v, am_1, am_1l, am_1a, am_2, am_2l, am_ix, am_ri, am_arr, am_pf, am_rc, am_mask, am_lg, am_av, am_nat, fv_0, fv_1, fv_2, fv_3, fw_0, fw_1, List.getElem?_cons_zero, List.getElem?_cons_succ, List.set_cons_zero, List.set_cons_succ, List.length_cons, List.length_nil, List.take_succ_cons, List.take_zero, List.drop_succ_cons, List.drop_zero, List.reverse_cons, List.reverse_nil, List.nil_append, List.cons_append, List.append_nil, List.map_cons, List.map_nil, List.sum_cons, List.sum_nil, Value.category, Option.toList_some, Option.toList_none, Nat.reduceAdd, Nat.reduceLT, Nat.reduceLeDiff, Nat.reduceEqDiff, Nat.reduceSub, Nat.add_zero, Nat.le_refl, Nat.zero_le, Int.reduceNeg, Int.reduceLE, Int.reduceLT, true_and, and_true, and_self, if_true, if_false, ite_true, ite_false, eq_self_iff_true, reduceIte, reduceCtorEq, not_false_eq_true, not_true_eq_false, or_true, true_or, or_false, false_or, Nat.lt_irrefl, Nat.zero_lt_succ, e1, z_shr, z_and]
  try simp (disch := omega) only [ii_0, ii_1, ii_add, ii_sub, ii_mul, ii_lt, ii_le, ii_eq, ij_in, ii_c, Int.toNat_natCast, Int.toNat_zero, Int.reduceToNat, Int.reduceEq, Int.reduceNe, Int.reduceLE, Int.reduceLT, Int.reduceAdd, Int.reduceSub, Int.reduceMul, Int.reduceNeg, Nat.reduceLT, Nat.reduceAdd, Nat.reduceMul, not_false_eq_true, not_true_eq_false, true_and, and_true, and_self, false_and, and_false, true_implies, false_implies, implies_true, forall_const, if_true, if_false, ite_true, ite_false, reduceIte, eq_self_iff_true, Int.natCast_nonneg, Int.zero_add, Int.add_zero, pi_s, pi_n, e2, ik_s]
  refine ⟨fun h1 => ?_, fun h1 => ih (by omega)⟩
  refine hA [(2, 3), (57, 3)] 60 _ _ _ _ _ ?_
  try simp only [dX12_theyBreak_0, dX12_theyBreak_1, dX12_theyBreak_2, dX12_theyBreak_3, dX12_theyBreak_4, FT_X12_43, dX12_theyBreak_7, dX12_theyBreak_8, FT_X12_221, dX12_theyBreak_11, dX12_theyBreak_12, xX12_theyBreak_t12, dX12_theyBreak_15, dX12_theyBreak_16, dX12_theyBreak_17, dX12_theyBreak_18, dX12_theyBreak_19, dX12_theyBreak_20, xX12_theyBreak_t20, dX12_theyBreak_23, xX12_theyBreak_t23, dX12_theyBreak_26, dX12_theyBreak_27, FT_X12_104, dX12_theyBreak_30, dX12_theyBreak_32, dX12_theyBreak_33, dX12_theyBreak_34, dX12_theyBreak_35, dX12_theyBreak_36, dX12_theyBreak_37, dX12_theyBreak_40, dX12_theyBreak_42, dX12_theyBreak_43, dX12_theyBreak_44, dX12_theyBreak_45, dX12_theyBreak_46, dX12_theyBreak_47, dX12_theyBreak_48, dX12_theyBreak_49, dX12_theyBreak_52, xX12_theyBreak_t52, dX12_theyBreak_55, dX12_theyBreak_56, dX12_theyBreak_57, dX12_theyBreak_58, dX12_theyBreak_59, FT_X12_46, dX12_theyBreak_62, dX12_theyBreak_63, dX12_theyBreak_66, dX12_theyBreak_67, xX12_theyBreak_t67, dX12_theyBreak_70, dX12_theyBreak_71, dX12_theyBreak_72, dX12_theyBreak_75, dX12_theyBreak_76, dX12_theyBreak_77, dX12_theyBreak_78, dX12_theyBreak_79, dX12_theyBreak_80, dX12_theyBreak_81, xX12_theyBreak_t81, dX12_theyBreak_84, dX12_theyBreak_85, dX12_theyBreak_86, xX12_theyBreak_c362, xX12_theyBreak_n362, dX12_theyBreak_89, dX12_theyBreak_92, xX12_theyBreak_t92, dX12_theyBreak_95, xX12_theyBreak_SH, xX12_theyBreak_KF, xX12_theyBreak_rt, xX12_theyBreak_FT, xX12_theyBreak_PT, xX12_theyBreak_CT, xX12_theyBreak_KT, xX12_theyBreak_LT, xX12_theyBreak_NT, o_aload_n, o_bipush, o_dup2, o_getfield, o_goto, o_iadd, o_iaload, o_iand, o_iastore, o_iconst, o_ifCond_ne, o_if_icmp_ge, o_if_icmp_ne, o_iinc, o_iload_n, o_invokevirtual, o_ishr, o_istore_n, o_return_, SH_51, KF_51_23, SH_61, KF_51_46, SH_80, KF_51_22, SH_60, KF_51_18, am_vc, am_opt, am_cl, am_find, am_ldi, am_ldl, am_lda, am_v, am_1, am_1l, am_1a, am_2, am_2l, am_ix, am_ri, am_arr, am_pf, am_rc, am_mask, am_lg, am_av, am_nat, fv_0, fv_1, fv_2, fv_3, fw_0, fw_1, List.getElem?_cons_zero, List.getElem?_cons_succ, List.set_cons_zero, List.set_cons_succ, List.length_cons, List.length_nil, List.take_succ_cons, List.take_zero, List.drop_succ_cons, List.drop_zero, List.reverse_cons, List.reverse_nil, List.nil_append, List.cons_append, List.append_nil, List.map_cons, List.map_nil, List.sum_cons, List.sum_nil, Value.category, Option.toList_some, Option.toList_none, Nat.reduceAdd, Nat.reduceLT, Nat.reduceLeDiff, Nat.reduceEqDiff, Nat.reduceSub, Nat.add_zero, Nat.le_refl, Nat.zero_le, Int.reduceNeg, Int.reduceLE, Int.reduceLT, true_and, and_true, and_self, if_true, if_false, ite_true, ite_false, eq_self_iff_true, reduceIte, reduceCtorEq, not_false_eq_true, not_true_eq_false, or_true, true_or, or_false, false_or, Nat.lt_irrefl, Nat.zero_lt_succ, e1, z_shr, z_and]
  try simp (disch := omega) only [ii_0, ii_1, ii_add, ii_sub, ii_mul, ii_lt, ii_le, ii_eq, ij_in, ii_c, Int.toNat_natCast, Int.toNat_zero, Int.reduceToNat, Int.reduceEq, Int.reduceNe, Int.reduceLE, Int.reduceLT, Int.reduceAdd, Int.reduceSub, Int.reduceMul, Int.reduceNeg, Nat.reduceLT, Nat.reduceAdd, Nat.reduceMul, not_false_eq_true, not_true_eq_false, true_and, and_true, and_self, false_and, and_false, true_implies, false_implies, implies_true, forall_const, if_true, if_false, ite_true, ite_false, reduceIte, eq_self_iff_true, Int.natCast_nonneg, Int.zero_add, Int.add_zero, pi_s, pi_n, e3]
  exact h
set_option maxRecDepth 100000 in
theorem pX12_theyBreak : am_B cX12_theyBreak xX12_theyBreak 3 0 sX12_theyBreak := by
  intro n0 as σ post AA hA h
  obtain ⟨mn, rfl, rfl, hF, h⟩ := h
  refine ⟨by simp [am_sl, Value.category], ?_⟩
  show AA 0 [some (.ref 51), some (.int (Int32.ofInt 0)), none] [] 92 σ
  refine hA [(2, 3)] 20 _ _ _ _ _ ?_
  try simp only [dX12_theyBreak_0, dX12_theyBreak_1, dX12_theyBreak_2, dX12_theyBreak_3, dX12_theyBreak_4, FT_X12_43, dX12_theyBreak_7, dX12_theyBreak_8, FT_X12_221, dX12_theyBreak_11, dX12_theyBreak_12, xX12_theyBreak_t12, dX12_theyBreak_15, dX12_theyBreak_16, dX12_theyBreak_17, dX12_theyBreak_18, dX12_theyBreak_19, dX12_theyBreak_20, xX12_theyBreak_t20, dX12_theyBreak_23, xX12_theyBreak_t23, dX12_theyBreak_26, dX12_theyBreak_27, FT_X12_104, dX12_theyBreak_30, dX12_theyBreak_32, dX12_theyBreak_33, dX12_theyBreak_34, dX12_theyBreak_35, dX12_theyBreak_36, dX12_theyBreak_37, dX12_theyBreak_40, dX12_theyBreak_42, dX12_theyBreak_43, dX12_theyBreak_44, dX12_theyBreak_45, dX12_theyBreak_46, dX12_theyBreak_47, dX12_theyBreak_48, dX12_theyBreak_49, dX12_theyBreak_52, xX12_theyBreak_t52, dX12_theyBreak_55, dX12_theyBreak_56, dX12_theyBreak_57, dX12_theyBreak_58, dX12_theyBreak_59, FT_X12_46, dX12_theyBreak_62, dX12_theyBreak_63, dX12_theyBreak_66, dX12_theyBreak_67, xX12_theyBreak_t67, dX12_theyBreak_70, dX12_theyBreak_71, dX12_theyBreak_72, dX12_theyBreak_75, dX12_theyBreak_76, dX12_theyBreak_77, dX12_theyBreak_78, dX12_theyBreak_79, dX12_theyBreak_80, dX12_theyBreak_81, xX12_theyBreak_t81, dX12_theyBreak_84, dX12_theyBreak_85, dX12_theyBreak_86, xX12_theyBreak_c362, xX12_theyBreak_n362, dX12_theyBreak_89, dX12_theyBreak_92, xX12_theyBreak_t92, dX12_theyBreak_95, xX12_theyBreak_SH, xX12_theyBreak_KF, xX12_theyBreak_rt, xX12_theyBreak_FT, xX12_theyBreak_PT, xX12_theyBreak_CT, xX12_theyBreak_KT, xX12_theyBreak_LT, xX12_theyBreak_NT, o_aload_n, o_bipush, o_dup2, o_getfield, o_goto, o_iadd, o_iaload, o_iand, o_iastore, o_iconst, o_ifCond_ne, o_if_icmp_ge, o_if_icmp_ne, o_iinc, o_iload_n, o_invokevirtual, o_ishr, o_istore_n, o_return_, SH_51, KF_51_23, SH_61, KF_51_46, SH_80, KF_51_22, SH_60, KF_51_18, am_vc, am_opt, am_cl, am_find, am_ldi, am_ldl, am_lda, am_v, am_1, am_1l, am_1a, am_2, am_2l, am_ix, am_ri, am_arr, am_pf, am_rc, am_mask, am_lg, am_av, am_nat, fv_0, fv_1, fv_2, fv_3, fw_0, fw_1, List.getElem?_cons_zero, List.getElem?_cons_succ, List.set_cons_zero, List.set_cons_succ, List.length_cons, List.length_nil, List.take_succ_cons, List.take_zero, List.drop_succ_cons, List.drop_zero, List.reverse_cons, List.reverse_nil, List.nil_append, List.cons_append, List.append_nil, List.map_cons, List.map_nil, List.sum_cons, List.sum_nil, Value.category, Option.toList_some, Option.toList_none, Nat.reduceAdd, Nat.reduceLT, Nat.reduceLeDiff, Nat.reduceEqDiff, Nat.reduceSub, Nat.add_zero, Nat.le_refl, Nat.zero_le, Int.reduceNeg, Int.reduceLE, Int.reduceLT, true_and, and_true, and_self, if_true, if_false, ite_true, ite_false, eq_self_iff_true, reduceIte, reduceCtorEq, not_false_eq_true, not_true_eq_false, or_true, true_or, or_false, false_or, Nat.lt_irrefl, Nat.zero_lt_succ]
  exact tb_loop hA hF h 0 (by omega)
theorem mX12_theyBreak (l : Launch) : am_M l TB NB vwCl SH KF yX12_theyBreak cX12_theyBreak 3 none 6 0 0 sX12_theyBreak := by
  refine am_M.of xX12_theyBreak (by decide +kernel) TB_good GF rfl rfl rfl (by decide) ⟨FT_X12_ok, PT_X12_ok _, CT_X12_ok, KT_X12_ok, LT_X12_ok, NT_X12_ok, ?_⟩ pX12_theyBreak
  exact List.forall_mem_cons.mpr ⟨⟨yX12_falls, cX12_falls, 3, none, 5, 1, mX12_falls l, by decide, by decide, tb_at 1779 (by decide +kernel) (by decide +kernel), tb_at 124 (by decide +kernel) (by decide +kernel), ⟨by decide +kernel, by decide +kernel, by decide +kernel⟩, rfl, tb_at 1776 (by decide +kernel) (by decide +kernel), tb_at 1778 (by decide +kernel) (by decide +kernel), ⟨(RX12, TX12, 63), rfl, tb_at 91 (by decide +kernel) (by decide +kernel)⟩⟩, fun _ h => absurd h List.not_mem_nil⟩

-- a minute, n minutes
theorem FM_tick {mn : Int} {σ : am_S} (hF : FM mn σ) : FM (mn + 1) (am_pi σ 80 49 (Int32.ofInt (mn + 1))) := by
  obtain ⟨a1, b1, c1, d1, e1, f1⟩ := hF
  refine ⟨?_, ?_, ?_, ?_, ?_, ?_⟩
  · simpa [am_pi] using a1
  · simpa [am_pi] using b1
  · simpa [am_pi] using c1
  · simpa [am_pi] using d1
  · intro k hk
    by_cases q : k = 49
    · subst q; rw [pi_s, if_pos rfl]
    · rw [pi_n _ _ _ _ (fun z => q z.2), e1 k hk, if_neg q, if_neg q]
  · simpa [am_pi] using f1
def sX12_minuteGoes : am_Sp := fun as n σ post => ∃ (mn : Int), n = 92 ∧ as = [.ref 51] ∧ (0 ≤ mn ∧ mn < 1000000) ∧ FM mn σ ∧ ∀ τ, FM (mn + 1) τ → post none τ
def xX12_minuteGoes : am_X := (SH, KF, none, FT_X12, PT_X12, CT_X12, KT_X12, LT_X12, NT_X12, [(365, 0, 2, 12, 0, 0, sX12_personGoes), (368, 0, 1, 12, 0, 0, sX12_breakingBits), (372, 0, 2, 12, 0, 0, sX12_theyBreak)])
theorem xX12_minuteGoes_SH : am_SH xX12_minuteGoes = SH := rfl
theorem xX12_minuteGoes_KF : am_KF xX12_minuteGoes = KF := rfl
theorem xX12_minuteGoes_rt : am_rt xX12_minuteGoes = none := rfl
theorem xX12_minuteGoes_FT : am_FT xX12_minuteGoes = FT_X12 := rfl
theorem xX12_minuteGoes_PT : am_PT xX12_minuteGoes = PT_X12 := rfl
theorem xX12_minuteGoes_CT : am_CT xX12_minuteGoes = CT_X12 := rfl
theorem xX12_minuteGoes_KT : am_KT xX12_minuteGoes = KT_X12 := rfl
theorem xX12_minuteGoes_LT : am_LT xX12_minuteGoes = LT_X12 := rfl
theorem xX12_minuteGoes_NT : am_NT xX12_minuteGoes = NT_X12 := rfl
theorem xX12_minuteGoes_c365 : am_find (am_ML xX12_minuteGoes) 365 = some (0, 2, 12, 0, 0, sX12_personGoes) := rfl
theorem xX12_minuteGoes_n365 : am_find NT_X12 365 = none := rfl
theorem xX12_minuteGoes_c368 : am_find (am_ML xX12_minuteGoes) 368 = some (0, 1, 12, 0, 0, sX12_breakingBits) := rfl
theorem xX12_minuteGoes_n368 : am_find NT_X12 368 = none := rfl
theorem xX12_minuteGoes_c372 : am_find (am_ML xX12_minuteGoes) 372 = some (0, 2, 12, 0, 0, sX12_theyBreak) := rfl
theorem xX12_minuteGoes_n372 : am_find NT_X12 372 = none := rfl
theorem xX12_minuteGoes_t12 (k : Nat → Prop) : am_tg 12 (14) k = k 26 := am_tg_eq (by decide)
theorem xX12_minuteGoes_t23 (k : Nat → Prop) : am_tg 23 (-21) k = k 2 := am_tg_eq (by decide)
theorem xX12_minuteGoes_t30 (k : Nat → Prop) : am_tg 30 (11) k = k 41 := am_tg_eq (by decide)

set_option maxRecDepth 100000 in
theorem pX12_minuteGoes : am_B cX12_minuteGoes xX12_minuteGoes 2 0 sX12_minuteGoes := by
  intro n0 as σ post AA hA h
  obtain ⟨mn, rfl, rfl, hmn, hF, h⟩ := h
  refine ⟨by simp [am_sl, Value.category], ?_⟩
  show AA 0 [some (.ref 51), none] [] 92 σ
  obtain ⟨e1, e2, e3, e4⟩ := FM_e hF
  have e5 := FM_min hF
  refine hA [(2, 2)] 20 _ _ _ _ _ ?_
  try simp only [dX12_minuteGoes_0, dX12_minuteGoes_1, dX12_minuteGoes_2, dX12_minuteGoes_3, dX12_minuteGoes_4, FT_X12_46, dX12_minuteGoes_7, dX12_minuteGoes_8, FT_X12_221, dX12_minuteGoes_11, dX12_minuteGoes_12, xX12_minuteGoes_t12, dX12_minuteGoes_15, dX12_minuteGoes_16, dX12_minuteGoes_17, xX12_minuteGoes_c365, xX12_minuteGoes_n365, dX12_minuteGoes_20, dX12_minuteGoes_23, xX12_minuteGoes_t23, dX12_minuteGoes_26, dX12_minuteGoes_27, FT_X12_299, dX12_minuteGoes_30, xX12_minuteGoes_t30, dX12_minuteGoes_33, dX12_minuteGoes_34, dX12_minuteGoes_35, xX12_minuteGoes_c368, xX12_minuteGoes_n368, dX12_minuteGoes_38, xX12_minuteGoes_c372, xX12_minuteGoes_n372, dX12_minuteGoes_41, dX12_minuteGoes_42, FT_X12_104, dX12_minuteGoes_45, dX12_minuteGoes_47, dX12_minuteGoes_48, dX12_minuteGoes_49, dX12_minuteGoes_50, dX12_minuteGoes_51, dX12_minuteGoes_52, xX12_minuteGoes_SH, xX12_minuteGoes_KF, xX12_minuteGoes_rt, xX12_minuteGoes_FT, xX12_minuteGoes_PT, xX12_minuteGoes_CT, xX12_minuteGoes_KT, xX12_minuteGoes_LT, xX12_minuteGoes_NT, o_aload_n, o_bipush, o_dup2, o_getfield, o_goto, o_iadd, o_iaload, o_iastore, o_iconst, o_ifCond_ne, o_if_icmp_ge, o_iinc, o_iload_n, o_invokevirtual, o_istore_n, o_return_, SH_51, KF_51_46, SH_80, KF_51_23, SH_61, KF_51_48, KF_51_18, am_vc, am_opt, am_cl, am_find, am_ldi, am_ldl, am_lda, am_v, am_1, am_1l, am_1a, am_2, am_2l, am_ix, am_ri, am_arr, am_pf, am_rc, am_mask, am_lg, am_av, am_nat, fv_0, fv_1, fv_2, fv_3, fw_0, fw_1, List.getElem?_cons_zero, List.getElem?_cons_succ, List.set_cons_zero, List.set_cons_succ, List.length_cons, List.length_nil, List.take_succ_cons, List.take_zero, List.drop_succ_cons, List.drop_zero, List.reverse_cons, List.reverse_nil, List.nil_append, List.cons_append, List.append_nil, List.map_cons, List.map_nil, List.sum_cons, List.sum_nil, Value.category, Option.toList_some, Option.toList_none, Nat.reduceAdd, Nat.reduceLT, Nat.reduceLeDiff, Nat.reduceEqDiff, Nat.reduceSub, Nat.add_zero, Nat.le_refl, Nat.zero_le, Int.reduceNeg, Int.reduceLE, Int.reduceLT, true_and, and_true, and_self, if_true, if_false, ite_true, ite_false, eq_self_iff_true, reduceIte, reduceCtorEq, not_false_eq_true, not_true_eq_false, or_true, true_or, or_false, false_or, Nat.lt_irrefl, Nat.zero_lt_succ]
  refine hA [(2, 2)] 60 _ _ _ _ _ ?_
  try simp only [dX12_minuteGoes_0, dX12_minuteGoes_1, dX12_minuteGoes_2, dX12_minuteGoes_3, dX12_minuteGoes_4, FT_X12_46, dX12_minuteGoes_7, dX12_minuteGoes_8, FT_X12_221, dX12_minuteGoes_11, dX12_minuteGoes_12, xX12_minuteGoes_t12, dX12_minuteGoes_15, dX12_minuteGoes_16, dX12_minuteGoes_17, xX12_minuteGoes_c365, xX12_minuteGoes_n365, dX12_minuteGoes_20, dX12_minuteGoes_23, xX12_minuteGoes_t23, dX12_minuteGoes_26, dX12_minuteGoes_27, FT_X12_299, dX12_minuteGoes_30, xX12_minuteGoes_t30, dX12_minuteGoes_33, dX12_minuteGoes_34, dX12_minuteGoes_35, xX12_minuteGoes_c368, xX12_minuteGoes_n368, dX12_minuteGoes_38, xX12_minuteGoes_c372, xX12_minuteGoes_n372, dX12_minuteGoes_41, dX12_minuteGoes_42, FT_X12_104, dX12_minuteGoes_45, dX12_minuteGoes_47, dX12_minuteGoes_48, dX12_minuteGoes_49, dX12_minuteGoes_50, dX12_minuteGoes_51, dX12_minuteGoes_52, xX12_minuteGoes_SH, xX12_minuteGoes_KF, xX12_minuteGoes_rt, xX12_minuteGoes_FT, xX12_minuteGoes_PT, xX12_minuteGoes_CT, xX12_minuteGoes_KT, xX12_minuteGoes_LT, xX12_minuteGoes_NT, o_aload_n, o_bipush, o_dup2, o_getfield, o_goto, o_iadd, o_iaload, o_iastore, o_iconst, o_ifCond_ne, o_if_icmp_ge, o_iinc, o_iload_n, o_invokevirtual, o_istore_n, o_return_, SH_51, KF_51_46, SH_80, KF_51_23, SH_61, KF_51_48, KF_51_18, am_vc, am_opt, am_cl, am_find, am_ldi, am_ldl, am_lda, am_v, am_1, am_1l, am_1a, am_2, am_2l, am_ix, am_ri, am_arr, am_pf, am_rc, am_mask, am_lg, am_av, am_nat, fv_0, fv_1, fv_2, fv_3, fw_0, fw_1, List.getElem?_cons_zero, List.getElem?_cons_succ, List.set_cons_zero, List.set_cons_succ, List.length_cons, List.length_nil, List.take_succ_cons, List.take_zero, List.drop_succ_cons, List.drop_zero, List.reverse_cons, List.reverse_nil, List.nil_append, List.cons_append, List.append_nil, List.map_cons, List.map_nil, List.sum_cons, List.sum_nil, Value.category, Option.toList_some, Option.toList_none, Nat.reduceAdd, Nat.reduceLT, Nat.reduceLeDiff, Nat.reduceEqDiff, Nat.reduceSub, Nat.add_zero, Nat.le_refl, Nat.zero_le, Int.reduceNeg, Int.reduceLE, Int.reduceLT, true_and, and_true, and_self, if_true, if_false, ite_true, ite_false, eq_self_iff_true, reduceIte, reduceCtorEq, not_false_eq_true, not_true_eq_false, or_true, true_or, or_false, false_or, Nat.lt_irrefl, Nat.zero_lt_succ, e1]
  try simp (disch := omega) only [ii_0, ii_1, ii_add, ii_sub, ii_mul, ii_lt, ii_le, ii_eq, ij_in, ii_c, Int.toNat_natCast, Int.toNat_zero, Int.reduceToNat, Int.reduceEq, Int.reduceNe, Int.reduceLE, Int.reduceLT, Int.reduceAdd, Int.reduceSub, Int.reduceMul, Int.reduceNeg, Nat.reduceLT, Nat.reduceAdd, Nat.reduceMul, not_false_eq_true, not_true_eq_false, true_and, and_true, and_self, false_and, and_false, true_implies, false_implies, implies_true, forall_const, if_true, if_false, ite_true, ite_false, reduceIte, eq_self_iff_true, Int.natCast_nonneg, Int.zero_add, Int.add_zero, pi_s, pi_n, e3, e5]
  refine ⟨fun _ => h _ (FM_tick hF), fun _ => ?_⟩
  refine ⟨mn, rfl, rfl, hF, fun τ hT => ?_⟩
  try simp only [dX12_minuteGoes_0, dX12_minuteGoes_1, dX12_minuteGoes_2, dX12_minuteGoes_3, dX12_minuteGoes_4, FT_X12_46, dX12_minuteGoes_7, dX12_minuteGoes_8, FT_X12_221, dX12_minuteGoes_11, dX12_minuteGoes_12, xX12_minuteGoes_t12, dX12_minuteGoes_15, dX12_minuteGoes_16, dX12_minuteGoes_17, xX12_minuteGoes_c365, xX12_minuteGoes_n365, dX12_minuteGoes_20, dX12_minuteGoes_23, xX12_minuteGoes_t23, dX12_minuteGoes_26, dX12_minuteGoes_27, FT_X12_299, dX12_minuteGoes_30, xX12_minuteGoes_t30, dX12_minuteGoes_33, dX12_minuteGoes_34, dX12_minuteGoes_35, xX12_minuteGoes_c368, xX12_minuteGoes_n368, dX12_minuteGoes_38, xX12_minuteGoes_c372, xX12_minuteGoes_n372, dX12_minuteGoes_41, dX12_minuteGoes_42, FT_X12_104, dX12_minuteGoes_45, dX12_minuteGoes_47, dX12_minuteGoes_48, dX12_minuteGoes_49, dX12_minuteGoes_50, dX12_minuteGoes_51, dX12_minuteGoes_52, xX12_minuteGoes_SH, xX12_minuteGoes_KF, xX12_minuteGoes_rt, xX12_minuteGoes_FT, xX12_minuteGoes_PT, xX12_minuteGoes_CT, xX12_minuteGoes_KT, xX12_minuteGoes_LT, xX12_minuteGoes_NT, o_aload_n, o_bipush, o_dup2, o_getfield, o_goto, o_iadd, o_iaload, o_iastore, o_iconst, o_ifCond_ne, o_if_icmp_ge, o_iinc, o_iload_n, o_invokevirtual, o_istore_n, o_return_, SH_51, KF_51_46, SH_80, KF_51_23, SH_61, KF_51_48, KF_51_18, am_vc, am_opt, am_cl, am_find, am_ldi, am_ldl, am_lda, am_v, am_1, am_1l, am_1a, am_2, am_2l, am_ix, am_ri, am_arr, am_pf, am_rc, am_mask, am_lg, am_av, am_nat, fv_0, fv_1, fv_2, fv_3, fw_0, fw_1, List.getElem?_cons_zero, List.getElem?_cons_succ, List.set_cons_zero, List.set_cons_succ, List.length_cons, List.length_nil, List.take_succ_cons, List.take_zero, List.drop_succ_cons, List.drop_zero, List.reverse_cons, List.reverse_nil, List.nil_append, List.cons_append, List.append_nil, List.map_cons, List.map_nil, List.sum_cons, List.sum_nil, Value.category, Option.toList_some, Option.toList_none, Nat.reduceAdd, Nat.reduceLT, Nat.reduceLeDiff, Nat.reduceEqDiff, Nat.reduceSub, Nat.add_zero, Nat.le_refl, Nat.zero_le, Int.reduceNeg, Int.reduceLE, Int.reduceLT, true_and, and_true, and_self, if_true, if_false, ite_true, ite_false, eq_self_iff_true, reduceIte, reduceCtorEq, not_false_eq_true, not_true_eq_false, or_true, true_or, or_false, false_or, Nat.lt_irrefl, Nat.zero_lt_succ]
  refine ⟨mn, rfl, rfl, hT, ?_⟩
  have e6 := FM_min hT
  try simp only [dX12_minuteGoes_0, dX12_minuteGoes_1, dX12_minuteGoes_2, dX12_minuteGoes_3, dX12_minuteGoes_4, FT_X12_46, dX12_minuteGoes_7, dX12_minuteGoes_8, FT_X12_221, dX12_minuteGoes_11, dX12_minuteGoes_12, xX12_minuteGoes_t12, dX12_minuteGoes_15, dX12_minuteGoes_16, dX12_minuteGoes_17, xX12_minuteGoes_c365, xX12_minuteGoes_n365, dX12_minuteGoes_20, dX12_minuteGoes_23, xX12_minuteGoes_t23, dX12_minuteGoes_26, dX12_minuteGoes_27, FT_X12_299, dX12_minuteGoes_30, xX12_minuteGoes_t30, dX12_minuteGoes_33, dX12_minuteGoes_34, dX12_minuteGoes_35, xX12_minuteGoes_c368, xX12_minuteGoes_n368, dX12_minuteGoes_38, xX12_minuteGoes_c372, xX12_minuteGoes_n372, dX12_minuteGoes_41, dX12_minuteGoes_42, FT_X12_104, dX12_minuteGoes_45, dX12_minuteGoes_47, dX12_minuteGoes_48, dX12_minuteGoes_49, dX12_minuteGoes_50, dX12_minuteGoes_51, dX12_minuteGoes_52, xX12_minuteGoes_SH, xX12_minuteGoes_KF, xX12_minuteGoes_rt, xX12_minuteGoes_FT, xX12_minuteGoes_PT, xX12_minuteGoes_CT, xX12_minuteGoes_KT, xX12_minuteGoes_LT, xX12_minuteGoes_NT, o_aload_n, o_bipush, o_dup2, o_getfield, o_goto, o_iadd, o_iaload, o_iastore, o_iconst, o_ifCond_ne, o_if_icmp_ge, o_iinc, o_iload_n, o_invokevirtual, o_istore_n, o_return_, SH_51, KF_51_46, SH_80, KF_51_23, SH_61, KF_51_48, KF_51_18, am_vc, am_opt, am_cl, am_find, am_ldi, am_ldl, am_lda, am_v, am_1, am_1l, am_1a, am_2, am_2l, am_ix, am_ri, am_arr, am_pf, am_rc, am_mask, am_lg, am_av, am_nat, fv_0, fv_1, fv_2, fv_3, fw_0, fw_1, List.getElem?_cons_zero, List.getElem?_cons_succ, List.set_cons_zero, List.set_cons_succ, List.length_cons, List.length_nil, List.take_succ_cons, List.take_zero, List.drop_succ_cons, List.drop_zero, List.reverse_cons, List.reverse_nil, List.nil_append, List.cons_append, List.append_nil, List.map_cons, List.map_nil, List.sum_cons, List.sum_nil, Value.category, Option.toList_some, Option.toList_none, Nat.reduceAdd, Nat.reduceLT, Nat.reduceLeDiff, Nat.reduceEqDiff, Nat.reduceSub, Nat.add_zero, Nat.le_refl, Nat.zero_le, Int.reduceNeg, Int.reduceLE, Int.reduceLT, true_and, and_true, and_self, if_true, if_false, ite_true, ite_false, eq_self_iff_true, reduceIte, reduceCtorEq, not_false_eq_true, not_true_eq_false, or_true, true_or, or_false, false_or, Nat.lt_irrefl, Nat.zero_lt_succ]
  try simp (disch := omega) only [ii_0, ii_1, ii_add, ii_sub, ii_mul, ii_lt, ii_le, ii_eq, ij_in, ii_c, Int.toNat_natCast, Int.toNat_zero, Int.reduceToNat, Int.reduceEq, Int.reduceNe, Int.reduceLE, Int.reduceLT, Int.reduceAdd, Int.reduceSub, Int.reduceMul, Int.reduceNeg, Nat.reduceLT, Nat.reduceAdd, Nat.reduceMul, not_false_eq_true, not_true_eq_false, true_and, and_true, and_self, false_and, and_false, true_implies, false_implies, implies_true, forall_const, if_true, if_false, ite_true, ite_false, reduceIte, eq_self_iff_true, Int.natCast_nonneg, Int.zero_add, Int.add_zero, pi_s, pi_n, e6]
  exact h _ (FM_tick hT)
theorem mX12_minuteGoes (l : Launch) : am_M l TB NB vwCl SH KF yX12_minuteGoes cX12_minuteGoes 2 none 8 0 0 sX12_minuteGoes := by
  refine am_M.of xX12_minuteGoes (by decide +kernel) TB_good GF rfl rfl rfl (by decide) ⟨FT_X12_ok, PT_X12_ok _, CT_X12_ok, KT_X12_ok, LT_X12_ok, NT_X12_ok, ?_⟩ pX12_minuteGoes
  exact List.forall_mem_cons.mpr ⟨⟨yX12_personGoes, cX12_personGoes, 3, none, 7, 1, mX12_personGoes l, by decide, by decide, tb_at 1751 (by decide +kernel) (by decide +kernel), tb_at 124 (by decide +kernel) (by decide +kernel), ⟨by decide +kernel, by decide +kernel, by decide +kernel⟩, rfl, tb_at 1748 (by decide +kernel) (by decide +kernel), tb_at 1750 (by decide +kernel) (by decide +kernel), ⟨(RX12, TX12, 63), rfl, tb_at 86 (by decide +kernel) (by decide +kernel)⟩⟩, List.forall_mem_cons.mpr ⟨⟨yX12_breakingBits, cX12_breakingBits, 3, (some .int), 6, 0, mX12_breakingBits l, by decide, by decide, tb_at 1763 (by decide +kernel) (by decide +kernel), tb_at 124 (by decide +kernel) (by decide +kernel), ⟨by decide +kernel, by decide +kernel, by decide +kernel⟩, rfl, tb_at 1760 (by decide +kernel) (by decide +kernel), tb_at 1762 (by decide +kernel) (by decide +kernel), ⟨(RX12, TX12, 63), rfl, tb_at 88 (by decide +kernel) (by decide +kernel)⟩⟩, List.forall_mem_cons.mpr ⟨⟨yX12_theyBreak, cX12_theyBreak, 3, none, 6, 1, mX12_theyBreak l, by decide, by decide, tb_at 1775 (by decide +kernel) (by decide +kernel), tb_at 124 (by decide +kernel) (by decide +kernel), ⟨by decide +kernel, by decide +kernel, by decide +kernel⟩, rfl, tb_at 1772 (by decide +kernel) (by decide +kernel), tb_at 1774 (by decide +kernel) (by decide +kernel), ⟨(RX12, TX12, 63), rfl, tb_at 90 (by decide +kernel) (by decide +kernel)⟩⟩, fun _ h => absurd h List.not_mem_nil⟩⟩⟩

def sX12_goes : am_Sp := fun as n σ post => ∃ (m : Nat), n = 92 ∧ as = [.ref 51, .int (Int32.ofInt (m : Int))] ∧ m < 1000 ∧ FM 0 σ ∧ ∀ τ, FM (m : Int) τ → post none τ
def xX12_goes : am_X := (SH, KF, none, FT_X12, PT_X12, CT_X12, KT_X12, LT_X12, NT_X12, [(375, 0, 1, 12, 0, 0, sX12_minuteGoes)])
theorem xX12_goes_SH : am_SH xX12_goes = SH := rfl
theorem xX12_goes_KF : am_KF xX12_goes = KF := rfl
theorem xX12_goes_rt : am_rt xX12_goes = none := rfl
theorem xX12_goes_FT : am_FT xX12_goes = FT_X12 := rfl
theorem xX12_goes_PT : am_PT xX12_goes = PT_X12 := rfl
theorem xX12_goes_CT : am_CT xX12_goes = CT_X12 := rfl
theorem xX12_goes_KT : am_KT xX12_goes = KT_X12 := rfl
theorem xX12_goes_LT : am_LT xX12_goes = LT_X12 := rfl
theorem xX12_goes_NT : am_NT xX12_goes = NT_X12 := rfl
theorem xX12_goes_c375 : am_find (am_ML xX12_goes) 375 = some (0, 1, 12, 0, 0, sX12_minuteGoes) := rfl
theorem xX12_goes_n375 : am_find NT_X12 375 = none := rfl
theorem xX12_goes_t4 (k : Nat → Prop) : am_tg 4 (13) k = k 17 := am_tg_eq (by decide)
theorem xX12_goes_t14 (k : Nat → Prop) : am_tg 14 (-12) k = k 2 := am_tg_eq (by decide)

set_option maxRecDepth 100000 in
theorem goes_loop {post : Option Value → am_S → Prop} {AA : Nat → List (Option Value) → List Value → Nat → am_S → Prop} (hA : ∀ cuts f pc ls stk n τ, am_vc cX12_goes xX12_goes (92 + 0) post AA cuts f pc ls stk n τ → AA pc ls stk n τ) {m : Nat} (hm : m < 1000) (h : ∀ τ, FM (m : Int) τ → post none τ) : ∀ k : Nat, k ≤ m → ∀ σ, FM (k : Int) σ → AA 2 [some (.ref 51), some (.int (Int32.ofInt (m : Int))), some (.int (Int32.ofInt (k : Int)))] [] 92 σ := by
  refine am_up m fun k hk ih σ hF => ?_
  refine hA [(2, 3)] 60 _ _ _ _ _ ?_
  try simp only [dX12_goes_0, dX12_goes_1, dX12_goes_2, dX12_goes_3, dX12_goes_4, xX12_goes_t4, dX12_goes_7, dX12_goes_8, xX12_goes_c375, xX12_goes_n375, dX12_goes_11, dX12_goes_14, xX12_goes_t14, dX12_goes_17, xX12_goes_SH, xX12_goes_KF, xX12_goes_rt, xX12_goes_FT, xX12_goes_PT, xX12_goes_CT, xX12_goes_KT, xX12_goes_LT, xX12_goes_NT, o_aload_n, o_goto, o_iconst, o_if_icmp_ge, o_iinc, o_iload_n, o_invokevirtual, o_istore_n, o_return_, SH_51, am_vc, am_opt, am_cl, am_find, am_ldi, am_ldl, am_lda, am_v, am_1, am_1l, am_1a, am_2, am_2l, am_ix, am_ri, am_arr, am_pf, am_rc, am_mask, am_lg, am_av, am_nat, fv_0, fv_1, fv_2, fv_3, fw_0, fw_1, List.getElem?_cons_zero, List.getElem?_cons_succ, List.set_cons_zero, List.set_cons_succ, List.length_cons, List.length_nil, List.take_succ_cons, List.take_zero, List.drop_succ_cons, List.drop_zero, List.reverse_cons, List.reverse_nil, List.nil_append, List.cons_append, List.append_nil, List.map_cons, List.map_nil, List.sum_cons, List.sum_nil, Value.category, Option.toList_some, Option.toList_none, Nat.reduceAdd, Nat.reduceLT, Nat.reduceLeDiff, Nat.reduceEqDiff, Nat.reduceSub, Nat.add_zero, Nat.le_refl, Nat.zero_le, Int.reduceNeg, Int.reduceLE, Int.reduceLT, true_and, and_true, and_self, if_true, if_false, ite_true, ite_false, eq_self_iff_true, reduceIte, reduceCtorEq, not_false_eq_true, not_true_eq_false, or_true, true_or, or_false, false_or, Nat.lt_irrefl, Nat.zero_lt_succ]
  try simp (disch := omega) only [ii_0, ii_1, ii_add, ii_sub, ii_mul, ii_lt, ii_le, ii_eq, ij_in, ii_c, Int.toNat_natCast, Int.toNat_zero, Int.reduceToNat, Int.reduceEq, Int.reduceNe, Int.reduceLE, Int.reduceLT, Int.reduceAdd, Int.reduceSub, Int.reduceMul, Int.reduceNeg, Nat.reduceLT, Nat.reduceAdd, Nat.reduceMul, not_false_eq_true, not_true_eq_false, true_and, and_true, and_self, false_and, and_false, true_implies, false_implies, implies_true, forall_const, if_true, if_false, ite_true, ite_false, reduceIte, eq_self_iff_true, Int.natCast_nonneg, Int.zero_add, Int.add_zero, pi_s, pi_n]
  refine ⟨fun h1 => ?_, fun h1 => ?_⟩
  · have : k = m := by omega
    subst this
    exact h _ hF
  · refine ⟨(k : Int), rfl, rfl, ⟨by omega, by omega⟩, hF, fun τ hT => ?_⟩
    try simp only [dX12_goes_0, dX12_goes_1, dX12_goes_2, dX12_goes_3, dX12_goes_4, xX12_goes_t4, dX12_goes_7, dX12_goes_8, xX12_goes_c375, xX12_goes_n375, dX12_goes_11, dX12_goes_14, xX12_goes_t14, dX12_goes_17, xX12_goes_SH, xX12_goes_KF, xX12_goes_rt, xX12_goes_FT, xX12_goes_PT, xX12_goes_CT, xX12_goes_KT, xX12_goes_LT, xX12_goes_NT, o_aload_n, o_goto, o_iconst, o_if_icmp_ge, o_iinc, o_iload_n, o_invokevirtual, o_istore_n, o_return_, SH_51, am_vc, am_opt, am_cl, am_find, am_ldi, am_ldl, am_lda, am_v, am_1, am_1l, am_1a, am_2, am_2l, am_ix, am_ri, am_arr, am_pf, am_rc, am_mask, am_lg, am_av, am_nat, fv_0, fv_1, fv_2, fv_3, fw_0, fw_1, List.getElem?_cons_zero, List.getElem?_cons_succ, List.set_cons_zero, List.set_cons_succ, List.length_cons, List.length_nil, List.take_succ_cons, List.take_zero, List.drop_succ_cons, List.drop_zero, List.reverse_cons, List.reverse_nil, List.nil_append, List.cons_append, List.append_nil, List.map_cons, List.map_nil, List.sum_cons, List.sum_nil, Value.category, Option.toList_some, Option.toList_none, Nat.reduceAdd, Nat.reduceLT, Nat.reduceLeDiff, Nat.reduceEqDiff, Nat.reduceSub, Nat.add_zero, Nat.le_refl, Nat.zero_le, Int.reduceNeg, Int.reduceLE, Int.reduceLT, true_and, and_true, and_self, if_true, if_false, ite_true, ite_false, eq_self_iff_true, reduceIte, reduceCtorEq, not_false_eq_true, not_true_eq_false, or_true, true_or, or_false, false_or, Nat.lt_irrefl, Nat.zero_lt_succ]
    try simp (disch := omega) only [ii_0, ii_1, ii_add, ii_sub, ii_mul, ii_lt, ii_le, ii_eq, ij_in, ii_c, Int.toNat_natCast, Int.toNat_zero, Int.reduceToNat, Int.reduceEq, Int.reduceNe, Int.reduceLE, Int.reduceLT, Int.reduceAdd, Int.reduceSub, Int.reduceMul, Int.reduceNeg, Nat.reduceLT, Nat.reduceAdd, Nat.reduceMul, not_false_eq_true, not_true_eq_false, true_and, and_true, and_self, false_and, and_false, true_implies, false_implies, implies_true, forall_const, if_true, if_false, ite_true, ite_false, reduceIte, eq_self_iff_true, Int.natCast_nonneg, Int.zero_add, Int.add_zero, pi_s, pi_n, ik_s]
    exact ih (by omega) _ hT
set_option maxRecDepth 100000 in
theorem pX12_goes : am_B cX12_goes xX12_goes 3 0 sX12_goes := by
  intro n0 as σ post AA hA h
  obtain ⟨m, rfl, rfl, hm, hF, h⟩ := h
  refine ⟨by simp [am_sl, Value.category], ?_⟩
  show AA 0 [some (.ref 51), some (.int (Int32.ofInt (m : Int))), none] [] 92 σ
  refine hA [(2, 3)] 20 _ _ _ _ _ ?_
  try simp only [dX12_goes_0, dX12_goes_1, dX12_goes_2, dX12_goes_3, dX12_goes_4, xX12_goes_t4, dX12_goes_7, dX12_goes_8, xX12_goes_c375, xX12_goes_n375, dX12_goes_11, dX12_goes_14, xX12_goes_t14, dX12_goes_17, xX12_goes_SH, xX12_goes_KF, xX12_goes_rt, xX12_goes_FT, xX12_goes_PT, xX12_goes_CT, xX12_goes_KT, xX12_goes_LT, xX12_goes_NT, o_aload_n, o_goto, o_iconst, o_if_icmp_ge, o_iinc, o_iload_n, o_invokevirtual, o_istore_n, o_return_, SH_51, am_vc, am_opt, am_cl, am_find, am_ldi, am_ldl, am_lda, am_v, am_1, am_1l, am_1a, am_2, am_2l, am_ix, am_ri, am_arr, am_pf, am_rc, am_mask, am_lg, am_av, am_nat, fv_0, fv_1, fv_2, fv_3, fw_0, fw_1, List.getElem?_cons_zero, List.getElem?_cons_succ, List.set_cons_zero, List.set_cons_succ, List.length_cons, List.length_nil, List.take_succ_cons, List.take_zero, List.drop_succ_cons, List.drop_zero, List.reverse_cons, List.reverse_nil, List.nil_append, List.cons_append, List.append_nil, List.map_cons, List.map_nil, List.sum_cons, List.sum_nil, Value.category, Option.toList_some, Option.toList_none, Nat.reduceAdd, Nat.reduceLT, Nat.reduceLeDiff, Nat.reduceEqDiff, Nat.reduceSub, Nat.add_zero, Nat.le_refl, Nat.zero_le, Int.reduceNeg, Int.reduceLE, Int.reduceLT, true_and, and_true, and_self, if_true, if_false, ite_true, ite_false, eq_self_iff_true, reduceIte, reduceCtorEq, not_false_eq_true, not_true_eq_false, or_true, true_or, or_false, false_or, Nat.lt_irrefl, Nat.zero_lt_succ]
  exact goes_loop hA hm h 0 (by omega) σ hF
theorem mX12_goes (l : Launch) : am_M l TB NB vwCl SH KF yX12_goes cX12_goes 3 none 9 0 0 sX12_goes := by
  refine am_M.of xX12_goes (by decide +kernel) TB_good GF rfl rfl rfl (by decide) ⟨FT_X12_ok, PT_X12_ok _, CT_X12_ok, KT_X12_ok, LT_X12_ok, NT_X12_ok, ?_⟩ pX12_goes
  exact List.forall_mem_cons.mpr ⟨⟨yX12_minuteGoes, cX12_minuteGoes, 2, none, 8, 0, mX12_minuteGoes l, by decide, by decide, tb_at 1747 (by decide +kernel) (by decide +kernel), tb_at 124 (by decide +kernel) (by decide +kernel), ⟨by decide +kernel, by decide +kernel, by decide +kernel⟩, rfl, tb_at 1744 (by decide +kernel) (by decide +kernel), tb_at 1746 (by decide +kernel) (by decide +kernel), ⟨(RX12, TX12, 63), rfl, tb_at 85 (by decide +kernel) (by decide +kernel)⟩⟩, fun _ h => absurd h List.not_mem_nil⟩

-- goalBits, errandsFrom
def sX12_goalBits : am_Sp := fun as n σ post => ∃ (mn : Int), n = 92 ∧ as = [.ref 51] ∧ FM mn σ ∧ post (some (.int (Int32.ofInt 0))) σ
def xX12_goalBits : am_X := (SH, KF, (some .int), FT_X12, PT_X12, CT_X12, KT_X12, LT_X12, NT_X12, [])
theorem xX12_goalBits_SH : am_SH xX12_goalBits = SH := rfl
theorem xX12_goalBits_KF : am_KF xX12_goalBits = KF := rfl
theorem xX12_goalBits_rt : am_rt xX12_goalBits = (some .int) := rfl
theorem xX12_goalBits_FT : am_FT xX12_goalBits = FT_X12 := rfl
theorem xX12_goalBits_PT : am_PT xX12_goalBits = PT_X12 := rfl
theorem xX12_goalBits_CT : am_CT xX12_goalBits = CT_X12 := rfl
theorem xX12_goalBits_KT : am_KT xX12_goalBits = KT_X12 := rfl
theorem xX12_goalBits_LT : am_LT xX12_goalBits = LT_X12 := rfl
theorem xX12_goalBits_NT : am_NT xX12_goalBits = NT_X12 := rfl
theorem xX12_goalBits_t14 (k : Nat → Prop) : am_tg 14 (26) k = k 40 := am_tg_eq (by decide)
theorem xX12_goalBits_t25 (k : Nat → Prop) : am_tg 25 (9) k = k 34 := am_tg_eq (by decide)
theorem xX12_goalBits_t37 (k : Nat → Prop) : am_tg 37 (-33) k = k 4 := am_tg_eq (by decide)

set_option maxRecDepth 100000 in
theorem pX12_goalBits : am_B cX12_goalBits xX12_goalBits 3 0 sX12_goalBits := by
  intro n0 as σ post AA hA h
  obtain ⟨mn, rfl, rfl, hF, h⟩ := h
  refine ⟨by simp [am_sl, Value.category], ?_⟩
  show AA 0 [some (.ref 51), none, none] [] 92 σ
  obtain ⟨e1, e2, e3, e4⟩ := FM_e hF
  refine hA [(4, 3)] 20 _ _ _ _ _ ?_
  try simp only [dX12_goalBits_0, dX12_goalBits_1, dX12_goalBits_2, dX12_goalBits_3, dX12_goalBits_4, dX12_goalBits_5, dX12_goalBits_6, FT_X12_46, dX12_goalBits_9, dX12_goalBits_10, FT_X12_221, dX12_goalBits_13, dX12_goalBits_14, xX12_goalBits_t14, dX12_goalBits_17, dX12_goalBits_18, FT_X12_104, dX12_goalBits_21, dX12_goalBits_22, dX12_goalBits_23, dX12_goalBits_24, dX12_goalBits_25, xX12_goalBits_t25, dX12_goalBits_28, dX12_goalBits_29, dX12_goalBits_30, dX12_goalBits_31, dX12_goalBits_32, dX12_goalBits_33, dX12_goalBits_34, dX12_goalBits_37, xX12_goalBits_t37, dX12_goalBits_40, dX12_goalBits_41, xX12_goalBits_SH, xX12_goalBits_KF, xX12_goalBits_rt, xX12_goalBits_FT, xX12_goalBits_PT, xX12_goalBits_CT, xX12_goalBits_KT, xX12_goalBits_LT, xX12_goalBits_NT, o_aload_n, o_getfield, o_goto, o_iadd, o_iaload, o_iconst, o_ifCond_lt, o_if_icmp_ge, o_iinc, o_iload_n, o_ior, o_ireturn, o_ishl, o_istore_n, SH_51, KF_51_46, SH_80, KF_51_23, SH_61, KF_51_18, am_vc, am_opt, am_cl, am_find, am_ldi, am_ldl, am_lda, am_v, am_1, am_1l, am_1a, am_2, am_2l, am_ix, am_ri, am_arr, am_pf, am_rc, am_mask, am_lg, am_av, am_nat, fv_0, fv_1, fv_2, fv_3, fw_0, fw_1, List.getElem?_cons_zero, List.getElem?_cons_succ, List.set_cons_zero, List.set_cons_succ, List.length_cons, List.length_nil, List.take_succ_cons, List.take_zero, List.drop_succ_cons, List.drop_zero, List.reverse_cons, List.reverse_nil, List.nil_append, List.cons_append, List.append_nil, List.map_cons, List.map_nil, List.sum_cons, List.sum_nil, Value.category, Option.toList_some, Option.toList_none, Nat.reduceAdd, Nat.reduceLT, Nat.reduceLeDiff, Nat.reduceEqDiff, Nat.reduceSub, Nat.add_zero, Nat.le_refl, Nat.zero_le, Int.reduceNeg, Int.reduceLE, Int.reduceLT, true_and, and_true, and_self, if_true, if_false, ite_true, ite_false, eq_self_iff_true, reduceIte, reduceCtorEq, not_false_eq_true, not_true_eq_false, or_true, true_or, or_false, false_or, Nat.lt_irrefl, Nat.zero_lt_succ]
  refine hA [(4, 3)] 60 _ _ _ _ _ ?_
  try simp only [dX12_goalBits_0, dX12_goalBits_1, dX12_goalBits_2, dX12_goalBits_3, dX12_goalBits_4, dX12_goalBits_5, dX12_goalBits_6, FT_X12_46, dX12_goalBits_9, dX12_goalBits_10, FT_X12_221, dX12_goalBits_13, dX12_goalBits_14, xX12_goalBits_t14, dX12_goalBits_17, dX12_goalBits_18, FT_X12_104, dX12_goalBits_21, dX12_goalBits_22, dX12_goalBits_23, dX12_goalBits_24, dX12_goalBits_25, xX12_goalBits_t25, dX12_goalBits_28, dX12_goalBits_29, dX12_goalBits_30, dX12_goalBits_31, dX12_goalBits_32, dX12_goalBits_33, dX12_goalBits_34, dX12_goalBits_37, xX12_goalBits_t37, dX12_goalBits_40, dX12_goalBits_41, xX12_goalBits_SH, xX12_goalBits_KF, xX12_goalBits_rt, xX12_goalBits_FT, xX12_goalBits_PT, xX12_goalBits_CT, xX12_goalBits_KT, xX12_goalBits_LT, xX12_goalBits_NT, o_aload_n, o_getfield, o_goto, o_iadd, o_iaload, o_iconst, o_ifCond_lt, o_if_icmp_ge, o_iinc, o_iload_n, o_ior, o_ireturn, o_ishl, o_istore_n, SH_51, KF_51_46, SH_80, KF_51_23, SH_61, KF_51_18, am_vc, am_opt, am_cl, am_find, am_ldi, am_ldl, am_lda, am_v, am_1, am_1l, am_1a, am_2, am_2l, am_ix, am_ri, am_arr, am_pf, am_rc, am_mask, am_lg, am_av, am_nat, fv_0, fv_1, fv_2, fv_3, fw_0, fw_1, List.getElem?_cons_zero, List.getElem?_cons_succ, List.set_cons_zero, List.set_cons_succ, List.length_cons, List.length_nil, List.take_succ_cons, List.take_zero, List.drop_succ_cons, List.drop_zero, List.reverse_cons, List.reverse_nil, List.nil_append, List.cons_append, List.append_nil, List.map_cons, List.map_nil, List.sum_cons, List.sum_nil, Value.category, Option.toList_some, Option.toList_none, Nat.reduceAdd, Nat.reduceLT, Nat.reduceLeDiff, Nat.reduceEqDiff, Nat.reduceSub, Nat.add_zero, Nat.le_refl, Nat.zero_le, Int.reduceNeg, Int.reduceLE, Int.reduceLT, true_and, and_true, and_self, if_true, if_false, ite_true, ite_false, eq_self_iff_true, reduceIte, reduceCtorEq, not_false_eq_true, not_true_eq_false, or_true, true_or, or_false, false_or, Nat.lt_irrefl, Nat.zero_lt_succ, e1]
  try simp (disch := omega) only [ii_0, ii_1, ii_add, ii_sub, ii_mul, ii_lt, ii_le, ii_eq, ij_in, ii_c, Int.toNat_natCast, Int.toNat_zero, Int.reduceToNat, Int.reduceEq, Int.reduceNe, Int.reduceLE, Int.reduceLT, Int.reduceAdd, Int.reduceSub, Int.reduceMul, Int.reduceNeg, Nat.reduceLT, Nat.reduceAdd, Nat.reduceMul, not_false_eq_true, not_true_eq_false, true_and, and_true, and_self, false_and, and_false, true_implies, false_implies, implies_true, forall_const, if_true, if_false, ite_true, ite_false, reduceIte, eq_self_iff_true, Int.natCast_nonneg, Int.zero_add, Int.add_zero, pi_s, pi_n, e3]
  exact h
theorem mX12_goalBits (l : Launch) : am_M l TB NB vwCl SH KF yX12_goalBits cX12_goalBits 3 (some .int) 2 0 0 sX12_goalBits := by
  refine am_M.of xX12_goalBits (by decide +kernel) TB_good GF rfl rfl rfl (by decide) ⟨FT_X12_ok, PT_X12_ok _, CT_X12_ok, KT_X12_ok, LT_X12_ok, NT_X12_ok, ?_⟩ pX12_goalBits
  exact fun _ h => absurd h List.not_mem_nil

def sX12_errandsFrom : am_Sp := fun as n σ post => ∃ (mn : Int), n = 92 ∧ as = [.ref 51] ∧ FM mn σ ∧ ∀ τ, FM mn τ → post (some (.int (Int32.ofInt 0))) τ
def xX12_errandsFrom : am_X := (SH, KF, (some .int), FT_X12, PT_X12, CT_X12, KT_X12, LT_X12, NT_X12, [(375, 0, 1, 12, 0, 0, sX12_minuteGoes), (408, 0, 1, 12, 0, 0, sX12_goalBits)])
theorem xX12_errandsFrom_SH : am_SH xX12_errandsFrom = SH := rfl
theorem xX12_errandsFrom_KF : am_KF xX12_errandsFrom = KF := rfl
theorem xX12_errandsFrom_rt : am_rt xX12_errandsFrom = (some .int) := rfl
theorem xX12_errandsFrom_FT : am_FT xX12_errandsFrom = FT_X12 := rfl
theorem xX12_errandsFrom_PT : am_PT xX12_errandsFrom = PT_X12 := rfl
theorem xX12_errandsFrom_CT : am_CT xX12_errandsFrom = CT_X12 := rfl
theorem xX12_errandsFrom_KT : am_KT xX12_errandsFrom = KT_X12 := rfl
theorem xX12_errandsFrom_LT : am_LT xX12_errandsFrom = LT_X12 := rfl
theorem xX12_errandsFrom_NT : am_NT xX12_errandsFrom = NT_X12 := rfl
theorem xX12_errandsFrom_c375 : am_find (am_ML xX12_errandsFrom) 375 = some (0, 1, 12, 0, 0, sX12_minuteGoes) := rfl
theorem xX12_errandsFrom_n375 : am_find NT_X12 375 = none := rfl
theorem xX12_errandsFrom_c408 : am_find (am_ML xX12_errandsFrom) 408 = some (0, 1, 12, 0, 0, sX12_goalBits) := rfl
theorem xX12_errandsFrom_n408 : am_find NT_X12 408 = none := rfl
theorem xX12_errandsFrom_t11 (k : Nat → Prop) : am_tg 11 (22) k = k 33 := am_tg_eq (by decide)
theorem xX12_errandsFrom_t18 (k : Nat → Prop) : am_tg 18 (5) k = k 23 := am_tg_eq (by decide)
theorem xX12_errandsFrom_t30 (k : Nat → Prop) : am_tg 30 (-23) k = k 7 := am_tg_eq (by decide)

set_option maxRecDepth 100000 in
theorem pX12_errandsFrom : am_B cX12_errandsFrom xX12_errandsFrom 2 0 sX12_errandsFrom := by
  intro n0 as σ post AA hA h
  obtain ⟨mn, rfl, rfl, hF, h⟩ := h
  refine ⟨by simp [am_sl, Value.category], ?_⟩
  show AA 0 [some (.ref 51), none] [] 92 σ
  refine hA [(7, 2)] 20 _ _ _ _ _ ?_
  try simp only [dX12_errandsFrom_0, dX12_errandsFrom_1, dX12_errandsFrom_2, PT_X12_299, dX12_errandsFrom_5, dX12_errandsFrom_6, dX12_errandsFrom_7, dX12_errandsFrom_8, dX12_errandsFrom_11, xX12_errandsFrom_t11, dX12_errandsFrom_14, dX12_errandsFrom_15, xX12_errandsFrom_c408, xX12_errandsFrom_n408, dX12_errandsFrom_18, xX12_errandsFrom_t18, dX12_errandsFrom_21, dX12_errandsFrom_22, dX12_errandsFrom_23, dX12_errandsFrom_24, xX12_errandsFrom_c375, xX12_errandsFrom_n375, dX12_errandsFrom_27, dX12_errandsFrom_30, xX12_errandsFrom_t30, dX12_errandsFrom_33, dX12_errandsFrom_36, xX12_errandsFrom_SH, xX12_errandsFrom_KF, xX12_errandsFrom_rt, xX12_errandsFrom_FT, xX12_errandsFrom_PT, xX12_errandsFrom_CT, xX12_errandsFrom_KT, xX12_errandsFrom_LT, xX12_errandsFrom_NT, o_aload_n, o_goto, o_iconst, o_ifCond_ne, o_if_icmp_gt, o_iinc, o_iload_n, o_invokevirtual, o_ireturn, o_istore_n, o_putfield, o_sipush, SH_51, KF_51_48, am_vc, am_opt, am_cl, am_find, am_ldi, am_ldl, am_lda, am_v, am_1, am_1l, am_1a, am_2, am_2l, am_ix, am_ri, am_arr, am_pf, am_rc, am_mask, am_lg, am_av, am_nat, fv_0, fv_1, fv_2, fv_3, fw_0, fw_1, List.getElem?_cons_zero, List.getElem?_cons_succ, List.set_cons_zero, List.set_cons_succ, List.length_cons, List.length_nil, List.take_succ_cons, List.take_zero, List.drop_succ_cons, List.drop_zero, List.reverse_cons, List.reverse_nil, List.nil_append, List.cons_append, List.append_nil, List.map_cons, List.map_nil, List.sum_cons, List.sum_nil, Value.category, Option.toList_some, Option.toList_none, Nat.reduceAdd, Nat.reduceLT, Nat.reduceLeDiff, Nat.reduceEqDiff, Nat.reduceSub, Nat.add_zero, Nat.le_refl, Nat.zero_le, Int.reduceNeg, Int.reduceLE, Int.reduceLT, true_and, and_true, and_self, if_true, if_false, ite_true, ite_false, eq_self_iff_true, reduceIte, reduceCtorEq, not_false_eq_true, not_true_eq_false, or_true, true_or, or_false, false_or, Nat.lt_irrefl, Nat.zero_lt_succ, nb_1]
  refine hA [(7, 2)] 60 _ _ _ _ _ ?_
  try simp only [dX12_errandsFrom_0, dX12_errandsFrom_1, dX12_errandsFrom_2, PT_X12_299, dX12_errandsFrom_5, dX12_errandsFrom_6, dX12_errandsFrom_7, dX12_errandsFrom_8, dX12_errandsFrom_11, xX12_errandsFrom_t11, dX12_errandsFrom_14, dX12_errandsFrom_15, xX12_errandsFrom_c408, xX12_errandsFrom_n408, dX12_errandsFrom_18, xX12_errandsFrom_t18, dX12_errandsFrom_21, dX12_errandsFrom_22, dX12_errandsFrom_23, dX12_errandsFrom_24, xX12_errandsFrom_c375, xX12_errandsFrom_n375, dX12_errandsFrom_27, dX12_errandsFrom_30, xX12_errandsFrom_t30, dX12_errandsFrom_33, dX12_errandsFrom_36, xX12_errandsFrom_SH, xX12_errandsFrom_KF, xX12_errandsFrom_rt, xX12_errandsFrom_FT, xX12_errandsFrom_PT, xX12_errandsFrom_CT, xX12_errandsFrom_KT, xX12_errandsFrom_LT, xX12_errandsFrom_NT, o_aload_n, o_goto, o_iconst, o_ifCond_ne, o_if_icmp_gt, o_iinc, o_iload_n, o_invokevirtual, o_ireturn, o_istore_n, o_putfield, o_sipush, SH_51, KF_51_48, am_vc, am_opt, am_cl, am_find, am_ldi, am_ldl, am_lda, am_v, am_1, am_1l, am_1a, am_2, am_2l, am_ix, am_ri, am_arr, am_pf, am_rc, am_mask, am_lg, am_av, am_nat, fv_0, fv_1, fv_2, fv_3, fw_0, fw_1, List.getElem?_cons_zero, List.getElem?_cons_succ, List.set_cons_zero, List.set_cons_succ, List.length_cons, List.length_nil, List.take_succ_cons, List.take_zero, List.drop_succ_cons, List.drop_zero, List.reverse_cons, List.reverse_nil, List.nil_append, List.cons_append, List.append_nil, List.map_cons, List.map_nil, List.sum_cons, List.sum_nil, Value.category, Option.toList_some, Option.toList_none, Nat.reduceAdd, Nat.reduceLT, Nat.reduceLeDiff, Nat.reduceEqDiff, Nat.reduceSub, Nat.add_zero, Nat.le_refl, Nat.zero_le, Int.reduceNeg, Int.reduceLE, Int.reduceLT, true_and, and_true, and_self, if_true, if_false, ite_true, ite_false, eq_self_iff_true, reduceIte, reduceCtorEq, not_false_eq_true, not_true_eq_false, or_true, true_or, or_false, false_or, Nat.lt_irrefl, Nat.zero_lt_succ]
  try simp (disch := omega) only [ii_0, ii_1, ii_add, ii_sub, ii_mul, ii_lt, ii_le, ii_eq, ij_in, ii_c, Int.toNat_natCast, Int.toNat_zero, Int.reduceToNat, Int.reduceEq, Int.reduceNe, Int.reduceLE, Int.reduceLT, Int.reduceAdd, Int.reduceSub, Int.reduceMul, Int.reduceNeg, Nat.reduceLT, Nat.reduceAdd, Nat.reduceMul, not_false_eq_true, not_true_eq_false, true_and, and_true, and_self, false_and, and_false, true_implies, false_implies, implies_true, forall_const, if_true, if_false, ite_true, ite_false, reduceIte, eq_self_iff_true, Int.natCast_nonneg, Int.zero_add, Int.add_zero, pi_s, pi_n]
  refine ⟨mn, rfl, rfl, FM_pi rfl hF, ?_⟩
  try simp only [dX12_errandsFrom_0, dX12_errandsFrom_1, dX12_errandsFrom_2, PT_X12_299, dX12_errandsFrom_5, dX12_errandsFrom_6, dX12_errandsFrom_7, dX12_errandsFrom_8, dX12_errandsFrom_11, xX12_errandsFrom_t11, dX12_errandsFrom_14, dX12_errandsFrom_15, xX12_errandsFrom_c408, xX12_errandsFrom_n408, dX12_errandsFrom_18, xX12_errandsFrom_t18, dX12_errandsFrom_21, dX12_errandsFrom_22, dX12_errandsFrom_23, dX12_errandsFrom_24, xX12_errandsFrom_c375, xX12_errandsFrom_n375, dX12_errandsFrom_27, dX12_errandsFrom_30, xX12_errandsFrom_t30, dX12_errandsFrom_33, dX12_errandsFrom_36, xX12_errandsFrom_SH, xX12_errandsFrom_KF, xX12_errandsFrom_rt, xX12_errandsFrom_FT, xX12_errandsFrom_PT, xX12_errandsFrom_CT, xX12_errandsFrom_KT, xX12_errandsFrom_LT, xX12_errandsFrom_NT, o_aload_n, o_goto, o_iconst, o_ifCond_ne, o_if_icmp_gt, o_iinc, o_iload_n, o_invokevirtual, o_ireturn, o_istore_n, o_putfield, o_sipush, SH_51, KF_51_48, am_vc, am_opt, am_cl, am_find, am_ldi, am_ldl, am_lda, am_v, am_1, am_1l, am_1a, am_2, am_2l, am_ix, am_ri, am_arr, am_pf, am_rc, am_mask, am_lg, am_av, am_nat, fv_0, fv_1, fv_2, fv_3, fw_0, fw_1, List.getElem?_cons_zero, List.getElem?_cons_succ, List.set_cons_zero, List.set_cons_succ, List.length_cons, List.length_nil, List.take_succ_cons, List.take_zero, List.drop_succ_cons, List.drop_zero, List.reverse_cons, List.reverse_nil, List.nil_append, List.cons_append, List.append_nil, List.map_cons, List.map_nil, List.sum_cons, List.sum_nil, Value.category, Option.toList_some, Option.toList_none, Nat.reduceAdd, Nat.reduceLT, Nat.reduceLeDiff, Nat.reduceEqDiff, Nat.reduceSub, Nat.add_zero, Nat.le_refl, Nat.zero_le, Int.reduceNeg, Int.reduceLE, Int.reduceLT, true_and, and_true, and_self, if_true, if_false, ite_true, ite_false, eq_self_iff_true, reduceIte, reduceCtorEq, not_false_eq_true, not_true_eq_false, or_true, true_or, or_false, false_or, Nat.lt_irrefl, Nat.zero_lt_succ]
  try simp (disch := omega) only [ii_0, ii_1, ii_add, ii_sub, ii_mul, ii_lt, ii_le, ii_eq, ij_in, ii_c, Int.toNat_natCast, Int.toNat_zero, Int.reduceToNat, Int.reduceEq, Int.reduceNe, Int.reduceLE, Int.reduceLT, Int.reduceAdd, Int.reduceSub, Int.reduceMul, Int.reduceNeg, Nat.reduceLT, Nat.reduceAdd, Nat.reduceMul, not_false_eq_true, not_true_eq_false, true_and, and_true, and_self, false_and, and_false, true_implies, false_implies, implies_true, forall_const, if_true, if_false, ite_true, ite_false, reduceIte, eq_self_iff_true, Int.natCast_nonneg, Int.zero_add, Int.add_zero, pi_s, pi_n]
  exact h _ (FM_pi rfl hF)
theorem mX12_errandsFrom (l : Launch) : am_M l TB NB vwCl SH KF yX12_errandsFrom cX12_errandsFrom 2 (some .int) 9 0 0 sX12_errandsFrom := by
  refine am_M.of xX12_errandsFrom (by decide +kernel) TB_good GF rfl rfl rfl (by decide) ⟨FT_X12_ok, PT_X12_ok _, CT_X12_ok, KT_X12_ok, LT_X12_ok, NT_X12_ok, ?_⟩ pX12_errandsFrom
  exact List.forall_mem_cons.mpr ⟨⟨yX12_minuteGoes, cX12_minuteGoes, 2, none, 8, 0, mX12_minuteGoes l, by decide, by decide, tb_at 1747 (by decide +kernel) (by decide +kernel), tb_at 124 (by decide +kernel) (by decide +kernel), ⟨by decide +kernel, by decide +kernel, by decide +kernel⟩, rfl, tb_at 1744 (by decide +kernel) (by decide +kernel), tb_at 1746 (by decide +kernel) (by decide +kernel), ⟨(RX12, TX12, 63), rfl, tb_at 85 (by decide +kernel) (by decide +kernel)⟩⟩, List.forall_mem_cons.mpr ⟨⟨yX12_goalBits, cX12_goalBits, 3, (some .int), 2, 0, mX12_goalBits l, by decide, by decide, tb_at 1803 (by decide +kernel) (by decide +kernel), tb_at 124 (by decide +kernel) (by decide +kernel), ⟨by decide +kernel, by decide +kernel, by decide +kernel⟩, rfl, tb_at 1800 (by decide +kernel) (by decide +kernel), tb_at 1802 (by decide +kernel) (by decide +kernel), ⟨(RX12, TX12, 63), rfl, tb_at 94 (by decide +kernel) (by decide +kernel)⟩⟩, fun _ h => absurd h List.not_mem_nil⟩⟩
end
section
-- keepsRow()
def kpl (σ : am_S) (k : Nat) : am_S := (fun o j => if o = 79 ∧ j < k then σ.1 80 j else σ.1 o j, σ.2)
theorem kpl_0 (σ : am_S) : kpl σ 0 = σ := am_Sext (fun o k => by simp [kpl]) rfl
theorem kpl_s (σ : am_S) (k : Nat) : am_pi (kpl σ k) 79 k (σ.1 80 k) = kpl σ (k + 1) := by
  refine am_Sext (fun o j => ?_) rfl
  by_cases h : o = 79 ∧ j = k
  · obtain ⟨rfl, rfl⟩ := h
    rw [pi_s]; simp [kpl]
  · rw [pi_n _ _ _ _ h]
    simp only [kpl]
    by_cases h2 : o = 79 ∧ j < k
    · rw [if_pos h2, if_pos ⟨h2.1, by omega⟩]
    · rw [if_neg h2, if_neg (fun q => h2 ⟨q.1, by omega⟩)]
theorem kpl_row (σ : am_S) (k j : Nat) : (kpl σ k).1 80 j = σ.1 80 j := by simp [kpl]
def sX12_keepsRow : am_Sp := fun as n σ post => n = 92 ∧ as = [.ref 51] ∧ ∀ τ : am_S, (∀ k, k < 51 → τ.1 79 k = σ.1 80 k) → (∀ o j, ¬ o = 79 → τ.1 o j = σ.1 o j) → τ.2 = σ.2 → post none τ
def xX12_keepsRow : am_X := (SH, KF, none, FT_X12, PT_X12, CT_X12, KT_X12, LT_X12, NT_X12, [])
theorem xX12_keepsRow_SH : am_SH xX12_keepsRow = SH := rfl
theorem xX12_keepsRow_KF : am_KF xX12_keepsRow = KF := rfl
theorem xX12_keepsRow_rt : am_rt xX12_keepsRow = none := rfl
theorem xX12_keepsRow_FT : am_FT xX12_keepsRow = FT_X12 := rfl
theorem xX12_keepsRow_PT : am_PT xX12_keepsRow = PT_X12 := rfl
theorem xX12_keepsRow_CT : am_CT xX12_keepsRow = CT_X12 := rfl
theorem xX12_keepsRow_KT : am_KT xX12_keepsRow = KT_X12 := rfl
theorem xX12_keepsRow_LT : am_LT xX12_keepsRow = LT_X12 := rfl
theorem xX12_keepsRow_NT : am_NT xX12_keepsRow = NT_X12 := rfl
theorem xX12_keepsRow_t5 (k : Nat → Prop) : am_tg 5 (21) k = k 26 := am_tg_eq (by decide)
theorem xX12_keepsRow_t23 (k : Nat → Prop) : am_tg 23 (-21) k = k 2 := am_tg_eq (by decide)

set_option maxRecDepth 100000 in
theorem kp_loop {σ : am_S} {post : Option Value → am_S → Prop} {AA : Nat → List (Option Value) → List Value → Nat → am_S → Prop} (hA : ∀ cuts f pc ls stk n τ, am_vc cX12_keepsRow xX12_keepsRow (92 + 0) post AA cuts f pc ls stk n τ → AA pc ls stk n τ) (h : ∀ τ : am_S, (∀ k, k < 51 → τ.1 79 k = σ.1 80 k) → (∀ o j, ¬ o = 79 → τ.1 o j = σ.1 o j) → τ.2 = σ.2 → post none τ) : ∀ k : Nat, k ≤ 51 → AA 2 [some (.ref 51), some (.int (Int32.ofInt (k : Int)))] [] 92 (kpl σ k) := by
  refine am_up 51 fun k hk ih => ?_
  refine hA [(2, 2)] 60 _ _ _ _ _ ?_
  try simp only [dX12_keepsRow_0, dX12_keepsRow_1, dX12_keepsRow_2, dX12_keepsRow_3, dX12_keepsRow_5, xX12_keepsRow_t5, dX12_keepsRow_8, dX12_keepsRow_9, FT_X12_101, dX12_keepsRow_12, dX12_keepsRow_13, dX12_keepsRow_14, FT_X12_104, dX12_keepsRow_17, dX12_keepsRow_18, dX12_keepsRow_19, dX12_keepsRow_20, dX12_keepsRow_23, xX12_keepsRow_t23, dX12_keepsRow_26, xX12_keepsRow_SH, xX12_keepsRow_KF, xX12_keepsRow_rt, xX12_keepsRow_FT, xX12_keepsRow_PT, xX12_keepsRow_CT, xX12_keepsRow_KT, xX12_keepsRow_LT, xX12_keepsRow_NT, o_aload_n, o_bipush, o_getfield, o_goto, o_iaload, o_iastore, o_iconst, o_if_icmp_ge, o_iinc, o_iload_n, o_istore_n, o_return_, SH_51, KF_51_45, SH_79, KF_51_46, SH_80, am_vc, am_opt, am_cl, am_find, am_ldi, am_ldl, am_lda, am_v, am_1, am_1l, am_1a, am_2, am_2l, am_ix, am_ri, am_arr, am_pf, am_rc, am_mask, am_lg, am_av, am_nat, fv_0, fv_1, fv_2, fv_3, fw_0, fw_1, List.getElem?_cons_zero, List.getElem?_cons_succ, List.set_cons_zero, List.set_cons_succ, List.length_cons, List.length_nil, List.take_succ_cons, List.take_zero, List.drop_succ_cons, List.drop_zero, List.reverse_cons, List.reverse_nil, List.nil_append, List.cons_append, List.append_nil, List.map_cons, List.map_nil, List.sum_cons, List.sum_nil, Value.category, Option.toList_some, Option.toList_none, Nat.reduceAdd, Nat.reduceLT, Nat.reduceLeDiff, Nat.reduceEqDiff, Nat.reduceSub, Nat.add_zero, Nat.le_refl, Nat.zero_le, Int.reduceNeg, Int.reduceLE, Int.reduceLT, true_and, and_true, and_self, if_true, if_false, ite_true, ite_false, eq_self_iff_true, reduceIte, reduceCtorEq, not_false_eq_true, not_true_eq_false, or_true, true_or, or_false, false_or, Nat.lt_irrefl, Nat.zero_lt_succ, kpl_row]
  try simp (disch := omega) only [ii_0, ii_1, ii_add, ii_sub, ii_mul, ii_lt, ii_le, ii_eq, ij_in, ii_c, Int.toNat_natCast, Int.toNat_zero, Int.reduceToNat, Int.reduceEq, Int.reduceNe, Int.reduceLE, Int.reduceLT, Int.reduceAdd, Int.reduceSub, Int.reduceMul, Int.reduceNeg, Nat.reduceLT, Nat.reduceAdd, Nat.reduceMul, not_false_eq_true, not_true_eq_false, true_and, and_true, and_self, false_and, and_false, true_implies, false_implies, implies_true, forall_const, if_true, if_false, ite_true, ite_false, reduceIte, eq_self_iff_true, Int.natCast_nonneg, Int.zero_add, Int.add_zero, pi_s, pi_n, ik_s, kpl_s]
  refine ⟨fun h1 => h _ (fun j hj => ?_) (fun o j ho => ?_) rfl, fun h1 => ⟨by omega, by omega, ih (by omega)⟩⟩
  · have hk : k = 51 := by omega
    subst hk
    simp [kpl, hj]
  · simp [kpl, ho]
set_option maxRecDepth 100000 in
theorem pX12_keepsRow : am_B cX12_keepsRow xX12_keepsRow 2 0 sX12_keepsRow := by
  intro n0 as σ post AA hA h
  obtain ⟨rfl, rfl, h⟩ := h
  refine ⟨by simp [am_sl, Value.category], ?_⟩
  show AA 0 [some (.ref 51), none] [] 92 σ
  refine hA [(2, 2)] 20 _ _ _ _ _ ?_
  try simp only [dX12_keepsRow_0, dX12_keepsRow_1, dX12_keepsRow_2, dX12_keepsRow_3, dX12_keepsRow_5, xX12_keepsRow_t5, dX12_keepsRow_8, dX12_keepsRow_9, FT_X12_101, dX12_keepsRow_12, dX12_keepsRow_13, dX12_keepsRow_14, FT_X12_104, dX12_keepsRow_17, dX12_keepsRow_18, dX12_keepsRow_19, dX12_keepsRow_20, dX12_keepsRow_23, xX12_keepsRow_t23, dX12_keepsRow_26, xX12_keepsRow_SH, xX12_keepsRow_KF, xX12_keepsRow_rt, xX12_keepsRow_FT, xX12_keepsRow_PT, xX12_keepsRow_CT, xX12_keepsRow_KT, xX12_keepsRow_LT, xX12_keepsRow_NT, o_aload_n, o_bipush, o_getfield, o_goto, o_iaload, o_iastore, o_iconst, o_if_icmp_ge, o_iinc, o_iload_n, o_istore_n, o_return_, SH_51, KF_51_45, SH_79, KF_51_46, SH_80, am_vc, am_opt, am_cl, am_find, am_ldi, am_ldl, am_lda, am_v, am_1, am_1l, am_1a, am_2, am_2l, am_ix, am_ri, am_arr, am_pf, am_rc, am_mask, am_lg, am_av, am_nat, fv_0, fv_1, fv_2, fv_3, fw_0, fw_1, List.getElem?_cons_zero, List.getElem?_cons_succ, List.set_cons_zero, List.set_cons_succ, List.length_cons, List.length_nil, List.take_succ_cons, List.take_zero, List.drop_succ_cons, List.drop_zero, List.reverse_cons, List.reverse_nil, List.nil_append, List.cons_append, List.append_nil, List.map_cons, List.map_nil, List.sum_cons, List.sum_nil, Value.category, Option.toList_some, Option.toList_none, Nat.reduceAdd, Nat.reduceLT, Nat.reduceLeDiff, Nat.reduceEqDiff, Nat.reduceSub, Nat.add_zero, Nat.le_refl, Nat.zero_le, Int.reduceNeg, Int.reduceLE, Int.reduceLT, true_and, and_true, and_self, if_true, if_false, ite_true, ite_false, eq_self_iff_true, reduceIte, reduceCtorEq, not_false_eq_true, not_true_eq_false, or_true, true_or, or_false, false_or, Nat.lt_irrefl, Nat.zero_lt_succ]
  have := kp_loop hA h 0 (by omega)
  rw [kpl_0] at this
  exact this
theorem mX12_keepsRow (l : Launch) : am_M l TB NB vwCl SH KF yX12_keepsRow cX12_keepsRow 2 none 2 0 0 sX12_keepsRow := by
  refine am_M.of xX12_keepsRow (by decide +kernel) TB_good GF rfl rfl rfl (by decide) ⟨FT_X12_ok, PT_X12_ok _, CT_X12_ok, KT_X12_ok, LT_X12_ok, NT_X12_ok, ?_⟩ pX12_keepsRow
  exact fun _ h => absurd h List.not_mem_nil

-- records()
def sX12_records : am_Sp := fun as n σ post => ∃ (mn : Int), n = 92 ∧ as = [.ref 51] ∧ FM mn σ ∧ ∀ τ : am_S, τ.1 79 49 = Int32.ofInt mn → post none τ
def xX12_records : am_X := (SH, KF, none, FT_X12, PT_X12, CT_X12, KT_X12, LT_X12, NT_X12, [(151, 0, 1, 12, 0, 0, sX12_keepsRow)])
theorem xX12_records_SH : am_SH xX12_records = SH := rfl
theorem xX12_records_KF : am_KF xX12_records = KF := rfl
theorem xX12_records_rt : am_rt xX12_records = none := rfl
theorem xX12_records_FT : am_FT xX12_records = FT_X12 := rfl
theorem xX12_records_PT : am_PT xX12_records = PT_X12 := rfl
theorem xX12_records_CT : am_CT xX12_records = CT_X12 := rfl
theorem xX12_records_KT : am_KT xX12_records = KT_X12 := rfl
theorem xX12_records_LT : am_LT xX12_records = LT_X12 := rfl
theorem xX12_records_NT : am_NT xX12_records = NT_X12 := rfl
theorem xX12_records_c151 : am_find (am_ML xX12_records) 151 = some (0, 1, 12, 0, 0, sX12_keepsRow) := rfl
theorem xX12_records_n151 : am_find NT_X12 151 = none := rfl
theorem xX12_records_t6 (k : Nat → Prop) : am_tg 6 (43) k = k 49 := am_tg_eq (by decide)
theorem xX12_records_t15 (k : Nat → Prop) : am_tg 15 (24) k = k 39 := am_tg_eq (by decide)
theorem xX12_records_t36 (k : Nat → Prop) : am_tg 36 (-25) k = k 11 := am_tg_eq (by decide)
theorem xX12_records_t54 (k : Nat → Prop) : am_tg 54 (29) k = k 83 := am_tg_eq (by decide)
theorem xX12_records_t80 (k : Nat → Prop) : am_tg 80 (-29) k = k 51 := am_tg_eq (by decide)

set_option maxRecDepth 100000 in
theorem rc_loop {post : Option Value → am_S → Prop} {AA : Nat → List (Option Value) → List Value → Nat → am_S → Prop} (hA : ∀ cuts f pc ls stk n τ, am_vc cX12_records xX12_records (92 + 0) post AA cuts f pc ls stk n τ → AA pc ls stk n τ) {mn : Int} (h : ∀ τ : am_S, τ.1 79 49 = Int32.ofInt mn → post none τ) : ∀ k : Nat, k ≤ 51 → ∀ σ, FM mn σ → AA 51 [some (.ref 51), some (.int (Int32.ofInt (k : Int)))] [] 92 σ := by
  refine am_up 51 fun k hk ih σ hF => ?_
  have e0 : σ.1 51 49 = Int32.ofInt 0 := hF.1.2.2.2.1
  refine hA [(51, 2)] 60 _ _ _ _ _ ?_
  try simp only [dX12_records_0, dX12_records_1, FT_X12_247, dX12_records_4, dX12_records_6, xX12_records_t6, dX12_records_9, dX12_records_10, dX12_records_11, dX12_records_12, dX12_records_15, xX12_records_t15, dX12_records_18, dX12_records_19, FT_X12_107, dX12_records_22, dX12_records_23, dX12_records_24, dX12_records_27, dX12_records_28, dX12_records_30, dX12_records_31, dX12_records_32, dX12_records_33, dX12_records_36, xX12_records_t36, dX12_records_39, dX12_records_40, dX12_records_41, dX12_records_44, dX12_records_45, dX12_records_46, PT_X12_247, dX12_records_49, dX12_records_50, dX12_records_51, dX12_records_52, dX12_records_54, xX12_records_t54, dX12_records_57, dX12_records_58, dX12_records_61, dX12_records_63, dX12_records_64, dX12_records_67, dX12_records_68, dX12_records_69, dX12_records_70, dX12_records_71, FT_X12_101, dX12_records_74, dX12_records_75, dX12_records_76, dX12_records_77, dX12_records_80, xX12_records_t80, dX12_records_83, dX12_records_84, dX12_records_85, dX12_records_88, dX12_records_89, dX12_records_90, dX12_records_93, dX12_records_94, xX12_records_c151, xX12_records_n151, dX12_records_97, xX12_records_SH, xX12_records_KF, xX12_records_rt, xX12_records_FT, xX12_records_PT, xX12_records_CT, xX12_records_KT, xX12_records_LT, xX12_records_NT, o_aload_n, o_bipush, o_dup, o_getfield, o_goto, o_iadd, o_iaload, o_iastore, o_iconst, o_if_icmp_ge, o_if_icmp_ne, o_iinc, o_iload_n, o_imul, o_invokevirtual, o_istore_n, o_isub, o_putfield, o_return_, o_sipush, SH_51, KF_51_49, KF_51_50, SH_81, KF_51_45, SH_79, am_vc, am_opt, am_cl, am_find, am_ldi, am_ldl, am_lda, am_v, am_1, am_1l, am_1a, am_2, am_2l, am_ix, am_ri, am_arr, am_pf, am_rc, am_mask, am_lg, am_av, am_nat, fv_0, fv_1, fv_2, fv_3, fw_0, fw_1, List.getElem?_cons_zero, List.getElem?_cons_succ, List.set_cons_zero, List.set_cons_succ, List.length_cons, List.length_nil, List.take_succ_cons, List.take_zero, List.drop_succ_cons, List.drop_zero, List.reverse_cons, List.reverse_nil, List.nil_append, List.cons_append, List.append_nil, List.map_cons, List.map_nil, List.sum_cons, List.sum_nil, Value.category, Option.toList_some, Option.toList_none, Nat.reduceAdd, Nat.reduceLT, Nat.reduceLeDiff, Nat.reduceEqDiff, Nat.reduceSub, Nat.add_zero, Nat.le_refl, Nat.zero_le, Int.reduceNeg, Int.reduceLE, Int.reduceLT, true_and, and_true, and_self, if_true, if_false, ite_true, ite_false, eq_self_iff_true, reduceIte, reduceCtorEq, not_false_eq_true, not_true_eq_false, or_true, true_or, or_false, false_or, Nat.lt_irrefl, Nat.zero_lt_succ, e0]
  try simp (disch := omega) only [ii_0, ii_1, ii_add, ii_sub, ii_mul, ii_lt, ii_le, ii_eq, ij_in, ii_c, Int.toNat_natCast, Int.toNat_zero, Int.reduceToNat, Int.reduceEq, Int.reduceNe, Int.reduceLE, Int.reduceLT, Int.reduceAdd, Int.reduceSub, Int.reduceMul, Int.reduceNeg, Nat.reduceLT, Nat.reduceAdd, Nat.reduceMul, not_false_eq_true, not_true_eq_false, true_and, and_true, and_self, false_and, and_false, true_implies, false_implies, implies_true, forall_const, if_true, if_false, ite_true, ite_false, reduceIte, eq_self_iff_true, Int.natCast_nonneg, Int.zero_add, Int.add_zero, pi_s, pi_n, ik_s]
  refine ⟨fun h1 => ?_, fun h1 => ?_⟩
  · refine ⟨rfl, rfl, fun τ t1 t2 t3 => ?_⟩
    try simp only [dX12_records_0, dX12_records_1, FT_X12_247, dX12_records_4, dX12_records_6, xX12_records_t6, dX12_records_9, dX12_records_10, dX12_records_11, dX12_records_12, dX12_records_15, xX12_records_t15, dX12_records_18, dX12_records_19, FT_X12_107, dX12_records_22, dX12_records_23, dX12_records_24, dX12_records_27, dX12_records_28, dX12_records_30, dX12_records_31, dX12_records_32, dX12_records_33, dX12_records_36, xX12_records_t36, dX12_records_39, dX12_records_40, dX12_records_41, dX12_records_44, dX12_records_45, dX12_records_46, PT_X12_247, dX12_records_49, dX12_records_50, dX12_records_51, dX12_records_52, dX12_records_54, xX12_records_t54, dX12_records_57, dX12_records_58, dX12_records_61, dX12_records_63, dX12_records_64, dX12_records_67, dX12_records_68, dX12_records_69, dX12_records_70, dX12_records_71, FT_X12_101, dX12_records_74, dX12_records_75, dX12_records_76, dX12_records_77, dX12_records_80, xX12_records_t80, dX12_records_83, dX12_records_84, dX12_records_85, dX12_records_88, dX12_records_89, dX12_records_90, dX12_records_93, dX12_records_94, xX12_records_c151, xX12_records_n151, dX12_records_97, xX12_records_SH, xX12_records_KF, xX12_records_rt, xX12_records_FT, xX12_records_PT, xX12_records_CT, xX12_records_KT, xX12_records_LT, xX12_records_NT, o_aload_n, o_bipush, o_dup, o_getfield, o_goto, o_iadd, o_iaload, o_iastore, o_iconst, o_if_icmp_ge, o_if_icmp_ne, o_iinc, o_iload_n, o_imul, o_invokevirtual, o_istore_n, o_isub, o_putfield, o_return_, o_sipush, SH_51, KF_51_49, KF_51_50, SH_81, KF_51_45, SH_79, am_vc, am_opt, am_cl, am_find, am_ldi, am_ldl, am_lda, am_v, am_1, am_1l, am_1a, am_2, am_2l, am_ix, am_ri, am_arr, am_pf, am_rc, am_mask, am_lg, am_av, am_nat, fv_0, fv_1, fv_2, fv_3, fw_0, fw_1, List.getElem?_cons_zero, List.getElem?_cons_succ, List.set_cons_zero, List.set_cons_succ, List.length_cons, List.length_nil, List.take_succ_cons, List.take_zero, List.drop_succ_cons, List.drop_zero, List.reverse_cons, List.reverse_nil, List.nil_append, List.cons_append, List.append_nil, List.map_cons, List.map_nil, List.sum_cons, List.sum_nil, Value.category, Option.toList_some, Option.toList_none, Nat.reduceAdd, Nat.reduceLT, Nat.reduceLeDiff, Nat.reduceEqDiff, Nat.reduceSub, Nat.add_zero, Nat.le_refl, Nat.zero_le, Int.reduceNeg, Int.reduceLE, Int.reduceLT, true_and, and_true, and_self, if_true, if_false, ite_true, ite_false, eq_self_iff_true, reduceIte, reduceCtorEq, not_false_eq_true, not_true_eq_false, or_true, true_or, or_false, false_or, Nat.lt_irrefl, Nat.zero_lt_succ]
    refine h τ ?_
    rw [t1 49 (by decide), pi_n _ _ _ _ (by decide)]
    exact FM_min hF
  · exact ⟨by omega, by omega, ih (by omega) _ (FM_pi rfl hF)⟩
set_option maxRecDepth 100000 in
theorem pX12_records : am_B cX12_records xX12_records 2 0 sX12_records := by
  intro n0 as σ post AA hA h
  obtain ⟨mn, rfl, rfl, hF, h⟩ := h
  refine ⟨by simp [am_sl, Value.category], ?_⟩
  show AA 0 [some (.ref 51), none] [] 92 σ
  have e0 : σ.1 51 49 = Int32.ofInt 0 := hF.1.2.2.2.1
  refine hA [(51, 2), (11, 2)] 20 _ _ _ _ _ ?_
  try simp only [dX12_records_0, dX12_records_1, FT_X12_247, dX12_records_4, dX12_records_6, xX12_records_t6, dX12_records_9, dX12_records_10, dX12_records_11, dX12_records_12, dX12_records_15, xX12_records_t15, dX12_records_18, dX12_records_19, FT_X12_107, dX12_records_22, dX12_records_23, dX12_records_24, dX12_records_27, dX12_records_28, dX12_records_30, dX12_records_31, dX12_records_32, dX12_records_33, dX12_records_36, xX12_records_t36, dX12_records_39, dX12_records_40, dX12_records_41, dX12_records_44, dX12_records_45, dX12_records_46, PT_X12_247, dX12_records_49, dX12_records_50, dX12_records_51, dX12_records_52, dX12_records_54, xX12_records_t54, dX12_records_57, dX12_records_58, dX12_records_61, dX12_records_63, dX12_records_64, dX12_records_67, dX12_records_68, dX12_records_69, dX12_records_70, dX12_records_71, FT_X12_101, dX12_records_74, dX12_records_75, dX12_records_76, dX12_records_77, dX12_records_80, xX12_records_t80, dX12_records_83, dX12_records_84, dX12_records_85, dX12_records_88, dX12_records_89, dX12_records_90, dX12_records_93, dX12_records_94, xX12_records_c151, xX12_records_n151, dX12_records_97, xX12_records_SH, xX12_records_KF, xX12_records_rt, xX12_records_FT, xX12_records_PT, xX12_records_CT, xX12_records_KT, xX12_records_LT, xX12_records_NT, o_aload_n, o_bipush, o_dup, o_getfield, o_goto, o_iadd, o_iaload, o_iastore, o_iconst, o_if_icmp_ge, o_if_icmp_ne, o_iinc, o_iload_n, o_imul, o_invokevirtual, o_istore_n, o_isub, o_putfield, o_return_, o_sipush, SH_51, KF_51_49, KF_51_50, SH_81, KF_51_45, SH_79, am_vc, am_opt, am_cl, am_find, am_ldi, am_ldl, am_lda, am_v, am_1, am_1l, am_1a, am_2, am_2l, am_ix, am_ri, am_arr, am_pf, am_rc, am_mask, am_lg, am_av, am_nat, fv_0, fv_1, fv_2, fv_3, fw_0, fw_1, List.getElem?_cons_zero, List.getElem?_cons_succ, List.set_cons_zero, List.set_cons_succ, List.length_cons, List.length_nil, List.take_succ_cons, List.take_zero, List.drop_succ_cons, List.drop_zero, List.reverse_cons, List.reverse_nil, List.nil_append, List.cons_append, List.append_nil, List.map_cons, List.map_nil, List.sum_cons, List.sum_nil, Value.category, Option.toList_some, Option.toList_none, Nat.reduceAdd, Nat.reduceLT, Nat.reduceLeDiff, Nat.reduceEqDiff, Nat.reduceSub, Nat.add_zero, Nat.le_refl, Nat.zero_le, Int.reduceNeg, Int.reduceLE, Int.reduceLT, true_and, and_true, and_self, if_true, if_false, ite_true, ite_false, eq_self_iff_true, reduceIte, reduceCtorEq, not_false_eq_true, not_true_eq_false, or_true, true_or, or_false, false_or, Nat.lt_irrefl, Nat.zero_lt_succ, e0]
  try simp (disch := omega) only [ii_0, ii_1, ii_add, ii_sub, ii_mul, ii_lt, ii_le, ii_eq, ij_in, ii_c, Int.toNat_natCast, Int.toNat_zero, Int.reduceToNat, Int.reduceEq, Int.reduceNe, Int.reduceLE, Int.reduceLT, Int.reduceAdd, Int.reduceSub, Int.reduceMul, Int.reduceNeg, Nat.reduceLT, Nat.reduceAdd, Nat.reduceMul, not_false_eq_true, not_true_eq_false, true_and, and_true, and_self, false_and, and_false, true_implies, false_implies, implies_true, forall_const, if_true, if_false, ite_true, ite_false, reduceIte, eq_self_iff_true, Int.natCast_nonneg, Int.zero_add, Int.add_zero, pi_s, pi_n]
  exact rc_loop hA h 0 (by omega) σ hF
theorem mX12_records (l : Launch) : am_M l TB NB vwCl SH KF yX12_records cX12_records 2 none 3 0 0 sX12_records := by
  refine am_M.of xX12_records (by decide +kernel) TB_good GF rfl rfl rfl (by decide) ⟨FT_X12_ok, PT_X12_ok _, CT_X12_ok, KT_X12_ok, LT_X12_ok, NT_X12_ok, ?_⟩ pX12_records
  exact List.forall_mem_cons.mpr ⟨⟨yX12_keepsRow, cX12_keepsRow, 2, none, 2, 0, mX12_keepsRow l, by decide, by decide, tb_at 1325 (by decide +kernel) (by decide +kernel), tb_at 124 (by decide +kernel) (by decide +kernel), ⟨by decide +kernel, by decide +kernel, by decide +kernel⟩, rfl, tb_at 1322 (by decide +kernel) (by decide +kernel), tb_at 1324 (by decide +kernel) (by decide +kernel), ⟨(RX12, TX12, 63), rfl, tb_at 43 (by decide +kernel) (by decide +kernel)⟩⟩, fun _ h => absurd h List.not_mem_nil⟩

-- pours(w)
def sX12_cupOf : am_Sp := fun _ _ _ _ => False
theorem mX12_cupOf (l : Launch) : am_M l TB NB vwCl SH KF yX12_cupOf cX12_cupOf 3 (some .int) 4 0 0 sX12_cupOf := am_never

def sX12_pours : am_Sp := fun as n σ post => ∃ (w : Int32) (mn : Int), n = 92 ∧ as = [.ref 51, .int w] ∧ FM mn σ ∧ post (some (.int w)) σ
def xX12_pours : am_X := (SH, KF, (some .int), FT_X12, PT_X12, CT_X12, KT_X12, LT_X12, NT_X12, [(390, 0, 3, 12, 0, 0, sX12_cupOf)])
theorem xX12_pours_SH : am_SH xX12_pours = SH := rfl
theorem xX12_pours_KF : am_KF xX12_pours = KF := rfl
theorem xX12_pours_rt : am_rt xX12_pours = (some .int) := rfl
theorem xX12_pours_FT : am_FT xX12_pours = FT_X12 := rfl
theorem xX12_pours_PT : am_PT xX12_pours = PT_X12 := rfl
theorem xX12_pours_CT : am_CT xX12_pours = CT_X12 := rfl
theorem xX12_pours_KT : am_KT xX12_pours = KT_X12 := rfl
theorem xX12_pours_LT : am_LT xX12_pours = LT_X12 := rfl
theorem xX12_pours_NT : am_NT xX12_pours = NT_X12 := rfl
theorem xX12_pours_c390 : am_find (am_ML xX12_pours) 390 = some (0, 3, 12, 0, 0, sX12_cupOf) := rfl
theorem xX12_pours_n390 : am_find NT_X12 390 = none := rfl
theorem xX12_pours_t14 (k : Nat → Prop) : am_tg 14 (70) k = k 84 := am_tg_eq (by decide)
theorem xX12_pours_t31 (k : Nat → Prop) : am_tg 31 (47) k = k 78 := am_tg_eq (by decide)
theorem xX12_pours_t42 (k : Nat → Prop) : am_tg 42 (6) k = k 48 := am_tg_eq (by decide)
theorem xX12_pours_t45 (k : Nat → Prop) : am_tg 45 (27) k = k 72 := am_tg_eq (by decide)
theorem xX12_pours_t75 (k : Nat → Prop) : am_tg 75 (-55) k = k 20 := am_tg_eq (by decide)
theorem xX12_pours_t81 (k : Nat → Prop) : am_tg 81 (-77) k = k 4 := am_tg_eq (by decide)

set_option maxRecDepth 100000 in
theorem po_loop {post : Option Value → am_S → Prop} {AA : Nat → List (Option Value) → List Value → Nat → am_S → Prop} (hA : ∀ cuts f pc ls stk n τ, am_vc cX12_pours xX12_pours (92 + 0) post AA cuts f pc ls stk n τ → AA pc ls stk n τ) {mn : Int} {σ : am_S} {w : Int32} (hF : FM mn σ) (h : post (some (.int w)) σ) : ∀ k : Nat, k ≤ 8 → AA 4 [some (.ref 51), some (.int w), some (.int w), some (.int (Int32.ofInt (k : Int))), none] [] 92 σ := by
  obtain ⟨e1, e2, e3, e4⟩ := FM_e hF
  refine am_up 8 fun k hk ih => ?_
  refine hA [(4, 4), (20, 5)] 60 _ _ _ _ _ ?_
  try simp only [dX12_pours_0, dX12_pours_1, dX12_pours_2, dX12_pours_3, dX12_pours_4, dX12_pours_5, dX12_pours_6, FT_X12_43, dX12_pours_9, dX12_pours_10, FT_X12_221, dX12_pours_13, dX12_pours_14, xX12_pours_t14, dX12_pours_17, dX12_pours_18, dX12_pours_20, dX12_pours_22, dX12_pours_23, FT_X12_46, dX12_pours_26, dX12_pours_27, dX12_pours_30, dX12_pours_31, xX12_pours_t31, dX12_pours_34, dX12_pours_35, FT_X12_104, dX12_pours_38, dX12_pours_40, dX12_pours_41, dX12_pours_42, xX12_pours_t42, dX12_pours_45, xX12_pours_t45, dX12_pours_48, dX12_pours_49, FT_X12_110, dX12_pours_52, dX12_pours_54, dX12_pours_55, dX12_pours_57, dX12_pours_58, xX12_pours_c390, xX12_pours_n390, dX12_pours_61, dX12_pours_62, dX12_pours_63, dX12_pours_64, dX12_pours_67, dX12_pours_69, dX12_pours_70, dX12_pours_71, dX12_pours_72, dX12_pours_75, xX12_pours_t75, dX12_pours_78, dX12_pours_81, xX12_pours_t81, dX12_pours_84, dX12_pours_85, xX12_pours_SH, xX12_pours_KF, xX12_pours_rt, xX12_pours_FT, xX12_pours_PT, xX12_pours_CT, xX12_pours_KT, xX12_pours_LT, xX12_pours_NT, o_aload_n, o_getfield, o_goto, o_iaload, o_iastore, o_iconst, o_if_icmp_eq, o_if_icmp_ge, o_iinc, o_iload, o_iload_n, o_invokevirtual, o_ireturn, o_istore, o_istore_n, o_isub, SH_51, KF_51_46, SH_80, KF_51_23, SH_61, KF_51_51, SH_82, KF_51_22, SH_60, KF_51_18, am_vc, am_opt, am_cl, am_find, am_ldi, am_ldl, am_lda, am_v, am_1, am_1l, am_1a, am_2, am_2l, am_ix, am_ri, am_arr, am_pf, am_rc, am_mask, am_lg, am_av, am_nat, fv_0, fv_1, fv_2, fv_3, fw_0, fw_1, List.getElem?_cons_zero, List.getElem?_cons_succ, List.set_cons_zero, List.set_cons_succ, List.length_cons, List.length_nil, List.take_succ_cons, List.take_zero, List.drop_succ_cons, List.drop_zero, List.reverse_cons, List.reverse_nil, List.nil_append, List.cons_append, List.append_nil, List.map_cons, List.map_nil, List.sum_cons, List.sum_nil, Value.category, Option.toList_some, Option.toList_none, Nat.reduceAdd, Nat.reduceLT, Nat.reduceLeDiff, Nat.reduceEqDiff, Nat.reduceSub, Nat.add_zero, Nat.le_refl, Nat.zero_le, Int.reduceNeg, Int.reduceLE, Int.reduceLT, true_and, and_true, and_self, if_true, if_false, ite_true, ite_false, eq_self_iff_true, reduceIte, reduceCtorEq, not_false_eq_true, not_true_eq_false, or_true, true_or, or_false, false_or, Nat.lt_irrefl, Nat.zero_lt_succ, e1]
  try simp (disch := omega) only [ii_0, ii_1, ii_add, ii_sub, ii_mul, ii_lt, ii_le, ii_eq, ij_in, ii_c, Int.toNat_natCast, Int.toNat_zero, Int.reduceToNat, Int.reduceEq, Int.reduceNe, Int.reduceLE, Int.reduceLT, Int.reduceAdd, Int.reduceSub, Int.reduceMul, Int.reduceNeg, Nat.reduceLT, Nat.reduceAdd, Nat.reduceMul, not_false_eq_true, not_true_eq_false, true_and, and_true, and_self, false_and, and_false, true_implies, false_implies, implies_true, forall_const, if_true, if_false, ite_true, ite_false, reduceIte, eq_self_iff_true, Int.natCast_nonneg, Int.zero_add, Int.add_zero, pi_s, pi_n, e2]
  refine ⟨fun h1 => h, fun h1 => ?_⟩
  refine hA [(4, 4), (20, 5)] 60 _ _ _ _ _ ?_
  try simp only [dX12_pours_0, dX12_pours_1, dX12_pours_2, dX12_pours_3, dX12_pours_4, dX12_pours_5, dX12_pours_6, FT_X12_43, dX12_pours_9, dX12_pours_10, FT_X12_221, dX12_pours_13, dX12_pours_14, xX12_pours_t14, dX12_pours_17, dX12_pours_18, dX12_pours_20, dX12_pours_22, dX12_pours_23, FT_X12_46, dX12_pours_26, dX12_pours_27, dX12_pours_30, dX12_pours_31, xX12_pours_t31, dX12_pours_34, dX12_pours_35, FT_X12_104, dX12_pours_38, dX12_pours_40, dX12_pours_41, dX12_pours_42, xX12_pours_t42, dX12_pours_45, xX12_pours_t45, dX12_pours_48, dX12_pours_49, FT_X12_110, dX12_pours_52, dX12_pours_54, dX12_pours_55, dX12_pours_57, dX12_pours_58, xX12_pours_c390, xX12_pours_n390, dX12_pours_61, dX12_pours_62, dX12_pours_63, dX12_pours_64, dX12_pours_67, dX12_pours_69, dX12_pours_70, dX12_pours_71, dX12_pours_72, dX12_pours_75, xX12_pours_t75, dX12_pours_78, dX12_pours_81, xX12_pours_t81, dX12_pours_84, dX12_pours_85, xX12_pours_SH, xX12_pours_KF, xX12_pours_rt, xX12_pours_FT, xX12_pours_PT, xX12_pours_CT, xX12_pours_KT, xX12_pours_LT, xX12_pours_NT, o_aload_n, o_getfield, o_goto, o_iaload, o_iastore, o_iconst, o_if_icmp_eq, o_if_icmp_ge, o_iinc, o_iload, o_iload_n, o_invokevirtual, o_ireturn, o_istore, o_istore_n, o_isub, SH_51, KF_51_46, SH_80, KF_51_23, SH_61, KF_51_51, SH_82, KF_51_22, SH_60, KF_51_18, am_vc, am_opt, am_cl, am_find, am_ldi, am_ldl, am_lda, am_v, am_1, am_1l, am_1a, am_2, am_2l, am_ix, am_ri, am_arr, am_pf, am_rc, am_mask, am_lg, am_av, am_nat, fv_0, fv_1, fv_2, fv_3, fw_0, fw_1, List.getElem?_cons_zero, List.getElem?_cons_succ, List.set_cons_zero, List.set_cons_succ, List.length_cons, List.length_nil, List.take_succ_cons, List.take_zero, List.drop_succ_cons, List.drop_zero, List.reverse_cons, List.reverse_nil, List.nil_append, List.cons_append, List.append_nil, List.map_cons, List.map_nil, List.sum_cons, List.sum_nil, Value.category, Option.toList_some, Option.toList_none, Nat.reduceAdd, Nat.reduceLT, Nat.reduceLeDiff, Nat.reduceEqDiff, Nat.reduceSub, Nat.add_zero, Nat.le_refl, Nat.zero_le, Int.reduceNeg, Int.reduceLE, Int.reduceLT, true_and, and_true, and_self, if_true, if_false, ite_true, ite_false, eq_self_iff_true, reduceIte, reduceCtorEq, not_false_eq_true, not_true_eq_false, or_true, true_or, or_false, false_or, Nat.lt_irrefl, Nat.zero_lt_succ, e1]
  try simp (disch := omega) only [ii_0, ii_1, ii_add, ii_sub, ii_mul, ii_lt, ii_le, ii_eq, ij_in, ii_c, Int.toNat_natCast, Int.toNat_zero, Int.reduceToNat, Int.reduceEq, Int.reduceNe, Int.reduceLE, Int.reduceLT, Int.reduceAdd, Int.reduceSub, Int.reduceMul, Int.reduceNeg, Nat.reduceLT, Nat.reduceAdd, Nat.reduceMul, not_false_eq_true, not_true_eq_false, true_and, and_true, and_self, false_and, and_false, true_implies, false_implies, implies_true, forall_const, if_true, if_false, ite_true, ite_false, reduceIte, eq_self_iff_true, Int.natCast_nonneg, Int.zero_add, Int.add_zero, pi_s, pi_n, e3, ik_s]
  exact ih (by omega)
set_option maxRecDepth 100000 in
theorem pX12_pours : am_B cX12_pours xX12_pours 5 0 sX12_pours := by
  intro n0 as σ post AA hA h
  obtain ⟨w, mn, rfl, rfl, hF, h⟩ := h
  refine ⟨by simp [am_sl, Value.category], ?_⟩
  show AA 0 [some (.ref 51), some (.int w), none, none, none] [] 92 σ
  refine hA [(4, 4), (20, 5)] 20 _ _ _ _ _ ?_
  try simp only [dX12_pours_0, dX12_pours_1, dX12_pours_2, dX12_pours_3, dX12_pours_4, dX12_pours_5, dX12_pours_6, FT_X12_43, dX12_pours_9, dX12_pours_10, FT_X12_221, dX12_pours_13, dX12_pours_14, xX12_pours_t14, dX12_pours_17, dX12_pours_18, dX12_pours_20, dX12_pours_22, dX12_pours_23, FT_X12_46, dX12_pours_26, dX12_pours_27, dX12_pours_30, dX12_pours_31, xX12_pours_t31, dX12_pours_34, dX12_pours_35, FT_X12_104, dX12_pours_38, dX12_pours_40, dX12_pours_41, dX12_pours_42, xX12_pours_t42, dX12_pours_45, xX12_pours_t45, dX12_pours_48, dX12_pours_49, FT_X12_110, dX12_pours_52, dX12_pours_54, dX12_pours_55, dX12_pours_57, dX12_pours_58, xX12_pours_c390, xX12_pours_n390, dX12_pours_61, dX12_pours_62, dX12_pours_63, dX12_pours_64, dX12_pours_67, dX12_pours_69, dX12_pours_70, dX12_pours_71, dX12_pours_72, dX12_pours_75, xX12_pours_t75, dX12_pours_78, dX12_pours_81, xX12_pours_t81, dX12_pours_84, dX12_pours_85, xX12_pours_SH, xX12_pours_KF, xX12_pours_rt, xX12_pours_FT, xX12_pours_PT, xX12_pours_CT, xX12_pours_KT, xX12_pours_LT, xX12_pours_NT, o_aload_n, o_getfield, o_goto, o_iaload, o_iastore, o_iconst, o_if_icmp_eq, o_if_icmp_ge, o_iinc, o_iload, o_iload_n, o_invokevirtual, o_ireturn, o_istore, o_istore_n, o_isub, SH_51, KF_51_46, SH_80, KF_51_23, SH_61, KF_51_51, SH_82, KF_51_22, SH_60, KF_51_18, am_vc, am_opt, am_cl, am_find, am_ldi, am_ldl, am_lda, am_v, am_1, am_1l, am_1a, am_2, am_2l, am_ix, am_ri, am_arr, am_pf, am_rc, am_mask, am_lg, am_av, am_nat, fv_0, fv_1, fv_2, fv_3, fw_0, fw_1, List.getElem?_cons_zero, List.getElem?_cons_succ, List.set_cons_zero, List.set_cons_succ, List.length_cons, List.length_nil, List.take_succ_cons, List.take_zero, List.drop_succ_cons, List.drop_zero, List.reverse_cons, List.reverse_nil, List.nil_append, List.cons_append, List.append_nil, List.map_cons, List.map_nil, List.sum_cons, List.sum_nil, Value.category, Option.toList_some, Option.toList_none, Nat.reduceAdd, Nat.reduceLT, Nat.reduceLeDiff, Nat.reduceEqDiff, Nat.reduceSub, Nat.add_zero, Nat.le_refl, Nat.zero_le, Int.reduceNeg, Int.reduceLE, Int.reduceLT, true_and, and_true, and_self, if_true, if_false, ite_true, ite_false, eq_self_iff_true, reduceIte, reduceCtorEq, not_false_eq_true, not_true_eq_false, or_true, true_or, or_false, false_or, Nat.lt_irrefl, Nat.zero_lt_succ]
  exact po_loop hA hF h 0 (by omega)
theorem mX12_pours (l : Launch) : am_M l TB NB vwCl SH KF yX12_pours cX12_pours 5 (some .int) 5 0 0 sX12_pours := by
  refine am_M.of xX12_pours (by decide +kernel) TB_good GF rfl rfl rfl (by decide) ⟨FT_X12_ok, PT_X12_ok _, CT_X12_ok, KT_X12_ok, LT_X12_ok, NT_X12_ok, ?_⟩ pX12_pours
  exact List.forall_mem_cons.mpr ⟨⟨yX12_cupOf, cX12_cupOf, 3, (some .int), 4, 2, mX12_cupOf l, by decide, by decide, tb_at 1728 (by decide +kernel) (by decide +kernel), tb_at 124 (by decide +kernel) (by decide +kernel), ⟨by decide +kernel, by decide +kernel, by decide +kernel⟩, rfl, tb_at 1725 (by decide +kernel) (by decide +kernel), tb_at 1727 (by decide +kernel) (by decide +kernel), ⟨(RX12, TX12, 63), rfl, tb_at 82 (by decide +kernel) (by decide +kernel)⟩⟩, fun _ h => absurd h List.not_mem_nil⟩

-- isWater, isLong, isWidth
def sX12_isWater : am_Sp := fun as _ σ post => ∃ v : Int, (-2147483648 ≤ v ∧ v < 2147483648) ∧ as = [.int (Int32.ofInt v)] ∧ post (some (.int (Int32.ofInt (if 0 ≤ v ∧ v ≤ 99 then 1 else 0)))) σ
def xX12_isWater : am_X := (SH, KF, (some .boolean), FT_X12, PT_X12, CT_X12, KT_X12, LT_X12, NT_X12, [(292, 1, 3, 12, 0, 0, sX12_in)])
theorem xX12_isWater_SH : am_SH xX12_isWater = SH := rfl
theorem xX12_isWater_KF : am_KF xX12_isWater = KF := rfl
theorem xX12_isWater_rt : am_rt xX12_isWater = (some .boolean) := rfl
theorem xX12_isWater_FT : am_FT xX12_isWater = FT_X12 := rfl
theorem xX12_isWater_PT : am_PT xX12_isWater = PT_X12 := rfl
theorem xX12_isWater_CT : am_CT xX12_isWater = CT_X12 := rfl
theorem xX12_isWater_KT : am_KT xX12_isWater = KT_X12 := rfl
theorem xX12_isWater_LT : am_LT xX12_isWater = LT_X12 := rfl
theorem xX12_isWater_NT : am_NT xX12_isWater = NT_X12 := rfl
theorem xX12_isWater_c292 : am_find (am_ML xX12_isWater) 292 = some (1, 3, 12, 0, 0, sX12_in) := rfl
theorem xX12_isWater_n292 : am_find NT_X12 292 = none := rfl

set_option maxRecDepth 100000 in
theorem pX12_isWater : am_B cX12_isWater xX12_isWater 1 0 sX12_isWater := by
  intro n0 as σ post AA hA h
  obtain ⟨v, hv, rfl, h⟩ := h
  refine ⟨by simp [am_sl, Value.category], ?_⟩
  show AA 0 [some (.int (Int32.ofInt v))] [] n0 σ
  refine hA [] 20 _ _ _ _ _ ?_
  try simp only [dX12_isWater_0, dX12_isWater_1, dX12_isWater_2, dX12_isWater_4, xX12_isWater_c292, xX12_isWater_n292, dX12_isWater_7, xX12_isWater_SH, xX12_isWater_KF, xX12_isWater_rt, xX12_isWater_FT, xX12_isWater_PT, xX12_isWater_CT, xX12_isWater_KT, xX12_isWater_LT, xX12_isWater_NT, o_bipush, o_iconst, o_iload_n, o_invokestatic, o_ireturn, am_vc, am_opt, am_cl, am_find, am_ldi, am_ldl, am_lda, am_v, am_1, am_1l, am_1a, am_2, am_2l, am_ix, am_ri, am_arr, am_pf, am_rc, am_mask, am_lg, am_av, am_nat, fv_0, fv_1, fv_2, fv_3, fw_0, fw_1, List.getElem?_cons_zero, List.getElem?_cons_succ, List.set_cons_zero, List.set_cons_succ, List.length_cons, List.length_nil, List.take_succ_cons, List.take_zero, List.drop_succ_cons, List.drop_zero, List.reverse_cons, List.reverse_nil, List.nil_append, List.cons_append, List.append_nil, List.map_cons, List.map_nil, List.sum_cons, List.sum_nil, Value.category, Option.toList_some, Option.toList_none, Nat.reduceAdd, Nat.reduceLT, Nat.reduceLeDiff, Nat.reduceEqDiff, Nat.reduceSub, Nat.add_zero, Nat.le_refl, Nat.zero_le, Int.reduceNeg, Int.reduceLE, Int.reduceLT, true_and, and_true, and_self, if_true, if_false, ite_true, ite_false, eq_self_iff_true, reduceIte, reduceCtorEq, not_false_eq_true, not_true_eq_false, or_true, true_or, or_false, false_or, Nat.lt_irrefl, Nat.zero_lt_succ]
  refine ⟨v, 0, 99, hv, by omega, by omega, rfl, ?_⟩
  try simp only [dX12_isWater_0, dX12_isWater_1, dX12_isWater_2, dX12_isWater_4, xX12_isWater_c292, xX12_isWater_n292, dX12_isWater_7, xX12_isWater_SH, xX12_isWater_KF, xX12_isWater_rt, xX12_isWater_FT, xX12_isWater_PT, xX12_isWater_CT, xX12_isWater_KT, xX12_isWater_LT, xX12_isWater_NT, o_bipush, o_iconst, o_iload_n, o_invokestatic, o_ireturn, am_vc, am_opt, am_cl, am_find, am_ldi, am_ldl, am_lda, am_v, am_1, am_1l, am_1a, am_2, am_2l, am_ix, am_ri, am_arr, am_pf, am_rc, am_mask, am_lg, am_av, am_nat, fv_0, fv_1, fv_2, fv_3, fw_0, fw_1, List.getElem?_cons_zero, List.getElem?_cons_succ, List.set_cons_zero, List.set_cons_succ, List.length_cons, List.length_nil, List.take_succ_cons, List.take_zero, List.drop_succ_cons, List.drop_zero, List.reverse_cons, List.reverse_nil, List.nil_append, List.cons_append, List.append_nil, List.map_cons, List.map_nil, List.sum_cons, List.sum_nil, Value.category, Option.toList_some, Option.toList_none, Nat.reduceAdd, Nat.reduceLT, Nat.reduceLeDiff, Nat.reduceEqDiff, Nat.reduceSub, Nat.add_zero, Nat.le_refl, Nat.zero_le, Int.reduceNeg, Int.reduceLE, Int.reduceLT, true_and, and_true, and_self, if_true, if_false, ite_true, ite_false, eq_self_iff_true, reduceIte, reduceCtorEq, not_false_eq_true, not_true_eq_false, or_true, true_or, or_false, false_or, Nat.lt_irrefl, Nat.zero_lt_succ]
  exact ⟨nb_if, h⟩
theorem mX12_isWater (l : Launch) : am_M l TB NB vwCl SH KF yX12_isWater cX12_isWater 1 (some .boolean) 3 0 0 sX12_isWater := by
  refine am_M.of xX12_isWater (by decide +kernel) TB_good GF rfl rfl rfl (by decide) ⟨FT_X12_ok, PT_X12_ok _, CT_X12_ok, KT_X12_ok, LT_X12_ok, NT_X12_ok, ?_⟩ pX12_isWater
  exact List.forall_mem_cons.mpr ⟨⟨yX12_in, cX12_in, 3, (some .boolean), 2, 3, mX12_in l, by decide, by decide, tb_at 1631 (by decide +kernel) (by decide +kernel), tb_at 124 (by decide +kernel) (by decide +kernel), ⟨by decide +kernel, by decide +kernel, by decide +kernel⟩, rfl, tb_at 1629 (by decide +kernel) (by decide +kernel), tb_at 1630 (by decide +kernel) (by decide +kernel)⟩, fun _ h => absurd h List.not_mem_nil⟩

def sX12_isLong : am_Sp := fun as _ σ post => ∃ v : Int, (-2147483648 ≤ v ∧ v < 2147483648) ∧ as = [.int (Int32.ofInt v)] ∧ post (some (.int (Int32.ofInt (if 0 ≤ v ∧ v ≤ 60 then 1 else 0)))) σ
def xX12_isLong : am_X := (SH, KF, (some .boolean), FT_X12, PT_X12, CT_X12, KT_X12, LT_X12, NT_X12, [(292, 1, 3, 12, 0, 0, sX12_in)])
theorem xX12_isLong_SH : am_SH xX12_isLong = SH := rfl
theorem xX12_isLong_KF : am_KF xX12_isLong = KF := rfl
theorem xX12_isLong_rt : am_rt xX12_isLong = (some .boolean) := rfl
theorem xX12_isLong_FT : am_FT xX12_isLong = FT_X12 := rfl
theorem xX12_isLong_PT : am_PT xX12_isLong = PT_X12 := rfl
theorem xX12_isLong_CT : am_CT xX12_isLong = CT_X12 := rfl
theorem xX12_isLong_KT : am_KT xX12_isLong = KT_X12 := rfl
theorem xX12_isLong_LT : am_LT xX12_isLong = LT_X12 := rfl
theorem xX12_isLong_NT : am_NT xX12_isLong = NT_X12 := rfl
theorem xX12_isLong_c292 : am_find (am_ML xX12_isLong) 292 = some (1, 3, 12, 0, 0, sX12_in) := rfl
theorem xX12_isLong_n292 : am_find NT_X12 292 = none := rfl

set_option maxRecDepth 100000 in
theorem pX12_isLong : am_B cX12_isLong xX12_isLong 1 0 sX12_isLong := by
  intro n0 as σ post AA hA h
  obtain ⟨v, hv, rfl, h⟩ := h
  refine ⟨by simp [am_sl, Value.category], ?_⟩
  show AA 0 [some (.int (Int32.ofInt v))] [] n0 σ
  refine hA [] 20 _ _ _ _ _ ?_
  try simp only [dX12_isLong_0, dX12_isLong_1, dX12_isLong_2, dX12_isLong_4, xX12_isLong_c292, xX12_isLong_n292, dX12_isLong_7, xX12_isLong_SH, xX12_isLong_KF, xX12_isLong_rt, xX12_isLong_FT, xX12_isLong_PT, xX12_isLong_CT, xX12_isLong_KT, xX12_isLong_LT, xX12_isLong_NT, o_bipush, o_iconst, o_iload_n, o_invokestatic, o_ireturn, am_vc, am_opt, am_cl, am_find, am_ldi, am_ldl, am_lda, am_v, am_1, am_1l, am_1a, am_2, am_2l, am_ix, am_ri, am_arr, am_pf, am_rc, am_mask, am_lg, am_av, am_nat, fv_0, fv_1, fv_2, fv_3, fw_0, fw_1, List.getElem?_cons_zero, List.getElem?_cons_succ, List.set_cons_zero, List.set_cons_succ, List.length_cons, List.length_nil, List.take_succ_cons, List.take_zero, List.drop_succ_cons, List.drop_zero, List.reverse_cons, List.reverse_nil, List.nil_append, List.cons_append, List.append_nil, List.map_cons, List.map_nil, List.sum_cons, List.sum_nil, Value.category, Option.toList_some, Option.toList_none, Nat.reduceAdd, Nat.reduceLT, Nat.reduceLeDiff, Nat.reduceEqDiff, Nat.reduceSub, Nat.add_zero, Nat.le_refl, Nat.zero_le, Int.reduceNeg, Int.reduceLE, Int.reduceLT, true_and, and_true, and_self, if_true, if_false, ite_true, ite_false, eq_self_iff_true, reduceIte, reduceCtorEq, not_false_eq_true, not_true_eq_false, or_true, true_or, or_false, false_or, Nat.lt_irrefl, Nat.zero_lt_succ]
  refine ⟨v, 0, 60, hv, by omega, by omega, rfl, ?_⟩
  try simp only [dX12_isLong_0, dX12_isLong_1, dX12_isLong_2, dX12_isLong_4, xX12_isLong_c292, xX12_isLong_n292, dX12_isLong_7, xX12_isLong_SH, xX12_isLong_KF, xX12_isLong_rt, xX12_isLong_FT, xX12_isLong_PT, xX12_isLong_CT, xX12_isLong_KT, xX12_isLong_LT, xX12_isLong_NT, o_bipush, o_iconst, o_iload_n, o_invokestatic, o_ireturn, am_vc, am_opt, am_cl, am_find, am_ldi, am_ldl, am_lda, am_v, am_1, am_1l, am_1a, am_2, am_2l, am_ix, am_ri, am_arr, am_pf, am_rc, am_mask, am_lg, am_av, am_nat, fv_0, fv_1, fv_2, fv_3, fw_0, fw_1, List.getElem?_cons_zero, List.getElem?_cons_succ, List.set_cons_zero, List.set_cons_succ, List.length_cons, List.length_nil, List.take_succ_cons, List.take_zero, List.drop_succ_cons, List.drop_zero, List.reverse_cons, List.reverse_nil, List.nil_append, List.cons_append, List.append_nil, List.map_cons, List.map_nil, List.sum_cons, List.sum_nil, Value.category, Option.toList_some, Option.toList_none, Nat.reduceAdd, Nat.reduceLT, Nat.reduceLeDiff, Nat.reduceEqDiff, Nat.reduceSub, Nat.add_zero, Nat.le_refl, Nat.zero_le, Int.reduceNeg, Int.reduceLE, Int.reduceLT, true_and, and_true, and_self, if_true, if_false, ite_true, ite_false, eq_self_iff_true, reduceIte, reduceCtorEq, not_false_eq_true, not_true_eq_false, or_true, true_or, or_false, false_or, Nat.lt_irrefl, Nat.zero_lt_succ]
  exact ⟨nb_if, h⟩
theorem mX12_isLong (l : Launch) : am_M l TB NB vwCl SH KF yX12_isLong cX12_isLong 1 (some .boolean) 3 0 0 sX12_isLong := by
  refine am_M.of xX12_isLong (by decide +kernel) TB_good GF rfl rfl rfl (by decide) ⟨FT_X12_ok, PT_X12_ok _, CT_X12_ok, KT_X12_ok, LT_X12_ok, NT_X12_ok, ?_⟩ pX12_isLong
  exact List.forall_mem_cons.mpr ⟨⟨yX12_in, cX12_in, 3, (some .boolean), 2, 3, mX12_in l, by decide, by decide, tb_at 1631 (by decide +kernel) (by decide +kernel), tb_at 124 (by decide +kernel) (by decide +kernel), ⟨by decide +kernel, by decide +kernel, by decide +kernel⟩, rfl, tb_at 1629 (by decide +kernel) (by decide +kernel), tb_at 1630 (by decide +kernel) (by decide +kernel)⟩, fun _ h => absurd h List.not_mem_nil⟩

def sX12_isWidth : am_Sp := fun as _ σ post => ∃ v : Int, (-2147483648 ≤ v ∧ v < 2147483648) ∧ as = [.int (Int32.ofInt v)] ∧ post (some (.int (Int32.ofInt (if 1 ≤ v ∧ v ≤ 9 then 1 else 0)))) σ
def xX12_isWidth : am_X := (SH, KF, (some .boolean), FT_X12, PT_X12, CT_X12, KT_X12, LT_X12, NT_X12, [(292, 1, 3, 12, 0, 0, sX12_in)])
theorem xX12_isWidth_SH : am_SH xX12_isWidth = SH := rfl
theorem xX12_isWidth_KF : am_KF xX12_isWidth = KF := rfl
theorem xX12_isWidth_rt : am_rt xX12_isWidth = (some .boolean) := rfl
theorem xX12_isWidth_FT : am_FT xX12_isWidth = FT_X12 := rfl
theorem xX12_isWidth_PT : am_PT xX12_isWidth = PT_X12 := rfl
theorem xX12_isWidth_CT : am_CT xX12_isWidth = CT_X12 := rfl
theorem xX12_isWidth_KT : am_KT xX12_isWidth = KT_X12 := rfl
theorem xX12_isWidth_LT : am_LT xX12_isWidth = LT_X12 := rfl
theorem xX12_isWidth_NT : am_NT xX12_isWidth = NT_X12 := rfl
theorem xX12_isWidth_c292 : am_find (am_ML xX12_isWidth) 292 = some (1, 3, 12, 0, 0, sX12_in) := rfl
theorem xX12_isWidth_n292 : am_find NT_X12 292 = none := rfl

set_option maxRecDepth 100000 in
theorem pX12_isWidth : am_B cX12_isWidth xX12_isWidth 1 0 sX12_isWidth := by
  intro n0 as σ post AA hA h
  obtain ⟨v, hv, rfl, h⟩ := h
  refine ⟨by simp [am_sl, Value.category], ?_⟩
  show AA 0 [some (.int (Int32.ofInt v))] [] n0 σ
  refine hA [] 20 _ _ _ _ _ ?_
  try simp only [dX12_isWidth_0, dX12_isWidth_1, dX12_isWidth_2, dX12_isWidth_4, xX12_isWidth_c292, xX12_isWidth_n292, dX12_isWidth_7, xX12_isWidth_SH, xX12_isWidth_KF, xX12_isWidth_rt, xX12_isWidth_FT, xX12_isWidth_PT, xX12_isWidth_CT, xX12_isWidth_KT, xX12_isWidth_LT, xX12_isWidth_NT, o_bipush, o_iconst, o_iload_n, o_invokestatic, o_ireturn, am_vc, am_opt, am_cl, am_find, am_ldi, am_ldl, am_lda, am_v, am_1, am_1l, am_1a, am_2, am_2l, am_ix, am_ri, am_arr, am_pf, am_rc, am_mask, am_lg, am_av, am_nat, fv_0, fv_1, fv_2, fv_3, fw_0, fw_1, List.getElem?_cons_zero, List.getElem?_cons_succ, List.set_cons_zero, List.set_cons_succ, List.length_cons, List.length_nil, List.take_succ_cons, List.take_zero, List.drop_succ_cons, List.drop_zero, List.reverse_cons, List.reverse_nil, List.nil_append, List.cons_append, List.append_nil, List.map_cons, List.map_nil, List.sum_cons, List.sum_nil, Value.category, Option.toList_some, Option.toList_none, Nat.reduceAdd, Nat.reduceLT, Nat.reduceLeDiff, Nat.reduceEqDiff, Nat.reduceSub, Nat.add_zero, Nat.le_refl, Nat.zero_le, Int.reduceNeg, Int.reduceLE, Int.reduceLT, true_and, and_true, and_self, if_true, if_false, ite_true, ite_false, eq_self_iff_true, reduceIte, reduceCtorEq, not_false_eq_true, not_true_eq_false, or_true, true_or, or_false, false_or, Nat.lt_irrefl, Nat.zero_lt_succ]
  refine ⟨v, 1, 9, hv, by omega, by omega, rfl, ?_⟩
  try simp only [dX12_isWidth_0, dX12_isWidth_1, dX12_isWidth_2, dX12_isWidth_4, xX12_isWidth_c292, xX12_isWidth_n292, dX12_isWidth_7, xX12_isWidth_SH, xX12_isWidth_KF, xX12_isWidth_rt, xX12_isWidth_FT, xX12_isWidth_PT, xX12_isWidth_CT, xX12_isWidth_KT, xX12_isWidth_LT, xX12_isWidth_NT, o_bipush, o_iconst, o_iload_n, o_invokestatic, o_ireturn, am_vc, am_opt, am_cl, am_find, am_ldi, am_ldl, am_lda, am_v, am_1, am_1l, am_1a, am_2, am_2l, am_ix, am_ri, am_arr, am_pf, am_rc, am_mask, am_lg, am_av, am_nat, fv_0, fv_1, fv_2, fv_3, fw_0, fw_1, List.getElem?_cons_zero, List.getElem?_cons_succ, List.set_cons_zero, List.set_cons_succ, List.length_cons, List.length_nil, List.take_succ_cons, List.take_zero, List.drop_succ_cons, List.drop_zero, List.reverse_cons, List.reverse_nil, List.nil_append, List.cons_append, List.append_nil, List.map_cons, List.map_nil, List.sum_cons, List.sum_nil, Value.category, Option.toList_some, Option.toList_none, Nat.reduceAdd, Nat.reduceLT, Nat.reduceLeDiff, Nat.reduceEqDiff, Nat.reduceSub, Nat.add_zero, Nat.le_refl, Nat.zero_le, Int.reduceNeg, Int.reduceLE, Int.reduceLT, true_and, and_true, and_self, if_true, if_false, ite_true, ite_false, eq_self_iff_true, reduceIte, reduceCtorEq, not_false_eq_true, not_true_eq_false, or_true, true_or, or_false, false_or, Nat.lt_irrefl, Nat.zero_lt_succ]
  exact ⟨nb_if, h⟩
theorem mX12_isWidth (l : Launch) : am_M l TB NB vwCl SH KF yX12_isWidth cX12_isWidth 1 (some .boolean) 3 0 0 sX12_isWidth := by
  refine am_M.of xX12_isWidth (by decide +kernel) TB_good GF rfl rfl rfl (by decide) ⟨FT_X12_ok, PT_X12_ok _, CT_X12_ok, KT_X12_ok, LT_X12_ok, NT_X12_ok, ?_⟩ pX12_isWidth
  exact List.forall_mem_cons.mpr ⟨⟨yX12_in, cX12_in, 3, (some .boolean), 2, 3, mX12_in l, by decide, by decide, tb_at 1631 (by decide +kernel) (by decide +kernel), tb_at 124 (by decide +kernel) (by decide +kernel), ⟨by decide +kernel, by decide +kernel, by decide +kernel⟩, rfl, tb_at 1629 (by decide +kernel) (by decide +kernel), tb_at 1630 (by decide +kernel) (by decide +kernel)⟩, fun _ h => absurd h List.not_mem_nil⟩
end
section
theorem i_vc : Claimed_1_1 ∧ Claimed_1_2 := sorry
end
