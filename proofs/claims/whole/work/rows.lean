section
-- ===== PART A: goes FIRST, ahead of the names: the tables' words, and 'selects' of the private methods out of them =====
/-- a private method of a class that the tables say can be made, by its rows of tables_1 -/
def lw_okq (q : MethodName × Nat) : Prop := (q.1.cls ≠ "java/lang/invoke/MethodHandle" ∧ q.1.cls ≠ "java/lang/invoke/VarHandle") ∧ Cond.instantiable q.1.cls q.2 ∈ tables_1 ∧ Cond.privateMethod q.1 ∈ tables_1 ∧ Cond.instanceMethod q.1 ∈ tables_1
theorem lw_p0 : lw_okq (⟨"LadderStreet", "putFour", "(I)V"⟩, 14) := ⟨⟨by decide +kernel, by decide +kernel⟩, List.mem_of_getElem? (i := 23) (by decide +kernel), List.mem_of_getElem? (i := 419) (by decide +kernel), List.mem_of_getElem? (i := 420) (by decide +kernel)⟩
theorem lw_p1 : lw_okq (⟨"LadderStreet$Tokens", "splitName", "([BII)I"⟩, 5) := ⟨⟨by decide +kernel, by decide +kernel⟩, List.mem_of_getElem? (i := 122) (by decide +kernel), List.mem_of_getElem? (i := 451) (by decide +kernel), List.mem_of_getElem? (i := 452) (by decide +kernel)⟩
theorem lw_p2 : lw_okq (⟨"LadderStreet$Tokens", "kindOfName", "(J)I"⟩, 5) := ⟨⟨by decide +kernel, by decide +kernel⟩, List.mem_of_getElem? (i := 122) (by decide +kernel), List.mem_of_getElem? (i := 455) (by decide +kernel), List.mem_of_getElem? (i := 456) (by decide +kernel)⟩
theorem lw_p3 : lw_okq (⟨"LadderStreet$Tokens", "add", "(IIJ)V"⟩, 5) := ⟨⟨by decide +kernel, by decide +kernel⟩, List.mem_of_getElem? (i := 122) (by decide +kernel), List.mem_of_getElem? (i := 459) (by decide +kernel), List.mem_of_getElem? (i := 460) (by decide +kernel)⟩
theorem lw_p4 : lw_okq (⟨"LadderStreet$Tokens", "splitInt", "([BII)I"⟩, 5) := ⟨⟨by decide +kernel, by decide +kernel⟩, List.mem_of_getElem? (i := 122) (by decide +kernel), List.mem_of_getElem? (i := 466) (by decide +kernel), List.mem_of_getElem? (i := 467) (by decide +kernel)⟩
theorem lw_p5 : lw_okq (⟨"LadderStreet$Reader", "take", "(I)Z"⟩, 11) := ⟨⟨by decide +kernel, by decide +kernel⟩, List.mem_of_getElem? (i := 31) (by decide +kernel), List.mem_of_getElem? (i := 498) (by decide +kernel), List.mem_of_getElem? (i := 499) (by decide +kernel)⟩
theorem lw_p6 : lw_okq (⟨"LadderStreet$Reader", "fail", "(I)V"⟩, 11) := ⟨⟨by decide +kernel, by decide +kernel⟩, List.mem_of_getElem? (i := 31) (by decide +kernel), List.mem_of_getElem? (i := 502) (by decide +kernel), List.mem_of_getElem? (i := 503) (by decide +kernel)⟩
theorem lw_p7 : lw_okq (⟨"LadderStreet$Reader", "readInt", "(II)I"⟩, 11) := ⟨⟨by decide +kernel, by decide +kernel⟩, List.mem_of_getElem? (i := 31) (by decide +kernel), List.mem_of_getElem? (i := 506) (by decide +kernel), List.mem_of_getElem? (i := 507) (by decide +kernel)⟩
theorem lw_p8 : lw_okq (⟨"LadderStreet$Reader", "note", "(II)V"⟩, 11) := ⟨⟨by decide +kernel, by decide +kernel⟩, List.mem_of_getElem? (i := 31) (by decide +kernel), List.mem_of_getElem? (i := 510) (by decide +kernel), List.mem_of_getElem? (i := 511) (by decide +kernel)⟩
theorem lw_p9 : lw_okq (⟨"LadderStreet$Reader", "readPerson", "()V"⟩, 11) := ⟨⟨by decide +kernel, by decide +kernel⟩, List.mem_of_getElem? (i := 31) (by decide +kernel), List.mem_of_getElem? (i := 514) (by decide +kernel), List.mem_of_getElem? (i := 515) (by decide +kernel)⟩
theorem lw_p10 : lw_okq (⟨"LadderStreet$Reader", "readName", "()V"⟩, 11) := ⟨⟨by decide +kernel, by decide +kernel⟩, List.mem_of_getElem? (i := 31) (by decide +kernel), List.mem_of_getElem? (i := 518) (by decide +kernel), List.mem_of_getElem? (i := 519) (by decide +kernel)⟩
theorem lw_p11 : lw_okq (⟨"LadderStreet$Reader", "readLaw", "(I)V"⟩, 11) := ⟨⟨by decide +kernel, by decide +kernel⟩, List.mem_of_getElem? (i := 31) (by decide +kernel), List.mem_of_getElem? (i := 526) (by decide +kernel), List.mem_of_getElem? (i := 527) (by decide +kernel)⟩
theorem lw_p12 : lw_okq (⟨"LadderStreet$Reader", "readSum", "(I)V"⟩, 11) := ⟨⟨by decide +kernel, by decide +kernel⟩, List.mem_of_getElem? (i := 31) (by decide +kernel), List.mem_of_getElem? (i := 531) (by decide +kernel), List.mem_of_getElem? (i := 532) (by decide +kernel)⟩
theorem lw_p13 : lw_okq (⟨"LadderStreet$Reader", "readProduct", "(I)V"⟩, 11) := ⟨⟨by decide +kernel, by decide +kernel⟩, List.mem_of_getElem? (i := 31) (by decide +kernel), List.mem_of_getElem? (i := 535) (by decide +kernel), List.mem_of_getElem? (i := 536) (by decide +kernel)⟩
theorem lw_p14 : lw_okq (⟨"LadderStreet$Reader", "readUnit", "(I)V"⟩, 11) := ⟨⟨by decide +kernel, by decide +kernel⟩, List.mem_of_getElem? (i := 31) (by decide +kernel), List.mem_of_getElem? (i := 539) (by decide +kernel), List.mem_of_getElem? (i := 540) (by decide +kernel)⟩
theorem lw_p15 : lw_okq (⟨"LadderStreet", "areThere", "(II)Z"⟩, 14) := ⟨⟨by decide +kernel, by decide +kernel⟩, List.mem_of_getElem? (i := 23) (by decide +kernel), List.mem_of_getElem? (i := 677) (by decide +kernel), List.mem_of_getElem? (i := 678) (by decide +kernel)⟩
def lw_privs_1 : List (MethodName × Nat) := [(⟨"LadderStreet", "putFour", "(I)V"⟩, 14), (⟨"LadderStreet$Tokens", "splitName", "([BII)I"⟩, 5), (⟨"LadderStreet$Tokens", "kindOfName", "(J)I"⟩, 5), (⟨"LadderStreet$Tokens", "add", "(IIJ)V"⟩, 5), (⟨"LadderStreet$Tokens", "splitInt", "([BII)I"⟩, 5), (⟨"LadderStreet$Reader", "take", "(I)Z"⟩, 11), (⟨"LadderStreet$Reader", "fail", "(I)V"⟩, 11), (⟨"LadderStreet$Reader", "readInt", "(II)I"⟩, 11), (⟨"LadderStreet$Reader", "note", "(II)V"⟩, 11), (⟨"LadderStreet$Reader", "readPerson", "()V"⟩, 11), (⟨"LadderStreet$Reader", "readName", "()V"⟩, 11), (⟨"LadderStreet$Reader", "readLaw", "(I)V"⟩, 11), (⟨"LadderStreet$Reader", "readSum", "(I)V"⟩, 11), (⟨"LadderStreet$Reader", "readProduct", "(I)V"⟩, 11), (⟨"LadderStreet$Reader", "readUnit", "(I)V"⟩, 11), (⟨"LadderStreet", "areThere", "(II)Z"⟩, 14)]
theorem lw_r1 : ∀ q ∈ lw_privs_1, lw_okq q := List.forall_mem_cons.mpr ⟨lw_p0, List.forall_mem_cons.mpr ⟨lw_p1, List.forall_mem_cons.mpr ⟨lw_p2, List.forall_mem_cons.mpr ⟨lw_p3, List.forall_mem_cons.mpr ⟨lw_p4, List.forall_mem_cons.mpr ⟨lw_p5, List.forall_mem_cons.mpr ⟨lw_p6, List.forall_mem_cons.mpr ⟨lw_p7, List.forall_mem_cons.mpr ⟨lw_p8, List.forall_mem_cons.mpr ⟨lw_p9, List.forall_mem_cons.mpr ⟨lw_p10, List.forall_mem_cons.mpr ⟨lw_p11, List.forall_mem_cons.mpr ⟨lw_p12, List.forall_mem_cons.mpr ⟨lw_p13, List.forall_mem_cons.mpr ⟨lw_p14, List.forall_mem_cons.mpr ⟨lw_p15, fun _ h => absurd h List.not_mem_nil⟩⟩⟩⟩⟩⟩⟩⟩⟩⟩⟩⟩⟩⟩⟩⟩
theorem lw_p16 : lw_okq (⟨"LadderStreet$Course", "cupOf", "(LLadderStreet$Moment;II)I"⟩, 2) := ⟨⟨by decide +kernel, by decide +kernel⟩, List.mem_of_getElem? (i := 267) (by decide +kernel), List.mem_of_getElem? (i := 786) (by decide +kernel), List.mem_of_getElem? (i := 787) (by decide +kernel)⟩
theorem lw_p17 : lw_okq (⟨"LadderStreet$Course", "setPerson", "(LLadderStreet$Moment;I)V"⟩, 2) := ⟨⟨by decide +kernel, by decide +kernel⟩, List.mem_of_getElem? (i := 267) (by decide +kernel), List.mem_of_getElem? (i := 790) (by decide +kernel), List.mem_of_getElem? (i := 791) (by decide +kernel)⟩
theorem lw_p18 : lw_okq (⟨"LadderStreet$Course", "goOn", "(LLadderStreet$Moment;I)V"⟩, 2) := ⟨⟨by decide +kernel, by decide +kernel⟩, List.mem_of_getElem? (i := 267) (by decide +kernel), List.mem_of_getElem? (i := 805) (by decide +kernel), List.mem_of_getElem? (i := 806) (by decide +kernel)⟩
theorem lw_p19 : lw_okq (⟨"LadderStreet$Course", "quarrelOf", "(LLadderStreet$Moment;II)I"⟩, 2) := ⟨⟨by decide +kernel, by decide +kernel⟩, List.mem_of_getElem? (i := 267) (by decide +kernel), List.mem_of_getElem? (i := 814) (by decide +kernel), List.mem_of_getElem? (i := 815) (by decide +kernel)⟩
theorem lw_p20 : lw_okq (⟨"LadderStreet$Course", "breakAndFall", "(LLadderStreet$Moment;I)V"⟩, 2) := ⟨⟨by decide +kernel, by decide +kernel⟩, List.mem_of_getElem? (i := 267) (by decide +kernel), List.mem_of_getElem? (i := 828) (by decide +kernel), List.mem_of_getElem? (i := 829) (by decide +kernel)⟩
theorem lw_p21 : lw_okq (⟨"LadderStreet$Course", "fall", "(LLadderStreet$Moment;I)V"⟩, 2) := ⟨⟨by decide +kernel, by decide +kernel⟩, List.mem_of_getElem? (i := 267) (by decide +kernel), List.mem_of_getElem? (i := 845) (by decide +kernel), List.mem_of_getElem? (i := 846) (by decide +kernel)⟩
theorem lw_p22 : lw_okq (⟨"LadderStreet", "areTwo", "(II)Z"⟩, 14) := ⟨⟨by decide +kernel, by decide +kernel⟩, List.mem_of_getElem? (i := 23) (by decide +kernel), List.mem_of_getElem? (i := 898) (by decide +kernel), List.mem_of_getElem? (i := 899) (by decide +kernel)⟩
theorem lw_p23 : lw_okq (⟨"LadderStreet$Ways", "setSpace", "(LLadderStreet$Moment;III)V"⟩, 5) := ⟨⟨by decide +kernel, by decide +kernel⟩, List.mem_of_getElem? (i := 280) (by decide +kernel), List.mem_of_getElem? (i := 911) (by decide +kernel), List.mem_of_getElem? (i := 912) (by decide +kernel)⟩
theorem lw_p24 : lw_okq (⟨"LadderStreet$Ways", "ownWidth", "(LLadderStreet$Moment;II)I"⟩, 5) := ⟨⟨by decide +kernel, by decide +kernel⟩, List.mem_of_getElem? (i := 280) (by decide +kernel), List.mem_of_getElem? (i := 919) (by decide +kernel), List.mem_of_getElem? (i := 920) (by decide +kernel)⟩
theorem lw_p25 : lw_okq (⟨"LadderStreet$Ways", "spreadBoth", "(II)V"⟩, 5) := ⟨⟨by decide +kernel, by decide +kernel⟩, List.mem_of_getElem? (i := 280) (by decide +kernel), List.mem_of_getElem? (i := 924) (by decide +kernel), List.mem_of_getElem? (i := 925) (by decide +kernel)⟩
theorem lw_p26 : lw_okq (⟨"LadderStreet$Ways", "spreadOne", "(IIII)V"⟩, 5) := ⟨⟨by decide +kernel, by decide +kernel⟩, List.mem_of_getElem? (i := 280) (by decide +kernel), List.mem_of_getElem? (i := 928) (by decide +kernel), List.mem_of_getElem? (i := 929) (by decide +kernel)⟩
theorem lw_p27 : lw_okq (⟨"LadderStreet$Ways", "takes", "(II)Z"⟩, 5) := ⟨⟨by decide +kernel, by decide +kernel⟩, List.mem_of_getElem? (i := 280) (by decide +kernel), List.mem_of_getElem? (i := 933) (by decide +kernel), List.mem_of_getElem? (i := 934) (by decide +kernel)⟩
theorem lw_p28 : lw_okq (⟨"LadderStreet$Ways", "otherPlaces", "(IIII)I"⟩, 5) := ⟨⟨by decide +kernel, by decide +kernel⟩, List.mem_of_getElem? (i := 280) (by decide +kernel), List.mem_of_getElem? (i := 937) (by decide +kernel), List.mem_of_getElem? (i := 938) (by decide +kernel)⟩
theorem lw_p29 : lw_okq (⟨"LadderStreet$Ways", "spread", "(II)I"⟩, 5) := ⟨⟨by decide +kernel, by decide +kernel⟩, List.mem_of_getElem? (i := 280) (by decide +kernel), List.mem_of_getElem? (i := 949) (by decide +kernel), List.mem_of_getElem? (i := 950) (by decide +kernel)⟩
theorem lw_p30 : lw_okq (⟨"LadderStreet$Looks", "widthsWith", "(LLadderStreet$Moment;III)I"⟩, 2) := ⟨⟨by decide +kernel, by decide +kernel⟩, List.mem_of_getElem? (i := 302) (by decide +kernel), List.mem_of_getElem? (i := 969) (by decide +kernel), List.mem_of_getElem? (i := 970) (by decide +kernel)⟩
theorem lw_p31 : lw_okq (⟨"LadderStreet$Homes", "settle", "(LLadderStreet$Moment;II)Z"⟩, 4) := ⟨⟨by decide +kernel, by decide +kernel⟩, List.mem_of_getElem? (i := 315) (by decide +kernel), List.mem_of_getElem? (i := 1024) (by decide +kernel), List.mem_of_getElem? (i := 1025) (by decide +kernel)⟩
def lw_privs_2 : List (MethodName × Nat) := [(⟨"LadderStreet$Course", "cupOf", "(LLadderStreet$Moment;II)I"⟩, 2), (⟨"LadderStreet$Course", "setPerson", "(LLadderStreet$Moment;I)V"⟩, 2), (⟨"LadderStreet$Course", "goOn", "(LLadderStreet$Moment;I)V"⟩, 2), (⟨"LadderStreet$Course", "quarrelOf", "(LLadderStreet$Moment;II)I"⟩, 2), (⟨"LadderStreet$Course", "breakAndFall", "(LLadderStreet$Moment;I)V"⟩, 2), (⟨"LadderStreet$Course", "fall", "(LLadderStreet$Moment;I)V"⟩, 2), (⟨"LadderStreet", "areTwo", "(II)Z"⟩, 14), (⟨"LadderStreet$Ways", "setSpace", "(LLadderStreet$Moment;III)V"⟩, 5), (⟨"LadderStreet$Ways", "ownWidth", "(LLadderStreet$Moment;II)I"⟩, 5), (⟨"LadderStreet$Ways", "spreadBoth", "(II)V"⟩, 5), (⟨"LadderStreet$Ways", "spreadOne", "(IIII)V"⟩, 5), (⟨"LadderStreet$Ways", "takes", "(II)Z"⟩, 5), (⟨"LadderStreet$Ways", "otherPlaces", "(IIII)I"⟩, 5), (⟨"LadderStreet$Ways", "spread", "(II)I"⟩, 5), (⟨"LadderStreet$Looks", "widthsWith", "(LLadderStreet$Moment;III)I"⟩, 2), (⟨"LadderStreet$Homes", "settle", "(LLadderStreet$Moment;II)Z"⟩, 4)]
theorem lw_r2 : ∀ q ∈ lw_privs_2, lw_okq q := List.forall_mem_cons.mpr ⟨lw_p16, List.forall_mem_cons.mpr ⟨lw_p17, List.forall_mem_cons.mpr ⟨lw_p18, List.forall_mem_cons.mpr ⟨lw_p19, List.forall_mem_cons.mpr ⟨lw_p20, List.forall_mem_cons.mpr ⟨lw_p21, List.forall_mem_cons.mpr ⟨lw_p22, List.forall_mem_cons.mpr ⟨lw_p23, List.forall_mem_cons.mpr ⟨lw_p24, List.forall_mem_cons.mpr ⟨lw_p25, List.forall_mem_cons.mpr ⟨lw_p26, List.forall_mem_cons.mpr ⟨lw_p27, List.forall_mem_cons.mpr ⟨lw_p28, List.forall_mem_cons.mpr ⟨lw_p29, List.forall_mem_cons.mpr ⟨lw_p30, List.forall_mem_cons.mpr ⟨lw_p31, fun _ h => absurd h List.not_mem_nil⟩⟩⟩⟩⟩⟩⟩⟩⟩⟩⟩⟩⟩⟩⟩⟩
theorem lw_p32 : lw_okq (⟨"LadderStreet$Looks", "whoHears", "(LLadderStreet$Moment;I)I"⟩, 2) := ⟨⟨by decide +kernel, by decide +kernel⟩, List.mem_of_getElem? (i := 302) (by decide +kernel), List.mem_of_getElem? (i := 1044) (by decide +kernel), List.mem_of_getElem? (i := 1045) (by decide +kernel)⟩
theorem lw_p33 : lw_okq (⟨"LadderStreet$Looks", "areNear", "(LLadderStreet$Moment;III)Z"⟩, 2) := ⟨⟨by decide +kernel, by decide +kernel⟩, List.mem_of_getElem? (i := 302) (by decide +kernel), List.mem_of_getElem? (i := 1049) (by decide +kernel), List.mem_of_getElem? (i := 1050) (by decide +kernel)⟩
theorem lw_p34 : lw_okq (⟨"LadderStreet$Looks", "mostPairs", "(LLadderStreet$Moment;III)I"⟩, 2) := ⟨⟨by decide +kernel, by decide +kernel⟩, List.mem_of_getElem? (i := 302) (by decide +kernel), List.mem_of_getElem? (i := 1061) (by decide +kernel), List.mem_of_getElem? (i := 1062) (by decide +kernel)⟩
theorem lw_p35 : lw_okq (⟨"LadderStreet", "letDownLater", "(I)V"⟩, 14) := ⟨⟨by decide +kernel, by decide +kernel⟩, List.mem_of_getElem? (i := 23) (by decide +kernel), List.mem_of_getElem? (i := 1086) (by decide +kernel), List.mem_of_getElem? (i := 1087) (by decide +kernel)⟩
theorem lw_p36 : lw_okq (⟨"LadderStreet$Course", "nobodyGoes", "(LLadderStreet$Moment;)Z"⟩, 2) := ⟨⟨by decide +kernel, by decide +kernel⟩, List.mem_of_getElem? (i := 267) (by decide +kernel), List.mem_of_getElem? (i := 1114) (by decide +kernel), List.mem_of_getElem? (i := 1115) (by decide +kernel)⟩
theorem lw_p37 : lw_okq (⟨"LadderStreet", "lookAhead", "(I)V"⟩, 14) := ⟨⟨by decide +kernel, by decide +kernel⟩, List.mem_of_getElem? (i := 23) (by decide +kernel), List.mem_of_getElem? (i := 1127) (by decide +kernel), List.mem_of_getElem? (i := 1128) (by decide +kernel)⟩
theorem lw_p38 : lw_okq (⟨"LadderStreet$Rumours", "doesFit", "(LLadderStreet$Moment;II)Z"⟩, 4) := ⟨⟨by decide +kernel, by decide +kernel⟩, List.mem_of_getElem? (i := 334) (by decide +kernel), List.mem_of_getElem? (i := 1172) (by decide +kernel), List.mem_of_getElem? (i := 1173) (by decide +kernel)⟩
theorem lw_p39 : lw_okq (⟨"LadderStreet$Rumours", "treads", "(LLadderStreet$Moment;II)Z"⟩, 4) := ⟨⟨by decide +kernel, by decide +kernel⟩, List.mem_of_getElem? (i := 334) (by decide +kernel), List.mem_of_getElem? (i := 1177) (by decide +kernel), List.mem_of_getElem? (i := 1178) (by decide +kernel)⟩
theorem lw_p40 : lw_okq (⟨"LadderStreet$Rumours", "whoTreads", "(LLadderStreet$Moment;I)I"⟩, 4) := ⟨⟨by decide +kernel, by decide +kernel⟩, List.mem_of_getElem? (i := 334) (by decide +kernel), List.mem_of_getElem? (i := 1190) (by decide +kernel), List.mem_of_getElem? (i := 1191) (by decide +kernel)⟩
theorem lw_p41 : lw_okq (⟨"LadderStreetModel", "plain", "(I)V"⟩, 63) := ⟨⟨by decide +kernel, by decide +kernel⟩, List.mem_of_getElem? (i := 1196) (by decide +kernel), List.mem_of_getElem? (i := 1202) (by decide +kernel), List.mem_of_getElem? (i := 1203) (by decide +kernel)⟩
theorem lw_p42 : lw_okq (⟨"LadderStreetModel", "begins", "()V"⟩, 63) := ⟨⟨by decide +kernel, by decide +kernel⟩, List.mem_of_getElem? (i := 1196) (by decide +kernel), List.mem_of_getElem? (i := 1213) (by decide +kernel), List.mem_of_getElem? (i := 1214) (by decide +kernel)⟩
theorem lw_p43 : lw_okq (⟨"LadderStreetModel", "keepsRow", "()V"⟩, 63) := ⟨⟨by decide +kernel, by decide +kernel⟩, List.mem_of_getElem? (i := 1196) (by decide +kernel), List.mem_of_getElem? (i := 1217) (by decide +kernel), List.mem_of_getElem? (i := 1218) (by decide +kernel)⟩
theorem lw_p44 : lw_okq (⟨"LadderStreetModel", "put", "(I)V"⟩, 63) := ⟨⟨by decide +kernel, by decide +kernel⟩, List.mem_of_getElem? (i := 1196) (by decide +kernel), List.mem_of_getElem? (i := 1414) (by decide +kernel), List.mem_of_getElem? (i := 1415) (by decide +kernel)⟩
theorem lw_p45 : lw_okq (⟨"LadderStreetModel", "cut", "()V"⟩, 63) := ⟨⟨by decide +kernel, by decide +kernel⟩, List.mem_of_getElem? (i := 1196) (by decide +kernel), List.mem_of_getElem? (i := 1426) (by decide +kernel), List.mem_of_getElem? (i := 1427) (by decide +kernel)⟩
theorem lw_p46 : lw_okq (⟨"LadderStreetModel", "byteAt", "(I)I"⟩, 63) := ⟨⟨by decide +kernel, by decide +kernel⟩, List.mem_of_getElem? (i := 1196) (by decide +kernel), List.mem_of_getElem? (i := 1430) (by decide +kernel), List.mem_of_getElem? (i := 1431) (by decide +kernel)⟩
theorem lw_p47 : lw_okq (⟨"LadderStreetModel", "token", "(IIIJ)V"⟩, 63) := ⟨⟨by decide +kernel, by decide +kernel⟩, List.mem_of_getElem? (i := 1196) (by decide +kernel), List.mem_of_getElem? (i := 1434) (by decide +kernel), List.mem_of_getElem? (i := 1435) (by decide +kernel)⟩
def lw_privs_3 : List (MethodName × Nat) := [(⟨"LadderStreet$Looks", "whoHears", "(LLadderStreet$Moment;I)I"⟩, 2), (⟨"LadderStreet$Looks", "areNear", "(LLadderStreet$Moment;III)Z"⟩, 2), (⟨"LadderStreet$Looks", "mostPairs", "(LLadderStreet$Moment;III)I"⟩, 2), (⟨"LadderStreet", "letDownLater", "(I)V"⟩, 14), (⟨"LadderStreet$Course", "nobodyGoes", "(LLadderStreet$Moment;)Z"⟩, 2), (⟨"LadderStreet", "lookAhead", "(I)V"⟩, 14), (⟨"LadderStreet$Rumours", "doesFit", "(LLadderStreet$Moment;II)Z"⟩, 4), (⟨"LadderStreet$Rumours", "treads", "(LLadderStreet$Moment;II)Z"⟩, 4), (⟨"LadderStreet$Rumours", "whoTreads", "(LLadderStreet$Moment;I)I"⟩, 4), (⟨"LadderStreetModel", "plain", "(I)V"⟩, 63), (⟨"LadderStreetModel", "begins", "()V"⟩, 63), (⟨"LadderStreetModel", "keepsRow", "()V"⟩, 63), (⟨"LadderStreetModel", "put", "(I)V"⟩, 63), (⟨"LadderStreetModel", "cut", "()V"⟩, 63), (⟨"LadderStreetModel", "byteAt", "(I)I"⟩, 63), (⟨"LadderStreetModel", "token", "(IIIJ)V"⟩, 63)]
theorem lw_r3 : ∀ q ∈ lw_privs_3, lw_okq q := List.forall_mem_cons.mpr ⟨lw_p32, List.forall_mem_cons.mpr ⟨lw_p33, List.forall_mem_cons.mpr ⟨lw_p34, List.forall_mem_cons.mpr ⟨lw_p35, List.forall_mem_cons.mpr ⟨lw_p36, List.forall_mem_cons.mpr ⟨lw_p37, List.forall_mem_cons.mpr ⟨lw_p38, List.forall_mem_cons.mpr ⟨lw_p39, List.forall_mem_cons.mpr ⟨lw_p40, List.forall_mem_cons.mpr ⟨lw_p41, List.forall_mem_cons.mpr ⟨lw_p42, List.forall_mem_cons.mpr ⟨lw_p43, List.forall_mem_cons.mpr ⟨lw_p44, List.forall_mem_cons.mpr ⟨lw_p45, List.forall_mem_cons.mpr ⟨lw_p46, List.forall_mem_cons.mpr ⟨lw_p47, fun _ h => absurd h List.not_mem_nil⟩⟩⟩⟩⟩⟩⟩⟩⟩⟩⟩⟩⟩⟩⟩⟩
theorem lw_p48 : lw_okq (⟨"LadderStreetModel", "sign", "(III)I"⟩, 63) := ⟨⟨by decide +kernel, by decide +kernel⟩, List.mem_of_getElem? (i := 1196) (by decide +kernel), List.mem_of_getElem? (i := 1444) (by decide +kernel), List.mem_of_getElem? (i := 1445) (by decide +kernel)⟩
theorem lw_p49 : lw_okq (⟨"LadderStreetModel", "is", "(I)Z"⟩, 63) := ⟨⟨by decide +kernel, by decide +kernel⟩, List.mem_of_getElem? (i := 1196) (by decide +kernel), List.mem_of_getElem? (i := 1448) (by decide +kernel), List.mem_of_getElem? (i := 1449) (by decide +kernel)⟩
theorem lw_p50 : lw_okq (⟨"LadderStreetModel", "tellOne", "()V"⟩, 63) := ⟨⟨by decide +kernel, by decide +kernel⟩, List.mem_of_getElem? (i := 1196) (by decide +kernel), List.mem_of_getElem? (i := 1452) (by decide +kernel), List.mem_of_getElem? (i := 1453) (by decide +kernel)⟩
theorem lw_p51 : lw_okq (⟨"LadderStreetModel", "goesOn", "()V"⟩, 63) := ⟨⟨by decide +kernel, by decide +kernel⟩, List.mem_of_getElem? (i := 1196) (by decide +kernel), List.mem_of_getElem? (i := 1456) (by decide +kernel), List.mem_of_getElem? (i := 1457) (by decide +kernel)⟩
theorem lw_p52 : lw_okq (⟨"LadderStreetModel", "fail", "(I)V"⟩, 63) := ⟨⟨by decide +kernel, by decide +kernel⟩, List.mem_of_getElem? (i := 1196) (by decide +kernel), List.mem_of_getElem? (i := 1460) (by decide +kernel), List.mem_of_getElem? (i := 1461) (by decide +kernel)⟩
theorem lw_p53 : lw_okq (⟨"LadderStreetModel", "bounded", "(II)I"⟩, 63) := ⟨⟨by decide +kernel, by decide +kernel⟩, List.mem_of_getElem? (i := 1196) (by decide +kernel), List.mem_of_getElem? (i := 1464) (by decide +kernel), List.mem_of_getElem? (i := 1465) (by decide +kernel)⟩
theorem lw_p54 : lw_okq (⟨"LadderStreetModel", "wrong", "(II)V"⟩, 63) := ⟨⟨by decide +kernel, by decide +kernel⟩, List.mem_of_getElem? (i := 1196) (by decide +kernel), List.mem_of_getElem? (i := 1468) (by decide +kernel), List.mem_of_getElem? (i := 1469) (by decide +kernel)⟩
theorem lw_p55 : lw_okq (⟨"LadderStreetModel", "must", "(I)V"⟩, 63) := ⟨⟨by decide +kernel, by decide +kernel⟩, List.mem_of_getElem? (i := 1196) (by decide +kernel), List.mem_of_getElem? (i := 1472) (by decide +kernel), List.mem_of_getElem? (i := 1473) (by decide +kernel)⟩
theorem lw_p56 : lw_okq (⟨"LadderStreetModel", "roomFor", "(II)V"⟩, 63) := ⟨⟨by decide +kernel, by decide +kernel⟩, List.mem_of_getElem? (i := 1196) (by decide +kernel), List.mem_of_getElem? (i := 1476) (by decide +kernel), List.mem_of_getElem? (i := 1477) (by decide +kernel)⟩
theorem lw_p57 : lw_okq (⟨"LadderStreetModel", "tellPerson", "()V"⟩, 63) := ⟨⟨by decide +kernel, by decide +kernel⟩, List.mem_of_getElem? (i := 1196) (by decide +kernel), List.mem_of_getElem? (i := 1480) (by decide +kernel), List.mem_of_getElem? (i := 1481) (by decide +kernel)⟩
theorem lw_p58 : lw_okq (⟨"LadderStreetModel", "tellLaw", "(I)V"⟩, 63) := ⟨⟨by decide +kernel, by decide +kernel⟩, List.mem_of_getElem? (i := 1196) (by decide +kernel), List.mem_of_getElem? (i := 1484) (by decide +kernel), List.mem_of_getElem? (i := 1485) (by decide +kernel)⟩
theorem lw_p59 : lw_okq (⟨"LadderStreetModel", "expression", "()V"⟩, 63) := ⟨⟨by decide +kernel, by decide +kernel⟩, List.mem_of_getElem? (i := 1196) (by decide +kernel), List.mem_of_getElem? (i := 1488) (by decide +kernel), List.mem_of_getElem? (i := 1489) (by decide +kernel)⟩
theorem lw_p60 : lw_okq (⟨"LadderStreetModel", "unit", "()V"⟩, 63) := ⟨⟨by decide +kernel, by decide +kernel⟩, List.mem_of_getElem? (i := 1196) (by decide +kernel), List.mem_of_getElem? (i := 1492) (by decide +kernel), List.mem_of_getElem? (i := 1493) (by decide +kernel)⟩
theorem lw_p61 : lw_okq (⟨"LadderStreetModel", "emit", "(II)V"⟩, 63) := ⟨⟨by decide +kernel, by decide +kernel⟩, List.mem_of_getElem? (i := 1196) (by decide +kernel), List.mem_of_getElem? (i := 1496) (by decide +kernel), List.mem_of_getElem? (i := 1497) (by decide +kernel)⟩
theorem lw_p62 : lw_okq (⟨"LadderStreetModel", "comesOut", "(Z)V"⟩, 63) := ⟨⟨by decide +kernel, by decide +kernel⟩, List.mem_of_getElem? (i := 1196) (by decide +kernel), List.mem_of_getElem? (i := 1500) (by decide +kernel), List.mem_of_getElem? (i := 1501) (by decide +kernel)⟩
theorem lw_p63 : lw_okq (⟨"LadderStreetModel", "term", "()V"⟩, 63) := ⟨⟨by decide +kernel, by decide +kernel⟩, List.mem_of_getElem? (i := 1196) (by decide +kernel), List.mem_of_getElem? (i := 1504) (by decide +kernel), List.mem_of_getElem? (i := 1505) (by decide +kernel)⟩
def lw_privs_4 : List (MethodName × Nat) := [(⟨"LadderStreetModel", "sign", "(III)I"⟩, 63), (⟨"LadderStreetModel", "is", "(I)Z"⟩, 63), (⟨"LadderStreetModel", "tellOne", "()V"⟩, 63), (⟨"LadderStreetModel", "goesOn", "()V"⟩, 63), (⟨"LadderStreetModel", "fail", "(I)V"⟩, 63), (⟨"LadderStreetModel", "bounded", "(II)I"⟩, 63), (⟨"LadderStreetModel", "wrong", "(II)V"⟩, 63), (⟨"LadderStreetModel", "must", "(I)V"⟩, 63), (⟨"LadderStreetModel", "roomFor", "(II)V"⟩, 63), (⟨"LadderStreetModel", "tellPerson", "()V"⟩, 63), (⟨"LadderStreetModel", "tellLaw", "(I)V"⟩, 63), (⟨"LadderStreetModel", "expression", "()V"⟩, 63), (⟨"LadderStreetModel", "unit", "()V"⟩, 63), (⟨"LadderStreetModel", "emit", "(II)V"⟩, 63), (⟨"LadderStreetModel", "comesOut", "(Z)V"⟩, 63), (⟨"LadderStreetModel", "term", "()V"⟩, 63)]
theorem lw_r4 : ∀ q ∈ lw_privs_4, lw_okq q := List.forall_mem_cons.mpr ⟨lw_p48, List.forall_mem_cons.mpr ⟨lw_p49, List.forall_mem_cons.mpr ⟨lw_p50, List.forall_mem_cons.mpr ⟨lw_p51, List.forall_mem_cons.mpr ⟨lw_p52, List.forall_mem_cons.mpr ⟨lw_p53, List.forall_mem_cons.mpr ⟨lw_p54, List.forall_mem_cons.mpr ⟨lw_p55, List.forall_mem_cons.mpr ⟨lw_p56, List.forall_mem_cons.mpr ⟨lw_p57, List.forall_mem_cons.mpr ⟨lw_p58, List.forall_mem_cons.mpr ⟨lw_p59, List.forall_mem_cons.mpr ⟨lw_p60, List.forall_mem_cons.mpr ⟨lw_p61, List.forall_mem_cons.mpr ⟨lw_p62, List.forall_mem_cons.mpr ⟨lw_p63, fun _ h => absurd h List.not_mem_nil⟩⟩⟩⟩⟩⟩⟩⟩⟩⟩⟩⟩⟩⟩⟩⟩
theorem lw_p64 : lw_okq (⟨"LadderStreetModel", "areOn", "()Z"⟩, 63) := ⟨⟨by decide +kernel, by decide +kernel⟩, List.mem_of_getElem? (i := 1196) (by decide +kernel), List.mem_of_getElem? (i := 1508) (by decide +kernel), List.mem_of_getElem? (i := 1509) (by decide +kernel)⟩
theorem lw_p65 : lw_okq (⟨"LadderStreetModel", "isPerson", "(I)Z"⟩, 63) := ⟨⟨by decide +kernel, by decide +kernel⟩, List.mem_of_getElem? (i := 1196) (by decide +kernel), List.mem_of_getElem? (i := 1520) (by decide +kernel), List.mem_of_getElem? (i := 1521) (by decide +kernel)⟩
theorem lw_p66 : lw_okq (⟨"LadderStreetModel", "widthAt", "(I)I"⟩, 63) := ⟨⟨by decide +kernel, by decide +kernel⟩, List.mem_of_getElem? (i := 1196) (by decide +kernel), List.mem_of_getElem? (i := 1527) (by decide +kernel), List.mem_of_getElem? (i := 1528) (by decide +kernel)⟩
theorem lw_p67 : lw_okq (⟨"LadderStreetModel", "isRung", "(I)Z"⟩, 63) := ⟨⟨by decide +kernel, by decide +kernel⟩, List.mem_of_getElem? (i := 1196) (by decide +kernel), List.mem_of_getElem? (i := 1535) (by decide +kernel), List.mem_of_getElem? (i := 1536) (by decide +kernel)⟩
theorem lw_p68 : lw_okq (⟨"LadderStreetModel", "copies", "()V"⟩, 63) := ⟨⟨by decide +kernel, by decide +kernel⟩, List.mem_of_getElem? (i := 1196) (by decide +kernel), List.mem_of_getElem? (i := 1539) (by decide +kernel), List.mem_of_getElem? (i := 1540) (by decide +kernel)⟩
theorem lw_p69 : lw_okq (⟨"LadderStreetModel", "roomOf", "(I)I"⟩, 63) := ⟨⟨by decide +kernel, by decide +kernel⟩, List.mem_of_getElem? (i := 1196) (by decide +kernel), List.mem_of_getElem? (i := 1543) (by decide +kernel), List.mem_of_getElem? (i := 1544) (by decide +kernel)⟩
theorem lw_p70 : lw_okq (⟨"LadderStreetModel", "looks", "(I)V"⟩, 63) := ⟨⟨by decide +kernel, by decide +kernel⟩, List.mem_of_getElem? (i := 1196) (by decide +kernel), List.mem_of_getElem? (i := 1547) (by decide +kernel), List.mem_of_getElem? (i := 1548) (by decide +kernel)⟩
theorem lw_p71 : lw_okq (⟨"LadderStreetModel", "lawTells", "(II)I"⟩, 63) := ⟨⟨by decide +kernel, by decide +kernel⟩, List.mem_of_getElem? (i := 1196) (by decide +kernel), List.mem_of_getElem? (i := 1551) (by decide +kernel), List.mem_of_getElem? (i := 1552) (by decide +kernel)⟩
theorem lw_p72 : lw_okq (⟨"LadderStreetModel", "termOf", "(II)I"⟩, 63) := ⟨⟨by decide +kernel, by decide +kernel⟩, List.mem_of_getElem? (i := 1196) (by decide +kernel), List.mem_of_getElem? (i := 1555) (by decide +kernel), List.mem_of_getElem? (i := 1556) (by decide +kernel)⟩
theorem lw_p73 : lw_okq (⟨"LadderStreetModel", "widthsOn", "(I)I"⟩, 63) := ⟨⟨by decide +kernel, by decide +kernel⟩, List.mem_of_getElem? (i := 1196) (by decide +kernel), List.mem_of_getElem? (i := 1562) (by decide +kernel), List.mem_of_getElem? (i := 1563) (by decide +kernel)⟩
theorem lw_p74 : lw_okq (⟨"LadderStreetModel", "onRung", "(I)I"⟩, 63) := ⟨⟨by decide +kernel, by decide +kernel⟩, List.mem_of_getElem? (i := 1196) (by decide +kernel), List.mem_of_getElem? (i := 1566) (by decide +kernel), List.mem_of_getElem? (i := 1567) (by decide +kernel)⟩
theorem lw_p75 : lw_okq (⟨"LadderStreetModel", "widthsOf", "(I)I"⟩, 63) := ⟨⟨by decide +kernel, by decide +kernel⟩, List.mem_of_getElem? (i := 1196) (by decide +kernel), List.mem_of_getElem? (i := 1570) (by decide +kernel), List.mem_of_getElem? (i := 1571) (by decide +kernel)⟩
theorem lw_p76 : lw_okq (⟨"LadderStreetModel", "isWhole", "(I)Z"⟩, 63) := ⟨⟨by decide +kernel, by decide +kernel⟩, List.mem_of_getElem? (i := 1196) (by decide +kernel), List.mem_of_getElem? (i := 1574) (by decide +kernel), List.mem_of_getElem? (i := 1575) (by decide +kernel)⟩
theorem lw_p77 : lw_okq (⟨"LadderStreetModel", "breaksOf", "(I)I"⟩, 63) := ⟨⟨by decide +kernel, by decide +kernel⟩, List.mem_of_getElem? (i := 1196) (by decide +kernel), List.mem_of_getElem? (i := 1578) (by decide +kernel), List.mem_of_getElem? (i := 1579) (by decide +kernel)⟩
theorem lw_p78 : lw_okq (⟨"LadderStreetModel", "couldCome", "(II)Z"⟩, 63) := ⟨⟨by decide +kernel, by decide +kernel⟩, List.mem_of_getElem? (i := 1196) (by decide +kernel), List.mem_of_getElem? (i := 1589) (by decide +kernel), List.mem_of_getElem? (i := 1590) (by decide +kernel)⟩
theorem lw_p79 : lw_okq (⟨"LadderStreetModel", "hasRoom", "(III)Z"⟩, 63) := ⟨⟨by decide +kernel, by decide +kernel⟩, List.mem_of_getElem? (i := 1196) (by decide +kernel), List.mem_of_getElem? (i := 1593) (by decide +kernel), List.mem_of_getElem? (i := 1594) (by decide +kernel)⟩
def lw_privs_5 : List (MethodName × Nat) := [(⟨"LadderStreetModel", "areOn", "()Z"⟩, 63), (⟨"LadderStreetModel", "isPerson", "(I)Z"⟩, 63), (⟨"LadderStreetModel", "widthAt", "(I)I"⟩, 63), (⟨"LadderStreetModel", "isRung", "(I)Z"⟩, 63), (⟨"LadderStreetModel", "copies", "()V"⟩, 63), (⟨"LadderStreetModel", "roomOf", "(I)I"⟩, 63), (⟨"LadderStreetModel", "looks", "(I)V"⟩, 63), (⟨"LadderStreetModel", "lawTells", "(II)I"⟩, 63), (⟨"LadderStreetModel", "termOf", "(II)I"⟩, 63), (⟨"LadderStreetModel", "widthsOn", "(I)I"⟩, 63), (⟨"LadderStreetModel", "onRung", "(I)I"⟩, 63), (⟨"LadderStreetModel", "widthsOf", "(I)I"⟩, 63), (⟨"LadderStreetModel", "isWhole", "(I)Z"⟩, 63), (⟨"LadderStreetModel", "breaksOf", "(I)I"⟩, 63), (⟨"LadderStreetModel", "couldCome", "(II)Z"⟩, 63), (⟨"LadderStreetModel", "hasRoom", "(III)Z"⟩, 63)]
theorem lw_r5 : ∀ q ∈ lw_privs_5, lw_okq q := List.forall_mem_cons.mpr ⟨lw_p64, List.forall_mem_cons.mpr ⟨lw_p65, List.forall_mem_cons.mpr ⟨lw_p66, List.forall_mem_cons.mpr ⟨lw_p67, List.forall_mem_cons.mpr ⟨lw_p68, List.forall_mem_cons.mpr ⟨lw_p69, List.forall_mem_cons.mpr ⟨lw_p70, List.forall_mem_cons.mpr ⟨lw_p71, List.forall_mem_cons.mpr ⟨lw_p72, List.forall_mem_cons.mpr ⟨lw_p73, List.forall_mem_cons.mpr ⟨lw_p74, List.forall_mem_cons.mpr ⟨lw_p75, List.forall_mem_cons.mpr ⟨lw_p76, List.forall_mem_cons.mpr ⟨lw_p77, List.forall_mem_cons.mpr ⟨lw_p78, List.forall_mem_cons.mpr ⟨lw_p79, fun _ h => absurd h List.not_mem_nil⟩⟩⟩⟩⟩⟩⟩⟩⟩⟩⟩⟩⟩⟩⟩⟩
theorem lw_p80 : lw_okq (⟨"LadderStreetModel", "records", "()V"⟩, 63) := ⟨⟨by decide +kernel, by decide +kernel⟩, List.mem_of_getElem? (i := 1196) (by decide +kernel), List.mem_of_getElem? (i := 1601) (by decide +kernel), List.mem_of_getElem? (i := 1602) (by decide +kernel)⟩
theorem lw_p81 : lw_okq (⟨"LadderStreetModel", "pours", "(I)I"⟩, 63) := ⟨⟨by decide +kernel, by decide +kernel⟩, List.mem_of_getElem? (i := 1196) (by decide +kernel), List.mem_of_getElem? (i := 1616) (by decide +kernel), List.mem_of_getElem? (i := 1617) (by decide +kernel)⟩
theorem lw_p82 : lw_okq (⟨"LadderStreetModel", "cupOf", "(II)I"⟩, 63) := ⟨⟨by decide +kernel, by decide +kernel⟩, List.mem_of_getElem? (i := 1196) (by decide +kernel), List.mem_of_getElem? (i := 1620) (by decide +kernel), List.mem_of_getElem? (i := 1621) (by decide +kernel)⟩
theorem lw_p83 : lw_okq (⟨"LadderStreetModel", "looksAt", "(I)V"⟩, 63) := ⟨⟨by decide +kernel, by decide +kernel⟩, List.mem_of_getElem? (i := 1196) (by decide +kernel), List.mem_of_getElem? (i := 1624) (by decide +kernel), List.mem_of_getElem? (i := 1625) (by decide +kernel)⟩
theorem lw_p84 : lw_okq (⟨"LadderStreetModel", "goes", "(I)V"⟩, 63) := ⟨⟨by decide +kernel, by decide +kernel⟩, List.mem_of_getElem? (i := 1196) (by decide +kernel), List.mem_of_getElem? (i := 1635) (by decide +kernel), List.mem_of_getElem? (i := 1636) (by decide +kernel)⟩
theorem lw_p85 : lw_okq (⟨"LadderStreetModel", "minuteGoes", "()V"⟩, 63) := ⟨⟨by decide +kernel, by decide +kernel⟩, List.mem_of_getElem? (i := 1196) (by decide +kernel), List.mem_of_getElem? (i := 1639) (by decide +kernel), List.mem_of_getElem? (i := 1640) (by decide +kernel)⟩
theorem lw_p86 : lw_okq (⟨"LadderStreetModel", "personGoes", "(I)V"⟩, 63) := ⟨⟨by decide +kernel, by decide +kernel⟩, List.mem_of_getElem? (i := 1196) (by decide +kernel), List.mem_of_getElem? (i := 1643) (by decide +kernel), List.mem_of_getElem? (i := 1644) (by decide +kernel)⟩
theorem lw_p87 : lw_okq (⟨"LadderStreetModel", "quarrelOf", "(II)I"⟩, 63) := ⟨⟨by decide +kernel, by decide +kernel⟩, List.mem_of_getElem? (i := 1196) (by decide +kernel), List.mem_of_getElem? (i := 1650) (by decide +kernel), List.mem_of_getElem? (i := 1651) (by decide +kernel)⟩
theorem lw_p88 : lw_okq (⟨"LadderStreetModel", "breakingBits", "()I"⟩, 63) := ⟨⟨by decide +kernel, by decide +kernel⟩, List.mem_of_getElem? (i := 1196) (by decide +kernel), List.mem_of_getElem? (i := 1655) (by decide +kernel), List.mem_of_getElem? (i := 1656) (by decide +kernel)⟩
theorem lw_p89 : lw_okq (⟨"LadderStreetModel", "lotOf", "(I)I"⟩, 63) := ⟨⟨by decide +kernel, by decide +kernel⟩, List.mem_of_getElem? (i := 1196) (by decide +kernel), List.mem_of_getElem? (i := 1659) (by decide +kernel), List.mem_of_getElem? (i := 1660) (by decide +kernel)⟩
theorem lw_p90 : lw_okq (⟨"LadderStreetModel", "theyBreak", "(I)V"⟩, 63) := ⟨⟨by decide +kernel, by decide +kernel⟩, List.mem_of_getElem? (i := 1196) (by decide +kernel), List.mem_of_getElem? (i := 1667) (by decide +kernel), List.mem_of_getElem? (i := 1668) (by decide +kernel)⟩
theorem lw_p91 : lw_okq (⟨"LadderStreetModel", "falls", "(I)V"⟩, 63) := ⟨⟨by decide +kernel, by decide +kernel⟩, List.mem_of_getElem? (i := 1196) (by decide +kernel), List.mem_of_getElem? (i := 1671) (by decide +kernel), List.mem_of_getElem? (i := 1672) (by decide +kernel)⟩
theorem lw_p92 : lw_okq (⟨"LadderStreetModel", "blockBits", "(II)I"⟩, 63) := ⟨⟨by decide +kernel, by decide +kernel⟩, List.mem_of_getElem? (i := 1196) (by decide +kernel), List.mem_of_getElem? (i := 1683) (by decide +kernel), List.mem_of_getElem? (i := 1684) (by decide +kernel)⟩
theorem lw_p93 : lw_okq (⟨"LadderStreetModel", "errandsFrom", "()I"⟩, 63) := ⟨⟨by decide +kernel, by decide +kernel⟩, List.mem_of_getElem? (i := 1196) (by decide +kernel), List.mem_of_getElem? (i := 1691) (by decide +kernel), List.mem_of_getElem? (i := 1692) (by decide +kernel)⟩
theorem lw_p94 : lw_okq (⟨"LadderStreetModel", "goalBits", "()I"⟩, 63) := ⟨⟨by decide +kernel, by decide +kernel⟩, List.mem_of_getElem? (i := 1196) (by decide +kernel), List.mem_of_getElem? (i := 1695) (by decide +kernel), List.mem_of_getElem? (i := 1696) (by decide +kernel)⟩
theorem lw_p95 : lw_okq (⟨"LadderStreetModel", "bothGo", "(IIII)V"⟩, 63) := ⟨⟨by decide +kernel, by decide +kernel⟩, List.mem_of_getElem? (i := 1196) (by decide +kernel), List.mem_of_getElem? (i := 1703) (by decide +kernel), List.mem_of_getElem? (i := 1704) (by decide +kernel)⟩
def lw_privs_6 : List (MethodName × Nat) := [(⟨"LadderStreetModel", "records", "()V"⟩, 63), (⟨"LadderStreetModel", "pours", "(I)I"⟩, 63), (⟨"LadderStreetModel", "cupOf", "(II)I"⟩, 63), (⟨"LadderStreetModel", "looksAt", "(I)V"⟩, 63), (⟨"LadderStreetModel", "goes", "(I)V"⟩, 63), (⟨"LadderStreetModel", "minuteGoes", "()V"⟩, 63), (⟨"LadderStreetModel", "personGoes", "(I)V"⟩, 63), (⟨"LadderStreetModel", "quarrelOf", "(II)I"⟩, 63), (⟨"LadderStreetModel", "breakingBits", "()I"⟩, 63), (⟨"LadderStreetModel", "lotOf", "(I)I"⟩, 63), (⟨"LadderStreetModel", "theyBreak", "(I)V"⟩, 63), (⟨"LadderStreetModel", "falls", "(I)V"⟩, 63), (⟨"LadderStreetModel", "blockBits", "(II)I"⟩, 63), (⟨"LadderStreetModel", "errandsFrom", "()I"⟩, 63), (⟨"LadderStreetModel", "goalBits", "()I"⟩, 63), (⟨"LadderStreetModel", "bothGo", "(IIII)V"⟩, 63)]
theorem lw_r6 : ∀ q ∈ lw_privs_6, lw_okq q := List.forall_mem_cons.mpr ⟨lw_p80, List.forall_mem_cons.mpr ⟨lw_p81, List.forall_mem_cons.mpr ⟨lw_p82, List.forall_mem_cons.mpr ⟨lw_p83, List.forall_mem_cons.mpr ⟨lw_p84, List.forall_mem_cons.mpr ⟨lw_p85, List.forall_mem_cons.mpr ⟨lw_p86, List.forall_mem_cons.mpr ⟨lw_p87, List.forall_mem_cons.mpr ⟨lw_p88, List.forall_mem_cons.mpr ⟨lw_p89, List.forall_mem_cons.mpr ⟨lw_p90, List.forall_mem_cons.mpr ⟨lw_p91, List.forall_mem_cons.mpr ⟨lw_p92, List.forall_mem_cons.mpr ⟨lw_p93, List.forall_mem_cons.mpr ⟨lw_p94, List.forall_mem_cons.mpr ⟨lw_p95, fun _ h => absurd h List.not_mem_nil⟩⟩⟩⟩⟩⟩⟩⟩⟩⟩⟩⟩⟩⟩⟩⟩
theorem lw_p96 : lw_okq (⟨"LadderStreetModel", "otherGoes", "(I)V"⟩, 63) := ⟨⟨by decide +kernel, by decide +kernel⟩, List.mem_of_getElem? (i := 1196) (by decide +kernel), List.mem_of_getElem? (i := 1707) (by decide +kernel), List.mem_of_getElem? (i := 1708) (by decide +kernel)⟩
theorem lw_p97 : lw_okq (⟨"LadderStreetModel", "marks", "(I)V"⟩, 63) := ⟨⟨by decide +kernel, by decide +kernel⟩, List.mem_of_getElem? (i := 1196) (by decide +kernel), List.mem_of_getElem? (i := 1711) (by decide +kernel), List.mem_of_getElem? (i := 1712) (by decide +kernel)⟩
theorem lw_p98 : lw_okq (⟨"LadderStreetModel", "aloneTo", "(II)I"⟩, 63) := ⟨⟨by decide +kernel, by decide +kernel⟩, List.mem_of_getElem? (i := 1196) (by decide +kernel), List.mem_of_getElem? (i := 1719) (by decide +kernel), List.mem_of_getElem? (i := 1720) (by decide +kernel)⟩
theorem lw_p99 : lw_okq (⟨"LadderStreetModel", "partsOf", "(II)I"⟩, 63) := ⟨⟨by decide +kernel, by decide +kernel⟩, List.mem_of_getElem? (i := 1196) (by decide +kernel), List.mem_of_getElem? (i := 1742) (by decide +kernel), List.mem_of_getElem? (i := 1743) (by decide +kernel)⟩
theorem lw_p100 : lw_okq (⟨"LadderStreetModel", "findsHomes", "(I)Z"⟩, 63) := ⟨⟨by decide +kernel, by decide +kernel⟩, List.mem_of_getElem? (i := 1196) (by decide +kernel), List.mem_of_getElem? (i := 1754) (by decide +kernel), List.mem_of_getElem? (i := 1755) (by decide +kernel)⟩
theorem lw_p101 : lw_okq (⟨"LadderStreetModel", "canLive", "(III)Z"⟩, 63) := ⟨⟨by decide +kernel, by decide +kernel⟩, List.mem_of_getElem? (i := 1196) (by decide +kernel), List.mem_of_getElem? (i := 1758) (by decide +kernel), List.mem_of_getElem? (i := 1759) (by decide +kernel)⟩
theorem lw_p102 : lw_okq (⟨"LadderStreetModel", "brokenBits", "()I"⟩, 63) := ⟨⟨by decide +kernel, by decide +kernel⟩, List.mem_of_getElem? (i := 1196) (by decide +kernel), List.mem_of_getElem? (i := 1806) (by decide +kernel), List.mem_of_getElem? (i := 1807) (by decide +kernel)⟩
theorem lw_p103 : lw_okq (⟨"LadderStreetModel", "trodBits", "(I)I"⟩, 63) := ⟨⟨by decide +kernel, by decide +kernel⟩, List.mem_of_getElem? (i := 1196) (by decide +kernel), List.mem_of_getElem? (i := 1829) (by decide +kernel), List.mem_of_getElem? (i := 1830) (by decide +kernel)⟩
theorem lw_p104 : lw_okq (⟨"LadderStreetModel", "treadsOn", "(II)Z"⟩, 63) := ⟨⟨by decide +kernel, by decide +kernel⟩, List.mem_of_getElem? (i := 1196) (by decide +kernel), List.mem_of_getElem? (i := 1833) (by decide +kernel), List.mem_of_getElem? (i := 1834) (by decide +kernel)⟩
theorem lw_p105 : lw_okq (⟨"LadderStreetModel", "sumNow", "(I)I"⟩, 63) := ⟨⟨by decide +kernel, by decide +kernel⟩, List.mem_of_getElem? (i := 1196) (by decide +kernel), List.mem_of_getElem? (i := 1853) (by decide +kernel), List.mem_of_getElem? (i := 1854) (by decide +kernel)⟩
def lw_privs_7 : List (MethodName × Nat) := [(⟨"LadderStreetModel", "otherGoes", "(I)V"⟩, 63), (⟨"LadderStreetModel", "marks", "(I)V"⟩, 63), (⟨"LadderStreetModel", "aloneTo", "(II)I"⟩, 63), (⟨"LadderStreetModel", "partsOf", "(II)I"⟩, 63), (⟨"LadderStreetModel", "findsHomes", "(I)Z"⟩, 63), (⟨"LadderStreetModel", "canLive", "(III)Z"⟩, 63), (⟨"LadderStreetModel", "brokenBits", "()I"⟩, 63), (⟨"LadderStreetModel", "trodBits", "(I)I"⟩, 63), (⟨"LadderStreetModel", "treadsOn", "(II)Z"⟩, 63), (⟨"LadderStreetModel", "sumNow", "(I)I"⟩, 63)]
theorem lw_r7 : ∀ q ∈ lw_privs_7, lw_okq q := List.forall_mem_cons.mpr ⟨lw_p96, List.forall_mem_cons.mpr ⟨lw_p97, List.forall_mem_cons.mpr ⟨lw_p98, List.forall_mem_cons.mpr ⟨lw_p99, List.forall_mem_cons.mpr ⟨lw_p100, List.forall_mem_cons.mpr ⟨lw_p101, List.forall_mem_cons.mpr ⟨lw_p102, List.forall_mem_cons.mpr ⟨lw_p103, List.forall_mem_cons.mpr ⟨lw_p104, List.forall_mem_cons.mpr ⟨lw_p105, fun _ h => absurd h List.not_mem_nil⟩⟩⟩⟩⟩⟩⟩⟩⟩⟩
def lw_privs : List (MethodName × Nat) := lw_privs_1 ++ (lw_privs_2 ++ (lw_privs_3 ++ (lw_privs_4 ++ (lw_privs_5 ++ (lw_privs_6 ++ (lw_privs_7))))))
def lw_tbl : List Cond := k2_sels lw_privs ++ tables_1
theorem lw_privs_ok : ∀ q ∈ lw_privs, lw_okq q := by
  show ∀ q ∈ lw_privs_1 ++ (lw_privs_2 ++ (lw_privs_3 ++ (lw_privs_4 ++ (lw_privs_5 ++ (lw_privs_6 ++ (lw_privs_7)))))), lw_okq q
  exact List.forall_mem_append.mpr ⟨lw_r1, List.forall_mem_append.mpr ⟨lw_r2, List.forall_mem_append.mpr ⟨lw_r3, List.forall_mem_append.mpr ⟨lw_r4, List.forall_mem_append.mpr ⟨lw_r5, List.forall_mem_append.mpr ⟨lw_r6, lw_r7⟩⟩⟩⟩⟩⟩
-- ===== end of PART A; then your names; then what follows =====
def RX0 : String := "LadderStreet$Course"
def TX0 : u_T := fun k => match k with
  | 0 => ("LadderStreet$Course", "town", "LLadderStreet$Town;", true)
  | _ => ("LadderStreet$Course", "laws", "LLadderStreet$Laws;", true)
def tyX0 : Nat → FieldType := fun k => match k with
  | 0 => .object "LadderStreet$Town"
  | _ => .object "LadderStreet$Laws"
abbrev wsX00 : List Cond := u_ws RX0 TX0 2
theorem nmX0 : ∀ a, a < 2 → ∀ b, b < 2 → a ≠ b → (TX0 a).2.1 ≠ (TX0 b).2.1 := by decide +kernel
theorem tyX0_ok : ∀ k, k < 2 → parseFieldDescriptor (TX0 k).2.2.1 = some (tyX0 k) := by decide +kernel
abbrev cX0_init : ByteArray := prog_2_method_1_code
def yX0_init : MethodName := ⟨RX0, "<init>", "(LLadderStreet$Town;)V"⟩
abbrev cX0_roomOf : ByteArray := prog_2_method_2_code
def yX0_roomOf : MethodName := ⟨RX0, "roomOf", "(II)I"⟩
abbrev cX0_breaksOf : ByteArray := prog_2_method_3_code
def yX0_breaksOf : MethodName := ⟨RX0, "breaksOf", "(LLadderStreet$Moment;I)I"⟩
abbrev cX0_quarrelOf : ByteArray := prog_2_method_4_code
def yX0_quarrelOf : MethodName := ⟨RX0, "quarrelOf", "(LLadderStreet$Moment;II)I"⟩
abbrev cX0_cupOf : ByteArray := prog_2_method_5_code
def yX0_cupOf : MethodName := ⟨RX0, "cupOf", "(LLadderStreet$Moment;II)I"⟩
abbrev cX0_setPerson : ByteArray := prog_2_method_6_code
def yX0_setPerson : MethodName := ⟨RX0, "setPerson", "(LLadderStreet$Moment;I)V"⟩
abbrev cX0_widthsOn : ByteArray := prog_2_method_7_code
def yX0_widthsOn : MethodName := ⟨RX0, "widthsOn", "(LLadderStreet$Moment;I)I"⟩
abbrev cX0_fits : ByteArray := prog_2_method_8_code
def yX0_fits : MethodName := ⟨RX0, "fits", "(LLadderStreet$Moment;II)Z"⟩
abbrev cX0_oneMinute : ByteArray := prog_2_method_9_code
def yX0_oneMinute : MethodName := ⟨RX0, "oneMinute", "(LLadderStreet$Moment;IZ)V"⟩
abbrev cX0_goOn : ByteArray := prog_2_method_10_code
def yX0_goOn : MethodName := ⟨RX0, "goOn", "(LLadderStreet$Moment;I)V"⟩
abbrev cX0_towards : ByteArray := prog_2_method_11_code
def yX0_towards : MethodName := ⟨RX0, "towards", "(LLadderStreet$Moment;I)I"⟩
abbrev cX0_breakAndFall : ByteArray := prog_2_method_12_code
def yX0_breakAndFall : MethodName := ⟨RX0, "breakAndFall", "(LLadderStreet$Moment;I)V"⟩
abbrev cX0_fall : ByteArray := prog_2_method_13_code
def yX0_fall : MethodName := ⟨RX0, "fall", "(LLadderStreet$Moment;I)V"⟩
abbrev cX0_letDown : ByteArray := prog_2_method_14_code
def yX0_letDown : MethodName := ⟨RX0, "letDown", "(LLadderStreet$Moment;I)I"⟩
abbrev cX0_errandsWithin : ByteArray := prog_2_method_15_code
def yX0_errandsWithin : MethodName := ⟨RX0, "errandsWithin", "(ILLadderStreet$Moment;IZ)I"⟩
abbrev cX0_nobodyGoes : ByteArray := prog_2_method_16_code
def yX0_nobodyGoes : MethodName := ⟨RX0, "nobodyGoes", "(LLadderStreet$Moment;)Z"⟩
def RX1 : String := "LadderStreet$Homes"
def TX1 : u_T := fun k => match k with
  | 0 => ("LadderStreet$Homes", "town", "LLadderStreet$Town;", true)
  | 1 => ("LadderStreet$Homes", "course", "LLadderStreet$Course;", true)
  | 2 => ("LadderStreet$Homes", "space", "[I", true)
  | _ => ("LadderStreet$Homes", "chosen", "[I", true)
def tyX1 : Nat → FieldType := fun k => match k with
  | 0 => .object "LadderStreet$Town"
  | 1 => .object "LadderStreet$Course"
  | 2 => .array .int
  | _ => .array .int
abbrev wsX10 : List Cond := u_ws RX1 TX1 4
theorem nmX1 : ∀ a, a < 4 → ∀ b, b < 4 → a ≠ b → (TX1 a).2.1 ≠ (TX1 b).2.1 := by decide +kernel
theorem tyX1_ok : ∀ k, k < 4 → parseFieldDescriptor (TX1 k).2.2.1 = some (tyX1 k) := by decide +kernel
abbrev cX1_init : ByteArray := prog_3_method_1_code
def yX1_init : MethodName := ⟨RX1, "<init>", "(LLadderStreet$Town;LLadderStreet$Course;)V"⟩
abbrev cX1_areFound : ByteArray := prog_3_method_2_code
def yX1_areFound : MethodName := ⟨RX1, "areFound", "(LLadderStreet$Moment;I)Z"⟩
abbrev cX1_homeOf : ByteArray := prog_3_method_3_code
def yX1_homeOf : MethodName := ⟨RX1, "homeOf", "(I)I"⟩
abbrev cX1_settle : ByteArray := prog_3_method_4_code
def yX1_settle : MethodName := ⟨RX1, "settle", "(LLadderStreet$Moment;II)Z"⟩
def RX2 : String := "LadderStreet$Laws"
def TX2 : u_T := fun k => match k with
  | 0 => ("LadderStreet$Laws", "ops", "[I", true)
  | 1 => ("LadderStreet$Laws", "args", "[I", true)
  | 2 => ("LadderStreet$Laws", "starts", "[I", true)
  | 3 => ("LadderStreet$Laws", "vars", "[I", true)
  | 4 => ("LadderStreet$Laws", "pending", "[I", true)
  | _ => ("LadderStreet$Laws", "steps", "I", false)
def tyX2 : Nat → FieldType := fun k => match k with
  | 0 => .array .int
  | 1 => .array .int
  | 2 => .array .int
  | 3 => .array .int
  | 4 => .array .int
  | _ => .int
abbrev wsX20 : List Cond := u_ws RX2 TX2 6
theorem nmX2 : ∀ a, a < 6 → ∀ b, b < 6 → a ≠ b → (TX2 a).2.1 ≠ (TX2 b).2.1 := by decide +kernel
theorem tyX2_ok : ∀ k, k < 6 → parseFieldDescriptor (TX2 k).2.2.1 = some (tyX2 k) := by decide +kernel
abbrev cX2_init : ByteArray := prog_4_method_1_code
def yX2_init : MethodName := ⟨RX2, "<init>", "()V"⟩
abbrev cX2_clear : ByteArray := prog_4_method_2_code
def yX2_clear : MethodName := ⟨RX2, "clear", "()V"⟩
abbrev cX2_begin : ByteArray := prog_4_method_3_code
def yX2_begin : MethodName := ⟨RX2, "begin", "(I)V"⟩
abbrev cX2_add : ByteArray := prog_4_method_4_code
def yX2_add : MethodName := ⟨RX2, "add", "(II)I"⟩
abbrev cX2_jumpHere : ByteArray := prog_4_method_5_code
def yX2_jumpHere : MethodName := ⟨RX2, "jumpHere", "(I)V"⟩
abbrev cX2_become : ByteArray := prog_4_method_6_code
def yX2_become : MethodName := ⟨RX2, "become", "(LLadderStreet$Laws;)V"⟩
abbrev cX2_setAll : ByteArray := prog_4_method_7_code
def yX2_setAll : MethodName := ⟨RX2, "setAll", "(II)V"⟩
abbrev cX2_set : ByteArray := prog_4_method_8_code
def yX2_set : MethodName := ⟨RX2, "set", "(II)V"⟩
abbrev cX2_worth : ByteArray := prog_4_method_9_code
def yX2_worth : MethodName := ⟨RX2, "worth", "(I)I"⟩
abbrev cX2_reckoned : ByteArray := prog_4_method_10_code
def yX2_reckoned : MethodName := ⟨RX2, "reckoned", "(III)I"⟩
def RX3 : String := "LadderStreet$Looks"
def TX3 : u_T := fun k => match k with
  | 0 => ("LadderStreet$Looks", "town", "LLadderStreet$Town;", true)
  | _ => ("LadderStreet$Looks", "course", "LLadderStreet$Course;", true)
def tyX3 : Nat → FieldType := fun k => match k with
  | 0 => .object "LadderStreet$Town"
  | _ => .object "LadderStreet$Course"
abbrev wsX30 : List Cond := u_ws RX3 TX3 2
theorem nmX3 : ∀ a, a < 2 → ∀ b, b < 2 → a ≠ b → (TX3 a).2.1 ≠ (TX3 b).2.1 := by decide +kernel
theorem tyX3_ok : ∀ k, k < 2 → parseFieldDescriptor (TX3 k).2.2.1 = some (tyX3 k) := by decide +kernel
abbrev cX3_init : ByteArray := prog_5_method_1_code
def yX3_init : MethodName := ⟨RX3, "<init>", "(LLadderStreet$Town;LLadderStreet$Course;)V"⟩
abbrev cX3_peopleOn : ByteArray := prog_5_method_2_code
def yX3_peopleOn : MethodName := ⟨RX3, "peopleOn", "(LLadderStreet$Moment;I)I"⟩
abbrev cX3_peopleAbove : ByteArray := prog_5_method_3_code
def yX3_peopleAbove : MethodName := ⟨RX3, "peopleAbove", "(LLadderStreet$Moment;I)I"⟩
abbrev cX3_peopleWithGoal : ByteArray := prog_5_method_4_code
def yX3_peopleWithGoal : MethodName := ⟨RX3, "peopleWithGoal", "(LLadderStreet$Moment;)I"⟩
abbrev cX3_overfull : ByteArray := prog_5_method_5_code
def yX3_overfull : MethodName := ⟨RX3, "overfull", "(LLadderStreet$Moment;)I"⟩
abbrev cX3_empty : ByteArray := prog_5_method_6_code
def yX3_empty : MethodName := ⟨RX3, "empty", "(LLadderStreet$Moment;)I"⟩
abbrev cX3_rungsFor : ByteArray := prog_5_method_7_code
def yX3_rungsFor : MethodName := ⟨RX3, "rungsFor", "(LLadderStreet$Moment;I)I"⟩
abbrev cX3_fullestRung : ByteArray := prog_5_method_8_code
def yX3_fullestRung : MethodName := ⟨RX3, "fullestRung", "(LLadderStreet$Moment;)I"⟩
abbrev cX3_whoTookLeast : ByteArray := prog_5_method_9_code
def yX3_whoTookLeast : MethodName := ⟨RX3, "whoTookLeast", "(LLadderStreet$Moment;)I"⟩
abbrev cX3_whoWaitedLongest : ByteArray := prog_5_method_10_code
def yX3_whoWaitedLongest : MethodName := ⟨RX3, "whoWaitedLongest", "(LLadderStreet$Moment;)I"⟩
abbrev cX3_blockedTo : ByteArray := prog_5_method_11_code
def yX3_blockedTo : MethodName := ⟨RX3, "blockedTo", "(LLadderStreet$Moment;II)I"⟩
abbrev cX3_partedPairs : ByteArray := prog_5_method_12_code
def yX3_partedPairs : MethodName := ⟨RX3, "partedPairs", "(LLadderStreet$Moment;II)I"⟩
abbrev cX3_leastParting : ByteArray := prog_5_method_13_code
def yX3_leastParting : MethodName := ⟨RX3, "leastParting", "(LLadderStreet$Moment;I)I"⟩
abbrev cX3_meetingRung : ByteArray := prog_5_method_14_code
def yX3_meetingRung : MethodName := ⟨RX3, "meetingRung", "(LLadderStreet$Moment;II)I"⟩
abbrev cX3_widthsWith : ByteArray := prog_5_method_15_code
def yX3_widthsWith : MethodName := ⟨RX3, "widthsWith", "(LLadderStreet$Moment;III)I"⟩
abbrev cX3_farther : ByteArray := prog_5_method_16_code
def yX3_farther : MethodName := ⟨RX3, "farther", "(LLadderStreet$Moment;III)I"⟩
abbrev cX3_keptBy : ByteArray := prog_5_method_17_code
def yX3_keptBy : MethodName := ⟨RX3, "keptBy", "(LLadderStreet$Moment;I)I"⟩
abbrev cX3_whoKnows : ByteArray := prog_5_method_18_code
def yX3_whoKnows : MethodName := ⟨RX3, "whoKnows", "(LLadderStreet$Moment;II)I"⟩
abbrev cX3_whoHears : ByteArray := prog_5_method_19_code
def yX3_whoHears : MethodName := ⟨RX3, "whoHears", "(LLadderStreet$Moment;I)I"⟩
abbrev cX3_areNear : ByteArray := prog_5_method_20_code
def yX3_areNear : MethodName := ⟨RX3, "areNear", "(LLadderStreet$Moment;III)Z"⟩
abbrev cX3_pairsWithin : ByteArray := prog_5_method_21_code
def yX3_pairsWithin : MethodName := ⟨RX3, "pairsWithin", "(LLadderStreet$Moment;I)I"⟩
abbrev cX3_mostPairs : ByteArray := prog_5_method_22_code
def yX3_mostPairs : MethodName := ⟨RX3, "mostPairs", "(LLadderStreet$Moment;III)I"⟩
def RX4 : String := "LadderStreet$Moment"
def TX4 : u_T := fun k => match k with
  | _ => ("LadderStreet$Moment", "cells", "[I", true)
def tyX4 : Nat → FieldType := fun k => match k with
  | _ => .array .int
abbrev wsX40 : List Cond := u_ws RX4 TX4 1
theorem nmX4 : ∀ a, a < 1 → ∀ b, b < 1 → a ≠ b → (TX4 a).2.1 ≠ (TX4 b).2.1 := by decide +kernel
theorem tyX4_ok : ∀ k, k < 1 → parseFieldDescriptor (TX4 k).2.2.1 = some (tyX4 k) := by decide +kernel
abbrev cX4_init : ByteArray := prog_6_method_1_code
def yX4_init : MethodName := ⟨RX4, "<init>", "()V"⟩
abbrev cX4_begin : ByteArray := prog_6_method_2_code
def yX4_begin : MethodName := ⟨RX4, "begin", "(LLadderStreet$Town;)V"⟩
abbrev cX4_become : ByteArray := prog_6_method_3_code
def yX4_become : MethodName := ⟨RX4, "become", "(LLadderStreet$Moment;)V"⟩
abbrev cX4_copyTo : ByteArray := prog_6_method_4_code
def yX4_copyTo : MethodName := ⟨RX4, "copyTo", "([II)V"⟩
abbrev cX4_copyFrom : ByteArray := prog_6_method_5_code
def yX4_copyFrom : MethodName := ⟨RX4, "copyFrom", "([II)V"⟩
abbrev cX4_of : ByteArray := prog_6_method_6_code
def yX4_of : MethodName := ⟨RX4, "of", "(II)I"⟩
abbrev cX4_put : ByteArray := prog_6_method_7_code
def yX4_put : MethodName := ⟨RX4, "put", "(III)V"⟩
abbrev cX4_sumOf : ByteArray := prog_6_method_8_code
def yX4_sumOf : MethodName := ⟨RX4, "sumOf", "(I)I"⟩
abbrev cX4_minute : ByteArray := prog_6_method_9_code
def yX4_minute : MethodName := ⟨RX4, "minute", "()I"⟩
abbrev cX4_nextMinute : ByteArray := prog_6_method_10_code
def yX4_nextMinute : MethodName := ⟨RX4, "nextMinute", "()V"⟩
abbrev cX4_quarrels : ByteArray := prog_6_method_11_code
def yX4_quarrels : MethodName := ⟨RX4, "quarrels", "()I"⟩
abbrev cX4_addQuarrels : ByteArray := prog_6_method_12_code
def yX4_addQuarrels : MethodName := ⟨RX4, "addQuarrels", "(I)V"⟩
abbrev cX4_broken : ByteArray := prog_6_method_13_code
def yX4_broken : MethodName := ⟨RX4, "broken", "()I"⟩
abbrev cX4_isWhole : ByteArray := prog_6_method_14_code
def yX4_isWhole : MethodName := ⟨RX4, "isWhole", "(I)Z"⟩
abbrev cX4_makeWhole : ByteArray := prog_6_method_15_code
def yX4_makeWhole : MethodName := ⟨RX4, "makeWhole", "(I)V"⟩
abbrev cX4_breakDown : ByteArray := prog_6_method_16_code
def yX4_breakDown : MethodName := ⟨RX4, "breakDown", "(I)V"⟩
abbrev cX4_stopGoing : ByteArray := prog_6_method_17_code
def yX4_stopGoing : MethodName := ⟨RX4, "stopGoing", "(I)V"⟩
abbrev cX4_copyTook : ByteArray := prog_6_method_18_code
def yX4_copyTook : MethodName := ⟨RX4, "copyTook", "([I)V"⟩
abbrev cX4_tookAsIn : ByteArray := prog_6_method_19_code
def yX4_tookAsIn : MethodName := ⟨RX4, "tookAsIn", "([I)Z"⟩
def RX5 : String := "LadderStreet$Reader"
def TX5 : u_T := fun k => match k with
  | 0 => ("LadderStreet$Reader", "draft", "LLadderStreet$Town;", true)
  | 1 => ("LadderStreet$Reader", "tokens", "LLadderStreet$Tokens;", true)
  | 2 => ("LadderStreet$Reader", "names", "[J", true)
  | 3 => ("LadderStreet$Reader", "token", "I", false)
  | 4 => ("LadderStreet$Reader", "kind", "I", false)
  | 5 => ("LadderStreet$Reader", "place", "I", false)
  | 6 => ("LadderStreet$Reader", "worth", "J", false)
  | 7 => ("LadderStreet$Reader", "fault", "I", false)
  | 8 => ("LadderStreet$Reader", "faultPlace", "I", false)
  | 9 => ("LadderStreet$Reader", "untrue", "I", false)
  | _ => ("LadderStreet$Reader", "untruePlace", "I", false)
def tyX5 : Nat → FieldType := fun k => match k with
  | 0 => .object "LadderStreet$Town"
  | 1 => .object "LadderStreet$Tokens"
  | 2 => .array .long
  | 3 => .int
  | 4 => .int
  | 5 => .int
  | 6 => .long
  | 7 => .int
  | 8 => .int
  | 9 => .int
  | _ => .int
abbrev wsX50 : List Cond := u_ws RX5 TX5 11
theorem nmX5 : ∀ a, a < 11 → ∀ b, b < 11 → a ≠ b → (TX5 a).2.1 ≠ (TX5 b).2.1 := by decide +kernel
theorem tyX5_ok : ∀ k, k < 11 → parseFieldDescriptor (TX5 k).2.2.1 = some (tyX5 k) := by decide +kernel
abbrev cX5_init : ByteArray := prog_7_method_1_code
def yX5_init : MethodName := ⟨RX5, "<init>", "()V"⟩
abbrev cX5_begin : ByteArray := prog_7_method_2_code
def yX5_begin : MethodName := ⟨RX5, "begin", "([BI)V"⟩
abbrev cX5_goesOn : ByteArray := prog_7_method_3_code
def yX5_goesOn : MethodName := ⟨RX5, "goesOn", "()Z"⟩
abbrev cX5_end : ByteArray := prog_7_method_4_code
def yX5_end : MethodName := ⟨RX5, "end", "()I"⟩
abbrev cX5_placeOfFault : ByteArray := prog_7_method_5_code
def yX5_placeOfFault : MethodName := ⟨RX5, "placeOfFault", "()I"⟩
abbrev cX5_fail : ByteArray := prog_7_method_6_code
def yX5_fail : MethodName := ⟨RX5, "fail", "(I)V"⟩
abbrev cX5_note : ByteArray := prog_7_method_7_code
def yX5_note : MethodName := ⟨RX5, "note", "(II)V"⟩
abbrev cX5_take : ByteArray := prog_7_method_8_code
def yX5_take : MethodName := ⟨RX5, "take", "(I)Z"⟩
abbrev cX5_readTell : ByteArray := prog_7_method_9_code
def yX5_readTell : MethodName := ⟨RX5, "readTell", "()V"⟩
abbrev cX5_readInt : ByteArray := prog_7_method_10_code
def yX5_readInt : MethodName := ⟨RX5, "readInt", "(II)I"⟩
abbrev cX5_readPerson : ByteArray := prog_7_method_11_code
def yX5_readPerson : MethodName := ⟨RX5, "readPerson", "()V"⟩
abbrev cX5_readName : ByteArray := prog_7_method_12_code
def yX5_readName : MethodName := ⟨RX5, "readName", "()V"⟩
abbrev cX5_readLaw : ByteArray := prog_7_method_13_code
def yX5_readLaw : MethodName := ⟨RX5, "readLaw", "(I)V"⟩
abbrev cX5_readSum : ByteArray := prog_7_method_14_code
def yX5_readSum : MethodName := ⟨RX5, "readSum", "(I)V"⟩
abbrev cX5_readProduct : ByteArray := prog_7_method_15_code
def yX5_readProduct : MethodName := ⟨RX5, "readProduct", "(I)V"⟩
abbrev cX5_readUnit : ByteArray := prog_7_method_16_code
def yX5_readUnit : MethodName := ⟨RX5, "readUnit", "(I)V"⟩
def RX6 : String := "LadderStreet$Rumours"
def TX6 : u_T := fun k => match k with
  | 0 => ("LadderStreet$Rumours", "town", "LLadderStreet$Town;", true)
  | 1 => ("LadderStreet$Rumours", "rungs", "[I", true)
  | 2 => ("LadderStreet$Rumours", "fromAbove", "[Z", true)
  | _ => ("LadderStreet$Rumours", "size", "I", false)
def tyX6 : Nat → FieldType := fun k => match k with
  | 0 => .object "LadderStreet$Town"
  | 1 => .array .int
  | 2 => .array .boolean
  | _ => .int
abbrev wsX60 : List Cond := u_ws RX6 TX6 4
theorem nmX6 : ∀ a, a < 4 → ∀ b, b < 4 → a ≠ b → (TX6 a).2.1 ≠ (TX6 b).2.1 := by decide +kernel
theorem tyX6_ok : ∀ k, k < 4 → parseFieldDescriptor (TX6 k).2.2.1 = some (tyX6 k) := by decide +kernel
abbrev cX6_init : ByteArray := prog_8_method_1_code
def yX6_init : MethodName := ⟨RX6, "<init>", "(LLadderStreet$Town;)V"⟩
abbrev cX6_howMany : ByteArray := prog_8_method_2_code
def yX6_howMany : MethodName := ⟨RX6, "howMany", "()I"⟩
abbrev cX6_add : ByteArray := prog_8_method_3_code
def yX6_add : MethodName := ⟨RX6, "add", "(IZ)I"⟩
abbrev cX6_clear : ByteArray := prog_8_method_4_code
def yX6_clear : MethodName := ⟨RX6, "clear", "()I"⟩
abbrev cX6_whoFits : ByteArray := prog_8_method_5_code
def yX6_whoFits : MethodName := ⟨RX6, "whoFits", "(LLadderStreet$Moment;I)I"⟩
abbrev cX6_doesFit : ByteArray := prog_8_method_6_code
def yX6_doesFit : MethodName := ⟨RX6, "doesFit", "(LLadderStreet$Moment;II)Z"⟩
abbrev cX6_treads : ByteArray := prog_8_method_7_code
def yX6_treads : MethodName := ⟨RX6, "treads", "(LLadderStreet$Moment;II)Z"⟩
abbrev cX6_bestRung : ByteArray := prog_8_method_8_code
def yX6_bestRung : MethodName := ⟨RX6, "bestRung", "(LLadderStreet$Moment;I)I"⟩
abbrev cX6_whoTreads : ByteArray := prog_8_method_9_code
def yX6_whoTreads : MethodName := ⟨RX6, "whoTreads", "(LLadderStreet$Moment;I)I"⟩
def RX7 : String := "LadderStreet$Shelf"
def TX7 : u_T := fun k => match k with
  | 0 => ("LadderStreet$Shelf", "done", "[I", true)
  | 1 => ("LadderStreet$Shelf", "slots", "[I", true)
  | 2 => ("LadderStreet$Shelf", "next", "I", false)
  | 3 => ("LadderStreet$Shelf", "undoable", "I", false)
  | _ => ("LadderStreet$Shelf", "filled", "I", false)
def tyX7 : Nat → FieldType := fun k => match k with
  | 0 => .array .int
  | 1 => .array .int
  | 2 => .int
  | 3 => .int
  | _ => .int
abbrev wsX70 : List Cond := u_ws RX7 TX7 5
theorem nmX7 : ∀ a, a < 5 → ∀ b, b < 5 → a ≠ b → (TX7 a).2.1 ≠ (TX7 b).2.1 := by decide +kernel
theorem tyX7_ok : ∀ k, k < 5 → parseFieldDescriptor (TX7 k).2.2.1 = some (tyX7 k) := by decide +kernel
abbrev cX7_init : ByteArray := prog_9_method_1_code
def yX7_init : MethodName := ⟨RX7, "<init>", "()V"⟩
abbrev cX7_clear : ByteArray := prog_9_method_2_code
def yX7_clear : MethodName := ⟨RX7, "clear", "()V"⟩
abbrev cX7_undoable : ByteArray := prog_9_method_3_code
def yX7_undoable : MethodName := ⟨RX7, "undoable", "()I"⟩
abbrev cX7_filledSlots : ByteArray := prog_9_method_4_code
def yX7_filledSlots : MethodName := ⟨RX7, "filledSlots", "()I"⟩
abbrev cX7_remember : ByteArray := prog_9_method_5_code
def yX7_remember : MethodName := ⟨RX7, "remember", "(LLadderStreet$Moment;)V"⟩
abbrev cX7_bringBack : ByteArray := prog_9_method_6_code
def yX7_bringBack : MethodName := ⟨RX7, "bringBack", "(LLadderStreet$Moment;)Z"⟩
abbrev cX7_holdIn : ByteArray := prog_9_method_7_code
def yX7_holdIn : MethodName := ⟨RX7, "holdIn", "(ILLadderStreet$Moment;)Z"⟩
abbrev cX7_goOnFrom : ByteArray := prog_9_method_8_code
def yX7_goOnFrom : MethodName := ⟨RX7, "goOnFrom", "(ILLadderStreet$Moment;)Z"⟩
def RX8 : String := "LadderStreet$Tokens"
def TX8 : u_T := fun k => match k with
  | 0 => ("LadderStreet$Tokens", "words", "[J", true)
  | 1 => ("LadderStreet$Tokens", "kinds", "[I", true)
  | 2 => ("LadderStreet$Tokens", "places", "[I", true)
  | 3 => ("LadderStreet$Tokens", "worths", "[J", true)
  | _ => ("LadderStreet$Tokens", "size", "I", false)
def tyX8 : Nat → FieldType := fun k => match k with
  | 0 => .array .long
  | 1 => .array .int
  | 2 => .array .int
  | 3 => .array .long
  | _ => .int
abbrev wsX80 : List Cond := u_ws RX8 TX8 5
theorem nmX8 : ∀ a, a < 5 → ∀ b, b < 5 → a ≠ b → (TX8 a).2.1 ≠ (TX8 b).2.1 := by decide +kernel
theorem tyX8_ok : ∀ k, k < 5 → parseFieldDescriptor (TX8 k).2.2.1 = some (tyX8 k) := by decide +kernel
abbrev cX8_init : ByteArray := prog_10_method_1_code
def yX8_init : MethodName := ⟨RX8, "<init>", "()V"⟩
abbrev cX8_withLetter : ByteArray := prog_10_method_2_code
def yX8_withLetter : MethodName := ⟨RX8, "withLetter", "(JI)J"⟩
abbrev cX8_kindOf : ByteArray := prog_10_method_3_code
def yX8_kindOf : MethodName := ⟨RX8, "kindOf", "(I)I"⟩
abbrev cX8_placeOf : ByteArray := prog_10_method_4_code
def yX8_placeOf : MethodName := ⟨RX8, "placeOf", "(I)I"⟩
abbrev cX8_worthOf : ByteArray := prog_10_method_5_code
def yX8_worthOf : MethodName := ⟨RX8, "worthOf", "(I)J"⟩
abbrev cX8_split : ByteArray := prog_10_method_6_code
def yX8_split : MethodName := ⟨RX8, "split", "([BI)V"⟩
abbrev cX8_add : ByteArray := prog_10_method_7_code
def yX8_add : MethodName := ⟨RX8, "add", "(IIJ)V"⟩
abbrev cX8_behindBlanks : ByteArray := prog_10_method_8_code
def yX8_behindBlanks : MethodName := ⟨RX8, "behindBlanks", "([BII)I"⟩
abbrev cX8_splitName : ByteArray := prog_10_method_9_code
def yX8_splitName : MethodName := ⟨RX8, "splitName", "([BII)I"⟩
abbrev cX8_kindOfName : ByteArray := prog_10_method_10_code
def yX8_kindOfName : MethodName := ⟨RX8, "kindOfName", "(J)I"⟩
abbrev cX8_splitInt : ByteArray := prog_10_method_11_code
def yX8_splitInt : MethodName := ⟨RX8, "splitInt", "([BII)I"⟩
abbrev cX8_isBlank : ByteArray := prog_10_method_12_code
def yX8_isBlank : MethodName := ⟨RX8, "isBlank", "(I)Z"⟩
abbrev cX8_isLetter : ByteArray := prog_10_method_13_code
def yX8_isLetter : MethodName := ⟨RX8, "isLetter", "(I)Z"⟩
abbrev cX8_isDigit : ByteArray := prog_10_method_14_code
def yX8_isDigit : MethodName := ⟨RX8, "isDigit", "(I)Z"⟩
abbrev cX8_isSign : ByteArray := prog_10_method_15_code
def yX8_isSign : MethodName := ⟨RX8, "isSign", "(I)Z"⟩
def RX9 : String := "LadderStreet$Town"
def TX9 : u_T := fun k => match k with
  | 0 => ("LadderStreet$Town", "rungs", "I", false)
  | 1 => ("LadderStreet$Town", "people", "I", false)
  | 2 => ("LadderStreet$Town", "seed", "I", false)
  | 3 => ("LadderStreet$Town", "laws", "LLadderStreet$Laws;", true)
  | 4 => ("LadderStreet$Town", "starts", "[I", true)
  | 5 => ("LadderStreet$Town", "widths", "[I", true)
  | 6 => ("LadderStreet$Town", "tempers", "[I", true)
  | _ => ("LadderStreet$Town", "thirsts", "[I", true)
def tyX9 : Nat → FieldType := fun k => match k with
  | 0 => .int
  | 1 => .int
  | 2 => .int
  | 3 => .object "LadderStreet$Laws"
  | 4 => .array .int
  | 5 => .array .int
  | 6 => .array .int
  | _ => .array .int
abbrev wsX90 : List Cond := u_ws RX9 TX9 8
theorem nmX9 : ∀ a, a < 8 → ∀ b, b < 8 → a ≠ b → (TX9 a).2.1 ≠ (TX9 b).2.1 := by decide +kernel
theorem tyX9_ok : ∀ k, k < 8 → parseFieldDescriptor (TX9 k).2.2.1 = some (tyX9 k) := by decide +kernel
abbrev cX9_init : ByteArray := prog_11_method_1_code
def yX9_init : MethodName := ⟨RX9, "<init>", "()V"⟩
abbrev cX9_clear : ByteArray := prog_11_method_2_code
def yX9_clear : MethodName := ⟨RX9, "clear", "()V"⟩
abbrev cX9_addPerson : ByteArray := prog_11_method_3_code
def yX9_addPerson : MethodName := ⟨RX9, "addPerson", "(IIII)V"⟩
abbrev cX9_become : ByteArray := prog_11_method_4_code
def yX9_become : MethodName := ⟨RX9, "become", "(LLadderStreet$Town;)V"⟩
abbrev cX9_hasPerson : ByteArray := prog_11_method_5_code
def yX9_hasPerson : MethodName := ⟨RX9, "hasPerson", "(I)Z"⟩
abbrev cX9_hasRung : ByteArray := prog_11_method_6_code
def yX9_hasRung : MethodName := ⟨RX9, "hasRung", "(I)Z"⟩
abbrev cX9_hasAllRungsTold : ByteArray := prog_11_method_7_code
def yX9_hasAllRungsTold : MethodName := ⟨RX9, "hasAllRungsTold", "()Z"⟩
abbrev cX9_startOf : ByteArray := prog_11_method_8_code
def yX9_startOf : MethodName := ⟨RX9, "startOf", "(I)I"⟩
abbrev cX9_widthOf : ByteArray := prog_11_method_9_code
def yX9_widthOf : MethodName := ⟨RX9, "widthOf", "(I)I"⟩
abbrev cX9_temperOf : ByteArray := prog_11_method_10_code
def yX9_temperOf : MethodName := ⟨RX9, "temperOf", "(I)I"⟩
abbrev cX9_thirstOf : ByteArray := prog_11_method_11_code
def yX9_thirstOf : MethodName := ⟨RX9, "thirstOf", "(I)I"⟩
abbrev cX9_sumOfWidths : ByteArray := prog_11_method_12_code
def yX9_sumOfWidths : MethodName := ⟨RX9, "sumOfWidths", "()I"⟩
abbrev cX9_sumOfThirst : ByteArray := prog_11_method_13_code
def yX9_sumOfThirst : MethodName := ⟨RX9, "sumOfThirst", "()I"⟩
def RX10 : String := "LadderStreet$Ways"
def TX10 : u_T := fun k => match k with
  | 0 => ("LadderStreet$Ways", "town", "LLadderStreet$Town;", true)
  | 1 => ("LadderStreet$Ways", "course", "LLadderStreet$Course;", true)
  | 2 => ("LadderStreet$Ways", "space", "[I", true)
  | 3 => ("LadderStreet$Ways", "places", "[I", false)
  | _ => ("LadderStreet$Ways", "nextPlaces", "[I", false)
def tyX10 : Nat → FieldType := fun k => match k with
  | 0 => .object "LadderStreet$Town"
  | 1 => .object "LadderStreet$Course"
  | 2 => .array .int
  | 3 => .array .int
  | _ => .array .int
abbrev wsX100 : List Cond := u_ws RX10 TX10 5
theorem nmX10 : ∀ a, a < 5 → ∀ b, b < 5 → a ≠ b → (TX10 a).2.1 ≠ (TX10 b).2.1 := by decide +kernel
theorem tyX10_ok : ∀ k, k < 5 → parseFieldDescriptor (TX10 k).2.2.1 = some (tyX10 k) := by decide +kernel
abbrev cX10_init : ByteArray := prog_12_method_1_code
def yX10_init : MethodName := ⟨RX10, "<init>", "(LLadderStreet$Town;LLadderStreet$Course;)V"⟩
abbrev cX10_setSpace : ByteArray := prog_12_method_2_code
def yX10_setSpace : MethodName := ⟨RX10, "setSpace", "(LLadderStreet$Moment;III)V"⟩
abbrev cX10_ownWidth : ByteArray := prog_12_method_3_code
def yX10_ownWidth : MethodName := ⟨RX10, "ownWidth", "(LLadderStreet$Moment;II)I"⟩
abbrev cX10_takes : ByteArray := prog_12_method_4_code
def yX10_takes : MethodName := ⟨RX10, "takes", "(II)Z"⟩
abbrev cX10_fewestForOne : ByteArray := prog_12_method_5_code
def yX10_fewestForOne : MethodName := ⟨RX10, "fewestForOne", "(LLadderStreet$Moment;II)I"⟩
abbrev cX10_allForOne : ByteArray := prog_12_method_6_code
def yX10_allForOne : MethodName := ⟨RX10, "allForOne", "(LLadderStreet$Moment;I)I"⟩
abbrev cX10_spread : ByteArray := prog_12_method_7_code
def yX10_spread : MethodName := ⟨RX10, "spread", "(II)I"⟩
abbrev cX10_fewestForTwo : ByteArray := prog_12_method_8_code
def yX10_fewestForTwo : MethodName := ⟨RX10, "fewestForTwo", "(LLadderStreet$Moment;IIII)I"⟩
abbrev cX10_spreadBoth : ByteArray := prog_12_method_9_code
def yX10_spreadBoth : MethodName := ⟨RX10, "spreadBoth", "(II)V"⟩
abbrev cX10_spreadOne : ByteArray := prog_12_method_10_code
def yX10_spreadOne : MethodName := ⟨RX10, "spreadOne", "(IIII)V"⟩
abbrev cX10_otherPlaces : ByteArray := prog_12_method_11_code
def yX10_otherPlaces : MethodName := ⟨RX10, "otherPlaces", "(IIII)I"⟩
def RX11 : String := "LadderStreet"
def TX11 : u_T := fun k => match k with
  | 0 => ("LadderStreet", "tape", "[B", true)
  | 1 => ("LadderStreet", "taped", "I", false)
  | 2 => ("LadderStreet", "faultPlace", "I", false)
  | 3 => ("LadderStreet", "reader", "LLadderStreet$Reader;", true)
  | 4 => ("LadderStreet", "town", "LLadderStreet$Town;", true)
  | 5 => ("LadderStreet", "now", "LLadderStreet$Moment;", true)
  | 6 => ("LadderStreet", "later", "LLadderStreet$Moment;", true)
  | 7 => ("LadderStreet", "shelf", "LLadderStreet$Shelf;", true)
  | 8 => ("LadderStreet", "course", "LLadderStreet$Course;", true)
  | 9 => ("LadderStreet", "ways", "LLadderStreet$Ways;", true)
  | 10 => ("LadderStreet", "looks", "LLadderStreet$Looks;", true)
  | 11 => ("LadderStreet", "living", "LLadderStreet$Homes;", true)
  | 12 => ("LadderStreet", "rumours", "LLadderStreet$Rumours;", true)
  | _ => ("LadderStreet", "taken", "[I", true)
def tyX11 : Nat → FieldType := fun k => match k with
  | 0 => .array .byte
  | 1 => .int
  | 2 => .int
  | 3 => .object "LadderStreet$Reader"
  | 4 => .object "LadderStreet$Town"
  | 5 => .object "LadderStreet$Moment"
  | 6 => .object "LadderStreet$Moment"
  | 7 => .object "LadderStreet$Shelf"
  | 8 => .object "LadderStreet$Course"
  | 9 => .object "LadderStreet$Ways"
  | 10 => .object "LadderStreet$Looks"
  | 11 => .object "LadderStreet$Homes"
  | 12 => .object "LadderStreet$Rumours"
  | _ => .array .int
abbrev wsX110 : List Cond := u_ws RX11 TX11 14
theorem nmX11 : ∀ a, a < 14 → ∀ b, b < 14 → a ≠ b → (TX11 a).2.1 ≠ (TX11 b).2.1 := by decide +kernel
theorem tyX11_ok : ∀ k, k < 14 → parseFieldDescriptor (TX11 k).2.2.1 = some (tyX11 k) := by decide +kernel
abbrev cX11_init : ByteArray := prog_1_method_1_code
def yX11_init : MethodName := ⟨RX11, "<init>", "()V"⟩
abbrev cX11_feed : ByteArray := prog_1_method_2_code
def yX11_feed : MethodName := ⟨RX11, "feed", "(IIIII)I"⟩
abbrev cX11_putFour : ByteArray := prog_1_method_3_code
def yX11_putFour : MethodName := ⟨RX11, "putFour", "(I)V"⟩
abbrev cX11_back : ByteArray := prog_1_method_4_code
def yX11_back : MethodName := ⟨RX11, "back", "(I)I"⟩
abbrev cX11_read : ByteArray := prog_1_method_5_code
def yX11_read : MethodName := ⟨RX11, "read", "()I"⟩
abbrev cX11_place : ByteArray := prog_1_method_6_code
def yX11_place : MethodName := ⟨RX11, "place", "()I"⟩
abbrev cX11_person : ByteArray := prog_1_method_7_code
def yX11_person : MethodName := ⟨RX11, "person", "(II)I"⟩
abbrev cX11_rung : ByteArray := prog_1_method_8_code
def yX11_rung : MethodName := ⟨RX11, "rung", "(II)I"⟩
abbrev cX11_can : ByteArray := prog_1_method_9_code
def yX11_can : MethodName := ⟨RX11, "can", "(II)I"⟩
abbrev cX11_count : ByteArray := prog_1_method_10_code
def yX11_count : MethodName := ⟨RX11, "count", "(I)I"⟩
abbrev cX11_areThere : ByteArray := prog_1_method_11_code
def yX11_areThere : MethodName := ⟨RX11, "areThere", "(II)Z"⟩
abbrev cX11_areTwo : ByteArray := prog_1_method_12_code
def yX11_areTwo : MethodName := ⟨RX11, "areTwo", "(II)Z"⟩
abbrev cX11_isWithin : ByteArray := prog_1_method_13_code
def yX11_isWithin : MethodName := ⟨RX11, "isWithin", "(III)Z"⟩
abbrev cX11_send : ByteArray := prog_1_method_14_code
def yX11_send : MethodName := ⟨RX11, "send", "(II)Z"⟩
abbrev cX11_mend : ByteArray := prog_1_method_15_code
def yX11_mend : MethodName := ⟨RX11, "mend", "(I)Z"⟩
abbrev cX11_bucket : ByteArray := prog_1_method_16_code
def yX11_bucket : MethodName := ⟨RX11, "bucket", "(I)I"⟩
abbrev cX11_minutes : ByteArray := prog_1_method_17_code
def yX11_minutes : MethodName := ⟨RX11, "minutes", "(I)I"⟩
abbrev cX11_undo : ByteArray := prog_1_method_18_code
def yX11_undo : MethodName := ⟨RX11, "undo", "()Z"⟩
abbrev cX11_hold : ByteArray := prog_1_method_19_code
def yX11_hold : MethodName := ⟨RX11, "hold", "(I)Z"⟩
abbrev cX11_restore : ByteArray := prog_1_method_20_code
def yX11_restore : MethodName := ⟨RX11, "restore", "(I)Z"⟩
abbrev cX11_inTheWay : ByteArray := prog_1_method_21_code
def yX11_inTheWay : MethodName := ⟨RX11, "inTheWay", "(II)I"⟩
abbrev cX11_past : ByteArray := prog_1_method_22_code
def yX11_past : MethodName := ⟨RX11, "past", "(IIII)I"⟩
abbrev cX11_alone : ByteArray := prog_1_method_23_code
def yX11_alone : MethodName := ⟨RX11, "alone", "(II)I"⟩
abbrev cX11_reach : ByteArray := prog_1_method_24_code
def yX11_reach : MethodName := ⟨RX11, "reach", "(I)I"⟩
abbrev cX11_meet : ByteArray := prog_1_method_25_code
def yX11_meet : MethodName := ⟨RX11, "meet", "(III)I"⟩
abbrev cX11_above : ByteArray := prog_1_method_26_code
def yX11_above : MethodName := ⟨RX11, "above", "(I)I"⟩
abbrev cX11_driest : ByteArray := prog_1_method_27_code
def yX11_driest : MethodName := ⟨RX11, "driest", "(I)I"⟩
abbrev cX11_parts : ByteArray := prog_1_method_28_code
def yX11_parts : MethodName := ⟨RX11, "parts", "(II)I"⟩
abbrev cX11_least : ByteArray := prog_1_method_29_code
def yX11_least : MethodName := ⟨RX11, "least", "(II)I"⟩
abbrev cX11_homes : ByteArray := prog_1_method_30_code
def yX11_homes : MethodName := ⟨RX11, "homes", "(II)I"⟩
abbrev cX11_news : ByteArray := prog_1_method_31_code
def yX11_news : MethodName := ⟨RX11, "news", "(II)I"⟩
abbrev cX11_pairs : ByteArray := prog_1_method_32_code
def yX11_pairs : MethodName := ⟨RX11, "pairs", "(I)I"⟩
abbrev cX11_kept : ByteArray := prog_1_method_33_code
def yX11_kept : MethodName := ⟨RX11, "kept", "(I)I"⟩
abbrev cX11_free : ByteArray := prog_1_method_34_code
def yX11_free : MethodName := ⟨RX11, "free", "(I)I"⟩
abbrev cX11_share : ByteArray := prog_1_method_35_code
def yX11_share : MethodName := ⟨RX11, "share", "(II)I"⟩
abbrev cX11_enough : ByteArray := prog_1_method_36_code
def yX11_enough : MethodName := ⟨RX11, "enough", "()I"⟩
abbrev cX11_letDownLater : ByteArray := prog_1_method_37_code
def yX11_letDownLater : MethodName := ⟨RX11, "letDownLater", "(I)V"⟩
abbrev cX11_errands : ByteArray := prog_1_method_38_code
def yX11_errands : MethodName := ⟨RX11, "errands", "()I"⟩
abbrev cX11_mendFirst : ByteArray := prog_1_method_39_code
def yX11_mendFirst : MethodName := ⟨RX11, "mendFirst", "()I"⟩
abbrev cX11_waits : ByteArray := prog_1_method_40_code
def yX11_waits : MethodName := ⟨RX11, "waits", "(II)I"⟩
abbrev cX11_crowd : ByteArray := prog_1_method_41_code
def yX11_crowd : MethodName := ⟨RX11, "crowd", "(II)I"⟩
abbrev cX11_then : ByteArray := prog_1_method_42_code
def yX11_then : MethodName := ⟨RX11, "then", "(III)I"⟩
abbrev cX11_year : ByteArray := prog_1_method_43_code
def yX11_year : MethodName := ⟨RX11, "year", "(II)I"⟩
abbrev cX11_lookAhead : ByteArray := prog_1_method_44_code
def yX11_lookAhead : MethodName := ⟨RX11, "lookAhead", "(I)V"⟩
abbrev cX11_tell : ByteArray := prog_1_method_45_code
def yX11_tell : MethodName := ⟨RX11, "tell", "(IZ)I"⟩
abbrev cX11_forget : ByteArray := prog_1_method_46_code
def yX11_forget : MethodName := ⟨RX11, "forget", "()I"⟩
abbrev cX11_trod : ByteArray := prog_1_method_47_code
def yX11_trod : MethodName := ⟨RX11, "trod", "(II)I"⟩
abbrev cX11_ask : ByteArray := prog_1_method_48_code
def yX11_ask : MethodName := ⟨RX11, "ask", "(I)I"⟩
abbrev cX11_at : ByteArray := prog_1_method_49_code
def yX11_at : MethodName := ⟨RX11, "at", "([II)I"⟩
abbrev cX11_hasBit : ByteArray := prog_1_method_50_code
def yX11_hasBit : MethodName := ⟨RX11, "hasBit", "(II)Z"⟩
abbrev cX11_lot : ByteArray := prog_1_method_51_code
def yX11_lot : MethodName := ⟨RX11, "lot", "(III)I"⟩
abbrev cX11_stirred : ByteArray := prog_1_method_52_code
def yX11_stirred : MethodName := ⟨RX11, "stirred", "(II)I"⟩
def RX12 : String := "LadderStreetModel"
def TX12 : u_T := fun k => match k with
  | 0 => ("LadderStreetModel", "thrown", "I", false)
  | 1 => ("LadderStreetModel", "tape", "[B", true)
  | 2 => ("LadderStreetModel", "taped", "I", false)
  | 3 => ("LadderStreetModel", "text", "[B", true)
  | 4 => ("LadderStreetModel", "size", "I", false)
  | 5 => ("LadderStreetModel", "tKind", "[I", true)
  | 6 => ("LadderStreetModel", "tPlace", "[I", true)
  | 7 => ("LadderStreetModel", "tValue", "[I", true)
  | 8 => ("LadderStreetModel", "tName", "[J", true)
  | 9 => ("LadderStreetModel", "keys", "[J", true)
  | 10 => ("LadderStreetModel", "tokens", "I", false)
  | 11 => ("LadderStreetModel", "t", "I", false)
  | 12 => ("LadderStreetModel", "open", "I", false)
  | 13 => ("LadderStreetModel", "fault", "I", false)
  | 14 => ("LadderStreetModel", "faultPlace", "I", false)
  | 15 => ("LadderStreetModel", "worst", "I", false)
  | 16 => ("LadderStreetModel", "worstPlace", "I", false)
  | 17 => ("LadderStreetModel", "place", "I", false)
  | 18 => ("LadderStreetModel", "live", "I", false)
  | 19 => ("LadderStreetModel", "side", "I", false)
  | 20 => ("LadderStreetModel", "names", "I", false)
  | 21 => ("LadderStreetModel", "nameOf", "[J", true)
  | 22 => ("LadderStreetModel", "shaft", "[I", true)
  | 23 => ("LadderStreetModel", "people", "[I", true)
  | 24 => ("LadderStreetModel", "atTold", "[I", true)
  | 25 => ("LadderStreetModel", "widthOf", "[I", true)
  | 26 => ("LadderStreetModel", "temperOf", "[I", true)
  | 27 => ("LadderStreetModel", "thirstOf", "[I", true)
  | 28 => ("LadderStreetModel", "seed", "[I", true)
  | 29 => ("LadderStreetModel", "lawFirst", "[I", true)
  | 30 => ("LadderStreetModel", "lawLast", "[I", true)
  | 31 => ("LadderStreetModel", "branches", "I", false)
  | 32 => ("LadderStreetModel", "hasTest", "[Z", true)
  | 33 => ("LadderStreetModel", "testFrom", "[I", true)
  | 34 => ("LadderStreetModel", "testMid", "[I", true)
  | 35 => ("LadderStreetModel", "testTo", "[I", true)
  | 36 => ("LadderStreetModel", "termTo", "[I", true)
  | 37 => ("LadderStreetModel", "codes", "I", false)
  | 38 => ("LadderStreetModel", "code", "[I", true)
  | 39 => ("LadderStreetModel", "codeInt", "[I", true)
  | 40 => ("LadderStreetModel", "signsWait", "[I", true)
  | 41 => ("LadderStreetModel", "waiting", "I", false)
  | 42 => ("LadderStreetModel", "variables", "[I", true)
  | 43 => ("LadderStreetModel", "pile", "[I", true)
  | 44 => ("LadderStreetModel", "byNothing", "Z", false)
  | 45 => ("LadderStreetModel", "now", "[I", true)
  | 46 => ("LadderStreetModel", "row", "[I", true)
  | 47 => ("LadderStreetModel", "lots", "I", false)
  | 48 => ("LadderStreetModel", "isStill", "Z", false)
  | 49 => ("LadderStreetModel", "undos", "I", false)
  | 50 => ("LadderStreetModel", "history", "[I", true)
  | 51 => ("LadderStreetModel", "takesOf", "[I", true)
  | 52 => ("LadderStreetModel", "isSo", "[Z", true)
  | 53 => ("LadderStreetModel", "isThen", "[Z", true)
  | 54 => ("LadderStreetModel", "oneAt", "I", false)
  | 55 => ("LadderStreetModel", "homeOf", "[I", true)
  | 56 => ("LadderStreetModel", "fullOf", "[I", true)
  | 57 => ("LadderStreetModel", "pairsOf", "[I", true)
  | 58 => ("LadderStreetModel", "tolds", "I", false)
  | 59 => ("LadderStreetModel", "toldRung", "[I", true)
  | 60 => ("LadderStreetModel", "toldAbove", "[Z", true)
  | 61 => ("LadderStreetModel", "isHeld", "[Z", true)
  | _ => ("LadderStreetModel", "heldRows", "[I", true)
def tyX12 : Nat → FieldType := fun k => match k with
  | 0 => .int
  | 1 => .array .byte
  | 2 => .int
  | 3 => .array .byte
  | 4 => .int
  | 5 => .array .int
  | 6 => .array .int
  | 7 => .array .int
  | 8 => .array .long
  | 9 => .array .long
  | 10 => .int
  | 11 => .int
  | 12 => .int
  | 13 => .int
  | 14 => .int
  | 15 => .int
  | 16 => .int
  | 17 => .int
  | 18 => .int
  | 19 => .int
  | 20 => .int
  | 21 => .array .long
  | 22 => .array .int
  | 23 => .array .int
  | 24 => .array .int
  | 25 => .array .int
  | 26 => .array .int
  | 27 => .array .int
  | 28 => .array .int
  | 29 => .array .int
  | 30 => .array .int
  | 31 => .int
  | 32 => .array .boolean
  | 33 => .array .int
  | 34 => .array .int
  | 35 => .array .int
  | 36 => .array .int
  | 37 => .int
  | 38 => .array .int
  | 39 => .array .int
  | 40 => .array .int
  | 41 => .int
  | 42 => .array .int
  | 43 => .array .int
  | 44 => .boolean
  | 45 => .array .int
  | 46 => .array .int
  | 47 => .int
  | 48 => .boolean
  | 49 => .int
  | 50 => .array .int
  | 51 => .array .int
  | 52 => .array .boolean
  | 53 => .array .boolean
  | 54 => .int
  | 55 => .array .int
  | 56 => .array .int
  | 57 => .array .int
  | 58 => .int
  | 59 => .array .int
  | 60 => .array .boolean
  | 61 => .array .boolean
  | _ => .array .int
abbrev wsX120 : List Cond := u_ws RX12 TX12 63
theorem nmX12 : ∀ a, a < 63 → ∀ b, b < 63 → a ≠ b → (TX12 a).2.1 ≠ (TX12 b).2.1 := by decide +kernel
theorem tyX12_ok : ∀ k, k < 63 → parseFieldDescriptor (TX12 k).2.2.1 = some (tyX12 k) := by decide +kernel
abbrev cX12_init : ByteArray := prog_14_method_2_code
def yX12_init : MethodName := ⟨RX12, "<init>", "()V"⟩
abbrev cX12_feed : ByteArray := prog_14_method_3_code
def yX12_feed : MethodName := ⟨RX12, "feed", "(IIIII)I"⟩
abbrev cX12_put : ByteArray := prog_14_method_4_code
def yX12_put : MethodName := ⟨RX12, "put", "(I)V"⟩
abbrev cX12_back : ByteArray := prog_14_method_5_code
def yX12_back : MethodName := ⟨RX12, "back", "(I)I"⟩
abbrev cX12_byteAt : ByteArray := prog_14_method_6_code
def yX12_byteAt : MethodName := ⟨RX12, "byteAt", "(I)I"⟩
abbrev cX12_isDigit : ByteArray := prog_14_method_7_code
def yX12_isDigit : MethodName := ⟨RX12, "isDigit", "(I)Z"⟩
abbrev cX12_isLetter : ByteArray := prog_14_method_8_code
def yX12_isLetter : MethodName := ⟨RX12, "isLetter", "(I)Z"⟩
abbrev cX12_appends : ByteArray := prog_14_method_9_code
def yX12_appends : MethodName := ⟨RX12, "appends", "(JI)J"⟩
abbrev cX12_word : ByteArray := prog_14_method_10_code
def yX12_word : MethodName := ⟨RX12, "word", "(IIIIIII)J"⟩
abbrev cX12_token : ByteArray := prog_14_method_11_code
def yX12_token : MethodName := ⟨RX12, "token", "(IIIJ)V"⟩
abbrev cX12_cut : ByteArray := prog_14_method_12_code
def yX12_cut : MethodName := ⟨RX12, "cut", "()V"⟩
abbrev cX12_sign : ByteArray := prog_14_method_13_code
def yX12_sign : MethodName := ⟨RX12, "sign", "(III)I"⟩
abbrev cX12_is : ByteArray := prog_14_method_14_code
def yX12_is : MethodName := ⟨RX12, "is", "(I)Z"⟩
abbrev cX12_fail : ByteArray := prog_14_method_15_code
def yX12_fail : MethodName := ⟨RX12, "fail", "(I)V"⟩
abbrev cX12_wrong : ByteArray := prog_14_method_16_code
def yX12_wrong : MethodName := ⟨RX12, "wrong", "(II)V"⟩
abbrev cX12_goesOn : ByteArray := prog_14_method_17_code
def yX12_goesOn : MethodName := ⟨RX12, "goesOn", "()V"⟩
abbrev cX12_must : ByteArray := prog_14_method_18_code
def yX12_must : MethodName := ⟨RX12, "must", "(I)V"⟩
abbrev cX12_plain : ByteArray := prog_14_method_19_code
def yX12_plain : MethodName := ⟨RX12, "plain", "(I)V"⟩
abbrev cX12_read : ByteArray := prog_14_method_20_code
def yX12_read : MethodName := ⟨RX12, "read", "()I"⟩
abbrev cX12_place : ByteArray := prog_14_method_21_code
def yX12_place : MethodName := ⟨RX12, "place", "()I"⟩
abbrev cX12_areOn : ByteArray := prog_14_method_22_code
def yX12_areOn : MethodName := ⟨RX12, "areOn", "()Z"⟩
abbrev cX12_roomFor : ByteArray := prog_14_method_23_code
def yX12_roomFor : MethodName := ⟨RX12, "roomFor", "(II)V"⟩
abbrev cX12_tellOne : ByteArray := prog_14_method_24_code
def yX12_tellOne : MethodName := ⟨RX12, "tellOne", "()V"⟩
abbrev cX12_bounded : ByteArray := prog_14_method_25_code
def yX12_bounded : MethodName := ⟨RX12, "bounded", "(II)I"⟩
abbrev cX12_tellPerson : ByteArray := prog_14_method_26_code
def yX12_tellPerson : MethodName := ⟨RX12, "tellPerson", "()V"⟩
abbrev cX12_tellLaw : ByteArray := prog_14_method_27_code
def yX12_tellLaw : MethodName := ⟨RX12, "tellLaw", "(I)V"⟩
abbrev cX12_term : ByteArray := prog_14_method_28_code
def yX12_term : MethodName := ⟨RX12, "term", "()V"⟩
abbrev cX12_emit : ByteArray := prog_14_method_29_code
def yX12_emit : MethodName := ⟨RX12, "emit", "(II)V"⟩
abbrev cX12_comesOut : ByteArray := prog_14_method_30_code
def yX12_comesOut : MethodName := ⟨RX12, "comesOut", "(Z)V"⟩
abbrev cX12_expression : ByteArray := prog_14_method_31_code
def yX12_expression : MethodName := ⟨RX12, "expression", "()V"⟩
abbrev cX12_unit : ByteArray := prog_14_method_32_code
def yX12_unit : MethodName := ⟨RX12, "unit", "()V"⟩
abbrev cX12_termOf : ByteArray := prog_14_method_33_code
def yX12_termOf : MethodName := ⟨RX12, "termOf", "(II)I"⟩
abbrev cX12_in : ByteArray := prog_14_method_34_code
def yX12_in : MethodName := ⟨RX12, "in", "(III)Z"⟩
abbrev cX12_within : ByteArray := prog_14_method_35_code
def yX12_within : MethodName := ⟨RX12, "within", "(III)I"⟩
abbrev cX12_bits : ByteArray := prog_14_method_36_code
def yX12_bits : MethodName := ⟨RX12, "bits", "(I)I"⟩
abbrev cX12_off : ByteArray := prog_14_method_37_code
def yX12_off : MethodName := ⟨RX12, "off", "(II)I"⟩
abbrev cX12_isPerson : ByteArray := prog_14_method_38_code
def yX12_isPerson : MethodName := ⟨RX12, "isPerson", "(I)Z"⟩
abbrev cX12_isRung : ByteArray := prog_14_method_39_code
def yX12_isRung : MethodName := ⟨RX12, "isRung", "(I)Z"⟩
abbrev cX12_begins : ByteArray := prog_14_method_40_code
def yX12_begins : MethodName := ⟨RX12, "begins", "()V"⟩
abbrev cX12_keepsRow : ByteArray := prog_14_method_41_code
def yX12_keepsRow : MethodName := ⟨RX12, "keepsRow", "()V"⟩
abbrev cX12_copies : ByteArray := prog_14_method_42_code
def yX12_copies : MethodName := ⟨RX12, "copies", "()V"⟩
abbrev cX12_mixed : ByteArray := prog_14_method_43_code
def yX12_mixed : MethodName := ⟨RX12, "mixed", "(II)I"⟩
abbrev cX12_lotOf : ByteArray := prog_14_method_44_code
def yX12_lotOf : MethodName := ⟨RX12, "lotOf", "(I)I"⟩
abbrev cX12_isWhole : ByteArray := prog_14_method_45_code
def yX12_isWhole : MethodName := ⟨RX12, "isWhole", "(I)Z"⟩
abbrev cX12_widthAt : ByteArray := prog_14_method_46_code
def yX12_widthAt : MethodName := ⟨RX12, "widthAt", "(I)I"⟩
abbrev cX12_onRung : ByteArray := prog_14_method_47_code
def yX12_onRung : MethodName := ⟨RX12, "onRung", "(I)I"⟩
abbrev cX12_widthsOf : ByteArray := prog_14_method_48_code
def yX12_widthsOf : MethodName := ⟨RX12, "widthsOf", "(I)I"⟩
abbrev cX12_widthsOn : ByteArray := prog_14_method_49_code
def yX12_widthsOn : MethodName := ⟨RX12, "widthsOn", "(I)I"⟩
abbrev cX12_looks : ByteArray := prog_14_method_50_code
def yX12_looks : MethodName := ⟨RX12, "looks", "(I)V"⟩
abbrev cX12_looksAt : ByteArray := prog_14_method_51_code
def yX12_looksAt : MethodName := ⟨RX12, "looksAt", "(I)V"⟩
abbrev cX12_lawTells : ByteArray := prog_14_method_52_code
def yX12_lawTells : MethodName := ⟨RX12, "lawTells", "(II)I"⟩
abbrev cX12_roomOf : ByteArray := prog_14_method_53_code
def yX12_roomOf : MethodName := ⟨RX12, "roomOf", "(I)I"⟩
abbrev cX12_quarrelOf : ByteArray := prog_14_method_54_code
def yX12_quarrelOf : MethodName := ⟨RX12, "quarrelOf", "(II)I"⟩
abbrev cX12_cupOf : ByteArray := prog_14_method_55_code
def yX12_cupOf : MethodName := ⟨RX12, "cupOf", "(II)I"⟩
abbrev cX12_breaksOf : ByteArray := prog_14_method_56_code
def yX12_breaksOf : MethodName := ⟨RX12, "breaksOf", "(I)I"⟩
abbrev cX12_hasRoom : ByteArray := prog_14_method_57_code
def yX12_hasRoom : MethodName := ⟨RX12, "hasRoom", "(III)Z"⟩
abbrev cX12_couldCome : ByteArray := prog_14_method_58_code
def yX12_couldCome : MethodName := ⟨RX12, "couldCome", "(II)Z"⟩
abbrev cX12_towards : ByteArray := prog_14_method_59_code
def yX12_towards : MethodName := ⟨RX12, "towards", "(II)I"⟩
abbrev cX12_personGoes : ByteArray := prog_14_method_60_code
def yX12_personGoes : MethodName := ⟨RX12, "personGoes", "(I)V"⟩
abbrev cX12_breakingBits : ByteArray := prog_14_method_61_code
def yX12_breakingBits : MethodName := ⟨RX12, "breakingBits", "()I"⟩
abbrev cX12_falls : ByteArray := prog_14_method_62_code
def yX12_falls : MethodName := ⟨RX12, "falls", "(I)V"⟩
abbrev cX12_theyBreak : ByteArray := prog_14_method_63_code
def yX12_theyBreak : MethodName := ⟨RX12, "theyBreak", "(I)V"⟩
abbrev cX12_minuteGoes : ByteArray := prog_14_method_64_code
def yX12_minuteGoes : MethodName := ⟨RX12, "minuteGoes", "()V"⟩
abbrev cX12_goes : ByteArray := prog_14_method_65_code
def yX12_goes : MethodName := ⟨RX12, "goes", "(I)V"⟩
abbrev cX12_person : ByteArray := prog_14_method_66_code
def yX12_person : MethodName := ⟨RX12, "person", "(II)I"⟩
abbrev cX12_rung : ByteArray := prog_14_method_67_code
def yX12_rung : MethodName := ⟨RX12, "rung", "(II)I"⟩
abbrev cX12_can : ByteArray := prog_14_method_68_code
def yX12_can : MethodName := ⟨RX12, "can", "(II)I"⟩
abbrev cX12_records : ByteArray := prog_14_method_69_code
def yX12_records : MethodName := ⟨RX12, "records", "()V"⟩
abbrev cX12_send : ByteArray := prog_14_method_70_code
def yX12_send : MethodName := ⟨RX12, "send", "(II)Z"⟩
abbrev cX12_mend : ByteArray := prog_14_method_71_code
def yX12_mend : MethodName := ⟨RX12, "mend", "(I)Z"⟩
abbrev cX12_pours : ByteArray := prog_14_method_72_code
def yX12_pours : MethodName := ⟨RX12, "pours", "(I)I"⟩
abbrev cX12_isWater : ByteArray := prog_14_method_73_code
def yX12_isWater : MethodName := ⟨RX12, "isWater", "(I)Z"⟩
abbrev cX12_bucket : ByteArray := prog_14_method_74_code
def yX12_bucket : MethodName := ⟨RX12, "bucket", "(I)I"⟩
abbrev cX12_isLong : ByteArray := prog_14_method_75_code
def yX12_isLong : MethodName := ⟨RX12, "isLong", "(I)Z"⟩
abbrev cX12_minutes : ByteArray := prog_14_method_76_code
def yX12_minutes : MethodName := ⟨RX12, "minutes", "(I)I"⟩
abbrev cX12_undo : ByteArray := prog_14_method_77_code
def yX12_undo : MethodName := ⟨RX12, "undo", "()Z"⟩
abbrev cX12_blockBits : ByteArray := prog_14_method_78_code
def yX12_blockBits : MethodName := ⟨RX12, "blockBits", "(II)I"⟩
abbrev cX12_inTheWay : ByteArray := prog_14_method_79_code
def yX12_inTheWay : MethodName := ⟨RX12, "inTheWay", "(II)I"⟩
abbrev cX12_goalBits : ByteArray := prog_14_method_80_code
def yX12_goalBits : MethodName := ⟨RX12, "goalBits", "()I"⟩
abbrev cX12_errandsFrom : ByteArray := prog_14_method_81_code
def yX12_errandsFrom : MethodName := ⟨RX12, "errandsFrom", "()I"⟩
abbrev cX12_errands : ByteArray := prog_14_method_82_code
def yX12_errands : MethodName := ⟨RX12, "errands", "()I"⟩
abbrev cX12_otherGoes : ByteArray := prog_14_method_83_code
def yX12_otherGoes : MethodName := ⟨RX12, "otherGoes", "(I)V"⟩
abbrev cX12_marks : ByteArray := prog_14_method_84_code
def yX12_marks : MethodName := ⟨RX12, "marks", "(I)V"⟩
abbrev cX12_bothGo : ByteArray := prog_14_method_85_code
def yX12_bothGo : MethodName := ⟨RX12, "bothGo", "(IIII)V"⟩
abbrev cX12_past : ByteArray := prog_14_method_86_code
def yX12_past : MethodName := ⟨RX12, "past", "(IIII)I"⟩
abbrev cX12_aloneTo : ByteArray := prog_14_method_87_code
def yX12_aloneTo : MethodName := ⟨RX12, "aloneTo", "(II)I"⟩
abbrev cX12_alone : ByteArray := prog_14_method_88_code
def yX12_alone : MethodName := ⟨RX12, "alone", "(II)I"⟩
abbrev cX12_reach : ByteArray := prog_14_method_89_code
def yX12_reach : MethodName := ⟨RX12, "reach", "(I)I"⟩
abbrev cX12_above : ByteArray := prog_14_method_90_code
def yX12_above : MethodName := ⟨RX12, "above", "(I)I"⟩
abbrev cX12_driest : ByteArray := prog_14_method_91_code
def yX12_driest : MethodName := ⟨RX12, "driest", "(I)I"⟩
abbrev cX12_isWidth : ByteArray := prog_14_method_92_code
def yX12_isWidth : MethodName := ⟨RX12, "isWidth", "(I)Z"⟩
abbrev cX12_partsOf : ByteArray := prog_14_method_93_code
def yX12_partsOf : MethodName := ⟨RX12, "partsOf", "(II)I"⟩
abbrev cX12_parts : ByteArray := prog_14_method_94_code
def yX12_parts : MethodName := ⟨RX12, "parts", "(II)I"⟩
abbrev cX12_least : ByteArray := prog_14_method_95_code
def yX12_least : MethodName := ⟨RX12, "least", "(II)I"⟩
abbrev cX12_canLive : ByteArray := prog_14_method_96_code
def yX12_canLive : MethodName := ⟨RX12, "canLive", "(III)Z"⟩
abbrev cX12_findsHomes : ByteArray := prog_14_method_97_code
def yX12_findsHomes : MethodName := ⟨RX12, "findsHomes", "(I)Z"⟩
abbrev cX12_homes : ByteArray := prog_14_method_98_code
def yX12_homes : MethodName := ⟨RX12, "homes", "(II)I"⟩
abbrev cX12_share : ByteArray := prog_14_method_99_code
def yX12_share : MethodName := ⟨RX12, "share", "(II)I"⟩
abbrev cX12_enough : ByteArray := prog_14_method_100_code
def yX12_enough : MethodName := ⟨RX12, "enough", "()I"⟩
abbrev cX12_news : ByteArray := prog_14_method_101_code
def yX12_news : MethodName := ⟨RX12, "news", "(II)I"⟩
abbrev cX12_pairs : ByteArray := prog_14_method_102_code
def yX12_pairs : MethodName := ⟨RX12, "pairs", "(I)I"⟩
abbrev cX12_kept : ByteArray := prog_14_method_103_code
def yX12_kept : MethodName := ⟨RX12, "kept", "(I)I"⟩
abbrev cX12_waits : ByteArray := prog_14_method_104_code
def yX12_waits : MethodName := ⟨RX12, "waits", "(II)I"⟩
abbrev cX12_crowd : ByteArray := prog_14_method_105_code
def yX12_crowd : MethodName := ⟨RX12, "crowd", "(II)I"⟩
abbrev cX12_free : ByteArray := prog_14_method_106_code
def yX12_free : MethodName := ⟨RX12, "free", "(I)I"⟩
abbrev cX12_meet : ByteArray := prog_14_method_107_code
def yX12_meet : MethodName := ⟨RX12, "meet", "(III)I"⟩
abbrev cX12_mendFirst : ByteArray := prog_14_method_108_code
def yX12_mendFirst : MethodName := ⟨RX12, "mendFirst", "()I"⟩
abbrev cX12_brokenBits : ByteArray := prog_14_method_109_code
def yX12_brokenBits : MethodName := ⟨RX12, "brokenBits", "()I"⟩
abbrev cX12_then : ByteArray := prog_14_method_110_code
def yX12_then : MethodName := ⟨RX12, "then", "(III)I"⟩
abbrev cX12_year : ByteArray := prog_14_method_111_code
def yX12_year : MethodName := ⟨RX12, "year", "(II)I"⟩
abbrev cX12_tell : ByteArray := prog_14_method_112_code
def yX12_tell : MethodName := ⟨RX12, "tell", "(IZ)I"⟩
abbrev cX12_forget : ByteArray := prog_14_method_113_code
def yX12_forget : MethodName := ⟨RX12, "forget", "()I"⟩
abbrev cX12_treadsOn : ByteArray := prog_14_method_114_code
def yX12_treadsOn : MethodName := ⟨RX12, "treadsOn", "(II)Z"⟩
abbrev cX12_trodBits : ByteArray := prog_14_method_115_code
def yX12_trodBits : MethodName := ⟨RX12, "trodBits", "(I)I"⟩
abbrev cX12_trod : ByteArray := prog_14_method_116_code
def yX12_trod : MethodName := ⟨RX12, "trod", "(II)I"⟩
abbrev cX12_ask : ByteArray := prog_14_method_117_code
def yX12_ask : MethodName := ⟨RX12, "ask", "(I)I"⟩
abbrev cX12_hold : ByteArray := prog_14_method_118_code
def yX12_hold : MethodName := ⟨RX12, "hold", "(I)Z"⟩
abbrev cX12_restore : ByteArray := prog_14_method_119_code
def yX12_restore : MethodName := ⟨RX12, "restore", "(I)Z"⟩
abbrev cX12_sumNow : ByteArray := prog_14_method_120_code
def yX12_sumNow : MethodName := ⟨RX12, "sumNow", "(I)I"⟩
abbrev cX12_count : ByteArray := prog_14_method_121_code
def yX12_count : MethodName := ⟨RX12, "count", "(I)I"⟩
def RJx145de : String := "java/io/Serializable"
def TJx145de : u_T := fun k => match k with
  | _ => ("", "", "", false)
def tyJx145de : Nat → FieldType := fun k => match k with
  | _ => .int
abbrev wsJx145de0 : List Cond := u_ws RJx145de TJx145de 0
theorem nmJx145de : ∀ a, a < 0 → ∀ b, b < 0 → a ≠ b → (TJx145de a).2.1 ≠ (TJx145de b).2.1 := by decide +kernel
theorem tyJx145de_ok : ∀ k, k < 0 → parseFieldDescriptor (TJx145de k).2.2.1 = some (tyJx145de k) := by decide +kernel
def RJx9f9b0 : String := "java/lang/CharSequence"
def TJx9f9b0 : u_T := fun k => match k with
  | _ => ("", "", "", false)
def tyJx9f9b0 : Nat → FieldType := fun k => match k with
  | _ => .int
abbrev wsJx9f9b00 : List Cond := u_ws RJx9f9b0 TJx9f9b0 0
theorem nmJx9f9b0 : ∀ a, a < 0 → ∀ b, b < 0 → a ≠ b → (TJx9f9b0 a).2.1 ≠ (TJx9f9b0 b).2.1 := by decide +kernel
theorem tyJx9f9b0_ok : ∀ k, k < 0 → parseFieldDescriptor (TJx9f9b0 k).2.2.1 = some (tyJx9f9b0 k) := by decide +kernel
def RJxb160c : String := "java/lang/Comparable"
def TJxb160c : u_T := fun k => match k with
  | _ => ("", "", "", false)
def tyJxb160c : Nat → FieldType := fun k => match k with
  | _ => .int
abbrev wsJxb160c0 : List Cond := u_ws RJxb160c TJxb160c 0
theorem nmJxb160c : ∀ a, a < 0 → ∀ b, b < 0 → a ≠ b → (TJxb160c a).2.1 ≠ (TJxb160c b).2.1 := by decide +kernel
theorem tyJxb160c_ok : ∀ k, k < 0 → parseFieldDescriptor (TJxb160c k).2.2.1 = some (tyJxb160c k) := by decide +kernel
def RJ6 : String := "java/lang/Integer"
def TJ6 : u_T := fun k => match k with
  | _ => ("", "", "", false)
def tyJ6 : Nat → FieldType := fun k => match k with
  | _ => .int
abbrev wsJ60 : List Cond := u_ws RJ6 TJ6 0
theorem nmJ6 : ∀ a, a < 0 → ∀ b, b < 0 → a ≠ b → (TJ6 a).2.1 ≠ (TJ6 b).2.1 := by decide +kernel
theorem tyJ6_ok : ∀ k, k < 0 → parseFieldDescriptor (TJ6 k).2.2.1 = some (tyJ6 k) := by decide +kernel
abbrev cJ6_bitCount_0f7a4 : ByteArray := prog_15_method_49_code
def yJ6_bitCount_0f7a4 : MethodName := ⟨RJ6, "bitCount", "(I)I"⟩
def RJ9 : String := "java/lang/Math"
def TJ9 : u_T := fun k => match k with
  | _ => ("", "", "", false)
def tyJ9 : Nat → FieldType := fun k => match k with
  | _ => .int
abbrev wsJ90 : List Cond := u_ws RJ9 TJ9 0
theorem nmJ9 : ∀ a, a < 0 → ∀ b, b < 0 → a ≠ b → (TJ9 a).2.1 ≠ (TJ9 b).2.1 := by decide +kernel
theorem tyJ9_ok : ∀ k, k < 0 → parseFieldDescriptor (TJ9 k).2.2.1 = some (tyJ9 k) := by decide +kernel
abbrev cJ9_abs_0f7a4 : ByteArray := prog_16_method_59_code
def yJ9_abs_0f7a4 : MethodName := ⟨RJ9, "abs", "(I)I"⟩
abbrev cJ9_max_7cf53 : ByteArray := prog_16_method_65_code
def yJ9_max_7cf53 : MethodName := ⟨RJ9, "max", "(II)I"⟩
abbrev cJ9_min_7cf53 : ByteArray := prog_16_method_69_code
def yJ9_min_7cf53 : MethodName := ⟨RJ9, "min", "(II)I"⟩
def RJ0 : String := "java/lang/String"
def TJ0 : u_T := fun k => match k with
  | _ => ("", "", "", false)
def tyJ0 : Nat → FieldType := fun k => match k with
  | _ => .int
abbrev wsJ00 : List Cond := u_ws RJ0 TJ0 0
theorem nmJ0 : ∀ a, a < 0 → ∀ b, b < 0 → a ≠ b → (TJ0 a).2.1 ≠ (TJ0 b).2.1 := by decide +kernel
theorem tyJ0_ok : ∀ k, k < 0 → parseFieldDescriptor (TJ0 k).2.2.1 = some (tyJ0 k) := by decide +kernel
abbrev cJ0_length_8abf5 : ByteArray := prog_17_method_54_code
def yJ0_length_8abf5 : MethodName := ⟨RJ0, "length", "()I"⟩
abbrev cJ0_charAt_5068e : ByteArray := prog_17_method_56_code
def yJ0_charAt_5068e : MethodName := ⟨RJ0, "charAt", "(I)C"⟩
abbrev cJ0_coder_7d493 : ByteArray := prog_17_method_152_code
def yJ0_coder_7d493 : MethodName := ⟨RJ0, "coder", "()B"⟩
abbrev cJ0_isLatin1_aae02 : ByteArray := prog_17_method_154_code
def yJ0_isLatin1_aae02 : MethodName := ⟨RJ0, "isLatin1", "()Z"⟩
abbrev cJ0_checkIndex_df160 : ByteArray := prog_17_method_155_code
def yJ0_checkIndex_df160 : MethodName := ⟨RJ0, "checkIndex", "(II)V"⟩
def RJ1 : String := "java/lang/StringLatin1"
def TJ1 : u_T := fun k => match k with
  | _ => ("", "", "", false)
def tyJ1 : Nat → FieldType := fun k => match k with
  | _ => .int
abbrev wsJ10 : List Cond := u_ws RJ1 TJ1 0
theorem nmJ1 : ∀ a, a < 0 → ∀ b, b < 0 → a ≠ b → (TJ1 a).2.1 ≠ (TJ1 b).2.1 := by decide +kernel
theorem tyJ1_ok : ∀ k, k < 0 → parseFieldDescriptor (TJ1 k).2.2.1 = some (tyJ1 k) := by decide +kernel
abbrev cJ1_charAt_3b067 : ByteArray := prog_18_method_2_code
def yJ1_charAt_3b067 : MethodName := ⟨RJ1, "charAt", "([BI)C"⟩
def RJ2 : String := "java/lang/StringUTF16"
def TJ2 : u_T := fun k => match k with
  | _ => ("", "", "", false)
def tyJ2 : Nat → FieldType := fun k => match k with
  | _ => .int
abbrev wsJ20 : List Cond := u_ws RJ2 TJ2 0
theorem nmJ2 : ∀ a, a < 0 → ∀ b, b < 0 → a ≠ b → (TJ2 a).2.1 ≠ (TJ2 b).2.1 := by decide +kernel
theorem tyJ2_ok : ∀ k, k < 0 → parseFieldDescriptor (TJ2 k).2.2.1 = some (tyJ2 k) := by decide +kernel
abbrev cJ2_getChar_3b067 : ByteArray := prog_19_method_5_code
def yJ2_getChar_3b067 : MethodName := ⟨RJ2, "getChar", "([BI)C"⟩
abbrev cJ2_length_9d52b : ByteArray := prog_19_method_6_code
def yJ2_length_9d52b : MethodName := ⟨RJ2, "length", "([B)I"⟩
abbrev cJ2_charAt_3b067 : ByteArray := prog_19_method_83_code
def yJ2_charAt_3b067 : MethodName := ⟨RJ2, "charAt", "([BI)C"⟩
abbrev cJ2_checkIndex_2214a : ByteArray := prog_19_method_91_code
def yJ2_checkIndex_2214a : MethodName := ⟨RJ2, "checkIndex", "(I[B)V"⟩
def RJ10 : String := "java/lang/System"
def TJ10 : u_T := fun k => match k with
  | _ => ("", "", "", false)
def tyJ10 : Nat → FieldType := fun k => match k with
  | _ => .int
abbrev wsJ100 : List Cond := u_ws RJ10 TJ10 0
theorem nmJ10 : ∀ a, a < 0 → ∀ b, b < 0 → a ≠ b → (TJ10 a).2.1 ≠ (TJ10 b).2.1 := by decide +kernel
theorem tyJ10_ok : ∀ k, k < 0 → parseFieldDescriptor (TJ10 k).2.2.1 = some (tyJ10 k) := by decide +kernel
def RJxfd54e : String := "java/lang/constant/Constable"
def TJxfd54e : u_T := fun k => match k with
  | _ => ("", "", "", false)
def tyJxfd54e : Nat → FieldType := fun k => match k with
  | _ => .int
abbrev wsJxfd54e0 : List Cond := u_ws RJxfd54e TJxfd54e 0
theorem nmJxfd54e : ∀ a, a < 0 → ∀ b, b < 0 → a ≠ b → (TJxfd54e a).2.1 ≠ (TJxfd54e b).2.1 := by decide +kernel
theorem tyJxfd54e_ok : ∀ k, k < 0 → parseFieldDescriptor (TJxfd54e k).2.2.1 = some (tyJxfd54e k) := by decide +kernel
def RJx3cf43 : String := "java/lang/constant/ConstantDesc"
def TJx3cf43 : u_T := fun k => match k with
  | _ => ("", "", "", false)
def tyJx3cf43 : Nat → FieldType := fun k => match k with
  | _ => .int
abbrev wsJx3cf430 : List Cond := u_ws RJx3cf43 TJx3cf43 0
theorem nmJx3cf43 : ∀ a, a < 0 → ∀ b, b < 0 → a ≠ b → (TJx3cf43 a).2.1 ≠ (TJx3cf43 b).2.1 := by decide +kernel
theorem tyJx3cf43_ok : ∀ k, k < 0 → parseFieldDescriptor (TJx3cf43 k).2.2.1 = some (tyJx3cf43 k) := by decide +kernel
def RJ7 : String := "java/util/Arrays"
def TJ7 : u_T := fun k => match k with
  | _ => ("", "", "", false)
def tyJ7 : Nat → FieldType := fun k => match k with
  | _ => .int
abbrev wsJ70 : List Cond := u_ws RJ7 TJ7 0
theorem nmJ7 : ∀ a, a < 0 → ∀ b, b < 0 → a ≠ b → (TJ7 a).2.1 ≠ (TJ7 b).2.1 := by decide +kernel
theorem tyJ7_ok : ∀ k, k < 0 → parseFieldDescriptor (TJ7 k).2.2.1 = some (tyJ7 k) := by decide +kernel
abbrev cJ7_fill_53178 : ByteArray := prog_21_method_103_code
def yJ7_fill_53178 : MethodName := ⟨RJ7, "fill", "([II)V"⟩
def RJ3 : String := "jdk/internal/util/Preconditions"
def TJ3 : u_T := fun k => match k with
  | _ => ("", "", "", false)
def tyJ3 : Nat → FieldType := fun k => match k with
  | _ => .int
abbrev wsJ30 : List Cond := u_ws RJ3 TJ3 0
theorem nmJ3 : ∀ a, a < 0 → ∀ b, b < 0 → a ≠ b → (TJ3 a).2.1 ≠ (TJ3 b).2.1 := by decide +kernel
theorem tyJ3_ok : ∀ k, k < 0 → parseFieldDescriptor (TJ3 k).2.2.1 = some (tyJ3 k) := by decide +kernel
abbrev cJ3_checkIndex_8e157 : ByteArray := prog_22_method_11_code
def yJ3_checkIndex_8e157 : MethodName := ⟨RJ3, "checkIndex", "(IILjava/util/function/BiFunction;)I"⟩
def RL : String := "LadderStreetLaw"
abbrev cL_law : ByteArray := code
def yL_law : MethodName := ⟨RL, "law", "([I)Z"⟩
abbrev vwCl : List vw_C := [(RX0, TX0, 2), (RX1, TX1, 4), (RX2, TX2, 6), (RX3, TX3, 2), (RX4, TX4, 1), (RX5, TX5, 11), (RX6, TX6, 4), (RX7, TX7, 5), (RX8, TX8, 5), (RX9, TX9, 8), (RX10, TX10, 5), (RX11, TX11, 14), (RX12, TX12, 63)]
end
section
/-! AN OWN LAYER OVER THE KIT'S WALK: objects are numbered in the order of their making (the cell of number i lies at b + i); their ints lie in a function of number and slot, their longs in another. -/
abbrev am_S : Type := (Nat → Nat → Int32) × (Nat → Nat → Int64)
/-- what number i is: an object of a class, or an array of a kind (0 int, 1 byte, 2 boolean, 3 long) and a length -/
abbrev am_Sh : Type := Nat → Nat ⊕ (Nat × Nat)
/-- the kinds of an object's fields: 0 int, 1 long, 2 boolean, 3 a cell that may change (0 null, i + 1 number i), o + 4 number o for good -/
abbrev am_Kf : Type := Nat → List Nat
/-- a method's word: arguments, how many cells there are, what they hold, what must hold behind -/
abbrev am_Sp : Type := List Value → Nat → am_S → (Option Value → am_S → Prop) → Prop
def am_pi (σ : am_S) (o k : Nat) (x : Int32) : am_S := (fun o' k' => if o' = o ∧ k' = k then x else σ.1 o' k', σ.2)
def am_pl (σ : am_S) (o k : Nat) (x : Int64) : am_S := (σ.1, fun o' k' => if o' = o ∧ k' = k then x else σ.2 o' k')
def am_new (σ : am_S) (o : Nat) : am_S := (fun o' k' => if o' = o then 0 else σ.1 o' k', fun o' k' => if o' = o then 0 else σ.2 o' k')
def am_av (kd : Nat) (x : Int32) (y : Int64) : Value := match kd with
  | 0 => .int x
  | 1 => .long y
  | 2 => .int x
  | 3 => if x = 0 then .null else .ref (x.toNatClampNeg - 1)
  | o + 4 => .ref o
def am_c (b : Nat) (v : Value) : Value := match v with
  | .ref a => .ref (b + a)
  | v => v
theorem am_c_cat (b : Nat) (v : Value) : (am_c b v).category = v.category := by cases v <;> rfl
def am_fs (kds : List Nat) (f : Nat → Int32) (g : Nat → Int64) : List Value := kds.zipIdx.map (fun q => am_av q.1 (f q.2) (g q.2))
theorem am_fs_len (kds : List Nat) (f : Nat → Int32) (g : Nat → Int64) : (am_fs kds f g).length = kds.length := by simp [am_fs]
theorem am_fs_at {kds : List Nat} {k kd : Nat} (f : Nat → Int32) (g : Nat → Int64) (h : kds[k]? = some kd) : (am_fs kds f g)[k]? = some (am_av kd (f k) (g k)) := by
  simp [am_fs, List.getElem?_map, List.getElem?_zipIdx, h]
def am_cell (SH : am_Sh) (KF : am_Kf) (b : Nat) (aC : Nat → ClassId) (σ : am_S) (i : Nat) : va_E := match SH i with
  | .inl ci => .inr (ci, (am_fs (KF i) (σ.1 i) (σ.2 i)).map (am_c b))
  | .inr q => .inl (aC q.1, (q.2, if q.1 = 3 then .inr (.inl (σ.2 i)) else .inl (σ.1 i)))
def am_ws (SH : am_Sh) (KF : am_Kf) (b : Nat) (aC : Nat → ClassId) (n : Nat) (σ : am_S) : va_W := (List.range n).map (fun i => (b + i, am_cell SH KF b aC σ i))
theorem am_ws_len {SH : am_Sh} {KF : am_Kf} {b : Nat} {aC : Nat → ClassId} {n : Nat} {σ : am_S} : (am_ws SH KF b aC n σ).length = n := by simp [am_ws]
theorem am_ws_at {SH : am_Sh} {KF : am_Kf} {b : Nat} {aC : Nat → ClassId} {n o : Nat} {σ : am_S} (h : o < n) : (am_ws SH KF b aC n σ)[o]? = some (b + o, am_cell SH KF b aC σ o) := by
  simp [am_ws, List.getElem?_map, h]
theorem am_ws_set {SH : am_Sh} {KF : am_Kf} {b : Nat} {aC : Nat → ClassId} {n o : Nat} {σ τ : am_S} {e : va_E} (h : o < n) (he : e = am_cell SH KF b aC τ o) (hk : ∀ i, i ≠ o → am_cell SH KF b aC τ i = am_cell SH KF b aC σ i) : (am_ws SH KF b aC n σ).set o (b + o, e) = am_ws SH KF b aC n τ := by
  subst he
  apply List.ext_getElem?
  intro i
  by_cases hi : i = o
  · subst hi
    rw [List.getElem?_set_self (by rw [am_ws_len]; exact h), am_ws_at h]
  · rw [List.getElem?_set_ne (Ne.symm hi)]
    by_cases hn : i < n
    · rw [am_ws_at hn, am_ws_at hn, hk i hi]
    · rw [List.getElem?_eq_none (by rw [am_ws_len]; omega), List.getElem?_eq_none (by rw [am_ws_len]; omega)]
theorem am_ws_push {SH : am_Sh} {KF : am_Kf} {b : Nat} {aC : Nat → ClassId} {n : Nat} {σ τ : am_S} {e : va_E} (he : e = am_cell SH KF b aC τ n) (hk : ∀ i, i < n → am_cell SH KF b aC τ i = am_cell SH KF b aC σ i) : am_ws SH KF b aC n σ ++ [(b + n, e)] = am_ws SH KF b aC (n + 1) τ := by
  subst he
  simp only [am_ws, List.range_succ, List.map_append, List.map_cons, List.map_nil]
  congr 1
  apply List.map_congr_left
  intro i hi
  rw [hk i (List.mem_range.mp hi)]
theorem am_ws_D {SH : am_Sh} {KF : am_Kf} {b : Nat} {aC : Nat → ClassId} {n : Nat} {σ : am_S} : va_D (fun q => b ≤ q) (am_ws SH KF b aC n σ) := by
  have key : ∀ (k : Nat) (q : Nat × va_E), (am_ws SH KF b aC n σ)[k]? = some q → q.1 = b + k := by
    intro k q hq
    by_cases hk : k < n
    · rw [am_ws_at hk] at hq
      cases hq
      rfl
    · rw [List.getElem?_eq_none (by rw [am_ws_len]; omega)] at hq
      cases hq
  refine ⟨fun i j p q hp hq h => ?_, fun k q hq => ?_⟩
  · rw [key i p hp, key j q hq] at h
    omega
  · show b ≤ q.1
    rw [key k q hq]
    omega
theorem am_pi_ne {SH : am_Sh} {KF : am_Kf} {b : Nat} {aC : Nat → ClassId} {σ : am_S} {o k : Nat} {x : Int32} {i : Nat} (h : i ≠ o) : am_cell SH KF b aC (am_pi σ o k x) i = am_cell SH KF b aC σ i := by
  have e : (am_pi σ o k x).1 i = σ.1 i := by funext j; simp [am_pi, h]
  simp only [am_cell, e]
  rfl
theorem am_pl_ne {SH : am_Sh} {KF : am_Kf} {b : Nat} {aC : Nat → ClassId} {σ : am_S} {o k : Nat} {x : Int64} {i : Nat} (h : i ≠ o) : am_cell SH KF b aC (am_pl σ o k x) i = am_cell SH KF b aC σ i := by
  have e : (am_pl σ o k x).2 i = σ.2 i := by funext j; simp [am_pl, h]
  simp only [am_cell, e]
  rfl
theorem am_new_ne {SH : am_Sh} {KF : am_Kf} {b : Nat} {aC : Nat → ClassId} {σ : am_S} {o : Nat} {i : Nat} (h : i ≠ o) : am_cell SH KF b aC (am_new σ o) i = am_cell SH KF b aC σ i := by
  have e : (am_new σ o).1 i = σ.1 i := by funext j; simp [am_new, h]
  have e2 : (am_new σ o).2 i = σ.2 i := by funext j; simp [am_new, h]
  simp only [am_cell, e, e2]
theorem am_fs_set {kds : List Nat} {k kd : Nat} {f f' : Nat → Int32} {g g' : Nat → Int64} (h : kds[k]? = some kd) (hf : ∀ j, j ≠ k → f' j = f j) (hg : ∀ j, j ≠ k → g' j = g j) : am_fs kds f' g' = (am_fs kds f g).set k (am_av kd (f' k) (g' k)) := by
  apply List.ext_getElem?
  intro j
  by_cases hj : j = k
  · subst hj
    rw [am_fs_at f' g' h, List.getElem?_set_self (by rw [am_fs_len]; exact (List.getElem?_eq_some_iff.mp h).1)]
  · rw [List.getElem?_set_ne (Ne.symm hj)]
    cases hz : kds[j]? with
    | none => rw [List.getElem?_eq_none (by rw [am_fs_len]; exact List.getElem?_eq_none_iff.mp hz), List.getElem?_eq_none (by rw [am_fs_len]; exact List.getElem?_eq_none_iff.mp hz)]
    | some z => rw [am_fs_at f' g' hz, am_fs_at f g hz, hf j hj, hg j hj]
/-- how many slots the first n take -/
def am_sz (SH : am_Sh) (KF : am_Kf) : Nat → Nat
  | 0 => 0
  | n + 1 => am_sz SH KF n + (match SH n with
    | .inl _ => (KF n).length
    | .inr q => q.2)
theorem am_sz_le {SH : am_Sh} {KF : am_Kf} {a c : Nat} (h : a ≤ c) : am_sz SH KF a ≤ am_sz SH KF c := by
  induction c with
  | zero => rw [Nat.le_zero.mp h]; exact Nat.le_refl _
  | succ c ih =>
    rcases Nat.lt_or_ge a (c + 1) with q | q
    · exact Nat.le_trans (ih (by omega)) (by simp [am_sz])
    · rw [show a = c + 1 by omega]; exact Nat.le_refl _
/-! the locals: by their places -/
def am_lv (b : Nat) (ls : List (Option Value)) : List (Nat × Value) := ls.zipIdx.filterMap (fun q => q.1.map (fun v => (q.2, am_c b v)))
theorem am_lv_mem {b : Nat} {ls : List (Option Value)} {q : Nat × Value} : q ∈ am_lv b ls ↔ ∃ v, ls[q.1]? = some (some v) ∧ q.2 = am_c b v := by
  obtain ⟨i, w⟩ := q
  simp only [am_lv, List.mem_filterMap, List.mem_zipIdx_iff_getElem?, Option.map_eq_some_iff]
  constructor
  · rintro ⟨⟨o, j⟩, h1, v, rfl, h2⟩
    cases h2
    exact ⟨v, h1, rfl⟩
  · rintro ⟨v, h1, h2⟩
    exact ⟨(some v, i), h1, v, rfl, by rw [← h2]⟩
theorem am_lv_at {b nL i : Nat} {ls : List (Option Value)} {lc : Array Slot} {v : Value} (h : lv_has lc nL (am_lv b ls)) (hi : ls[i]? = some (some v)) : lc[i]? = some (.val (am_c b v)) := h.2.2 (i, am_c b v) (am_lv_mem.mpr ⟨v, hi, rfl⟩)
/-- the place below holds a long -/
def am_lg (ls : List (Option Value)) (i : Nat) : Bool := match i with
  | 0 => false
  | j + 1 => match ls[j]? with
    | some (some (.long _)) => true
    | some (some (.double _)) => true
    | _ => false
theorem am_lg_not {b i : Nat} {ls : List (Option Value)} (h : am_lg ls i = false) (q : Nat × Value) (hq : q ∈ am_lv b ls) (he : q.1 + 1 = i) : ¬ q.2.category = 2 := by
  obtain ⟨v, h1, h2⟩ := am_lv_mem.mp hq
  subst he
  rw [h2, am_c_cat]
  simp only [am_lg, h1] at h
  cases v <;> simp_all [Value.category]
theorem am_lv_set1 {b nL i : Nat} {ls : List (Option Value)} {lc : Array Slot} {v : Value} (hg : am_lg ls i = false) (h : lv_has lc nL ((i, am_c b v) :: (am_lv b ls).filter (fun q => !(q.1 == i) && !(q.1 + 1 == i && q.2.category == 2)))) : lv_has lc nL (am_lv b (ls.set i (some v))) := by
  refine ⟨h.1, h.2.1, fun q hq => ?_⟩
  obtain ⟨w, h1, h2⟩ := am_lv_mem.mp hq
  apply h.2.2
  by_cases hi : q.1 = i
  · by_cases hl : i < ls.length
    · rw [hi, List.getElem?_set_self hl] at h1
      cases h1
      exact List.mem_cons.mpr (Or.inl (Prod.ext hi h2))
    · rw [hi, List.getElem?_eq_none (by simp; omega)] at h1
      cases h1
  · rw [List.getElem?_set_ne (Ne.symm hi)] at h1
    have hm : q ∈ am_lv b ls := am_lv_mem.mpr ⟨w, h1, h2⟩
    refine List.mem_cons.mpr (Or.inr (List.mem_filter.mpr ⟨hm, ?_⟩))
    by_cases he : q.1 + 1 = i
    · have := am_lg_not hg q hm he
      simp [hi, he, this]
    · simp [hi, he]
theorem am_lv_set2 {b nL i : Nat} {ls : List (Option Value)} {lc : Array Slot} {v : Value} (hg : am_lg ls i = false) (h : lv_has lc nL ((i, am_c b v) :: (am_lv b ls).filter (fun q => !(q.1 == i) && (!(q.1 == i + 1) && !(q.1 + 1 == i && q.2.category == 2))))) : lv_has lc nL (am_lv b ((ls.set i (some v)).set (i + 1) none)) := by
  refine ⟨h.1, h.2.1, fun q hq => ?_⟩
  obtain ⟨w, h1, h2⟩ := am_lv_mem.mp hq
  apply h.2.2
  by_cases hj : q.1 = i + 1
  · by_cases hl : i + 1 < (ls.set i (some v)).length
    · rw [hj, List.getElem?_set_self hl] at h1
      cases h1
    · rw [hj, List.getElem?_eq_none (by simp at hl ⊢; omega)] at h1
      cases h1
  · rw [List.getElem?_set_ne (Ne.symm hj)] at h1
    by_cases hi : q.1 = i
    · by_cases hl : i < ls.length
      · rw [hi, List.getElem?_set_self hl] at h1
        cases h1
        exact List.mem_cons.mpr (Or.inl (Prod.ext hi h2))
      · rw [hi, List.getElem?_eq_none (by simp; omega)] at h1
        cases h1
    · rw [List.getElem?_set_ne (Ne.symm hi)] at h1
      have hm : q ∈ am_lv b ls := am_lv_mem.mpr ⟨w, h1, h2⟩
      refine List.mem_cons.mpr (Or.inr (List.mem_filter.mpr ⟨hm, ?_⟩))
      by_cases he : q.1 + 1 = i
      · have := am_lg_not hg q hm he
        simp [hi, hj, he, this]
      · simp [hi, hj, he]
/-- only the first j places are kept in mind -/
def am_mask : Nat → List (Option Value) → List (Option Value)
  | _, [] => []
  | 0, _ :: t => none :: am_mask 0 t
  | n + 1, a :: t => a :: am_mask n t
theorem am_mask_len : ∀ (j : Nat) (ls : List (Option Value)), (am_mask j ls).length = ls.length
  | _, [] => by simp [am_mask]
  | 0, _ :: t => by simp [am_mask, am_mask_len 0 t]
  | n + 1, _ :: t => by simp [am_mask, am_mask_len n t]
theorem am_mask_at : ∀ (j : Nat) (ls : List (Option Value)) (i : Nat) (v : Value), (am_mask j ls)[i]? = some (some v) → ls[i]? = some (some v)
  | _, [], i, v, h => by simp [am_mask] at h
  | 0, a :: t, 0, v, h => by simp [am_mask] at h
  | 0, a :: t, i + 1, v, h => by
    simp only [am_mask, List.getElem?_cons_succ] at h ⊢
    exact am_mask_at 0 t i v h
  | n + 1, a :: t, 0, v, h => by simpa [am_mask] using h
  | n + 1, a :: t, i + 1, v, h => by
    simp only [am_mask, List.getElem?_cons_succ] at h ⊢
    exact am_mask_at n t i v h
theorem am_lv_mask {b nL j : Nat} {ls : List (Option Value)} {lc : Array Slot} (h : lv_has lc nL (am_lv b ls)) : lv_has lc nL (am_lv b (am_mask j ls)) := by
  refine ⟨h.1, h.2.1, fun q hq => ?_⟩
  obtain ⟨w, h1, h2⟩ := am_lv_mem.mp hq
  exact h.2.2 q (am_lv_mem.mpr ⟨w, am_mask_at _ _ _ _ h1, h2⟩)
end
section
/-! ONE INSTRUCTION, as a word on what must hold: K is what must hold behind it, post what must hold of an answer. Printed by wip/am/gen_one.py. -/
/-- a method's tables: numbers' kinds, fields' kinds, the answer's type, fields read, fields written, classes made, ints and longs of the pool, natives, methods (kind, how many arguments, class, cells, slots, word) -/
abbrev am_X : Type := am_Sh × am_Kf × Option FieldType × List (Nat × Nat × Nat) × List (Nat × Nat × Nat) × List (Nat × Nat) × List (Nat × Int32) × List (Nat × Int64) × List (Nat × Nat) × List (Nat × Nat × Nat × Nat × Nat × Nat × am_Sp)
def am_SH (X : am_X) : am_Sh := X.1
def am_KF (X : am_X) : am_Kf := X.2.1
def am_rt (X : am_X) : Option FieldType := X.2.2.1
def am_FT (X : am_X) : List (Nat × Nat × Nat) := X.2.2.2.1
def am_PT (X : am_X) : List (Nat × Nat × Nat) := X.2.2.2.2.1
def am_CT (X : am_X) : List (Nat × Nat) := X.2.2.2.2.2.1
def am_KT (X : am_X) : List (Nat × Int32) := X.2.2.2.2.2.2.1
def am_LT (X : am_X) : List (Nat × Int64) := X.2.2.2.2.2.2.2.1
def am_NT (X : am_X) : List (Nat × Nat) := X.2.2.2.2.2.2.2.2.1
def am_ML (X : am_X) : List (Nat × Nat × Nat × Nat × Nat × Nat × am_Sp) := X.2.2.2.2.2.2.2.2.2
def am_find {α : Type _} : List (Nat × α) → Nat → Option α
  | [], _ => none
  | (a, x) :: t, i => if i = a then some x else am_find t i
theorem am_find_mem {α : Type _} : ∀ {l : List (Nat × α)} {i : Nat} {x : α}, am_find l i = some x → (i, x) ∈ l
  | [], i, x, h => by cases h
  | (a, y) :: t, i, x, h => by
    simp only [am_find] at h
    split at h
    · rename_i e
      cases h
      exact List.mem_cons.mpr (Or.inl (by rw [e]))
    · exact List.mem_cons_of_mem _ (am_find_mem h)
def am_opt {α : Type _} (o : Option α) (k : α → Prop) : Prop := match o with
  | some x => k x
  | none => False
theorem am_opt_iff {α : Type _} {o : Option α} {k : α → Prop} : am_opt o k ↔ ∃ x, o = some x ∧ k x := by cases o <;> simp [am_opt]
def am_cl {α : Type _} (o : Option α) (k : α → Prop) (q : Prop) : Prop := match o with
  | some x => k x
  | none => q
def am_ldi (ls : List (Option Value)) (i : Nat) (k : Int32 → Prop) : Prop := match ls[i]? with
  | some (some (.int x)) => k x
  | _ => False
def am_ldl (ls : List (Option Value)) (i : Nat) (k : Int64 → Prop) : Prop := match ls[i]? with
  | some (some (.long x)) => k x
  | _ => False
def am_lda (ls : List (Option Value)) (i : Nat) (k : Nat → Prop) : Prop := match ls[i]? with
  | some (some (.ref x)) => k x
  | _ => False
def am_v (st : List Value) (k : Value → List Value → Prop) : Prop := match st with
  | v :: r => k v r
  | _ => False
def am_1 (st : List Value) (k : Int32 → List Value → Prop) : Prop := match st with
  | .int x :: r => k x r
  | _ => False
def am_1l (st : List Value) (k : Int64 → List Value → Prop) : Prop := match st with
  | .long x :: r => k x r
  | _ => False
def am_1a (st : List Value) (k : Nat → List Value → Prop) : Prop := match st with
  | .ref x :: r => k x r
  | _ => False
def am_2 (st : List Value) (k : Int32 → Int32 → List Value → Prop) : Prop := match st with
  | .int y :: .int x :: r => k x y r
  | _ => False
def am_2l (st : List Value) (k : Int64 → Int64 → List Value → Prop) : Prop := match st with
  | .long y :: .long x :: r => k x y r
  | _ => False
def am_ix (st : List Value) (k : Int32 → Nat → List Value → Prop) : Prop := match st with
  | .int i :: .ref o :: r => k i o r
  | _ => False
theorem am_ldi_iff {ls : List (Option Value)} {i : Nat} {k : Int32 → Prop} (h : am_ldi ls i k) : ∃ x, ls[i]? = some (some (.int x)) ∧ k x := by
  unfold am_ldi at h
  split at h
  · exact ⟨_, by assumption, h⟩
  · exact h.elim
theorem am_ldl_iff {ls : List (Option Value)} {i : Nat} {k : Int64 → Prop} (h : am_ldl ls i k) : ∃ x, ls[i]? = some (some (.long x)) ∧ k x := by
  unfold am_ldl at h
  split at h
  · exact ⟨_, by assumption, h⟩
  · exact h.elim
theorem am_lda_iff {ls : List (Option Value)} {i : Nat} {k : Nat → Prop} (h : am_lda ls i k) : ∃ x, ls[i]? = some (some (.ref x)) ∧ k x := by
  unfold am_lda at h
  split at h
  · exact ⟨_, by assumption, h⟩
  · exact h.elim
theorem am_v_iff {st : List Value} {k : Value → List Value → Prop} (h : am_v st k) : ∃ v r, st = v :: r ∧ k v r := by
  unfold am_v at h
  split at h
  · exact ⟨_, _, rfl, h⟩
  · exact h.elim
theorem am_1_iff {st : List Value} {k : Int32 → List Value → Prop} (h : am_1 st k) : ∃ x r, st = .int x :: r ∧ k x r := by
  unfold am_1 at h
  split at h
  · exact ⟨_, _, rfl, h⟩
  · exact h.elim
theorem am_1l_iff {st : List Value} {k : Int64 → List Value → Prop} (h : am_1l st k) : ∃ x r, st = .long x :: r ∧ k x r := by
  unfold am_1l at h
  split at h
  · exact ⟨_, _, rfl, h⟩
  · exact h.elim
theorem am_1a_iff {st : List Value} {k : Nat → List Value → Prop} (h : am_1a st k) : ∃ x r, st = .ref x :: r ∧ k x r := by
  unfold am_1a at h
  split at h
  · exact ⟨_, _, rfl, h⟩
  · exact h.elim
theorem am_2_iff {st : List Value} {k : Int32 → Int32 → List Value → Prop} (h : am_2 st k) : ∃ x y r, st = .int y :: .int x :: r ∧ k x y r := by
  unfold am_2 at h
  split at h
  · exact ⟨_, _, _, rfl, h⟩
  · exact h.elim
theorem am_2l_iff {st : List Value} {k : Int64 → Int64 → List Value → Prop} (h : am_2l st k) : ∃ x y r, st = .long y :: .long x :: r ∧ k x y r := by
  unfold am_2l at h
  split at h
  · exact ⟨_, _, _, rfl, h⟩
  · exact h.elim
theorem am_ix_iff {st : List Value} {k : Int32 → Nat → List Value → Prop} (h : am_ix st k) : ∃ x y r, st = .int x :: .ref y :: r ∧ k x y r := by
  unfold am_ix at h
  split at h
  · exact ⟨_, _, _, rfl, h⟩
  · exact h.elim
/-- a jump -/
def am_tg (pc : Nat) (off : Int) (k : Nat → Prop) : Prop := 0 ≤ (pc : Int) + off ∧ k ((pc : Int) + off).toNat
def am_ts (pc : Nat) (x : Int32) (k : Nat → Prop) (lo : Int) : List Int → Int → Prop
  | [], _ => True
  | off :: t, i => (x.toInt = i → am_tg pc off k) ∧ am_ts pc x k lo t (i + 1)
def am_ls (pc : Nat) (x : Int32) (d : Int) (k : Nat → Prop) : List (Int × Int) → Prop
  | [] => am_tg pc d k
  | q :: t => (x.toInt = q.1 → am_tg pc q.2 k) ∧ (¬ x.toInt = q.1 → am_ls pc x d k t)
def am_ri (rt : Option FieldType) (x : Int32) : Prop := match rt with
  | some .int => True
  | some .boolean => vp_nar .boolean x = x
  | _ => False
def am_arr (s : Nat ⊕ (Nat × Nat)) (k : Nat × Nat → Prop) : Prop := match s with
  | .inr q => k q
  | .inl _ => False
theorem am_arr_iff {s : Nat ⊕ (Nat × Nat)} {k : Nat × Nat → Prop} (h : am_arr s k) : ∃ q, s = .inr q ∧ k q := by
  unfold am_arr at h
  split at h
  · exact ⟨_, rfl, h⟩
  · exact h.elim
def am_ty (k : Nat) : Option ArrayType := match k with
  | 0 => some .int
  | 1 => some .byte
  | 2 => some .boolean
  | 3 => some .long
  | _ => none
/-- a field is written -/
def am_pf (kd : Nat) (v : Value) (σ : am_S) (o k : Nat) (K : am_S → Prop) : Prop := match kd, v with
  | 0, .int x => K (am_pi σ o k x)
  | 1, .long x => K (am_pl σ o k x)
  | 2, .int x => vp_nar .boolean x = x ∧ K (am_pi σ o k x)
  | 3, .ref a => a < 1000000 ∧ K (am_pi σ o k (Int32.ofNat (a + 1)))
  | _, _ => False
/-- a call's receiver -/
def am_rc (kind cls n : Nat) (SH : am_Sh) (as : List Value) : Prop := match kind with
  | 1 => True
  | 4 => True
  | _ => match as with
    | .ref o :: _ => o < n ∧ SH o = .inl cls
    | _ => False
/-- natives: 0 max, 1 min, 2 abs, 3 Object's constructor, 4 arraycopy of ints -/
def am_nat (w op : Nat) (stk : List Value) (n : Nat) (SH : am_Sh) (σ : am_S) (K : List Value → am_S → Prop) : Prop := match w, op with
  | 0, 1 => am_2 stk (fun x y r => (r.map fun v => v.category).sum ≤ 8 ∧ K (.int (if x < y then y else x) :: r) σ)
  | 1, 1 => am_2 stk (fun x y r => (r.map fun v => v.category).sum ≤ 8 ∧ K (.int (if y < x then y else x) :: r) σ)
  | 2, 1 => am_1 stk (fun x r => (r.map fun v => v.category).sum ≤ 8 ∧ K (.int (if 0 ≤ x then x else 0 - x) :: r) σ)
  | 3, 0 => am_1a stk (fun _ r => (r.map fun v => v.category).sum ≤ 8 ∧ K r σ)
  | 4, 1 => match stk with
    | .int m :: .int dp :: .ref d :: .int sp :: .ref c :: r => c < n ∧ d < n ∧ am_arr (SH c) (fun q => q.1 = 0 ∧ am_arr (SH d) (fun q2 => q2.1 = 0 ∧ ¬ sp < 0 ∧ ¬ dp < 0 ∧ ¬ m < 0 ∧ sp.toNatClampNeg + m.toNatClampNeg ≤ q.2 ∧ dp.toNatClampNeg + m.toNatClampNeg ≤ q2.2 ∧ (r.map fun v => v.category).sum ≤ 8 ∧ K r (fun o' k' => if o' = d then va_cpy (σ.1 c) (σ.1 d) sp.toNatClampNeg dp.toNatClampNeg m.toNatClampNeg k' else σ.1 o' k', σ.2)))
    | _ => False
  | _, _ => False
def am_one (X : am_X) (ne : Nat) (post : Option Value → am_S → Prop) (i : Instr) (len pc : Nat) (ls : List (Option Value)) (stk : List Value) (n : Nat) (σ : am_S) (K : Nat → List (Option Value) → List Value → Nat → am_S → Prop) : Prop := match i with
  | .iconst v => len = 1 ∧ K (pc + 1) ls (.int (Int32.ofInt v) :: stk) n σ
  | .bipush v => len = 2 ∧ (-128 ≤ v ∧ v ≤ 127) ∧ K (pc + 2) ls (.int (Int32.ofInt v) :: stk) n σ
  | .sipush v => len = 3 ∧ (-32768 ≤ v ∧ v ≤ 32767) ∧ K (pc + 3) ls (.int (Int32.ofInt v) :: stk) n σ
  | .lconst v => len = 1 ∧ K (pc + 1) ls (.long (Int64.ofNat (v : Nat)) :: stk) n σ
  | .ldc ix => len = 2 ∧ am_opt (am_find (am_KT X) ix) (fun v => K (pc + 2) ls (.int v :: stk) n σ)
  | .ldc_w ix => len = 3 ∧ am_opt (am_find (am_KT X) ix) (fun v => K (pc + 3) ls (.int v :: stk) n σ)
  | .ldc2_w ix => len = 3 ∧ am_opt (am_find (am_LT X) ix) (fun v => K (pc + 3) ls (.long v :: stk) n σ)
  | .iload_n k => len = 1 ∧ am_ldi ls (k : Nat) (fun x => K (pc + 1) ls (.int x :: stk) n σ)
  | .iload k => len = 2 ∧ am_ldi ls k (fun x => K (pc + 2) ls (.int x :: stk) n σ)
  | .lload_n k => len = 1 ∧ am_ldl ls (k : Nat) (fun x => K (pc + 1) ls (.long x :: stk) n σ)
  | .lload k => len = 2 ∧ am_ldl ls k (fun x => K (pc + 2) ls (.long x :: stk) n σ)
  | .aload_n k => len = 1 ∧ am_lda ls (k : Nat) (fun x => K (pc + 1) ls (.ref x :: stk) n σ)
  | .aload k => len = 2 ∧ am_lda ls k (fun x => K (pc + 2) ls (.ref x :: stk) n σ)
  | .istore_n k => len = 1 ∧ am_1 stk (fun x rest => am_lg ls (k : Nat) = false ∧ (k : Nat) < ls.length ∧ K (pc + 1) (ls.set (k : Nat) (some (.int x))) rest n σ)
  | .istore k => len = 2 ∧ am_1 stk (fun x rest => am_lg ls k = false ∧ k < ls.length ∧ K (pc + 2) (ls.set k (some (.int x))) rest n σ)
  | .lstore_n k => len = 1 ∧ am_1l stk (fun x rest => am_lg ls (k : Nat) = false ∧ (k : Nat) + 1 < ls.length ∧ K (pc + 1) ((ls.set (k : Nat) (some (.long x))).set ((k : Nat) + 1) none) rest n σ)
  | .lstore k => len = 2 ∧ am_1l stk (fun x rest => am_lg ls k = false ∧ k + 1 < ls.length ∧ K (pc + 2) ((ls.set k (some (.long x))).set (k + 1) none) rest n σ)
  | .astore_n k => len = 1 ∧ am_1a stk (fun x rest => am_lg ls (k : Nat) = false ∧ (k : Nat) < ls.length ∧ K (pc + 1) (ls.set (k : Nat) (some (.ref x))) rest n σ)
  | .astore k => len = 2 ∧ am_1a stk (fun x rest => am_lg ls k = false ∧ k < ls.length ∧ K (pc + 2) (ls.set k (some (.ref x))) rest n σ)
  | .iinc k c => len = 3 ∧ am_ldi ls k (fun x => am_lg ls k = false ∧ k < ls.length ∧ K (pc + 3) (ls.set k (some (.int (x + Int32.ofInt c)))) stk n σ)
  | .iadd => len = 1 ∧ am_2 stk (fun x y rest => K (pc + 1) ls (.int (x + y) :: rest) n σ)
  | .isub => len = 1 ∧ am_2 stk (fun x y rest => K (pc + 1) ls (.int (x - y) :: rest) n σ)
  | .imul => len = 1 ∧ am_2 stk (fun x y rest => K (pc + 1) ls (.int (x * y) :: rest) n σ)
  | .iand => len = 1 ∧ am_2 stk (fun x y rest => K (pc + 1) ls (.int (x &&& y) :: rest) n σ)
  | .ior => len = 1 ∧ am_2 stk (fun x y rest => K (pc + 1) ls (.int (x ||| y) :: rest) n σ)
  | .ixor => len = 1 ∧ am_2 stk (fun x y rest => K (pc + 1) ls (.int (x ^^^ y) :: rest) n σ)
  | .ishl => len = 1 ∧ am_2 stk (fun x y rest => K (pc + 1) ls (.int (x <<< (y &&& 31)) :: rest) n σ)
  | .ishr => len = 1 ∧ am_2 stk (fun x y rest => K (pc + 1) ls (.int (x >>> (y &&& 31)) :: rest) n σ)
  | .iushr => len = 1 ∧ am_2 stk (fun x y rest => K (pc + 1) ls (.int ((x.toUInt32 >>> (y.toUInt32 &&& Int32.toUInt32 31)).toInt32) :: rest) n σ)
  | .idiv => len = 1 ∧ am_2 stk (fun x y rest => ¬ y = 0 ∧ K (pc + 1) ls (.int (x / y) :: rest) n σ)
  | .irem => len = 1 ∧ am_2 stk (fun x y rest => ¬ y = 0 ∧ K (pc + 1) ls (.int (x - x / y * y) :: rest) n σ)
  | .ladd => len = 1 ∧ am_2l stk (fun x y rest => K (pc + 1) ls (.long (x + y) :: rest) n σ)
  | .lmul => len = 1 ∧ am_2l stk (fun x y rest => K (pc + 1) ls (.long (x * y) :: rest) n σ)
  | .lcmp => len = 1 ∧ am_2l stk (fun x y rest => K (pc + 1) ls (.int (lg_cmp x y) :: rest) n σ)
  | .i2l => len = 1 ∧ am_1 stk (fun x rest => K (pc + 1) ls (.long x.toInt64 :: rest) n σ)
  | .i2b => len = 1 ∧ am_1 stk (fun x rest => K (pc + 1) ls (.int x.toInt8.toInt32 :: rest) n σ)
  | .l2i => len = 1 ∧ am_1l stk (fun x rest => K (pc + 1) ls (.int x.toInt32 :: rest) n σ)
  | .dup => len = 1 ∧ am_v stk (fun v rest => v.category = 1 ∧ K (pc + 1) ls (v :: v :: rest) n σ)
  | .pop => len = 1 ∧ am_v stk (fun v rest => v.category = 1 ∧ K (pc + 1) ls (rest) n σ)
  | .dup2 => len = 1 ∧ am_v stk (fun v r1 => am_v r1 (fun w rest => v.category = 1 ∧ w.category = 1 ∧ K (pc + 1) ls (v :: w :: v :: w :: rest) n σ))
  | .ifCond .eq off => len = 3 ∧ am_1 stk (fun x rest => am_tg pc off (fun t => (x = 0 → K t ls rest n σ) ∧ (¬ (x = 0) → K (pc + 3) ls rest n σ)))
  | .ifCond .ne off => len = 3 ∧ am_1 stk (fun x rest => am_tg pc off (fun t => (¬ x = 0 → K t ls rest n σ) ∧ (x = 0 → K (pc + 3) ls rest n σ)))
  | .ifCond .lt off => len = 3 ∧ am_1 stk (fun x rest => am_tg pc off (fun t => (x < 0 → K t ls rest n σ) ∧ (¬ (x < 0) → K (pc + 3) ls rest n σ)))
  | .ifCond .ge off => len = 3 ∧ am_1 stk (fun x rest => am_tg pc off (fun t => (0 ≤ x → K t ls rest n σ) ∧ (¬ (0 ≤ x) → K (pc + 3) ls rest n σ)))
  | .ifCond .gt off => len = 3 ∧ am_1 stk (fun x rest => am_tg pc off (fun t => (0 < x → K t ls rest n σ) ∧ (¬ (0 < x) → K (pc + 3) ls rest n σ)))
  | .ifCond .le off => len = 3 ∧ am_1 stk (fun x rest => am_tg pc off (fun t => (x ≤ 0 → K t ls rest n σ) ∧ (¬ (x ≤ 0) → K (pc + 3) ls rest n σ)))
  | .if_icmp .eq off => len = 3 ∧ am_2 stk (fun x y rest => am_tg pc off (fun t => (x = y → K t ls rest n σ) ∧ (¬ (x = y) → K (pc + 3) ls rest n σ)))
  | .if_icmp .ne off => len = 3 ∧ am_2 stk (fun x y rest => am_tg pc off (fun t => (¬ x = y → K t ls rest n σ) ∧ (x = y → K (pc + 3) ls rest n σ)))
  | .if_icmp .lt off => len = 3 ∧ am_2 stk (fun x y rest => am_tg pc off (fun t => (x < y → K t ls rest n σ) ∧ (¬ (x < y) → K (pc + 3) ls rest n σ)))
  | .if_icmp .ge off => len = 3 ∧ am_2 stk (fun x y rest => am_tg pc off (fun t => (y ≤ x → K t ls rest n σ) ∧ (¬ (y ≤ x) → K (pc + 3) ls rest n σ)))
  | .if_icmp .gt off => len = 3 ∧ am_2 stk (fun x y rest => am_tg pc off (fun t => (y < x → K t ls rest n σ) ∧ (¬ (y < x) → K (pc + 3) ls rest n σ)))
  | .if_icmp .le off => len = 3 ∧ am_2 stk (fun x y rest => am_tg pc off (fun t => (x ≤ y → K t ls rest n σ) ∧ (¬ (x ≤ y) → K (pc + 3) ls rest n σ)))
  | .goto off => len = 3 ∧ am_tg pc off (fun t => K t ls stk n σ)
  | .ireturn => len = 1 ∧ n = ne ∧ am_1 stk (fun x rest => rest = [] ∧ am_ri (am_rt X) x ∧ post (some (.int x)) σ)
  | .lreturn => len = 1 ∧ n = ne ∧ am_1l stk (fun x rest => rest = [] ∧ am_rt X = some .long ∧ post (some (.long x)) σ)
  | .return_ => len = 1 ∧ n = ne ∧ stk = [] ∧ am_rt X = none ∧ post none σ
  | .tableswitch d lo hi offs => am_1 stk (fun x rest => am_ts pc x (fun t => K t ls rest n σ) lo offs.toList lo ∧ ((x.toInt < lo ∨ hi < x.toInt) → am_tg pc d (fun t => K t ls rest n σ)) ∧ (offs.size : Int) = hi - lo + 1)
  | .lookupswitch d ps => am_1 stk (fun x rest => (ps.toList.zip (ps.toList.drop 1)).all (fun (a, next) => a.1 < next.1) = true ∧ am_ls pc x d (fun t => K t ls rest n σ) ps.toList)
  | .getfield ix => len = 3 ∧ am_1a stk (fun o rest => o < n ∧ am_opt (am_find (am_FT X) ix) (fun q => am_SH X o = .inl q.1 ∧ am_opt (am_KF X o)[q.2]? (fun kd => K (pc + 3) ls (am_av kd (σ.1 o q.2) (σ.2 o q.2) :: rest) n σ)))
  | .putfield ix => len = 3 ∧ am_v stk (fun v r1 => am_1a r1 (fun o rest => o < n ∧ am_opt (am_find (am_PT X) ix) (fun q => am_SH X o = .inl q.1 ∧ am_opt (am_KF X o)[q.2]? (fun kd => am_pf kd v σ o q.2 (fun σ1 => K (pc + 3) ls rest n σ1)))))
  | .arraylength => len = 1 ∧ am_1a stk (fun o rest => o < n ∧ am_arr (am_SH X o) (fun q => q.1 < 4 ∧ K (pc + 1) ls (.int (Int32.ofNat q.2) :: rest) n σ))
  | .iaload => len = 1 ∧ am_ix stk (fun i o rest => o < n ∧ am_arr (am_SH X o) (fun q => q.1 = 0 ∧ vp_in i q.2 ∧ K (pc + 1) ls (.int (σ.1 o i.toNatClampNeg) :: rest) n σ))
  | .baload => len = 1 ∧ am_ix stk (fun i o rest => o < n ∧ am_arr (am_SH X o) (fun q => (q.1 = 1 ∨ q.1 = 2) ∧ vp_in i q.2 ∧ K (pc + 1) ls (.int (σ.1 o i.toNatClampNeg) :: rest) n σ))
  | .laload => len = 1 ∧ am_ix stk (fun i o rest => o < n ∧ am_arr (am_SH X o) (fun q => q.1 = 3 ∧ vp_in i q.2 ∧ K (pc + 1) ls (.long (σ.2 o i.toNatClampNeg) :: rest) n σ))
  | .iastore => len = 1 ∧ am_1 stk (fun x r1 => am_ix r1 (fun i o rest => o < n ∧ am_arr (am_SH X o) (fun q => q.1 = 0 ∧ vp_in i q.2 ∧ K (pc + 1) ls (rest) n (am_pi σ o i.toNatClampNeg x))))
  | .bastore => len = 1 ∧ am_1 stk (fun x r1 => am_ix r1 (fun i o rest => o < n ∧ am_arr (am_SH X o) (fun q => (q.1 = 1 ∨ q.1 = 2) ∧ vp_in i q.2 ∧ K (pc + 1) ls (rest) n (am_pi σ o i.toNatClampNeg (if q.1 = 1 then vp_nar .byte x else vp_nar .boolean x)))))
  | .lastore => len = 1 ∧ am_1l stk (fun x r1 => am_ix r1 (fun i o rest => o < n ∧ am_arr (am_SH X o) (fun q => q.1 = 3 ∧ vp_in i q.2 ∧ K (pc + 1) ls (rest) n (am_pl σ o i.toNatClampNeg x))))
  | .newarray ty => len = 2 ∧ am_1 stk (fun x rest => n < ne ∧ am_arr (am_SH X n) (fun q => am_ty q.1 = some ty ∧ ¬ x < 0 ∧ x.toNatClampNeg = q.2 ∧ q.2 < 1000000 ∧ K (pc + 2) ls (.ref n :: rest) (n + 1) (am_new σ n)))
  | .new ix => len = 3 ∧ n < ne ∧ am_opt (am_find (am_CT X) ix) (fun ci => am_SH X n = .inl ci ∧ (am_KF X n).all (fun kd => decide (kd < 4)) = true ∧ K (pc + 3) ls (.ref n :: stk) (n + 1) (am_new σ n))
  | .invokevirtual ix => len = 3 ∧ am_cl (am_find (am_NT X) ix) (fun w => am_nat w 2 stk n (am_SH X) σ (fun st σ1 => K (pc + 3) ls st n σ1)) (am_opt (am_find (am_ML X) ix) (fun q => [0, 3].contains q.1 = true ∧ q.2.1 ≤ stk.length ∧ am_rc q.1 q.2.2.1 n (am_SH X) (stk.take q.2.1).reverse ∧ ((stk.drop q.2.1).map fun v => v.category).sum ≤ 8 ∧ n + q.2.2.2.1 ≤ ne ∧ am_sz (am_SH X) (am_KF X) (n + q.2.2.2.1) = am_sz (am_SH X) (am_KF X) n + q.2.2.2.2.1 ∧ q.2.2.2.2.2 (stk.take q.2.1).reverse n σ (fun v σ1 => K (pc + 3) ls (v.toList ++ stk.drop q.2.1) (n + q.2.2.2.1) σ1)))
  | .invokestatic ix => len = 3 ∧ am_cl (am_find (am_NT X) ix) (fun w => am_nat w 1 stk n (am_SH X) σ (fun st σ1 => K (pc + 3) ls st n σ1)) (am_opt (am_find (am_ML X) ix) (fun q => [1, 4].contains q.1 = true ∧ q.2.1 ≤ stk.length ∧ am_rc q.1 q.2.2.1 n (am_SH X) (stk.take q.2.1).reverse ∧ ((stk.drop q.2.1).map fun v => v.category).sum ≤ 8 ∧ n + q.2.2.2.1 ≤ ne ∧ am_sz (am_SH X) (am_KF X) (n + q.2.2.2.1) = am_sz (am_SH X) (am_KF X) n + q.2.2.2.2.1 ∧ q.2.2.2.2.2 (stk.take q.2.1).reverse n σ (fun v σ1 => K (pc + 3) ls (v.toList ++ stk.drop q.2.1) (n + q.2.2.2.1) σ1)))
  | .invokespecial ix => len = 3 ∧ am_cl (am_find (am_NT X) ix) (fun w => am_nat w 0 stk n (am_SH X) σ (fun st σ1 => K (pc + 3) ls st n σ1)) (am_opt (am_find (am_ML X) ix) (fun q => [2, 5].contains q.1 = true ∧ q.2.1 ≤ stk.length ∧ am_rc q.1 q.2.2.1 n (am_SH X) (stk.take q.2.1).reverse ∧ ((stk.drop q.2.1).map fun v => v.category).sum ≤ 8 ∧ n + q.2.2.2.1 ≤ ne ∧ am_sz (am_SH X) (am_KF X) (n + q.2.2.2.1) = am_sz (am_SH X) (am_KF X) n + q.2.2.2.2.1 ∧ q.2.2.2.2.2 (stk.take q.2.1).reverse n σ (fun v σ1 => K (pc + 3) ls (v.toList ++ stk.drop q.2.1) (n + q.2.2.2.1) σ1)))
  | _ => False
section
variable (X : am_X) (ne : Nat) (post : Option Value → am_S → Prop) (len pc : Nat) (ls : List (Option Value)) (stk : List Value) (n : Nat) (σ : am_S) (K : Nat → List (Option Value) → List Value → Nat → am_S → Prop)
theorem o_iconst (v : Int) : am_one X ne post (.iconst v) len pc ls stk n σ K = (len = 1 ∧ K (pc + 1) ls (.int (Int32.ofInt v) :: stk) n σ) := rfl
theorem o_bipush (v : Int) : am_one X ne post (.bipush v) len pc ls stk n σ K = (len = 2 ∧ (-128 ≤ v ∧ v ≤ 127) ∧ K (pc + 2) ls (.int (Int32.ofInt v) :: stk) n σ) := rfl
theorem o_sipush (v : Int) : am_one X ne post (.sipush v) len pc ls stk n σ K = (len = 3 ∧ (-32768 ≤ v ∧ v ≤ 32767) ∧ K (pc + 3) ls (.int (Int32.ofInt v) :: stk) n σ) := rfl
theorem o_lconst (v : Fin 2) : am_one X ne post (.lconst v) len pc ls stk n σ K = (len = 1 ∧ K (pc + 1) ls (.long (Int64.ofNat (v : Nat)) :: stk) n σ) := rfl
theorem o_ldc (ix : Nat) : am_one X ne post (.ldc ix) len pc ls stk n σ K = (len = 2 ∧ am_opt (am_find (am_KT X) ix) (fun v => K (pc + 2) ls (.int v :: stk) n σ)) := rfl
theorem o_ldc_w (ix : Nat) : am_one X ne post (.ldc_w ix) len pc ls stk n σ K = (len = 3 ∧ am_opt (am_find (am_KT X) ix) (fun v => K (pc + 3) ls (.int v :: stk) n σ)) := rfl
theorem o_ldc2_w (ix : Nat) : am_one X ne post (.ldc2_w ix) len pc ls stk n σ K = (len = 3 ∧ am_opt (am_find (am_LT X) ix) (fun v => K (pc + 3) ls (.long v :: stk) n σ)) := rfl
theorem o_iload_n (k : Fin 4) : am_one X ne post (.iload_n k) len pc ls stk n σ K = (len = 1 ∧ am_ldi ls (k : Nat) (fun x => K (pc + 1) ls (.int x :: stk) n σ)) := rfl
theorem o_iload (k : Nat) : am_one X ne post (.iload k) len pc ls stk n σ K = (len = 2 ∧ am_ldi ls k (fun x => K (pc + 2) ls (.int x :: stk) n σ)) := rfl
theorem o_lload_n (k : Fin 4) : am_one X ne post (.lload_n k) len pc ls stk n σ K = (len = 1 ∧ am_ldl ls (k : Nat) (fun x => K (pc + 1) ls (.long x :: stk) n σ)) := rfl
theorem o_lload (k : Nat) : am_one X ne post (.lload k) len pc ls stk n σ K = (len = 2 ∧ am_ldl ls k (fun x => K (pc + 2) ls (.long x :: stk) n σ)) := rfl
theorem o_aload_n (k : Fin 4) : am_one X ne post (.aload_n k) len pc ls stk n σ K = (len = 1 ∧ am_lda ls (k : Nat) (fun x => K (pc + 1) ls (.ref x :: stk) n σ)) := rfl
theorem o_aload (k : Nat) : am_one X ne post (.aload k) len pc ls stk n σ K = (len = 2 ∧ am_lda ls k (fun x => K (pc + 2) ls (.ref x :: stk) n σ)) := rfl
theorem o_istore_n (k : Fin 4) : am_one X ne post (.istore_n k) len pc ls stk n σ K = (len = 1 ∧ am_1 stk (fun x rest => am_lg ls (k : Nat) = false ∧ (k : Nat) < ls.length ∧ K (pc + 1) (ls.set (k : Nat) (some (.int x))) rest n σ)) := rfl
theorem o_istore (k : Nat) : am_one X ne post (.istore k) len pc ls stk n σ K = (len = 2 ∧ am_1 stk (fun x rest => am_lg ls k = false ∧ k < ls.length ∧ K (pc + 2) (ls.set k (some (.int x))) rest n σ)) := rfl
theorem o_lstore_n (k : Fin 4) : am_one X ne post (.lstore_n k) len pc ls stk n σ K = (len = 1 ∧ am_1l stk (fun x rest => am_lg ls (k : Nat) = false ∧ (k : Nat) + 1 < ls.length ∧ K (pc + 1) ((ls.set (k : Nat) (some (.long x))).set ((k : Nat) + 1) none) rest n σ)) := rfl
theorem o_lstore (k : Nat) : am_one X ne post (.lstore k) len pc ls stk n σ K = (len = 2 ∧ am_1l stk (fun x rest => am_lg ls k = false ∧ k + 1 < ls.length ∧ K (pc + 2) ((ls.set k (some (.long x))).set (k + 1) none) rest n σ)) := rfl
theorem o_astore_n (k : Fin 4) : am_one X ne post (.astore_n k) len pc ls stk n σ K = (len = 1 ∧ am_1a stk (fun x rest => am_lg ls (k : Nat) = false ∧ (k : Nat) < ls.length ∧ K (pc + 1) (ls.set (k : Nat) (some (.ref x))) rest n σ)) := rfl
theorem o_astore (k : Nat) : am_one X ne post (.astore k) len pc ls stk n σ K = (len = 2 ∧ am_1a stk (fun x rest => am_lg ls k = false ∧ k < ls.length ∧ K (pc + 2) (ls.set k (some (.ref x))) rest n σ)) := rfl
theorem o_iinc (k : Nat) (c : Int) : am_one X ne post (.iinc k c) len pc ls stk n σ K = (len = 3 ∧ am_ldi ls k (fun x => am_lg ls k = false ∧ k < ls.length ∧ K (pc + 3) (ls.set k (some (.int (x + Int32.ofInt c)))) stk n σ)) := rfl
theorem o_iadd : am_one X ne post (.iadd) len pc ls stk n σ K = (len = 1 ∧ am_2 stk (fun x y rest => K (pc + 1) ls (.int (x + y) :: rest) n σ)) := rfl
theorem o_isub : am_one X ne post (.isub) len pc ls stk n σ K = (len = 1 ∧ am_2 stk (fun x y rest => K (pc + 1) ls (.int (x - y) :: rest) n σ)) := rfl
theorem o_imul : am_one X ne post (.imul) len pc ls stk n σ K = (len = 1 ∧ am_2 stk (fun x y rest => K (pc + 1) ls (.int (x * y) :: rest) n σ)) := rfl
theorem o_iand : am_one X ne post (.iand) len pc ls stk n σ K = (len = 1 ∧ am_2 stk (fun x y rest => K (pc + 1) ls (.int (x &&& y) :: rest) n σ)) := rfl
theorem o_ior : am_one X ne post (.ior) len pc ls stk n σ K = (len = 1 ∧ am_2 stk (fun x y rest => K (pc + 1) ls (.int (x ||| y) :: rest) n σ)) := rfl
theorem o_ixor : am_one X ne post (.ixor) len pc ls stk n σ K = (len = 1 ∧ am_2 stk (fun x y rest => K (pc + 1) ls (.int (x ^^^ y) :: rest) n σ)) := rfl
theorem o_ishl : am_one X ne post (.ishl) len pc ls stk n σ K = (len = 1 ∧ am_2 stk (fun x y rest => K (pc + 1) ls (.int (x <<< (y &&& 31)) :: rest) n σ)) := rfl
theorem o_ishr : am_one X ne post (.ishr) len pc ls stk n σ K = (len = 1 ∧ am_2 stk (fun x y rest => K (pc + 1) ls (.int (x >>> (y &&& 31)) :: rest) n σ)) := rfl
theorem o_iushr : am_one X ne post (.iushr) len pc ls stk n σ K = (len = 1 ∧ am_2 stk (fun x y rest => K (pc + 1) ls (.int ((x.toUInt32 >>> (y.toUInt32 &&& Int32.toUInt32 31)).toInt32) :: rest) n σ)) := rfl
theorem o_idiv : am_one X ne post (.idiv) len pc ls stk n σ K = (len = 1 ∧ am_2 stk (fun x y rest => ¬ y = 0 ∧ K (pc + 1) ls (.int (x / y) :: rest) n σ)) := rfl
theorem o_irem : am_one X ne post (.irem) len pc ls stk n σ K = (len = 1 ∧ am_2 stk (fun x y rest => ¬ y = 0 ∧ K (pc + 1) ls (.int (x - x / y * y) :: rest) n σ)) := rfl
theorem o_ladd : am_one X ne post (.ladd) len pc ls stk n σ K = (len = 1 ∧ am_2l stk (fun x y rest => K (pc + 1) ls (.long (x + y) :: rest) n σ)) := rfl
theorem o_lmul : am_one X ne post (.lmul) len pc ls stk n σ K = (len = 1 ∧ am_2l stk (fun x y rest => K (pc + 1) ls (.long (x * y) :: rest) n σ)) := rfl
theorem o_lcmp : am_one X ne post (.lcmp) len pc ls stk n σ K = (len = 1 ∧ am_2l stk (fun x y rest => K (pc + 1) ls (.int (lg_cmp x y) :: rest) n σ)) := rfl
theorem o_i2l : am_one X ne post (.i2l) len pc ls stk n σ K = (len = 1 ∧ am_1 stk (fun x rest => K (pc + 1) ls (.long x.toInt64 :: rest) n σ)) := rfl
theorem o_i2b : am_one X ne post (.i2b) len pc ls stk n σ K = (len = 1 ∧ am_1 stk (fun x rest => K (pc + 1) ls (.int x.toInt8.toInt32 :: rest) n σ)) := rfl
theorem o_l2i : am_one X ne post (.l2i) len pc ls stk n σ K = (len = 1 ∧ am_1l stk (fun x rest => K (pc + 1) ls (.int x.toInt32 :: rest) n σ)) := rfl
theorem o_dup : am_one X ne post (.dup) len pc ls stk n σ K = (len = 1 ∧ am_v stk (fun v rest => v.category = 1 ∧ K (pc + 1) ls (v :: v :: rest) n σ)) := rfl
theorem o_pop : am_one X ne post (.pop) len pc ls stk n σ K = (len = 1 ∧ am_v stk (fun v rest => v.category = 1 ∧ K (pc + 1) ls (rest) n σ)) := rfl
theorem o_dup2 : am_one X ne post (.dup2) len pc ls stk n σ K = (len = 1 ∧ am_v stk (fun v r1 => am_v r1 (fun w rest => v.category = 1 ∧ w.category = 1 ∧ K (pc + 1) ls (v :: w :: v :: w :: rest) n σ))) := rfl
theorem o_ifCond_eq (off : Int) : am_one X ne post (.ifCond .eq off) len pc ls stk n σ K = (len = 3 ∧ am_1 stk (fun x rest => am_tg pc off (fun t => (x = 0 → K t ls rest n σ) ∧ (¬ (x = 0) → K (pc + 3) ls rest n σ)))) := rfl
theorem o_ifCond_ne (off : Int) : am_one X ne post (.ifCond .ne off) len pc ls stk n σ K = (len = 3 ∧ am_1 stk (fun x rest => am_tg pc off (fun t => (¬ x = 0 → K t ls rest n σ) ∧ (x = 0 → K (pc + 3) ls rest n σ)))) := rfl
theorem o_ifCond_lt (off : Int) : am_one X ne post (.ifCond .lt off) len pc ls stk n σ K = (len = 3 ∧ am_1 stk (fun x rest => am_tg pc off (fun t => (x < 0 → K t ls rest n σ) ∧ (¬ (x < 0) → K (pc + 3) ls rest n σ)))) := rfl
theorem o_ifCond_ge (off : Int) : am_one X ne post (.ifCond .ge off) len pc ls stk n σ K = (len = 3 ∧ am_1 stk (fun x rest => am_tg pc off (fun t => (0 ≤ x → K t ls rest n σ) ∧ (¬ (0 ≤ x) → K (pc + 3) ls rest n σ)))) := rfl
theorem o_ifCond_gt (off : Int) : am_one X ne post (.ifCond .gt off) len pc ls stk n σ K = (len = 3 ∧ am_1 stk (fun x rest => am_tg pc off (fun t => (0 < x → K t ls rest n σ) ∧ (¬ (0 < x) → K (pc + 3) ls rest n σ)))) := rfl
theorem o_ifCond_le (off : Int) : am_one X ne post (.ifCond .le off) len pc ls stk n σ K = (len = 3 ∧ am_1 stk (fun x rest => am_tg pc off (fun t => (x ≤ 0 → K t ls rest n σ) ∧ (¬ (x ≤ 0) → K (pc + 3) ls rest n σ)))) := rfl
theorem o_if_icmp_eq (off : Int) : am_one X ne post (.if_icmp .eq off) len pc ls stk n σ K = (len = 3 ∧ am_2 stk (fun x y rest => am_tg pc off (fun t => (x = y → K t ls rest n σ) ∧ (¬ (x = y) → K (pc + 3) ls rest n σ)))) := rfl
theorem o_if_icmp_ne (off : Int) : am_one X ne post (.if_icmp .ne off) len pc ls stk n σ K = (len = 3 ∧ am_2 stk (fun x y rest => am_tg pc off (fun t => (¬ x = y → K t ls rest n σ) ∧ (x = y → K (pc + 3) ls rest n σ)))) := rfl
theorem o_if_icmp_lt (off : Int) : am_one X ne post (.if_icmp .lt off) len pc ls stk n σ K = (len = 3 ∧ am_2 stk (fun x y rest => am_tg pc off (fun t => (x < y → K t ls rest n σ) ∧ (¬ (x < y) → K (pc + 3) ls rest n σ)))) := rfl
theorem o_if_icmp_ge (off : Int) : am_one X ne post (.if_icmp .ge off) len pc ls stk n σ K = (len = 3 ∧ am_2 stk (fun x y rest => am_tg pc off (fun t => (y ≤ x → K t ls rest n σ) ∧ (¬ (y ≤ x) → K (pc + 3) ls rest n σ)))) := rfl
theorem o_if_icmp_gt (off : Int) : am_one X ne post (.if_icmp .gt off) len pc ls stk n σ K = (len = 3 ∧ am_2 stk (fun x y rest => am_tg pc off (fun t => (y < x → K t ls rest n σ) ∧ (¬ (y < x) → K (pc + 3) ls rest n σ)))) := rfl
theorem o_if_icmp_le (off : Int) : am_one X ne post (.if_icmp .le off) len pc ls stk n σ K = (len = 3 ∧ am_2 stk (fun x y rest => am_tg pc off (fun t => (x ≤ y → K t ls rest n σ) ∧ (¬ (x ≤ y) → K (pc + 3) ls rest n σ)))) := rfl
theorem o_goto (off : Int) : am_one X ne post (.goto off) len pc ls stk n σ K = (len = 3 ∧ am_tg pc off (fun t => K t ls stk n σ)) := rfl
theorem o_ireturn : am_one X ne post (.ireturn) len pc ls stk n σ K = (len = 1 ∧ n = ne ∧ am_1 stk (fun x rest => rest = [] ∧ am_ri (am_rt X) x ∧ post (some (.int x)) σ)) := rfl
theorem o_lreturn : am_one X ne post (.lreturn) len pc ls stk n σ K = (len = 1 ∧ n = ne ∧ am_1l stk (fun x rest => rest = [] ∧ am_rt X = some .long ∧ post (some (.long x)) σ)) := rfl
theorem o_return_ : am_one X ne post (.return_) len pc ls stk n σ K = (len = 1 ∧ n = ne ∧ stk = [] ∧ am_rt X = none ∧ post none σ) := rfl
theorem o_tableswitch (d : Int) (lo : Int) (hi : Int) (offs : Array Int) : am_one X ne post (.tableswitch d lo hi offs) len pc ls stk n σ K = (am_1 stk (fun x rest => am_ts pc x (fun t => K t ls rest n σ) lo offs.toList lo ∧ ((x.toInt < lo ∨ hi < x.toInt) → am_tg pc d (fun t => K t ls rest n σ)) ∧ (offs.size : Int) = hi - lo + 1)) := rfl
theorem o_lookupswitch (d : Int) (ps : Array (Int × Int)) : am_one X ne post (.lookupswitch d ps) len pc ls stk n σ K = (am_1 stk (fun x rest => (ps.toList.zip (ps.toList.drop 1)).all (fun (a, next) => a.1 < next.1) = true ∧ am_ls pc x d (fun t => K t ls rest n σ) ps.toList)) := rfl
theorem o_getfield (ix : Nat) : am_one X ne post (.getfield ix) len pc ls stk n σ K = (len = 3 ∧ am_1a stk (fun o rest => o < n ∧ am_opt (am_find (am_FT X) ix) (fun q => am_SH X o = .inl q.1 ∧ am_opt (am_KF X o)[q.2]? (fun kd => K (pc + 3) ls (am_av kd (σ.1 o q.2) (σ.2 o q.2) :: rest) n σ)))) := rfl
theorem o_putfield (ix : Nat) : am_one X ne post (.putfield ix) len pc ls stk n σ K = (len = 3 ∧ am_v stk (fun v r1 => am_1a r1 (fun o rest => o < n ∧ am_opt (am_find (am_PT X) ix) (fun q => am_SH X o = .inl q.1 ∧ am_opt (am_KF X o)[q.2]? (fun kd => am_pf kd v σ o q.2 (fun σ1 => K (pc + 3) ls rest n σ1)))))) := rfl
theorem o_arraylength : am_one X ne post (.arraylength) len pc ls stk n σ K = (len = 1 ∧ am_1a stk (fun o rest => o < n ∧ am_arr (am_SH X o) (fun q => q.1 < 4 ∧ K (pc + 1) ls (.int (Int32.ofNat q.2) :: rest) n σ))) := rfl
theorem o_iaload : am_one X ne post (.iaload) len pc ls stk n σ K = (len = 1 ∧ am_ix stk (fun i o rest => o < n ∧ am_arr (am_SH X o) (fun q => q.1 = 0 ∧ vp_in i q.2 ∧ K (pc + 1) ls (.int (σ.1 o i.toNatClampNeg) :: rest) n σ))) := rfl
theorem o_baload : am_one X ne post (.baload) len pc ls stk n σ K = (len = 1 ∧ am_ix stk (fun i o rest => o < n ∧ am_arr (am_SH X o) (fun q => (q.1 = 1 ∨ q.1 = 2) ∧ vp_in i q.2 ∧ K (pc + 1) ls (.int (σ.1 o i.toNatClampNeg) :: rest) n σ))) := rfl
theorem o_laload : am_one X ne post (.laload) len pc ls stk n σ K = (len = 1 ∧ am_ix stk (fun i o rest => o < n ∧ am_arr (am_SH X o) (fun q => q.1 = 3 ∧ vp_in i q.2 ∧ K (pc + 1) ls (.long (σ.2 o i.toNatClampNeg) :: rest) n σ))) := rfl
theorem o_iastore : am_one X ne post (.iastore) len pc ls stk n σ K = (len = 1 ∧ am_1 stk (fun x r1 => am_ix r1 (fun i o rest => o < n ∧ am_arr (am_SH X o) (fun q => q.1 = 0 ∧ vp_in i q.2 ∧ K (pc + 1) ls (rest) n (am_pi σ o i.toNatClampNeg x))))) := rfl
theorem o_bastore : am_one X ne post (.bastore) len pc ls stk n σ K = (len = 1 ∧ am_1 stk (fun x r1 => am_ix r1 (fun i o rest => o < n ∧ am_arr (am_SH X o) (fun q => (q.1 = 1 ∨ q.1 = 2) ∧ vp_in i q.2 ∧ K (pc + 1) ls (rest) n (am_pi σ o i.toNatClampNeg (if q.1 = 1 then vp_nar .byte x else vp_nar .boolean x)))))) := rfl
theorem o_lastore : am_one X ne post (.lastore) len pc ls stk n σ K = (len = 1 ∧ am_1l stk (fun x r1 => am_ix r1 (fun i o rest => o < n ∧ am_arr (am_SH X o) (fun q => q.1 = 3 ∧ vp_in i q.2 ∧ K (pc + 1) ls (rest) n (am_pl σ o i.toNatClampNeg x))))) := rfl
theorem o_newarray (ty : ArrayType) : am_one X ne post (.newarray ty) len pc ls stk n σ K = (len = 2 ∧ am_1 stk (fun x rest => n < ne ∧ am_arr (am_SH X n) (fun q => am_ty q.1 = some ty ∧ ¬ x < 0 ∧ x.toNatClampNeg = q.2 ∧ q.2 < 1000000 ∧ K (pc + 2) ls (.ref n :: rest) (n + 1) (am_new σ n)))) := rfl
theorem o_new (ix : Nat) : am_one X ne post (.new ix) len pc ls stk n σ K = (len = 3 ∧ n < ne ∧ am_opt (am_find (am_CT X) ix) (fun ci => am_SH X n = .inl ci ∧ (am_KF X n).all (fun kd => decide (kd < 4)) = true ∧ K (pc + 3) ls (.ref n :: stk) (n + 1) (am_new σ n))) := rfl
theorem o_invokevirtual (ix : Nat) : am_one X ne post (.invokevirtual ix) len pc ls stk n σ K = (len = 3 ∧ am_cl (am_find (am_NT X) ix) (fun w => am_nat w 2 stk n (am_SH X) σ (fun st σ1 => K (pc + 3) ls st n σ1)) (am_opt (am_find (am_ML X) ix) (fun q => [0, 3].contains q.1 = true ∧ q.2.1 ≤ stk.length ∧ am_rc q.1 q.2.2.1 n (am_SH X) (stk.take q.2.1).reverse ∧ ((stk.drop q.2.1).map fun v => v.category).sum ≤ 8 ∧ n + q.2.2.2.1 ≤ ne ∧ am_sz (am_SH X) (am_KF X) (n + q.2.2.2.1) = am_sz (am_SH X) (am_KF X) n + q.2.2.2.2.1 ∧ q.2.2.2.2.2 (stk.take q.2.1).reverse n σ (fun v σ1 => K (pc + 3) ls (v.toList ++ stk.drop q.2.1) (n + q.2.2.2.1) σ1)))) := rfl
theorem o_invokestatic (ix : Nat) : am_one X ne post (.invokestatic ix) len pc ls stk n σ K = (len = 3 ∧ am_cl (am_find (am_NT X) ix) (fun w => am_nat w 1 stk n (am_SH X) σ (fun st σ1 => K (pc + 3) ls st n σ1)) (am_opt (am_find (am_ML X) ix) (fun q => [1, 4].contains q.1 = true ∧ q.2.1 ≤ stk.length ∧ am_rc q.1 q.2.2.1 n (am_SH X) (stk.take q.2.1).reverse ∧ ((stk.drop q.2.1).map fun v => v.category).sum ≤ 8 ∧ n + q.2.2.2.1 ≤ ne ∧ am_sz (am_SH X) (am_KF X) (n + q.2.2.2.1) = am_sz (am_SH X) (am_KF X) n + q.2.2.2.2.1 ∧ q.2.2.2.2.2 (stk.take q.2.1).reverse n σ (fun v σ1 => K (pc + 3) ls (v.toList ++ stk.drop q.2.1) (n + q.2.2.2.1) σ1)))) := rfl
theorem o_invokespecial (ix : Nat) : am_one X ne post (.invokespecial ix) len pc ls stk n σ K = (len = 3 ∧ am_cl (am_find (am_NT X) ix) (fun w => am_nat w 0 stk n (am_SH X) σ (fun st σ1 => K (pc + 3) ls st n σ1)) (am_opt (am_find (am_ML X) ix) (fun q => [2, 5].contains q.1 = true ∧ q.2.1 ≤ stk.length ∧ am_rc q.1 q.2.2.1 n (am_SH X) (stk.take q.2.1).reverse ∧ ((stk.drop q.2.1).map fun v => v.category).sum ≤ 8 ∧ n + q.2.2.2.1 ≤ ne ∧ am_sz (am_SH X) (am_KF X) (n + q.2.2.2.1) = am_sz (am_SH X) (am_KF X) n + q.2.2.2.2.1 ∧ q.2.2.2.2.2 (stk.take q.2.1).reverse n σ (fun v σ1 => K (pc + 3) ls (v.toList ++ stk.drop q.2.1) (n + q.2.2.2.1) σ1)))) := rfl
end
end
section
/-! ONE INSTRUCTION'S WORD IS TRUE OF THE MACHINE. -/
def am_tys (aC : Nat → ClassId) : List (ClassId × FieldType) := [(aC 0, .int), (aC 1, .byte), (aC 2, .boolean), (aC 3, .long)]
def am_tk (t : FieldType) : Nat := match t with
  | .int => 0
  | .long => 1
  | .boolean => 2
  | .object _ => 3
  | .array _ => 3
  | _ => 9
/-- what the tables say of classes, numbers and arrays -/
def am_G (TB : List Cond) (cl : List vw_C) (SH : am_Sh) (KF : am_Kf) (tyc : Nat → Nat → FieldType) : Prop :=
  (∀ (ci : Nat) (q : vw_C), cl[ci]? = some q → (∀ w ∈ u_ws q.1 q.2.1 q.2.2, w ∈ TB) ∧ (∀ k, k < q.2.2 → parseFieldDescriptor (q.2.1 k).2.2.1 = some (tyc ci k)) ∧ (∀ a, a < q.2.2 → ∀ b, b < q.2.2 → a ≠ b → (q.2.1 a).2.1 ≠ (q.2.1 b).2.1)) ∧
  (∀ o ci, SH o = .inl ci → ∃ q : vw_C, cl[ci]? = some q ∧ (KF o).length = q.2.2 ∧ ∀ k kd, (KF o)[k]? = some kd → min kd 3 = am_tk (tyc ci k)) ∧
  (∀ k ty, am_ty k = some ty → Cond.arrayClass (newarray.typeOf ty) ∈ TB)
/-- a field that is read -/
def am_FO (TB : List Cond) (cl : List vw_C) (own : String) (q : Nat × Nat × Nat) : Prop := ∃ r : vw_C, cl[q.2.1]? = some r ∧ q.2.2 < r.2.2 ∧ Cond.fieldLink own q.1 (r.2.1 q.2.2).1 (r.2.1 q.2.2).2.1 (r.2.1 q.2.2).2.2.1 ∈ TB
/-- a field that is written -/
def am_PO (TB : List Cond) (cl : List vw_C) (own nm : String) (q : Nat × Nat × Nat) : Prop := ∃ r : vw_C, cl[q.2.1]? = some r ∧ q.2.2 < r.2.2 ∧ Cond.fieldLink own q.1 (r.2.1 q.2.2).1 (r.2.1 q.2.2).2.1 (r.2.1 q.2.2).2.2.1 ∈ TB ∧ ((r.2.1 q.2.2).2.2.2 = false ∨ ((r.2.1 q.2.2).2.2.2 = true ∧ nm = "<init>" ∧ (r.2.1 q.2.2).1 = own))
def am_CC (TB : List Cond) (cl : List vw_C) (own : String) (q : Nat × Nat) : Prop := ∃ r : vw_C, cl[q.2]? = some r ∧ Cond.classLink own q.1 r.1 ∈ TB ∧ Cond.instantiable r.1 r.2.2 ∈ TB ∧ Cond.initialized r.1 ∈ TB
def am_NO (TB : List Cond) (own : String) (q : Nat × Nat) : Prop := match q.2 with
  | 0 => Cond.methodLink own q.1 Lib.Math.max.name ∈ TB ∧ Cond.static Lib.Math.max.name ∈ TB ∧ Cond.initialized "java/lang/Math" ∈ TB ∧ Cond.code Lib.Math.max.name Lib.Math.max.code 2 (some .int) ∈ TB
  | 1 => Cond.methodLink own q.1 Lib.Math.min.name ∈ TB ∧ Cond.static Lib.Math.min.name ∈ TB ∧ Cond.initialized "java/lang/Math" ∈ TB ∧ Cond.code Lib.Math.min.name Lib.Math.min.code 2 (some .int) ∈ TB
  | 2 => Cond.methodLink own q.1 Lib.Math.abs.name ∈ TB ∧ Cond.static Lib.Math.abs.name ∈ TB ∧ Cond.initialized "java/lang/Math" ∈ TB ∧ Cond.code Lib.Math.abs.name Lib.Math.abs.code 1 (some .int) ∈ TB
  | 3 => Cond.methodLink own q.1 objectInit ∈ TB ∧ Cond.instanceMethod objectInit ∈ TB ∧ Cond.code objectInit ⟨#[0xb1]⟩ 1 none ∈ TB
  | 4 => Cond.methodLink own q.1 arraycopyName ∈ TB ∧ Cond.native arraycopyName ∈ TB ∧ Cond.static arraycopyName ∈ TB ∧ Cond.initialized "java/lang/System" ∈ TB
  | _ => False
def am_gb (TB : List Cond) : List Cond := TB.filter goodWord
def am_Nw (NB : List Cond) (U : State) : Prop := ∀ a i x h, Cond.methodLinkNest a i x h ∈ NB → va_Nw (.methodLinkNest a i x h) U
abbrev am_rm (d mc ms : Nat) : Room := { frames := d, cells := mc, slots := ms, locals := 64 * d }
def am_Pc (cl : List vw_C) (NB : List Cond) (SH : am_Sh) (KF : am_Kf) (D : va_G) (aC : Nat → ClassId) (b n0 : Nat) (as : List Value) (σ : am_S) : Array Value → State → Prop := va_Pc (as.map (am_c b)) (fun U => U.heap.size = b + n0 ∧ va_P D cl (am_ws SH KF b aC n0 σ) U.heap ∧ va_K D cl (am_tys aC) U ∧ am_Nw NB U)
def am_Qc (cl : List vw_C) (SH : am_Sh) (KF : am_Kf) (D : va_G) (aC : Nat → ClassId) (b ne : Nat) (post : Option Value → am_S → Prop) : Array Value → State → Outcome → State → Prop := fun _ st oc t => (∃ (v : Option Value) (σ : am_S), oc = .returned (v.map (am_c b)) ∧ post v σ ∧ va_P D cl (am_ws SH KF b aC ne σ) t.heap) ∧ va_F (fun q => b ≤ q) st t
/-- A METHOD'S CONTRACT: from what its word asks for it comes to what its word says -/
def am_M (l : Launch) (TB NB : List Cond) (cl : List vw_C) (SH : am_Sh) (KF : am_Kf) (y : MethodName) (cc : ByteArray) (maxL : Nat) (ret : Option FieldType) (d mc ms : Nat) (sp : am_Sp) : Prop :=
  ∀ (D : va_G) (aC : Nat → ClassId) (b n0 : Nat) (as : List Value) (σ : am_S) (post : Option Value → am_S → Prop), sp as n0 σ post → am_sz SH KF (n0 + mc) = am_sz SH KF n0 + ms →
    Met l y (.code y cc maxL ret :: am_gb TB) (am_rm d mc ms) (am_Pc cl NB SH KF D aC b n0 as σ) (am_Qc cl SH KF D aC b (n0 + mc) post) mc ms (fun q => b ≤ q)
/-- a call that a method makes -/
def am_CO (l : Launch) (TB NB : List Cond) (cl : List vw_C) (SH : am_Sh) (KF : am_Kf) (own : String) (dR : Nat) (ix : Nat) (q : Nat × Nat × Nat × Nat × Nat × am_Sp) : Prop :=
  ∃ (y : MethodName) (cc : ByteArray) (maxL : Nat) (ret : Option FieldType) (d na : Nat), am_M l TB NB cl SH KF y cc maxL ret d q.2.2.2.1 q.2.2.2.2.1 q.2.2.2.2.2 ∧ d + 1 ≤ dR ∧ maxL ≤ 40 ∧ Cond.code y cc maxL ret ∈ TB ∧ Cond.initialized y.cls ∈ TB ∧ (y.cls ≠ "java/lang/invoke/MethodHandle" ∧ y.cls ≠ "java/lang/invoke/VarHandle" ∧ (parseMethodDescriptor y.desc).map (fun d => d.parameters.length) = some na) ∧
    match q.1 with
    | 0 => q.2.1 = na + 1 ∧ Cond.methodLink own ix y ∈ TB ∧ Cond.instanceMethod y ∈ TB ∧ ∃ r : vw_C, cl[q.2.2.1]? = some r ∧ Cond.selects r.1 y y ∈ TB
    | 1 => q.2.1 = na ∧ Cond.methodLink own ix y ∈ TB ∧ Cond.static y ∈ TB
    | 2 => q.2.1 = na + 1 ∧ Cond.methodLink own ix y ∈ TB ∧ Cond.instanceMethod y ∈ TB ∧ y.name = "<init>" ∧ ret = none
    | 4 => q.2.1 = na ∧ (∃ host, Cond.methodLinkNest own ix y host ∈ NB) ∧ Cond.static y ∈ TB
    | 5 => q.2.1 = na + 1 ∧ (∃ host, Cond.methodLinkNest own ix y host ∈ NB) ∧ Cond.instanceMethod y ∈ TB ∧ y.name = "<init>" ∧ ret = none
    | _ => False
/-- a method's tables are right -/
def am_O (l : Launch) (TB NB : List Cond) (cl : List vw_C) (own nm : String) (dR : Nat) (X : am_X) : Prop :=
  (∀ q ∈ am_FT X, am_FO TB cl own q) ∧ (∀ q ∈ am_PT X, am_PO TB cl own nm q) ∧ (∀ q ∈ am_CT X, am_CC TB cl own q) ∧ (∀ q ∈ am_KT X, Cond.constant own q.1 q.2 ∈ TB) ∧ (∀ q ∈ am_LT X, Cond.constantLong own q.1 q.2 ∈ TB) ∧ (∀ q ∈ am_NT X, am_NO TB own q) ∧ (∀ q ∈ am_ML X, am_CO l TB NB cl (am_SH X) (am_KF X) own dR q.1 q.2)
theorem am_pf_ok {SH : am_Sh} {KF : am_Kf} {b : Nat} {aC : Nat → ClassId} {kd : Nat} {v : Value} {σ : am_S} {o k : Nat} {K : am_S → Prop} (h : am_pf kd v σ o k K) : ∃ τ : am_S, K τ ∧ (∀ i, i ≠ o → am_cell SH KF b aC τ i = am_cell SH KF b aC σ i) ∧ (∀ j, j ≠ k → τ.1 o j = σ.1 o j) ∧ (∀ j, j ≠ k → τ.2 o j = σ.2 o j) ∧ am_av kd (τ.1 o k) (τ.2 o k) = v ∧ ∀ ty, min kd 3 = am_tk ty → narrow ty (am_c b v) = am_c b v ∧ fits ty (am_c b v) = true := by
  unfold am_pf at h
  split at h
  · refine ⟨_, h, fun i hi => am_pi_ne hi, fun j hj => by simp [am_pi, hj], fun j hj => rfl, by simp [am_av, am_pi], fun ty ht => ?_⟩
    cases ty <;> simp [am_tk] at ht
    exact ⟨rfl, rfl⟩
  · refine ⟨_, h, fun i hi => am_pl_ne hi, fun j hj => rfl, fun j hj => by simp [am_pl, hj], by simp [am_av, am_pl], fun ty ht => ?_⟩
    cases ty <;> simp [am_tk] at ht
    exact ⟨rfl, rfl⟩
  · rename_i x
    refine ⟨_, h.2, fun i hi => am_pi_ne hi, fun j hj => by simp [am_pi, hj], fun j hj => rfl, by simp [am_av, am_pi], fun ty ht => ?_⟩
    cases ty <;> simp [am_tk] at ht
    have h1 : x &&& 1 = x := h.1
    refine ⟨by show Value.int (x &&& 1) = _; rw [h1]; rfl, ?_⟩
    show (x == 0 || x == 1) = true
    have h2 : x.toBitVec &&& 1#32 = x.toBitVec := by
      have := congrArg Int32.toBitVec h1
      simpa using this
    have h3 : x.toBitVec.toNat = x.toBitVec.toNat % 2 := by
      have := congrArg BitVec.toNat h2
      rw [BitVec.toNat_and] at this
      rw [← this]
      simp [Nat.and_one_is_mod]
    have h4 : x.toBitVec.toNat = 0 ∨ x.toBitVec.toNat = 1 := by omega
    rcases h4 with h4 | h4
    · have : x = 0 := by
        apply Int32.toBitVec_inj.mp
        apply BitVec.eq_of_toNat_eq
        rw [h4]; rfl
      subst this; rfl
    · have : x = 1 := by
        apply Int32.toBitVec_inj.mp
        apply BitVec.eq_of_toNat_eq
        rw [h4]; rfl
      subst this; rfl
  · rename_i a
    refine ⟨_, h.2, fun i hi => am_pi_ne hi, fun j hj => by simp [am_pi, hj], fun j hj => rfl, ?_, fun ty ht => ?_⟩
    · obtain ⟨a', rfl⟩ : ∃ z : Nat, z = a := ⟨_, rfl⟩
      have h1 : a' < 1000000 := h.1
      have h2 : (Int32.ofNat (a' + 1)).toNatClampNeg = a' + 1 := nI_clamp (n := a' + 1) (by omega)
      have h3 : ¬ Int32.ofNat (a' + 1) = 0 := nI_ne0 (n := a' + 1) (by omega) (by omega)
      have h4 : (am_pi σ o k (Int32.ofNat (a' + 1))).1 o k = Int32.ofNat (a' + 1) := by simp only [am_pi, and_self, if_true]
      show (if (am_pi σ o k (Int32.ofNat (a' + 1))).1 o k = 0 then Value.null else Value.ref (((am_pi σ o k (Int32.ofNat (a' + 1))).1 o k).toNatClampNeg - 1)) = _
      rw [h4, if_neg h3, h2]
      rfl
    · cases ty <;> simp [am_tk] at ht
      · exact ⟨rfl, rfl⟩
      · exact ⟨rfl, rfl⟩
  · exact h.elim
section
variable {p : Program} {l : Launch} {e : Env} {R : Room} {s : State} {m : MethodId} {args : Array Value} {below : List Frame} {meth : Method} {c : Code} {cl : List vw_C} {TB NB : List Cond} {D : va_G} {aC : Nat → ClassId} {b n0 ne : Nat} {SH : am_Sh} {KF : am_Kf}
/-- how many cells there are -/
theorem am_size {H : Heap} {locs : List Loc} {n slots cells : Nat} {Q : State → Prop} {g : JFrame} {σ : am_S} (hP : va_P D cl (am_ws SH KF b aC n σ) H) (hS : va_S (fun q => b ≤ q) s.heap H locs) (hsz : s.heap.size = b + n0) (hn : n0 ≤ n) (hc : cells = n - n0) (k : H.size = b + n → W p l e R s m args below meth c H locs cells slots Q g) : W p l e R s m args below meth c H locs cells slots Q g := by
  intro T hT X
  refine k ?_ T hT X
  have h1 : T.heap.size ≤ s.heap.size + cells := X.heapSize
  rw [hT, hsz] at h1
  have h2 : b + n ≤ H.size := by
    rcases Nat.lt_or_ge n0 n with q | q
    · have := (hP (n - 1) _ (am_ws_at (by omega))).lt
      have h3 : b + (n - 1) < H.size := this
      omega
    · have := hS.1
      omega
  omega
/-- behind a call -/
theorem am_call {H : Heap} {locs : List Loc} {cells slots mc ms pc n1 : Nat} {Q : State → Prop} {ls : Array Slot} {st0 rest : List Value} {a : Array Value} {post : Option Value → am_S → Prop}
    (hr : va_Run p l e R s m args below meth c H locs cells slots mc ms (F0 m pc ls st0) rest (am_Qc cl SH KF D aC b n1 post a) (fun q => b ≤ q)) (hS : va_S (fun q => b ≤ q) s.heap H locs)
    (kk : ∀ (v : Option Value) (τ : am_S) (H1 : Heap) (locs1 : List Loc), post v τ → va_P D cl (am_ws SH KF b aC n1 τ) H1 → va_S (fun q => b ≤ q) s.heap H1 locs1 → W p l e R s m args below meth c H1 locs1 (cells + mc) (slots + ms) Q (F0 m (pc + 3) ls ((v.map (am_c b)).toList ++ rest))) : W p l e R s m args below meth c H locs cells slots Q (F0 m pc ls st0) := by
  intro T hT X
  obtain ⟨v, st₀, t, T', L, h0, X', hL, e1, e2, ⟨⟨w, τ, hv, hp, hb⟩, hz, hk⟩, st⟩ := hr T hT X
  cases hv
  rw [h0] at hz hk
  obtain ⟨t2, a1, b1⟩ := kk w τ T'.heap (locs ++ L) hp (by rw [e1]; exact hb)
    ⟨Nat.le_trans hS.1 (by rw [e1]; exact hz), fun q h1 h2 => by rw [e1, hk q (Nat.lt_of_lt_of_le h1 hS.1) h2]; exact hS.2.1 q h1 h2, fun q hq => by
      rcases List.mem_append.mp hq with h | h
      · exact hS.2.2 q h
      · exact hL q h⟩ T' rfl X'
  exact ⟨t2, st t2 a1, b1⟩
end
end
section
section
variable {p : Program} {l : Launch} {e : Env} {R : Room} {s : State} {m : MethodId} {args : Array Value} {below : List Frame} {meth : Method} {c : Code} {cl : List vw_C} {TB NB : List Cond} {D : va_G} {aC : Nat → ClassId} {b n0 ne nL : Nat} {cc : ByteArray} {own : String} {X : am_X} {post : Option Value → am_S → Prop}
/-- the setting of a walk -/
def am_C (p : Program) (l : Launch) (R : Room) (s : State) (m : MethodId) (args : Array Value) (meth : Method) (c : Code) (cl : List vw_C) (TB NB : List Cond) (D : va_G) (aC : Nat → ClassId) (b n0 ne nL : Nat) (cc : ByteArray) (own : String) (X : am_X) : Prop :=
  p.tables.exec = Jvm.exec ∧ c.code = cc ∧ c.maxLocals = nL ∧ s.vm.findClass own = some m.cls ∧ (∀ w ∈ TB, w.before args s = true) ∧ am_Nw NB s ∧ va_K D cl (am_tys aC) s ∧ meth.locks = false ∧ s.heap.size = b + n0 ∧ meth.sig.returnType = am_rt X ∧ (∃ d, 1 ≤ d ∧ R = am_rm d (ne - n0) (am_sz (am_SH X) (am_KF X) ne - am_sz (am_SH X) (am_KF X) n0) ∧ am_O l TB NB cl own meth.name d X) ∧ ∃ tyc, am_G TB cl (am_SH X) (am_KF X) tyc
/-- THE WALK at pc, in this layer's words -/
def am_A (p : Program) (l : Launch) (e : Env) (R : Room) (s : State) (m : MethodId) (args : Array Value) (below : List Frame) (meth : Method) (c : Code) (cl : List vw_C) (D : va_G) (aC : Nat → ClassId) (b n0 ne nL : Nat) (X : am_X) (post : Option Value → am_S → Prop) (pc : Nat) (ls : List (Option Value)) (stk : List Value) (n : Nat) (σ : am_S) : Prop :=
  n0 ≤ n → n ≤ ne → ls.length = nL → ∀ (H : Heap) (locs : List Loc) (lc : Array Slot), va_P D cl (am_ws (am_SH X) (am_KF X) b aC n σ) H → va_S (fun q => b ≤ q) s.heap H locs → lv_has lc nL (am_lv b ls) →
    W p l e R s m args below meth c H locs (n - n0) (am_sz (am_SH X) (am_KF X) n - am_sz (am_SH X) (am_KF X) n0) (MQ below (am_Qc cl (am_SH X) (am_KF X) D aC b ne post) args s (ne - n0) (am_sz (am_SH X) (am_KF X) ne - am_sz (am_SH X) (am_KF X) n0) (fun q => b ≤ q)) (F0 m pc lc (stk.map (am_c b)))
theorem am_ts_ok {pc : Nat} {x : Int32} {k : Nat → Prop} {lo : Int} : ∀ {l : List Int} {i : Int}, am_ts pc x k lo l i → i ≤ x.toInt → x.toInt < i + l.length → ∃ off, l[(x.toInt - i).toNat]? = some off ∧ am_tg pc off k
  | [], i, h, h1, h2 => by simp at h2; omega
  | off :: t, i, h, h1, h2 => by
    by_cases hx : x.toInt = i
    · exact ⟨off, by rw [show (x.toInt - i).toNat = 0 by omega]; rfl, h.1 hx⟩
    · obtain ⟨off2, q1, q2⟩ := am_ts_ok h.2 (by omega) (by simp at h2; omega)
      refine ⟨off2, ?_, q2⟩
      rw [show (x.toInt - i).toNat = (x.toInt - (i + 1)).toNat + 1 by omega]
      simpa using q1
theorem am_ls_ok {pc : Nat} {x : Int32} {d : Int} {k : Nat → Prop} : ∀ {l : List (Int × Int)}, am_ls pc x d k l → am_tg pc (Op.lookupswitch.offset l d x.toInt) k
  | [], h => by simpa [am_ls, Op.lookupswitch.offset] using h
  | q :: t, h => by
    by_cases hx : x.toInt = q.1
    · have := h.1 hx
      simpa [Op.lookupswitch.offset, hx] using this
    · have := am_ls_ok (h.2 hx)
      have h2 : ¬ q.1 = x.toInt := fun z => hx z.symm
      simpa [Op.lookupswitch.offset, h2] using this
theorem am_tgt {pc : Nat} {off : Int} {k : Nat → Prop} (h : am_tg pc off k) : ∃ t : Nat, (pc : Int) + off = (t : Int) ∧ k t := ⟨((pc : Int) + off).toNat, (Int.toNat_of_nonneg h.1).symm, h.2⟩
theorem am_ws_obj {SH : am_Sh} {KF : am_Kf} {n o ci : Nat} {σ : am_S} (h : o < n) (hs : SH o = .inl ci) : (am_ws SH KF b aC n σ)[o]? = some (b + o, .inr (ci, (am_fs (KF o) (σ.1 o) (σ.2 o)).map (am_c b))) := by
  rw [am_ws_at h]; simp [am_cell, hs]
theorem am_ws_arr {SH : am_Sh} {KF : am_Kf} {n o : Nat} {q : Nat × Nat} {σ : am_S} (h : o < n) (hs : SH o = .inr q) (hq : ¬ q.1 = 3) : (am_ws SH KF b aC n σ)[o]? = some (b + o, .inl (aC q.1, (q.2, .inl (σ.1 o)))) := by
  rw [am_ws_at h]; simp [am_cell, hs, hq]
theorem am_ws_arl {SH : am_Sh} {KF : am_Kf} {n o : Nat} {q : Nat × Nat} {σ : am_S} (h : o < n) (hs : SH o = .inr q) (hq : q.1 = 3) : (am_ws SH KF b aC n σ)[o]? = some (b + o, .inl (aC 3, (q.2, .inr (.inl (σ.2 o))))) := by
  rw [am_ws_at h]; simp [am_cell, hs, hq]
theorem am_upd_cell {SH : am_Sh} {KF : am_Kf} {o k : Nat} {q : Nat × Nat} {σ : am_S} {x : Int32} (hs : SH o = .inr q) (hq : ¬ q.1 = 3) : (.inl (aC q.1, (q.2, .inl (upd (σ.1 o) k x))) : va_E) = am_cell SH KF b aC (am_pi σ o k x) o := by
  have e : (am_pi σ o k x).1 o = upd (σ.1 o) k x := by funext j; simp [am_pi, upd]
  simp [am_cell, hs, hq, e]
theorem am_upd_celll {SH : am_Sh} {KF : am_Kf} {o k : Nat} {q : Nat × Nat} {σ : am_S} {x : Int64} (hs : SH o = .inr q) (hq : q.1 = 3) : (.inl (aC 3, (q.2, .inr (.inl (vp_updL (σ.2 o) k x)))) : va_E) = am_cell SH KF b aC (am_pl σ o k x) o := by
  have e : (am_pl σ o k x).2 o = vp_updL (σ.2 o) k x := by funext j; simp [am_pl, vp_updL]
  simp [am_cell, hs, hq, e]
/-- the simple instructions -/
theorem am_simple {i : Instr} {len pc : Nat} {ls : List (Option Value)} {stk : List Value} {n : Nat} {σ : am_S} {K : Nat → List (Option Value) → List Value → Nat → am_S → Prop} (C : am_C p l R s m args meth c cl TB NB D aC b n0 ne nL cc own X) (hdg : decode cc pc = .ok (i, len))
    (hK : ∀ pc ls stk n σ, K pc ls stk n σ → am_A p l e R s m args below meth c cl D aC b n0 ne nL X post pc ls stk n σ)
    (hbig : match i with
      | .getfield _ => False
      | .putfield _ => False
      | .arraylength => False
      | .iaload => False
      | .baload => False
      | .laload => False
      | .iastore => False
      | .bastore => False
      | .lastore => False
      | .newarray _ => False
      | .new _ => False
      | .invokevirtual _ => False
      | .invokestatic _ => False
      | .invokespecial _ => False
      | _ => True)
    (h : am_one X ne post i len pc ls stk n σ K) : am_A p l e R s m args below meth c cl D aC b n0 ne nL X post pc ls stk n σ := by
  obtain ⟨hx, hb, hml, hown, hts, hnb, hKn, hlocks, hsz, hret, ⟨d, hd, hR, hO⟩, tyc, hG⟩ := C
  intro hn hne hlen H locs lc hP hS hl
  cases i
  case iconst v => exact lv_iconst hx hb (by rw [hdg, h.1]) rfl (hK _ _ _ _ _ h.2 hn hne hlen H locs lc hP hS hl)
  case bipush v =>
    obtain ⟨h1, h2, h3⟩ := h
    refine lv_bipush (v := Int32.ofInt v) hx hb (by rw [hdg, h1]) ?_ (hK _ _ _ _ _ h3 hn hne hlen H locs lc hP hS hl)
    apply Int32.toInt_inj.mp
    rw [Int8.toInt_toInt32, Int8.toInt_ofInt_of_le (by omega) (by omega), Int32.toInt_ofInt_of_le (by omega) (by omega)]
  case sipush v =>
    obtain ⟨h1, h2, h3⟩ := h
    refine lv_sipush (v := Int32.ofInt v) hx hb (by rw [hdg, h1]) ?_ (hK _ _ _ _ _ h3 hn hne hlen H locs lc hP hS hl)
    apply Int32.toInt_inj.mp
    rw [Int16.toInt_toInt32, Int16.toInt_ofInt_of_le (by omega) (by omega), Int32.toInt_ofInt_of_le (by omega) (by omega)]
  case lconst v => exact lv_lconst hx hb (by rw [hdg, h.1]) rfl (hK _ _ _ _ _ h.2 hn hne hlen H locs lc hP hS hl)
  case ldc ix =>
    obtain ⟨h1, h2⟩ := h
    obtain ⟨v, h3, h4⟩ := am_opt_iff.mp h2
    exact lv_ldc hx hb hown (hts _ (hO.2.2.2.1 _ (am_find_mem h3))) (by rw [hdg, h1]) (hK _ _ _ _ _ h4 hn hne hlen H locs lc hP hS hl)
  case ldc_w ix =>
    obtain ⟨h1, h2⟩ := h
    obtain ⟨v, h3, h4⟩ := am_opt_iff.mp h2
    exact lv_ldcw hx hb hown (hts _ (hO.2.2.2.1 _ (am_find_mem h3))) (by rw [hdg, h1]) (hK _ _ _ _ _ h4 hn hne hlen H locs lc hP hS hl)
  case ldc2_w ix =>
    obtain ⟨h1, h2⟩ := h
    obtain ⟨v, h3, h4⟩ := am_opt_iff.mp h2
    exact lv_ldc2 hx hb hown (hts _ (hO.2.2.2.2.1 _ (am_find_mem h3))) (by rw [hdg, h1]) (hK _ _ _ _ _ h4 hn hne hlen H locs lc hP hS hl)
  case iload_n k =>
    obtain ⟨x, h3, h4⟩ := am_ldi_iff h.2
    exact lv_iload_n hx hb (by rw [hdg, h.1]) rfl (am_lv_at hl h3) (hK _ _ _ _ _ h4 hn hne hlen H locs lc hP hS hl)
  case iload k =>
    obtain ⟨x, h3, h4⟩ := am_ldi_iff h.2
    exact lv_iload hx hb (by rw [hdg, h.1]) (am_lv_at hl h3) (hK _ _ _ _ _ h4 hn hne hlen H locs lc hP hS hl)
  case lload_n k =>
    obtain ⟨x, h3, h4⟩ := am_ldl_iff h.2
    exact lv_lload_n hx hb (by rw [hdg, h.1]) rfl (am_lv_at hl h3) (hK _ _ _ _ _ h4 hn hne hlen H locs lc hP hS hl)
  case lload k =>
    obtain ⟨x, h3, h4⟩ := am_ldl_iff h.2
    exact lv_lload hx hb (by rw [hdg, h.1]) (am_lv_at hl h3) (hK _ _ _ _ _ h4 hn hne hlen H locs lc hP hS hl)
  case aload_n k =>
    obtain ⟨x, h3, h4⟩ := am_lda_iff h.2
    exact lv_aload_n hx hb (by rw [hdg, h.1]) rfl (am_lv_at hl h3) (hK _ _ _ _ _ h4 hn hne hlen H locs lc hP hS hl)
  case aload k =>
    obtain ⟨x, h3, h4⟩ := am_lda_iff h.2
    exact lv_aload hx hb (by rw [hdg, h.1]) (am_lv_at hl h3) (hK _ _ _ _ _ h4 hn hne hlen H locs lc hP hS hl)
  case istore_n k =>
    obtain ⟨x, r, rfl, h1, h2, h3⟩ := am_1_iff h.2
    exact lv_istore_n hx hb (by rw [hdg, h.1]) rfl hl (by omega) rfl (fun lc' hl' => hK _ _ _ _ _ h3 hn hne (by simp [hlen]) H locs lc' hP hS (am_lv_set1 h1 hl'))
  case istore k =>
    obtain ⟨x, r, rfl, h1, h2, h3⟩ := am_1_iff h.2
    exact lv_istore hx hb (by rw [hdg, h.1]) hl (by omega) rfl (fun lc' hl' => hK _ _ _ _ _ h3 hn hne (by simp [hlen]) H locs lc' hP hS (am_lv_set1 h1 hl'))
  case lstore_n k =>
    obtain ⟨x, r, rfl, h1, h2, h3⟩ := am_1l_iff h.2
    exact lv_lstore_n hx hb (by rw [hdg, h.1]) rfl hl (by omega) rfl (fun lc' hl' => hK _ _ _ _ _ h3 hn hne (by simp [hlen]) H locs lc' hP hS (am_lv_set2 h1 hl'))
  case lstore k =>
    obtain ⟨x, r, rfl, h1, h2, h3⟩ := am_1l_iff h.2
    exact lv_lstore hx hb (by rw [hdg, h.1]) hl (by omega) rfl (fun lc' hl' => hK _ _ _ _ _ h3 hn hne (by simp [hlen]) H locs lc' hP hS (am_lv_set2 h1 hl'))
  case astore_n k =>
    obtain ⟨x, r, rfl, h1, h2, h3⟩ := am_1a_iff h.2
    exact lv_astore_n hx hb (by rw [hdg, h.1]) rfl hl (by omega) rfl (fun lc' hl' => hK _ _ _ _ _ h3 hn hne (by simp [hlen]) H locs lc' hP hS (am_lv_set1 h1 hl'))
  case astore k =>
    obtain ⟨x, r, rfl, h1, h2, h3⟩ := am_1a_iff h.2
    exact lv_astore hx hb (by rw [hdg, h.1]) hl (by omega) rfl (fun lc' hl' => hK _ _ _ _ _ h3 hn hne (by simp [hlen]) H locs lc' hP hS (am_lv_set1 h1 hl'))
  case iinc k cn =>
    obtain ⟨x, h0, h1, h2, h3⟩ := am_ldi_iff h.2
    obtain ⟨j, hj⟩ := List.getElem?_of_mem (am_lv_mem (b := b) (q := (k, .int x)).mpr ⟨_, h0, rfl⟩)
    exact lv_iinc hx hb (by rw [hdg, h.1]) hl hj rfl (by omega) rfl (fun lc' hl' => hK _ _ _ _ _ h3 hn hne (by simp [hlen]) H locs lc' hP hS (am_lv_set1 h1 hl'))
  case iadd =>
    obtain ⟨x, y, r, rfl, h3⟩ := am_2_iff h.2
    exact lv_iadd hx hb (by rw [hdg, h.1]) (hK _ _ _ _ _ h3 hn hne hlen H locs lc hP hS hl)
  case isub =>
    obtain ⟨x, y, r, rfl, h3⟩ := am_2_iff h.2
    exact lv_isub hx hb (by rw [hdg, h.1]) (hK _ _ _ _ _ h3 hn hne hlen H locs lc hP hS hl)
  case imul =>
    obtain ⟨x, y, r, rfl, h3⟩ := am_2_iff h.2
    exact lv_imul hx hb (by rw [hdg, h.1]) (hK _ _ _ _ _ h3 hn hne hlen H locs lc hP hS hl)
  case iand =>
    obtain ⟨x, y, r, rfl, h3⟩ := am_2_iff h.2
    exact lv_iand hx hb (by rw [hdg, h.1]) (hK _ _ _ _ _ h3 hn hne hlen H locs lc hP hS hl)
  case ior =>
    obtain ⟨x, y, r, rfl, h3⟩ := am_2_iff h.2
    exact lv_ior hx hb (by rw [hdg, h.1]) (hK _ _ _ _ _ h3 hn hne hlen H locs lc hP hS hl)
  case ixor =>
    obtain ⟨x, y, r, rfl, h3⟩ := am_2_iff h.2
    exact lv_ixor hx hb (by rw [hdg, h.1]) (hK _ _ _ _ _ h3 hn hne hlen H locs lc hP hS hl)
  case ishl =>
    obtain ⟨x, y, r, rfl, h3⟩ := am_2_iff h.2
    exact lv_ishl hx hb (by rw [hdg, h.1]) (hK _ _ _ _ _ h3 hn hne hlen H locs lc hP hS hl)
  case ishr =>
    obtain ⟨x, y, r, rfl, h3⟩ := am_2_iff h.2
    exact lv_ishr hx hb (by rw [hdg, h.1]) (hK _ _ _ _ _ h3 hn hne hlen H locs lc hP hS hl)
  case iushr =>
    obtain ⟨x, y, r, rfl, h3⟩ := am_2_iff h.2
    exact lv_iushr hx hb (by rw [hdg, h.1]) rfl (hK _ _ _ _ _ h3 hn hne hlen H locs lc hP hS hl)
  case idiv =>
    obtain ⟨x, y, r, rfl, h3, h4⟩ := am_2_iff h.2
    exact lv_idiv hx hb (by rw [hdg, h.1]) h3 (hK _ _ _ _ _ h4 hn hne hlen H locs lc hP hS hl)
  case irem =>
    obtain ⟨x, y, r, rfl, h3, h4⟩ := am_2_iff h.2
    exact lv_irem hx hb (by rw [hdg, h.1]) h3 (hK _ _ _ _ _ h4 hn hne hlen H locs lc hP hS hl)
  case ladd =>
    obtain ⟨x, y, r, rfl, h3⟩ := am_2l_iff h.2
    exact lv_ladd hx hb (by rw [hdg, h.1]) (hK _ _ _ _ _ h3 hn hne hlen H locs lc hP hS hl)
  case lmul =>
    obtain ⟨x, y, r, rfl, h3⟩ := am_2l_iff h.2
    exact lv_lmul hx hb (by rw [hdg, h.1]) (hK _ _ _ _ _ h3 hn hne hlen H locs lc hP hS hl)
  case lcmp =>
    obtain ⟨x, y, r, rfl, h3⟩ := am_2l_iff h.2
    exact W.lcmp hx hb (by rw [hdg, h.1]) (hK _ _ _ _ _ h3 hn hne hlen H locs lc hP hS hl)
  case i2l =>
    obtain ⟨x, r, rfl, h3⟩ := am_1_iff h.2
    exact lv_i2l hx hb (by rw [hdg, h.1]) rfl (hK _ _ _ _ _ h3 hn hne hlen H locs lc hP hS hl)
  case i2b =>
    obtain ⟨x, r, rfl, h3⟩ := am_1_iff h.2
    exact lv_i2b hx hb (by rw [hdg, h.1]) rfl (hK _ _ _ _ _ h3 hn hne hlen H locs lc hP hS hl)
  case l2i =>
    obtain ⟨x, r, rfl, h3⟩ := am_1l_iff h.2
    exact lv_l2i hx hb (by rw [hdg, h.1]) rfl (hK _ _ _ _ _ h3 hn hne hlen H locs lc hP hS hl)
  case dup =>
    obtain ⟨x, r, rfl, h2, h3⟩ := am_v_iff h.2
    exact lv_dup hx hb (by rw [hdg, h.1]) (by rw [am_c_cat]; exact h2) (hK _ _ _ _ _ h3 hn hne hlen H locs lc hP hS hl)
  case pop =>
    obtain ⟨x, r, rfl, h2, h3⟩ := am_v_iff h.2
    exact lv_pop hx hb (by rw [hdg, h.1]) (by rw [am_c_cat]; exact h2) (hK _ _ _ _ _ h3 hn hne hlen H locs lc hP hS hl)
  case dup2 =>
    obtain ⟨x, r1, rfl, h2⟩ := am_v_iff h.2
    obtain ⟨y, r, rfl, h3, h4, h5⟩ := am_v_iff h2
    exact lv_dup2_11 hx hb (by rw [hdg, h.1]) (by rw [am_c_cat]; exact h3) (by rw [am_c_cat]; exact h4) (hK _ _ _ _ _ h5 hn hne hlen H locs lc hP hS hl)
  case ifCond cd off =>
    cases cd
    case eq =>
      obtain ⟨x, r, rfl, h2⟩ := am_1_iff h.2
      obtain ⟨t, ht, h3, h4⟩ := am_tgt h2
      exact lv_if_eq hx hb (by rw [hdg, h.1]) ht (fun q => hK _ _ _ _ _ (h3 q) hn hne hlen H locs lc hP hS hl) (fun q => hK _ _ _ _ _ (h4 q) hn hne hlen H locs lc hP hS hl)
    case ne =>
      obtain ⟨x, r, rfl, h2⟩ := am_1_iff h.2
      obtain ⟨t, ht, h3, h4⟩ := am_tgt h2
      exact lv_if_ne hx hb (by rw [hdg, h.1]) ht (fun q => hK _ _ _ _ _ (h3 q) hn hne hlen H locs lc hP hS hl) (fun q => hK _ _ _ _ _ (h4 q) hn hne hlen H locs lc hP hS hl)
    case lt =>
      obtain ⟨x, r, rfl, h2⟩ := am_1_iff h.2
      obtain ⟨t, ht, h3, h4⟩ := am_tgt h2
      exact lv_if_lt hx hb (by rw [hdg, h.1]) ht (fun q => hK _ _ _ _ _ (h3 q) hn hne hlen H locs lc hP hS hl) (fun q => hK _ _ _ _ _ (h4 q) hn hne hlen H locs lc hP hS hl)
    case ge =>
      obtain ⟨x, r, rfl, h2⟩ := am_1_iff h.2
      obtain ⟨t, ht, h3, h4⟩ := am_tgt h2
      exact lv_if_ge hx hb (by rw [hdg, h.1]) ht (fun q => hK _ _ _ _ _ (h3 q) hn hne hlen H locs lc hP hS hl) (fun q => hK _ _ _ _ _ (h4 q) hn hne hlen H locs lc hP hS hl)
    case gt =>
      obtain ⟨x, r, rfl, h2⟩ := am_1_iff h.2
      obtain ⟨t, ht, h3, h4⟩ := am_tgt h2
      exact lv_if_gt hx hb (by rw [hdg, h.1]) ht (fun q => hK _ _ _ _ _ (h3 q) hn hne hlen H locs lc hP hS hl) (fun q => hK _ _ _ _ _ (h4 q) hn hne hlen H locs lc hP hS hl)
    case le =>
      obtain ⟨x, r, rfl, h2⟩ := am_1_iff h.2
      obtain ⟨t, ht, h3, h4⟩ := am_tgt h2
      exact lv_if_le hx hb (by rw [hdg, h.1]) ht (fun q => hK _ _ _ _ _ (h3 q) hn hne hlen H locs lc hP hS hl) (fun q => hK _ _ _ _ _ (h4 q) hn hne hlen H locs lc hP hS hl)
  case if_icmp cd off =>
    cases cd
    case eq =>
      obtain ⟨x, y, r, rfl, h2⟩ := am_2_iff h.2
      obtain ⟨t, ht, h3, h4⟩ := am_tgt h2
      exact lv_icmp_eq hx hb (by rw [hdg, h.1]) ht (fun q => hK _ _ _ _ _ (h3 q) hn hne hlen H locs lc hP hS hl) (fun q => hK _ _ _ _ _ (h4 q) hn hne hlen H locs lc hP hS hl)
    case ne =>
      obtain ⟨x, y, r, rfl, h2⟩ := am_2_iff h.2
      obtain ⟨t, ht, h3, h4⟩ := am_tgt h2
      exact lv_icmp_ne hx hb (by rw [hdg, h.1]) ht (fun q => hK _ _ _ _ _ (h3 q) hn hne hlen H locs lc hP hS hl) (fun q => hK _ _ _ _ _ (h4 q) hn hne hlen H locs lc hP hS hl)
    case lt =>
      obtain ⟨x, y, r, rfl, h2⟩ := am_2_iff h.2
      obtain ⟨t, ht, h3, h4⟩ := am_tgt h2
      exact lv_icmp_lt hx hb (by rw [hdg, h.1]) ht (fun q => hK _ _ _ _ _ (h3 q) hn hne hlen H locs lc hP hS hl) (fun q => hK _ _ _ _ _ (h4 q) hn hne hlen H locs lc hP hS hl)
    case ge =>
      obtain ⟨x, y, r, rfl, h2⟩ := am_2_iff h.2
      obtain ⟨t, ht, h3, h4⟩ := am_tgt h2
      exact lv_icmp_ge hx hb (by rw [hdg, h.1]) ht (fun q => hK _ _ _ _ _ (h3 q) hn hne hlen H locs lc hP hS hl) (fun q => hK _ _ _ _ _ (h4 q) hn hne hlen H locs lc hP hS hl)
    case gt =>
      obtain ⟨x, y, r, rfl, h2⟩ := am_2_iff h.2
      obtain ⟨t, ht, h3, h4⟩ := am_tgt h2
      exact lv_icmp_gt hx hb (by rw [hdg, h.1]) ht (fun q => hK _ _ _ _ _ (h3 q) hn hne hlen H locs lc hP hS hl) (fun q => hK _ _ _ _ _ (h4 q) hn hne hlen H locs lc hP hS hl)
    case le =>
      obtain ⟨x, y, r, rfl, h2⟩ := am_2_iff h.2
      obtain ⟨t, ht, h3, h4⟩ := am_tgt h2
      exact lv_icmp_le hx hb (by rw [hdg, h.1]) ht (fun q => hK _ _ _ _ _ (h3 q) hn hne hlen H locs lc hP hS hl) (fun q => hK _ _ _ _ _ (h4 q) hn hne hlen H locs lc hP hS hl)
  case goto off =>
    obtain ⟨t, ht, h3⟩ := am_tgt h.2
    exact lv_goto hx hb (by rw [hdg, h.1]) ht (hK _ _ _ _ _ h3 hn hne hlen H locs lc hP hS hl)
  case ireturn =>
    obtain ⟨h1, rfl, h2⟩ := h
    obtain ⟨x, r, rfl, rfl, h3, h4⟩ := am_1_iff h2
    have hq : ∀ t : State, t.heap = H → s.WarmedH t.vm → am_Qc cl (am_SH X) (am_KF X) D aC b n post args s (.returned (some (.int x))) t := fun t ht hW => ⟨⟨some (.int x), σ, rfl, h4, by rw [ht]; exact hP⟩, hS.F ht⟩
    unfold am_ri at h3
    split at h3
    · rename_i hrt
      exact W.zret (ty := .int) hx hb (by rw [hret, hrt]) rfl hq hS.2.2 (by rw [hdg, h1]) hlocks
    · rename_i hrt
      exact W.zret (ty := .boolean) hx hb (by rw [hret, hrt]) (by
        have h5 : x &&& 1 = x := h3
        show Value.int (x &&& 1) = _
        rw [h5]) hq hS.2.2 (by rw [hdg, h1]) hlocks
    · exact h3.elim
  case lreturn =>
    obtain ⟨h1, rfl, h2⟩ := h
    obtain ⟨x, r, rfl, rfl, h3, h4⟩ := am_1l_iff h2
    exact W.lret hx hb (by rw [hret, h3]) (fun t ht hW => ⟨⟨some (.long x), σ, rfl, h4, by rw [ht]; exact hP⟩, hS.F ht⟩) hS.2.2 (by rw [hdg, h1]) hlocks
  case return_ =>
    obtain ⟨h1, rfl, rfl, h3, h4⟩ := h
    exact W.vret hx hb (by rw [hret, h3]) (fun t ht hW => ⟨⟨none, σ, rfl, h4, by rw [ht]; exact hP⟩, hS.F ht⟩) hS.2.2 (by rw [hdg, h1]) hlocks
  case tableswitch dd lo hi offs =>
    obtain ⟨x, r, rfl, h1, h2, h3⟩ := am_1_iff h
    by_cases hq : x.toInt < lo ∨ hi < x.toInt
    · obtain ⟨t, ht, h4⟩ := am_tgt (h2 hq)
      exact lv_tableOut hx hb hdg hq ht (hK _ _ _ _ _ h4 hn hne hlen H locs lc hP hS hl)
    · obtain ⟨off, h4, h5⟩ := am_ts_ok h1 (by omega) (by rw [Array.length_toList]; omega)
      obtain ⟨t, ht, h6⟩ := am_tgt h5
      exact lv_tableIn hx hb hdg (fun z => hq (Or.inl z)) (fun z => hq (Or.inr z)) (by rw [← Array.getElem?_toList]; exact h4) ht (hK _ _ _ _ _ h6 hn hne hlen H locs lc hP hS hl)
  case lookupswitch dd ps =>
    obtain ⟨x, r, rfl, h1, h2⟩ := am_1_iff h
    obtain ⟨t, ht, h4⟩ := am_tgt (am_ls_ok h2)
    exact lv_lookup hx hb hdg h1 rfl ht (hK _ _ _ _ _ h4 hn hne hlen H locs lc hP hS hl)
  all_goals first | exact False.elim h | exact False.elim hbig
end
end
section
section
variable {p : Program} {l : Launch} {e : Env} {R : Room} {s : State} {m : MethodId} {args : Array Value} {below : List Frame} {meth : Method} {c : Code} {cl : List vw_C} {TB NB : List Cond} {D : va_G} {aC : Nat → ClassId} {b n0 ne nL : Nat} {cc : ByteArray} {own : String} {X : am_X} {post : Option Value → am_S → Prop}
theorem am_nth {aC : Nat → ClassId} {k : Nat} {ty : ArrayType} (h : am_ty k = some ty) : (am_tys aC)[k]? = some (aC k, newarray.typeOf ty) := by
  match k, h with
  | 0, h => cases h; rfl
  | 1, h => cases h; rfl
  | 2, h => cases h; rfl
  | 3, h => cases h; rfl
  | k + 4, h => simp [am_ty] at h
/-- the instructions that read and write cells -/
theorem am_mem {i : Instr} {len pc : Nat} {ls : List (Option Value)} {stk : List Value} {n : Nat} {σ : am_S} {K : Nat → List (Option Value) → List Value → Nat → am_S → Prop} (C : am_C p l R s m args meth c cl TB NB D aC b n0 ne nL cc own X) (hdg : decode cc pc = .ok (i, len))
    (hK : ∀ pc ls stk n σ, K pc ls stk n σ → am_A p l e R s m args below meth c cl D aC b n0 ne nL X post pc ls stk n σ)
    (hbig : match i with
      | .getfield _ => True
      | .putfield _ => True
      | .arraylength => True
      | .iaload => True
      | .baload => True
      | .laload => True
      | .iastore => True
      | .bastore => True
      | .lastore => True
      | _ => False)
    (h : am_one X ne post i len pc ls stk n σ K) : am_A p l e R s m args below meth c cl D aC b n0 ne nL X post pc ls stk n σ := by
  obtain ⟨hx, hb, hml, hown, hts, hnb, hKn, hlocks, hsz, hret, ⟨d, hd, hR, hO⟩, tyc, hG⟩ := C
  intro hn hne hlen H locs lc hP hS hl
  have hD : va_D (fun q => b ≤ q) (am_ws (am_SH X) (am_KF X) b aC n σ) := am_ws_D
  cases i
  case getfield ix =>
    obtain ⟨o, r, rfl, ho, h2⟩ := am_1a_iff h.2
    obtain ⟨q, hq, hs, h3⟩ := am_opt_iff.mp h2
    obtain ⟨kd, hkd, h4⟩ := am_opt_iff.mp h3
    obtain ⟨w, hc, hk, hlink⟩ := hO.1 _ (am_find_mem hq)
    exact va_get (D := D) (cl := cl) (C := w.1) (T := w.2.1) (N := w.2.2) hx hb hts (hG.1 _ _ hc).1 hown hKn hP o (am_ws_obj ho hs) hc q.2 hk (hts _ hlink) (fun _ h9 => h9) (v := am_c b (am_av kd (σ.1 o q.2) (σ.2 o q.2))) (by rw [List.getElem?_map, am_fs_at _ _ hkd]; rfl) (by rw [hdg, h.1]) (hK _ _ _ _ _ h4 hn hne hlen H locs lc hP hS hl)
  case putfield ix =>
    obtain ⟨v, r1, rfl, h1⟩ := am_v_iff h.2
    obtain ⟨o, r, rfl, ho, h2⟩ := am_1a_iff h1
    obtain ⟨q, hq, hs, h3⟩ := am_opt_iff.mp h2
    obtain ⟨kd, hkd, h4⟩ := am_opt_iff.mp h3
    obtain ⟨w, hc, hk, hlink, hfin⟩ := hO.2.1 _ (am_find_mem hq)
    obtain ⟨τ, h5, h6, h7, h8, h9, h10⟩ := am_pf_ok (SH := am_SH X) (KF := am_KF X) (b := b) (aC := aC) h4
    obtain ⟨w', hc', hlK, hkk⟩ := hG.2.1 _ _ hs
    have hww : w' = w := Option.some.inj (hc'.symm.trans hc)
    subst hww
    obtain ⟨h11, h12⟩ := h10 _ (hkk _ _ hkd)
    have hse : (.inr (q.1, ((am_fs (am_KF X o) (σ.1 o) (σ.2 o)).map (am_c b)).set q.2 (am_c b v)) : va_E) = am_cell (am_SH X) (am_KF X) b aC τ o := by
      have e1 : am_cell (am_SH X) (am_KF X) b aC τ o = .inr (q.1, (am_fs (am_KF X o) (τ.1 o) (τ.2 o)).map (am_c b)) := by simp [am_cell, hs]
      rw [e1, am_fs_set hkd h7 h8, h9, List.map_set]
    have hty := (hG.1 _ _ hc).2.1 q.2 hk
    have hlf : q.2 < ((am_fs (am_KF X o) (σ.1 o) (σ.2 o)).map (am_c b)).length := by rw [List.length_map, am_fs_len, hlK]; exact hk
    have kk : ∀ (H1 : Heap) (locs1 : List Loc), va_P D cl ((am_ws (am_SH X) (am_KF X) b aC n σ).set o (b + o, .inr (q.1, ((am_fs (am_KF X o) (σ.1 o) (σ.2 o)).map (am_c b)).set q.2 (am_c b v)))) H1 → va_D (fun q => b ≤ q) ((am_ws (am_SH X) (am_KF X) b aC n σ).set o (b + o, .inr (q.1, ((am_fs (am_KF X o) (σ.1 o) (σ.2 o)).map (am_c b)).set q.2 (am_c b v)))) → va_S (fun q => b ≤ q) s.heap H1 locs1 →
        W p l e R s m args below meth c H1 locs1 (n - n0) (am_sz (am_SH X) (am_KF X) n - am_sz (am_SH X) (am_KF X) n0) (MQ below (am_Qc cl (am_SH X) (am_KF X) D aC b ne post) args s (ne - n0) (am_sz (am_SH X) (am_KF X) ne - am_sz (am_SH X) (am_KF X) n0) (fun q => b ≤ q)) (F0 m (pc + 3) lc (r.map (am_c b))) := by
      intro H1 locs1 p1 p2 p3
      rw [am_ws_set ho hse h6] at p1
      exact hK _ _ _ _ _ h5 hn hne hlen H1 locs1 lc p1 p3 hl
    rcases hfin with hfin | ⟨hfin, hin, hdecl⟩
    · exact va_put (D := D) (cl := cl) (C := w'.1) (T := w'.2.1) (N := w'.2.2) hx hb hts (hG.1 _ _ hc).1 (tyc q.1) (hG.1 _ _ hc).2.1 (hG.1 _ _ hc).2.2 hown hKn hP hD hS o (am_ws_obj ho hs) hc q.2 hk (hts _ hlink) (fun _ h9 => h9) hfin hty h11 h12 hlf (by rw [hdg, h.1]) kk
    · exact va_putF (D := D) (cl := cl) (C := w'.1) (T := w'.2.1) (N := w'.2.2) hx hb hts (hG.1 _ _ hc).1 (tyc q.1) (hG.1 _ _ hc).2.1 (hG.1 _ _ hc).2.2 hown hKn hP hD hS o (am_ws_obj ho hs) hc q.2 hk (hts _ hlink) (fun _ h9 => h9) hfin hin hdecl hty h11 h12 hlf (by rw [hdg, h.1]) kk
  case arraylength =>
    obtain ⟨o, r, rfl, ho, h2⟩ := am_1a_iff h.2
    obtain ⟨q, hs, h3, h4⟩ := am_arr_iff h2
    have kk := hK _ _ _ _ _ h4 hn hne hlen H locs lc hP hS hl
    by_cases h5 : q.1 = 3
    · exact va_alen (D := D) (cl := cl) hx hb hKn hP o 3 (am_ws_arl ho hs h5) (ty := .long) rfl rfl (by rw [hdg, h.1]) kk
    · have h6 : q.1 = 0 ∨ q.1 = 1 ∨ q.1 = 2 := by omega
      rcases h6 with h6 | h6 | h6
      · exact va_alen (D := D) (cl := cl) hx hb hKn hP o 0 (am_ws_arr ho hs h5) (ty := .int) (by rw [h6]; rfl) rfl (by rw [hdg, h.1]) kk
      · exact va_alen (D := D) (cl := cl) hx hb hKn hP o 1 (am_ws_arr ho hs h5) (ty := .byte) (by rw [h6]; rfl) rfl (by rw [hdg, h.1]) kk
      · exact va_alen (D := D) (cl := cl) hx hb hKn hP o 2 (am_ws_arr ho hs h5) (ty := .boolean) (by rw [h6]; rfl) rfl (by rw [hdg, h.1]) kk
  case iaload =>
    obtain ⟨x, o, r, rfl, ho, h2⟩ := am_ix_iff h.2
    obtain ⟨q, hs, h3, h4, h5⟩ := am_arr_iff h2
    exact va_iald (D := D) (cl := cl) hx hb hKn hP o 0 (am_ws_arr ho hs (by omega)) (by rw [h3]; rfl) h4 (by rw [hdg, h.1]) (hK _ _ _ _ _ h5 hn hne hlen H locs lc hP hS hl)
  case baload =>
    obtain ⟨x, o, r, rfl, ho, h2⟩ := am_ix_iff h.2
    obtain ⟨q, hs, h3, h4, h5⟩ := am_arr_iff h2
    rcases h3 with h3 | h3
    · exact va_bald (D := D) (cl := cl) hx hb hKn hP o 1 (am_ws_arr ho hs (by omega)) (by rw [h3]; rfl) h4 (by rw [hdg, h.1]) (hK _ _ _ _ _ h5 hn hne hlen H locs lc hP hS hl)
    · exact va_zald (D := D) (cl := cl) hx hb hKn hP o 2 (am_ws_arr ho hs (by omega)) (by rw [h3]; rfl) h4 (by rw [hdg, h.1]) (hK _ _ _ _ _ h5 hn hne hlen H locs lc hP hS hl)
  case laload =>
    obtain ⟨x, o, r, rfl, ho, h2⟩ := am_ix_iff h.2
    obtain ⟨q, hs, h3, h4, h5⟩ := am_arr_iff h2
    exact va_lald (D := D) (cl := cl) hx hb hKn hP o 3 (am_ws_arl ho hs h3) rfl h4 (by rw [hdg, h.1]) (hK _ _ _ _ _ h5 hn hne hlen H locs lc hP hS hl)
  case iastore =>
    obtain ⟨v, r1, rfl, h1⟩ := am_1_iff h.2
    obtain ⟨x, o, r, rfl, ho, h2⟩ := am_ix_iff h1
    obtain ⟨q, hs, h3, h4, h5⟩ := am_arr_iff h2
    refine va_iast (D := D) (cl := cl) hx hb hKn hP hD hS o 0 (am_ws_arr ho hs (by omega)) (by rw [h3]; rfl) h4 (by rw [hdg, h.1]) fun H1 locs1 p1 p2 p3 => ?_
    rw [am_ws_set ho (am_upd_cell hs (by omega)) (fun i hi => am_pi_ne hi)] at p1
    exact hK _ _ _ _ _ h5 hn hne hlen H1 locs1 lc p1 p3 hl
  case bastore =>
    obtain ⟨v, r1, rfl, h1⟩ := am_1_iff h.2
    obtain ⟨x, o, r, rfl, ho, h2⟩ := am_ix_iff h1
    obtain ⟨q, hs, h3, h4, h5⟩ := am_arr_iff h2
    rcases h3 with h3 | h3
    · refine va_bast (D := D) (cl := cl) hx hb hKn hP hD hS o 1 (am_ws_arr ho hs (by omega)) (by rw [h3]; rfl) h4 (by rw [hdg, h.1]) fun H1 locs1 p1 p2 p3 => ?_
      rw [am_ws_set ho (am_upd_cell hs (by omega)) (fun i hi => am_pi_ne hi)] at p1
      rw [if_pos h3] at h5
      exact hK _ _ _ _ _ h5 hn hne hlen H1 locs1 lc p1 p3 hl
    · refine va_zast (D := D) (cl := cl) hx hb hKn hP hD hS o 2 (am_ws_arr ho hs (by omega)) (by rw [h3]; rfl) h4 (by rw [hdg, h.1]) fun H1 locs1 p1 p2 p3 => ?_
      rw [am_ws_set ho (am_upd_cell hs (by omega)) (fun i hi => am_pi_ne hi)] at p1
      rw [if_neg (by omega)] at h5
      exact hK _ _ _ _ _ h5 hn hne hlen H1 locs1 lc p1 p3 hl
  case lastore =>
    obtain ⟨v, r1, rfl, h1⟩ := am_1l_iff h.2
    obtain ⟨x, o, r, rfl, ho, h2⟩ := am_ix_iff h1
    obtain ⟨q, hs, h3, h4, h5⟩ := am_arr_iff h2
    refine va_last (D := D) (cl := cl) hx hb hKn hP hD hS o 3 (am_ws_arl ho hs h3) rfl h4 (by rw [hdg, h.1]) fun H1 locs1 p1 p2 p3 => ?_
    rw [am_ws_set ho (am_upd_celll hs h3) (fun i hi => am_pl_ne hi)] at p1
    exact hK _ _ _ _ _ h5 hn hne hlen H1 locs1 lc p1 p3 hl
  all_goals exact False.elim hbig
end
end
section
section
variable {p : Program} {l : Launch} {e : Env} {R : Room} {s : State} {m : MethodId} {args : Array Value} {below : List Frame} {meth : Method} {c : Code} {cl : List vw_C} {TB NB : List Cond} {D : va_G} {aC : Nat → ClassId} {b n0 ne nL : Nat} {cc : ByteArray} {own : String} {X : am_X} {post : Option Value → am_S → Prop}
/-- where a new cell lies -/
theorem am_addr {SH : am_Sh} {KF : am_Kf} {H : Heap} {locs : List Loc} {n slots a : Nat} {en : va_E} {Q : State → Prop} {g : JFrame} {σ : am_S} (hP : va_P D cl (am_ws SH KF b aC n σ ++ [(a, en)]) H) (hD : va_D (fun q => b ≤ q) (am_ws SH KF b aC n σ ++ [(a, en)])) (hsz : s.heap.size = b + n0) (hn : n0 ≤ n) (k : a = b + n → W p l e R s m args below meth c H locs (n - n0 + 1) slots Q g) : W p l e R s m args below meth c H locs (n - n0 + 1) slots Q g := by
  intro T hT X
  refine k ?_ T hT X
  have h1 : T.heap.size ≤ s.heap.size + (n - n0 + 1) := X.heapSize
  rw [hT, hsz] at h1
  have hn' : (am_ws SH KF b aC n σ ++ [(a, en)])[n]? = some (a, en) := by
    rw [List.getElem?_append_right (by rw [am_ws_len]; exact Nat.le_refl _), am_ws_len, Nat.sub_self]; rfl
  have h2 : a < H.size := (hP n _ hn').lt
  have h3 : b ≤ a := hD.2 n _ hn'
  rcases Nat.lt_or_ge a (b + n) with q | q
  · exfalso
    have h4 : a - b < n := by omega
    have h5 : (am_ws SH KF b aC n σ ++ [(a, en)])[a - b]? = some (b + (a - b), am_cell SH KF b aC σ (a - b)) := by
      rw [List.getElem?_append_left (by rw [am_ws_len]; exact h4), am_ws_at h4]
    have h6 := hD.1 (a - b) n _ _ h5 hn' (by show b + (a - b) = a; omega)
    omega
  · omega
theorem am_new_fs : ∀ (kds : List Nat), kds.all (fun kd => decide (kd < 4)) = true → ∀ (b : Nat) (ty : Nat → FieldType) (j : Nat), j < kds.length → (∀ k kd, kds[k]? = some kd → min kd 3 = am_tk (ty k)) → defaultValue (ty j) = vp_V ((am_fs kds (fun _ => 0) (fun _ => 0)).map (am_c b)) j := by
  intro kds hall b ty j hj hk
  have h1 : kds[j]? = some kds[j] := List.getElem?_eq_getElem hj
  have h2 := hk _ _ h1
  have h3 : kds[j] < 4 := by
    have := List.all_eq_true.mp hall kds[j] (List.getElem_mem hj)
    simpa using this
  have h4 : vp_V ((am_fs kds (fun _ => 0) (fun _ => 0)).map (am_c b)) j = am_c b (am_av kds[j] 0 0) := by
    unfold vp_V
    rw [List.getD_eq_getElem?_getD, List.getElem?_map, am_fs_at _ _ h1]
    rfl
  rw [h4]
  have h5 : kds[j] = 0 ∨ kds[j] = 1 ∨ kds[j] = 2 ∨ kds[j] = 3 := by omega
  rcases h5 with h5 | h5 | h5 | h5 <;> rw [h5] at h2 ⊢ <;> cases hty : ty j <;> rw [hty] at h2 <;> first | rfl | (simp [am_tk] at h2)
/-- the instructions that make cells -/
theorem am_make {i : Instr} {len pc : Nat} {ls : List (Option Value)} {stk : List Value} {n : Nat} {σ : am_S} {K : Nat → List (Option Value) → List Value → Nat → am_S → Prop} (C : am_C p l R s m args meth c cl TB NB D aC b n0 ne nL cc own X) (hdg : decode cc pc = .ok (i, len))
    (hK : ∀ pc ls stk n σ, K pc ls stk n σ → am_A p l e R s m args below meth c cl D aC b n0 ne nL X post pc ls stk n σ)
    (hbig : match i with
      | .newarray _ => True
      | .new _ => True
      | _ => False)
    (h : am_one X ne post i len pc ls stk n σ K) : am_A p l e R s m args below meth c cl D aC b n0 ne nL X post pc ls stk n σ := by
  obtain ⟨hx, hb, hml, hown, hts, hnb, hKn, hlocks, hsz, hret, ⟨d, hd, hR, hO⟩, tyc, hG⟩ := C
  intro hn hne hlen H locs lc hP hS hl
  have hD : va_D (fun q => b ≤ q) (am_ws (am_SH X) (am_KF X) b aC n σ) := am_ws_D
  have hA : ∀ q, s.heap.size ≤ q → (fun q => b ≤ q) q := fun q hq => by show b ≤ q; omega
  cases i
  case newarray ty =>
    obtain ⟨x, r, rfl, h1, h2⟩ := am_1_iff h.2
    obtain ⟨q, hs, h3, h4, h5, h6, h7⟩ := am_arr_iff h2
    have hz : am_sz (am_SH X) (am_KF X) (n + 1) = am_sz (am_SH X) (am_KF X) n + q.2 := by simp [am_sz, hs]
    have hz1 : am_sz (am_SH X) (am_KF X) (n + 1) ≤ am_sz (am_SH X) (am_KF X) ne := am_sz_le (by omega)
    have hz2 : am_sz (am_SH X) (am_KF X) n0 ≤ am_sz (am_SH X) (am_KF X) n := am_sz_le hn
    have hsub : am_sz (am_SH X) (am_KF X) (n + 1) - am_sz (am_SH X) (am_KF X) n0 = am_sz (am_SH X) (am_KF X) n - am_sz (am_SH X) (am_KF X) n0 + q.2 := by omega
    refine va_newa (D := D) (cl := cl) (tys := am_tys aC) (ty := newarray.typeOf ty) (N' := q.2) (a0 := (q.2, if q.1 = 3 then .inr (.inl (fun _ => 0)) else .inl (fun _ => 0))) hx hb (hts _ (hG.2.2 _ _ h3)) rfl hKn hP hD hS hA ?_ h4 h5 ?_ (by rw [hR]; show _ ≤ ne - n0; omega) (by rw [hR]; show _ ≤ am_sz (am_SH X) (am_KF X) ne - am_sz (am_SH X) (am_KF X) n0; omega) (by rw [hdg, h.1]) (fun a cA H1 k1 p1 d1 s1 => ?_)
    · intro cA
      match hq1 : q.1, h3 with
      | 0, h3 => cases h3; rfl
      | 1, h3 => cases h3; rfl
      | 2, h3 => cases h3; rfl
      | 3, h3 => cases h3; rfl
      | k + 4, h3 => simp [am_ty] at h3
    · have : componentBytes (newarray.typeOf ty) ≤ 8 := by cases ty <;> decide
      exact Nat.le_trans (Nat.mul_le_mul (Nat.le_of_lt h6) this) (by decide)
    · refine am_addr p1 d1 hsz hn fun ha => ?_
      subst ha
      have hcA : cA = aC q.1 := by
        have e1 := (k1.2 4 (cA, newarray.typeOf ty) (by rfl)).2
        have e2 := (hKn.2 q.1 _ (am_nth h3)).2
        cases ty <;> exact Option.some.inj (e1.symm.trans e2)
      subst hcA
      have h8 := hK _ _ _ _ _ h7 (by omega) (by omega) hlen H1 locs lc
      rw [show n + 1 - n0 = n - n0 + 1 by omega, hsub] at h8
      refine h8 ?_ s1 hl
      rw [am_ws_push (τ := am_new σ n) ?_ (fun i hi => am_new_ne (by omega))] at p1
      · exact p1
      · simp only [am_cell, hs, am_new]
        by_cases h9 : q.1 = 3
        · simp [h9]
        · simp [h9]
  case new ix =>
    obtain ⟨h1, h2, h3⟩ := h
    obtain ⟨ci, h4, hs, h5, h6⟩ := am_opt_iff.mp h3
    obtain ⟨w, hc, hcl, hins, hini⟩ := hO.2.2.1 _ (am_find_mem h4)
    obtain ⟨w', hc', hlK, hkk⟩ := hG.2.1 _ _ hs
    have hww : w' = w := Option.some.inj (hc'.symm.trans hc)
    subst hww
    have hz : am_sz (am_SH X) (am_KF X) (n + 1) = am_sz (am_SH X) (am_KF X) n + w'.2.2 := by simp [am_sz, hs, hlK]
    have hz1 : am_sz (am_SH X) (am_KF X) (n + 1) ≤ am_sz (am_SH X) (am_KF X) ne := am_sz_le (by omega)
    have hz2 : am_sz (am_SH X) (am_KF X) n0 ≤ am_sz (am_SH X) (am_KF X) n := am_sz_le hn
    have hsub : am_sz (am_SH X) (am_KF X) (n + 1) - am_sz (am_SH X) (am_KF X) n0 = am_sz (am_SH X) (am_KF X) n - am_sz (am_SH X) (am_KF X) n0 + w'.2.2 := by omega
    refine va_new (D := D) (cl := cl) (ci := ci) (fs := (am_fs (am_KF X n) (fun _ => 0) (fun _ => 0)).map (am_c b)) (C := w'.1) (T := w'.2.1) (N := w'.2.2) hx hb hts (hG.1 _ _ hc).1 (tyc ci) (hG.1 _ _ hc).2.1 hown (hts _ hcl) (hts _ hins) (hts _ hini) hKn hP hD hS hA hc (fun j hj => am_new_fs _ h5 b (tyc ci) j (by rw [hlK]; exact hj) hkk) (by rw [hR]; show _ ≤ ne - n0; omega) (by rw [hR]; show _ ≤ am_sz (am_SH X) (am_KF X) ne - am_sz (am_SH X) (am_KF X) n0; omega) (by rw [hdg, h1]) (fun a H1 p1 d1 s1 => ?_)
    refine am_addr p1 d1 hsz hn fun ha => ?_
    subst ha
    have h8 := hK _ _ _ _ _ h6 (by omega) (by omega) hlen H1 locs lc
    rw [show n + 1 - n0 = n - n0 + 1 by omega, hsub] at h8
    refine h8 ?_ s1 hl
    rw [am_ws_push (τ := am_new σ n) ?_ (fun i hi => am_new_ne (by omega))] at p1
    · exact p1
    · simp only [am_cell, hs, am_new]
      simp
  all_goals exact False.elim hbig
end
end
section
section
variable {p : Program} {l : Launch} {e : Env} {R : Room} {s : State} {m : MethodId} {args : Array Value} {below : List Frame} {meth : Method} {c : Code} {cl : List vw_C} {TB NB : List Cond} {D : va_G} {aC : Nat → ClassId} {b n0 ne nL : Nat} {cc : ByteArray} {own : String} {X : am_X} {post : Option Value → am_S → Prop}
theorem am_cats {b : Nat} (r : List Value) : ((r.map (am_c b)).map fun v => v.category) = r.map fun v => v.category := by
  rw [List.map_map]
  apply List.map_congr_left
  intro v _
  exact am_c_cat b v
theorem am_blind {SH : am_Sh} {KF : am_Kf} {n : Nat} {as : List Value} {σ : am_S} : FrameBlind (am_Pc cl NB SH KF D aC b n as σ) := fun a U g mk q => by
  obtain ⟨q0, q1, qP, qK, qN⟩ := q
  exact ⟨q0, q1, qP, va_K.moved (u := U) (U := U.calling g mk a) (Vm.Alike.refl U.vm) qK, fun a' i x h hm => va_Nw.same (u := U) (U := U.calling g mk a) rfl rfl (qN a' i x h hm)⟩
theorem am_pre {SH : am_Sh} {KF : am_Kf} {n : Nat} {as : List Value} {σ : am_S} {H : Heap} (hz : H.size = b + n) (hP : va_P D cl (am_ws SH KF b aC n σ) H) (hK : va_K D cl (am_tys aC) s) (hN : am_Nw NB s) : ∀ U : State, U.heap = H → s.WarmedH U.vm → am_Pc cl NB SH KF D aC b n as σ (as.map (am_c b)).toArray U :=
  fun U hU hW => ⟨rfl, by rw [hU]; exact hz, by rw [hU]; exact hP, va_K.moved hW.alike hK, fun a' i x h hm => (hN a' i x h hm).warmM hW⟩
theorem am_words (hts : ∀ w ∈ TB, w.before args s = true) {y : MethodName} {bytes : ByteArray} {maxL : Nat} {ret : Option FieldType} (hc : Cond.code y bytes maxL ret ∈ TB) : ∀ w ∈ Cond.code y bytes maxL ret :: am_gb TB, ∀ (a' : Array Value) (U : State), s.WarmedH U.vm → w.before a' U = true := by
  intro w hw a' U hW
  rcases List.mem_cons.mp hw with rfl | hw
  · exact word_at hW (Or.inl (by first | rfl | simp [Cond.onTables, Cond.keeps, Cond.steady])) (hts _ hc)
  · obtain ⟨h1, h2⟩ := List.mem_filter.mp hw
    exact word_at hW (good_of_word h2) (hts _ h1)
theorem am_code_in {y : MethodName} {bytes : ByteArray} {maxL : Nat} {ret : Option FieldType} : Cond.code y bytes maxL ret ∈ Cond.code y bytes maxL ret :: am_gb TB := List.mem_cons_self
theorem am_sig {y : MethodName} {na : Nat} (h : (parseMethodDescriptor y.desc).map (fun d => d.parameters.length) = some na) : ∀ sig, parseMethodDescriptor y.desc = some sig → na = sig.parameters.length := by
  intro sig hs
  rw [hs] at h
  exact (Option.some.inj h).symm
theorem am_rcV {kind cls n : Nat} {SH : am_Sh} {as : List Value} (h : am_rc kind cls n SH as) (h1 : ¬ kind = 1) (h4 : ¬ kind = 4) : ∃ o As, as = .ref o :: As ∧ o < n ∧ SH o = .inl cls := by
  unfold am_rc at h
  split at h
  · exact absurd rfl h1
  · exact absurd rfl h4
  · split at h
    · exact ⟨_, _, rfl, h.1, h.2⟩
    · exact h.elim
theorem am_split {stk : List Value} {k : Nat} {as : List Value} (h : (stk.take k).reverse = as) : stk = as.reverse ++ stk.drop k := by
  rw [← h, List.reverse_reverse, List.take_append_drop]
theorem am_len_as {stk : List Value} {k : Nat} (h : k ≤ stk.length) : (stk.take k).reverse.length = k := by
  rw [List.length_reverse, List.length_take]; omega
/-- the instructions that call -/
theorem am_callI {i : Instr} {len pc : Nat} {ls : List (Option Value)} {stk : List Value} {n : Nat} {σ : am_S} {K : Nat → List (Option Value) → List Value → Nat → am_S → Prop} (C : am_C p l R s m args meth c cl TB NB D aC b n0 ne nL cc own X) (hdg : decode cc pc = .ok (i, len))
    (hK : ∀ pc ls stk n σ, K pc ls stk n σ → am_A p l e R s m args below meth c cl D aC b n0 ne nL X post pc ls stk n σ)
    (hbig : match i with
      | .invokevirtual _ => True
      | .invokestatic _ => True
      | .invokespecial _ => True
      | _ => False)
    (h : am_one X ne post i len pc ls stk n σ K) : am_A p l e R s m args below meth c cl D aC b n0 ne nL X post pc ls stk n σ := by
  obtain ⟨hx, hb, hml, hown, hts, hnb, hKn, hlocks, hsz, hret, ⟨d, hd, hR, hO⟩, tyc, hG⟩ := C
  intro hn hne hlen H locs lc hP hS hl
  have hfr1 : 1 ≤ R.frames := by rw [hR]; exact hd
  have hloc : 64 ≤ R.locals := by rw [hR]; show 64 ≤ 64 * d; omega
  have hcs : n - n0 ≤ R.cells := by rw [hR]; show n - n0 ≤ ne - n0; omega
  have hss : am_sz (am_SH X) (am_KF X) n - am_sz (am_SH X) (am_KF X) n0 ≤ R.slots := by rw [hR]; show _ ≤ am_sz (am_SH X) (am_KF X) ne - am_sz (am_SH X) (am_KF X) n0; have := am_sz_le (SH := am_SH X) (KF := am_KF X) hne; omega
  have fx : CallFix p m c cc nL s args TB own := ⟨hx, hb, hml, hown, hts⟩
  have hz2 : am_sz (am_SH X) (am_KF X) n0 ≤ am_sz (am_SH X) (am_KF X) n := am_sz_le hn
  refine am_size hP hS hsz hn rfl fun hzH => ?_
  -- a call that makes cells: what the caller's room has for it
  have room : ∀ mc ms : Nat, n + mc ≤ ne → am_sz (am_SH X) (am_KF X) (n + mc) = am_sz (am_SH X) (am_KF X) n + ms → n - n0 + mc ≤ R.cells ∧ am_sz (am_SH X) (am_KF X) n - am_sz (am_SH X) (am_KF X) n0 + ms ≤ R.slots := by
    intro mc ms g1 g2
    have := am_sz_le (SH := am_SH X) (KF := am_KF X) g1
    constructor
    · rw [hR]; show _ ≤ ne - n0; omega
    · rw [hR]; show _ ≤ am_sz (am_SH X) (am_KF X) ne - am_sz (am_SH X) (am_KF X) n0; omega
  have back : ∀ (mc ms k : Nat), n + mc ≤ ne → am_sz (am_SH X) (am_KF X) (n + mc) = am_sz (am_SH X) (am_KF X) n + ms → ∀ (v : Option Value) (τ : am_S) (H1 : Heap) (locs1 : List Loc), K (pc + 3) ls (v.toList ++ stk.drop k) (n + mc) τ → va_P D cl (am_ws (am_SH X) (am_KF X) b aC (n + mc) τ) H1 → va_S (fun q => b ≤ q) s.heap H1 locs1 →
      W p l e R s m args below meth c H1 locs1 (n - n0 + mc) (am_sz (am_SH X) (am_KF X) n - am_sz (am_SH X) (am_KF X) n0 + ms) (MQ below (am_Qc cl (am_SH X) (am_KF X) D aC b ne post) args s (ne - n0) (am_sz (am_SH X) (am_KF X) ne - am_sz (am_SH X) (am_KF X) n0) (fun q => b ≤ q)) (F0 m (pc + 3) lc ((v.map (am_c b)).toList ++ (stk.drop k).map (am_c b))) := by
    intro mc ms k g1 g2 v τ H1 locs1 g3 g4 g5
    have g6 := hK _ _ _ _ _ g3 (by omega) g1 hlen H1 locs1 lc g4 g5 hl
    rw [show n + mc - n0 = n - n0 + mc by omega, show am_sz (am_SH X) (am_KF X) (n + mc) - am_sz (am_SH X) (am_KF X) n0 = am_sz (am_SH X) (am_KF X) n - am_sz (am_SH X) (am_KF X) n0 + ms by omega] at g6
    have g7 : (v.toList ++ stk.drop k).map (am_c b) = (v.map (am_c b)).toList ++ (stk.drop k).map (am_c b) := by cases v <;> simp
    rw [g7] at g6
    exact g6
  cases i
  case invokevirtual ix =>
    obtain ⟨h0, h⟩ := h
    cases hN : am_find (am_NT X) ix with
    | some w =>
      rw [hN] at h
      exfalso
      have h : am_nat w 2 stk n (am_SH X) σ (fun st σ1 => K (pc + 3) ls st n σ1) := h
      unfold am_nat at h
      split at h <;> first | (rename_i e2; cases e2) | exact h
    | none =>
      rw [hN] at h
      obtain ⟨q, hq, h1, h2, h3, h4, h5, h6, h7⟩ := am_opt_iff.mp h
      obtain ⟨y, bytes, maxL, rt, dd, na, hM, hdd, hmx, hcode, hini, hd3, hkind⟩ := hO.2.2.2.2.2.2 _ (am_find_mem hq)
      obtain ⟨k, na1, cls, mc, ms, sp⟩ := q
      have hk : k = 0 := by
        have : k = 0 ∨ k = 3 := by simpa using h1
        rcases this with z | z
        · exact z
        · subst z; exact hkind.elim
      subst hk
      obtain ⟨e1, hlink, hinst, r, hr, hsel⟩ := hkind
      obtain ⟨o, As, e2, ho, hso⟩ := am_rcV h3 (fun z => by cases (show (0 : Nat) = 1 from z)) (fun z => by cases (show (0 : Nat) = 4 from z))
      have e3 := am_split e2
      have hl3 := am_len_as h2
      rw [e2] at hl3
      have hstk : stk.map (am_c b) = (As.map (am_c b)).reverse ++ .ref (b + o) :: (stk.drop na1).map (am_c b) := by
        have e4 : stk.map (am_c b) = ((Value.ref o :: As).reverse ++ stk.drop na1).map (am_c b) := by rw [← e3]
        rw [e4]; simp [am_c]
      have hMet := hM D aC b n _ σ _ h7 h6
      rw [e2] at hMet
      rw [hstk]
      exact am_call (va_runV (As := As.map (am_c b)) (rest := (stk.drop na1).map (am_c b)) (C := r.1) (n := na) fx hMet ⟨⟨rfl, rfl, by rw [hR]; exact hdd, by rw [hR]; show 8 + (maxL + 11) + 64 * dd ≤ 64 * d; omega, am_words hts hcode, am_code_in, hts _ hcode, hts _ hini, ⟨hd3.1, hd3.2.1⟩, am_sig hd3.2.2, hts _ hlink⟩, hts _ hinst, hts _ hsel⟩
        ⟨am_blind, va_recv hKn hP hr (am_ws_obj ho hso), am_pre hzH hP hKn hnb⟩ rfl (by rw [List.length_map]; simp at hl3; simp at e1; omega) hl.1 rfl (lv_room (by rw [am_cats]; exact h4)) (by rw [hdg, h0]) (room _ _ h5 h6)) hS (back _ _ na1 h5 h6)
  case invokestatic ix =>
    obtain ⟨h0, h⟩ := h
    cases hN : am_find (am_NT X) ix with
    | some w =>
      rw [hN] at h
      have hNO := hO.2.2.2.2.2.1 _ (am_find_mem hN)
      have h : am_nat w 1 stk n (am_SH X) σ (fun st σ1 => K (pc + 3) ls st n σ1) := h
      unfold am_nat at h
      split at h
      · obtain ⟨x, y, r, rfl, h1, h2⟩ := am_2_iff h
        obtain ⟨g1, g2, g3, g4⟩ := hNO
        exact va_mmax hx hb (hml.trans hl.1.symm) hown (hts _ g1) (hts _ g2) (hts _ g3) (hts _ g4) hfr1 (by rw [am_cats]; omega) hcs hss (by rw [hdg, h0]) (hK _ _ _ _ _ h2 hn hne hlen H locs lc hP hS hl)
      · obtain ⟨x, y, r, rfl, h1, h2⟩ := am_2_iff h
        obtain ⟨g1, g2, g3, g4⟩ := hNO
        exact va_mmin hx hb (hml.trans hl.1.symm) hown (hts _ g1) (hts _ g2) (hts _ g3) (hts _ g4) hfr1 (by rw [am_cats]; omega) hcs hss (by rw [hdg, h0]) (hK _ _ _ _ _ h2 hn hne hlen H locs lc hP hS hl)
      · obtain ⟨x, r, rfl, h1, h2⟩ := am_1_iff h
        obtain ⟨g1, g2, g3, g4⟩ := hNO
        exact va_mabs hx hb (hml.trans hl.1.symm) hown (hts _ g1) (hts _ g2) (hts _ g3) (hts _ g4) hfr1 (by rw [am_cats]; omega) hcs hss (by rw [hdg, h0]) (hK _ _ _ _ _ h2 hn hne hlen H locs lc hP hS hl)
      · rename_i e2; cases e2
      · split at h
        · rename_i mm dp dst sp src r _
          obtain ⟨h1, h2, h3⟩ := h
          obtain ⟨q, hs, h4, h5⟩ := am_arr_iff h3
          obtain ⟨q2, hs2, h6, h7, h8, h9, h10, h11, h12, h13⟩ := am_arr_iff h5
          obtain ⟨g1, g2, g3, g4⟩ := hNO
          refine va_copyi (D := D) (cl := cl) (ty := .int) hx hb (hml.trans hl.1.symm) hown (hts _ g1) (hts _ g2) (hts _ g3) (hts _ g4) hKn hP am_ws_D hS src dst 0 0 (am_ws_arr h1 hs (by omega)) (am_ws_arr h2 hs2 (by omega)) (by rw [h4]; rfl) (by rw [h6]; rfl) rfl h7 h8 h9 h10 h11 (fun _ _ => rfl) hfr1 ?_ (by rw [hdg, h0]) (fun H1 locs1 p1 d1 s1 => ?_)
          · rw [am_cats]
            have : nativeFrameWords "java/lang/System" "arraycopy" 5 = 7 := by decide +kernel
            omega
          · rw [am_ws_set (τ := (fun o' k' => if o' = dst then va_cpy (σ.1 src) (σ.1 dst) sp.toNatClampNeg dp.toNatClampNeg mm.toNatClampNeg k' else σ.1 o' k', σ.2)) h2 ?_ ?_] at p1
            · exact hK _ _ _ _ _ h13 hn hne hlen H1 locs1 lc p1 s1 hl
            · simp [am_cell, hs2, h6]
            · intro i hi
              have e5 : (fun k' => if i = dst then va_cpy (σ.1 src) (σ.1 dst) sp.toNatClampNeg dp.toNatClampNeg mm.toNatClampNeg k' else σ.1 i k') = σ.1 i := by funext j; simp [hi]
              simp only [am_cell, e5]
        · exact h.elim
      · exact h.elim
    | none =>
      rw [hN] at h
      obtain ⟨q, hq, h1, h2, h3, h4, h5, h6, h7⟩ := am_opt_iff.mp h
      obtain ⟨y, bytes, maxL, rt, dd, na, hM, hdd, hmx, hcode, hini, hd3, hkind⟩ := hO.2.2.2.2.2.2 _ (am_find_mem hq)
      obtain ⟨k, na1, cls, mc, ms, sp⟩ := q
      have hl3 := am_len_as h2
      have e3 := am_split (stk := stk) (k := na1) rfl
      have hstk : stk.map (am_c b) = (((stk.take na1).reverse).map (am_c b)).reverse ++ (stk.drop na1).map (am_c b) := by
        have e4 : stk.map (am_c b) = (((stk.take na1).reverse).reverse ++ stk.drop na1).map (am_c b) := by rw [← e3]
        rw [e4, List.map_append, List.map_reverse]
      have hMet := hM D aC b n _ σ _ h7 h6
      have hk : k = 1 ∨ k = 4 := by simpa using h1
      rcases hk with rfl | rfl
      · obtain ⟨e1, hlink, hstat⟩ := hkind
        rw [hstk]
        exact am_call (va_runS (As := ((stk.take na1).reverse).map (am_c b)) (rest := (stk.drop na1).map (am_c b)) (n := na) fx hMet ⟨⟨rfl, rfl, by rw [hR]; exact hdd, by rw [hR]; show 8 + (maxL + 11) + 64 * dd ≤ 64 * d; omega, am_words hts hcode, am_code_in, hts _ hcode, hts _ hini, ⟨hd3.1, hd3.2.1⟩, am_sig hd3.2.2, hts _ hlink⟩, hts _ hstat⟩
          ⟨am_blind, am_pre hzH hP hKn hnb⟩ rfl (by rw [List.length_map, hl3]; exact e1) hl.1 rfl (lv_room (by rw [am_cats]; exact h4)) (by rw [hdg, h0]) (room _ _ h5 h6)) hS (back _ _ na1 h5 h6)
      · obtain ⟨e1, ⟨host, hlink⟩, hstat⟩ := hkind
        rw [hstk]
        exact am_call (va_runSN (As := ((stk.take na1).reverse).map (am_c b)) (rest := (stk.drop na1).map (am_c b)) (n := na) fx hMet ⟨⟨⟨rfl, rfl, by rw [hR]; exact hdd, by rw [hR]; show 8 + (maxL + 11) + 64 * dd ≤ 64 * d; omega, am_words hts hcode, am_code_in⟩, hts _ hcode, hts _ hini, ⟨hd3.1, hd3.2.1⟩, am_sig hd3.2.2, va_Nw.use rfl (hnb _ _ _ _ hlink)⟩, hts _ hstat, trivial⟩
          ⟨am_blind, am_pre hzH hP hKn hnb⟩ rfl (by rw [List.length_map, hl3]; exact e1) hl.1 rfl (lv_room (by rw [am_cats]; exact h4)) (by rw [hdg, h0]) (room _ _ h5 h6)) hS (back _ _ na1 h5 h6)
  case invokespecial ix =>
    obtain ⟨h0, h⟩ := h
    cases hN : am_find (am_NT X) ix with
    | some w =>
      rw [hN] at h
      have hNO := hO.2.2.2.2.2.1 _ (am_find_mem hN)
      have h : am_nat w 0 stk n (am_SH X) σ (fun st σ1 => K (pc + 3) ls st n σ1) := h
      unfold am_nat at h
      split at h
      · rename_i e2; cases e2
      · rename_i e2; cases e2
      · rename_i e2; cases e2
      · obtain ⟨x, r, rfl, h1, h2⟩ := am_1a_iff h
        obtain ⟨g1, g2, g3⟩ := hNO
        refine W.objInit hx hb hown (hts _ g1) (hts _ g2) (hts _ g3) rfl (by rw [hml]; exact hl.1) rfl (by rw [hdg, h0]) hfr1 ?_ (hK _ _ _ _ _ h2 hn hne hlen H locs lc hP hS hl)
        show 2 * 0 + _ + 12 ≤ _
        rw [am_cats]
        omega
      · rename_i e2; cases e2
      · exact h.elim
    | none =>
      rw [hN] at h
      obtain ⟨q, hq, h1, h2, h3, h4, h5, h6, h7⟩ := am_opt_iff.mp h
      obtain ⟨y, bytes, maxL, rt, dd, na, hM, hdd, hmx, hcode, hini, hd3, hkind⟩ := hO.2.2.2.2.2.2 _ (am_find_mem hq)
      obtain ⟨k, na1, cls, mc, ms, sp⟩ := q
      have hk : k = 2 ∨ k = 5 := by simpa using h1
      obtain ⟨o, As, e2, ho, hso⟩ := am_rcV h3 (fun z => by have z1 : k = 1 := z; omega) (fun z => by have z1 : k = 4 := z; omega)
      have e3 := am_split e2
      have hl3 := am_len_as h2
      rw [e2] at hl3
      have hstk : stk.map (am_c b) = (As.map (am_c b)).reverse ++ .ref (b + o) :: (stk.drop na1).map (am_c b) := by
        have e4 : stk.map (am_c b) = ((Value.ref o :: As).reverse ++ stk.drop na1).map (am_c b) := by rw [← e3]
        rw [e4]; simp [am_c]
      have hMet := hM D aC b n _ σ _ h7 h6
      rw [e2] at hMet
      rcases hk with rfl | rfl
      · obtain ⟨e1, hlink, hinst, hnm, rfl⟩ := hkind
        rw [hstk]
        exact am_call (va_runI (As := As.map (am_c b)) (rest := (stk.drop na1).map (am_c b)) (n := na) fx hMet ⟨⟨rfl, rfl, by rw [hR]; exact hdd, by rw [hR]; show 8 + (maxL + 11) + 64 * dd ≤ 64 * d; omega, am_words hts hcode, am_code_in, hts _ hcode, hts _ hini, ⟨hd3.1, hd3.2.1⟩, am_sig hd3.2.2, hts _ hlink⟩, hnm, hts _ hinst⟩
          ⟨am_blind, am_pre hzH hP hKn hnb⟩ rfl (by rw [List.length_map]; simp at hl3; simp at e1; omega) hl.1 rfl (lv_room (by rw [am_cats]; exact h4)) (by rw [hdg, h0]) (room _ _ h5 h6)) hS (back _ _ na1 h5 h6)
      · obtain ⟨e1, ⟨host, hlink⟩, hinst, hnm, rfl⟩ := hkind
        rw [hstk]
        exact am_call (va_runIN (As := As.map (am_c b)) (rest := (stk.drop na1).map (am_c b)) (n := na) fx hMet ⟨⟨⟨rfl, rfl, by rw [hR]; exact hdd, by rw [hR]; show 8 + (maxL + 11) + 64 * dd ≤ 64 * d; omega, am_words hts hcode, am_code_in⟩, hts _ hcode, hts _ hini, ⟨hd3.1, hd3.2.1⟩, am_sig hd3.2.2, va_Nw.use rfl (hnb _ _ _ _ hlink)⟩, hnm, hts _ hinst⟩
          ⟨am_blind, am_pre hzH hP hKn hnb⟩ rfl (by rw [List.length_map]; simp at hl3; simp at e1; omega) hl.1 rfl (lv_room (by rw [am_cats]; exact h4)) (by rw [hdg, h0]) (room _ _ h5 h6)) hS (back _ _ na1 h5 h6)
  all_goals exact False.elim hbig
end
end
section
/-- THE WORD OF A STRETCH OF CODE: f instructions at most; at a place of 'cuts' (and where f is used up) it asks for AA there, with the first j locals alone -/
def am_vc (cc : ByteArray) (X : am_X) (ne : Nat) (post : Option Value → am_S → Prop) (AA : Nat → List (Option Value) → List Value → Nat → am_S → Prop) (cuts : List (Nat × Nat)) : Nat → Nat → List (Option Value) → List Value → Nat → am_S → Prop
  | 0, pc, ls, stk, n, σ => AA pc ls stk n σ
  | f + 1, pc, ls, stk, n, σ => match decode cc pc with
    | .ok (i, len) => am_one X ne post i len pc ls stk n σ (fun pc' ls' stk' n' σ' => match am_find cuts pc' with
      | some j => AA pc' (am_mask j ls') stk' n' σ'
      | none => am_vc cc X ne post AA cuts f pc' ls' stk' n' σ')
    | .error _ => False
section
variable {p : Program} {l : Launch} {e : Env} {R : Room} {s : State} {m : MethodId} {args : Array Value} {below : List Frame} {meth : Method} {c : Code} {cl : List vw_C} {TB NB : List Cond} {D : va_G} {aC : Nat → ClassId} {b n0 ne nL : Nat} {cc : ByteArray} {own : String} {X : am_X} {post : Option Value → am_S → Prop}
theorem am_one_ok {i : Instr} {len pc : Nat} {ls : List (Option Value)} {stk : List Value} {n : Nat} {σ : am_S} {K : Nat → List (Option Value) → List Value → Nat → am_S → Prop} (C : am_C p l R s m args meth c cl TB NB D aC b n0 ne nL cc own X) (hdg : decode cc pc = .ok (i, len))
    (hK : ∀ pc ls stk n σ, K pc ls stk n σ → am_A p l e R s m args below meth c cl D aC b n0 ne nL X post pc ls stk n σ)
    (h : am_one X ne post i len pc ls stk n σ K) : am_A p l e R s m args below meth c cl D aC b n0 ne nL X post pc ls stk n σ := by
  cases i <;> first | exact am_simple C hdg hK trivial h | exact am_mem C hdg hK trivial h | exact am_make C hdg hK trivial h | exact am_callI C hdg hK trivial h
theorem am_A_mask {j pc : Nat} {ls : List (Option Value)} {stk : List Value} {n : Nat} {σ : am_S} (h : am_A p l e R s m args below meth c cl D aC b n0 ne nL X post pc (am_mask j ls) stk n σ) : am_A p l e R s m args below meth c cl D aC b n0 ne nL X post pc ls stk n σ :=
  fun h1 h2 h3 H locs lc hP hS hl => h h1 h2 (by rw [am_mask_len]; exact h3) H locs lc hP hS (am_lv_mask hl)
theorem am_vc_ok (C : am_C p l R s m args meth c cl TB NB D aC b n0 ne nL cc own X) {cuts : List (Nat × Nat)} : ∀ (f pc : Nat) (ls : List (Option Value)) (stk : List Value) (n : Nat) (σ : am_S), am_vc cc X ne post (am_A p l e R s m args below meth c cl D aC b n0 ne nL X post) cuts f pc ls stk n σ → am_A p l e R s m args below meth c cl D aC b n0 ne nL X post pc ls stk n σ := by
  intro f
  induction f with
  | zero => intro pc ls stk n σ h; exact h
  | succ f ih =>
    intro pc ls stk n σ h
    unfold am_vc at h
    split at h
    · rename_i i len hdg
      refine am_one_ok C hdg (fun pc' ls' stk' n' σ' hh => ?_) h
      split at hh
      · exact am_A_mask hh
      · exact ih _ _ _ _ _ hh
    · exact h.elim
end
/-! a method's first locals -/
def am_sl : List Value → List (Option Value)
  | [] => []
  | v :: t => if v.category = 2 then some v :: none :: am_sl t else some v :: am_sl t
def am_entry (n : Nat) (as : List Value) : List (Option Value) := am_sl as ++ List.replicate (n - (am_sl as).length) none
theorem am_sl_len (b : Nat) : ∀ as : List Value, (lg_sl (as.map (am_c b))).length = (am_sl as).length
  | [] => rfl
  | v :: t => by
    have ih := am_sl_len b t
    simp only [lg_sl] at ih
    by_cases h : v.category = 2
    · simp [lg_sl, am_sl, am_c_cat, h, ih]
    · simp [lg_sl, am_sl, am_c_cat, h, ih]
theorem am_sl_args (b : Nat) : ∀ (as : List Value) (i k : Nat) (v : Value), (am_sl as)[k]? = some (some v) → (i + k, am_c b v) ∈ lv_args i (as.map (am_c b))
  | [], i, k, v, h => by simp [am_sl] at h
  | a :: t, i, k, v, h => by
    by_cases hc : a.category = 2
    · simp only [am_sl, hc, if_true] at h
      match k, h with
      | 0, h =>
        simp at h
        subst h
        simp [lv_args]
      | 1, h => simp at h
      | k + 2, h =>
        simp only [List.getElem?_cons_succ] at h
        have := am_sl_args b t (i + 2) k v h
        simp only [List.map_cons, lv_args, am_c_cat, hc, if_true]
        rw [show i + (k + 2) = i + 2 + k by omega]
        exact List.mem_cons_of_mem _ this
    · simp only [am_sl, hc, if_false] at h
      match k, h with
      | 0, h =>
        simp at h
        subst h
        simp [lv_args]
      | k + 1, h =>
        simp only [List.getElem?_cons_succ] at h
        have := am_sl_args b t (i + 1) k v h
        simp only [List.map_cons, lv_args, am_c_cat, hc, if_false]
        rw [show i + (k + 1) = i + 1 + k by omega]
        exact List.mem_cons_of_mem _ this
theorem am_entry_lv {b n : Nat} {as : List Value} {lc : Array Slot} (h : lv_has lc n (lv_args 0 (as.map (am_c b)))) : lv_has lc n (am_lv b (am_entry n as)) := by
  refine ⟨h.1, h.2.1, fun q hq => ?_⟩
  obtain ⟨v, h1, h2⟩ := am_lv_mem.mp hq
  apply h.2.2
  unfold am_entry at h1
  by_cases hk : q.1 < (am_sl as).length
  · rw [List.getElem?_append_left hk] at h1
    have := am_sl_args b as 0 q.1 v h1
    rw [Nat.zero_add, ← h2] at this
    exact this
  · rw [List.getElem?_append_right (by omega), List.getElem?_replicate] at h1
    split at h1 <;> simp at h1
/-- A CONTRACT OUT OF ITS WORD: all that is left of the machine is AA and that it is closed under am_vc -/
theorem am_M.of {l : Launch} {TB NB : List Cond} {cl : List vw_C} {SH : am_Sh} {KF : am_Kf} {y : MethodName} {cc : ByteArray} {maxL : Nat} {ret : Option FieldType} {d mc ms : Nat} {sp : am_Sp} (X : am_X) (hy : plainName y.cls = true) (hgood : ∀ w ∈ TB, goodWord w = true) (hG : ∃ tyc, am_G TB cl SH KF tyc) (hSH : am_SH X = SH) (hKF : am_KF X = KF) (hrt : am_rt X = ret) (hd : 1 ≤ d) (hO : am_O l TB NB cl y.cls y.name d X)
    (body : ∀ (n0 : Nat) (as : List Value) (σ : am_S) (post : Option Value → am_S → Prop) (AA : Nat → List (Option Value) → List Value → Nat → am_S → Prop), (∀ cuts f pc ls stk n τ, am_vc cc X (n0 + mc) post AA cuts f pc ls stk n τ → AA pc ls stk n τ) → sp as n0 σ post → (am_sl as).length ≤ maxL ∧ AA 0 (am_entry maxL as) [] n0 σ) : am_M l TB NB cl SH KF y cc maxL ret d mc ms sp := by
  subst hSH; subst hKF; subst hrt
  intro D aC b n0 as σ post hsp hszm
  refine Met.ofW (cc := cc) (maxL := maxL) (ret := am_rt X) hy rfl ?_
  intro p e s m args below meth c s₁ B hml hv
  obtain ⟨rfl, hsz, hP, hK, hN⟩ := hv
  have hts : ∀ w ∈ TB, w.before (as.map (am_c b)).toArray s = true := fun w hw => atoms_spec (ws := .code y cc maxL (am_rt X) :: am_gb TB) B.pre w (List.mem_cons_of_mem _ (List.mem_filter.mpr ⟨hw, hgood w hw⟩))
  have hown : s.vm.findClass y.cls = some m.cls := findClass_of_methodNamed B.named
  have hnm : meth.name = y.name := (name_of_methodNamed B.named B.method).1
  have C : am_C p l (am_rm d mc ms) s m (as.map (am_c b)).toArray meth c cl TB NB D aC b n0 (n0 + mc) maxL cc y.cls X := ⟨B.exec, B.bytes, hml, hown, hts, hN, hK, B.notSynchronized, hsz, B.returns, ⟨d, hd, by rw [Nat.add_sub_cancel_left, hszm, Nat.add_sub_cancel_left], by rw [hnm]; exact hO⟩, hG⟩
  obtain ⟨h1, h2⟩ := body n0 as σ post _ (fun cuts f pc ls stk n τ h => am_vc_ok (e := e) (below := below) (cuts := cuts) C f pc ls stk n τ h) hsp
  have hl := lv_entry (as.map (am_c b)) (n := maxL) (by rw [am_sl_len]; exact h1)
  have h3 := h2 (Nat.le_refl _) (Nat.le_add_right _ _) (by simp [am_entry]; omega) s.heap [] _ hP va_S.rf (am_entry_lv hl)
  rw [Nat.sub_self, Nat.sub_self, Nat.add_sub_cancel_left, hszm, Nat.add_sub_cancel_left] at h3
  rw [lg_entry_eq]
  exact h3
end
section
/-! NUMBERS: what each number is, in the order of making. Printed by wip/am/gen_glob.py. -/
def SHl : List (Nat ⊕ (Nat × Nat)) := [.inl 11, .inr (1, 2000), .inl 5, .inl 9, .inl 2, .inr (0, 408), .inr (0, 408), .inr (0, 4), .inr (0, 9), .inr (0, 24), .inr (0, 5), .inr (0, 5), .inr (0, 5), .inr (0, 5), .inl 8, .inr (3, 19), .inr (0, 402), .inr (0, 402), .inr (3, 402), .inr (3, 5), .inl 9, .inl 2, .inr (0, 408), .inr (0, 408), .inr (0, 4), .inr (0, 9), .inr (0, 24), .inr (0, 5), .inr (0, 5), .inr (0, 5), .inr (0, 5), .inl 4, .inr (0, 40), .inl 4, .inr (0, 40), .inl 7, .inr (0, 1600), .inr (0, 120), .inl 0, .inl 10, .inr (0, 12), .inr (0, 12), .inr (0, 12), .inl 3, .inl 1, .inr (0, 12), .inr (0, 5), .inl 6, .inr (0, 20), .inr (2, 20), .inr (0, 5), .inl 12, .inr (1, 2000), .inr (1, 2000), .inr (0, 403), .inr (0, 403), .inr (0, 403), .inr (3, 403), .inr (3, 19), .inr (3, 5), .inr (0, 2), .inr (0, 2), .inr (0, 10), .inr (0, 10), .inr (0, 10), .inr (0, 10), .inr (0, 2), .inr (0, 8), .inr (0, 8), .inr (2, 260), .inr (0, 260), .inr (0, 260), .inr (0, 260), .inr (0, 260), .inr (0, 840), .inr (0, 840), .inr (0, 64), .inr (0, 9), .inr (0, 400), .inr (0, 51), .inr (0, 51), .inr (0, 2040), .inr (0, 5), .inr (2, 144), .inr (2, 144), .inr (0, 5), .inr (0, 5), .inr (0, 32), .inr (0, 20), .inr (2, 20), .inr (2, 3), .inr (0, 153)]
def SH : am_Sh := fun o => SHl.getD o (.inr (0, 0))
def K1l : List (List Nat) := [[3, 0, 0, 3, 3, 3, 3, 3, 3, 3, 3, 3, 3, 3], [], [3, 3, 3, 0, 0, 0, 1, 0, 0, 0, 0], [0, 0, 0, 3, 3, 3, 3, 3], [3, 3, 3, 3, 3, 0], [], [], [], [], [], [], [], [], [], [3, 3, 3, 3, 0], [], [], [], [], [], [0, 0, 0, 3, 3, 3, 3, 3], [3, 3, 3, 3, 3, 0], [], [], [], [], [], [], [], [], [], [3], [], [3], [], [3, 3, 0, 0, 0], [], [], [3, 3], [3, 3, 3, 3, 3], [], [], [], [3, 3], [3, 3, 3, 3], [], [], [3, 3, 3, 0], [], [], [], [0, 3, 0, 3, 0, 3, 3, 3, 3, 3, 0, 0, 0, 0, 0, 0, 0, 0, 0, 0, 0, 3, 3, 3, 3, 3, 3, 3, 3, 3, 3, 0, 3, 3, 3, 3, 3, 0, 3, 3, 3, 0, 3, 3, 2, 3, 3, 0, 2, 0, 3, 3, 3, 3, 0, 3, 3, 3, 0, 3, 3, 3, 3], [], [], [], [], [], [], [], [], [], [], [], [], [], [], [], [], [], [], [], [], [], [], [], [], [], [], [], [], [], [], [], [], [], [], [], [], [], [], [], []]
def K1 : am_Kf := fun o => K1l.getD o []
def KFl : List (List Nat) := [[5, 0, 0, 6, 24, 35, 37, 39, 42, 43, 47, 48, 51, 54], [], [7, 18, 23, 0, 0, 0, 1, 0, 0, 0, 0], [0, 0, 0, 8, 14, 15, 16, 17], [9, 10, 11, 12, 13, 0], [], [], [], [], [], [], [], [], [], [19, 20, 21, 22, 0], [], [], [], [], [], [0, 0, 0, 25, 31, 32, 33, 34], [26, 27, 28, 29, 30, 0], [], [], [], [], [], [], [], [], [], [36], [], [38], [], [40, 41, 0, 0, 0], [], [], [24, 25], [24, 42, 44, 3, 3], [], [], [], [24, 42], [24, 42, 49, 50], [], [], [24, 52, 53, 0], [], [], [], [0, 56, 0, 57, 0, 58, 59, 60, 61, 62, 0, 0, 0, 0, 0, 0, 0, 0, 0, 0, 0, 63, 64, 65, 66, 67, 68, 69, 70, 71, 72, 0, 73, 74, 75, 76, 77, 0, 78, 79, 80, 0, 81, 82, 2, 83, 84, 0, 2, 0, 85, 86, 87, 88, 0, 89, 90, 91, 0, 92, 93, 94, 95], [], [], [], [], [], [], [], [], [], [], [], [], [], [], [], [], [], [], [], [], [], [], [], [], [], [], [], [], [], [], [], [], [], [], [], [], [], [], [], []]
def KF : am_Kf := fun o => KFl.getD o []
theorem SH_0 : SH 0 = .inl 11 := rfl
theorem SH_1 : SH 1 = .inr (1, 2000) := rfl
theorem SH_2 : SH 2 = .inl 5 := rfl
theorem SH_3 : SH 3 = .inl 9 := rfl
theorem SH_4 : SH 4 = .inl 2 := rfl
theorem SH_5 : SH 5 = .inr (0, 408) := rfl
theorem SH_6 : SH 6 = .inr (0, 408) := rfl
theorem SH_7 : SH 7 = .inr (0, 4) := rfl
theorem SH_8 : SH 8 = .inr (0, 9) := rfl
theorem SH_9 : SH 9 = .inr (0, 24) := rfl
theorem SH_10 : SH 10 = .inr (0, 5) := rfl
theorem SH_11 : SH 11 = .inr (0, 5) := rfl
theorem SH_12 : SH 12 = .inr (0, 5) := rfl
theorem SH_13 : SH 13 = .inr (0, 5) := rfl
theorem SH_14 : SH 14 = .inl 8 := rfl
theorem SH_15 : SH 15 = .inr (3, 19) := rfl
theorem SH_16 : SH 16 = .inr (0, 402) := rfl
theorem SH_17 : SH 17 = .inr (0, 402) := rfl
theorem SH_18 : SH 18 = .inr (3, 402) := rfl
theorem SH_19 : SH 19 = .inr (3, 5) := rfl
theorem SH_20 : SH 20 = .inl 9 := rfl
theorem SH_21 : SH 21 = .inl 2 := rfl
theorem SH_22 : SH 22 = .inr (0, 408) := rfl
theorem SH_23 : SH 23 = .inr (0, 408) := rfl
theorem SH_24 : SH 24 = .inr (0, 4) := rfl
theorem SH_25 : SH 25 = .inr (0, 9) := rfl
theorem SH_26 : SH 26 = .inr (0, 24) := rfl
theorem SH_27 : SH 27 = .inr (0, 5) := rfl
theorem SH_28 : SH 28 = .inr (0, 5) := rfl
theorem SH_29 : SH 29 = .inr (0, 5) := rfl
theorem SH_30 : SH 30 = .inr (0, 5) := rfl
theorem SH_31 : SH 31 = .inl 4 := rfl
theorem SH_32 : SH 32 = .inr (0, 40) := rfl
theorem SH_33 : SH 33 = .inl 4 := rfl
theorem SH_34 : SH 34 = .inr (0, 40) := rfl
theorem SH_35 : SH 35 = .inl 7 := rfl
theorem SH_36 : SH 36 = .inr (0, 1600) := rfl
theorem SH_37 : SH 37 = .inr (0, 120) := rfl
theorem SH_38 : SH 38 = .inl 0 := rfl
theorem SH_39 : SH 39 = .inl 10 := rfl
theorem SH_40 : SH 40 = .inr (0, 12) := rfl
theorem SH_41 : SH 41 = .inr (0, 12) := rfl
theorem SH_42 : SH 42 = .inr (0, 12) := rfl
theorem SH_43 : SH 43 = .inl 3 := rfl
theorem SH_44 : SH 44 = .inl 1 := rfl
theorem SH_45 : SH 45 = .inr (0, 12) := rfl
theorem SH_46 : SH 46 = .inr (0, 5) := rfl
theorem SH_47 : SH 47 = .inl 6 := rfl
theorem SH_48 : SH 48 = .inr (0, 20) := rfl
theorem SH_49 : SH 49 = .inr (2, 20) := rfl
theorem SH_50 : SH 50 = .inr (0, 5) := rfl
theorem SH_51 : SH 51 = .inl 12 := rfl
theorem SH_52 : SH 52 = .inr (1, 2000) := rfl
theorem SH_53 : SH 53 = .inr (1, 2000) := rfl
theorem SH_54 : SH 54 = .inr (0, 403) := rfl
theorem SH_55 : SH 55 = .inr (0, 403) := rfl
theorem SH_56 : SH 56 = .inr (0, 403) := rfl
theorem SH_57 : SH 57 = .inr (3, 403) := rfl
theorem SH_58 : SH 58 = .inr (3, 19) := rfl
theorem SH_59 : SH 59 = .inr (3, 5) := rfl
theorem SH_60 : SH 60 = .inr (0, 2) := rfl
theorem SH_61 : SH 61 = .inr (0, 2) := rfl
theorem SH_62 : SH 62 = .inr (0, 10) := rfl
theorem SH_63 : SH 63 = .inr (0, 10) := rfl
theorem SH_64 : SH 64 = .inr (0, 10) := rfl
theorem SH_65 : SH 65 = .inr (0, 10) := rfl
theorem SH_66 : SH 66 = .inr (0, 2) := rfl
theorem SH_67 : SH 67 = .inr (0, 8) := rfl
theorem SH_68 : SH 68 = .inr (0, 8) := rfl
theorem SH_69 : SH 69 = .inr (2, 260) := rfl
theorem SH_70 : SH 70 = .inr (0, 260) := rfl
theorem SH_71 : SH 71 = .inr (0, 260) := rfl
theorem SH_72 : SH 72 = .inr (0, 260) := rfl
theorem SH_73 : SH 73 = .inr (0, 260) := rfl
theorem SH_74 : SH 74 = .inr (0, 840) := rfl
theorem SH_75 : SH 75 = .inr (0, 840) := rfl
theorem SH_76 : SH 76 = .inr (0, 64) := rfl
theorem SH_77 : SH 77 = .inr (0, 9) := rfl
theorem SH_78 : SH 78 = .inr (0, 400) := rfl
theorem SH_79 : SH 79 = .inr (0, 51) := rfl
theorem SH_80 : SH 80 = .inr (0, 51) := rfl
theorem SH_81 : SH 81 = .inr (0, 2040) := rfl
theorem SH_82 : SH 82 = .inr (0, 5) := rfl
theorem SH_83 : SH 83 = .inr (2, 144) := rfl
theorem SH_84 : SH 84 = .inr (2, 144) := rfl
theorem SH_85 : SH 85 = .inr (0, 5) := rfl
theorem SH_86 : SH 86 = .inr (0, 5) := rfl
theorem SH_87 : SH 87 = .inr (0, 32) := rfl
theorem SH_88 : SH 88 = .inr (0, 20) := rfl
theorem SH_89 : SH 89 = .inr (2, 20) := rfl
theorem SH_90 : SH 90 = .inr (2, 3) := rfl
theorem SH_91 : SH 91 = .inr (0, 153) := rfl
theorem K1_0_0 : (K1 0)[0]? = some 3 := rfl
theorem K1_0_1 : (K1 0)[1]? = some 0 := rfl
theorem K1_0_2 : (K1 0)[2]? = some 0 := rfl
theorem K1_0_3 : (K1 0)[3]? = some 3 := rfl
theorem K1_0_4 : (K1 0)[4]? = some 3 := rfl
theorem K1_0_5 : (K1 0)[5]? = some 3 := rfl
theorem K1_0_6 : (K1 0)[6]? = some 3 := rfl
theorem K1_0_7 : (K1 0)[7]? = some 3 := rfl
theorem K1_0_8 : (K1 0)[8]? = some 3 := rfl
theorem K1_0_9 : (K1 0)[9]? = some 3 := rfl
theorem K1_0_10 : (K1 0)[10]? = some 3 := rfl
theorem K1_0_11 : (K1 0)[11]? = some 3 := rfl
theorem K1_0_12 : (K1 0)[12]? = some 3 := rfl
theorem K1_0_13 : (K1 0)[13]? = some 3 := rfl
theorem KF_0_0 : (KF 0)[0]? = some 5 := rfl
theorem KF_0_1 : (KF 0)[1]? = some 0 := rfl
theorem KF_0_2 : (KF 0)[2]? = some 0 := rfl
theorem KF_0_3 : (KF 0)[3]? = some 6 := rfl
theorem KF_0_4 : (KF 0)[4]? = some 24 := rfl
theorem KF_0_5 : (KF 0)[5]? = some 35 := rfl
theorem KF_0_6 : (KF 0)[6]? = some 37 := rfl
theorem KF_0_7 : (KF 0)[7]? = some 39 := rfl
theorem KF_0_8 : (KF 0)[8]? = some 42 := rfl
theorem KF_0_9 : (KF 0)[9]? = some 43 := rfl
theorem KF_0_10 : (KF 0)[10]? = some 47 := rfl
theorem KF_0_11 : (KF 0)[11]? = some 48 := rfl
theorem KF_0_12 : (KF 0)[12]? = some 51 := rfl
theorem KF_0_13 : (KF 0)[13]? = some 54 := rfl
theorem K1_2_0 : (K1 2)[0]? = some 3 := rfl
theorem K1_2_1 : (K1 2)[1]? = some 3 := rfl
theorem K1_2_2 : (K1 2)[2]? = some 3 := rfl
theorem K1_2_3 : (K1 2)[3]? = some 0 := rfl
theorem K1_2_4 : (K1 2)[4]? = some 0 := rfl
theorem K1_2_5 : (K1 2)[5]? = some 0 := rfl
theorem K1_2_6 : (K1 2)[6]? = some 1 := rfl
theorem K1_2_7 : (K1 2)[7]? = some 0 := rfl
theorem K1_2_8 : (K1 2)[8]? = some 0 := rfl
theorem K1_2_9 : (K1 2)[9]? = some 0 := rfl
theorem K1_2_10 : (K1 2)[10]? = some 0 := rfl
theorem KF_2_0 : (KF 2)[0]? = some 7 := rfl
theorem KF_2_1 : (KF 2)[1]? = some 18 := rfl
theorem KF_2_2 : (KF 2)[2]? = some 23 := rfl
theorem KF_2_3 : (KF 2)[3]? = some 0 := rfl
theorem KF_2_4 : (KF 2)[4]? = some 0 := rfl
theorem KF_2_5 : (KF 2)[5]? = some 0 := rfl
theorem KF_2_6 : (KF 2)[6]? = some 1 := rfl
theorem KF_2_7 : (KF 2)[7]? = some 0 := rfl
theorem KF_2_8 : (KF 2)[8]? = some 0 := rfl
theorem KF_2_9 : (KF 2)[9]? = some 0 := rfl
theorem KF_2_10 : (KF 2)[10]? = some 0 := rfl
theorem K1_3_0 : (K1 3)[0]? = some 0 := rfl
theorem K1_3_1 : (K1 3)[1]? = some 0 := rfl
theorem K1_3_2 : (K1 3)[2]? = some 0 := rfl
theorem K1_3_3 : (K1 3)[3]? = some 3 := rfl
theorem K1_3_4 : (K1 3)[4]? = some 3 := rfl
theorem K1_3_5 : (K1 3)[5]? = some 3 := rfl
theorem K1_3_6 : (K1 3)[6]? = some 3 := rfl
theorem K1_3_7 : (K1 3)[7]? = some 3 := rfl
theorem KF_3_0 : (KF 3)[0]? = some 0 := rfl
theorem KF_3_1 : (KF 3)[1]? = some 0 := rfl
theorem KF_3_2 : (KF 3)[2]? = some 0 := rfl
theorem KF_3_3 : (KF 3)[3]? = some 8 := rfl
theorem KF_3_4 : (KF 3)[4]? = some 14 := rfl
theorem KF_3_5 : (KF 3)[5]? = some 15 := rfl
theorem KF_3_6 : (KF 3)[6]? = some 16 := rfl
theorem KF_3_7 : (KF 3)[7]? = some 17 := rfl
theorem K1_4_0 : (K1 4)[0]? = some 3 := rfl
theorem K1_4_1 : (K1 4)[1]? = some 3 := rfl
theorem K1_4_2 : (K1 4)[2]? = some 3 := rfl
theorem K1_4_3 : (K1 4)[3]? = some 3 := rfl
theorem K1_4_4 : (K1 4)[4]? = some 3 := rfl
theorem K1_4_5 : (K1 4)[5]? = some 0 := rfl
theorem KF_4_0 : (KF 4)[0]? = some 9 := rfl
theorem KF_4_1 : (KF 4)[1]? = some 10 := rfl
theorem KF_4_2 : (KF 4)[2]? = some 11 := rfl
theorem KF_4_3 : (KF 4)[3]? = some 12 := rfl
theorem KF_4_4 : (KF 4)[4]? = some 13 := rfl
theorem KF_4_5 : (KF 4)[5]? = some 0 := rfl
theorem K1_14_0 : (K1 14)[0]? = some 3 := rfl
theorem K1_14_1 : (K1 14)[1]? = some 3 := rfl
theorem K1_14_2 : (K1 14)[2]? = some 3 := rfl
theorem K1_14_3 : (K1 14)[3]? = some 3 := rfl
theorem K1_14_4 : (K1 14)[4]? = some 0 := rfl
theorem KF_14_0 : (KF 14)[0]? = some 19 := rfl
theorem KF_14_1 : (KF 14)[1]? = some 20 := rfl
theorem KF_14_2 : (KF 14)[2]? = some 21 := rfl
theorem KF_14_3 : (KF 14)[3]? = some 22 := rfl
theorem KF_14_4 : (KF 14)[4]? = some 0 := rfl
theorem K1_20_0 : (K1 20)[0]? = some 0 := rfl
theorem K1_20_1 : (K1 20)[1]? = some 0 := rfl
theorem K1_20_2 : (K1 20)[2]? = some 0 := rfl
theorem K1_20_3 : (K1 20)[3]? = some 3 := rfl
theorem K1_20_4 : (K1 20)[4]? = some 3 := rfl
theorem K1_20_5 : (K1 20)[5]? = some 3 := rfl
theorem K1_20_6 : (K1 20)[6]? = some 3 := rfl
theorem K1_20_7 : (K1 20)[7]? = some 3 := rfl
theorem KF_20_0 : (KF 20)[0]? = some 0 := rfl
theorem KF_20_1 : (KF 20)[1]? = some 0 := rfl
theorem KF_20_2 : (KF 20)[2]? = some 0 := rfl
theorem KF_20_3 : (KF 20)[3]? = some 25 := rfl
theorem KF_20_4 : (KF 20)[4]? = some 31 := rfl
theorem KF_20_5 : (KF 20)[5]? = some 32 := rfl
theorem KF_20_6 : (KF 20)[6]? = some 33 := rfl
theorem KF_20_7 : (KF 20)[7]? = some 34 := rfl
theorem K1_21_0 : (K1 21)[0]? = some 3 := rfl
theorem K1_21_1 : (K1 21)[1]? = some 3 := rfl
theorem K1_21_2 : (K1 21)[2]? = some 3 := rfl
theorem K1_21_3 : (K1 21)[3]? = some 3 := rfl
theorem K1_21_4 : (K1 21)[4]? = some 3 := rfl
theorem K1_21_5 : (K1 21)[5]? = some 0 := rfl
theorem KF_21_0 : (KF 21)[0]? = some 26 := rfl
theorem KF_21_1 : (KF 21)[1]? = some 27 := rfl
theorem KF_21_2 : (KF 21)[2]? = some 28 := rfl
theorem KF_21_3 : (KF 21)[3]? = some 29 := rfl
theorem KF_21_4 : (KF 21)[4]? = some 30 := rfl
theorem KF_21_5 : (KF 21)[5]? = some 0 := rfl
theorem K1_31_0 : (K1 31)[0]? = some 3 := rfl
theorem KF_31_0 : (KF 31)[0]? = some 36 := rfl
theorem K1_33_0 : (K1 33)[0]? = some 3 := rfl
theorem KF_33_0 : (KF 33)[0]? = some 38 := rfl
theorem K1_35_0 : (K1 35)[0]? = some 3 := rfl
theorem K1_35_1 : (K1 35)[1]? = some 3 := rfl
theorem K1_35_2 : (K1 35)[2]? = some 0 := rfl
theorem K1_35_3 : (K1 35)[3]? = some 0 := rfl
theorem K1_35_4 : (K1 35)[4]? = some 0 := rfl
theorem KF_35_0 : (KF 35)[0]? = some 40 := rfl
theorem KF_35_1 : (KF 35)[1]? = some 41 := rfl
theorem KF_35_2 : (KF 35)[2]? = some 0 := rfl
theorem KF_35_3 : (KF 35)[3]? = some 0 := rfl
theorem KF_35_4 : (KF 35)[4]? = some 0 := rfl
theorem K1_38_0 : (K1 38)[0]? = some 3 := rfl
theorem K1_38_1 : (K1 38)[1]? = some 3 := rfl
theorem KF_38_0 : (KF 38)[0]? = some 24 := rfl
theorem KF_38_1 : (KF 38)[1]? = some 25 := rfl
theorem K1_39_0 : (K1 39)[0]? = some 3 := rfl
theorem K1_39_1 : (K1 39)[1]? = some 3 := rfl
theorem K1_39_2 : (K1 39)[2]? = some 3 := rfl
theorem K1_39_3 : (K1 39)[3]? = some 3 := rfl
theorem K1_39_4 : (K1 39)[4]? = some 3 := rfl
theorem KF_39_0 : (KF 39)[0]? = some 24 := rfl
theorem KF_39_1 : (KF 39)[1]? = some 42 := rfl
theorem KF_39_2 : (KF 39)[2]? = some 44 := rfl
theorem KF_39_3 : (KF 39)[3]? = some 3 := rfl
theorem KF_39_4 : (KF 39)[4]? = some 3 := rfl
theorem K1_43_0 : (K1 43)[0]? = some 3 := rfl
theorem K1_43_1 : (K1 43)[1]? = some 3 := rfl
theorem KF_43_0 : (KF 43)[0]? = some 24 := rfl
theorem KF_43_1 : (KF 43)[1]? = some 42 := rfl
theorem K1_44_0 : (K1 44)[0]? = some 3 := rfl
theorem K1_44_1 : (K1 44)[1]? = some 3 := rfl
theorem K1_44_2 : (K1 44)[2]? = some 3 := rfl
theorem K1_44_3 : (K1 44)[3]? = some 3 := rfl
theorem KF_44_0 : (KF 44)[0]? = some 24 := rfl
theorem KF_44_1 : (KF 44)[1]? = some 42 := rfl
theorem KF_44_2 : (KF 44)[2]? = some 49 := rfl
theorem KF_44_3 : (KF 44)[3]? = some 50 := rfl
theorem K1_47_0 : (K1 47)[0]? = some 3 := rfl
theorem K1_47_1 : (K1 47)[1]? = some 3 := rfl
theorem K1_47_2 : (K1 47)[2]? = some 3 := rfl
theorem K1_47_3 : (K1 47)[3]? = some 0 := rfl
theorem KF_47_0 : (KF 47)[0]? = some 24 := rfl
theorem KF_47_1 : (KF 47)[1]? = some 52 := rfl
theorem KF_47_2 : (KF 47)[2]? = some 53 := rfl
theorem KF_47_3 : (KF 47)[3]? = some 0 := rfl
theorem K1_51_0 : (K1 51)[0]? = some 0 := rfl
theorem K1_51_1 : (K1 51)[1]? = some 3 := rfl
theorem K1_51_2 : (K1 51)[2]? = some 0 := rfl
theorem K1_51_3 : (K1 51)[3]? = some 3 := rfl
theorem K1_51_4 : (K1 51)[4]? = some 0 := rfl
theorem K1_51_5 : (K1 51)[5]? = some 3 := rfl
theorem K1_51_6 : (K1 51)[6]? = some 3 := rfl
theorem K1_51_7 : (K1 51)[7]? = some 3 := rfl
theorem K1_51_8 : (K1 51)[8]? = some 3 := rfl
theorem K1_51_9 : (K1 51)[9]? = some 3 := rfl
theorem K1_51_10 : (K1 51)[10]? = some 0 := rfl
theorem K1_51_11 : (K1 51)[11]? = some 0 := rfl
theorem K1_51_12 : (K1 51)[12]? = some 0 := rfl
theorem K1_51_13 : (K1 51)[13]? = some 0 := rfl
theorem K1_51_14 : (K1 51)[14]? = some 0 := rfl
theorem K1_51_15 : (K1 51)[15]? = some 0 := rfl
theorem K1_51_16 : (K1 51)[16]? = some 0 := rfl
theorem K1_51_17 : (K1 51)[17]? = some 0 := rfl
theorem K1_51_18 : (K1 51)[18]? = some 0 := rfl
theorem K1_51_19 : (K1 51)[19]? = some 0 := rfl
theorem K1_51_20 : (K1 51)[20]? = some 0 := rfl
theorem K1_51_21 : (K1 51)[21]? = some 3 := rfl
theorem K1_51_22 : (K1 51)[22]? = some 3 := rfl
theorem K1_51_23 : (K1 51)[23]? = some 3 := rfl
theorem K1_51_24 : (K1 51)[24]? = some 3 := rfl
theorem K1_51_25 : (K1 51)[25]? = some 3 := rfl
theorem K1_51_26 : (K1 51)[26]? = some 3 := rfl
theorem K1_51_27 : (K1 51)[27]? = some 3 := rfl
theorem K1_51_28 : (K1 51)[28]? = some 3 := rfl
theorem K1_51_29 : (K1 51)[29]? = some 3 := rfl
theorem K1_51_30 : (K1 51)[30]? = some 3 := rfl
theorem K1_51_31 : (K1 51)[31]? = some 0 := rfl
theorem K1_51_32 : (K1 51)[32]? = some 3 := rfl
theorem K1_51_33 : (K1 51)[33]? = some 3 := rfl
theorem K1_51_34 : (K1 51)[34]? = some 3 := rfl
theorem K1_51_35 : (K1 51)[35]? = some 3 := rfl
theorem K1_51_36 : (K1 51)[36]? = some 3 := rfl
theorem K1_51_37 : (K1 51)[37]? = some 0 := rfl
theorem K1_51_38 : (K1 51)[38]? = some 3 := rfl
theorem K1_51_39 : (K1 51)[39]? = some 3 := rfl
theorem K1_51_40 : (K1 51)[40]? = some 3 := rfl
theorem K1_51_41 : (K1 51)[41]? = some 0 := rfl
theorem K1_51_42 : (K1 51)[42]? = some 3 := rfl
theorem K1_51_43 : (K1 51)[43]? = some 3 := rfl
theorem K1_51_44 : (K1 51)[44]? = some 2 := rfl
theorem K1_51_45 : (K1 51)[45]? = some 3 := rfl
theorem K1_51_46 : (K1 51)[46]? = some 3 := rfl
theorem K1_51_47 : (K1 51)[47]? = some 0 := rfl
theorem K1_51_48 : (K1 51)[48]? = some 2 := rfl
theorem K1_51_49 : (K1 51)[49]? = some 0 := rfl
theorem K1_51_50 : (K1 51)[50]? = some 3 := rfl
theorem K1_51_51 : (K1 51)[51]? = some 3 := rfl
theorem K1_51_52 : (K1 51)[52]? = some 3 := rfl
theorem K1_51_53 : (K1 51)[53]? = some 3 := rfl
theorem K1_51_54 : (K1 51)[54]? = some 0 := rfl
theorem K1_51_55 : (K1 51)[55]? = some 3 := rfl
theorem K1_51_56 : (K1 51)[56]? = some 3 := rfl
theorem K1_51_57 : (K1 51)[57]? = some 3 := rfl
theorem K1_51_58 : (K1 51)[58]? = some 0 := rfl
theorem K1_51_59 : (K1 51)[59]? = some 3 := rfl
theorem K1_51_60 : (K1 51)[60]? = some 3 := rfl
theorem K1_51_61 : (K1 51)[61]? = some 3 := rfl
theorem K1_51_62 : (K1 51)[62]? = some 3 := rfl
theorem KF_51_0 : (KF 51)[0]? = some 0 := rfl
theorem KF_51_1 : (KF 51)[1]? = some 56 := rfl
theorem KF_51_2 : (KF 51)[2]? = some 0 := rfl
theorem KF_51_3 : (KF 51)[3]? = some 57 := rfl
theorem KF_51_4 : (KF 51)[4]? = some 0 := rfl
theorem KF_51_5 : (KF 51)[5]? = some 58 := rfl
theorem KF_51_6 : (KF 51)[6]? = some 59 := rfl
theorem KF_51_7 : (KF 51)[7]? = some 60 := rfl
theorem KF_51_8 : (KF 51)[8]? = some 61 := rfl
theorem KF_51_9 : (KF 51)[9]? = some 62 := rfl
theorem KF_51_10 : (KF 51)[10]? = some 0 := rfl
theorem KF_51_11 : (KF 51)[11]? = some 0 := rfl
theorem KF_51_12 : (KF 51)[12]? = some 0 := rfl
theorem KF_51_13 : (KF 51)[13]? = some 0 := rfl
theorem KF_51_14 : (KF 51)[14]? = some 0 := rfl
theorem KF_51_15 : (KF 51)[15]? = some 0 := rfl
theorem KF_51_16 : (KF 51)[16]? = some 0 := rfl
theorem KF_51_17 : (KF 51)[17]? = some 0 := rfl
theorem KF_51_18 : (KF 51)[18]? = some 0 := rfl
theorem KF_51_19 : (KF 51)[19]? = some 0 := rfl
theorem KF_51_20 : (KF 51)[20]? = some 0 := rfl
theorem KF_51_21 : (KF 51)[21]? = some 63 := rfl
theorem KF_51_22 : (KF 51)[22]? = some 64 := rfl
theorem KF_51_23 : (KF 51)[23]? = some 65 := rfl
theorem KF_51_24 : (KF 51)[24]? = some 66 := rfl
theorem KF_51_25 : (KF 51)[25]? = some 67 := rfl
theorem KF_51_26 : (KF 51)[26]? = some 68 := rfl
theorem KF_51_27 : (KF 51)[27]? = some 69 := rfl
theorem KF_51_28 : (KF 51)[28]? = some 70 := rfl
theorem KF_51_29 : (KF 51)[29]? = some 71 := rfl
theorem KF_51_30 : (KF 51)[30]? = some 72 := rfl
theorem KF_51_31 : (KF 51)[31]? = some 0 := rfl
theorem KF_51_32 : (KF 51)[32]? = some 73 := rfl
theorem KF_51_33 : (KF 51)[33]? = some 74 := rfl
theorem KF_51_34 : (KF 51)[34]? = some 75 := rfl
theorem KF_51_35 : (KF 51)[35]? = some 76 := rfl
theorem KF_51_36 : (KF 51)[36]? = some 77 := rfl
theorem KF_51_37 : (KF 51)[37]? = some 0 := rfl
theorem KF_51_38 : (KF 51)[38]? = some 78 := rfl
theorem KF_51_39 : (KF 51)[39]? = some 79 := rfl
theorem KF_51_40 : (KF 51)[40]? = some 80 := rfl
theorem KF_51_41 : (KF 51)[41]? = some 0 := rfl
theorem KF_51_42 : (KF 51)[42]? = some 81 := rfl
theorem KF_51_43 : (KF 51)[43]? = some 82 := rfl
theorem KF_51_44 : (KF 51)[44]? = some 2 := rfl
theorem KF_51_45 : (KF 51)[45]? = some 83 := rfl
theorem KF_51_46 : (KF 51)[46]? = some 84 := rfl
theorem KF_51_47 : (KF 51)[47]? = some 0 := rfl
theorem KF_51_48 : (KF 51)[48]? = some 2 := rfl
theorem KF_51_49 : (KF 51)[49]? = some 0 := rfl
theorem KF_51_50 : (KF 51)[50]? = some 85 := rfl
theorem KF_51_51 : (KF 51)[51]? = some 86 := rfl
theorem KF_51_52 : (KF 51)[52]? = some 87 := rfl
theorem KF_51_53 : (KF 51)[53]? = some 88 := rfl
theorem KF_51_54 : (KF 51)[54]? = some 0 := rfl
theorem KF_51_55 : (KF 51)[55]? = some 89 := rfl
theorem KF_51_56 : (KF 51)[56]? = some 90 := rfl
theorem KF_51_57 : (KF 51)[57]? = some 91 := rfl
theorem KF_51_58 : (KF 51)[58]? = some 0 := rfl
theorem KF_51_59 : (KF 51)[59]? = some 92 := rfl
theorem KF_51_60 : (KF 51)[60]? = some 93 := rfl
theorem KF_51_61 : (KF 51)[61]? = some 94 := rfl
theorem KF_51_62 : (KF 51)[62]? = some 95 := rfl
def TB : List Cond := lw_tbl.filter goodWord
theorem TB_good : ∀ w ∈ TB, goodWord w = true := fun w h => (List.mem_filter.mp h).2
theorem tb_at (i : Nat) {w : Cond} (h : lw_tbl[i]? = some w) (hg : goodWord w = true) : w ∈ TB := List.mem_filter.mpr ⟨List.mem_of_getElem? h, hg⟩
def NB : List Cond := lw_tbl
theorem nb_at (i : Nat) {w : Cond} (h : lw_tbl[i]? = some w) : w ∈ NB := List.mem_of_getElem? h
def tyc : Nat → Nat → FieldType := fun c k => match c with
  | 0 => tyX0 k
  | 1 => tyX1 k
  | 2 => tyX2 k
  | 3 => tyX3 k
  | 4 => tyX4 k
  | 5 => tyX5 k
  | 6 => tyX6 k
  | 7 => tyX7 k
  | 8 => tyX8 k
  | 9 => tyX9 k
  | 10 => tyX10 k
  | 11 => tyX11 k
  | 12 => tyX12 k
  | _ => .int
theorem iTB_X0 : ∀ w ∈ u_ws RX0 TX0 2, w ∈ TB := by decide +kernel
theorem iTB_X1 : ∀ w ∈ u_ws RX1 TX1 4, w ∈ TB := by decide +kernel
theorem iTB_X2 : ∀ w ∈ u_ws RX2 TX2 6, w ∈ TB := by decide +kernel
theorem iTB_X3 : ∀ w ∈ u_ws RX3 TX3 2, w ∈ TB := by decide +kernel
theorem iTB_X4 : ∀ w ∈ u_ws RX4 TX4 1, w ∈ TB := by decide +kernel
theorem iTB_X5 : ∀ w ∈ u_ws RX5 TX5 11, w ∈ TB := by decide +kernel
theorem iTB_X6 : ∀ w ∈ u_ws RX6 TX6 4, w ∈ TB := by decide +kernel
theorem iTB_X7 : ∀ w ∈ u_ws RX7 TX7 5, w ∈ TB := by decide +kernel
theorem iTB_X8 : ∀ w ∈ u_ws RX8 TX8 5, w ∈ TB := by decide +kernel
theorem iTB_X9 : ∀ w ∈ u_ws RX9 TX9 8, w ∈ TB := by decide +kernel
theorem iTB_X10 : ∀ w ∈ u_ws RX10 TX10 5, w ∈ TB := by decide +kernel
theorem iTB_X11 : ∀ w ∈ u_ws RX11 TX11 14, w ∈ TB := by decide +kernel
theorem iTB_X12 : ∀ w ∈ u_ws RX12 TX12 63, w ∈ TB := by decide +kernel
def wf_at (KF : am_Kf) (o : Nat) : Bool := match SH o with
  | .inr _ => true
  | .inl ci => match vwCl[ci]? with
    | none => false
    | some q => decide ((KF o).length = q.2.2) && ((KF o).zipIdx.all fun z => decide (min z.1 3 = am_tk (tyc ci z.2)))
theorem wf_of {KF : am_Kf} (h : (List.range 92).all (wf_at KF) = true) : ∀ o ci, SH o = .inl ci → ∃ q : vw_C, vwCl[ci]? = some q ∧ (KF o).length = q.2.2 ∧ ∀ k kd, (KF o)[k]? = some kd → min kd 3 = am_tk (tyc ci k) := by
  intro o ci hs
  have ho : o < 92 := by
    rcases Nat.lt_or_ge o 92 with q | q
    · exact q
    · exfalso
      have : SH o = .inr (0, 0) := by
        unfold SH
        rw [List.getD_eq_getElem?_getD, List.getElem?_eq_none (show SHl.length ≤ o from Nat.le_trans (by decide) q)]
        rfl
      rw [this] at hs
      cases hs
  have h1 := List.all_eq_true.mp h o (List.mem_range.mpr ho)
  unfold wf_at at h1
  rw [hs] at h1
  simp only at h1
  split at h1
  · cases h1
  · rename_i q hq
    rw [Bool.and_eq_true] at h1
    refine ⟨q, hq, of_decide_eq_true h1.1, fun k kd hk => ?_⟩
    have h2 := List.all_eq_true.mp h1.2 (kd, k) (List.mem_zipIdx_iff_getElem?.mpr hk)
    exact of_decide_eq_true h2
theorem G_at {KF : am_Kf} (h : (List.range 92).all (wf_at KF) = true) : ∃ tyc, am_G TB vwCl SH KF tyc := by
  refine ⟨tyc, fun c q hq => ?_, wf_of h, fun k ty hk => ?_⟩
  · match c, hq with
    | 0, hq => cases hq; exact ⟨iTB_X0, tyX0_ok, nmX0⟩
    | 1, hq => cases hq; exact ⟨iTB_X1, tyX1_ok, nmX1⟩
    | 2, hq => cases hq; exact ⟨iTB_X2, tyX2_ok, nmX2⟩
    | 3, hq => cases hq; exact ⟨iTB_X3, tyX3_ok, nmX3⟩
    | 4, hq => cases hq; exact ⟨iTB_X4, tyX4_ok, nmX4⟩
    | 5, hq => cases hq; exact ⟨iTB_X5, tyX5_ok, nmX5⟩
    | 6, hq => cases hq; exact ⟨iTB_X6, tyX6_ok, nmX6⟩
    | 7, hq => cases hq; exact ⟨iTB_X7, tyX7_ok, nmX7⟩
    | 8, hq => cases hq; exact ⟨iTB_X8, tyX8_ok, nmX8⟩
    | 9, hq => cases hq; exact ⟨iTB_X9, tyX9_ok, nmX9⟩
    | 10, hq => cases hq; exact ⟨iTB_X10, tyX10_ok, nmX10⟩
    | 11, hq => cases hq; exact ⟨iTB_X11, tyX11_ok, nmX11⟩
    | 12, hq => cases hq; exact ⟨iTB_X12, tyX12_ok, nmX12⟩
    | c + 13, hq => simp [vwCl] at hq
  · match k, hk with
    | 0, hk => cases hk; exact tb_at 174 (by decide +kernel) (by decide +kernel)
    | 1, hk => cases hk; exact tb_at 173 (by decide +kernel) (by decide +kernel)
    | 2, hk => cases hk; exact tb_at 458 (by decide +kernel) (by decide +kernel)
    | 3, hk => cases hk; exact tb_at 302 (by decide +kernel) (by decide +kernel)
    | k + 4, hk => simp [am_ty] at hk
theorem GF : ∃ tyc, am_G TB vwCl SH KF tyc := G_at (by decide +kernel)
theorem G1 : ∃ tyc, am_G TB vwCl SH K1 tyc := G_at (by decide +kernel)
end
section
/-! LINKS: what each class's pool entries are. Printed by wip/am/gen_glob.py. -/
def FT_X0 : List (Nat × Nat × Nat) := [(9, 0, 0), (15, 9, 3), (21, 0, 1), (22, 9, 0), (74, 9, 1)]
theorem FT_X0_ok : ∀ q ∈ FT_X0, am_FO TB vwCl RX0 q := List.forall_mem_cons.mpr ⟨⟨(RX0, TX0, 2), rfl, by decide, tb_at 378 (by decide +kernel) (by decide +kernel)⟩, List.forall_mem_cons.mpr ⟨⟨(RX9, TX9, 8), rfl, by decide, tb_at 203 (by decide +kernel) (by decide +kernel)⟩, List.forall_mem_cons.mpr ⟨⟨(RX0, TX0, 2), rfl, by decide, tb_at 379 (by decide +kernel) (by decide +kernel)⟩, List.forall_mem_cons.mpr ⟨⟨(RX9, TX9, 8), rfl, by decide, tb_at 188 (by decide +kernel) (by decide +kernel)⟩, List.forall_mem_cons.mpr ⟨⟨(RX9, TX9, 8), rfl, by decide, tb_at 197 (by decide +kernel) (by decide +kernel)⟩, fun _ h => absurd h List.not_mem_nil⟩⟩⟩⟩⟩
def PT_X0 : List (Nat × Nat × Nat) := [(22, 9, 0), (74, 9, 1)]
theorem PT_X0_ok (nm : String) : ∀ q ∈ PT_X0, am_PO TB vwCl RX0 nm q := List.forall_mem_cons.mpr ⟨⟨(RX9, TX9, 8), rfl, by decide, tb_at 188 (by decide +kernel) (by decide +kernel), Or.inl rfl⟩, List.forall_mem_cons.mpr ⟨⟨(RX9, TX9, 8), rfl, by decide, tb_at 197 (by decide +kernel) (by decide +kernel), Or.inl rfl⟩, fun _ h => absurd h List.not_mem_nil⟩⟩
def PI_X0 : List (Nat × Nat × Nat) := [(9, 0, 0), (21, 0, 1), (22, 9, 0), (74, 9, 1)]
theorem PI_X0_ok : ∀ q ∈ PI_X0, am_PO TB vwCl RX0 "<init>" q := List.forall_mem_cons.mpr ⟨⟨(RX0, TX0, 2), rfl, by decide, tb_at 378 (by decide +kernel) (by decide +kernel), Or.inr ⟨rfl, rfl, rfl⟩⟩, List.forall_mem_cons.mpr ⟨⟨(RX0, TX0, 2), rfl, by decide, tb_at 379 (by decide +kernel) (by decide +kernel), Or.inr ⟨rfl, rfl, rfl⟩⟩, List.forall_mem_cons.mpr ⟨⟨(RX9, TX9, 8), rfl, by decide, tb_at 188 (by decide +kernel) (by decide +kernel), Or.inl rfl⟩, List.forall_mem_cons.mpr ⟨⟨(RX9, TX9, 8), rfl, by decide, tb_at 197 (by decide +kernel) (by decide +kernel), Or.inl rfl⟩, fun _ h => absurd h List.not_mem_nil⟩⟩⟩⟩
theorem FT_X0_9 : am_find FT_X0 9 = some (0, 0) := rfl
theorem FT_X0_15 : am_find FT_X0 15 = some (9, 3) := rfl
theorem FT_X0_21 : am_find FT_X0 21 = some (0, 1) := rfl
theorem FT_X0_22 : am_find FT_X0 22 = some (9, 0) := rfl
theorem FT_X0_74 : am_find FT_X0 74 = some (9, 1) := rfl
theorem PT_X0_22 : am_find PT_X0 22 = some (9, 0) := rfl
theorem PT_X0_74 : am_find PT_X0 74 = some (9, 1) := rfl
theorem PI_X0_9 : am_find PI_X0 9 = some (0, 0) := rfl
theorem PI_X0_21 : am_find PI_X0 21 = some (0, 1) := rfl
theorem PI_X0_22 : am_find PI_X0 22 = some (9, 0) := rfl
theorem PI_X0_74 : am_find PI_X0 74 = some (9, 1) := rfl
def CT_X0 : List (Nat × Nat) := []
theorem CT_X0_ok : ∀ q ∈ CT_X0, am_CC TB vwCl RX0 q := fun _ h => absurd h List.not_mem_nil
def KT_X0 : List (Nat × Int32) := []
theorem KT_X0_ok : ∀ q ∈ KT_X0, Cond.constant RX0 q.1 q.2 ∈ TB := fun _ h => absurd h List.not_mem_nil
def LT_X0 : List (Nat × Int64) := []
theorem LT_X0_ok : ∀ q ∈ LT_X0, Cond.constantLong RX0 q.1 q.2 ∈ TB := fun _ h => absurd h List.not_mem_nil
def NT_X0 : List (Nat × Nat) := [(3, 3), (39, 1), (45, 0)]
theorem NT_X0_ok : ∀ q ∈ NT_X0, am_NO TB RX0 q := List.forall_mem_cons.mpr ⟨⟨tb_at 377 (by decide +kernel) (by decide +kernel), tb_at 134 (by decide +kernel) (by decide +kernel), tb_at 135 (by decide +kernel) (by decide +kernel)⟩, List.forall_mem_cons.mpr ⟨⟨tb_at 750 (by decide +kernel) (by decide +kernel), tb_at 545 (by decide +kernel) (by decide +kernel), tb_at 125 (by decide +kernel) (by decide +kernel), tb_at 546 (by decide +kernel) (by decide +kernel)⟩, List.forall_mem_cons.mpr ⟨⟨tb_at 751 (by decide +kernel) (by decide +kernel), tb_at 752 (by decide +kernel) (by decide +kernel), tb_at 125 (by decide +kernel) (by decide +kernel), tb_at 753 (by decide +kernel) (by decide +kernel)⟩, fun _ h => absurd h List.not_mem_nil⟩⟩⟩
def FT_X1 : List (Nat × Nat × Nat) := [(9, 1, 2), (15, 1, 3), (18, 1, 0), (22, 1, 1), (55, 9, 1)]
theorem FT_X1_ok : ∀ q ∈ FT_X1, am_FO TB vwCl RX1 q := List.forall_mem_cons.mpr ⟨⟨(RX1, TX1, 4), rfl, by decide, tb_at 428 (by decide +kernel) (by decide +kernel)⟩, List.forall_mem_cons.mpr ⟨⟨(RX1, TX1, 4), rfl, by decide, tb_at 429 (by decide +kernel) (by decide +kernel)⟩, List.forall_mem_cons.mpr ⟨⟨(RX1, TX1, 4), rfl, by decide, tb_at 426 (by decide +kernel) (by decide +kernel)⟩, List.forall_mem_cons.mpr ⟨⟨(RX1, TX1, 4), rfl, by decide, tb_at 427 (by decide +kernel) (by decide +kernel)⟩, List.forall_mem_cons.mpr ⟨⟨(RX9, TX9, 8), rfl, by decide, tb_at 195 (by decide +kernel) (by decide +kernel)⟩, fun _ h => absurd h List.not_mem_nil⟩⟩⟩⟩⟩
def PT_X1 : List (Nat × Nat × Nat) := [(55, 9, 1)]
theorem PT_X1_ok (nm : String) : ∀ q ∈ PT_X1, am_PO TB vwCl RX1 nm q := List.forall_mem_cons.mpr ⟨⟨(RX9, TX9, 8), rfl, by decide, tb_at 195 (by decide +kernel) (by decide +kernel), Or.inl rfl⟩, fun _ h => absurd h List.not_mem_nil⟩
def PI_X1 : List (Nat × Nat × Nat) := [(9, 1, 2), (15, 1, 3), (18, 1, 0), (22, 1, 1), (55, 9, 1)]
theorem PI_X1_ok : ∀ q ∈ PI_X1, am_PO TB vwCl RX1 "<init>" q := List.forall_mem_cons.mpr ⟨⟨(RX1, TX1, 4), rfl, by decide, tb_at 428 (by decide +kernel) (by decide +kernel), Or.inr ⟨rfl, rfl, rfl⟩⟩, List.forall_mem_cons.mpr ⟨⟨(RX1, TX1, 4), rfl, by decide, tb_at 429 (by decide +kernel) (by decide +kernel), Or.inr ⟨rfl, rfl, rfl⟩⟩, List.forall_mem_cons.mpr ⟨⟨(RX1, TX1, 4), rfl, by decide, tb_at 426 (by decide +kernel) (by decide +kernel), Or.inr ⟨rfl, rfl, rfl⟩⟩, List.forall_mem_cons.mpr ⟨⟨(RX1, TX1, 4), rfl, by decide, tb_at 427 (by decide +kernel) (by decide +kernel), Or.inr ⟨rfl, rfl, rfl⟩⟩, List.forall_mem_cons.mpr ⟨⟨(RX9, TX9, 8), rfl, by decide, tb_at 195 (by decide +kernel) (by decide +kernel), Or.inl rfl⟩, fun _ h => absurd h List.not_mem_nil⟩⟩⟩⟩⟩
theorem FT_X1_9 : am_find FT_X1 9 = some (1, 2) := rfl
theorem FT_X1_15 : am_find FT_X1 15 = some (1, 3) := rfl
theorem FT_X1_18 : am_find FT_X1 18 = some (1, 0) := rfl
theorem FT_X1_22 : am_find FT_X1 22 = some (1, 1) := rfl
theorem FT_X1_55 : am_find FT_X1 55 = some (9, 1) := rfl
theorem PT_X1_55 : am_find PT_X1 55 = some (9, 1) := rfl
theorem PI_X1_9 : am_find PI_X1 9 = some (1, 2) := rfl
theorem PI_X1_15 : am_find PI_X1 15 = some (1, 3) := rfl
theorem PI_X1_18 : am_find PI_X1 18 = some (1, 0) := rfl
theorem PI_X1_22 : am_find PI_X1 22 = some (1, 1) := rfl
theorem PI_X1_55 : am_find PI_X1 55 = some (9, 1) := rfl
def CT_X1 : List (Nat × Nat) := []
theorem CT_X1_ok : ∀ q ∈ CT_X1, am_CC TB vwCl RX1 q := fun _ h => absurd h List.not_mem_nil
def KT_X1 : List (Nat × Int32) := []
theorem KT_X1_ok : ∀ q ∈ KT_X1, Cond.constant RX1 q.1 q.2 ∈ TB := fun _ h => absurd h List.not_mem_nil
def LT_X1 : List (Nat × Int64) := []
theorem LT_X1_ok : ∀ q ∈ LT_X1, Cond.constantLong RX1 q.1 q.2 ∈ TB := fun _ h => absurd h List.not_mem_nil
def NT_X1 : List (Nat × Nat) := [(3, 3), (66, 2)]
theorem NT_X1_ok : ∀ q ∈ NT_X1, am_NO TB RX1 q := List.forall_mem_cons.mpr ⟨⟨tb_at 425 (by decide +kernel) (by decide +kernel), tb_at 134 (by decide +kernel) (by decide +kernel), tb_at 135 (by decide +kernel) (by decide +kernel)⟩, List.forall_mem_cons.mpr ⟨⟨tb_at 1135 (by decide +kernel) (by decide +kernel), tb_at 787 (by decide +kernel) (by decide +kernel), tb_at 125 (by decide +kernel) (by decide +kernel), tb_at 788 (by decide +kernel) (by decide +kernel)⟩, fun _ h => absurd h List.not_mem_nil⟩⟩
def FT_X2 : List (Nat × Nat × Nat) := [(11, 2, 0), (15, 2, 1), (18, 2, 2), (21, 2, 3), (24, 2, 4), (27, 2, 5)]
theorem FT_X2_ok : ∀ q ∈ FT_X2, am_FO TB vwCl RX2 q := List.forall_mem_cons.mpr ⟨⟨(RX2, TX2, 6), rfl, by decide, tb_at 154 (by decide +kernel) (by decide +kernel)⟩, List.forall_mem_cons.mpr ⟨⟨(RX2, TX2, 6), rfl, by decide, tb_at 155 (by decide +kernel) (by decide +kernel)⟩, List.forall_mem_cons.mpr ⟨⟨(RX2, TX2, 6), rfl, by decide, tb_at 156 (by decide +kernel) (by decide +kernel)⟩, List.forall_mem_cons.mpr ⟨⟨(RX2, TX2, 6), rfl, by decide, tb_at 157 (by decide +kernel) (by decide +kernel)⟩, List.forall_mem_cons.mpr ⟨⟨(RX2, TX2, 6), rfl, by decide, tb_at 158 (by decide +kernel) (by decide +kernel)⟩, List.forall_mem_cons.mpr ⟨⟨(RX2, TX2, 6), rfl, by decide, tb_at 159 (by decide +kernel) (by decide +kernel)⟩, fun _ h => absurd h List.not_mem_nil⟩⟩⟩⟩⟩⟩
def PT_X2 : List (Nat × Nat × Nat) := [(27, 2, 5)]
theorem PT_X2_ok (nm : String) : ∀ q ∈ PT_X2, am_PO TB vwCl RX2 nm q := List.forall_mem_cons.mpr ⟨⟨(RX2, TX2, 6), rfl, by decide, tb_at 159 (by decide +kernel) (by decide +kernel), Or.inl rfl⟩, fun _ h => absurd h List.not_mem_nil⟩
def PI_X2 : List (Nat × Nat × Nat) := [(11, 2, 0), (15, 2, 1), (18, 2, 2), (21, 2, 3), (24, 2, 4), (27, 2, 5)]
theorem PI_X2_ok : ∀ q ∈ PI_X2, am_PO TB vwCl RX2 "<init>" q := List.forall_mem_cons.mpr ⟨⟨(RX2, TX2, 6), rfl, by decide, tb_at 154 (by decide +kernel) (by decide +kernel), Or.inr ⟨rfl, rfl, rfl⟩⟩, List.forall_mem_cons.mpr ⟨⟨(RX2, TX2, 6), rfl, by decide, tb_at 155 (by decide +kernel) (by decide +kernel), Or.inr ⟨rfl, rfl, rfl⟩⟩, List.forall_mem_cons.mpr ⟨⟨(RX2, TX2, 6), rfl, by decide, tb_at 156 (by decide +kernel) (by decide +kernel), Or.inr ⟨rfl, rfl, rfl⟩⟩, List.forall_mem_cons.mpr ⟨⟨(RX2, TX2, 6), rfl, by decide, tb_at 157 (by decide +kernel) (by decide +kernel), Or.inr ⟨rfl, rfl, rfl⟩⟩, List.forall_mem_cons.mpr ⟨⟨(RX2, TX2, 6), rfl, by decide, tb_at 158 (by decide +kernel) (by decide +kernel), Or.inr ⟨rfl, rfl, rfl⟩⟩, List.forall_mem_cons.mpr ⟨⟨(RX2, TX2, 6), rfl, by decide, tb_at 159 (by decide +kernel) (by decide +kernel), Or.inl rfl⟩, fun _ h => absurd h List.not_mem_nil⟩⟩⟩⟩⟩⟩
theorem FT_X2_11 : am_find FT_X2 11 = some (2, 0) := rfl
theorem FT_X2_15 : am_find FT_X2 15 = some (2, 1) := rfl
theorem FT_X2_18 : am_find FT_X2 18 = some (2, 2) := rfl
theorem FT_X2_21 : am_find FT_X2 21 = some (2, 3) := rfl
theorem FT_X2_24 : am_find FT_X2 24 = some (2, 4) := rfl
theorem FT_X2_27 : am_find FT_X2 27 = some (2, 5) := rfl
theorem PT_X2_27 : am_find PT_X2 27 = some (2, 5) := rfl
theorem PI_X2_11 : am_find PI_X2 11 = some (2, 0) := rfl
theorem PI_X2_15 : am_find PI_X2 15 = some (2, 1) := rfl
theorem PI_X2_18 : am_find PI_X2 18 = some (2, 2) := rfl
theorem PI_X2_21 : am_find PI_X2 21 = some (2, 3) := rfl
theorem PI_X2_24 : am_find PI_X2 24 = some (2, 4) := rfl
theorem PI_X2_27 : am_find PI_X2 27 = some (2, 5) := rfl
def CT_X2 : List (Nat × Nat) := []
theorem CT_X2_ok : ∀ q ∈ CT_X2, am_CC TB vwCl RX2 q := fun _ h => absurd h List.not_mem_nil
def KT_X2 : List (Nat × Int32) := []
theorem KT_X2_ok : ∀ q ∈ KT_X2, Cond.constant RX2 q.1 q.2 ∈ TB := fun _ h => absurd h List.not_mem_nil
def LT_X2 : List (Nat × Int64) := []
theorem LT_X2_ok : ∀ q ∈ LT_X2, Cond.constantLong RX2 q.1 q.2 ∈ TB := fun _ h => absurd h List.not_mem_nil
def NT_X2 : List (Nat × Nat) := [(5, 3), (39, 4)]
theorem NT_X2_ok : ∀ q ∈ NT_X2, am_NO TB RX2 q := List.forall_mem_cons.mpr ⟨⟨tb_at 153 (by decide +kernel) (by decide +kernel), tb_at 134 (by decide +kernel) (by decide +kernel), tb_at 135 (by decide +kernel) (by decide +kernel)⟩, List.forall_mem_cons.mpr ⟨⟨tb_at 678 (by decide +kernel) (by decide +kernel), tb_at 680 (by decide +kernel) (by decide +kernel), tb_at 679 (by decide +kernel) (by decide +kernel), tb_at 126 (by decide +kernel) (by decide +kernel)⟩, fun _ h => absurd h List.not_mem_nil⟩⟩
def FT_X3 : List (Nat × Nat × Nat) := [(9, 3, 0), (15, 3, 1), (19, 9, 1), (31, 9, 0)]
theorem FT_X3_ok : ∀ q ∈ FT_X3, am_FO TB vwCl RX3 q := List.forall_mem_cons.mpr ⟨⟨(RX3, TX3, 2), rfl, by decide, tb_at 413 (by decide +kernel) (by decide +kernel)⟩, List.forall_mem_cons.mpr ⟨⟨(RX3, TX3, 2), rfl, by decide, tb_at 414 (by decide +kernel) (by decide +kernel)⟩, List.forall_mem_cons.mpr ⟨⟨(RX9, TX9, 8), rfl, by decide, tb_at 194 (by decide +kernel) (by decide +kernel)⟩, List.forall_mem_cons.mpr ⟨⟨(RX9, TX9, 8), rfl, by decide, tb_at 189 (by decide +kernel) (by decide +kernel)⟩, fun _ h => absurd h List.not_mem_nil⟩⟩⟩⟩
def PT_X3 : List (Nat × Nat × Nat) := [(19, 9, 1), (31, 9, 0)]
theorem PT_X3_ok (nm : String) : ∀ q ∈ PT_X3, am_PO TB vwCl RX3 nm q := List.forall_mem_cons.mpr ⟨⟨(RX9, TX9, 8), rfl, by decide, tb_at 194 (by decide +kernel) (by decide +kernel), Or.inl rfl⟩, List.forall_mem_cons.mpr ⟨⟨(RX9, TX9, 8), rfl, by decide, tb_at 189 (by decide +kernel) (by decide +kernel), Or.inl rfl⟩, fun _ h => absurd h List.not_mem_nil⟩⟩
def PI_X3 : List (Nat × Nat × Nat) := [(9, 3, 0), (15, 3, 1), (19, 9, 1), (31, 9, 0)]
theorem PI_X3_ok : ∀ q ∈ PI_X3, am_PO TB vwCl RX3 "<init>" q := List.forall_mem_cons.mpr ⟨⟨(RX3, TX3, 2), rfl, by decide, tb_at 413 (by decide +kernel) (by decide +kernel), Or.inr ⟨rfl, rfl, rfl⟩⟩, List.forall_mem_cons.mpr ⟨⟨(RX3, TX3, 2), rfl, by decide, tb_at 414 (by decide +kernel) (by decide +kernel), Or.inr ⟨rfl, rfl, rfl⟩⟩, List.forall_mem_cons.mpr ⟨⟨(RX9, TX9, 8), rfl, by decide, tb_at 194 (by decide +kernel) (by decide +kernel), Or.inl rfl⟩, List.forall_mem_cons.mpr ⟨⟨(RX9, TX9, 8), rfl, by decide, tb_at 189 (by decide +kernel) (by decide +kernel), Or.inl rfl⟩, fun _ h => absurd h List.not_mem_nil⟩⟩⟩⟩
theorem FT_X3_9 : am_find FT_X3 9 = some (3, 0) := rfl
theorem FT_X3_15 : am_find FT_X3 15 = some (3, 1) := rfl
theorem FT_X3_19 : am_find FT_X3 19 = some (9, 1) := rfl
theorem FT_X3_31 : am_find FT_X3 31 = some (9, 0) := rfl
theorem PT_X3_19 : am_find PT_X3 19 = some (9, 1) := rfl
theorem PT_X3_31 : am_find PT_X3 31 = some (9, 0) := rfl
theorem PI_X3_9 : am_find PI_X3 9 = some (3, 0) := rfl
theorem PI_X3_15 : am_find PI_X3 15 = some (3, 1) := rfl
theorem PI_X3_19 : am_find PI_X3 19 = some (9, 1) := rfl
theorem PI_X3_31 : am_find PI_X3 31 = some (9, 0) := rfl
def CT_X3 : List (Nat × Nat) := []
theorem CT_X3_ok : ∀ q ∈ CT_X3, am_CC TB vwCl RX3 q := fun _ h => absurd h List.not_mem_nil
def KT_X3 : List (Nat × Int32) := []
theorem KT_X3_ok : ∀ q ∈ KT_X3, Cond.constant RX3 q.1 q.2 ∈ TB := fun _ h => absurd h List.not_mem_nil
def LT_X3 : List (Nat × Int64) := []
theorem LT_X3_ok : ∀ q ∈ LT_X3, Cond.constantLong RX3 q.1 q.2 ∈ TB := fun _ h => absurd h List.not_mem_nil
def NT_X3 : List (Nat × Nat) := [(3, 3), (54, 1), (59, 0), (77, 2)]
theorem NT_X3_ok : ∀ q ∈ NT_X3, am_NO TB RX3 q := List.forall_mem_cons.mpr ⟨⟨tb_at 412 (by decide +kernel) (by decide +kernel), tb_at 134 (by decide +kernel) (by decide +kernel), tb_at 135 (by decide +kernel) (by decide +kernel)⟩, List.forall_mem_cons.mpr ⟨⟨tb_at 995 (by decide +kernel) (by decide +kernel), tb_at 545 (by decide +kernel) (by decide +kernel), tb_at 125 (by decide +kernel) (by decide +kernel), tb_at 546 (by decide +kernel) (by decide +kernel)⟩, List.forall_mem_cons.mpr ⟨⟨tb_at 996 (by decide +kernel) (by decide +kernel), tb_at 752 (by decide +kernel) (by decide +kernel), tb_at 125 (by decide +kernel) (by decide +kernel), tb_at 753 (by decide +kernel) (by decide +kernel)⟩, List.forall_mem_cons.mpr ⟨⟨tb_at 1082 (by decide +kernel) (by decide +kernel), tb_at 787 (by decide +kernel) (by decide +kernel), tb_at 125 (by decide +kernel) (by decide +kernel), tb_at 788 (by decide +kernel) (by decide +kernel)⟩, fun _ h => absurd h List.not_mem_nil⟩⟩⟩⟩
def FT_X4 : List (Nat × Nat × Nat) := [(11, 4, 0)]
theorem FT_X4_ok : ∀ q ∈ FT_X4, am_FO TB vwCl RX4 q := List.forall_mem_cons.mpr ⟨⟨(RX4, TX4, 1), rfl, by decide, tb_at 346 (by decide +kernel) (by decide +kernel)⟩, fun _ h => absurd h List.not_mem_nil⟩
def PT_X4 : List (Nat × Nat × Nat) := []
theorem PT_X4_ok (nm : String) : ∀ q ∈ PT_X4, am_PO TB vwCl RX4 nm q := fun _ h => absurd h List.not_mem_nil
def PI_X4 : List (Nat × Nat × Nat) := [(11, 4, 0)]
theorem PI_X4_ok : ∀ q ∈ PI_X4, am_PO TB vwCl RX4 "<init>" q := List.forall_mem_cons.mpr ⟨⟨(RX4, TX4, 1), rfl, by decide, tb_at 346 (by decide +kernel) (by decide +kernel), Or.inr ⟨rfl, rfl, rfl⟩⟩, fun _ h => absurd h List.not_mem_nil⟩
theorem FT_X4_11 : am_find FT_X4 11 = some (4, 0) := rfl
theorem PI_X4_11 : am_find PI_X4 11 = some (4, 0) := rfl
def CT_X4 : List (Nat × Nat) := []
theorem CT_X4_ok : ∀ q ∈ CT_X4, am_CC TB vwCl RX4 q := fun _ h => absurd h List.not_mem_nil
def KT_X4 : List (Nat × Int32) := [(45, 99999)]
theorem KT_X4_ok : ∀ q ∈ KT_X4, Cond.constant RX4 q.1 q.2 ∈ TB := List.forall_mem_cons.mpr ⟨tb_at 927 (by decide +kernel) (by decide +kernel), fun _ h => absurd h List.not_mem_nil⟩
def LT_X4 : List (Nat × Int64) := []
theorem LT_X4_ok : ∀ q ∈ LT_X4, Cond.constantLong RX4 q.1 q.2 ∈ TB := fun _ h => absurd h List.not_mem_nil
def NT_X4 : List (Nat × Nat) := [(5, 3), (31, 4), (46, 1)]
theorem NT_X4_ok : ∀ q ∈ NT_X4, am_NO TB RX4 q := List.forall_mem_cons.mpr ⟨⟨tb_at 345 (by decide +kernel) (by decide +kernel), tb_at 134 (by decide +kernel) (by decide +kernel), tb_at 135 (by decide +kernel) (by decide +kernel)⟩, List.forall_mem_cons.mpr ⟨⟨tb_at 869 (by decide +kernel) (by decide +kernel), tb_at 680 (by decide +kernel) (by decide +kernel), tb_at 679 (by decide +kernel) (by decide +kernel), tb_at 126 (by decide +kernel) (by decide +kernel)⟩, List.forall_mem_cons.mpr ⟨⟨tb_at 928 (by decide +kernel) (by decide +kernel), tb_at 545 (by decide +kernel) (by decide +kernel), tb_at 125 (by decide +kernel) (by decide +kernel), tb_at 546 (by decide +kernel) (by decide +kernel)⟩, fun _ h => absurd h List.not_mem_nil⟩⟩⟩
def FT_X5 : List (Nat × Nat × Nat) := [(12, 5, 0), (21, 5, 1), (25, 5, 2), (29, 5, 3), (33, 5, 4), (36, 5, 5), (39, 5, 6), (43, 5, 7), (46, 5, 8), (49, 5, 9), (52, 5, 10), (93, 9, 0), (102, 9, 2), (105, 9, 1), (115, 9, 3)]
theorem FT_X5_ok : ∀ q ∈ FT_X5, am_FO TB vwCl RX5 q := List.forall_mem_cons.mpr ⟨⟨(RX5, TX5, 11), rfl, by decide, tb_at 303 (by decide +kernel) (by decide +kernel)⟩, List.forall_mem_cons.mpr ⟨⟨(RX5, TX5, 11), rfl, by decide, tb_at 305 (by decide +kernel) (by decide +kernel)⟩, List.forall_mem_cons.mpr ⟨⟨(RX5, TX5, 11), rfl, by decide, tb_at 306 (by decide +kernel) (by decide +kernel)⟩, List.forall_mem_cons.mpr ⟨⟨(RX5, TX5, 11), rfl, by decide, tb_at 307 (by decide +kernel) (by decide +kernel)⟩, List.forall_mem_cons.mpr ⟨⟨(RX5, TX5, 11), rfl, by decide, tb_at 308 (by decide +kernel) (by decide +kernel)⟩, List.forall_mem_cons.mpr ⟨⟨(RX5, TX5, 11), rfl, by decide, tb_at 309 (by decide +kernel) (by decide +kernel)⟩, List.forall_mem_cons.mpr ⟨⟨(RX5, TX5, 11), rfl, by decide, tb_at 310 (by decide +kernel) (by decide +kernel)⟩, List.forall_mem_cons.mpr ⟨⟨(RX5, TX5, 11), rfl, by decide, tb_at 311 (by decide +kernel) (by decide +kernel)⟩, List.forall_mem_cons.mpr ⟨⟨(RX5, TX5, 11), rfl, by decide, tb_at 312 (by decide +kernel) (by decide +kernel)⟩, List.forall_mem_cons.mpr ⟨⟨(RX5, TX5, 11), rfl, by decide, tb_at 313 (by decide +kernel) (by decide +kernel)⟩, List.forall_mem_cons.mpr ⟨⟨(RX5, TX5, 11), rfl, by decide, tb_at 314 (by decide +kernel) (by decide +kernel)⟩, List.forall_mem_cons.mpr ⟨⟨(RX9, TX9, 8), rfl, by decide, tb_at 191 (by decide +kernel) (by decide +kernel)⟩, List.forall_mem_cons.mpr ⟨⟨(RX9, TX9, 8), rfl, by decide, tb_at 201 (by decide +kernel) (by decide +kernel)⟩, List.forall_mem_cons.mpr ⟨⟨(RX9, TX9, 8), rfl, by decide, tb_at 199 (by decide +kernel) (by decide +kernel)⟩, List.forall_mem_cons.mpr ⟨⟨(RX9, TX9, 8), rfl, by decide, tb_at 205 (by decide +kernel) (by decide +kernel)⟩, fun _ h => absurd h List.not_mem_nil⟩⟩⟩⟩⟩⟩⟩⟩⟩⟩⟩⟩⟩⟩⟩
def PT_X5 : List (Nat × Nat × Nat) := [(29, 5, 3), (33, 5, 4), (36, 5, 5), (39, 5, 6), (43, 5, 7), (46, 5, 8), (49, 5, 9), (52, 5, 10), (93, 9, 0), (102, 9, 2), (105, 9, 1)]
theorem PT_X5_ok (nm : String) : ∀ q ∈ PT_X5, am_PO TB vwCl RX5 nm q := List.forall_mem_cons.mpr ⟨⟨(RX5, TX5, 11), rfl, by decide, tb_at 307 (by decide +kernel) (by decide +kernel), Or.inl rfl⟩, List.forall_mem_cons.mpr ⟨⟨(RX5, TX5, 11), rfl, by decide, tb_at 308 (by decide +kernel) (by decide +kernel), Or.inl rfl⟩, List.forall_mem_cons.mpr ⟨⟨(RX5, TX5, 11), rfl, by decide, tb_at 309 (by decide +kernel) (by decide +kernel), Or.inl rfl⟩, List.forall_mem_cons.mpr ⟨⟨(RX5, TX5, 11), rfl, by decide, tb_at 310 (by decide +kernel) (by decide +kernel), Or.inl rfl⟩, List.forall_mem_cons.mpr ⟨⟨(RX5, TX5, 11), rfl, by decide, tb_at 311 (by decide +kernel) (by decide +kernel), Or.inl rfl⟩, List.forall_mem_cons.mpr ⟨⟨(RX5, TX5, 11), rfl, by decide, tb_at 312 (by decide +kernel) (by decide +kernel), Or.inl rfl⟩, List.forall_mem_cons.mpr ⟨⟨(RX5, TX5, 11), rfl, by decide, tb_at 313 (by decide +kernel) (by decide +kernel), Or.inl rfl⟩, List.forall_mem_cons.mpr ⟨⟨(RX5, TX5, 11), rfl, by decide, tb_at 314 (by decide +kernel) (by decide +kernel), Or.inl rfl⟩, List.forall_mem_cons.mpr ⟨⟨(RX9, TX9, 8), rfl, by decide, tb_at 191 (by decide +kernel) (by decide +kernel), Or.inl rfl⟩, List.forall_mem_cons.mpr ⟨⟨(RX9, TX9, 8), rfl, by decide, tb_at 201 (by decide +kernel) (by decide +kernel), Or.inl rfl⟩, List.forall_mem_cons.mpr ⟨⟨(RX9, TX9, 8), rfl, by decide, tb_at 199 (by decide +kernel) (by decide +kernel), Or.inl rfl⟩, fun _ h => absurd h List.not_mem_nil⟩⟩⟩⟩⟩⟩⟩⟩⟩⟩⟩
def PI_X5 : List (Nat × Nat × Nat) := [(12, 5, 0), (21, 5, 1), (25, 5, 2), (29, 5, 3), (33, 5, 4), (36, 5, 5), (39, 5, 6), (43, 5, 7), (46, 5, 8), (49, 5, 9), (52, 5, 10), (93, 9, 0), (102, 9, 2), (105, 9, 1)]
theorem PI_X5_ok : ∀ q ∈ PI_X5, am_PO TB vwCl RX5 "<init>" q := List.forall_mem_cons.mpr ⟨⟨(RX5, TX5, 11), rfl, by decide, tb_at 303 (by decide +kernel) (by decide +kernel), Or.inr ⟨rfl, rfl, rfl⟩⟩, List.forall_mem_cons.mpr ⟨⟨(RX5, TX5, 11), rfl, by decide, tb_at 305 (by decide +kernel) (by decide +kernel), Or.inr ⟨rfl, rfl, rfl⟩⟩, List.forall_mem_cons.mpr ⟨⟨(RX5, TX5, 11), rfl, by decide, tb_at 306 (by decide +kernel) (by decide +kernel), Or.inr ⟨rfl, rfl, rfl⟩⟩, List.forall_mem_cons.mpr ⟨⟨(RX5, TX5, 11), rfl, by decide, tb_at 307 (by decide +kernel) (by decide +kernel), Or.inl rfl⟩, List.forall_mem_cons.mpr ⟨⟨(RX5, TX5, 11), rfl, by decide, tb_at 308 (by decide +kernel) (by decide +kernel), Or.inl rfl⟩, List.forall_mem_cons.mpr ⟨⟨(RX5, TX5, 11), rfl, by decide, tb_at 309 (by decide +kernel) (by decide +kernel), Or.inl rfl⟩, List.forall_mem_cons.mpr ⟨⟨(RX5, TX5, 11), rfl, by decide, tb_at 310 (by decide +kernel) (by decide +kernel), Or.inl rfl⟩, List.forall_mem_cons.mpr ⟨⟨(RX5, TX5, 11), rfl, by decide, tb_at 311 (by decide +kernel) (by decide +kernel), Or.inl rfl⟩, List.forall_mem_cons.mpr ⟨⟨(RX5, TX5, 11), rfl, by decide, tb_at 312 (by decide +kernel) (by decide +kernel), Or.inl rfl⟩, List.forall_mem_cons.mpr ⟨⟨(RX5, TX5, 11), rfl, by decide, tb_at 313 (by decide +kernel) (by decide +kernel), Or.inl rfl⟩, List.forall_mem_cons.mpr ⟨⟨(RX5, TX5, 11), rfl, by decide, tb_at 314 (by decide +kernel) (by decide +kernel), Or.inl rfl⟩, List.forall_mem_cons.mpr ⟨⟨(RX9, TX9, 8), rfl, by decide, tb_at 191 (by decide +kernel) (by decide +kernel), Or.inl rfl⟩, List.forall_mem_cons.mpr ⟨⟨(RX9, TX9, 8), rfl, by decide, tb_at 201 (by decide +kernel) (by decide +kernel), Or.inl rfl⟩, List.forall_mem_cons.mpr ⟨⟨(RX9, TX9, 8), rfl, by decide, tb_at 199 (by decide +kernel) (by decide +kernel), Or.inl rfl⟩, fun _ h => absurd h List.not_mem_nil⟩⟩⟩⟩⟩⟩⟩⟩⟩⟩⟩⟩⟩⟩
theorem FT_X5_12 : am_find FT_X5 12 = some (5, 0) := rfl
theorem FT_X5_21 : am_find FT_X5 21 = some (5, 1) := rfl
theorem FT_X5_25 : am_find FT_X5 25 = some (5, 2) := rfl
theorem FT_X5_29 : am_find FT_X5 29 = some (5, 3) := rfl
theorem FT_X5_33 : am_find FT_X5 33 = some (5, 4) := rfl
theorem FT_X5_36 : am_find FT_X5 36 = some (5, 5) := rfl
theorem FT_X5_39 : am_find FT_X5 39 = some (5, 6) := rfl
theorem FT_X5_43 : am_find FT_X5 43 = some (5, 7) := rfl
theorem FT_X5_46 : am_find FT_X5 46 = some (5, 8) := rfl
theorem FT_X5_49 : am_find FT_X5 49 = some (5, 9) := rfl
theorem FT_X5_52 : am_find FT_X5 52 = some (5, 10) := rfl
theorem FT_X5_93 : am_find FT_X5 93 = some (9, 0) := rfl
theorem FT_X5_102 : am_find FT_X5 102 = some (9, 2) := rfl
theorem FT_X5_105 : am_find FT_X5 105 = some (9, 1) := rfl
theorem FT_X5_115 : am_find FT_X5 115 = some (9, 3) := rfl
theorem PT_X5_29 : am_find PT_X5 29 = some (5, 3) := rfl
theorem PT_X5_33 : am_find PT_X5 33 = some (5, 4) := rfl
theorem PT_X5_36 : am_find PT_X5 36 = some (5, 5) := rfl
theorem PT_X5_39 : am_find PT_X5 39 = some (5, 6) := rfl
theorem PT_X5_43 : am_find PT_X5 43 = some (5, 7) := rfl
theorem PT_X5_46 : am_find PT_X5 46 = some (5, 8) := rfl
theorem PT_X5_49 : am_find PT_X5 49 = some (5, 9) := rfl
theorem PT_X5_52 : am_find PT_X5 52 = some (5, 10) := rfl
theorem PT_X5_93 : am_find PT_X5 93 = some (9, 0) := rfl
theorem PT_X5_102 : am_find PT_X5 102 = some (9, 2) := rfl
theorem PT_X5_105 : am_find PT_X5 105 = some (9, 1) := rfl
theorem PI_X5_12 : am_find PI_X5 12 = some (5, 0) := rfl
theorem PI_X5_21 : am_find PI_X5 21 = some (5, 1) := rfl
theorem PI_X5_25 : am_find PI_X5 25 = some (5, 2) := rfl
theorem PI_X5_29 : am_find PI_X5 29 = some (5, 3) := rfl
theorem PI_X5_33 : am_find PI_X5 33 = some (5, 4) := rfl
theorem PI_X5_36 : am_find PI_X5 36 = some (5, 5) := rfl
theorem PI_X5_39 : am_find PI_X5 39 = some (5, 6) := rfl
theorem PI_X5_43 : am_find PI_X5 43 = some (5, 7) := rfl
theorem PI_X5_46 : am_find PI_X5 46 = some (5, 8) := rfl
theorem PI_X5_49 : am_find PI_X5 49 = some (5, 9) := rfl
theorem PI_X5_52 : am_find PI_X5 52 = some (5, 10) := rfl
theorem PI_X5_93 : am_find PI_X5 93 = some (9, 0) := rfl
theorem PI_X5_102 : am_find PI_X5 102 = some (9, 2) := rfl
theorem PI_X5_105 : am_find PI_X5 105 = some (9, 1) := rfl
def CT_X5 : List (Nat × Nat) := [(9, 9), (18, 8)]
theorem CT_X5_ok : ∀ q ∈ CT_X5, am_CC TB vwCl RX5 q := List.forall_mem_cons.mpr ⟨⟨(RX9, TX9, 8), rfl, tb_at 142 (by decide +kernel) (by decide +kernel), tb_at 143 (by decide +kernel) (by decide +kernel), tb_at 109 (by decide +kernel) (by decide +kernel)⟩, List.forall_mem_cons.mpr ⟨⟨(RX8, TX8, 5), rfl, tb_at 227 (by decide +kernel) (by decide +kernel), tb_at 228 (by decide +kernel) (by decide +kernel), tb_at 111 (by decide +kernel) (by decide +kernel)⟩, fun _ h => absurd h List.not_mem_nil⟩⟩
def KT_X5 : List (Nat × Int32) := []
theorem KT_X5_ok : ∀ q ∈ KT_X5, Cond.constant RX5 q.1 q.2 ∈ TB := fun _ h => absurd h List.not_mem_nil
def LT_X5 : List (Nat × Int64) := []
theorem LT_X5_ok : ∀ q ∈ LT_X5, Cond.constantLong RX5 q.1 q.2 ∈ TB := fun _ h => absurd h List.not_mem_nil
def NT_X5 : List (Nat × Nat) := [(3, 3)]
theorem NT_X5_ok : ∀ q ∈ NT_X5, am_NO TB RX5 q := List.forall_mem_cons.mpr ⟨⟨tb_at 141 (by decide +kernel) (by decide +kernel), tb_at 134 (by decide +kernel) (by decide +kernel), tb_at 135 (by decide +kernel) (by decide +kernel)⟩, fun _ h => absurd h List.not_mem_nil⟩
def FT_X6 : List (Nat × Nat × Nat) := [(11, 6, 1), (15, 6, 2), (19, 6, 3), (23, 6, 0), (27, 9, 1), (49, 9, 0)]
theorem FT_X6_ok : ∀ q ∈ FT_X6, am_FO TB vwCl RX6 q := List.forall_mem_cons.mpr ⟨⟨(RX6, TX6, 4), rfl, by decide, tb_at 446 (by decide +kernel) (by decide +kernel)⟩, List.forall_mem_cons.mpr ⟨⟨(RX6, TX6, 4), rfl, by decide, tb_at 447 (by decide +kernel) (by decide +kernel)⟩, List.forall_mem_cons.mpr ⟨⟨(RX6, TX6, 4), rfl, by decide, tb_at 448 (by decide +kernel) (by decide +kernel)⟩, List.forall_mem_cons.mpr ⟨⟨(RX6, TX6, 4), rfl, by decide, tb_at 445 (by decide +kernel) (by decide +kernel)⟩, List.forall_mem_cons.mpr ⟨⟨(RX9, TX9, 8), rfl, by decide, tb_at 196 (by decide +kernel) (by decide +kernel)⟩, List.forall_mem_cons.mpr ⟨⟨(RX9, TX9, 8), rfl, by decide, tb_at 190 (by decide +kernel) (by decide +kernel)⟩, fun _ h => absurd h List.not_mem_nil⟩⟩⟩⟩⟩⟩
def PT_X6 : List (Nat × Nat × Nat) := [(19, 6, 3), (27, 9, 1), (49, 9, 0)]
theorem PT_X6_ok (nm : String) : ∀ q ∈ PT_X6, am_PO TB vwCl RX6 nm q := List.forall_mem_cons.mpr ⟨⟨(RX6, TX6, 4), rfl, by decide, tb_at 448 (by decide +kernel) (by decide +kernel), Or.inl rfl⟩, List.forall_mem_cons.mpr ⟨⟨(RX9, TX9, 8), rfl, by decide, tb_at 196 (by decide +kernel) (by decide +kernel), Or.inl rfl⟩, List.forall_mem_cons.mpr ⟨⟨(RX9, TX9, 8), rfl, by decide, tb_at 190 (by decide +kernel) (by decide +kernel), Or.inl rfl⟩, fun _ h => absurd h List.not_mem_nil⟩⟩⟩
def PI_X6 : List (Nat × Nat × Nat) := [(11, 6, 1), (15, 6, 2), (19, 6, 3), (23, 6, 0), (27, 9, 1), (49, 9, 0)]
theorem PI_X6_ok : ∀ q ∈ PI_X6, am_PO TB vwCl RX6 "<init>" q := List.forall_mem_cons.mpr ⟨⟨(RX6, TX6, 4), rfl, by decide, tb_at 446 (by decide +kernel) (by decide +kernel), Or.inr ⟨rfl, rfl, rfl⟩⟩, List.forall_mem_cons.mpr ⟨⟨(RX6, TX6, 4), rfl, by decide, tb_at 447 (by decide +kernel) (by decide +kernel), Or.inr ⟨rfl, rfl, rfl⟩⟩, List.forall_mem_cons.mpr ⟨⟨(RX6, TX6, 4), rfl, by decide, tb_at 448 (by decide +kernel) (by decide +kernel), Or.inl rfl⟩, List.forall_mem_cons.mpr ⟨⟨(RX6, TX6, 4), rfl, by decide, tb_at 445 (by decide +kernel) (by decide +kernel), Or.inr ⟨rfl, rfl, rfl⟩⟩, List.forall_mem_cons.mpr ⟨⟨(RX9, TX9, 8), rfl, by decide, tb_at 196 (by decide +kernel) (by decide +kernel), Or.inl rfl⟩, List.forall_mem_cons.mpr ⟨⟨(RX9, TX9, 8), rfl, by decide, tb_at 190 (by decide +kernel) (by decide +kernel), Or.inl rfl⟩, fun _ h => absurd h List.not_mem_nil⟩⟩⟩⟩⟩⟩
theorem FT_X6_11 : am_find FT_X6 11 = some (6, 1) := rfl
theorem FT_X6_15 : am_find FT_X6 15 = some (6, 2) := rfl
theorem FT_X6_19 : am_find FT_X6 19 = some (6, 3) := rfl
theorem FT_X6_23 : am_find FT_X6 23 = some (6, 0) := rfl
theorem FT_X6_27 : am_find FT_X6 27 = some (9, 1) := rfl
theorem FT_X6_49 : am_find FT_X6 49 = some (9, 0) := rfl
theorem PT_X6_19 : am_find PT_X6 19 = some (6, 3) := rfl
theorem PT_X6_27 : am_find PT_X6 27 = some (9, 1) := rfl
theorem PT_X6_49 : am_find PT_X6 49 = some (9, 0) := rfl
theorem PI_X6_11 : am_find PI_X6 11 = some (6, 1) := rfl
theorem PI_X6_15 : am_find PI_X6 15 = some (6, 2) := rfl
theorem PI_X6_19 : am_find PI_X6 19 = some (6, 3) := rfl
theorem PI_X6_23 : am_find PI_X6 23 = some (6, 0) := rfl
theorem PI_X6_27 : am_find PI_X6 27 = some (9, 1) := rfl
theorem PI_X6_49 : am_find PI_X6 49 = some (9, 0) := rfl
def CT_X6 : List (Nat × Nat) := []
theorem CT_X6_ok : ∀ q ∈ CT_X6, am_CC TB vwCl RX6 q := fun _ h => absurd h List.not_mem_nil
def KT_X6 : List (Nat × Int32) := []
theorem KT_X6_ok : ∀ q ∈ KT_X6, Cond.constant RX6 q.1 q.2 ∈ TB := fun _ h => absurd h List.not_mem_nil
def LT_X6 : List (Nat × Int64) := []
theorem LT_X6_ok : ∀ q ∈ LT_X6, Cond.constantLong RX6 q.1 q.2 ∈ TB := fun _ h => absurd h List.not_mem_nil
def NT_X6 : List (Nat × Nat) := [(3, 3), (60, 0)]
theorem NT_X6_ok : ∀ q ∈ NT_X6, am_NO TB RX6 q := List.forall_mem_cons.mpr ⟨⟨tb_at 444 (by decide +kernel) (by decide +kernel), tb_at 134 (by decide +kernel) (by decide +kernel), tb_at 135 (by decide +kernel) (by decide +kernel)⟩, List.forall_mem_cons.mpr ⟨⟨tb_at 1300 (by decide +kernel) (by decide +kernel), tb_at 752 (by decide +kernel) (by decide +kernel), tb_at 125 (by decide +kernel) (by decide +kernel), tb_at 753 (by decide +kernel) (by decide +kernel)⟩, fun _ h => absurd h List.not_mem_nil⟩⟩
def FT_X7 : List (Nat × Nat × Nat) := [(11, 7, 0), (15, 7, 1), (18, 7, 2), (22, 7, 3), (25, 7, 4)]
theorem FT_X7_ok : ∀ q ∈ FT_X7, am_FO TB vwCl RX7 q := List.forall_mem_cons.mpr ⟨⟨(RX7, TX7, 5), rfl, by decide, tb_at 356 (by decide +kernel) (by decide +kernel)⟩, List.forall_mem_cons.mpr ⟨⟨(RX7, TX7, 5), rfl, by decide, tb_at 357 (by decide +kernel) (by decide +kernel)⟩, List.forall_mem_cons.mpr ⟨⟨(RX7, TX7, 5), rfl, by decide, tb_at 358 (by decide +kernel) (by decide +kernel)⟩, List.forall_mem_cons.mpr ⟨⟨(RX7, TX7, 5), rfl, by decide, tb_at 359 (by decide +kernel) (by decide +kernel)⟩, List.forall_mem_cons.mpr ⟨⟨(RX7, TX7, 5), rfl, by decide, tb_at 360 (by decide +kernel) (by decide +kernel)⟩, fun _ h => absurd h List.not_mem_nil⟩⟩⟩⟩⟩
def PT_X7 : List (Nat × Nat × Nat) := [(18, 7, 2), (22, 7, 3), (25, 7, 4)]
theorem PT_X7_ok (nm : String) : ∀ q ∈ PT_X7, am_PO TB vwCl RX7 nm q := List.forall_mem_cons.mpr ⟨⟨(RX7, TX7, 5), rfl, by decide, tb_at 358 (by decide +kernel) (by decide +kernel), Or.inl rfl⟩, List.forall_mem_cons.mpr ⟨⟨(RX7, TX7, 5), rfl, by decide, tb_at 359 (by decide +kernel) (by decide +kernel), Or.inl rfl⟩, List.forall_mem_cons.mpr ⟨⟨(RX7, TX7, 5), rfl, by decide, tb_at 360 (by decide +kernel) (by decide +kernel), Or.inl rfl⟩, fun _ h => absurd h List.not_mem_nil⟩⟩⟩
def PI_X7 : List (Nat × Nat × Nat) := [(11, 7, 0), (15, 7, 1), (18, 7, 2), (22, 7, 3), (25, 7, 4)]
theorem PI_X7_ok : ∀ q ∈ PI_X7, am_PO TB vwCl RX7 "<init>" q := List.forall_mem_cons.mpr ⟨⟨(RX7, TX7, 5), rfl, by decide, tb_at 356 (by decide +kernel) (by decide +kernel), Or.inr ⟨rfl, rfl, rfl⟩⟩, List.forall_mem_cons.mpr ⟨⟨(RX7, TX7, 5), rfl, by decide, tb_at 357 (by decide +kernel) (by decide +kernel), Or.inr ⟨rfl, rfl, rfl⟩⟩, List.forall_mem_cons.mpr ⟨⟨(RX7, TX7, 5), rfl, by decide, tb_at 358 (by decide +kernel) (by decide +kernel), Or.inl rfl⟩, List.forall_mem_cons.mpr ⟨⟨(RX7, TX7, 5), rfl, by decide, tb_at 359 (by decide +kernel) (by decide +kernel), Or.inl rfl⟩, List.forall_mem_cons.mpr ⟨⟨(RX7, TX7, 5), rfl, by decide, tb_at 360 (by decide +kernel) (by decide +kernel), Or.inl rfl⟩, fun _ h => absurd h List.not_mem_nil⟩⟩⟩⟩⟩
theorem FT_X7_11 : am_find FT_X7 11 = some (7, 0) := rfl
theorem FT_X7_15 : am_find FT_X7 15 = some (7, 1) := rfl
theorem FT_X7_18 : am_find FT_X7 18 = some (7, 2) := rfl
theorem FT_X7_22 : am_find FT_X7 22 = some (7, 3) := rfl
theorem FT_X7_25 : am_find FT_X7 25 = some (7, 4) := rfl
theorem PT_X7_18 : am_find PT_X7 18 = some (7, 2) := rfl
theorem PT_X7_22 : am_find PT_X7 22 = some (7, 3) := rfl
theorem PT_X7_25 : am_find PT_X7 25 = some (7, 4) := rfl
theorem PI_X7_11 : am_find PI_X7 11 = some (7, 0) := rfl
theorem PI_X7_15 : am_find PI_X7 15 = some (7, 1) := rfl
theorem PI_X7_18 : am_find PI_X7 18 = some (7, 2) := rfl
theorem PI_X7_22 : am_find PI_X7 22 = some (7, 3) := rfl
theorem PI_X7_25 : am_find PI_X7 25 = some (7, 4) := rfl
def CT_X7 : List (Nat × Nat) := []
theorem CT_X7_ok : ∀ q ∈ CT_X7, am_CC TB vwCl RX7 q := fun _ h => absurd h List.not_mem_nil
def KT_X7 : List (Nat × Int32) := []
theorem KT_X7_ok : ∀ q ∈ KT_X7, Cond.constant RX7 q.1 q.2 ∈ TB := fun _ h => absurd h List.not_mem_nil
def LT_X7 : List (Nat × Int64) := []
theorem LT_X7_ok : ∀ q ∈ LT_X7, Cond.constantLong RX7 q.1 q.2 ∈ TB := fun _ h => absurd h List.not_mem_nil
def NT_X7 : List (Nat × Nat) := [(1, 3), (38, 1)]
theorem NT_X7_ok : ∀ q ∈ NT_X7, am_NO TB RX7 q := List.forall_mem_cons.mpr ⟨⟨tb_at 355 (by decide +kernel) (by decide +kernel), tb_at 134 (by decide +kernel) (by decide +kernel), tb_at 135 (by decide +kernel) (by decide +kernel)⟩, List.forall_mem_cons.mpr ⟨⟨tb_at 870 (by decide +kernel) (by decide +kernel), tb_at 545 (by decide +kernel) (by decide +kernel), tb_at 125 (by decide +kernel) (by decide +kernel), tb_at 546 (by decide +kernel) (by decide +kernel)⟩, fun _ h => absurd h List.not_mem_nil⟩⟩
def FT_X8 : List (Nat × Nat × Nat) := [(9, 8, 0), (13, 8, 1), (17, 8, 2), (20, 8, 3), (23, 8, 4)]
theorem FT_X8_ok : ∀ q ∈ FT_X8, am_FO TB vwCl RX8 q := List.forall_mem_cons.mpr ⟨⟨(RX8, TX8, 5), rfl, by decide, tb_at 286 (by decide +kernel) (by decide +kernel)⟩, List.forall_mem_cons.mpr ⟨⟨(RX8, TX8, 5), rfl, by decide, tb_at 287 (by decide +kernel) (by decide +kernel)⟩, List.forall_mem_cons.mpr ⟨⟨(RX8, TX8, 5), rfl, by decide, tb_at 288 (by decide +kernel) (by decide +kernel)⟩, List.forall_mem_cons.mpr ⟨⟨(RX8, TX8, 5), rfl, by decide, tb_at 289 (by decide +kernel) (by decide +kernel)⟩, List.forall_mem_cons.mpr ⟨⟨(RX8, TX8, 5), rfl, by decide, tb_at 290 (by decide +kernel) (by decide +kernel)⟩, fun _ h => absurd h List.not_mem_nil⟩⟩⟩⟩⟩
def PT_X8 : List (Nat × Nat × Nat) := [(23, 8, 4)]
theorem PT_X8_ok (nm : String) : ∀ q ∈ PT_X8, am_PO TB vwCl RX8 nm q := List.forall_mem_cons.mpr ⟨⟨(RX8, TX8, 5), rfl, by decide, tb_at 290 (by decide +kernel) (by decide +kernel), Or.inl rfl⟩, fun _ h => absurd h List.not_mem_nil⟩
def PI_X8 : List (Nat × Nat × Nat) := [(9, 8, 0), (13, 8, 1), (17, 8, 2), (20, 8, 3), (23, 8, 4)]
theorem PI_X8_ok : ∀ q ∈ PI_X8, am_PO TB vwCl RX8 "<init>" q := List.forall_mem_cons.mpr ⟨⟨(RX8, TX8, 5), rfl, by decide, tb_at 286 (by decide +kernel) (by decide +kernel), Or.inr ⟨rfl, rfl, rfl⟩⟩, List.forall_mem_cons.mpr ⟨⟨(RX8, TX8, 5), rfl, by decide, tb_at 287 (by decide +kernel) (by decide +kernel), Or.inr ⟨rfl, rfl, rfl⟩⟩, List.forall_mem_cons.mpr ⟨⟨(RX8, TX8, 5), rfl, by decide, tb_at 288 (by decide +kernel) (by decide +kernel), Or.inr ⟨rfl, rfl, rfl⟩⟩, List.forall_mem_cons.mpr ⟨⟨(RX8, TX8, 5), rfl, by decide, tb_at 289 (by decide +kernel) (by decide +kernel), Or.inr ⟨rfl, rfl, rfl⟩⟩, List.forall_mem_cons.mpr ⟨⟨(RX8, TX8, 5), rfl, by decide, tb_at 290 (by decide +kernel) (by decide +kernel), Or.inl rfl⟩, fun _ h => absurd h List.not_mem_nil⟩⟩⟩⟩⟩
theorem FT_X8_9 : am_find FT_X8 9 = some (8, 0) := rfl
theorem FT_X8_13 : am_find FT_X8 13 = some (8, 1) := rfl
theorem FT_X8_17 : am_find FT_X8 17 = some (8, 2) := rfl
theorem FT_X8_20 : am_find FT_X8 20 = some (8, 3) := rfl
theorem FT_X8_23 : am_find FT_X8 23 = some (8, 4) := rfl
theorem PT_X8_23 : am_find PT_X8 23 = some (8, 4) := rfl
theorem PI_X8_9 : am_find PI_X8 9 = some (8, 0) := rfl
theorem PI_X8_13 : am_find PI_X8 13 = some (8, 1) := rfl
theorem PI_X8_17 : am_find PI_X8 17 = some (8, 2) := rfl
theorem PI_X8_20 : am_find PI_X8 20 = some (8, 3) := rfl
theorem PI_X8_23 : am_find PI_X8 23 = some (8, 4) := rfl
def CT_X8 : List (Nat × Nat) := []
theorem CT_X8_ok : ∀ q ∈ CT_X8, am_CC TB vwCl RX8 q := fun _ h => absurd h List.not_mem_nil
def KT_X8 : List (Nat × Int32) := []
theorem KT_X8_ok : ∀ q ∈ KT_X8, Cond.constant RX8 q.1 q.2 ∈ TB := fun _ h => absurd h List.not_mem_nil
def LT_X8 : List (Nat × Int64) := [(43, 27)]
theorem LT_X8_ok : ∀ q ∈ LT_X8, Cond.constantLong RX8 q.1 q.2 ∈ TB := List.forall_mem_cons.mpr ⟨tb_at 285 (by decide +kernel) (by decide +kernel), fun _ h => absurd h List.not_mem_nil⟩
def NT_X8 : List (Nat × Nat) := [(1, 3), (45, 1)]
theorem NT_X8_ok : ∀ q ∈ NT_X8, am_NO TB RX8 q := List.forall_mem_cons.mpr ⟨⟨tb_at 232 (by decide +kernel) (by decide +kernel), tb_at 134 (by decide +kernel) (by decide +kernel), tb_at 135 (by decide +kernel) (by decide +kernel)⟩, List.forall_mem_cons.mpr ⟨⟨tb_at 544 (by decide +kernel) (by decide +kernel), tb_at 545 (by decide +kernel) (by decide +kernel), tb_at 125 (by decide +kernel) (by decide +kernel), tb_at 546 (by decide +kernel) (by decide +kernel)⟩, fun _ h => absurd h List.not_mem_nil⟩⟩
def FT_X9 : List (Nat × Nat × Nat) := [(9, 9, 0), (15, 9, 1), (18, 9, 2), (24, 9, 3), (28, 9, 4), (32, 9, 5), (35, 9, 6), (38, 9, 7)]
theorem FT_X9_ok : ∀ q ∈ FT_X9, am_FO TB vwCl RX9 q := List.forall_mem_cons.mpr ⟨⟨(RX9, TX9, 8), rfl, by decide, tb_at 187 (by decide +kernel) (by decide +kernel)⟩, List.forall_mem_cons.mpr ⟨⟨(RX9, TX9, 8), rfl, by decide, tb_at 193 (by decide +kernel) (by decide +kernel)⟩, List.forall_mem_cons.mpr ⟨⟨(RX9, TX9, 8), rfl, by decide, tb_at 200 (by decide +kernel) (by decide +kernel)⟩, List.forall_mem_cons.mpr ⟨⟨(RX9, TX9, 8), rfl, by decide, tb_at 204 (by decide +kernel) (by decide +kernel)⟩, List.forall_mem_cons.mpr ⟨⟨(RX9, TX9, 8), rfl, by decide, tb_at 206 (by decide +kernel) (by decide +kernel)⟩, List.forall_mem_cons.mpr ⟨⟨(RX9, TX9, 8), rfl, by decide, tb_at 207 (by decide +kernel) (by decide +kernel)⟩, List.forall_mem_cons.mpr ⟨⟨(RX9, TX9, 8), rfl, by decide, tb_at 208 (by decide +kernel) (by decide +kernel)⟩, List.forall_mem_cons.mpr ⟨⟨(RX9, TX9, 8), rfl, by decide, tb_at 209 (by decide +kernel) (by decide +kernel)⟩, fun _ h => absurd h List.not_mem_nil⟩⟩⟩⟩⟩⟩⟩⟩
def PT_X9 : List (Nat × Nat × Nat) := [(9, 9, 0), (15, 9, 1), (18, 9, 2)]
theorem PT_X9_ok (nm : String) : ∀ q ∈ PT_X9, am_PO TB vwCl RX9 nm q := List.forall_mem_cons.mpr ⟨⟨(RX9, TX9, 8), rfl, by decide, tb_at 187 (by decide +kernel) (by decide +kernel), Or.inl rfl⟩, List.forall_mem_cons.mpr ⟨⟨(RX9, TX9, 8), rfl, by decide, tb_at 193 (by decide +kernel) (by decide +kernel), Or.inl rfl⟩, List.forall_mem_cons.mpr ⟨⟨(RX9, TX9, 8), rfl, by decide, tb_at 200 (by decide +kernel) (by decide +kernel), Or.inl rfl⟩, fun _ h => absurd h List.not_mem_nil⟩⟩⟩
def PI_X9 : List (Nat × Nat × Nat) := [(9, 9, 0), (15, 9, 1), (18, 9, 2), (24, 9, 3), (28, 9, 4), (32, 9, 5), (35, 9, 6), (38, 9, 7)]
theorem PI_X9_ok : ∀ q ∈ PI_X9, am_PO TB vwCl RX9 "<init>" q := List.forall_mem_cons.mpr ⟨⟨(RX9, TX9, 8), rfl, by decide, tb_at 187 (by decide +kernel) (by decide +kernel), Or.inl rfl⟩, List.forall_mem_cons.mpr ⟨⟨(RX9, TX9, 8), rfl, by decide, tb_at 193 (by decide +kernel) (by decide +kernel), Or.inl rfl⟩, List.forall_mem_cons.mpr ⟨⟨(RX9, TX9, 8), rfl, by decide, tb_at 200 (by decide +kernel) (by decide +kernel), Or.inl rfl⟩, List.forall_mem_cons.mpr ⟨⟨(RX9, TX9, 8), rfl, by decide, tb_at 204 (by decide +kernel) (by decide +kernel), Or.inr ⟨rfl, rfl, rfl⟩⟩, List.forall_mem_cons.mpr ⟨⟨(RX9, TX9, 8), rfl, by decide, tb_at 206 (by decide +kernel) (by decide +kernel), Or.inr ⟨rfl, rfl, rfl⟩⟩, List.forall_mem_cons.mpr ⟨⟨(RX9, TX9, 8), rfl, by decide, tb_at 207 (by decide +kernel) (by decide +kernel), Or.inr ⟨rfl, rfl, rfl⟩⟩, List.forall_mem_cons.mpr ⟨⟨(RX9, TX9, 8), rfl, by decide, tb_at 208 (by decide +kernel) (by decide +kernel), Or.inr ⟨rfl, rfl, rfl⟩⟩, List.forall_mem_cons.mpr ⟨⟨(RX9, TX9, 8), rfl, by decide, tb_at 209 (by decide +kernel) (by decide +kernel), Or.inr ⟨rfl, rfl, rfl⟩⟩, fun _ h => absurd h List.not_mem_nil⟩⟩⟩⟩⟩⟩⟩⟩
theorem FT_X9_9 : am_find FT_X9 9 = some (9, 0) := rfl
theorem FT_X9_15 : am_find FT_X9 15 = some (9, 1) := rfl
theorem FT_X9_18 : am_find FT_X9 18 = some (9, 2) := rfl
theorem FT_X9_24 : am_find FT_X9 24 = some (9, 3) := rfl
theorem FT_X9_28 : am_find FT_X9 28 = some (9, 4) := rfl
theorem FT_X9_32 : am_find FT_X9 32 = some (9, 5) := rfl
theorem FT_X9_35 : am_find FT_X9 35 = some (9, 6) := rfl
theorem FT_X9_38 : am_find FT_X9 38 = some (9, 7) := rfl
theorem PT_X9_9 : am_find PT_X9 9 = some (9, 0) := rfl
theorem PT_X9_15 : am_find PT_X9 15 = some (9, 1) := rfl
theorem PT_X9_18 : am_find PT_X9 18 = some (9, 2) := rfl
theorem PI_X9_9 : am_find PI_X9 9 = some (9, 0) := rfl
theorem PI_X9_15 : am_find PI_X9 15 = some (9, 1) := rfl
theorem PI_X9_18 : am_find PI_X9 18 = some (9, 2) := rfl
theorem PI_X9_24 : am_find PI_X9 24 = some (9, 3) := rfl
theorem PI_X9_28 : am_find PI_X9 28 = some (9, 4) := rfl
theorem PI_X9_32 : am_find PI_X9 32 = some (9, 5) := rfl
theorem PI_X9_35 : am_find PI_X9 35 = some (9, 6) := rfl
theorem PI_X9_38 : am_find PI_X9 38 = some (9, 7) := rfl
def CT_X9 : List (Nat × Nat) := [(21, 2)]
theorem CT_X9_ok : ∀ q ∈ CT_X9, am_CC TB vwCl RX9 q := List.forall_mem_cons.mpr ⟨⟨(RX2, TX2, 6), rfl, tb_at 148 (by decide +kernel) (by decide +kernel), tb_at 149 (by decide +kernel) (by decide +kernel), tb_at 110 (by decide +kernel) (by decide +kernel)⟩, fun _ h => absurd h List.not_mem_nil⟩
def KT_X9 : List (Nat × Int32) := []
theorem KT_X9_ok : ∀ q ∈ KT_X9, Cond.constant RX9 q.1 q.2 ∈ TB := fun _ h => absurd h List.not_mem_nil
def LT_X9 : List (Nat × Int64) := []
theorem LT_X9_ok : ∀ q ∈ LT_X9, Cond.constantLong RX9 q.1 q.2 ∈ TB := fun _ h => absurd h List.not_mem_nil
def NT_X9 : List (Nat × Nat) := [(3, 3), (48, 4)]
theorem NT_X9_ok : ∀ q ∈ NT_X9, am_NO TB RX9 q := List.forall_mem_cons.mpr ⟨⟨tb_at 147 (by decide +kernel) (by decide +kernel), tb_at 134 (by decide +kernel) (by decide +kernel), tb_at 135 (by decide +kernel) (by decide +kernel)⟩, List.forall_mem_cons.mpr ⟨⟨tb_at 681 (by decide +kernel) (by decide +kernel), tb_at 680 (by decide +kernel) (by decide +kernel), tb_at 679 (by decide +kernel) (by decide +kernel), tb_at 126 (by decide +kernel) (by decide +kernel)⟩, fun _ h => absurd h List.not_mem_nil⟩⟩
def FT_X10 : List (Nat × Nat × Nat) := [(9, 10, 2), (15, 10, 3), (18, 10, 4), (21, 10, 0), (25, 10, 1)]
theorem FT_X10_ok : ∀ q ∈ FT_X10, am_FO TB vwCl RX10 q := List.forall_mem_cons.mpr ⟨⟨(RX10, TX10, 5), rfl, by decide, tb_at 393 (by decide +kernel) (by decide +kernel)⟩, List.forall_mem_cons.mpr ⟨⟨(RX10, TX10, 5), rfl, by decide, tb_at 394 (by decide +kernel) (by decide +kernel)⟩, List.forall_mem_cons.mpr ⟨⟨(RX10, TX10, 5), rfl, by decide, tb_at 395 (by decide +kernel) (by decide +kernel)⟩, List.forall_mem_cons.mpr ⟨⟨(RX10, TX10, 5), rfl, by decide, tb_at 391 (by decide +kernel) (by decide +kernel)⟩, List.forall_mem_cons.mpr ⟨⟨(RX10, TX10, 5), rfl, by decide, tb_at 392 (by decide +kernel) (by decide +kernel)⟩, fun _ h => absurd h List.not_mem_nil⟩⟩⟩⟩⟩
def PT_X10 : List (Nat × Nat × Nat) := [(15, 10, 3), (18, 10, 4)]
theorem PT_X10_ok (nm : String) : ∀ q ∈ PT_X10, am_PO TB vwCl RX10 nm q := List.forall_mem_cons.mpr ⟨⟨(RX10, TX10, 5), rfl, by decide, tb_at 394 (by decide +kernel) (by decide +kernel), Or.inl rfl⟩, List.forall_mem_cons.mpr ⟨⟨(RX10, TX10, 5), rfl, by decide, tb_at 395 (by decide +kernel) (by decide +kernel), Or.inl rfl⟩, fun _ h => absurd h List.not_mem_nil⟩⟩
def PI_X10 : List (Nat × Nat × Nat) := [(9, 10, 2), (15, 10, 3), (18, 10, 4), (21, 10, 0), (25, 10, 1)]
theorem PI_X10_ok : ∀ q ∈ PI_X10, am_PO TB vwCl RX10 "<init>" q := List.forall_mem_cons.mpr ⟨⟨(RX10, TX10, 5), rfl, by decide, tb_at 393 (by decide +kernel) (by decide +kernel), Or.inr ⟨rfl, rfl, rfl⟩⟩, List.forall_mem_cons.mpr ⟨⟨(RX10, TX10, 5), rfl, by decide, tb_at 394 (by decide +kernel) (by decide +kernel), Or.inl rfl⟩, List.forall_mem_cons.mpr ⟨⟨(RX10, TX10, 5), rfl, by decide, tb_at 395 (by decide +kernel) (by decide +kernel), Or.inl rfl⟩, List.forall_mem_cons.mpr ⟨⟨(RX10, TX10, 5), rfl, by decide, tb_at 391 (by decide +kernel) (by decide +kernel), Or.inr ⟨rfl, rfl, rfl⟩⟩, List.forall_mem_cons.mpr ⟨⟨(RX10, TX10, 5), rfl, by decide, tb_at 392 (by decide +kernel) (by decide +kernel), Or.inr ⟨rfl, rfl, rfl⟩⟩, fun _ h => absurd h List.not_mem_nil⟩⟩⟩⟩⟩
theorem FT_X10_9 : am_find FT_X10 9 = some (10, 2) := rfl
theorem FT_X10_15 : am_find FT_X10 15 = some (10, 3) := rfl
theorem FT_X10_18 : am_find FT_X10 18 = some (10, 4) := rfl
theorem FT_X10_21 : am_find FT_X10 21 = some (10, 0) := rfl
theorem FT_X10_25 : am_find FT_X10 25 = some (10, 1) := rfl
theorem PT_X10_15 : am_find PT_X10 15 = some (10, 3) := rfl
theorem PT_X10_18 : am_find PT_X10 18 = some (10, 4) := rfl
theorem PI_X10_9 : am_find PI_X10 9 = some (10, 2) := rfl
theorem PI_X10_15 : am_find PI_X10 15 = some (10, 3) := rfl
theorem PI_X10_18 : am_find PI_X10 18 = some (10, 4) := rfl
theorem PI_X10_21 : am_find PI_X10 21 = some (10, 0) := rfl
theorem PI_X10_25 : am_find PI_X10 25 = some (10, 1) := rfl
def CT_X10 : List (Nat × Nat) := []
theorem CT_X10_ok : ∀ q ∈ CT_X10, am_CC TB vwCl RX10 q := fun _ h => absurd h List.not_mem_nil
def KT_X10 : List (Nat × Int32) := []
theorem KT_X10_ok : ∀ q ∈ KT_X10, Cond.constant RX10 q.1 q.2 ∈ TB := fun _ h => absurd h List.not_mem_nil
def LT_X10 : List (Nat × Int64) := []
theorem LT_X10_ok : ∀ q ∈ LT_X10, Cond.constantLong RX10 q.1 q.2 ∈ TB := fun _ h => absurd h List.not_mem_nil
def NT_X10 : List (Nat × Nat) := [(3, 3), (97, 0)]
theorem NT_X10_ok : ∀ q ∈ NT_X10, am_NO TB RX10 q := List.forall_mem_cons.mpr ⟨⟨tb_at 390 (by decide +kernel) (by decide +kernel), tb_at 134 (by decide +kernel) (by decide +kernel), tb_at 135 (by decide +kernel) (by decide +kernel)⟩, List.forall_mem_cons.mpr ⟨⟨tb_at 1037 (by decide +kernel) (by decide +kernel), tb_at 752 (by decide +kernel) (by decide +kernel), tb_at 125 (by decide +kernel) (by decide +kernel), tb_at 753 (by decide +kernel) (by decide +kernel)⟩, fun _ h => absurd h List.not_mem_nil⟩⟩
def FT_X11 : List (Nat × Nat × Nat) := [(9, 11, 0), (13, 11, 1), (17, 11, 2), (23, 11, 3), (30, 11, 4), (37, 11, 5), (41, 11, 6), (47, 11, 7), (56, 11, 8), (65, 11, 9), (72, 11, 10), (79, 11, 11), (86, 11, 12), (90, 11, 13), (120, 5, 0), (184, 9, 0), (187, 9, 1), (242, 9, 2)]
theorem FT_X11_ok : ∀ q ∈ FT_X11, am_FO TB vwCl RX11 q := List.forall_mem_cons.mpr ⟨⟨(RX11, TX11, 14), rfl, by decide, tb_at 477 (by decide +kernel) (by decide +kernel)⟩, List.forall_mem_cons.mpr ⟨⟨(RX11, TX11, 14), rfl, by decide, tb_at 478 (by decide +kernel) (by decide +kernel)⟩, List.forall_mem_cons.mpr ⟨⟨(RX11, TX11, 14), rfl, by decide, tb_at 479 (by decide +kernel) (by decide +kernel)⟩, List.forall_mem_cons.mpr ⟨⟨(RX11, TX11, 14), rfl, by decide, tb_at 480 (by decide +kernel) (by decide +kernel)⟩, List.forall_mem_cons.mpr ⟨⟨(RX11, TX11, 14), rfl, by decide, tb_at 481 (by decide +kernel) (by decide +kernel)⟩, List.forall_mem_cons.mpr ⟨⟨(RX11, TX11, 14), rfl, by decide, tb_at 482 (by decide +kernel) (by decide +kernel)⟩, List.forall_mem_cons.mpr ⟨⟨(RX11, TX11, 14), rfl, by decide, tb_at 483 (by decide +kernel) (by decide +kernel)⟩, List.forall_mem_cons.mpr ⟨⟨(RX11, TX11, 14), rfl, by decide, tb_at 484 (by decide +kernel) (by decide +kernel)⟩, List.forall_mem_cons.mpr ⟨⟨(RX11, TX11, 14), rfl, by decide, tb_at 485 (by decide +kernel) (by decide +kernel)⟩, List.forall_mem_cons.mpr ⟨⟨(RX11, TX11, 14), rfl, by decide, tb_at 486 (by decide +kernel) (by decide +kernel)⟩, List.forall_mem_cons.mpr ⟨⟨(RX11, TX11, 14), rfl, by decide, tb_at 487 (by decide +kernel) (by decide +kernel)⟩, List.forall_mem_cons.mpr ⟨⟨(RX11, TX11, 14), rfl, by decide, tb_at 488 (by decide +kernel) (by decide +kernel)⟩, List.forall_mem_cons.mpr ⟨⟨(RX11, TX11, 14), rfl, by decide, tb_at 489 (by decide +kernel) (by decide +kernel)⟩, List.forall_mem_cons.mpr ⟨⟨(RX11, TX11, 14), rfl, by decide, tb_at 490 (by decide +kernel) (by decide +kernel)⟩, List.forall_mem_cons.mpr ⟨⟨(RX5, TX5, 11), rfl, by decide, tb_at 304 (by decide +kernel) (by decide +kernel)⟩, List.forall_mem_cons.mpr ⟨⟨(RX9, TX9, 8), rfl, by decide, tb_at 192 (by decide +kernel) (by decide +kernel)⟩, List.forall_mem_cons.mpr ⟨⟨(RX9, TX9, 8), rfl, by decide, tb_at 198 (by decide +kernel) (by decide +kernel)⟩, List.forall_mem_cons.mpr ⟨⟨(RX9, TX9, 8), rfl, by decide, tb_at 202 (by decide +kernel) (by decide +kernel)⟩, fun _ h => absurd h List.not_mem_nil⟩⟩⟩⟩⟩⟩⟩⟩⟩⟩⟩⟩⟩⟩⟩⟩⟩⟩
def PT_X11 : List (Nat × Nat × Nat) := [(13, 11, 1), (17, 11, 2), (184, 9, 0), (187, 9, 1), (242, 9, 2)]
theorem PT_X11_ok (nm : String) : ∀ q ∈ PT_X11, am_PO TB vwCl RX11 nm q := List.forall_mem_cons.mpr ⟨⟨(RX11, TX11, 14), rfl, by decide, tb_at 478 (by decide +kernel) (by decide +kernel), Or.inl rfl⟩, List.forall_mem_cons.mpr ⟨⟨(RX11, TX11, 14), rfl, by decide, tb_at 479 (by decide +kernel) (by decide +kernel), Or.inl rfl⟩, List.forall_mem_cons.mpr ⟨⟨(RX9, TX9, 8), rfl, by decide, tb_at 192 (by decide +kernel) (by decide +kernel), Or.inl rfl⟩, List.forall_mem_cons.mpr ⟨⟨(RX9, TX9, 8), rfl, by decide, tb_at 198 (by decide +kernel) (by decide +kernel), Or.inl rfl⟩, List.forall_mem_cons.mpr ⟨⟨(RX9, TX9, 8), rfl, by decide, tb_at 202 (by decide +kernel) (by decide +kernel), Or.inl rfl⟩, fun _ h => absurd h List.not_mem_nil⟩⟩⟩⟩⟩
def PI_X11 : List (Nat × Nat × Nat) := [(9, 11, 0), (13, 11, 1), (17, 11, 2), (23, 11, 3), (30, 11, 4), (37, 11, 5), (41, 11, 6), (47, 11, 7), (56, 11, 8), (65, 11, 9), (72, 11, 10), (79, 11, 11), (86, 11, 12), (90, 11, 13), (184, 9, 0), (187, 9, 1), (242, 9, 2)]
theorem PI_X11_ok : ∀ q ∈ PI_X11, am_PO TB vwCl RX11 "<init>" q := List.forall_mem_cons.mpr ⟨⟨(RX11, TX11, 14), rfl, by decide, tb_at 477 (by decide +kernel) (by decide +kernel), Or.inr ⟨rfl, rfl, rfl⟩⟩, List.forall_mem_cons.mpr ⟨⟨(RX11, TX11, 14), rfl, by decide, tb_at 478 (by decide +kernel) (by decide +kernel), Or.inl rfl⟩, List.forall_mem_cons.mpr ⟨⟨(RX11, TX11, 14), rfl, by decide, tb_at 479 (by decide +kernel) (by decide +kernel), Or.inl rfl⟩, List.forall_mem_cons.mpr ⟨⟨(RX11, TX11, 14), rfl, by decide, tb_at 480 (by decide +kernel) (by decide +kernel), Or.inr ⟨rfl, rfl, rfl⟩⟩, List.forall_mem_cons.mpr ⟨⟨(RX11, TX11, 14), rfl, by decide, tb_at 481 (by decide +kernel) (by decide +kernel), Or.inr ⟨rfl, rfl, rfl⟩⟩, List.forall_mem_cons.mpr ⟨⟨(RX11, TX11, 14), rfl, by decide, tb_at 482 (by decide +kernel) (by decide +kernel), Or.inr ⟨rfl, rfl, rfl⟩⟩, List.forall_mem_cons.mpr ⟨⟨(RX11, TX11, 14), rfl, by decide, tb_at 483 (by decide +kernel) (by decide +kernel), Or.inr ⟨rfl, rfl, rfl⟩⟩, List.forall_mem_cons.mpr ⟨⟨(RX11, TX11, 14), rfl, by decide, tb_at 484 (by decide +kernel) (by decide +kernel), Or.inr ⟨rfl, rfl, rfl⟩⟩, List.forall_mem_cons.mpr ⟨⟨(RX11, TX11, 14), rfl, by decide, tb_at 485 (by decide +kernel) (by decide +kernel), Or.inr ⟨rfl, rfl, rfl⟩⟩, List.forall_mem_cons.mpr ⟨⟨(RX11, TX11, 14), rfl, by decide, tb_at 486 (by decide +kernel) (by decide +kernel), Or.inr ⟨rfl, rfl, rfl⟩⟩, List.forall_mem_cons.mpr ⟨⟨(RX11, TX11, 14), rfl, by decide, tb_at 487 (by decide +kernel) (by decide +kernel), Or.inr ⟨rfl, rfl, rfl⟩⟩, List.forall_mem_cons.mpr ⟨⟨(RX11, TX11, 14), rfl, by decide, tb_at 488 (by decide +kernel) (by decide +kernel), Or.inr ⟨rfl, rfl, rfl⟩⟩, List.forall_mem_cons.mpr ⟨⟨(RX11, TX11, 14), rfl, by decide, tb_at 489 (by decide +kernel) (by decide +kernel), Or.inr ⟨rfl, rfl, rfl⟩⟩, List.forall_mem_cons.mpr ⟨⟨(RX11, TX11, 14), rfl, by decide, tb_at 490 (by decide +kernel) (by decide +kernel), Or.inr ⟨rfl, rfl, rfl⟩⟩, List.forall_mem_cons.mpr ⟨⟨(RX9, TX9, 8), rfl, by decide, tb_at 192 (by decide +kernel) (by decide +kernel), Or.inl rfl⟩, List.forall_mem_cons.mpr ⟨⟨(RX9, TX9, 8), rfl, by decide, tb_at 198 (by decide +kernel) (by decide +kernel), Or.inl rfl⟩, List.forall_mem_cons.mpr ⟨⟨(RX9, TX9, 8), rfl, by decide, tb_at 202 (by decide +kernel) (by decide +kernel), Or.inl rfl⟩, fun _ h => absurd h List.not_mem_nil⟩⟩⟩⟩⟩⟩⟩⟩⟩⟩⟩⟩⟩⟩⟩⟩⟩
theorem FT_X11_9 : am_find FT_X11 9 = some (11, 0) := rfl
theorem FT_X11_13 : am_find FT_X11 13 = some (11, 1) := rfl
theorem FT_X11_17 : am_find FT_X11 17 = some (11, 2) := rfl
theorem FT_X11_23 : am_find FT_X11 23 = some (11, 3) := rfl
theorem FT_X11_30 : am_find FT_X11 30 = some (11, 4) := rfl
theorem FT_X11_37 : am_find FT_X11 37 = some (11, 5) := rfl
theorem FT_X11_41 : am_find FT_X11 41 = some (11, 6) := rfl
theorem FT_X11_47 : am_find FT_X11 47 = some (11, 7) := rfl
theorem FT_X11_56 : am_find FT_X11 56 = some (11, 8) := rfl
theorem FT_X11_65 : am_find FT_X11 65 = some (11, 9) := rfl
theorem FT_X11_72 : am_find FT_X11 72 = some (11, 10) := rfl
theorem FT_X11_79 : am_find FT_X11 79 = some (11, 11) := rfl
theorem FT_X11_86 : am_find FT_X11 86 = some (11, 12) := rfl
theorem FT_X11_90 : am_find FT_X11 90 = some (11, 13) := rfl
theorem FT_X11_120 : am_find FT_X11 120 = some (5, 0) := rfl
theorem FT_X11_184 : am_find FT_X11 184 = some (9, 0) := rfl
theorem FT_X11_187 : am_find FT_X11 187 = some (9, 1) := rfl
theorem FT_X11_242 : am_find FT_X11 242 = some (9, 2) := rfl
theorem PT_X11_13 : am_find PT_X11 13 = some (11, 1) := rfl
theorem PT_X11_17 : am_find PT_X11 17 = some (11, 2) := rfl
theorem PT_X11_184 : am_find PT_X11 184 = some (9, 0) := rfl
theorem PT_X11_187 : am_find PT_X11 187 = some (9, 1) := rfl
theorem PT_X11_242 : am_find PT_X11 242 = some (9, 2) := rfl
theorem PI_X11_9 : am_find PI_X11 9 = some (11, 0) := rfl
theorem PI_X11_13 : am_find PI_X11 13 = some (11, 1) := rfl
theorem PI_X11_17 : am_find PI_X11 17 = some (11, 2) := rfl
theorem PI_X11_23 : am_find PI_X11 23 = some (11, 3) := rfl
theorem PI_X11_30 : am_find PI_X11 30 = some (11, 4) := rfl
theorem PI_X11_37 : am_find PI_X11 37 = some (11, 5) := rfl
theorem PI_X11_41 : am_find PI_X11 41 = some (11, 6) := rfl
theorem PI_X11_47 : am_find PI_X11 47 = some (11, 7) := rfl
theorem PI_X11_56 : am_find PI_X11 56 = some (11, 8) := rfl
theorem PI_X11_65 : am_find PI_X11 65 = some (11, 9) := rfl
theorem PI_X11_72 : am_find PI_X11 72 = some (11, 10) := rfl
theorem PI_X11_79 : am_find PI_X11 79 = some (11, 11) := rfl
theorem PI_X11_86 : am_find PI_X11 86 = some (11, 12) := rfl
theorem PI_X11_90 : am_find PI_X11 90 = some (11, 13) := rfl
theorem PI_X11_184 : am_find PI_X11 184 = some (9, 0) := rfl
theorem PI_X11_187 : am_find PI_X11 187 = some (9, 1) := rfl
theorem PI_X11_242 : am_find PI_X11 242 = some (9, 2) := rfl
def CT_X11 : List (Nat × Nat) := [(20, 5), (27, 9), (34, 4), (44, 7), (51, 0), (60, 10), (69, 3), (76, 1), (83, 6)]
theorem CT_X11_ok : ∀ q ∈ CT_X11, am_CC TB vwCl RX11 q := List.forall_mem_cons.mpr ⟨⟨(RX5, TX5, 11), rfl, tb_at 136 (by decide +kernel) (by decide +kernel), tb_at 137 (by decide +kernel) (by decide +kernel), tb_at 108 (by decide +kernel) (by decide +kernel)⟩, List.forall_mem_cons.mpr ⟨⟨(RX9, TX9, 8), rfl, tb_at 338 (by decide +kernel) (by decide +kernel), tb_at 143 (by decide +kernel) (by decide +kernel), tb_at 109 (by decide +kernel) (by decide +kernel)⟩, List.forall_mem_cons.mpr ⟨⟨(RX4, TX4, 1), rfl, tb_at 340 (by decide +kernel) (by decide +kernel), tb_at 341 (by decide +kernel) (by decide +kernel), tb_at 116 (by decide +kernel) (by decide +kernel)⟩, List.forall_mem_cons.mpr ⟨⟨(RX7, TX7, 5), rfl, tb_at 350 (by decide +kernel) (by decide +kernel), tb_at 351 (by decide +kernel) (by decide +kernel), tb_at 117 (by decide +kernel) (by decide +kernel)⟩, List.forall_mem_cons.mpr ⟨⟨(RX0, TX0, 2), rfl, tb_at 372 (by decide +kernel) (by decide +kernel), tb_at 373 (by decide +kernel) (by decide +kernel), tb_at 118 (by decide +kernel) (by decide +kernel)⟩, List.forall_mem_cons.mpr ⟨⟨(RX10, TX10, 5), rfl, tb_at 385 (by decide +kernel) (by decide +kernel), tb_at 386 (by decide +kernel) (by decide +kernel), tb_at 119 (by decide +kernel) (by decide +kernel)⟩, List.forall_mem_cons.mpr ⟨⟨(RX3, TX3, 2), rfl, tb_at 407 (by decide +kernel) (by decide +kernel), tb_at 408 (by decide +kernel) (by decide +kernel), tb_at 120 (by decide +kernel) (by decide +kernel)⟩, List.forall_mem_cons.mpr ⟨⟨(RX1, TX1, 4), rfl, tb_at 420 (by decide +kernel) (by decide +kernel), tb_at 421 (by decide +kernel) (by decide +kernel), tb_at 121 (by decide +kernel) (by decide +kernel)⟩, List.forall_mem_cons.mpr ⟨⟨(RX6, TX6, 4), rfl, tb_at 439 (by decide +kernel) (by decide +kernel), tb_at 440 (by decide +kernel) (by decide +kernel), tb_at 122 (by decide +kernel) (by decide +kernel)⟩, fun _ h => absurd h List.not_mem_nil⟩⟩⟩⟩⟩⟩⟩⟩⟩
def KT_X11 : List (Nat × Int32) := [(359, 1103515245)]
theorem KT_X11_ok : ∀ q ∈ KT_X11, Cond.constant RX11 q.1 q.2 ∈ TB := List.forall_mem_cons.mpr ⟨tb_at 943 (by decide +kernel) (by decide +kernel), fun _ h => absurd h List.not_mem_nil⟩
def LT_X11 : List (Nat × Int64) := []
theorem LT_X11_ok : ∀ q ∈ LT_X11, Cond.constantLong RX11 q.1 q.2 ∈ TB := fun _ h => absurd h List.not_mem_nil
def NT_X11 : List (Nat × Nat) := [(1, 3), (175, 2)]
theorem NT_X11_ok : ∀ q ∈ NT_X11, am_NO TB RX11 q := List.forall_mem_cons.mpr ⟨⟨tb_at 133 (by decide +kernel) (by decide +kernel), tb_at 134 (by decide +kernel) (by decide +kernel), tb_at 135 (by decide +kernel) (by decide +kernel)⟩, List.forall_mem_cons.mpr ⟨⟨tb_at 786 (by decide +kernel) (by decide +kernel), tb_at 787 (by decide +kernel) (by decide +kernel), tb_at 125 (by decide +kernel) (by decide +kernel), tb_at 788 (by decide +kernel) (by decide +kernel)⟩, fun _ h => absurd h List.not_mem_nil⟩⟩
def FT_X12 : List (Nat × Nat × Nat) := [(13, 12, 1), (17, 12, 3), (20, 12, 5), (24, 12, 6), (27, 12, 7), (30, 12, 8), (34, 12, 9), (37, 12, 17), (40, 12, 21), (43, 12, 22), (46, 12, 23), (49, 12, 24), (52, 12, 25), (55, 12, 26), (58, 12, 27), (61, 12, 28), (64, 12, 29), (67, 12, 30), (70, 12, 32), (74, 12, 33), (77, 12, 34), (80, 12, 35), (83, 12, 36), (86, 12, 38), (89, 12, 39), (92, 12, 40), (95, 12, 42), (98, 12, 43), (101, 12, 45), (104, 12, 46), (107, 12, 50), (110, 12, 51), (113, 12, 52), (116, 12, 53), (119, 12, 55), (122, 12, 56), (125, 12, 57), (128, 12, 59), (131, 12, 60), (134, 12, 61), (137, 12, 62), (154, 12, 2), (160, 12, 4), (169, 12, 10), (191, 12, 13), (194, 12, 11), (197, 12, 14), (200, 12, 15), (203, 12, 16), (218, 12, 12), (221, 12, 18), (224, 12, 19), (227, 12, 20), (230, 12, 31), (233, 12, 37), (247, 12, 49), (250, 12, 58), (275, 12, 41), (288, 12, 44), (296, 12, 47), (299, 12, 48), (417, 12, 54)]
theorem FT_X12_ok : ∀ q ∈ FT_X12, am_FO TB vwCl RX12 q := List.forall_mem_cons.mpr ⟨⟨(RX12, TX12, 63), rfl, by decide, tb_at 1326 (by decide +kernel) (by decide +kernel)⟩, List.forall_mem_cons.mpr ⟨⟨(RX12, TX12, 63), rfl, by decide, tb_at 1328 (by decide +kernel) (by decide +kernel)⟩, List.forall_mem_cons.mpr ⟨⟨(RX12, TX12, 63), rfl, by decide, tb_at 1330 (by decide +kernel) (by decide +kernel)⟩, List.forall_mem_cons.mpr ⟨⟨(RX12, TX12, 63), rfl, by decide, tb_at 1331 (by decide +kernel) (by decide +kernel)⟩, List.forall_mem_cons.mpr ⟨⟨(RX12, TX12, 63), rfl, by decide, tb_at 1332 (by decide +kernel) (by decide +kernel)⟩, List.forall_mem_cons.mpr ⟨⟨(RX12, TX12, 63), rfl, by decide, tb_at 1333 (by decide +kernel) (by decide +kernel)⟩, List.forall_mem_cons.mpr ⟨⟨(RX12, TX12, 63), rfl, by decide, tb_at 1334 (by decide +kernel) (by decide +kernel)⟩, List.forall_mem_cons.mpr ⟨⟨(RX12, TX12, 63), rfl, by decide, tb_at 1342 (by decide +kernel) (by decide +kernel)⟩, List.forall_mem_cons.mpr ⟨⟨(RX12, TX12, 63), rfl, by decide, tb_at 1346 (by decide +kernel) (by decide +kernel)⟩, List.forall_mem_cons.mpr ⟨⟨(RX12, TX12, 63), rfl, by decide, tb_at 1347 (by decide +kernel) (by decide +kernel)⟩, List.forall_mem_cons.mpr ⟨⟨(RX12, TX12, 63), rfl, by decide, tb_at 1348 (by decide +kernel) (by decide +kernel)⟩, List.forall_mem_cons.mpr ⟨⟨(RX12, TX12, 63), rfl, by decide, tb_at 1349 (by decide +kernel) (by decide +kernel)⟩, List.forall_mem_cons.mpr ⟨⟨(RX12, TX12, 63), rfl, by decide, tb_at 1350 (by decide +kernel) (by decide +kernel)⟩, List.forall_mem_cons.mpr ⟨⟨(RX12, TX12, 63), rfl, by decide, tb_at 1351 (by decide +kernel) (by decide +kernel)⟩, List.forall_mem_cons.mpr ⟨⟨(RX12, TX12, 63), rfl, by decide, tb_at 1352 (by decide +kernel) (by decide +kernel)⟩, List.forall_mem_cons.mpr ⟨⟨(RX12, TX12, 63), rfl, by decide, tb_at 1353 (by decide +kernel) (by decide +kernel)⟩, List.forall_mem_cons.mpr ⟨⟨(RX12, TX12, 63), rfl, by decide, tb_at 1354 (by decide +kernel) (by decide +kernel)⟩, List.forall_mem_cons.mpr ⟨⟨(RX12, TX12, 63), rfl, by decide, tb_at 1355 (by decide +kernel) (by decide +kernel)⟩, List.forall_mem_cons.mpr ⟨⟨(RX12, TX12, 63), rfl, by decide, tb_at 1357 (by decide +kernel) (by decide +kernel)⟩, List.forall_mem_cons.mpr ⟨⟨(RX12, TX12, 63), rfl, by decide, tb_at 1358 (by decide +kernel) (by decide +kernel)⟩, List.forall_mem_cons.mpr ⟨⟨(RX12, TX12, 63), rfl, by decide, tb_at 1359 (by decide +kernel) (by decide +kernel)⟩, List.forall_mem_cons.mpr ⟨⟨(RX12, TX12, 63), rfl, by decide, tb_at 1360 (by decide +kernel) (by decide +kernel)⟩, List.forall_mem_cons.mpr ⟨⟨(RX12, TX12, 63), rfl, by decide, tb_at 1361 (by decide +kernel) (by decide +kernel)⟩, List.forall_mem_cons.mpr ⟨⟨(RX12, TX12, 63), rfl, by decide, tb_at 1363 (by decide +kernel) (by decide +kernel)⟩, List.forall_mem_cons.mpr ⟨⟨(RX12, TX12, 63), rfl, by decide, tb_at 1364 (by decide +kernel) (by decide +kernel)⟩, List.forall_mem_cons.mpr ⟨⟨(RX12, TX12, 63), rfl, by decide, tb_at 1365 (by decide +kernel) (by decide +kernel)⟩, List.forall_mem_cons.mpr ⟨⟨(RX12, TX12, 63), rfl, by decide, tb_at 1367 (by decide +kernel) (by decide +kernel)⟩, List.forall_mem_cons.mpr ⟨⟨(RX12, TX12, 63), rfl, by decide, tb_at 1368 (by decide +kernel) (by decide +kernel)⟩, List.forall_mem_cons.mpr ⟨⟨(RX12, TX12, 63), rfl, by decide, tb_at 1370 (by decide +kernel) (by decide +kernel)⟩, List.forall_mem_cons.mpr ⟨⟨(RX12, TX12, 63), rfl, by decide, tb_at 1371 (by decide +kernel) (by decide +kernel)⟩, List.forall_mem_cons.mpr ⟨⟨(RX12, TX12, 63), rfl, by decide, tb_at 1375 (by decide +kernel) (by decide +kernel)⟩, List.forall_mem_cons.mpr ⟨⟨(RX12, TX12, 63), rfl, by decide, tb_at 1376 (by decide +kernel) (by decide +kernel)⟩, List.forall_mem_cons.mpr ⟨⟨(RX12, TX12, 63), rfl, by decide, tb_at 1377 (by decide +kernel) (by decide +kernel)⟩, List.forall_mem_cons.mpr ⟨⟨(RX12, TX12, 63), rfl, by decide, tb_at 1378 (by decide +kernel) (by decide +kernel)⟩, List.forall_mem_cons.mpr ⟨⟨(RX12, TX12, 63), rfl, by decide, tb_at 1380 (by decide +kernel) (by decide +kernel)⟩, List.forall_mem_cons.mpr ⟨⟨(RX12, TX12, 63), rfl, by decide, tb_at 1381 (by decide +kernel) (by decide +kernel)⟩, List.forall_mem_cons.mpr ⟨⟨(RX12, TX12, 63), rfl, by decide, tb_at 1382 (by decide +kernel) (by decide +kernel)⟩, List.forall_mem_cons.mpr ⟨⟨(RX12, TX12, 63), rfl, by decide, tb_at 1384 (by decide +kernel) (by decide +kernel)⟩, List.forall_mem_cons.mpr ⟨⟨(RX12, TX12, 63), rfl, by decide, tb_at 1385 (by decide +kernel) (by decide +kernel)⟩, List.forall_mem_cons.mpr ⟨⟨(RX12, TX12, 63), rfl, by decide, tb_at 1386 (by decide +kernel) (by decide +kernel)⟩, List.forall_mem_cons.mpr ⟨⟨(RX12, TX12, 63), rfl, by decide, tb_at 1387 (by decide +kernel) (by decide +kernel)⟩, List.forall_mem_cons.mpr ⟨⟨(RX12, TX12, 63), rfl, by decide, tb_at 1327 (by decide +kernel) (by decide +kernel)⟩, List.forall_mem_cons.mpr ⟨⟨(RX12, TX12, 63), rfl, by decide, tb_at 1329 (by decide +kernel) (by decide +kernel)⟩, List.forall_mem_cons.mpr ⟨⟨(RX12, TX12, 63), rfl, by decide, tb_at 1335 (by decide +kernel) (by decide +kernel)⟩, List.forall_mem_cons.mpr ⟨⟨(RX12, TX12, 63), rfl, by decide, tb_at 1338 (by decide +kernel) (by decide +kernel)⟩, List.forall_mem_cons.mpr ⟨⟨(RX12, TX12, 63), rfl, by decide, tb_at 1336 (by decide +kernel) (by decide +kernel)⟩, List.forall_mem_cons.mpr ⟨⟨(RX12, TX12, 63), rfl, by decide, tb_at 1339 (by decide +kernel) (by decide +kernel)⟩, List.forall_mem_cons.mpr ⟨⟨(RX12, TX12, 63), rfl, by decide, tb_at 1340 (by decide +kernel) (by decide +kernel)⟩, List.forall_mem_cons.mpr ⟨⟨(RX12, TX12, 63), rfl, by decide, tb_at 1341 (by decide +kernel) (by decide +kernel)⟩, List.forall_mem_cons.mpr ⟨⟨(RX12, TX12, 63), rfl, by decide, tb_at 1337 (by decide +kernel) (by decide +kernel)⟩, List.forall_mem_cons.mpr ⟨⟨(RX12, TX12, 63), rfl, by decide, tb_at 1343 (by decide +kernel) (by decide +kernel)⟩, List.forall_mem_cons.mpr ⟨⟨(RX12, TX12, 63), rfl, by decide, tb_at 1344 (by decide +kernel) (by decide +kernel)⟩, List.forall_mem_cons.mpr ⟨⟨(RX12, TX12, 63), rfl, by decide, tb_at 1345 (by decide +kernel) (by decide +kernel)⟩, List.forall_mem_cons.mpr ⟨⟨(RX12, TX12, 63), rfl, by decide, tb_at 1356 (by decide +kernel) (by decide +kernel)⟩, List.forall_mem_cons.mpr ⟨⟨(RX12, TX12, 63), rfl, by decide, tb_at 1362 (by decide +kernel) (by decide +kernel)⟩, List.forall_mem_cons.mpr ⟨⟨(RX12, TX12, 63), rfl, by decide, tb_at 1374 (by decide +kernel) (by decide +kernel)⟩, List.forall_mem_cons.mpr ⟨⟨(RX12, TX12, 63), rfl, by decide, tb_at 1383 (by decide +kernel) (by decide +kernel)⟩, List.forall_mem_cons.mpr ⟨⟨(RX12, TX12, 63), rfl, by decide, tb_at 1366 (by decide +kernel) (by decide +kernel)⟩, List.forall_mem_cons.mpr ⟨⟨(RX12, TX12, 63), rfl, by decide, tb_at 1369 (by decide +kernel) (by decide +kernel)⟩, List.forall_mem_cons.mpr ⟨⟨(RX12, TX12, 63), rfl, by decide, tb_at 1372 (by decide +kernel) (by decide +kernel)⟩, List.forall_mem_cons.mpr ⟨⟨(RX12, TX12, 63), rfl, by decide, tb_at 1373 (by decide +kernel) (by decide +kernel)⟩, List.forall_mem_cons.mpr ⟨⟨(RX12, TX12, 63), rfl, by decide, tb_at 1379 (by decide +kernel) (by decide +kernel)⟩, fun _ h => absurd h List.not_mem_nil⟩⟩⟩⟩⟩⟩⟩⟩⟩⟩⟩⟩⟩⟩⟩⟩⟩⟩⟩⟩⟩⟩⟩⟩⟩⟩⟩⟩⟩⟩⟩⟩⟩⟩⟩⟩⟩⟩⟩⟩⟩⟩⟩⟩⟩⟩⟩⟩⟩⟩⟩⟩⟩⟩⟩⟩⟩⟩⟩⟩⟩⟩
def PT_X12 : List (Nat × Nat × Nat) := [(37, 12, 17), (154, 12, 2), (160, 12, 4), (169, 12, 10), (191, 12, 13), (194, 12, 11), (197, 12, 14), (200, 12, 15), (203, 12, 16), (218, 12, 12), (221, 12, 18), (224, 12, 19), (227, 12, 20), (230, 12, 31), (233, 12, 37), (247, 12, 49), (250, 12, 58), (275, 12, 41), (288, 12, 44), (296, 12, 47), (299, 12, 48), (417, 12, 54)]
theorem PT_X12_ok (nm : String) : ∀ q ∈ PT_X12, am_PO TB vwCl RX12 nm q := List.forall_mem_cons.mpr ⟨⟨(RX12, TX12, 63), rfl, by decide, tb_at 1342 (by decide +kernel) (by decide +kernel), Or.inl rfl⟩, List.forall_mem_cons.mpr ⟨⟨(RX12, TX12, 63), rfl, by decide, tb_at 1327 (by decide +kernel) (by decide +kernel), Or.inl rfl⟩, List.forall_mem_cons.mpr ⟨⟨(RX12, TX12, 63), rfl, by decide, tb_at 1329 (by decide +kernel) (by decide +kernel), Or.inl rfl⟩, List.forall_mem_cons.mpr ⟨⟨(RX12, TX12, 63), rfl, by decide, tb_at 1335 (by decide +kernel) (by decide +kernel), Or.inl rfl⟩, List.forall_mem_cons.mpr ⟨⟨(RX12, TX12, 63), rfl, by decide, tb_at 1338 (by decide +kernel) (by decide +kernel), Or.inl rfl⟩, List.forall_mem_cons.mpr ⟨⟨(RX12, TX12, 63), rfl, by decide, tb_at 1336 (by decide +kernel) (by decide +kernel), Or.inl rfl⟩, List.forall_mem_cons.mpr ⟨⟨(RX12, TX12, 63), rfl, by decide, tb_at 1339 (by decide +kernel) (by decide +kernel), Or.inl rfl⟩, List.forall_mem_cons.mpr ⟨⟨(RX12, TX12, 63), rfl, by decide, tb_at 1340 (by decide +kernel) (by decide +kernel), Or.inl rfl⟩, List.forall_mem_cons.mpr ⟨⟨(RX12, TX12, 63), rfl, by decide, tb_at 1341 (by decide +kernel) (by decide +kernel), Or.inl rfl⟩, List.forall_mem_cons.mpr ⟨⟨(RX12, TX12, 63), rfl, by decide, tb_at 1337 (by decide +kernel) (by decide +kernel), Or.inl rfl⟩, List.forall_mem_cons.mpr ⟨⟨(RX12, TX12, 63), rfl, by decide, tb_at 1343 (by decide +kernel) (by decide +kernel), Or.inl rfl⟩, List.forall_mem_cons.mpr ⟨⟨(RX12, TX12, 63), rfl, by decide, tb_at 1344 (by decide +kernel) (by decide +kernel), Or.inl rfl⟩, List.forall_mem_cons.mpr ⟨⟨(RX12, TX12, 63), rfl, by decide, tb_at 1345 (by decide +kernel) (by decide +kernel), Or.inl rfl⟩, List.forall_mem_cons.mpr ⟨⟨(RX12, TX12, 63), rfl, by decide, tb_at 1356 (by decide +kernel) (by decide +kernel), Or.inl rfl⟩, List.forall_mem_cons.mpr ⟨⟨(RX12, TX12, 63), rfl, by decide, tb_at 1362 (by decide +kernel) (by decide +kernel), Or.inl rfl⟩, List.forall_mem_cons.mpr ⟨⟨(RX12, TX12, 63), rfl, by decide, tb_at 1374 (by decide +kernel) (by decide +kernel), Or.inl rfl⟩, List.forall_mem_cons.mpr ⟨⟨(RX12, TX12, 63), rfl, by decide, tb_at 1383 (by decide +kernel) (by decide +kernel), Or.inl rfl⟩, List.forall_mem_cons.mpr ⟨⟨(RX12, TX12, 63), rfl, by decide, tb_at 1366 (by decide +kernel) (by decide +kernel), Or.inl rfl⟩, List.forall_mem_cons.mpr ⟨⟨(RX12, TX12, 63), rfl, by decide, tb_at 1369 (by decide +kernel) (by decide +kernel), Or.inl rfl⟩, List.forall_mem_cons.mpr ⟨⟨(RX12, TX12, 63), rfl, by decide, tb_at 1372 (by decide +kernel) (by decide +kernel), Or.inl rfl⟩, List.forall_mem_cons.mpr ⟨⟨(RX12, TX12, 63), rfl, by decide, tb_at 1373 (by decide +kernel) (by decide +kernel), Or.inl rfl⟩, List.forall_mem_cons.mpr ⟨⟨(RX12, TX12, 63), rfl, by decide, tb_at 1379 (by decide +kernel) (by decide +kernel), Or.inl rfl⟩, fun _ h => absurd h List.not_mem_nil⟩⟩⟩⟩⟩⟩⟩⟩⟩⟩⟩⟩⟩⟩⟩⟩⟩⟩⟩⟩⟩⟩
def PI_X12 : List (Nat × Nat × Nat) := [(13, 12, 1), (17, 12, 3), (20, 12, 5), (24, 12, 6), (27, 12, 7), (30, 12, 8), (34, 12, 9), (37, 12, 17), (40, 12, 21), (43, 12, 22), (46, 12, 23), (49, 12, 24), (52, 12, 25), (55, 12, 26), (58, 12, 27), (61, 12, 28), (64, 12, 29), (67, 12, 30), (70, 12, 32), (74, 12, 33), (77, 12, 34), (80, 12, 35), (83, 12, 36), (86, 12, 38), (89, 12, 39), (92, 12, 40), (95, 12, 42), (98, 12, 43), (101, 12, 45), (104, 12, 46), (107, 12, 50), (110, 12, 51), (113, 12, 52), (116, 12, 53), (119, 12, 55), (122, 12, 56), (125, 12, 57), (128, 12, 59), (131, 12, 60), (134, 12, 61), (137, 12, 62), (154, 12, 2), (160, 12, 4), (169, 12, 10), (191, 12, 13), (194, 12, 11), (197, 12, 14), (200, 12, 15), (203, 12, 16), (218, 12, 12), (221, 12, 18), (224, 12, 19), (227, 12, 20), (230, 12, 31), (233, 12, 37), (247, 12, 49), (250, 12, 58), (275, 12, 41), (288, 12, 44), (296, 12, 47), (299, 12, 48), (417, 12, 54)]
theorem PI_X12_ok : ∀ q ∈ PI_X12, am_PO TB vwCl RX12 "<init>" q := List.forall_mem_cons.mpr ⟨⟨(RX12, TX12, 63), rfl, by decide, tb_at 1326 (by decide +kernel) (by decide +kernel), Or.inr ⟨rfl, rfl, rfl⟩⟩, List.forall_mem_cons.mpr ⟨⟨(RX12, TX12, 63), rfl, by decide, tb_at 1328 (by decide +kernel) (by decide +kernel), Or.inr ⟨rfl, rfl, rfl⟩⟩, List.forall_mem_cons.mpr ⟨⟨(RX12, TX12, 63), rfl, by decide, tb_at 1330 (by decide +kernel) (by decide +kernel), Or.inr ⟨rfl, rfl, rfl⟩⟩, List.forall_mem_cons.mpr ⟨⟨(RX12, TX12, 63), rfl, by decide, tb_at 1331 (by decide +kernel) (by decide +kernel), Or.inr ⟨rfl, rfl, rfl⟩⟩, List.forall_mem_cons.mpr ⟨⟨(RX12, TX12, 63), rfl, by decide, tb_at 1332 (by decide +kernel) (by decide +kernel), Or.inr ⟨rfl, rfl, rfl⟩⟩, List.forall_mem_cons.mpr ⟨⟨(RX12, TX12, 63), rfl, by decide, tb_at 1333 (by decide +kernel) (by decide +kernel), Or.inr ⟨rfl, rfl, rfl⟩⟩, List.forall_mem_cons.mpr ⟨⟨(RX12, TX12, 63), rfl, by decide, tb_at 1334 (by decide +kernel) (by decide +kernel), Or.inr ⟨rfl, rfl, rfl⟩⟩, List.forall_mem_cons.mpr ⟨⟨(RX12, TX12, 63), rfl, by decide, tb_at 1342 (by decide +kernel) (by decide +kernel), Or.inl rfl⟩, List.forall_mem_cons.mpr ⟨⟨(RX12, TX12, 63), rfl, by decide, tb_at 1346 (by decide +kernel) (by decide +kernel), Or.inr ⟨rfl, rfl, rfl⟩⟩, List.forall_mem_cons.mpr ⟨⟨(RX12, TX12, 63), rfl, by decide, tb_at 1347 (by decide +kernel) (by decide +kernel), Or.inr ⟨rfl, rfl, rfl⟩⟩, List.forall_mem_cons.mpr ⟨⟨(RX12, TX12, 63), rfl, by decide, tb_at 1348 (by decide +kernel) (by decide +kernel), Or.inr ⟨rfl, rfl, rfl⟩⟩, List.forall_mem_cons.mpr ⟨⟨(RX12, TX12, 63), rfl, by decide, tb_at 1349 (by decide +kernel) (by decide +kernel), Or.inr ⟨rfl, rfl, rfl⟩⟩, List.forall_mem_cons.mpr ⟨⟨(RX12, TX12, 63), rfl, by decide, tb_at 1350 (by decide +kernel) (by decide +kernel), Or.inr ⟨rfl, rfl, rfl⟩⟩, List.forall_mem_cons.mpr ⟨⟨(RX12, TX12, 63), rfl, by decide, tb_at 1351 (by decide +kernel) (by decide +kernel), Or.inr ⟨rfl, rfl, rfl⟩⟩, List.forall_mem_cons.mpr ⟨⟨(RX12, TX12, 63), rfl, by decide, tb_at 1352 (by decide +kernel) (by decide +kernel), Or.inr ⟨rfl, rfl, rfl⟩⟩, List.forall_mem_cons.mpr ⟨⟨(RX12, TX12, 63), rfl, by decide, tb_at 1353 (by decide +kernel) (by decide +kernel), Or.inr ⟨rfl, rfl, rfl⟩⟩, List.forall_mem_cons.mpr ⟨⟨(RX12, TX12, 63), rfl, by decide, tb_at 1354 (by decide +kernel) (by decide +kernel), Or.inr ⟨rfl, rfl, rfl⟩⟩, List.forall_mem_cons.mpr ⟨⟨(RX12, TX12, 63), rfl, by decide, tb_at 1355 (by decide +kernel) (by decide +kernel), Or.inr ⟨rfl, rfl, rfl⟩⟩, List.forall_mem_cons.mpr ⟨⟨(RX12, TX12, 63), rfl, by decide, tb_at 1357 (by decide +kernel) (by decide +kernel), Or.inr ⟨rfl, rfl, rfl⟩⟩, List.forall_mem_cons.mpr ⟨⟨(RX12, TX12, 63), rfl, by decide, tb_at 1358 (by decide +kernel) (by decide +kernel), Or.inr ⟨rfl, rfl, rfl⟩⟩, List.forall_mem_cons.mpr ⟨⟨(RX12, TX12, 63), rfl, by decide, tb_at 1359 (by decide +kernel) (by decide +kernel), Or.inr ⟨rfl, rfl, rfl⟩⟩, List.forall_mem_cons.mpr ⟨⟨(RX12, TX12, 63), rfl, by decide, tb_at 1360 (by decide +kernel) (by decide +kernel), Or.inr ⟨rfl, rfl, rfl⟩⟩, List.forall_mem_cons.mpr ⟨⟨(RX12, TX12, 63), rfl, by decide, tb_at 1361 (by decide +kernel) (by decide +kernel), Or.inr ⟨rfl, rfl, rfl⟩⟩, List.forall_mem_cons.mpr ⟨⟨(RX12, TX12, 63), rfl, by decide, tb_at 1363 (by decide +kernel) (by decide +kernel), Or.inr ⟨rfl, rfl, rfl⟩⟩, List.forall_mem_cons.mpr ⟨⟨(RX12, TX12, 63), rfl, by decide, tb_at 1364 (by decide +kernel) (by decide +kernel), Or.inr ⟨rfl, rfl, rfl⟩⟩, List.forall_mem_cons.mpr ⟨⟨(RX12, TX12, 63), rfl, by decide, tb_at 1365 (by decide +kernel) (by decide +kernel), Or.inr ⟨rfl, rfl, rfl⟩⟩, List.forall_mem_cons.mpr ⟨⟨(RX12, TX12, 63), rfl, by decide, tb_at 1367 (by decide +kernel) (by decide +kernel), Or.inr ⟨rfl, rfl, rfl⟩⟩, List.forall_mem_cons.mpr ⟨⟨(RX12, TX12, 63), rfl, by decide, tb_at 1368 (by decide +kernel) (by decide +kernel), Or.inr ⟨rfl, rfl, rfl⟩⟩, List.forall_mem_cons.mpr ⟨⟨(RX12, TX12, 63), rfl, by decide, tb_at 1370 (by decide +kernel) (by decide +kernel), Or.inr ⟨rfl, rfl, rfl⟩⟩, List.forall_mem_cons.mpr ⟨⟨(RX12, TX12, 63), rfl, by decide, tb_at 1371 (by decide +kernel) (by decide +kernel), Or.inr ⟨rfl, rfl, rfl⟩⟩, List.forall_mem_cons.mpr ⟨⟨(RX12, TX12, 63), rfl, by decide, tb_at 1375 (by decide +kernel) (by decide +kernel), Or.inr ⟨rfl, rfl, rfl⟩⟩, List.forall_mem_cons.mpr ⟨⟨(RX12, TX12, 63), rfl, by decide, tb_at 1376 (by decide +kernel) (by decide +kernel), Or.inr ⟨rfl, rfl, rfl⟩⟩, List.forall_mem_cons.mpr ⟨⟨(RX12, TX12, 63), rfl, by decide, tb_at 1377 (by decide +kernel) (by decide +kernel), Or.inr ⟨rfl, rfl, rfl⟩⟩, List.forall_mem_cons.mpr ⟨⟨(RX12, TX12, 63), rfl, by decide, tb_at 1378 (by decide +kernel) (by decide +kernel), Or.inr ⟨rfl, rfl, rfl⟩⟩, List.forall_mem_cons.mpr ⟨⟨(RX12, TX12, 63), rfl, by decide, tb_at 1380 (by decide +kernel) (by decide +kernel), Or.inr ⟨rfl, rfl, rfl⟩⟩, List.forall_mem_cons.mpr ⟨⟨(RX12, TX12, 63), rfl, by decide, tb_at 1381 (by decide +kernel) (by decide +kernel), Or.inr ⟨rfl, rfl, rfl⟩⟩, List.forall_mem_cons.mpr ⟨⟨(RX12, TX12, 63), rfl, by decide, tb_at 1382 (by decide +kernel) (by decide +kernel), Or.inr ⟨rfl, rfl, rfl⟩⟩, List.forall_mem_cons.mpr ⟨⟨(RX12, TX12, 63), rfl, by decide, tb_at 1384 (by decide +kernel) (by decide +kernel), Or.inr ⟨rfl, rfl, rfl⟩⟩, List.forall_mem_cons.mpr ⟨⟨(RX12, TX12, 63), rfl, by decide, tb_at 1385 (by decide +kernel) (by decide +kernel), Or.inr ⟨rfl, rfl, rfl⟩⟩, List.forall_mem_cons.mpr ⟨⟨(RX12, TX12, 63), rfl, by decide, tb_at 1386 (by decide +kernel) (by decide +kernel), Or.inr ⟨rfl, rfl, rfl⟩⟩, List.forall_mem_cons.mpr ⟨⟨(RX12, TX12, 63), rfl, by decide, tb_at 1387 (by decide +kernel) (by decide +kernel), Or.inr ⟨rfl, rfl, rfl⟩⟩, List.forall_mem_cons.mpr ⟨⟨(RX12, TX12, 63), rfl, by decide, tb_at 1327 (by decide +kernel) (by decide +kernel), Or.inl rfl⟩, List.forall_mem_cons.mpr ⟨⟨(RX12, TX12, 63), rfl, by decide, tb_at 1329 (by decide +kernel) (by decide +kernel), Or.inl rfl⟩, List.forall_mem_cons.mpr ⟨⟨(RX12, TX12, 63), rfl, by decide, tb_at 1335 (by decide +kernel) (by decide +kernel), Or.inl rfl⟩, List.forall_mem_cons.mpr ⟨⟨(RX12, TX12, 63), rfl, by decide, tb_at 1338 (by decide +kernel) (by decide +kernel), Or.inl rfl⟩, List.forall_mem_cons.mpr ⟨⟨(RX12, TX12, 63), rfl, by decide, tb_at 1336 (by decide +kernel) (by decide +kernel), Or.inl rfl⟩, List.forall_mem_cons.mpr ⟨⟨(RX12, TX12, 63), rfl, by decide, tb_at 1339 (by decide +kernel) (by decide +kernel), Or.inl rfl⟩, List.forall_mem_cons.mpr ⟨⟨(RX12, TX12, 63), rfl, by decide, tb_at 1340 (by decide +kernel) (by decide +kernel), Or.inl rfl⟩, List.forall_mem_cons.mpr ⟨⟨(RX12, TX12, 63), rfl, by decide, tb_at 1341 (by decide +kernel) (by decide +kernel), Or.inl rfl⟩, List.forall_mem_cons.mpr ⟨⟨(RX12, TX12, 63), rfl, by decide, tb_at 1337 (by decide +kernel) (by decide +kernel), Or.inl rfl⟩, List.forall_mem_cons.mpr ⟨⟨(RX12, TX12, 63), rfl, by decide, tb_at 1343 (by decide +kernel) (by decide +kernel), Or.inl rfl⟩, List.forall_mem_cons.mpr ⟨⟨(RX12, TX12, 63), rfl, by decide, tb_at 1344 (by decide +kernel) (by decide +kernel), Or.inl rfl⟩, List.forall_mem_cons.mpr ⟨⟨(RX12, TX12, 63), rfl, by decide, tb_at 1345 (by decide +kernel) (by decide +kernel), Or.inl rfl⟩, List.forall_mem_cons.mpr ⟨⟨(RX12, TX12, 63), rfl, by decide, tb_at 1356 (by decide +kernel) (by decide +kernel), Or.inl rfl⟩, List.forall_mem_cons.mpr ⟨⟨(RX12, TX12, 63), rfl, by decide, tb_at 1362 (by decide +kernel) (by decide +kernel), Or.inl rfl⟩, List.forall_mem_cons.mpr ⟨⟨(RX12, TX12, 63), rfl, by decide, tb_at 1374 (by decide +kernel) (by decide +kernel), Or.inl rfl⟩, List.forall_mem_cons.mpr ⟨⟨(RX12, TX12, 63), rfl, by decide, tb_at 1383 (by decide +kernel) (by decide +kernel), Or.inl rfl⟩, List.forall_mem_cons.mpr ⟨⟨(RX12, TX12, 63), rfl, by decide, tb_at 1366 (by decide +kernel) (by decide +kernel), Or.inl rfl⟩, List.forall_mem_cons.mpr ⟨⟨(RX12, TX12, 63), rfl, by decide, tb_at 1369 (by decide +kernel) (by decide +kernel), Or.inl rfl⟩, List.forall_mem_cons.mpr ⟨⟨(RX12, TX12, 63), rfl, by decide, tb_at 1372 (by decide +kernel) (by decide +kernel), Or.inl rfl⟩, List.forall_mem_cons.mpr ⟨⟨(RX12, TX12, 63), rfl, by decide, tb_at 1373 (by decide +kernel) (by decide +kernel), Or.inl rfl⟩, List.forall_mem_cons.mpr ⟨⟨(RX12, TX12, 63), rfl, by decide, tb_at 1379 (by decide +kernel) (by decide +kernel), Or.inl rfl⟩, fun _ h => absurd h List.not_mem_nil⟩⟩⟩⟩⟩⟩⟩⟩⟩⟩⟩⟩⟩⟩⟩⟩⟩⟩⟩⟩⟩⟩⟩⟩⟩⟩⟩⟩⟩⟩⟩⟩⟩⟩⟩⟩⟩⟩⟩⟩⟩⟩⟩⟩⟩⟩⟩⟩⟩⟩⟩⟩⟩⟩⟩⟩⟩⟩⟩⟩⟩⟩
theorem FT_X12_13 : am_find FT_X12 13 = some (12, 1) := rfl
theorem FT_X12_17 : am_find FT_X12 17 = some (12, 3) := rfl
theorem FT_X12_20 : am_find FT_X12 20 = some (12, 5) := rfl
theorem FT_X12_24 : am_find FT_X12 24 = some (12, 6) := rfl
theorem FT_X12_27 : am_find FT_X12 27 = some (12, 7) := rfl
theorem FT_X12_30 : am_find FT_X12 30 = some (12, 8) := rfl
theorem FT_X12_34 : am_find FT_X12 34 = some (12, 9) := rfl
theorem FT_X12_37 : am_find FT_X12 37 = some (12, 17) := rfl
theorem FT_X12_40 : am_find FT_X12 40 = some (12, 21) := rfl
theorem FT_X12_43 : am_find FT_X12 43 = some (12, 22) := rfl
theorem FT_X12_46 : am_find FT_X12 46 = some (12, 23) := rfl
theorem FT_X12_49 : am_find FT_X12 49 = some (12, 24) := rfl
theorem FT_X12_52 : am_find FT_X12 52 = some (12, 25) := rfl
theorem FT_X12_55 : am_find FT_X12 55 = some (12, 26) := rfl
theorem FT_X12_58 : am_find FT_X12 58 = some (12, 27) := rfl
theorem FT_X12_61 : am_find FT_X12 61 = some (12, 28) := rfl
theorem FT_X12_64 : am_find FT_X12 64 = some (12, 29) := rfl
theorem FT_X12_67 : am_find FT_X12 67 = some (12, 30) := rfl
theorem FT_X12_70 : am_find FT_X12 70 = some (12, 32) := rfl
theorem FT_X12_74 : am_find FT_X12 74 = some (12, 33) := rfl
theorem FT_X12_77 : am_find FT_X12 77 = some (12, 34) := rfl
theorem FT_X12_80 : am_find FT_X12 80 = some (12, 35) := rfl
theorem FT_X12_83 : am_find FT_X12 83 = some (12, 36) := rfl
theorem FT_X12_86 : am_find FT_X12 86 = some (12, 38) := rfl
theorem FT_X12_89 : am_find FT_X12 89 = some (12, 39) := rfl
theorem FT_X12_92 : am_find FT_X12 92 = some (12, 40) := rfl
theorem FT_X12_95 : am_find FT_X12 95 = some (12, 42) := rfl
theorem FT_X12_98 : am_find FT_X12 98 = some (12, 43) := rfl
theorem FT_X12_101 : am_find FT_X12 101 = some (12, 45) := rfl
theorem FT_X12_104 : am_find FT_X12 104 = some (12, 46) := rfl
theorem FT_X12_107 : am_find FT_X12 107 = some (12, 50) := rfl
theorem FT_X12_110 : am_find FT_X12 110 = some (12, 51) := rfl
theorem FT_X12_113 : am_find FT_X12 113 = some (12, 52) := rfl
theorem FT_X12_116 : am_find FT_X12 116 = some (12, 53) := rfl
theorem FT_X12_119 : am_find FT_X12 119 = some (12, 55) := rfl
theorem FT_X12_122 : am_find FT_X12 122 = some (12, 56) := rfl
theorem FT_X12_125 : am_find FT_X12 125 = some (12, 57) := rfl
theorem FT_X12_128 : am_find FT_X12 128 = some (12, 59) := rfl
theorem FT_X12_131 : am_find FT_X12 131 = some (12, 60) := rfl
theorem FT_X12_134 : am_find FT_X12 134 = some (12, 61) := rfl
theorem FT_X12_137 : am_find FT_X12 137 = some (12, 62) := rfl
theorem FT_X12_154 : am_find FT_X12 154 = some (12, 2) := rfl
theorem FT_X12_160 : am_find FT_X12 160 = some (12, 4) := rfl
theorem FT_X12_169 : am_find FT_X12 169 = some (12, 10) := rfl
theorem FT_X12_191 : am_find FT_X12 191 = some (12, 13) := rfl
theorem FT_X12_194 : am_find FT_X12 194 = some (12, 11) := rfl
theorem FT_X12_197 : am_find FT_X12 197 = some (12, 14) := rfl
theorem FT_X12_200 : am_find FT_X12 200 = some (12, 15) := rfl
theorem FT_X12_203 : am_find FT_X12 203 = some (12, 16) := rfl
theorem FT_X12_218 : am_find FT_X12 218 = some (12, 12) := rfl
theorem FT_X12_221 : am_find FT_X12 221 = some (12, 18) := rfl
theorem FT_X12_224 : am_find FT_X12 224 = some (12, 19) := rfl
theorem FT_X12_227 : am_find FT_X12 227 = some (12, 20) := rfl
theorem FT_X12_230 : am_find FT_X12 230 = some (12, 31) := rfl
theorem FT_X12_233 : am_find FT_X12 233 = some (12, 37) := rfl
theorem FT_X12_247 : am_find FT_X12 247 = some (12, 49) := rfl
theorem FT_X12_250 : am_find FT_X12 250 = some (12, 58) := rfl
theorem FT_X12_275 : am_find FT_X12 275 = some (12, 41) := rfl
theorem FT_X12_288 : am_find FT_X12 288 = some (12, 44) := rfl
theorem FT_X12_296 : am_find FT_X12 296 = some (12, 47) := rfl
theorem FT_X12_299 : am_find FT_X12 299 = some (12, 48) := rfl
theorem FT_X12_417 : am_find FT_X12 417 = some (12, 54) := rfl
theorem PT_X12_37 : am_find PT_X12 37 = some (12, 17) := rfl
theorem PT_X12_154 : am_find PT_X12 154 = some (12, 2) := rfl
theorem PT_X12_160 : am_find PT_X12 160 = some (12, 4) := rfl
theorem PT_X12_169 : am_find PT_X12 169 = some (12, 10) := rfl
theorem PT_X12_191 : am_find PT_X12 191 = some (12, 13) := rfl
theorem PT_X12_194 : am_find PT_X12 194 = some (12, 11) := rfl
theorem PT_X12_197 : am_find PT_X12 197 = some (12, 14) := rfl
theorem PT_X12_200 : am_find PT_X12 200 = some (12, 15) := rfl
theorem PT_X12_203 : am_find PT_X12 203 = some (12, 16) := rfl
theorem PT_X12_218 : am_find PT_X12 218 = some (12, 12) := rfl
theorem PT_X12_221 : am_find PT_X12 221 = some (12, 18) := rfl
theorem PT_X12_224 : am_find PT_X12 224 = some (12, 19) := rfl
theorem PT_X12_227 : am_find PT_X12 227 = some (12, 20) := rfl
theorem PT_X12_230 : am_find PT_X12 230 = some (12, 31) := rfl
theorem PT_X12_233 : am_find PT_X12 233 = some (12, 37) := rfl
theorem PT_X12_247 : am_find PT_X12 247 = some (12, 49) := rfl
theorem PT_X12_250 : am_find PT_X12 250 = some (12, 58) := rfl
theorem PT_X12_275 : am_find PT_X12 275 = some (12, 41) := rfl
theorem PT_X12_288 : am_find PT_X12 288 = some (12, 44) := rfl
theorem PT_X12_296 : am_find PT_X12 296 = some (12, 47) := rfl
theorem PT_X12_299 : am_find PT_X12 299 = some (12, 48) := rfl
theorem PT_X12_417 : am_find PT_X12 417 = some (12, 54) := rfl
theorem PI_X12_13 : am_find PI_X12 13 = some (12, 1) := rfl
theorem PI_X12_17 : am_find PI_X12 17 = some (12, 3) := rfl
theorem PI_X12_20 : am_find PI_X12 20 = some (12, 5) := rfl
theorem PI_X12_24 : am_find PI_X12 24 = some (12, 6) := rfl
theorem PI_X12_27 : am_find PI_X12 27 = some (12, 7) := rfl
theorem PI_X12_30 : am_find PI_X12 30 = some (12, 8) := rfl
theorem PI_X12_34 : am_find PI_X12 34 = some (12, 9) := rfl
theorem PI_X12_37 : am_find PI_X12 37 = some (12, 17) := rfl
theorem PI_X12_40 : am_find PI_X12 40 = some (12, 21) := rfl
theorem PI_X12_43 : am_find PI_X12 43 = some (12, 22) := rfl
theorem PI_X12_46 : am_find PI_X12 46 = some (12, 23) := rfl
theorem PI_X12_49 : am_find PI_X12 49 = some (12, 24) := rfl
theorem PI_X12_52 : am_find PI_X12 52 = some (12, 25) := rfl
theorem PI_X12_55 : am_find PI_X12 55 = some (12, 26) := rfl
theorem PI_X12_58 : am_find PI_X12 58 = some (12, 27) := rfl
theorem PI_X12_61 : am_find PI_X12 61 = some (12, 28) := rfl
theorem PI_X12_64 : am_find PI_X12 64 = some (12, 29) := rfl
theorem PI_X12_67 : am_find PI_X12 67 = some (12, 30) := rfl
theorem PI_X12_70 : am_find PI_X12 70 = some (12, 32) := rfl
theorem PI_X12_74 : am_find PI_X12 74 = some (12, 33) := rfl
theorem PI_X12_77 : am_find PI_X12 77 = some (12, 34) := rfl
theorem PI_X12_80 : am_find PI_X12 80 = some (12, 35) := rfl
theorem PI_X12_83 : am_find PI_X12 83 = some (12, 36) := rfl
theorem PI_X12_86 : am_find PI_X12 86 = some (12, 38) := rfl
theorem PI_X12_89 : am_find PI_X12 89 = some (12, 39) := rfl
theorem PI_X12_92 : am_find PI_X12 92 = some (12, 40) := rfl
theorem PI_X12_95 : am_find PI_X12 95 = some (12, 42) := rfl
theorem PI_X12_98 : am_find PI_X12 98 = some (12, 43) := rfl
theorem PI_X12_101 : am_find PI_X12 101 = some (12, 45) := rfl
theorem PI_X12_104 : am_find PI_X12 104 = some (12, 46) := rfl
theorem PI_X12_107 : am_find PI_X12 107 = some (12, 50) := rfl
theorem PI_X12_110 : am_find PI_X12 110 = some (12, 51) := rfl
theorem PI_X12_113 : am_find PI_X12 113 = some (12, 52) := rfl
theorem PI_X12_116 : am_find PI_X12 116 = some (12, 53) := rfl
theorem PI_X12_119 : am_find PI_X12 119 = some (12, 55) := rfl
theorem PI_X12_122 : am_find PI_X12 122 = some (12, 56) := rfl
theorem PI_X12_125 : am_find PI_X12 125 = some (12, 57) := rfl
theorem PI_X12_128 : am_find PI_X12 128 = some (12, 59) := rfl
theorem PI_X12_131 : am_find PI_X12 131 = some (12, 60) := rfl
theorem PI_X12_134 : am_find PI_X12 134 = some (12, 61) := rfl
theorem PI_X12_137 : am_find PI_X12 137 = some (12, 62) := rfl
theorem PI_X12_154 : am_find PI_X12 154 = some (12, 2) := rfl
theorem PI_X12_160 : am_find PI_X12 160 = some (12, 4) := rfl
theorem PI_X12_169 : am_find PI_X12 169 = some (12, 10) := rfl
theorem PI_X12_191 : am_find PI_X12 191 = some (12, 13) := rfl
theorem PI_X12_194 : am_find PI_X12 194 = some (12, 11) := rfl
theorem PI_X12_197 : am_find PI_X12 197 = some (12, 14) := rfl
theorem PI_X12_200 : am_find PI_X12 200 = some (12, 15) := rfl
theorem PI_X12_203 : am_find PI_X12 203 = some (12, 16) := rfl
theorem PI_X12_218 : am_find PI_X12 218 = some (12, 12) := rfl
theorem PI_X12_221 : am_find PI_X12 221 = some (12, 18) := rfl
theorem PI_X12_224 : am_find PI_X12 224 = some (12, 19) := rfl
theorem PI_X12_227 : am_find PI_X12 227 = some (12, 20) := rfl
theorem PI_X12_230 : am_find PI_X12 230 = some (12, 31) := rfl
theorem PI_X12_233 : am_find PI_X12 233 = some (12, 37) := rfl
theorem PI_X12_247 : am_find PI_X12 247 = some (12, 49) := rfl
theorem PI_X12_250 : am_find PI_X12 250 = some (12, 58) := rfl
theorem PI_X12_275 : am_find PI_X12 275 = some (12, 41) := rfl
theorem PI_X12_288 : am_find PI_X12 288 = some (12, 44) := rfl
theorem PI_X12_296 : am_find PI_X12 296 = some (12, 47) := rfl
theorem PI_X12_299 : am_find PI_X12 299 = some (12, 48) := rfl
theorem PI_X12_417 : am_find PI_X12 417 = some (12, 54) := rfl
def CT_X12 : List (Nat × Nat) := []
theorem CT_X12_ok : ∀ q ∈ CT_X12, am_CC TB vwCl RX12 q := fun _ h => absurd h List.not_mem_nil
def KT_X12 : List (Nat × Int32) := [(302, 1103515245), (355, 99999)]
theorem KT_X12_ok : ∀ q ∈ KT_X12, Cond.constant RX12 q.1 q.2 ∈ TB := List.forall_mem_cons.mpr ⟨tb_at 1771 (by decide +kernel) (by decide +kernel), List.forall_mem_cons.mpr ⟨tb_at 1759 (by decide +kernel) (by decide +kernel), fun _ h => absurd h List.not_mem_nil⟩⟩
def LT_X12 : List (Nat × Int64) := [(163, 27)]
theorem LT_X12_ok : ∀ q ∈ LT_X12, Cond.constantLong RX12 q.1 q.2 ∈ TB := List.forall_mem_cons.mpr ⟨tb_at 1317 (by decide +kernel) (by decide +kernel), fun _ h => absurd h List.not_mem_nil⟩
def NT_X12 : List (Nat × Nat) := [(7, 3)]
theorem NT_X12_ok : ∀ q ∈ NT_X12, am_NO TB RX12 q := List.forall_mem_cons.mpr ⟨⟨tb_at 1306 (by decide +kernel) (by decide +kernel), tb_at 134 (by decide +kernel) (by decide +kernel), tb_at 135 (by decide +kernel) (by decide +kernel)⟩, fun _ h => absurd h List.not_mem_nil⟩
def FT_J6 : List (Nat × Nat × Nat) := []
theorem FT_J6_ok : ∀ q ∈ FT_J6, am_FO TB vwCl RJ6 q := fun _ h => absurd h List.not_mem_nil
def PT_J6 : List (Nat × Nat × Nat) := []
theorem PT_J6_ok (nm : String) : ∀ q ∈ PT_J6, am_PO TB vwCl RJ6 nm q := fun _ h => absurd h List.not_mem_nil
def PI_J6 : List (Nat × Nat × Nat) := []
theorem PI_J6_ok : ∀ q ∈ PI_J6, am_PO TB vwCl RJ6 "<init>" q := fun _ h => absurd h List.not_mem_nil
def CT_J6 : List (Nat × Nat) := []
theorem CT_J6_ok : ∀ q ∈ CT_J6, am_CC TB vwCl RJ6 q := fun _ h => absurd h List.not_mem_nil
def KT_J6 : List (Nat × Int32) := [(265, 1431655765), (266, 858993459), (267, 252645135)]
theorem KT_J6_ok : ∀ q ∈ KT_J6, Cond.constant RJ6 q.1 q.2 ∈ TB := List.forall_mem_cons.mpr ⟨tb_at 832 (by decide +kernel) (by decide +kernel), List.forall_mem_cons.mpr ⟨tb_at 833 (by decide +kernel) (by decide +kernel), List.forall_mem_cons.mpr ⟨tb_at 834 (by decide +kernel) (by decide +kernel), fun _ h => absurd h List.not_mem_nil⟩⟩⟩
def LT_J6 : List (Nat × Int64) := []
theorem LT_J6_ok : ∀ q ∈ LT_J6, Cond.constantLong RJ6 q.1 q.2 ∈ TB := fun _ h => absurd h List.not_mem_nil
def NT_J6 : List (Nat × Nat) := []
theorem NT_J6_ok : ∀ q ∈ NT_J6, am_NO TB RJ6 q := fun _ h => absurd h List.not_mem_nil
def FT_J9 : List (Nat × Nat × Nat) := []
theorem FT_J9_ok : ∀ q ∈ FT_J9, am_FO TB vwCl RJ9 q := fun _ h => absurd h List.not_mem_nil
def PT_J9 : List (Nat × Nat × Nat) := []
theorem PT_J9_ok (nm : String) : ∀ q ∈ PT_J9, am_PO TB vwCl RJ9 nm q := fun _ h => absurd h List.not_mem_nil
def PI_J9 : List (Nat × Nat × Nat) := []
theorem PI_J9_ok : ∀ q ∈ PI_J9, am_PO TB vwCl RJ9 "<init>" q := fun _ h => absurd h List.not_mem_nil
def CT_J9 : List (Nat × Nat) := []
theorem CT_J9_ok : ∀ q ∈ CT_J9, am_CC TB vwCl RJ9 q := fun _ h => absurd h List.not_mem_nil
def KT_J9 : List (Nat × Int32) := []
theorem KT_J9_ok : ∀ q ∈ KT_J9, Cond.constant RJ9 q.1 q.2 ∈ TB := fun _ h => absurd h List.not_mem_nil
def LT_J9 : List (Nat × Int64) := []
theorem LT_J9_ok : ∀ q ∈ LT_J9, Cond.constantLong RJ9 q.1 q.2 ∈ TB := fun _ h => absurd h List.not_mem_nil
def NT_J9 : List (Nat × Nat) := []
theorem NT_J9_ok : ∀ q ∈ NT_J9, am_NO TB RJ9 q := fun _ h => absurd h List.not_mem_nil
def FT_J7 : List (Nat × Nat × Nat) := []
theorem FT_J7_ok : ∀ q ∈ FT_J7, am_FO TB vwCl RJ7 q := fun _ h => absurd h List.not_mem_nil
def PT_J7 : List (Nat × Nat × Nat) := []
theorem PT_J7_ok (nm : String) : ∀ q ∈ PT_J7, am_PO TB vwCl RJ7 nm q := fun _ h => absurd h List.not_mem_nil
def PI_J7 : List (Nat × Nat × Nat) := []
theorem PI_J7_ok : ∀ q ∈ PI_J7, am_PO TB vwCl RJ7 "<init>" q := fun _ h => absurd h List.not_mem_nil
def CT_J7 : List (Nat × Nat) := []
theorem CT_J7_ok : ∀ q ∈ CT_J7, am_CC TB vwCl RJ7 q := fun _ h => absurd h List.not_mem_nil
def KT_J7 : List (Nat × Int32) := []
theorem KT_J7_ok : ∀ q ∈ KT_J7, Cond.constant RJ7 q.1 q.2 ∈ TB := fun _ h => absurd h List.not_mem_nil
def LT_J7 : List (Nat × Int64) := []
theorem LT_J7_ok : ∀ q ∈ LT_J7, Cond.constantLong RJ7 q.1 q.2 ∈ TB := fun _ h => absurd h List.not_mem_nil
def NT_J7 : List (Nat × Nat) := []
theorem NT_J7_ok : ∀ q ∈ NT_J7, am_NO TB RJ7 q := fun _ h => absurd h List.not_mem_nil
def FT_L : List (Nat × Nat × Nat) := []
theorem FT_L_ok : ∀ q ∈ FT_L, am_FO TB vwCl RL q := fun _ h => absurd h List.not_mem_nil
def PT_L : List (Nat × Nat × Nat) := []
theorem PT_L_ok (nm : String) : ∀ q ∈ PT_L, am_PO TB vwCl RL nm q := fun _ h => absurd h List.not_mem_nil
def PI_L : List (Nat × Nat × Nat) := []
theorem PI_L_ok : ∀ q ∈ PI_L, am_PO TB vwCl RL "<init>" q := fun _ h => absurd h List.not_mem_nil
def CT_L : List (Nat × Nat) := [(7, 11), (10, 12)]
theorem CT_L_ok : ∀ q ∈ CT_L, am_CC TB vwCl RL q := List.forall_mem_cons.mpr ⟨⟨(RX11, TX11, 14), rfl, tb_at 128 (by decide +kernel) (by decide +kernel), tb_at 129 (by decide +kernel) (by decide +kernel), tb_at 107 (by decide +kernel) (by decide +kernel)⟩, List.forall_mem_cons.mpr ⟨⟨(RX12, TX12, 63), rfl, tb_at 1301 (by decide +kernel) (by decide +kernel), tb_at 1302 (by decide +kernel) (by decide +kernel), tb_at 124 (by decide +kernel) (by decide +kernel)⟩, fun _ h => absurd h List.not_mem_nil⟩⟩
def KT_L : List (Nat × Int32) := []
theorem KT_L_ok : ∀ q ∈ KT_L, Cond.constant RL q.1 q.2 ∈ TB := fun _ h => absurd h List.not_mem_nil
def LT_L : List (Nat × Int64) := []
theorem LT_L_ok : ∀ q ∈ LT_L, Cond.constantLong RL q.1 q.2 ∈ TB := fun _ h => absurd h List.not_mem_nil
def NT_L : List (Nat × Nat) := []
theorem NT_L_ok : ∀ q ∈ NT_L, am_NO TB RL q := fun _ h => absurd h List.not_mem_nil
end
section
theorem i_vc : Claimed_1_1 ∧ Claimed_1_2 := sorry
end
