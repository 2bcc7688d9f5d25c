section
/-- a private method of a class that the tables say can be made, by its rows of tables_1 -/
def lw_okq (q : MethodName × Nat) : Prop := (q.1.cls ≠ "java/lang/invoke/MethodHandle" ∧ q.1.cls ≠ "java/lang/invoke/VarHandle") ∧ Cond.instantiable q.1.cls q.2 ∈ tables_1 ∧ Cond.privateMethod q.1 ∈ tables_1 ∧ Cond.instanceMethod q.1 ∈ tables_1
theorem lw_p0 : lw_okq (⟨"TruePies$Text", "step", "()V"⟩, 6) := ⟨⟨by decide +kernel, by decide +kernel⟩, List.mem_of_getElem? (i := 22) (by decide +kernel), List.mem_of_getElem? (i := 239) (by decide +kernel), List.mem_of_getElem? (i := 240) (by decide +kernel)⟩
theorem lw_p1 : lw_okq (⟨"TruePies$Text", "isLetter", "(I)Z"⟩, 6) := ⟨⟨by decide +kernel, by decide +kernel⟩, List.mem_of_getElem? (i := 22) (by decide +kernel), List.mem_of_getElem? (i := 243) (by decide +kernel), List.mem_of_getElem? (i := 244) (by decide +kernel)⟩
theorem lw_p2 : lw_okq (⟨"TruePies$Text", "takeWord", "()V"⟩, 6) := ⟨⟨by decide +kernel, by decide +kernel⟩, List.mem_of_getElem? (i := 22) (by decide +kernel), List.mem_of_getElem? (i := 247) (by decide +kernel), List.mem_of_getElem? (i := 248) (by decide +kernel)⟩
theorem lw_p3 : lw_okq (⟨"TruePies$Text", "isDigit", "(I)Z"⟩, 6) := ⟨⟨by decide +kernel, by decide +kernel⟩, List.mem_of_getElem? (i := 22) (by decide +kernel), List.mem_of_getElem? (i := 251) (by decide +kernel), List.mem_of_getElem? (i := 252) (by decide +kernel)⟩
theorem lw_p4 : lw_okq (⟨"TruePies$Text", "takeNumber", "()V"⟩, 6) := ⟨⟨by decide +kernel, by decide +kernel⟩, List.mem_of_getElem? (i := 22) (by decide +kernel), List.mem_of_getElem? (i := 255) (by decide +kernel), List.mem_of_getElem? (i := 256) (by decide +kernel)⟩
theorem lw_p5 : lw_okq (⟨"TruePies$Text", "readItem", "(LTruePies$Court;)Z"⟩, 6) := ⟨⟨by decide +kernel, by decide +kernel⟩, List.mem_of_getElem? (i := 22) (by decide +kernel), List.mem_of_getElem? (i := 259) (by decide +kernel), List.mem_of_getElem? (i := 260) (by decide +kernel)⟩
theorem lw_p6 : lw_okq (⟨"TruePies$Text", "readLeaf", "(LTruePies$Court;)Z"⟩, 6) := ⟨⟨by decide +kernel, by decide +kernel⟩, List.mem_of_getElem? (i := 22) (by decide +kernel), List.mem_of_getElem? (i := 263) (by decide +kernel), List.mem_of_getElem? (i := 264) (by decide +kernel)⟩
theorem lw_p7 : lw_okq (⟨"TruePies$Text", "readTastes", "([II)Z"⟩, 6) := ⟨⟨by decide +kernel, by decide +kernel⟩, List.mem_of_getElem? (i := 22) (by decide +kernel), List.mem_of_getElem? (i := 267) (by decide +kernel), List.mem_of_getElem? (i := 268) (by decide +kernel)⟩
theorem lw_p8 : lw_okq (⟨"TruePies$Text", "isRow", "(I)Z"⟩, 6) := ⟨⟨by decide +kernel, by decide +kernel⟩, List.mem_of_getElem? (i := 22) (by decide +kernel), List.mem_of_getElem? (i := 271) (by decide +kernel), List.mem_of_getElem? (i := 272) (by decide +kernel)⟩
theorem lw_p9 : lw_okq (⟨"TruePies$Text", "rowBits", "()I"⟩, 6) := ⟨⟨by decide +kernel, by decide +kernel⟩, List.mem_of_getElem? (i := 22) (by decide +kernel), List.mem_of_getElem? (i := 278) (by decide +kernel), List.mem_of_getElem? (i := 279) (by decide +kernel)⟩
theorem lw_p10 : lw_okq (⟨"TruePies$Text", "readGoer", "(LTruePies$Court;)Z"⟩, 6) := ⟨⟨by decide +kernel, by decide +kernel⟩, List.mem_of_getElem? (i := 22) (by decide +kernel), List.mem_of_getElem? (i := 282) (by decide +kernel), List.mem_of_getElem? (i := 283) (by decide +kernel)⟩
theorem lw_p11 : lw_okq (⟨"TruePies$Text", "readSister", "(LTruePies$Court;)Z"⟩, 6) := ⟨⟨by decide +kernel, by decide +kernel⟩, List.mem_of_getElem? (i := 22) (by decide +kernel), List.mem_of_getElem? (i := 286) (by decide +kernel), List.mem_of_getElem? (i := 287) (by decide +kernel)⟩
theorem lw_p12 : lw_okq (⟨"TruePies$Text", "readFriday", "(LTruePies$Court;)Z"⟩, 6) := ⟨⟨by decide +kernel, by decide +kernel⟩, List.mem_of_getElem? (i := 22) (by decide +kernel), List.mem_of_getElem? (i := 290) (by decide +kernel), List.mem_of_getElem? (i := 291) (by decide +kernel)⟩
theorem lw_p13 : lw_okq (⟨"TruePies$Text", "isNumber", "(II)Z"⟩, 6) := ⟨⟨by decide +kernel, by decide +kernel⟩, List.mem_of_getElem? (i := 22) (by decide +kernel), List.mem_of_getElem? (i := 294) (by decide +kernel), List.mem_of_getElem? (i := 295) (by decide +kernel)⟩
theorem lw_p14 : lw_okq (⟨"TruePies$Text", "number", "()I"⟩, 6) := ⟨⟨by decide +kernel, by decide +kernel⟩, List.mem_of_getElem? (i := 22) (by decide +kernel), List.mem_of_getElem? (i := 298) (by decide +kernel), List.mem_of_getElem? (i := 299) (by decide +kernel)⟩
theorem lw_p15 : lw_okq (⟨"TruePies$Text", "readLane", "(LTruePies$Court;)Z"⟩, 6) := ⟨⟨by decide +kernel, by decide +kernel⟩, List.mem_of_getElem? (i := 22) (by decide +kernel), List.mem_of_getElem? (i := 302) (by decide +kernel), List.mem_of_getElem? (i := 303) (by decide +kernel)⟩
def lw_privs_1 : List (MethodName × Nat) := [(⟨"TruePies$Text", "step", "()V"⟩, 6), (⟨"TruePies$Text", "isLetter", "(I)Z"⟩, 6), (⟨"TruePies$Text", "takeWord", "()V"⟩, 6), (⟨"TruePies$Text", "isDigit", "(I)Z"⟩, 6), (⟨"TruePies$Text", "takeNumber", "()V"⟩, 6), (⟨"TruePies$Text", "readItem", "(LTruePies$Court;)Z"⟩, 6), (⟨"TruePies$Text", "readLeaf", "(LTruePies$Court;)Z"⟩, 6), (⟨"TruePies$Text", "readTastes", "([II)Z"⟩, 6), (⟨"TruePies$Text", "isRow", "(I)Z"⟩, 6), (⟨"TruePies$Text", "rowBits", "()I"⟩, 6), (⟨"TruePies$Text", "readGoer", "(LTruePies$Court;)Z"⟩, 6), (⟨"TruePies$Text", "readSister", "(LTruePies$Court;)Z"⟩, 6), (⟨"TruePies$Text", "readFriday", "(LTruePies$Court;)Z"⟩, 6), (⟨"TruePies$Text", "isNumber", "(II)Z"⟩, 6), (⟨"TruePies$Text", "number", "()I"⟩, 6), (⟨"TruePies$Text", "readLane", "(LTruePies$Court;)Z"⟩, 6)]
theorem lw_r1 : ∀ q ∈ lw_privs_1, lw_okq q := List.forall_mem_cons.mpr ⟨lw_p0, List.forall_mem_cons.mpr ⟨lw_p1, List.forall_mem_cons.mpr ⟨lw_p2, List.forall_mem_cons.mpr ⟨lw_p3, List.forall_mem_cons.mpr ⟨lw_p4, List.forall_mem_cons.mpr ⟨lw_p5, List.forall_mem_cons.mpr ⟨lw_p6, List.forall_mem_cons.mpr ⟨lw_p7, List.forall_mem_cons.mpr ⟨lw_p8, List.forall_mem_cons.mpr ⟨lw_p9, List.forall_mem_cons.mpr ⟨lw_p10, List.forall_mem_cons.mpr ⟨lw_p11, List.forall_mem_cons.mpr ⟨lw_p12, List.forall_mem_cons.mpr ⟨lw_p13, List.forall_mem_cons.mpr ⟨lw_p14, List.forall_mem_cons.mpr ⟨lw_p15, fun _ h => absurd h List.not_mem_nil⟩⟩⟩⟩⟩⟩⟩⟩⟩⟩⟩⟩⟩⟩⟩⟩
theorem lw_p16 : lw_okq (⟨"TruePies$Court", "coversAll", "(I)Z"⟩, 10) := ⟨⟨by decide +kernel, by decide +kernel⟩, List.mem_of_getElem? (i := 50) (by decide +kernel), List.mem_of_getElem? (i := 370) (by decide +kernel), List.mem_of_getElem? (i := 371) (by decide +kernel)⟩
theorem lw_p17 : lw_okq (⟨"TruePies$Line", "mostBehind", "(IILTruePies$Court;LTruePies$Now;)I"⟩, 1) := ⟨⟨by decide +kernel, by decide +kernel⟩, List.mem_of_getElem? (i := 177) (by decide +kernel), List.mem_of_getElem? (i := 443) (by decide +kernel), List.mem_of_getElem? (i := 444) (by decide +kernel)⟩
theorem lw_p18 : lw_okq (⟨"TruePies$Line", "worth", "(IILTruePies$Court;LTruePies$Now;)I"⟩, 1) := ⟨⟨by decide +kernel, by decide +kernel⟩, List.mem_of_getElem? (i := 177) (by decide +kernel), List.mem_of_getElem? (i := 448) (by decide +kernel), List.mem_of_getElem? (i := 449) (by decide +kernel)⟩
theorem lw_p19 : lw_okq (⟨"TruePies$Line", "lowestOfBest", "(IILTruePies$Court;LTruePies$Now;)I"⟩, 1) := ⟨⟨by decide +kernel, by decide +kernel⟩, List.mem_of_getElem? (i := 177) (by decide +kernel), List.mem_of_getElem? (i := 462) (by decide +kernel), List.mem_of_getElem? (i := 463) (by decide +kernel)⟩
theorem lw_p20 : lw_okq (⟨"TruePies", "setsLetBy", "(II)I"⟩, 10) := ⟨⟨by decide +kernel, by decide +kernel⟩, List.mem_of_getElem? (i := 14) (by decide +kernel), List.mem_of_getElem? (i := 497) (by decide +kernel), List.mem_of_getElem? (i := 498) (by decide +kernel)⟩
theorem lw_p21 : lw_okq (⟨"TruePies$Court", "dayOfFriday", "(III)I"⟩, 10) := ⟨⟨by decide +kernel, by decide +kernel⟩, List.mem_of_getElem? (i := 50) (by decide +kernel), List.mem_of_getElem? (i := 524) (by decide +kernel), List.mem_of_getElem? (i := 525) (by decide +kernel)⟩
theorem lw_p22 : lw_okq (⟨"TruePies", "rateAsGoer", "(I)I"⟩, 10) := ⟨⟨by decide +kernel, by decide +kernel⟩, List.mem_of_getElem? (i := 14) (by decide +kernel), List.mem_of_getElem? (i := 548) (by decide +kernel), List.mem_of_getElem? (i := 549) (by decide +kernel)⟩
theorem lw_p23 : lw_okq (⟨"TruePies", "rateAsGent", "(I)I"⟩, 10) := ⟨⟨by decide +kernel, by decide +kernel⟩, List.mem_of_getElem? (i := 14) (by decide +kernel), List.mem_of_getElem? (i := 552) (by decide +kernel), List.mem_of_getElem? (i := 553) (by decide +kernel)⟩
theorem lw_p24 : lw_okq (⟨"TruePies", "rateAsDoctor", "(I)I"⟩, 10) := ⟨⟨by decide +kernel, by decide +kernel⟩, List.mem_of_getElem? (i := 14) (by decide +kernel), List.mem_of_getElem? (i := 557) (by decide +kernel), List.mem_of_getElem? (i := 558) (by decide +kernel)⟩
theorem lw_p25 : lw_okq (⟨"TruePies", "rateAsSamples", "(I)I"⟩, 10) := ⟨⟨by decide +kernel, by decide +kernel⟩, List.mem_of_getElem? (i := 14) (by decide +kernel), List.mem_of_getElem? (i := 562) (by decide +kernel), List.mem_of_getElem? (i := 563) (by decide +kernel)⟩
theorem lw_p26 : lw_okq (⟨"TruePies", "rateAsWife", "(I)I"⟩, 10) := ⟨⟨by decide +kernel, by decide +kernel⟩, List.mem_of_getElem? (i := 14) (by decide +kernel), List.mem_of_getElem? (i := 567) (by decide +kernel), List.mem_of_getElem? (i := 568) (by decide +kernel)⟩
theorem lw_p27 : lw_okq (⟨"TruePies", "rateAsTall", "(I)I"⟩, 10) := ⟨⟨by decide +kernel, by decide +kernel⟩, List.mem_of_getElem? (i := 14) (by decide +kernel), List.mem_of_getElem? (i := 572) (by decide +kernel), List.mem_of_getElem? (i := 573) (by decide +kernel)⟩
theorem lw_p28 : lw_okq (⟨"TruePiesModel", "reads", "()I"⟩, 36) := ⟨⟨by decide +kernel, by decide +kernel⟩, List.mem_of_getElem? (i := 594) (by decide +kernel), List.mem_of_getElem? (i := 725) (by decide +kernel), List.mem_of_getElem? (i := 726) (by decide +kernel)⟩
theorem lw_p29 : lw_okq (⟨"TruePiesModel", "step", "()V"⟩, 36) := ⟨⟨by decide +kernel, by decide +kernel⟩, List.mem_of_getElem? (i := 594) (by decide +kernel), List.mem_of_getElem? (i := 729) (by decide +kernel), List.mem_of_getElem? (i := 730) (by decide +kernel)⟩
theorem lw_p30 : lw_okq (⟨"TruePiesModel", "here", "()I"⟩, 36) := ⟨⟨by decide +kernel, by decide +kernel⟩, List.mem_of_getElem? (i := 594) (by decide +kernel), List.mem_of_getElem? (i := 733) (by decide +kernel), List.mem_of_getElem? (i := 734) (by decide +kernel)⟩
theorem lw_p31 : lw_okq (⟨"TruePiesModel", "isLetter", "()Z"⟩, 36) := ⟨⟨by decide +kernel, by decide +kernel⟩, List.mem_of_getElem? (i := 594) (by decide +kernel), List.mem_of_getElem? (i := 737) (by decide +kernel), List.mem_of_getElem? (i := 738) (by decide +kernel)⟩
def lw_privs_2 : List (MethodName × Nat) := [(⟨"TruePies$Court", "coversAll", "(I)Z"⟩, 10), (⟨"TruePies$Line", "mostBehind", "(IILTruePies$Court;LTruePies$Now;)I"⟩, 1), (⟨"TruePies$Line", "worth", "(IILTruePies$Court;LTruePies$Now;)I"⟩, 1), (⟨"TruePies$Line", "lowestOfBest", "(IILTruePies$Court;LTruePies$Now;)I"⟩, 1), (⟨"TruePies", "setsLetBy", "(II)I"⟩, 10), (⟨"TruePies$Court", "dayOfFriday", "(III)I"⟩, 10), (⟨"TruePies", "rateAsGoer", "(I)I"⟩, 10), (⟨"TruePies", "rateAsGent", "(I)I"⟩, 10), (⟨"TruePies", "rateAsDoctor", "(I)I"⟩, 10), (⟨"TruePies", "rateAsSamples", "(I)I"⟩, 10), (⟨"TruePies", "rateAsWife", "(I)I"⟩, 10), (⟨"TruePies", "rateAsTall", "(I)I"⟩, 10), (⟨"TruePiesModel", "reads", "()I"⟩, 36), (⟨"TruePiesModel", "step", "()V"⟩, 36), (⟨"TruePiesModel", "here", "()I"⟩, 36), (⟨"TruePiesModel", "isLetter", "()Z"⟩, 36)]
theorem lw_r2 : ∀ q ∈ lw_privs_2, lw_okq q := List.forall_mem_cons.mpr ⟨lw_p16, List.forall_mem_cons.mpr ⟨lw_p17, List.forall_mem_cons.mpr ⟨lw_p18, List.forall_mem_cons.mpr ⟨lw_p19, List.forall_mem_cons.mpr ⟨lw_p20, List.forall_mem_cons.mpr ⟨lw_p21, List.forall_mem_cons.mpr ⟨lw_p22, List.forall_mem_cons.mpr ⟨lw_p23, List.forall_mem_cons.mpr ⟨lw_p24, List.forall_mem_cons.mpr ⟨lw_p25, List.forall_mem_cons.mpr ⟨lw_p26, List.forall_mem_cons.mpr ⟨lw_p27, List.forall_mem_cons.mpr ⟨lw_p28, List.forall_mem_cons.mpr ⟨lw_p29, List.forall_mem_cons.mpr ⟨lw_p30, List.forall_mem_cons.mpr ⟨lw_p31, fun _ h => absurd h List.not_mem_nil⟩⟩⟩⟩⟩⟩⟩⟩⟩⟩⟩⟩⟩⟩⟩⟩
theorem lw_p32 : lw_okq (⟨"TruePiesModel", "isFigure", "()Z"⟩, 36) := ⟨⟨by decide +kernel, by decide +kernel⟩, List.mem_of_getElem? (i := 594) (by decide +kernel), List.mem_of_getElem? (i := 743) (by decide +kernel), List.mem_of_getElem? (i := 744) (by decide +kernel)⟩
theorem lw_p33 : lw_okq (⟨"TruePiesModel", "readsFigures", "()V"⟩, 36) := ⟨⟨by decide +kernel, by decide +kernel⟩, List.mem_of_getElem? (i := 594) (by decide +kernel), List.mem_of_getElem? (i := 749) (by decide +kernel), List.mem_of_getElem? (i := 750) (by decide +kernel)⟩
theorem lw_p34 : lw_okq (⟨"TruePiesModel", "isItem", "()Z"⟩, 36) := ⟨⟨by decide +kernel, by decide +kernel⟩, List.mem_of_getElem? (i := 594) (by decide +kernel), List.mem_of_getElem? (i := 753) (by decide +kernel), List.mem_of_getElem? (i := 754) (by decide +kernel)⟩
theorem lw_p35 : lw_okq (⟨"TruePiesModel", "isLeaf", "()Z"⟩, 36) := ⟨⟨by decide +kernel, by decide +kernel⟩, List.mem_of_getElem? (i := 594) (by decide +kernel), List.mem_of_getElem? (i := 757) (by decide +kernel), List.mem_of_getElem? (i := 758) (by decide +kernel)⟩
theorem lw_p36 : lw_okq (⟨"TruePiesModel", "row", "(II)I"⟩, 36) := ⟨⟨by decide +kernel, by decide +kernel⟩, List.mem_of_getElem? (i := 594) (by decide +kernel), List.mem_of_getElem? (i := 761) (by decide +kernel), List.mem_of_getElem? (i := 762) (by decide +kernel)⟩
theorem lw_p37 : lw_okq (⟨"TruePiesModel", "isGoer", "()Z"⟩, 36) := ⟨⟨by decide +kernel, by decide +kernel⟩, List.mem_of_getElem? (i := 594) (by decide +kernel), List.mem_of_getElem? (i := 766) (by decide +kernel), List.mem_of_getElem? (i := 767) (by decide +kernel)⟩
theorem lw_p38 : lw_okq (⟨"TruePiesModel", "isSister", "()Z"⟩, 36) := ⟨⟨by decide +kernel, by decide +kernel⟩, List.mem_of_getElem? (i := 594) (by decide +kernel), List.mem_of_getElem? (i := 770) (by decide +kernel), List.mem_of_getElem? (i := 771) (by decide +kernel)⟩
theorem lw_p39 : lw_okq (⟨"TruePiesModel", "isFriday", "()Z"⟩, 36) := ⟨⟨by decide +kernel, by decide +kernel⟩, List.mem_of_getElem? (i := 594) (by decide +kernel), List.mem_of_getElem? (i := 774) (by decide +kernel), List.mem_of_getElem? (i := 775) (by decide +kernel)⟩
theorem lw_p40 : lw_okq (⟨"TruePiesModel", "number", "(II)Z"⟩, 36) := ⟨⟨by decide +kernel, by decide +kernel⟩, List.mem_of_getElem? (i := 594) (by decide +kernel), List.mem_of_getElem? (i := 778) (by decide +kernel), List.mem_of_getElem? (i := 779) (by decide +kernel)⟩
theorem lw_p41 : lw_okq (⟨"TruePiesModel", "isLane", "()Z"⟩, 36) := ⟨⟨by decide +kernel, by decide +kernel⟩, List.mem_of_getElem? (i := 594) (by decide +kernel), List.mem_of_getElem? (i := 782) (by decide +kernel), List.mem_of_getElem? (i := 783) (by decide +kernel)⟩
theorem lw_p42 : lw_okq (⟨"TruePiesModel", "isTheLeaf", "(I)Z"⟩, 36) := ⟨⟨by decide +kernel, by decide +kernel⟩, List.mem_of_getElem? (i := 594) (by decide +kernel), List.mem_of_getElem? (i := 793) (by decide +kernel), List.mem_of_getElem? (i := 794) (by decide +kernel)⟩
theorem lw_p43 : lw_okq (⟨"TruePiesModel", "letsBy", "(I)I"⟩, 36) := ⟨⟨by decide +kernel, by decide +kernel⟩, List.mem_of_getElem? (i := 594) (by decide +kernel), List.mem_of_getElem? (i := 800) (by decide +kernel), List.mem_of_getElem? (i := 801) (by decide +kernel)⟩
theorem lw_p44 : lw_okq (⟨"TruePiesModel", "lets", "(II)Z"⟩, 36) := ⟨⟨by decide +kernel, by decide +kernel⟩, List.mem_of_getElem? (i := 594) (by decide +kernel), List.mem_of_getElem? (i := 804) (by decide +kernel), List.mem_of_getElem? (i := 805) (by decide +kernel)⟩
theorem lw_p45 : lw_okq (⟨"TruePiesModel", "isOne", "(I)Z"⟩, 36) := ⟨⟨by decide +kernel, by decide +kernel⟩, List.mem_of_getElem? (i := 594) (by decide +kernel), List.mem_of_getElem? (i := 812) (by decide +kernel), List.mem_of_getElem? (i := 813) (by decide +kernel)⟩
theorem lw_p46 : lw_okq (⟨"TruePiesModel", "leavesOf", "(I)I"⟩, 36) := ⟨⟨by decide +kernel, by decide +kernel⟩, List.mem_of_getElem? (i := 594) (by decide +kernel), List.mem_of_getElem? (i := 816) (by decide +kernel), List.mem_of_getElem? (i := 817) (by decide +kernel)⟩
theorem lw_p47 : lw_okq (⟨"TruePiesModel", "those", "(I)I"⟩, 36) := ⟨⟨by decide +kernel, by decide +kernel⟩, List.mem_of_getElem? (i := 594) (by decide +kernel), List.mem_of_getElem? (i := 832) (by decide +kernel), List.mem_of_getElem? (i := 833) (by decide +kernel)⟩
def lw_privs_3 : List (MethodName × Nat) := [(⟨"TruePiesModel", "isFigure", "()Z"⟩, 36), (⟨"TruePiesModel", "readsFigures", "()V"⟩, 36), (⟨"TruePiesModel", "isItem", "()Z"⟩, 36), (⟨"TruePiesModel", "isLeaf", "()Z"⟩, 36), (⟨"TruePiesModel", "row", "(II)I"⟩, 36), (⟨"TruePiesModel", "isGoer", "()Z"⟩, 36), (⟨"TruePiesModel", "isSister", "()Z"⟩, 36), (⟨"TruePiesModel", "isFriday", "()Z"⟩, 36), (⟨"TruePiesModel", "number", "(II)Z"⟩, 36), (⟨"TruePiesModel", "isLane", "()Z"⟩, 36), (⟨"TruePiesModel", "isTheLeaf", "(I)Z"⟩, 36), (⟨"TruePiesModel", "letsBy", "(I)I"⟩, 36), (⟨"TruePiesModel", "lets", "(II)Z"⟩, 36), (⟨"TruePiesModel", "isOne", "(I)Z"⟩, 36), (⟨"TruePiesModel", "leavesOf", "(I)I"⟩, 36), (⟨"TruePiesModel", "those", "(I)I"⟩, 36)]
theorem lw_r3 : ∀ q ∈ lw_privs_3, lw_okq q := List.forall_mem_cons.mpr ⟨lw_p32, List.forall_mem_cons.mpr ⟨lw_p33, List.forall_mem_cons.mpr ⟨lw_p34, List.forall_mem_cons.mpr ⟨lw_p35, List.forall_mem_cons.mpr ⟨lw_p36, List.forall_mem_cons.mpr ⟨lw_p37, List.forall_mem_cons.mpr ⟨lw_p38, List.forall_mem_cons.mpr ⟨lw_p39, List.forall_mem_cons.mpr ⟨lw_p40, List.forall_mem_cons.mpr ⟨lw_p41, List.forall_mem_cons.mpr ⟨lw_p42, List.forall_mem_cons.mpr ⟨lw_p43, List.forall_mem_cons.mpr ⟨lw_p44, List.forall_mem_cons.mpr ⟨lw_p45, List.forall_mem_cons.mpr ⟨lw_p46, List.forall_mem_cons.mpr ⟨lw_p47, fun _ h => absurd h List.not_mem_nil⟩⟩⟩⟩⟩⟩⟩⟩⟩⟩⟩⟩⟩⟩⟩⟩
theorem lw_p48 : lw_okq (⟨"TruePiesModel", "cover", "()I"⟩, 36) := ⟨⟨by decide +kernel, by decide +kernel⟩, List.mem_of_getElem? (i := 594) (by decide +kernel), List.mem_of_getElem? (i := 836) (by decide +kernel), List.mem_of_getElem? (i := 837) (by decide +kernel)⟩
theorem lw_p49 : lw_okq (⟨"TruePiesModel", "notes", "()V"⟩, 36) := ⟨⟨by decide +kernel, by decide +kernel⟩, List.mem_of_getElem? (i := 594) (by decide +kernel), List.mem_of_getElem? (i := 850) (by decide +kernel), List.mem_of_getElem? (i := 851) (by decide +kernel)⟩
theorem lw_p50 : lw_okq (⟨"TruePiesModel", "nextOrder", "(I)Z"⟩, 36) := ⟨⟨by decide +kernel, by decide +kernel⟩, List.mem_of_getElem? (i := 594) (by decide +kernel), List.mem_of_getElem? (i := 879) (by decide +kernel), List.mem_of_getElem? (i := 880) (by decide +kernel)⟩
theorem lw_p51 : lw_okq (⟨"TruePiesModel", "canHave", "(I)Z"⟩, 36) := ⟨⟨by decide +kernel, by decide +kernel⟩, List.mem_of_getElem? (i := 594) (by decide +kernel), List.mem_of_getElem? (i := 896) (by decide +kernel), List.mem_of_getElem? (i := 897) (by decide +kernel)⟩
theorem lw_p52 : lw_okq (⟨"TruePiesModel", "isTold", "(I)Z"⟩, 36) := ⟨⟨by decide +kernel, by decide +kernel⟩, List.mem_of_getElem? (i := 594) (by decide +kernel), List.mem_of_getElem? (i := 910) (by decide +kernel), List.mem_of_getElem? (i := 911) (by decide +kernel)⟩
theorem lw_p53 : lw_okq (⟨"TruePiesModel", "taleOf", "(II)I"⟩, 36) := ⟨⟨by decide +kernel, by decide +kernel⟩, List.mem_of_getElem? (i := 594) (by decide +kernel), List.mem_of_getElem? (i := 914) (by decide +kernel), List.mem_of_getElem? (i := 915) (by decide +kernel)⟩
theorem lw_p54 : lw_okq (⟨"TruePiesModel", "asGoer", "(I)I"⟩, 36) := ⟨⟨by decide +kernel, by decide +kernel⟩, List.mem_of_getElem? (i := 594) (by decide +kernel), List.mem_of_getElem? (i := 941) (by decide +kernel), List.mem_of_getElem? (i := 942) (by decide +kernel)⟩
theorem lw_p55 : lw_okq (⟨"TruePiesModel", "asGent", "(I)I"⟩, 36) := ⟨⟨by decide +kernel, by decide +kernel⟩, List.mem_of_getElem? (i := 594) (by decide +kernel), List.mem_of_getElem? (i := 945) (by decide +kernel), List.mem_of_getElem? (i := 946) (by decide +kernel)⟩
theorem lw_p56 : lw_okq (⟨"TruePiesModel", "asDoctor", "(I)I"⟩, 36) := ⟨⟨by decide +kernel, by decide +kernel⟩, List.mem_of_getElem? (i := 594) (by decide +kernel), List.mem_of_getElem? (i := 949) (by decide +kernel), List.mem_of_getElem? (i := 950) (by decide +kernel)⟩
def lw_privs_4 : List (MethodName × Nat) := [(⟨"TruePiesModel", "cover", "()I"⟩, 36), (⟨"TruePiesModel", "notes", "()V"⟩, 36), (⟨"TruePiesModel", "nextOrder", "(I)Z"⟩, 36), (⟨"TruePiesModel", "canHave", "(I)Z"⟩, 36), (⟨"TruePiesModel", "isTold", "(I)Z"⟩, 36), (⟨"TruePiesModel", "taleOf", "(II)I"⟩, 36), (⟨"TruePiesModel", "asGoer", "(I)I"⟩, 36), (⟨"TruePiesModel", "asGent", "(I)I"⟩, 36), (⟨"TruePiesModel", "asDoctor", "(I)I"⟩, 36)]
theorem lw_r4 : ∀ q ∈ lw_privs_4, lw_okq q := List.forall_mem_cons.mpr ⟨lw_p48, List.forall_mem_cons.mpr ⟨lw_p49, List.forall_mem_cons.mpr ⟨lw_p50, List.forall_mem_cons.mpr ⟨lw_p51, List.forall_mem_cons.mpr ⟨lw_p52, List.forall_mem_cons.mpr ⟨lw_p53, List.forall_mem_cons.mpr ⟨lw_p54, List.forall_mem_cons.mpr ⟨lw_p55, List.forall_mem_cons.mpr ⟨lw_p56, fun _ h => absurd h List.not_mem_nil⟩⟩⟩⟩⟩⟩⟩⟩⟩
def lw_privs : List (MethodName × Nat) := lw_privs_1 ++ (lw_privs_2 ++ (lw_privs_3 ++ (lw_privs_4)))
def lw_tbl : List Cond := k2_sels lw_privs ++ tables_1
theorem lw_privs_ok : ∀ q ∈ lw_privs, lw_okq q := by
  show ∀ q ∈ lw_privs_1 ++ (lw_privs_2 ++ (lw_privs_3 ++ (lw_privs_4))), lw_okq q
  exact List.forall_mem_append.mpr ⟨lw_r1, List.forall_mem_append.mpr ⟨lw_r2, List.forall_mem_append.mpr ⟨lw_r3, lw_r4⟩⟩⟩
end
section
def RX0 : String := "TruePies$Court"
def TX0 : u_T := fun k => match k with
  | 0 => ("TruePies$Court", "leaves", "[I", true)
  | 1 => ("TruePies$Court", "goers", "[I", true)
  | 2 => ("TruePies$Court", "tales", "[I", true)
  | 3 => ("TruePies$Court", "divisors", "[I", true)
  | 4 => ("TruePies$Court", "rests", "[I", true)
  | 5 => ("TruePies$Court", "leafCount", "I", false)
  | 6 => ("TruePies$Court", "goerCount", "I", false)
  | 7 => ("TruePies$Court", "sisterCount", "I", false)
  | 8 => ("TruePies$Court", "fridayCount", "I", false)
  | _ => ("TruePies$Court", "lane", "I", false)
def tyX0 : Nat → FieldType := fun k => match k with
  | 0 => .array .int
  | 1 => .array .int
  | 2 => .array .int
  | 3 => .array .int
  | 4 => .array .int
  | 5 => .int
  | 6 => .int
  | 7 => .int
  | 8 => .int
  | _ => .int
theorem nmX0 : ∀ a, a < 10 → ∀ b, b < 10 → a ≠ b → (TX0 a).2.1 ≠ (TX0 b).2.1 := by decide +kernel
theorem tyX0_ok : ∀ k, k < 10 → parseFieldDescriptor (TX0 k).2.2.1 = some (tyX0 k) := by decide +kernel
abbrev cX0_init : ByteArray := prog_2_method_1_code
def yX0_init : MethodName := ⟨RX0, "<init>", "()V"⟩
abbrev cX0_startAnew : ByteArray := prog_2_method_2_code
def yX0_startAnew : MethodName := ⟨RX0, "startAnew", "()V"⟩
abbrev cX0_hasLeaf : ByteArray := prog_2_method_3_code
def yX0_hasLeaf : MethodName := ⟨RX0, "hasLeaf", "(I)Z"⟩
abbrev cX0_hasGoer : ByteArray := prog_2_method_4_code
def yX0_hasGoer : MethodName := ⟨RX0, "hasGoer", "(I)Z"⟩
abbrev cX0_counts : ByteArray := prog_2_method_5_code
def yX0_counts : MethodName := ⟨RX0, "counts", "(II)Z"⟩
abbrev cX0_goodTastes : ByteArray := prog_2_method_6_code
def yX0_goodTastes : MethodName := ⟨RX0, "goodTastes", "(II)I"⟩
abbrev cX0_goersLetBy : ByteArray := prog_2_method_7_code
def yX0_goersLetBy : MethodName := ⟨RX0, "goersLetBy", "(I)I"⟩
abbrev cX0_leavesThatLet : ByteArray := prog_2_method_8_code
def yX0_leavesThatLet : MethodName := ⟨RX0, "leavesThatLet", "(I)I"⟩
abbrev cX0_leafBehind : ByteArray := prog_2_method_9_code
def yX0_leafBehind : MethodName := ⟨RX0, "leafBehind", "(II)I"⟩
abbrev cX0_cover : ByteArray := prog_2_method_10_code
def yX0_cover : MethodName := ⟨RX0, "cover", "()I"⟩
abbrev cX0_coversAll : ByteArray := prog_2_method_11_code
def yX0_coversAll : MethodName := ⟨RX0, "coversAll", "(I)Z"⟩
abbrev cX0_changed : ByteArray := prog_2_method_12_code
def yX0_changed : MethodName := ⟨RX0, "changed", "(II)I"⟩
abbrev cX0_passedOn : ByteArray := prog_2_method_13_code
def yX0_passedOn : MethodName := ⟨RX0, "passedOn", "(II)I"⟩
abbrev cX0_dayOfAllFridays : ByteArray := prog_2_method_14_code
def yX0_dayOfAllFridays : MethodName := ⟨RX0, "dayOfAllFridays", "(I)I"⟩
abbrev cX0_dayOfFriday : ByteArray := prog_2_method_15_code
def yX0_dayOfFriday : MethodName := ⟨RX0, "dayOfFriday", "(III)I"⟩
def RX1 : String := "TruePies$History"
def TX1 : u_T := fun k => match k with
  | 0 => ("TruePies$History", "befores", "[LTruePies$Now;", true)
  | 1 => ("TruePies$History", "known", "I", false)
  | _ => ("TruePies$History", "next", "I", false)
def tyX1 : Nat → FieldType := fun k => match k with
  | 0 => .array (.object "TruePies$Now")
  | 1 => .int
  | _ => .int
theorem nmX1 : ∀ a, a < 3 → ∀ b, b < 3 → a ≠ b → (TX1 a).2.1 ≠ (TX1 b).2.1 := by decide +kernel
theorem tyX1_ok : ∀ k, k < 3 → parseFieldDescriptor (TX1 k).2.2.1 = some (tyX1 k) := by decide +kernel
abbrev cX1_init : ByteArray := prog_3_method_1_code
def yX1_init : MethodName := ⟨RX1, "<init>", "()V"⟩
abbrev cX1_remember : ByteArray := prog_3_method_2_code
def yX1_remember : MethodName := ⟨RX1, "remember", "(LTruePies$Now;)V"⟩
abbrev cX1_recall : ByteArray := prog_3_method_3_code
def yX1_recall : MethodName := ⟨RX1, "recall", "(LTruePies$Now;)V"⟩
def RX2 : String := "TruePies$Line"
def TX2 : u_T := fun k => match k with
  | _ => ("TruePies$Line", "best", "[I", true)
def tyX2 : Nat → FieldType := fun k => match k with
  | _ => .array .int
theorem nmX2 : ∀ a, a < 1 → ∀ b, b < 1 → a ≠ b → (TX2 a).2.1 ≠ (TX2 b).2.1 := by decide +kernel
theorem tyX2_ok : ∀ k, k < 1 → parseFieldDescriptor (TX2 k).2.2.1 = some (tyX2 k) := by decide +kernel
abbrev cX2_init : ByteArray := prog_4_method_1_code
def yX2_init : MethodName := ⟨RX2, "<init>", "()V"⟩
abbrev cX2_weigh : ByteArray := prog_4_method_2_code
def yX2_weigh : MethodName := ⟨RX2, "weigh", "(LTruePies$Court;LTruePies$Now;)V"⟩
abbrev cX2_mostBehind : ByteArray := prog_4_method_3_code
def yX2_mostBehind : MethodName := ⟨RX2, "mostBehind", "(IILTruePies$Court;LTruePies$Now;)I"⟩
abbrev cX2_worth : ByteArray := prog_4_method_4_code
def yX2_worth : MethodName := ⟨RX2, "worth", "(IILTruePies$Court;LTruePies$Now;)I"⟩
abbrev cX2_goerAt : ByteArray := prog_4_method_5_code
def yX2_goerAt : MethodName := ⟨RX2, "goerAt", "(ILTruePies$Court;LTruePies$Now;)I"⟩
abbrev cX2_lowestOfBest : ByteArray := prog_4_method_6_code
def yX2_lowestOfBest : MethodName := ⟨RX2, "lowestOfBest", "(IILTruePies$Court;LTruePies$Now;)I"⟩
def RX3 : String := "TruePies$Now"
def TX3 : u_T := fun k => match k with
  | 0 => ("TruePies$Now", "minute", "I", false)
  | 1 => ("TruePies$Now", "leaf", "I", false)
  | 2 => ("TruePies$Now", "pies", "I", false)
  | 3 => ("TruePies$Now", "where", "[I", true)
  | 4 => ("TruePies$Now", "until", "[I", true)
  | _ => ("TruePies$Now", "rounds", "[I", true)
def tyX3 : Nat → FieldType := fun k => match k with
  | 0 => .int
  | 1 => .int
  | 2 => .int
  | 3 => .array .int
  | 4 => .array .int
  | _ => .array .int
theorem nmX3 : ∀ a, a < 6 → ∀ b, b < 6 → a ≠ b → (TX3 a).2.1 ≠ (TX3 b).2.1 := by decide +kernel
theorem tyX3_ok : ∀ k, k < 6 → parseFieldDescriptor (TX3 k).2.2.1 = some (tyX3 k) := by decide +kernel
abbrev cX3_init : ByteArray := prog_5_method_1_code
def yX3_init : MethodName := ⟨RX3, "<init>", "()V"⟩
abbrev cX3_startAnew : ByteArray := prog_5_method_2_code
def yX3_startAnew : MethodName := ⟨RX3, "startAnew", "()V"⟩
abbrev cX3_become : ByteArray := prog_5_method_3_code
def yX3_become : MethodName := ⟨RX3, "become", "(LTruePies$Now;)V"⟩
abbrev cX3_whoAre : ByteArray := prog_5_method_4_code
def yX3_whoAre : MethodName := ⟨RX3, "whoAre", "(I)I"⟩
abbrev cX3_sendRound : ByteArray := prog_5_method_5_code
def yX3_sendRound : MethodName := ⟨RX3, "sendRound", "(II)V"⟩
abbrev cX3_pass : ByteArray := prog_5_method_6_code
def yX3_pass : MethodName := ⟨RX3, "pass", "(I)V"⟩
def RX4 : String := "TruePies$Seen"
def TX4 : u_T := fun k => match k with
  | 0 => ("TruePies$Seen", "tastes", "[I", true)
  | 1 => ("TruePies$Seen", "leaves", "[I", true)
  | 2 => ("TruePies$Seen", "bys", "[I", true)
  | _ => ("TruePies$Seen", "many", "I", false)
def tyX4 : Nat → FieldType := fun k => match k with
  | 0 => .array .int
  | 1 => .array .int
  | 2 => .array .int
  | _ => .int
theorem nmX4 : ∀ a, a < 4 → ∀ b, b < 4 → a ≠ b → (TX4 a).2.1 ≠ (TX4 b).2.1 := by decide +kernel
theorem tyX4_ok : ∀ k, k < 4 → parseFieldDescriptor (TX4 k).2.2.1 = some (tyX4 k) := by decide +kernel
abbrev cX4_init : ByteArray := prog_6_method_1_code
def yX4_init : MethodName := ⟨RX4, "<init>", "()V"⟩
abbrev cX4_add : ByteArray := prog_6_method_2_code
def yX4_add : MethodName := ⟨RX4, "add", "(III)V"⟩
abbrev cX4_allows : ByteArray := prog_6_method_3_code
def yX4_allows : MethodName := ⟨RX4, "allows", "(ILTruePies$Court;)Z"⟩
def RX5 : String := "TruePies$Text"
def TX5 : u_T := fun k => match k with
  | 0 => ("TruePies$Text", "letters", "[I", true)
  | 1 => ("TruePies$Text", "length", "I", false)
  | 2 => ("TruePies$Text", "kind", "I", false)
  | 3 => ("TruePies$Text", "start", "I", false)
  | 4 => ("TruePies$Text", "end", "I", false)
  | _ => ("TruePies$Text", "laneTold", "Z", false)
def tyX5 : Nat → FieldType := fun k => match k with
  | 0 => .array .int
  | 1 => .int
  | 2 => .int
  | 3 => .int
  | 4 => .int
  | _ => .boolean
theorem nmX5 : ∀ a, a < 6 → ∀ b, b < 6 → a ≠ b → (TX5 a).2.1 ≠ (TX5 b).2.1 := by decide +kernel
theorem tyX5_ok : ∀ k, k < 6 → parseFieldDescriptor (TX5 k).2.2.1 = some (tyX5 k) := by decide +kernel
abbrev cX5_init : ByteArray := prog_7_method_1_code
def yX5_init : MethodName := ⟨RX5, "<init>", "()V"⟩
abbrev cX5_readInto : ByteArray := prog_7_method_2_code
def yX5_readInto : MethodName := ⟨RX5, "readInto", "(LTruePies$Court;)I"⟩
abbrev cX5_readItem : ByteArray := prog_7_method_3_code
def yX5_readItem : MethodName := ⟨RX5, "readItem", "(LTruePies$Court;)Z"⟩
abbrev cX5_readLeaf : ByteArray := prog_7_method_4_code
def yX5_readLeaf : MethodName := ⟨RX5, "readLeaf", "(LTruePies$Court;)Z"⟩
abbrev cX5_readGoer : ByteArray := prog_7_method_5_code
def yX5_readGoer : MethodName := ⟨RX5, "readGoer", "(LTruePies$Court;)Z"⟩
abbrev cX5_readTastes : ByteArray := prog_7_method_6_code
def yX5_readTastes : MethodName := ⟨RX5, "readTastes", "([II)Z"⟩
abbrev cX5_readSister : ByteArray := prog_7_method_7_code
def yX5_readSister : MethodName := ⟨RX5, "readSister", "(LTruePies$Court;)Z"⟩
abbrev cX5_readFriday : ByteArray := prog_7_method_8_code
def yX5_readFriday : MethodName := ⟨RX5, "readFriday", "(LTruePies$Court;)Z"⟩
abbrev cX5_readLane : ByteArray := prog_7_method_9_code
def yX5_readLane : MethodName := ⟨RX5, "readLane", "(LTruePies$Court;)Z"⟩
abbrev cX5_isRow : ByteArray := prog_7_method_10_code
def yX5_isRow : MethodName := ⟨RX5, "isRow", "(I)Z"⟩
abbrev cX5_rowBits : ByteArray := prog_7_method_11_code
def yX5_rowBits : MethodName := ⟨RX5, "rowBits", "()I"⟩
abbrev cX5_isNumber : ByteArray := prog_7_method_12_code
def yX5_isNumber : MethodName := ⟨RX5, "isNumber", "(II)Z"⟩
abbrev cX5_number : ByteArray := prog_7_method_13_code
def yX5_number : MethodName := ⟨RX5, "number", "()I"⟩
abbrev cX5_step : ByteArray := prog_7_method_14_code
def yX5_step : MethodName := ⟨RX5, "step", "()V"⟩
abbrev cX5_takeWord : ByteArray := prog_7_method_15_code
def yX5_takeWord : MethodName := ⟨RX5, "takeWord", "()V"⟩
abbrev cX5_takeNumber : ByteArray := prog_7_method_16_code
def yX5_takeNumber : MethodName := ⟨RX5, "takeNumber", "()V"⟩
abbrev cX5_isLetter : ByteArray := prog_7_method_17_code
def yX5_isLetter : MethodName := ⟨RX5, "isLetter", "(I)Z"⟩
abbrev cX5_isDigit : ByteArray := prog_7_method_18_code
def yX5_isDigit : MethodName := ⟨RX5, "isDigit", "(I)Z"⟩
def RX6 : String := "TruePies"
def TX6 : u_T := fun k => match k with
  | 0 => ("TruePies", "text", "LTruePies$Text;", true)
  | 1 => ("TruePies", "court", "LTruePies$Court;", false)
  | 2 => ("TruePies", "draft", "LTruePies$Court;", false)
  | 3 => ("TruePies", "now", "LTruePies$Now;", true)
  | 4 => ("TruePies", "history", "LTruePies$History;", true)
  | 5 => ("TruePies", "images", "[LTruePies$Now;", true)
  | 6 => ("TruePies", "kept", "[Z", true)
  | 7 => ("TruePies", "seen", "LTruePies$Seen;", true)
  | 8 => ("TruePies", "line", "LTruePies$Line;", true)
  | _ => ("TruePies", "trace", "J", false)
def tyX6 : Nat → FieldType := fun k => match k with
  | 0 => .object "TruePies$Text"
  | 1 => .object "TruePies$Court"
  | 2 => .object "TruePies$Court"
  | 3 => .object "TruePies$Now"
  | 4 => .object "TruePies$History"
  | 5 => .array (.object "TruePies$Now")
  | 6 => .array .boolean
  | 7 => .object "TruePies$Seen"
  | 8 => .object "TruePies$Line"
  | _ => .long
theorem nmX6 : ∀ a, a < 10 → ∀ b, b < 10 → a ≠ b → (TX6 a).2.1 ≠ (TX6 b).2.1 := by decide +kernel
theorem tyX6_ok : ∀ k, k < 10 → parseFieldDescriptor (TX6 k).2.2.1 = some (tyX6 k) := by decide +kernel
abbrev cX6_init : ByteArray := prog_1_method_1_code
def yX6_init : MethodName := ⟨RX6, "<init>", "()V"⟩
abbrev cX6_type : ByteArray := prog_1_method_2_code
def yX6_type : MethodName := ⟨RX6, "type", "(I)I"⟩
abbrev cX6_clear : ByteArray := prog_1_method_3_code
def yX6_clear : MethodName := ⟨RX6, "clear", "()I"⟩
abbrev cX6_court : ByteArray := prog_1_method_4_code
def yX6_court : MethodName := ⟨RX6, "court", "()I"⟩
abbrev cX6_leaf : ByteArray := prog_1_method_5_code
def yX6_leaf : MethodName := ⟨RX6, "leaf", "(II)I"⟩
abbrev cX6_goer : ByteArray := prog_1_method_6_code
def yX6_goer : MethodName := ⟨RX6, "goer", "(II)I"⟩
abbrev cX6_sister : ByteArray := prog_1_method_7_code
def yX6_sister : MethodName := ⟨RX6, "sister", "(II)I"⟩
abbrev cX6_now : ByteArray := prog_1_method_8_code
def yX6_now : MethodName := ⟨RX6, "now", "(I)I"⟩
abbrev cX6_comes : ByteArray := prog_1_method_9_code
def yX6_comes : MethodName := ⟨RX6, "comes", "(I)I"⟩
abbrev cX6_says : ByteArray := prog_1_method_10_code
def yX6_says : MethodName := ⟨RX6, "says", "(II)I"⟩
abbrev cX6_minutes : ByteArray := prog_1_method_11_code
def yX6_minutes : MethodName := ⟨RX6, "minutes", "(I)I"⟩
abbrev cX6_undo : ByteArray := prog_1_method_12_code
def yX6_undo : MethodName := ⟨RX6, "undo", "()I"⟩
abbrev cX6_fewest : ByteArray := prog_1_method_13_code
def yX6_fewest : MethodName := ⟨RX6, "fewest", "(II)I"⟩
abbrev cX6_line : ByteArray := prog_1_method_14_code
def yX6_line : MethodName := ⟨RX6, "line", "(I)I"⟩
abbrev cX6_sees : ByteArray := prog_1_method_15_code
def yX6_sees : MethodName := ⟨RX6, "sees", "(III)I"⟩
abbrev cX6_forget : ByteArray := prog_1_method_16_code
def yX6_forget : MethodName := ⟨RX6, "forget", "()I"⟩
abbrev cX6_had : ByteArray := prog_1_method_17_code
def yX6_had : MethodName := ⟨RX6, "had", "(I)I"⟩
abbrev cX6_ask : ByteArray := prog_1_method_18_code
def yX6_ask : MethodName := ⟨RX6, "ask", "(I)I"⟩
abbrev cX6_setsLetBy : ByteArray := prog_1_method_19_code
def yX6_setsLetBy : MethodName := ⟨RX6, "setsLetBy", "(II)I"⟩
abbrev cX6_tale : ByteArray := prog_1_method_20_code
def yX6_tale : MethodName := ⟨RX6, "tale", "(II)I"⟩
abbrev cX6_first : ByteArray := prog_1_method_21_code
def yX6_first : MethodName := ⟨RX6, "first", "(II)I"⟩
abbrev cX6_when : ByteArray := prog_1_method_22_code
def yX6_when : MethodName := ⟨RX6, "when", "(I)I"⟩
abbrev cX6_odds : ByteArray := prog_1_method_23_code
def yX6_odds : MethodName := ⟨RX6, "odds", "(IIII)I"⟩
abbrev cX6_rate : ByteArray := prog_1_method_24_code
def yX6_rate : MethodName := ⟨RX6, "rate", "(II)I"⟩
abbrev cX6_rateAsGoer : ByteArray := prog_1_method_25_code
def yX6_rateAsGoer : MethodName := ⟨RX6, "rateAsGoer", "(I)I"⟩
abbrev cX6_rateAsGent : ByteArray := prog_1_method_26_code
def yX6_rateAsGent : MethodName := ⟨RX6, "rateAsGent", "(I)I"⟩
abbrev cX6_rateAsDoctor : ByteArray := prog_1_method_27_code
def yX6_rateAsDoctor : MethodName := ⟨RX6, "rateAsDoctor", "(I)I"⟩
abbrev cX6_rateAsSamples : ByteArray := prog_1_method_28_code
def yX6_rateAsSamples : MethodName := ⟨RX6, "rateAsSamples", "(I)I"⟩
abbrev cX6_rateAsWife : ByteArray := prog_1_method_29_code
def yX6_rateAsWife : MethodName := ⟨RX6, "rateAsWife", "(I)I"⟩
abbrev cX6_rateAsTall : ByteArray := prog_1_method_30_code
def yX6_rateAsTall : MethodName := ⟨RX6, "rateAsTall", "(I)I"⟩
abbrev cX6_keep : ByteArray := prog_1_method_31_code
def yX6_keep : MethodName := ⟨RX6, "keep", "(I)I"⟩
abbrev cX6_back : ByteArray := prog_1_method_32_code
def yX6_back : MethodName := ⟨RX6, "back", "(I)I"⟩
abbrev cX6_count : ByteArray := prog_1_method_33_code
def yX6_count : MethodName := ⟨RX6, "count", "(I)I"⟩
abbrev cX6_trace : ByteArray := prog_1_method_34_code
def yX6_trace : MethodName := ⟨RX6, "trace", "()J"⟩
abbrev cX6_isTaste : ByteArray := prog_1_method_35_code
def yX6_isTaste : MethodName := ⟨RX6, "isTaste", "(I)Z"⟩
abbrev cX6_hasBit : ByteArray := prog_1_method_36_code
def yX6_hasBit : MethodName := ⟨RX6, "hasBit", "(II)Z"⟩
abbrev cX6_lowestBit : ByteArray := prog_1_method_37_code
def yX6_lowestBit : MethodName := ⟨RX6, "lowestBit", "(I)I"⟩
abbrev cX6_power : ByteArray := prog_1_method_38_code
def yX6_power : MethodName := ⟨RX6, "power", "(II)I"⟩
abbrev cX6_choices : ByteArray := prog_1_method_39_code
def yX6_choices : MethodName := ⟨RX6, "choices", "(II)I"⟩
abbrev cX6_greatestDivisor : ByteArray := prog_1_method_40_code
def yX6_greatestDivisor : MethodName := ⟨RX6, "greatestDivisor", "(II)I"⟩
def RX7 : String := "TruePiesModel"
def TX7 : u_T := fun k => match k with
  | 0 => ("TruePiesModel", "leaves", "I", false)
  | 1 => ("TruePiesModel", "counts", "[I", true)
  | 2 => ("TruePiesModel", "goers", "I", false)
  | 3 => ("TruePiesModel", "haves", "[I", true)
  | 4 => ("TruePiesModel", "sisters", "I", false)
  | 5 => ("TruePiesModel", "makes", "[I", true)
  | 6 => ("TruePiesModel", "fridays", "I", false)
  | 7 => ("TruePiesModel", "mods", "[I", true)
  | 8 => ("TruePiesModel", "rests", "[I", true)
  | 9 => ("TruePiesModel", "lane", "I", false)
  | 10 => ("TruePiesModel", "now", "[I", true)
  | 11 => ("TruePiesModel", "past", "[I", true)
  | 12 => ("TruePiesModel", "undos", "I", false)
  | 13 => ("TruePiesModel", "images", "[I", true)
  | 14 => ("TruePiesModel", "isKept", "[Z", true)
  | 15 => ("TruePiesModel", "seen", "[I", true)
  | 16 => ("TruePiesModel", "seenMany", "I", false)
  | 17 => ("TruePiesModel", "trace", "J", false)
  | 18 => ("TruePiesModel", "text", "[I", true)
  | 19 => ("TruePiesModel", "typed", "I", false)
  | 20 => ("TruePiesModel", "at", "I", false)
  | 21 => ("TruePiesModel", "begin", "I", false)
  | 22 => ("TruePiesModel", "token", "I", false)
  | 23 => ("TruePiesModel", "value", "I", false)
  | 24 => ("TruePiesModel", "readLeaves", "I", false)
  | 25 => ("TruePiesModel", "readCounts", "[I", true)
  | 26 => ("TruePiesModel", "readGoers", "I", false)
  | 27 => ("TruePiesModel", "readHaves", "[I", true)
  | 28 => ("TruePiesModel", "readSisters", "I", false)
  | 29 => ("TruePiesModel", "readMakes", "[I", true)
  | 30 => ("TruePiesModel", "readFridays", "I", false)
  | 31 => ("TruePiesModel", "readMods", "[I", true)
  | 32 => ("TruePiesModel", "readRests", "[I", true)
  | 33 => ("TruePiesModel", "readLane", "I", false)
  | 34 => ("TruePiesModel", "order", "[I", true)
  | _ => ("TruePiesModel", "best", "[I", true)
def tyX7 : Nat → FieldType := fun k => match k with
  | 0 => .int
  | 1 => .array .int
  | 2 => .int
  | 3 => .array .int
  | 4 => .int
  | 5 => .array .int
  | 6 => .int
  | 7 => .array .int
  | 8 => .array .int
  | 9 => .int
  | 10 => .array .int
  | 11 => .array .int
  | 12 => .int
  | 13 => .array .int
  | 14 => .array .boolean
  | 15 => .array .int
  | 16 => .int
  | 17 => .long
  | 18 => .array .int
  | 19 => .int
  | 20 => .int
  | 21 => .int
  | 22 => .int
  | 23 => .int
  | 24 => .int
  | 25 => .array .int
  | 26 => .int
  | 27 => .array .int
  | 28 => .int
  | 29 => .array .int
  | 30 => .int
  | 31 => .array .int
  | 32 => .array .int
  | 33 => .int
  | 34 => .array .int
  | _ => .array .int
theorem nmX7 : ∀ a, a < 36 → ∀ b, b < 36 → a ≠ b → (TX7 a).2.1 ≠ (TX7 b).2.1 := by decide +kernel
theorem tyX7_ok : ∀ k, k < 36 → parseFieldDescriptor (TX7 k).2.2.1 = some (tyX7 k) := by decide +kernel
abbrev cX7_init : ByteArray := prog_9_method_1_code
def yX7_init : MethodName := ⟨RX7, "<init>", "()V"⟩
abbrev cX7_in : ByteArray := prog_9_method_3_code
def yX7_in : MethodName := ⟨RX7, "in", "(JJJ)Z"⟩
abbrev cX7_has : ByteArray := prog_9_method_4_code
def yX7_has : MethodName := ⟨RX7, "has", "(II)Z"⟩
abbrev cX7_bits : ByteArray := prog_9_method_5_code
def yX7_bits : MethodName := ⟨RX7, "bits", "(I)I"⟩
abbrev cX7_lowest : ByteArray := prog_9_method_6_code
def yX7_lowest : MethodName := ⟨RX7, "lowest", "(I)I"⟩
abbrev cX7_copies : ByteArray := prog_9_method_7_code
def yX7_copies : MethodName := ⟨RX7, "copies", "([II[III)V"⟩
abbrev cX7_type : ByteArray := prog_9_method_8_code
def yX7_type : MethodName := ⟨RX7, "type", "(I)I"⟩
abbrev cX7_clear : ByteArray := prog_9_method_9_code
def yX7_clear : MethodName := ⟨RX7, "clear", "()I"⟩
abbrev cX7_here : ByteArray := prog_9_method_10_code
def yX7_here : MethodName := ⟨RX7, "here", "()I"⟩
abbrev cX7_isLetter : ByteArray := prog_9_method_11_code
def yX7_isLetter : MethodName := ⟨RX7, "isLetter", "()Z"⟩
abbrev cX7_isFigure : ByteArray := prog_9_method_12_code
def yX7_isFigure : MethodName := ⟨RX7, "isFigure", "()Z"⟩
abbrev cX7_step : ByteArray := prog_9_method_13_code
def yX7_step : MethodName := ⟨RX7, "step", "()V"⟩
abbrev cX7_readsFigures : ByteArray := prog_9_method_14_code
def yX7_readsFigures : MethodName := ⟨RX7, "readsFigures", "()V"⟩
abbrev cX7_number : ByteArray := prog_9_method_15_code
def yX7_number : MethodName := ⟨RX7, "number", "(II)Z"⟩
abbrev cX7_row : ByteArray := prog_9_method_16_code
def yX7_row : MethodName := ⟨RX7, "row", "(II)I"⟩
abbrev cX7_isLeaf : ByteArray := prog_9_method_17_code
def yX7_isLeaf : MethodName := ⟨RX7, "isLeaf", "()Z"⟩
abbrev cX7_isGoer : ByteArray := prog_9_method_18_code
def yX7_isGoer : MethodName := ⟨RX7, "isGoer", "()Z"⟩
abbrev cX7_isSister : ByteArray := prog_9_method_19_code
def yX7_isSister : MethodName := ⟨RX7, "isSister", "()Z"⟩
abbrev cX7_isFriday : ByteArray := prog_9_method_20_code
def yX7_isFriday : MethodName := ⟨RX7, "isFriday", "()Z"⟩
abbrev cX7_isLane : ByteArray := prog_9_method_21_code
def yX7_isLane : MethodName := ⟨RX7, "isLane", "()Z"⟩
abbrev cX7_isItem : ByteArray := prog_9_method_22_code
def yX7_isItem : MethodName := ⟨RX7, "isItem", "()Z"⟩
abbrev cX7_reads : ByteArray := prog_9_method_23_code
def yX7_reads : MethodName := ⟨RX7, "reads", "()I"⟩
abbrev cX7_court : ByteArray := prog_9_method_24_code
def yX7_court : MethodName := ⟨RX7, "court", "()I"⟩
abbrev cX7_isTheLeaf : ByteArray := prog_9_method_25_code
def yX7_isTheLeaf : MethodName := ⟨RX7, "isTheLeaf", "(I)Z"⟩
abbrev cX7_isOne : ByteArray := prog_9_method_26_code
def yX7_isOne : MethodName := ⟨RX7, "isOne", "(I)Z"⟩
abbrev cX7_isTaste : ByteArray := prog_9_method_27_code
def yX7_isTaste : MethodName := ⟨RX7, "isTaste", "(I)Z"⟩
abbrev cX7_isBit : ByteArray := prog_9_method_28_code
def yX7_isBit : MethodName := ⟨RX7, "isBit", "(I)Z"⟩
abbrev cX7_lets : ByteArray := prog_9_method_29_code
def yX7_lets : MethodName := ⟨RX7, "lets", "(II)Z"⟩
abbrev cX7_letsBy : ByteArray := prog_9_method_30_code
def yX7_letsBy : MethodName := ⟨RX7, "letsBy", "(I)I"⟩
abbrev cX7_leavesOf : ByteArray := prog_9_method_31_code
def yX7_leavesOf : MethodName := ⟨RX7, "leavesOf", "(I)I"⟩
abbrev cX7_those : ByteArray := prog_9_method_32_code
def yX7_those : MethodName := ⟨RX7, "those", "(I)I"⟩
abbrev cX7_cover : ByteArray := prog_9_method_33_code
def yX7_cover : MethodName := ⟨RX7, "cover", "()I"⟩
abbrev cX7_leaf : ByteArray := prog_9_method_34_code
def yX7_leaf : MethodName := ⟨RX7, "leaf", "(II)I"⟩
abbrev cX7_goer : ByteArray := prog_9_method_35_code
def yX7_goer : MethodName := ⟨RX7, "goer", "(II)I"⟩
abbrev cX7_sister : ByteArray := prog_9_method_36_code
def yX7_sister : MethodName := ⟨RX7, "sister", "(II)I"⟩
abbrev cX7_now : ByteArray := prog_9_method_37_code
def yX7_now : MethodName := ⟨RX7, "now", "(I)I"⟩
abbrev cX7_notes : ByteArray := prog_9_method_38_code
def yX7_notes : MethodName := ⟨RX7, "notes", "()V"⟩
abbrev cX7_comes : ByteArray := prog_9_method_39_code
def yX7_comes : MethodName := ⟨RX7, "comes", "(I)I"⟩
abbrev cX7_says : ByteArray := prog_9_method_40_code
def yX7_says : MethodName := ⟨RX7, "says", "(II)I"⟩
abbrev cX7_minutes : ByteArray := prog_9_method_41_code
def yX7_minutes : MethodName := ⟨RX7, "minutes", "(I)I"⟩
abbrev cX7_undo : ByteArray := prog_9_method_42_code
def yX7_undo : MethodName := ⟨RX7, "undo", "()I"⟩
abbrev cX7_fewest : ByteArray := prog_9_method_43_code
def yX7_fewest : MethodName := ⟨RX7, "fewest", "(II)I"⟩
abbrev cX7_nextOrder : ByteArray := prog_9_method_44_code
def yX7_nextOrder : MethodName := ⟨RX7, "nextOrder", "(I)Z"⟩
abbrev cX7_line : ByteArray := prog_9_method_45_code
def yX7_line : MethodName := ⟨RX7, "line", "(I)I"⟩
abbrev cX7_sees : ByteArray := prog_9_method_46_code
def yX7_sees : MethodName := ⟨RX7, "sees", "(III)I"⟩
abbrev cX7_forget : ByteArray := prog_9_method_47_code
def yX7_forget : MethodName := ⟨RX7, "forget", "()I"⟩
abbrev cX7_canHave : ByteArray := prog_9_method_48_code
def yX7_canHave : MethodName := ⟨RX7, "canHave", "(I)Z"⟩
abbrev cX7_had : ByteArray := prog_9_method_49_code
def yX7_had : MethodName := ⟨RX7, "had", "(I)I"⟩
abbrev cX7_ask : ByteArray := prog_9_method_50_code
def yX7_ask : MethodName := ⟨RX7, "ask", "(I)I"⟩
abbrev cX7_taleOf : ByteArray := prog_9_method_51_code
def yX7_taleOf : MethodName := ⟨RX7, "taleOf", "(II)I"⟩
abbrev cX7_isTold : ByteArray := prog_9_method_52_code
def yX7_isTold : MethodName := ⟨RX7, "isTold", "(I)Z"⟩
abbrev cX7_tale : ByteArray := prog_9_method_53_code
def yX7_tale : MethodName := ⟨RX7, "tale", "(II)I"⟩
abbrev cX7_first : ByteArray := prog_9_method_54_code
def yX7_first : MethodName := ⟨RX7, "first", "(II)I"⟩
abbrev cX7_when : ByteArray := prog_9_method_55_code
def yX7_when : MethodName := ⟨RX7, "when", "(I)I"⟩
abbrev cX7_power : ByteArray := prog_9_method_56_code
def yX7_power : MethodName := ⟨RX7, "power", "(JI)J"⟩
abbrev cX7_odds : ByteArray := prog_9_method_57_code
def yX7_odds : MethodName := ⟨RX7, "odds", "(IIII)I"⟩
abbrev cX7_asGoer : ByteArray := prog_9_method_58_code
def yX7_asGoer : MethodName := ⟨RX7, "asGoer", "(I)I"⟩
abbrev cX7_asGent : ByteArray := prog_9_method_59_code
def yX7_asGent : MethodName := ⟨RX7, "asGent", "(I)I"⟩
abbrev cX7_asDoctor : ByteArray := prog_9_method_60_code
def yX7_asDoctor : MethodName := ⟨RX7, "asDoctor", "(I)I"⟩
abbrev cX7_rate : ByteArray := prog_9_method_61_code
def yX7_rate : MethodName := ⟨RX7, "rate", "(II)I"⟩
abbrev cX7_keep : ByteArray := prog_9_method_62_code
def yX7_keep : MethodName := ⟨RX7, "keep", "(I)I"⟩
abbrev cX7_back : ByteArray := prog_9_method_63_code
def yX7_back : MethodName := ⟨RX7, "back", "(I)I"⟩
abbrev cX7_count : ByteArray := prog_9_method_64_code
def yX7_count : MethodName := ⟨RX7, "count", "(I)I"⟩
abbrev cX7_trace : ByteArray := prog_9_method_65_code
def yX7_trace : MethodName := ⟨RX7, "trace", "()J"⟩
def RJ6 : String := "java/lang/Integer"
def TJ6 : u_T := fun k => match k with
  | _ => ("", "", "", false)
def tyJ6 : Nat → FieldType := fun k => match k with
  | _ => .int
theorem nmJ6 : ∀ a, a < 0 → ∀ b, b < 0 → a ≠ b → (TJ6 a).2.1 ≠ (TJ6 b).2.1 := by decide +kernel
theorem tyJ6_ok : ∀ k, k < 0 → parseFieldDescriptor (TJ6 k).2.2.1 = some (tyJ6 k) := by decide +kernel
abbrev cJ6_bitCount_0f7a4 : ByteArray := prog_10_method_49_code
def yJ6_bitCount_0f7a4 : MethodName := ⟨RJ6, "bitCount", "(I)I"⟩
def RJ9 : String := "java/lang/Math"
def TJ9 : u_T := fun k => match k with
  | _ => ("", "", "", false)
def tyJ9 : Nat → FieldType := fun k => match k with
  | _ => .int
theorem nmJ9 : ∀ a, a < 0 → ∀ b, b < 0 → a ≠ b → (TJ9 a).2.1 ≠ (TJ9 b).2.1 := by decide +kernel
theorem tyJ9_ok : ∀ k, k < 0 → parseFieldDescriptor (TJ9 k).2.2.1 = some (tyJ9 k) := by decide +kernel
abbrev cJ9_max_7cf53 : ByteArray := prog_11_method_65_code
def yJ9_max_7cf53 : MethodName := ⟨RJ9, "max", "(II)I"⟩
abbrev cJ9_min_7cf53 : ByteArray := prog_11_method_69_code
def yJ9_min_7cf53 : MethodName := ⟨RJ9, "min", "(II)I"⟩
def RJ10 : String := "java/lang/System"
def TJ10 : u_T := fun k => match k with
  | _ => ("", "", "", false)
def tyJ10 : Nat → FieldType := fun k => match k with
  | _ => .int
theorem nmJ10 : ∀ a, a < 0 → ∀ b, b < 0 → a ≠ b → (TJ10 a).2.1 ≠ (TJ10 b).2.1 := by decide +kernel
theorem tyJ10_ok : ∀ k, k < 0 → parseFieldDescriptor (TJ10 k).2.2.1 = some (tyJ10 k) := by decide +kernel
def RJ7 : String := "java/util/Arrays"
def TJ7 : u_T := fun k => match k with
  | _ => ("", "", "", false)
def tyJ7 : Nat → FieldType := fun k => match k with
  | _ => .int
theorem nmJ7 : ∀ a, a < 0 → ∀ b, b < 0 → a ≠ b → (TJ7 a).2.1 ≠ (TJ7 b).2.1 := by decide +kernel
theorem tyJ7_ok : ∀ k, k < 0 → parseFieldDescriptor (TJ7 k).2.2.1 = some (tyJ7 k) := by decide +kernel
abbrev cJ7_fill_53178 : ByteArray := prog_13_method_103_code
def yJ7_fill_53178 : MethodName := ⟨RJ7, "fill", "([II)V"⟩
def RL : String := "TruePiesLaw"
abbrev cL_law : ByteArray := code
def yL_law : MethodName := ⟨RL, "law", "([I)Z"⟩
abbrev vwCl : List vw_C := [(RX0, TX0, 10), (RX1, TX1, 3), (RX2, TX2, 1), (RX3, TX3, 6), (RX4, TX4, 4), (RX5, TX5, 6), (RX6, TX6, 10), (RX7, TX7, 36)]
end
section
theorem dX0_init_0 : decode cX0_init 0 = .ok (.aload_n 0, 1) := by decide +kernel
theorem dX0_init_1 : decode cX0_init 1 = .ok (.invokespecial 3, 3) := by decide +kernel
theorem dX0_init_4 : decode cX0_init 4 = .ok (.aload_n 0, 1) := by decide +kernel
theorem dX0_init_5 : decode cX0_init 5 = .ok (.iconst 5, 1) := by decide +kernel
theorem dX0_init_6 : decode cX0_init 6 = .ok (.newarray .int, 2) := by decide +kernel
theorem dX0_init_8 : decode cX0_init 8 = .ok (.putfield 9, 3) := by decide +kernel
theorem dX0_init_11 : decode cX0_init 11 = .ok (.aload_n 0, 1) := by decide +kernel
theorem dX0_init_12 : decode cX0_init 12 = .ok (.bipush 6, 2) := by decide +kernel
theorem dX0_init_14 : decode cX0_init 14 = .ok (.newarray .int, 2) := by decide +kernel
theorem dX0_init_16 : decode cX0_init 16 = .ok (.putfield 15, 3) := by decide +kernel
theorem dX0_init_19 : decode cX0_init 19 = .ok (.aload_n 0, 1) := by decide +kernel
theorem dX0_init_20 : decode cX0_init 20 = .ok (.bipush 24, 2) := by decide +kernel
theorem dX0_init_22 : decode cX0_init 22 = .ok (.newarray .int, 2) := by decide +kernel
theorem dX0_init_24 : decode cX0_init 24 = .ok (.putfield 18, 3) := by decide +kernel
theorem dX0_init_27 : decode cX0_init 27 = .ok (.aload_n 0, 1) := by decide +kernel
theorem dX0_init_28 : decode cX0_init 28 = .ok (.iconst 3, 1) := by decide +kernel
theorem dX0_init_29 : decode cX0_init 29 = .ok (.newarray .int, 2) := by decide +kernel
theorem dX0_init_31 : decode cX0_init 31 = .ok (.putfield 21, 3) := by decide +kernel
theorem dX0_init_34 : decode cX0_init 34 = .ok (.aload_n 0, 1) := by decide +kernel
theorem dX0_init_35 : decode cX0_init 35 = .ok (.iconst 3, 1) := by decide +kernel
theorem dX0_init_36 : decode cX0_init 36 = .ok (.newarray .int, 2) := by decide +kernel
theorem dX0_init_38 : decode cX0_init 38 = .ok (.putfield 24, 3) := by decide +kernel
theorem dX0_init_41 : decode cX0_init 41 = .ok (.aload_n 0, 1) := by decide +kernel
theorem dX0_init_42 : decode cX0_init 42 = .ok (.iconst 0, 1) := by decide +kernel
theorem dX0_init_43 : decode cX0_init 43 = .ok (.putfield 27, 3) := by decide +kernel
theorem dX0_init_46 : decode cX0_init 46 = .ok (.aload_n 0, 1) := by decide +kernel
theorem dX0_init_47 : decode cX0_init 47 = .ok (.iconst 0, 1) := by decide +kernel
theorem dX0_init_48 : decode cX0_init 48 = .ok (.putfield 31, 3) := by decide +kernel
theorem dX0_init_51 : decode cX0_init 51 = .ok (.aload_n 0, 1) := by decide +kernel
theorem dX0_init_52 : decode cX0_init 52 = .ok (.iconst 0, 1) := by decide +kernel
theorem dX0_init_53 : decode cX0_init 53 = .ok (.putfield 34, 3) := by decide +kernel
theorem dX0_init_56 : decode cX0_init 56 = .ok (.aload_n 0, 1) := by decide +kernel
theorem dX0_init_57 : decode cX0_init 57 = .ok (.iconst 0, 1) := by decide +kernel
theorem dX0_init_58 : decode cX0_init 58 = .ok (.putfield 37, 3) := by decide +kernel
theorem dX0_init_61 : decode cX0_init 61 = .ok (.aload_n 0, 1) := by decide +kernel
theorem dX0_init_62 : decode cX0_init 62 = .ok (.iconst 3, 1) := by decide +kernel
theorem dX0_init_63 : decode cX0_init 63 = .ok (.putfield 40, 3) := by decide +kernel
theorem dX0_init_66 : decode cX0_init 66 = .ok (.return_, 1) := by decide +kernel
theorem dX0_startAnew_0 : decode cX0_startAnew 0 = .ok (.aload_n 0, 1) := by decide +kernel
theorem dX0_startAnew_1 : decode cX0_startAnew 1 = .ok (.iconst 0, 1) := by decide +kernel
theorem dX0_startAnew_2 : decode cX0_startAnew 2 = .ok (.putfield 27, 3) := by decide +kernel
theorem dX0_startAnew_5 : decode cX0_startAnew 5 = .ok (.aload_n 0, 1) := by decide +kernel
theorem dX0_startAnew_6 : decode cX0_startAnew 6 = .ok (.iconst 0, 1) := by decide +kernel
theorem dX0_startAnew_7 : decode cX0_startAnew 7 = .ok (.putfield 31, 3) := by decide +kernel
theorem dX0_startAnew_10 : decode cX0_startAnew 10 = .ok (.aload_n 0, 1) := by decide +kernel
theorem dX0_startAnew_11 : decode cX0_startAnew 11 = .ok (.iconst 0, 1) := by decide +kernel
theorem dX0_startAnew_12 : decode cX0_startAnew 12 = .ok (.putfield 34, 3) := by decide +kernel
theorem dX0_startAnew_15 : decode cX0_startAnew 15 = .ok (.aload_n 0, 1) := by decide +kernel
theorem dX0_startAnew_16 : decode cX0_startAnew 16 = .ok (.iconst 0, 1) := by decide +kernel
theorem dX0_startAnew_17 : decode cX0_startAnew 17 = .ok (.putfield 37, 3) := by decide +kernel
theorem dX0_startAnew_20 : decode cX0_startAnew 20 = .ok (.aload_n 0, 1) := by decide +kernel
theorem dX0_startAnew_21 : decode cX0_startAnew 21 = .ok (.iconst 3, 1) := by decide +kernel
theorem dX0_startAnew_22 : decode cX0_startAnew 22 = .ok (.putfield 40, 3) := by decide +kernel
theorem dX0_startAnew_25 : decode cX0_startAnew 25 = .ok (.return_, 1) := by decide +kernel
theorem dX0_hasLeaf_0 : decode cX0_hasLeaf 0 = .ok (.iload_n 1, 1) := by decide +kernel
theorem dX0_hasLeaf_1 : decode cX0_hasLeaf 1 = .ok (.ifCond .lt 15, 3) := by decide +kernel
theorem dX0_hasLeaf_4 : decode cX0_hasLeaf 4 = .ok (.iload_n 1, 1) := by decide +kernel
theorem dX0_hasLeaf_5 : decode cX0_hasLeaf 5 = .ok (.aload_n 0, 1) := by decide +kernel
theorem dX0_hasLeaf_6 : decode cX0_hasLeaf 6 = .ok (.getfield 27, 3) := by decide +kernel
theorem dX0_hasLeaf_9 : decode cX0_hasLeaf 9 = .ok (.if_icmp .ge 7, 3) := by decide +kernel
theorem dX0_hasLeaf_12 : decode cX0_hasLeaf 12 = .ok (.iconst 1, 1) := by decide +kernel
theorem dX0_hasLeaf_13 : decode cX0_hasLeaf 13 = .ok (.goto 4, 3) := by decide +kernel
theorem dX0_hasLeaf_16 : decode cX0_hasLeaf 16 = .ok (.iconst 0, 1) := by decide +kernel
theorem dX0_hasLeaf_17 : decode cX0_hasLeaf 17 = .ok (.ireturn, 1) := by decide +kernel
theorem dX0_hasGoer_0 : decode cX0_hasGoer 0 = .ok (.iload_n 1, 1) := by decide +kernel
theorem dX0_hasGoer_1 : decode cX0_hasGoer 1 = .ok (.ifCond .lt 15, 3) := by decide +kernel
theorem dX0_hasGoer_4 : decode cX0_hasGoer 4 = .ok (.iload_n 1, 1) := by decide +kernel
theorem dX0_hasGoer_5 : decode cX0_hasGoer 5 = .ok (.aload_n 0, 1) := by decide +kernel
theorem dX0_hasGoer_6 : decode cX0_hasGoer 6 = .ok (.getfield 31, 3) := by decide +kernel
theorem dX0_hasGoer_9 : decode cX0_hasGoer 9 = .ok (.if_icmp .ge 7, 3) := by decide +kernel
theorem dX0_hasGoer_12 : decode cX0_hasGoer 12 = .ok (.iconst 1, 1) := by decide +kernel
theorem dX0_hasGoer_13 : decode cX0_hasGoer 13 = .ok (.goto 4, 3) := by decide +kernel
theorem dX0_hasGoer_16 : decode cX0_hasGoer 16 = .ok (.iconst 0, 1) := by decide +kernel
theorem dX0_hasGoer_17 : decode cX0_hasGoer 17 = .ok (.ireturn, 1) := by decide +kernel
theorem dX0_counts_0 : decode cX0_counts 0 = .ok (.aload_n 0, 1) := by decide +kernel
theorem dX0_counts_1 : decode cX0_counts 1 = .ok (.iload_n 2, 1) := by decide +kernel
theorem dX0_counts_2 : decode cX0_counts 2 = .ok (.invokevirtual 43, 3) := by decide +kernel
theorem dX0_counts_5 : decode cX0_counts 5 = .ok (.ifCond .eq 20, 3) := by decide +kernel
theorem dX0_counts_8 : decode cX0_counts 8 = .ok (.aload_n 0, 1) := by decide +kernel
theorem dX0_counts_9 : decode cX0_counts 9 = .ok (.getfield 9, 3) := by decide +kernel
theorem dX0_counts_12 : decode cX0_counts 12 = .ok (.iload_n 2, 1) := by decide +kernel
theorem dX0_counts_13 : decode cX0_counts 13 = .ok (.iaload, 1) := by decide +kernel
theorem dX0_counts_14 : decode cX0_counts 14 = .ok (.iload_n 1, 1) := by decide +kernel
theorem dX0_counts_15 : decode cX0_counts 15 = .ok (.invokestatic 47, 3) := by decide +kernel
theorem dX0_counts_18 : decode cX0_counts 18 = .ok (.ifCond .eq 7, 3) := by decide +kernel
theorem dX0_counts_21 : decode cX0_counts 21 = .ok (.iconst 1, 1) := by decide +kernel
theorem dX0_counts_22 : decode cX0_counts 22 = .ok (.goto 4, 3) := by decide +kernel
theorem dX0_counts_25 : decode cX0_counts 25 = .ok (.iconst 0, 1) := by decide +kernel
theorem dX0_counts_26 : decode cX0_counts 26 = .ok (.ireturn, 1) := by decide +kernel
theorem dX0_goodTastes_0 : decode cX0_goodTastes 0 = .ok (.aload_n 0, 1) := by decide +kernel
theorem dX0_goodTastes_1 : decode cX0_goodTastes 1 = .ok (.iload_n 1, 1) := by decide +kernel
theorem dX0_goodTastes_2 : decode cX0_goodTastes 2 = .ok (.invokevirtual 43, 3) := by decide +kernel
theorem dX0_goodTastes_5 : decode cX0_goodTastes 5 = .ok (.ifCond .eq 27, 3) := by decide +kernel
theorem dX0_goodTastes_8 : decode cX0_goodTastes 8 = .ok (.aload_n 0, 1) := by decide +kernel
theorem dX0_goodTastes_9 : decode cX0_goodTastes 9 = .ok (.iload_n 2, 1) := by decide +kernel
theorem dX0_goodTastes_10 : decode cX0_goodTastes 10 = .ok (.invokevirtual 51, 3) := by decide +kernel
theorem dX0_goodTastes_13 : decode cX0_goodTastes 13 = .ok (.ifCond .eq 19, 3) := by decide +kernel
theorem dX0_goodTastes_16 : decode cX0_goodTastes 16 = .ok (.aload_n 0, 1) := by decide +kernel
theorem dX0_goodTastes_17 : decode cX0_goodTastes 17 = .ok (.getfield 9, 3) := by decide +kernel
theorem dX0_goodTastes_20 : decode cX0_goodTastes 20 = .ok (.iload_n 1, 1) := by decide +kernel
theorem dX0_goodTastes_21 : decode cX0_goodTastes 21 = .ok (.iaload, 1) := by decide +kernel
theorem dX0_goodTastes_22 : decode cX0_goodTastes 22 = .ok (.aload_n 0, 1) := by decide +kernel
theorem dX0_goodTastes_23 : decode cX0_goodTastes 23 = .ok (.getfield 15, 3) := by decide +kernel
theorem dX0_goodTastes_26 : decode cX0_goodTastes 26 = .ok (.iload_n 2, 1) := by decide +kernel
theorem dX0_goodTastes_27 : decode cX0_goodTastes 27 = .ok (.iaload, 1) := by decide +kernel
theorem dX0_goodTastes_28 : decode cX0_goodTastes 28 = .ok (.iand, 1) := by decide +kernel
theorem dX0_goodTastes_29 : decode cX0_goodTastes 29 = .ok (.goto 4, 3) := by decide +kernel
theorem dX0_goodTastes_32 : decode cX0_goodTastes 32 = .ok (.iconst 0, 1) := by decide +kernel
theorem dX0_goodTastes_33 : decode cX0_goodTastes 33 = .ok (.ireturn, 1) := by decide +kernel
theorem dX0_goersLetBy_0 : decode cX0_goersLetBy 0 = .ok (.iconst 0, 1) := by decide +kernel
theorem dX0_goersLetBy_1 : decode cX0_goersLetBy 1 = .ok (.istore_n 2, 1) := by decide +kernel
theorem dX0_goersLetBy_2 : decode cX0_goersLetBy 2 = .ok (.iconst 0, 1) := by decide +kernel
theorem dX0_goersLetBy_3 : decode cX0_goersLetBy 3 = .ok (.istore_n 3, 1) := by decide +kernel
theorem dX0_goersLetBy_4 : decode cX0_goersLetBy 4 = .ok (.iload_n 3, 1) := by decide +kernel
theorem dX0_goersLetBy_5 : decode cX0_goersLetBy 5 = .ok (.aload_n 0, 1) := by decide +kernel
theorem dX0_goersLetBy_6 : decode cX0_goersLetBy 6 = .ok (.getfield 31, 3) := by decide +kernel
theorem dX0_goersLetBy_9 : decode cX0_goersLetBy 9 = .ok (.if_icmp .ge 24, 3) := by decide +kernel
theorem dX0_goersLetBy_12 : decode cX0_goersLetBy 12 = .ok (.aload_n 0, 1) := by decide +kernel
theorem dX0_goersLetBy_13 : decode cX0_goersLetBy 13 = .ok (.iload_n 1, 1) := by decide +kernel
theorem dX0_goersLetBy_14 : decode cX0_goersLetBy 14 = .ok (.iload_n 3, 1) := by decide +kernel
theorem dX0_goersLetBy_15 : decode cX0_goersLetBy 15 = .ok (.invokevirtual 54, 3) := by decide +kernel
theorem dX0_goersLetBy_18 : decode cX0_goersLetBy 18 = .ok (.ifCond .eq 9, 3) := by decide +kernel
theorem dX0_goersLetBy_21 : decode cX0_goersLetBy 21 = .ok (.iload_n 2, 1) := by decide +kernel
theorem dX0_goersLetBy_22 : decode cX0_goersLetBy 22 = .ok (.iconst 1, 1) := by decide +kernel
theorem dX0_goersLetBy_23 : decode cX0_goersLetBy 23 = .ok (.iload_n 3, 1) := by decide +kernel
theorem dX0_goersLetBy_24 : decode cX0_goersLetBy 24 = .ok (.ishl, 1) := by decide +kernel
theorem dX0_goersLetBy_25 : decode cX0_goersLetBy 25 = .ok (.ior, 1) := by decide +kernel
theorem dX0_goersLetBy_26 : decode cX0_goersLetBy 26 = .ok (.istore_n 2, 1) := by decide +kernel
theorem dX0_goersLetBy_27 : decode cX0_goersLetBy 27 = .ok (.iinc 3 1, 3) := by decide +kernel
theorem dX0_goersLetBy_30 : decode cX0_goersLetBy 30 = .ok (.goto (-26), 3) := by decide +kernel
theorem dX0_goersLetBy_33 : decode cX0_goersLetBy 33 = .ok (.iload_n 2, 1) := by decide +kernel
theorem dX0_goersLetBy_34 : decode cX0_goersLetBy 34 = .ok (.ireturn, 1) := by decide +kernel
theorem dX0_leavesThatLet_0 : decode cX0_leavesThatLet 0 = .ok (.iconst 0, 1) := by decide +kernel
theorem dX0_leavesThatLet_1 : decode cX0_leavesThatLet 1 = .ok (.istore_n 2, 1) := by decide +kernel
theorem dX0_leavesThatLet_2 : decode cX0_leavesThatLet 2 = .ok (.iconst 0, 1) := by decide +kernel
theorem dX0_leavesThatLet_3 : decode cX0_leavesThatLet 3 = .ok (.istore_n 3, 1) := by decide +kernel
theorem dX0_leavesThatLet_4 : decode cX0_leavesThatLet 4 = .ok (.iload_n 3, 1) := by decide +kernel
theorem dX0_leavesThatLet_5 : decode cX0_leavesThatLet 5 = .ok (.aload_n 0, 1) := by decide +kernel
theorem dX0_leavesThatLet_6 : decode cX0_leavesThatLet 6 = .ok (.getfield 27, 3) := by decide +kernel
theorem dX0_leavesThatLet_9 : decode cX0_leavesThatLet 9 = .ok (.if_icmp .ge 24, 3) := by decide +kernel
theorem dX0_leavesThatLet_12 : decode cX0_leavesThatLet 12 = .ok (.aload_n 0, 1) := by decide +kernel
theorem dX0_leavesThatLet_13 : decode cX0_leavesThatLet 13 = .ok (.iload_n 3, 1) := by decide +kernel
theorem dX0_leavesThatLet_14 : decode cX0_leavesThatLet 14 = .ok (.iload_n 1, 1) := by decide +kernel
theorem dX0_leavesThatLet_15 : decode cX0_leavesThatLet 15 = .ok (.invokevirtual 54, 3) := by decide +kernel
theorem dX0_leavesThatLet_18 : decode cX0_leavesThatLet 18 = .ok (.ifCond .eq 9, 3) := by decide +kernel
theorem dX0_leavesThatLet_21 : decode cX0_leavesThatLet 21 = .ok (.iload_n 2, 1) := by decide +kernel
theorem dX0_leavesThatLet_22 : decode cX0_leavesThatLet 22 = .ok (.iconst 1, 1) := by decide +kernel
theorem dX0_leavesThatLet_23 : decode cX0_leavesThatLet 23 = .ok (.iload_n 3, 1) := by decide +kernel
theorem dX0_leavesThatLet_24 : decode cX0_leavesThatLet 24 = .ok (.ishl, 1) := by decide +kernel
theorem dX0_leavesThatLet_25 : decode cX0_leavesThatLet 25 = .ok (.ior, 1) := by decide +kernel
theorem dX0_leavesThatLet_26 : decode cX0_leavesThatLet 26 = .ok (.istore_n 2, 1) := by decide +kernel
theorem dX0_leavesThatLet_27 : decode cX0_leavesThatLet 27 = .ok (.iinc 3 1, 3) := by decide +kernel
theorem dX0_leavesThatLet_30 : decode cX0_leavesThatLet 30 = .ok (.goto (-26), 3) := by decide +kernel
theorem dX0_leavesThatLet_33 : decode cX0_leavesThatLet 33 = .ok (.iload_n 2, 1) := by decide +kernel
theorem dX0_leavesThatLet_34 : decode cX0_leavesThatLet 34 = .ok (.ireturn, 1) := by decide +kernel
theorem dX0_leafBehind_0 : decode cX0_leafBehind 0 = .ok (.aload_n 0, 1) := by decide +kernel
theorem dX0_leafBehind_1 : decode cX0_leafBehind 1 = .ok (.getfield 27, 3) := by decide +kernel
theorem dX0_leafBehind_4 : decode cX0_leafBehind 4 = .ok (.ifCond .ne 7, 3) := by decide +kernel
theorem dX0_leafBehind_7 : decode cX0_leafBehind 7 = .ok (.iconst 0, 1) := by decide +kernel
theorem dX0_leafBehind_8 : decode cX0_leafBehind 8 = .ok (.goto 11, 3) := by decide +kernel
theorem dX0_leafBehind_11 : decode cX0_leafBehind 11 = .ok (.iload_n 1, 1) := by decide +kernel
theorem dX0_leafBehind_12 : decode cX0_leafBehind 12 = .ok (.iload_n 2, 1) := by decide +kernel
theorem dX0_leafBehind_13 : decode cX0_leafBehind 13 = .ok (.iadd, 1) := by decide +kernel
theorem dX0_leafBehind_14 : decode cX0_leafBehind 14 = .ok (.aload_n 0, 1) := by decide +kernel
theorem dX0_leafBehind_15 : decode cX0_leafBehind 15 = .ok (.getfield 27, 3) := by decide +kernel
theorem dX0_leafBehind_18 : decode cX0_leafBehind 18 = .ok (.irem, 1) := by decide +kernel
theorem dX0_leafBehind_19 : decode cX0_leafBehind 19 = .ok (.ireturn, 1) := by decide +kernel
theorem dX0_cover_0 : decode cX0_cover 0 = .ok (.bipush (-9), 2) := by decide +kernel
theorem dX0_cover_2 : decode cX0_cover 2 = .ok (.istore_n 1, 1) := by decide +kernel
theorem dX0_cover_3 : decode cX0_cover 3 = .ok (.aload_n 0, 1) := by decide +kernel
theorem dX0_cover_4 : decode cX0_cover 4 = .ok (.getfield 27, 3) := by decide +kernel
theorem dX0_cover_7 : decode cX0_cover 7 = .ok (.iconst 1, 1) := by decide +kernel
theorem dX0_cover_8 : decode cX0_cover 8 = .ok (.iadd, 1) := by decide +kernel
theorem dX0_cover_9 : decode cX0_cover 9 = .ok (.istore_n 2, 1) := by decide +kernel
theorem dX0_cover_10 : decode cX0_cover 10 = .ok (.iconst 0, 1) := by decide +kernel
theorem dX0_cover_11 : decode cX0_cover 11 = .ok (.istore_n 3, 1) := by decide +kernel
theorem dX0_cover_12 : decode cX0_cover 12 = .ok (.iload_n 3, 1) := by decide +kernel
theorem dX0_cover_13 : decode cX0_cover 13 = .ok (.iconst 1, 1) := by decide +kernel
theorem dX0_cover_14 : decode cX0_cover 14 = .ok (.aload_n 0, 1) := by decide +kernel
theorem dX0_cover_15 : decode cX0_cover 15 = .ok (.getfield 27, 3) := by decide +kernel
theorem dX0_cover_18 : decode cX0_cover 18 = .ok (.ishl, 1) := by decide +kernel
theorem dX0_cover_19 : decode cX0_cover 19 = .ok (.if_icmp .ge 32, 3) := by decide +kernel
theorem dX0_cover_22 : decode cX0_cover 22 = .ok (.iload_n 3, 1) := by decide +kernel
theorem dX0_cover_23 : decode cX0_cover 23 = .ok (.invokestatic 58, 3) := by decide +kernel
theorem dX0_cover_26 : decode cX0_cover 26 = .ok (.iload_n 2, 1) := by decide +kernel
theorem dX0_cover_27 : decode cX0_cover 27 = .ok (.if_icmp .ge 18, 3) := by decide +kernel
theorem dX0_cover_30 : decode cX0_cover 30 = .ok (.aload_n 0, 1) := by decide +kernel
theorem dX0_cover_31 : decode cX0_cover 31 = .ok (.iload_n 3, 1) := by decide +kernel
theorem dX0_cover_32 : decode cX0_cover 32 = .ok (.invokevirtual 64, 3) := by decide +kernel
theorem dX0_cover_35 : decode cX0_cover 35 = .ok (.ifCond .eq 10, 3) := by decide +kernel
theorem dX0_cover_38 : decode cX0_cover 38 = .ok (.iload_n 3, 1) := by decide +kernel
theorem dX0_cover_39 : decode cX0_cover 39 = .ok (.istore_n 1, 1) := by decide +kernel
theorem dX0_cover_40 : decode cX0_cover 40 = .ok (.iload_n 3, 1) := by decide +kernel
theorem dX0_cover_41 : decode cX0_cover 41 = .ok (.invokestatic 58, 3) := by decide +kernel
theorem dX0_cover_44 : decode cX0_cover 44 = .ok (.istore_n 2, 1) := by decide +kernel
theorem dX0_cover_45 : decode cX0_cover 45 = .ok (.iinc 3 1, 3) := by decide +kernel
theorem dX0_cover_48 : decode cX0_cover 48 = .ok (.goto (-36), 3) := by decide +kernel
theorem dX0_cover_51 : decode cX0_cover 51 = .ok (.iload_n 1, 1) := by decide +kernel
theorem dX0_cover_52 : decode cX0_cover 52 = .ok (.ireturn, 1) := by decide +kernel
theorem dX0_coversAll_0 : decode cX0_coversAll 0 = .ok (.iconst 0, 1) := by decide +kernel
theorem dX0_coversAll_1 : decode cX0_coversAll 1 = .ok (.istore_n 2, 1) := by decide +kernel
theorem dX0_coversAll_2 : decode cX0_coversAll 2 = .ok (.iload_n 2, 1) := by decide +kernel
theorem dX0_coversAll_3 : decode cX0_coversAll 3 = .ok (.aload_n 0, 1) := by decide +kernel
theorem dX0_coversAll_4 : decode cX0_coversAll 4 = .ok (.getfield 31, 3) := by decide +kernel
theorem dX0_coversAll_7 : decode cX0_coversAll 7 = .ok (.if_icmp .ge 21, 3) := by decide +kernel
theorem dX0_coversAll_10 : decode cX0_coversAll 10 = .ok (.aload_n 0, 1) := by decide +kernel
theorem dX0_coversAll_11 : decode cX0_coversAll 11 = .ok (.iload_n 2, 1) := by decide +kernel
theorem dX0_coversAll_12 : decode cX0_coversAll 12 = .ok (.invokevirtual 67, 3) := by decide +kernel
theorem dX0_coversAll_15 : decode cX0_coversAll 15 = .ok (.iload_n 1, 1) := by decide +kernel
theorem dX0_coversAll_16 : decode cX0_coversAll 16 = .ok (.iand, 1) := by decide +kernel
theorem dX0_coversAll_17 : decode cX0_coversAll 17 = .ok (.ifCond .ne 5, 3) := by decide +kernel
theorem dX0_coversAll_20 : decode cX0_coversAll 20 = .ok (.iconst 0, 1) := by decide +kernel
theorem dX0_coversAll_21 : decode cX0_coversAll 21 = .ok (.ireturn, 1) := by decide +kernel
theorem dX0_coversAll_22 : decode cX0_coversAll 22 = .ok (.iinc 2 1, 3) := by decide +kernel
theorem dX0_coversAll_25 : decode cX0_coversAll 25 = .ok (.goto (-23), 3) := by decide +kernel
theorem dX0_coversAll_28 : decode cX0_coversAll 28 = .ok (.iconst 1, 1) := by decide +kernel
theorem dX0_coversAll_29 : decode cX0_coversAll 29 = .ok (.ireturn, 1) := by decide +kernel
theorem dX0_changed_0 : decode cX0_changed 0 = .ok (.aload_n 0, 1) := by decide +kernel
theorem dX0_changed_1 : decode cX0_changed 1 = .ok (.getfield 18, 3) := by decide +kernel
theorem dX0_changed_4 : decode cX0_changed 4 = .ok (.iload_n 1, 1) := by decide +kernel
theorem dX0_changed_5 : decode cX0_changed 5 = .ok (.bipush 6, 2) := by decide +kernel
theorem dX0_changed_7 : decode cX0_changed 7 = .ok (.imul, 1) := by decide +kernel
theorem dX0_changed_8 : decode cX0_changed 8 = .ok (.iload_n 2, 1) := by decide +kernel
theorem dX0_changed_9 : decode cX0_changed 9 = .ok (.iadd, 1) := by decide +kernel
theorem dX0_changed_10 : decode cX0_changed 10 = .ok (.iaload, 1) := by decide +kernel
theorem dX0_changed_11 : decode cX0_changed 11 = .ok (.ireturn, 1) := by decide +kernel
theorem dX0_passedOn_0 : decode cX0_passedOn 0 = .ok (.aload_n 0, 1) := by decide +kernel
theorem dX0_passedOn_1 : decode cX0_passedOn 1 = .ok (.getfield 34, 3) := by decide +kernel
theorem dX0_passedOn_4 : decode cX0_passedOn 4 = .ok (.ifCond .ne 14, 3) := by decide +kernel
theorem dX0_passedOn_7 : decode cX0_passedOn 7 = .ok (.iload_n 2, 1) := by decide +kernel
theorem dX0_passedOn_8 : decode cX0_passedOn 8 = .ok (.ifCond .ne 7, 3) := by decide +kernel
theorem dX0_passedOn_11 : decode cX0_passedOn 11 = .ok (.iload_n 1, 1) := by decide +kernel
theorem dX0_passedOn_12 : decode cX0_passedOn 12 = .ok (.goto 5, 3) := by decide +kernel
theorem dX0_passedOn_15 : decode cX0_passedOn 15 = .ok (.bipush (-9), 2) := by decide +kernel
theorem dX0_passedOn_17 : decode cX0_passedOn 17 = .ok (.ireturn, 1) := by decide +kernel
theorem dX0_passedOn_18 : decode cX0_passedOn 18 = .ok (.iload_n 1, 1) := by decide +kernel
theorem dX0_passedOn_19 : decode cX0_passedOn 19 = .ok (.istore_n 3, 1) := by decide +kernel
theorem dX0_passedOn_20 : decode cX0_passedOn 20 = .ok (.iconst 0, 1) := by decide +kernel
theorem dX0_passedOn_21 : decode cX0_passedOn 21 = .ok (.istore 4, 2) := by decide +kernel
theorem dX0_passedOn_23 : decode cX0_passedOn 23 = .ok (.iload 4, 2) := by decide +kernel
theorem dX0_passedOn_25 : decode cX0_passedOn 25 = .ok (.iload_n 2, 1) := by decide +kernel
theorem dX0_passedOn_26 : decode cX0_passedOn 26 = .ok (.if_icmp .ge 22, 3) := by decide +kernel
theorem dX0_passedOn_29 : decode cX0_passedOn 29 = .ok (.aload_n 0, 1) := by decide +kernel
theorem dX0_passedOn_30 : decode cX0_passedOn 30 = .ok (.iload 4, 2) := by decide +kernel
theorem dX0_passedOn_32 : decode cX0_passedOn 32 = .ok (.aload_n 0, 1) := by decide +kernel
theorem dX0_passedOn_33 : decode cX0_passedOn 33 = .ok (.getfield 34, 3) := by decide +kernel
theorem dX0_passedOn_36 : decode cX0_passedOn 36 = .ok (.irem, 1) := by decide +kernel
theorem dX0_passedOn_37 : decode cX0_passedOn 37 = .ok (.iload_n 3, 1) := by decide +kernel
theorem dX0_passedOn_38 : decode cX0_passedOn 38 = .ok (.invokevirtual 70, 3) := by decide +kernel
theorem dX0_passedOn_41 : decode cX0_passedOn 41 = .ok (.istore_n 3, 1) := by decide +kernel
theorem dX0_passedOn_42 : decode cX0_passedOn 42 = .ok (.iinc 4 1, 3) := by decide +kernel
theorem dX0_passedOn_45 : decode cX0_passedOn 45 = .ok (.goto (-22), 3) := by decide +kernel
theorem dX0_passedOn_48 : decode cX0_passedOn 48 = .ok (.iload_n 3, 1) := by decide +kernel
theorem dX0_passedOn_49 : decode cX0_passedOn 49 = .ok (.ireturn, 1) := by decide +kernel
theorem dX0_dayOfAllFridays_0 : decode cX0_dayOfAllFridays 0 = .ok (.iload_n 1, 1) := by decide +kernel
theorem dX0_dayOfAllFridays_1 : decode cX0_dayOfAllFridays 1 = .ok (.istore_n 2, 1) := by decide +kernel
theorem dX0_dayOfAllFridays_2 : decode cX0_dayOfAllFridays 2 = .ok (.iconst 1, 1) := by decide +kernel
theorem dX0_dayOfAllFridays_3 : decode cX0_dayOfAllFridays 3 = .ok (.istore_n 3, 1) := by decide +kernel
theorem dX0_dayOfAllFridays_4 : decode cX0_dayOfAllFridays 4 = .ok (.iconst 0, 1) := by decide +kernel
theorem dX0_dayOfAllFridays_5 : decode cX0_dayOfAllFridays 5 = .ok (.istore 4, 2) := by decide +kernel
theorem dX0_dayOfAllFridays_7 : decode cX0_dayOfAllFridays 7 = .ok (.iload 4, 2) := by decide +kernel
theorem dX0_dayOfAllFridays_9 : decode cX0_dayOfAllFridays 9 = .ok (.aload_n 0, 1) := by decide +kernel
theorem dX0_dayOfAllFridays_10 : decode cX0_dayOfAllFridays 10 = .ok (.getfield 37, 3) := by decide +kernel
theorem dX0_dayOfAllFridays_13 : decode cX0_dayOfAllFridays 13 = .ok (.if_icmp .ge 49, 3) := by decide +kernel
theorem dX0_dayOfAllFridays_16 : decode cX0_dayOfAllFridays 16 = .ok (.aload_n 0, 1) := by decide +kernel
theorem dX0_dayOfAllFridays_17 : decode cX0_dayOfAllFridays 17 = .ok (.iload 4, 2) := by decide +kernel
theorem dX0_dayOfAllFridays_19 : decode cX0_dayOfAllFridays 19 = .ok (.iload_n 2, 1) := by decide +kernel
theorem dX0_dayOfAllFridays_20 : decode cX0_dayOfAllFridays 20 = .ok (.iload_n 3, 1) := by decide +kernel
theorem dX0_dayOfAllFridays_21 : decode cX0_dayOfAllFridays 21 = .ok (.invokevirtual 73, 3) := by decide +kernel
theorem dX0_dayOfAllFridays_24 : decode cX0_dayOfAllFridays 24 = .ok (.istore_n 2, 1) := by decide +kernel
theorem dX0_dayOfAllFridays_25 : decode cX0_dayOfAllFridays 25 = .ok (.iload_n 2, 1) := by decide +kernel
theorem dX0_dayOfAllFridays_26 : decode cX0_dayOfAllFridays 26 = .ok (.bipush (-9), 2) := by decide +kernel
theorem dX0_dayOfAllFridays_28 : decode cX0_dayOfAllFridays 28 = .ok (.if_icmp .ne 6, 3) := by decide +kernel
theorem dX0_dayOfAllFridays_31 : decode cX0_dayOfAllFridays 31 = .ok (.bipush (-9), 2) := by decide +kernel
theorem dX0_dayOfAllFridays_33 : decode cX0_dayOfAllFridays 33 = .ok (.ireturn, 1) := by decide +kernel
theorem dX0_dayOfAllFridays_34 : decode cX0_dayOfAllFridays 34 = .ok (.iload_n 3, 1) := by decide +kernel
theorem dX0_dayOfAllFridays_35 : decode cX0_dayOfAllFridays 35 = .ok (.iload_n 3, 1) := by decide +kernel
theorem dX0_dayOfAllFridays_36 : decode cX0_dayOfAllFridays 36 = .ok (.aload_n 0, 1) := by decide +kernel
theorem dX0_dayOfAllFridays_37 : decode cX0_dayOfAllFridays 37 = .ok (.getfield 21, 3) := by decide +kernel
theorem dX0_dayOfAllFridays_40 : decode cX0_dayOfAllFridays 40 = .ok (.iload 4, 2) := by decide +kernel
theorem dX0_dayOfAllFridays_42 : decode cX0_dayOfAllFridays 42 = .ok (.iaload, 1) := by decide +kernel
theorem dX0_dayOfAllFridays_43 : decode cX0_dayOfAllFridays 43 = .ok (.invokestatic 77, 3) := by decide +kernel
theorem dX0_dayOfAllFridays_46 : decode cX0_dayOfAllFridays 46 = .ok (.idiv, 1) := by decide +kernel
theorem dX0_dayOfAllFridays_47 : decode cX0_dayOfAllFridays 47 = .ok (.aload_n 0, 1) := by decide +kernel
theorem dX0_dayOfAllFridays_48 : decode cX0_dayOfAllFridays 48 = .ok (.getfield 21, 3) := by decide +kernel
theorem dX0_dayOfAllFridays_51 : decode cX0_dayOfAllFridays 51 = .ok (.iload 4, 2) := by decide +kernel
theorem dX0_dayOfAllFridays_53 : decode cX0_dayOfAllFridays 53 = .ok (.iaload, 1) := by decide +kernel
theorem dX0_dayOfAllFridays_54 : decode cX0_dayOfAllFridays 54 = .ok (.imul, 1) := by decide +kernel
theorem dX0_dayOfAllFridays_55 : decode cX0_dayOfAllFridays 55 = .ok (.istore_n 3, 1) := by decide +kernel
theorem dX0_dayOfAllFridays_56 : decode cX0_dayOfAllFridays 56 = .ok (.iinc 4 1, 3) := by decide +kernel
theorem dX0_dayOfAllFridays_59 : decode cX0_dayOfAllFridays 59 = .ok (.goto (-52), 3) := by decide +kernel
theorem dX0_dayOfAllFridays_62 : decode cX0_dayOfAllFridays 62 = .ok (.iload_n 2, 1) := by decide +kernel
theorem dX0_dayOfAllFridays_63 : decode cX0_dayOfAllFridays 63 = .ok (.ireturn, 1) := by decide +kernel
theorem dX0_dayOfFriday_0 : decode cX0_dayOfFriday 0 = .ok (.iconst 1, 1) := by decide +kernel
theorem dX0_dayOfFriday_1 : decode cX0_dayOfFriday 1 = .ok (.aload_n 0, 1) := by decide +kernel
theorem dX0_dayOfFriday_2 : decode cX0_dayOfFriday 2 = .ok (.getfield 21, 3) := by decide +kernel
theorem dX0_dayOfFriday_5 : decode cX0_dayOfFriday 5 = .ok (.iload_n 1, 1) := by decide +kernel
theorem dX0_dayOfFriday_6 : decode cX0_dayOfFriday 6 = .ok (.iaload, 1) := by decide +kernel
theorem dX0_dayOfFriday_7 : decode cX0_dayOfFriday 7 = .ok (.invokestatic 80, 3) := by decide +kernel
theorem dX0_dayOfFriday_10 : decode cX0_dayOfFriday 10 = .ok (.istore 4, 2) := by decide +kernel
theorem dX0_dayOfFriday_12 : decode cX0_dayOfFriday 12 = .ok (.iconst 0, 1) := by decide +kernel
theorem dX0_dayOfFriday_13 : decode cX0_dayOfFriday 13 = .ok (.istore 5, 2) := by decide +kernel
theorem dX0_dayOfFriday_15 : decode cX0_dayOfFriday 15 = .ok (.iload 5, 2) := by decide +kernel
theorem dX0_dayOfFriday_17 : decode cX0_dayOfFriday 17 = .ok (.iload 4, 2) := by decide +kernel
theorem dX0_dayOfFriday_19 : decode cX0_dayOfFriday 19 = .ok (.if_icmp .ge 34, 3) := by decide +kernel
theorem dX0_dayOfFriday_22 : decode cX0_dayOfFriday 22 = .ok (.iload_n 2, 1) := by decide +kernel
theorem dX0_dayOfFriday_23 : decode cX0_dayOfFriday 23 = .ok (.iload 5, 2) := by decide +kernel
theorem dX0_dayOfFriday_25 : decode cX0_dayOfFriday 25 = .ok (.iload_n 3, 1) := by decide +kernel
theorem dX0_dayOfFriday_26 : decode cX0_dayOfFriday 26 = .ok (.imul, 1) := by decide +kernel
theorem dX0_dayOfFriday_27 : decode cX0_dayOfFriday 27 = .ok (.iadd, 1) := by decide +kernel
theorem dX0_dayOfFriday_28 : decode cX0_dayOfFriday 28 = .ok (.istore 6, 2) := by decide +kernel
theorem dX0_dayOfFriday_30 : decode cX0_dayOfFriday 30 = .ok (.iload 6, 2) := by decide +kernel
theorem dX0_dayOfFriday_32 : decode cX0_dayOfFriday 32 = .ok (.iload 4, 2) := by decide +kernel
theorem dX0_dayOfFriday_34 : decode cX0_dayOfFriday 34 = .ok (.irem, 1) := by decide +kernel
theorem dX0_dayOfFriday_35 : decode cX0_dayOfFriday 35 = .ok (.aload_n 0, 1) := by decide +kernel
theorem dX0_dayOfFriday_36 : decode cX0_dayOfFriday 36 = .ok (.getfield 24, 3) := by decide +kernel
theorem dX0_dayOfFriday_39 : decode cX0_dayOfFriday 39 = .ok (.iload_n 1, 1) := by decide +kernel
theorem dX0_dayOfFriday_40 : decode cX0_dayOfFriday 40 = .ok (.iaload, 1) := by decide +kernel
theorem dX0_dayOfFriday_41 : decode cX0_dayOfFriday 41 = .ok (.if_icmp .ne 6, 3) := by decide +kernel
theorem dX0_dayOfFriday_44 : decode cX0_dayOfFriday 44 = .ok (.iload 6, 2) := by decide +kernel
theorem dX0_dayOfFriday_46 : decode cX0_dayOfFriday 46 = .ok (.ireturn, 1) := by decide +kernel
theorem dX0_dayOfFriday_47 : decode cX0_dayOfFriday 47 = .ok (.iinc 5 1, 3) := by decide +kernel
theorem dX0_dayOfFriday_50 : decode cX0_dayOfFriday 50 = .ok (.goto (-35), 3) := by decide +kernel
theorem dX0_dayOfFriday_53 : decode cX0_dayOfFriday 53 = .ok (.bipush (-9), 2) := by decide +kernel
theorem dX0_dayOfFriday_55 : decode cX0_dayOfFriday 55 = .ok (.ireturn, 1) := by decide +kernel
theorem dX1_init_0 : decode cX1_init 0 = .ok (.aload_n 0, 1) := by decide +kernel
theorem dX1_init_1 : decode cX1_init 1 = .ok (.invokespecial 3, 3) := by decide +kernel
theorem dX1_init_4 : decode cX1_init 4 = .ok (.aload_n 0, 1) := by decide +kernel
theorem dX1_init_5 : decode cX1_init 5 = .ok (.bipush 10, 2) := by decide +kernel
theorem dX1_init_7 : decode cX1_init 7 = .ok (.anewarray 9, 3) := by decide +kernel
theorem dX1_init_10 : decode cX1_init 10 = .ok (.putfield 11, 3) := by decide +kernel
theorem dX1_init_13 : decode cX1_init 13 = .ok (.aload_n 0, 1) := by decide +kernel
theorem dX1_init_14 : decode cX1_init 14 = .ok (.iconst 0, 1) := by decide +kernel
theorem dX1_init_15 : decode cX1_init 15 = .ok (.putfield 17, 3) := by decide +kernel
theorem dX1_init_18 : decode cX1_init 18 = .ok (.aload_n 0, 1) := by decide +kernel
theorem dX1_init_19 : decode cX1_init 19 = .ok (.iconst 0, 1) := by decide +kernel
theorem dX1_init_20 : decode cX1_init 20 = .ok (.putfield 21, 3) := by decide +kernel
theorem dX1_init_23 : decode cX1_init 23 = .ok (.iconst 0, 1) := by decide +kernel
theorem dX1_init_24 : decode cX1_init 24 = .ok (.istore_n 1, 1) := by decide +kernel
theorem dX1_init_25 : decode cX1_init 25 = .ok (.iload_n 1, 1) := by decide +kernel
theorem dX1_init_26 : decode cX1_init 26 = .ok (.bipush 10, 2) := by decide +kernel
theorem dX1_init_28 : decode cX1_init 28 = .ok (.if_icmp .ge 22, 3) := by decide +kernel
theorem dX1_init_31 : decode cX1_init 31 = .ok (.aload_n 0, 1) := by decide +kernel
theorem dX1_init_32 : decode cX1_init 32 = .ok (.getfield 11, 3) := by decide +kernel
theorem dX1_init_35 : decode cX1_init 35 = .ok (.iload_n 1, 1) := by decide +kernel
theorem dX1_init_36 : decode cX1_init 36 = .ok (.new 9, 3) := by decide +kernel
theorem dX1_init_39 : decode cX1_init 39 = .ok (.dup, 1) := by decide +kernel
theorem dX1_init_40 : decode cX1_init 40 = .ok (.invokespecial 24, 3) := by decide +kernel
theorem dX1_init_43 : decode cX1_init 43 = .ok (.aastore, 1) := by decide +kernel
theorem dX1_init_44 : decode cX1_init 44 = .ok (.iinc 1 1, 3) := by decide +kernel
theorem dX1_init_47 : decode cX1_init 47 = .ok (.goto (-22), 3) := by decide +kernel
theorem dX1_init_50 : decode cX1_init 50 = .ok (.return_, 1) := by decide +kernel
theorem dX1_remember_0 : decode cX1_remember 0 = .ok (.aload_n 0, 1) := by decide +kernel
theorem dX1_remember_1 : decode cX1_remember 1 = .ok (.getfield 11, 3) := by decide +kernel
theorem dX1_remember_4 : decode cX1_remember 4 = .ok (.aload_n 0, 1) := by decide +kernel
theorem dX1_remember_5 : decode cX1_remember 5 = .ok (.getfield 21, 3) := by decide +kernel
theorem dX1_remember_8 : decode cX1_remember 8 = .ok (.aaload, 1) := by decide +kernel
theorem dX1_remember_9 : decode cX1_remember 9 = .ok (.aload_n 1, 1) := by decide +kernel
theorem dX1_remember_10 : decode cX1_remember 10 = .ok (.invokevirtual 25, 3) := by decide +kernel
theorem dX1_remember_13 : decode cX1_remember 13 = .ok (.aload_n 0, 1) := by decide +kernel
theorem dX1_remember_14 : decode cX1_remember 14 = .ok (.aload_n 0, 1) := by decide +kernel
theorem dX1_remember_15 : decode cX1_remember 15 = .ok (.getfield 21, 3) := by decide +kernel
theorem dX1_remember_18 : decode cX1_remember 18 = .ok (.iconst 1, 1) := by decide +kernel
theorem dX1_remember_19 : decode cX1_remember 19 = .ok (.iadd, 1) := by decide +kernel
theorem dX1_remember_20 : decode cX1_remember 20 = .ok (.bipush 10, 2) := by decide +kernel
theorem dX1_remember_22 : decode cX1_remember 22 = .ok (.irem, 1) := by decide +kernel
theorem dX1_remember_23 : decode cX1_remember 23 = .ok (.putfield 21, 3) := by decide +kernel
theorem dX1_remember_26 : decode cX1_remember 26 = .ok (.aload_n 0, 1) := by decide +kernel
theorem dX1_remember_27 : decode cX1_remember 27 = .ok (.bipush 10, 2) := by decide +kernel
theorem dX1_remember_29 : decode cX1_remember 29 = .ok (.aload_n 0, 1) := by decide +kernel
theorem dX1_remember_30 : decode cX1_remember 30 = .ok (.getfield 17, 3) := by decide +kernel
theorem dX1_remember_33 : decode cX1_remember 33 = .ok (.iconst 1, 1) := by decide +kernel
theorem dX1_remember_34 : decode cX1_remember 34 = .ok (.iadd, 1) := by decide +kernel
theorem dX1_remember_35 : decode cX1_remember 35 = .ok (.invokestatic 29, 3) := by decide +kernel
theorem dX1_remember_38 : decode cX1_remember 38 = .ok (.putfield 17, 3) := by decide +kernel
theorem dX1_remember_41 : decode cX1_remember 41 = .ok (.return_, 1) := by decide +kernel
theorem dX1_recall_0 : decode cX1_recall 0 = .ok (.aload_n 0, 1) := by decide +kernel
theorem dX1_recall_1 : decode cX1_recall 1 = .ok (.aload_n 0, 1) := by decide +kernel
theorem dX1_recall_2 : decode cX1_recall 2 = .ok (.getfield 21, 3) := by decide +kernel
theorem dX1_recall_5 : decode cX1_recall 5 = .ok (.bipush 10, 2) := by decide +kernel
theorem dX1_recall_7 : decode cX1_recall 7 = .ok (.iadd, 1) := by decide +kernel
theorem dX1_recall_8 : decode cX1_recall 8 = .ok (.iconst 1, 1) := by decide +kernel
theorem dX1_recall_9 : decode cX1_recall 9 = .ok (.isub, 1) := by decide +kernel
theorem dX1_recall_10 : decode cX1_recall 10 = .ok (.bipush 10, 2) := by decide +kernel
theorem dX1_recall_12 : decode cX1_recall 12 = .ok (.irem, 1) := by decide +kernel
theorem dX1_recall_13 : decode cX1_recall 13 = .ok (.putfield 21, 3) := by decide +kernel
theorem dX1_recall_16 : decode cX1_recall 16 = .ok (.aload_n 1, 1) := by decide +kernel
theorem dX1_recall_17 : decode cX1_recall 17 = .ok (.aload_n 0, 1) := by decide +kernel
theorem dX1_recall_18 : decode cX1_recall 18 = .ok (.getfield 11, 3) := by decide +kernel
theorem dX1_recall_21 : decode cX1_recall 21 = .ok (.aload_n 0, 1) := by decide +kernel
theorem dX1_recall_22 : decode cX1_recall 22 = .ok (.getfield 21, 3) := by decide +kernel
theorem dX1_recall_25 : decode cX1_recall 25 = .ok (.aaload, 1) := by decide +kernel
theorem dX1_recall_26 : decode cX1_recall 26 = .ok (.invokevirtual 25, 3) := by decide +kernel
theorem dX1_recall_29 : decode cX1_recall 29 = .ok (.aload_n 0, 1) := by decide +kernel
theorem dX1_recall_30 : decode cX1_recall 30 = .ok (.dup, 1) := by decide +kernel
theorem dX1_recall_31 : decode cX1_recall 31 = .ok (.getfield 17, 3) := by decide +kernel
theorem dX1_recall_34 : decode cX1_recall 34 = .ok (.iconst 1, 1) := by decide +kernel
theorem dX1_recall_35 : decode cX1_recall 35 = .ok (.isub, 1) := by decide +kernel
theorem dX1_recall_36 : decode cX1_recall 36 = .ok (.putfield 17, 3) := by decide +kernel
theorem dX1_recall_39 : decode cX1_recall 39 = .ok (.return_, 1) := by decide +kernel
theorem dX2_init_0 : decode cX2_init 0 = .ok (.aload_n 0, 1) := by decide +kernel
theorem dX2_init_1 : decode cX2_init 1 = .ok (.invokespecial 3, 3) := by decide +kernel
theorem dX2_init_4 : decode cX2_init 4 = .ok (.aload_n 0, 1) := by decide +kernel
theorem dX2_init_5 : decode cX2_init 5 = .ok (.bipush 64, 2) := by decide +kernel
theorem dX2_init_7 : decode cX2_init 7 = .ok (.newarray .int, 2) := by decide +kernel
theorem dX2_init_9 : decode cX2_init 9 = .ok (.putfield 9, 3) := by decide +kernel
theorem dX2_init_12 : decode cX2_init 12 = .ok (.return_, 1) := by decide +kernel
theorem dX2_weigh_0 : decode cX2_weigh 0 = .ok (.aload_n 2, 1) := by decide +kernel
theorem dX2_weigh_1 : decode cX2_weigh 1 = .ok (.iconst 1, 1) := by decide +kernel
theorem dX2_weigh_2 : decode cX2_weigh 2 = .ok (.invokevirtual 15, 3) := by decide +kernel
theorem dX2_weigh_5 : decode cX2_weigh 5 = .ok (.istore_n 3, 1) := by decide +kernel
theorem dX2_weigh_6 : decode cX2_weigh 6 = .ok (.iload_n 3, 1) := by decide +kernel
theorem dX2_weigh_7 : decode cX2_weigh 7 = .ok (.istore 4, 2) := by decide +kernel
theorem dX2_weigh_9 : decode cX2_weigh 9 = .ok (.iload 4, 2) := by decide +kernel
theorem dX2_weigh_11 : decode cX2_weigh 11 = .ok (.ifCond .lt 34, 3) := by decide +kernel
theorem dX2_weigh_14 : decode cX2_weigh 14 = .ok (.iload 4, 2) := by decide +kernel
theorem dX2_weigh_16 : decode cX2_weigh 16 = .ok (.iload_n 3, 1) := by decide +kernel
theorem dX2_weigh_17 : decode cX2_weigh 17 = .ok (.iconst (-1), 1) := by decide +kernel
theorem dX2_weigh_18 : decode cX2_weigh 18 = .ok (.ixor, 1) := by decide +kernel
theorem dX2_weigh_19 : decode cX2_weigh 19 = .ok (.iand, 1) := by decide +kernel
theorem dX2_weigh_20 : decode cX2_weigh 20 = .ok (.ifCond .ne 19, 3) := by decide +kernel
theorem dX2_weigh_23 : decode cX2_weigh 23 = .ok (.aload_n 0, 1) := by decide +kernel
theorem dX2_weigh_24 : decode cX2_weigh 24 = .ok (.getfield 9, 3) := by decide +kernel
theorem dX2_weigh_27 : decode cX2_weigh 27 = .ok (.iload 4, 2) := by decide +kernel
theorem dX2_weigh_29 : decode cX2_weigh 29 = .ok (.aload_n 0, 1) := by decide +kernel
theorem dX2_weigh_30 : decode cX2_weigh 30 = .ok (.iload 4, 2) := by decide +kernel
theorem dX2_weigh_32 : decode cX2_weigh 32 = .ok (.iload_n 3, 1) := by decide +kernel
theorem dX2_weigh_33 : decode cX2_weigh 33 = .ok (.aload_n 1, 1) := by decide +kernel
theorem dX2_weigh_34 : decode cX2_weigh 34 = .ok (.aload_n 2, 1) := by decide +kernel
theorem dX2_weigh_35 : decode cX2_weigh 35 = .ok (.invokevirtual 21, 3) := by decide +kernel
theorem dX2_weigh_38 : decode cX2_weigh 38 = .ok (.iastore, 1) := by decide +kernel
theorem dX2_weigh_39 : decode cX2_weigh 39 = .ok (.iinc 4 (-1), 3) := by decide +kernel
theorem dX2_weigh_42 : decode cX2_weigh 42 = .ok (.goto (-33), 3) := by decide +kernel
theorem dX2_weigh_45 : decode cX2_weigh 45 = .ok (.return_, 1) := by decide +kernel
theorem dX2_mostBehind_0 : decode cX2_mostBehind 0 = .ok (.iconst 0, 1) := by decide +kernel
theorem dX2_mostBehind_1 : decode cX2_mostBehind 1 = .ok (.istore 5, 2) := by decide +kernel
theorem dX2_mostBehind_3 : decode cX2_mostBehind 3 = .ok (.iconst 0, 1) := by decide +kernel
theorem dX2_mostBehind_4 : decode cX2_mostBehind 4 = .ok (.istore 6, 2) := by decide +kernel
theorem dX2_mostBehind_6 : decode cX2_mostBehind 6 = .ok (.iload 6, 2) := by decide +kernel
theorem dX2_mostBehind_8 : decode cX2_mostBehind 8 = .ok (.bipush 6, 2) := by decide +kernel
theorem dX2_mostBehind_10 : decode cX2_mostBehind 10 = .ok (.if_icmp .ge 39, 3) := by decide +kernel
theorem dX2_mostBehind_13 : decode cX2_mostBehind 13 = .ok (.iload_n 2, 1) := by decide +kernel
theorem dX2_mostBehind_14 : decode cX2_mostBehind 14 = .ok (.iload_n 1, 1) := by decide +kernel
theorem dX2_mostBehind_15 : decode cX2_mostBehind 15 = .ok (.iconst (-1), 1) := by decide +kernel
theorem dX2_mostBehind_16 : decode cX2_mostBehind 16 = .ok (.ixor, 1) := by decide +kernel
theorem dX2_mostBehind_17 : decode cX2_mostBehind 17 = .ok (.iand, 1) := by decide +kernel
theorem dX2_mostBehind_18 : decode cX2_mostBehind 18 = .ok (.iload 6, 2) := by decide +kernel
theorem dX2_mostBehind_20 : decode cX2_mostBehind 20 = .ok (.invokestatic 25, 3) := by decide +kernel
theorem dX2_mostBehind_23 : decode cX2_mostBehind 23 = .ok (.ifCond .eq 20, 3) := by decide +kernel
theorem dX2_mostBehind_26 : decode cX2_mostBehind 26 = .ok (.iload 5, 2) := by decide +kernel
theorem dX2_mostBehind_28 : decode cX2_mostBehind 28 = .ok (.aload_n 0, 1) := by decide +kernel
theorem dX2_mostBehind_29 : decode cX2_mostBehind 29 = .ok (.iload 6, 2) := by decide +kernel
theorem dX2_mostBehind_31 : decode cX2_mostBehind 31 = .ok (.iload_n 1, 1) := by decide +kernel
theorem dX2_mostBehind_32 : decode cX2_mostBehind 32 = .ok (.aload_n 3, 1) := by decide +kernel
theorem dX2_mostBehind_33 : decode cX2_mostBehind 33 = .ok (.aload 4, 2) := by decide +kernel
theorem dX2_mostBehind_35 : decode cX2_mostBehind 35 = .ok (.invokevirtual 29, 3) := by decide +kernel
theorem dX2_mostBehind_38 : decode cX2_mostBehind 38 = .ok (.invokestatic 32, 3) := by decide +kernel
theorem dX2_mostBehind_41 : decode cX2_mostBehind 41 = .ok (.istore 5, 2) := by decide +kernel
theorem dX2_mostBehind_43 : decode cX2_mostBehind 43 = .ok (.iinc 6 1, 3) := by decide +kernel
theorem dX2_mostBehind_46 : decode cX2_mostBehind 46 = .ok (.goto (-40), 3) := by decide +kernel
theorem dX2_mostBehind_49 : decode cX2_mostBehind 49 = .ok (.iload 5, 2) := by decide +kernel
theorem dX2_mostBehind_51 : decode cX2_mostBehind 51 = .ok (.ireturn, 1) := by decide +kernel
theorem dX2_worth_0 : decode cX2_worth 0 = .ok (.aload_n 3, 1) := by decide +kernel
theorem dX2_worth_1 : decode cX2_worth 1 = .ok (.aload 4, 2) := by decide +kernel
theorem dX2_worth_3 : decode cX2_worth 3 = .ok (.getfield 38, 3) := by decide +kernel
theorem dX2_worth_6 : decode cX2_worth 6 = .ok (.iload_n 2, 1) := by decide +kernel
theorem dX2_worth_7 : decode cX2_worth 7 = .ok (.invokestatic 42, 3) := by decide +kernel
theorem dX2_worth_10 : decode cX2_worth 10 = .ok (.invokevirtual 47, 3) := by decide +kernel
theorem dX2_worth_13 : decode cX2_worth 13 = .ok (.istore 5, 2) := by decide +kernel
theorem dX2_worth_15 : decode cX2_worth 15 = .ok (.aload_n 3, 1) := by decide +kernel
theorem dX2_worth_16 : decode cX2_worth 16 = .ok (.iload 5, 2) := by decide +kernel
theorem dX2_worth_18 : decode cX2_worth 18 = .ok (.iload_n 1, 1) := by decide +kernel
theorem dX2_worth_19 : decode cX2_worth 19 = .ok (.invokevirtual 52, 3) := by decide +kernel
theorem dX2_worth_22 : decode cX2_worth 22 = .ok (.ifCond .eq 7, 3) := by decide +kernel
theorem dX2_worth_25 : decode cX2_worth 25 = .ok (.iconst 1, 1) := by decide +kernel
theorem dX2_worth_26 : decode cX2_worth 26 = .ok (.goto 4, 3) := by decide +kernel
theorem dX2_worth_29 : decode cX2_worth 29 = .ok (.iconst 0, 1) := by decide +kernel
theorem dX2_worth_30 : decode cX2_worth 30 = .ok (.istore 6, 2) := by decide +kernel
theorem dX2_worth_32 : decode cX2_worth 32 = .ok (.iload 6, 2) := by decide +kernel
theorem dX2_worth_34 : decode cX2_worth 34 = .ok (.aload_n 0, 1) := by decide +kernel
theorem dX2_worth_35 : decode cX2_worth 35 = .ok (.getfield 9, 3) := by decide +kernel
theorem dX2_worth_38 : decode cX2_worth 38 = .ok (.iload_n 2, 1) := by decide +kernel
theorem dX2_worth_39 : decode cX2_worth 39 = .ok (.iconst 1, 1) := by decide +kernel
theorem dX2_worth_40 : decode cX2_worth 40 = .ok (.iload_n 1, 1) := by decide +kernel
theorem dX2_worth_41 : decode cX2_worth 41 = .ok (.ishl, 1) := by decide +kernel
theorem dX2_worth_42 : decode cX2_worth 42 = .ok (.ior, 1) := by decide +kernel
theorem dX2_worth_43 : decode cX2_worth 43 = .ok (.iaload, 1) := by decide +kernel
theorem dX2_worth_44 : decode cX2_worth 44 = .ok (.iadd, 1) := by decide +kernel
theorem dX2_worth_45 : decode cX2_worth 45 = .ok (.ireturn, 1) := by decide +kernel
theorem dX2_goerAt_0 : decode cX2_goerAt 0 = .ok (.aload_n 3, 1) := by decide +kernel
theorem dX2_goerAt_1 : decode cX2_goerAt 1 = .ok (.iconst 1, 1) := by decide +kernel
theorem dX2_goerAt_2 : decode cX2_goerAt 2 = .ok (.invokevirtual 15, 3) := by decide +kernel
theorem dX2_goerAt_5 : decode cX2_goerAt 5 = .ok (.istore 4, 2) := by decide +kernel
theorem dX2_goerAt_7 : decode cX2_goerAt 7 = .ok (.iconst 0, 1) := by decide +kernel
theorem dX2_goerAt_8 : decode cX2_goerAt 8 = .ok (.istore 5, 2) := by decide +kernel
theorem dX2_goerAt_10 : decode cX2_goerAt 10 = .ok (.bipush (-9), 2) := by decide +kernel
theorem dX2_goerAt_12 : decode cX2_goerAt 12 = .ok (.istore 6, 2) := by decide +kernel
theorem dX2_goerAt_14 : decode cX2_goerAt 14 = .ok (.iconst 0, 1) := by decide +kernel
theorem dX2_goerAt_15 : decode cX2_goerAt 15 = .ok (.istore 7, 2) := by decide +kernel
theorem dX2_goerAt_17 : decode cX2_goerAt 17 = .ok (.iload 7, 2) := by decide +kernel
theorem dX2_goerAt_19 : decode cX2_goerAt 19 = .ok (.iload_n 1, 1) := by decide +kernel
theorem dX2_goerAt_20 : decode cX2_goerAt 20 = .ok (.if_icmp .gt 40, 3) := by decide +kernel
theorem dX2_goerAt_23 : decode cX2_goerAt 23 = .ok (.aload_n 0, 1) := by decide +kernel
theorem dX2_goerAt_24 : decode cX2_goerAt 24 = .ok (.iload 5, 2) := by decide +kernel
theorem dX2_goerAt_26 : decode cX2_goerAt 26 = .ok (.iload 4, 2) := by decide +kernel
theorem dX2_goerAt_28 : decode cX2_goerAt 28 = .ok (.aload_n 2, 1) := by decide +kernel
theorem dX2_goerAt_29 : decode cX2_goerAt 29 = .ok (.aload_n 3, 1) := by decide +kernel
theorem dX2_goerAt_30 : decode cX2_goerAt 30 = .ok (.invokevirtual 55, 3) := by decide +kernel
theorem dX2_goerAt_33 : decode cX2_goerAt 33 = .ok (.istore 6, 2) := by decide +kernel
theorem dX2_goerAt_35 : decode cX2_goerAt 35 = .ok (.iload 6, 2) := by decide +kernel
theorem dX2_goerAt_37 : decode cX2_goerAt 37 = .ok (.bipush (-9), 2) := by decide +kernel
theorem dX2_goerAt_39 : decode cX2_goerAt 39 = .ok (.if_icmp .ne 6, 3) := by decide +kernel
theorem dX2_goerAt_42 : decode cX2_goerAt 42 = .ok (.bipush (-9), 2) := by decide +kernel
theorem dX2_goerAt_44 : decode cX2_goerAt 44 = .ok (.ireturn, 1) := by decide +kernel
theorem dX2_goerAt_45 : decode cX2_goerAt 45 = .ok (.iload 5, 2) := by decide +kernel
theorem dX2_goerAt_47 : decode cX2_goerAt 47 = .ok (.iconst 1, 1) := by decide +kernel
theorem dX2_goerAt_48 : decode cX2_goerAt 48 = .ok (.iload 6, 2) := by decide +kernel
theorem dX2_goerAt_50 : decode cX2_goerAt 50 = .ok (.ishl, 1) := by decide +kernel
theorem dX2_goerAt_51 : decode cX2_goerAt 51 = .ok (.ior, 1) := by decide +kernel
theorem dX2_goerAt_52 : decode cX2_goerAt 52 = .ok (.istore 5, 2) := by decide +kernel
theorem dX2_goerAt_54 : decode cX2_goerAt 54 = .ok (.iinc 7 1, 3) := by decide +kernel
theorem dX2_goerAt_57 : decode cX2_goerAt 57 = .ok (.goto (-40), 3) := by decide +kernel
theorem dX2_goerAt_60 : decode cX2_goerAt 60 = .ok (.iload 6, 2) := by decide +kernel
theorem dX2_goerAt_62 : decode cX2_goerAt 62 = .ok (.ireturn, 1) := by decide +kernel
theorem dX2_lowestOfBest_0 : decode cX2_lowestOfBest 0 = .ok (.iconst 0, 1) := by decide +kernel
theorem dX2_lowestOfBest_1 : decode cX2_lowestOfBest 1 = .ok (.istore 5, 2) := by decide +kernel
theorem dX2_lowestOfBest_3 : decode cX2_lowestOfBest 3 = .ok (.iload 5, 2) := by decide +kernel
theorem dX2_lowestOfBest_5 : decode cX2_lowestOfBest 5 = .ok (.bipush 6, 2) := by decide +kernel
theorem dX2_lowestOfBest_7 : decode cX2_lowestOfBest 7 = .ok (.if_icmp .ge 44, 3) := by decide +kernel
theorem dX2_lowestOfBest_10 : decode cX2_lowestOfBest 10 = .ok (.iload_n 2, 1) := by decide +kernel
theorem dX2_lowestOfBest_11 : decode cX2_lowestOfBest 11 = .ok (.iload_n 1, 1) := by decide +kernel
theorem dX2_lowestOfBest_12 : decode cX2_lowestOfBest 12 = .ok (.iconst (-1), 1) := by decide +kernel
theorem dX2_lowestOfBest_13 : decode cX2_lowestOfBest 13 = .ok (.ixor, 1) := by decide +kernel
theorem dX2_lowestOfBest_14 : decode cX2_lowestOfBest 14 = .ok (.iand, 1) := by decide +kernel
theorem dX2_lowestOfBest_15 : decode cX2_lowestOfBest 15 = .ok (.iload 5, 2) := by decide +kernel
theorem dX2_lowestOfBest_17 : decode cX2_lowestOfBest 17 = .ok (.invokestatic 25, 3) := by decide +kernel
theorem dX2_lowestOfBest_20 : decode cX2_lowestOfBest 20 = .ok (.ifCond .eq 25, 3) := by decide +kernel
theorem dX2_lowestOfBest_23 : decode cX2_lowestOfBest 23 = .ok (.aload_n 0, 1) := by decide +kernel
theorem dX2_lowestOfBest_24 : decode cX2_lowestOfBest 24 = .ok (.iload 5, 2) := by decide +kernel
theorem dX2_lowestOfBest_26 : decode cX2_lowestOfBest 26 = .ok (.iload_n 1, 1) := by decide +kernel
theorem dX2_lowestOfBest_27 : decode cX2_lowestOfBest 27 = .ok (.aload_n 3, 1) := by decide +kernel
theorem dX2_lowestOfBest_28 : decode cX2_lowestOfBest 28 = .ok (.aload 4, 2) := by decide +kernel
theorem dX2_lowestOfBest_30 : decode cX2_lowestOfBest 30 = .ok (.invokevirtual 29, 3) := by decide +kernel
theorem dX2_lowestOfBest_33 : decode cX2_lowestOfBest 33 = .ok (.aload_n 0, 1) := by decide +kernel
theorem dX2_lowestOfBest_34 : decode cX2_lowestOfBest 34 = .ok (.getfield 9, 3) := by decide +kernel
theorem dX2_lowestOfBest_37 : decode cX2_lowestOfBest 37 = .ok (.iload_n 1, 1) := by decide +kernel
theorem dX2_lowestOfBest_38 : decode cX2_lowestOfBest 38 = .ok (.iaload, 1) := by decide +kernel
theorem dX2_lowestOfBest_39 : decode cX2_lowestOfBest 39 = .ok (.if_icmp .ne 6, 3) := by decide +kernel
theorem dX2_lowestOfBest_42 : decode cX2_lowestOfBest 42 = .ok (.iload 5, 2) := by decide +kernel
theorem dX2_lowestOfBest_44 : decode cX2_lowestOfBest 44 = .ok (.ireturn, 1) := by decide +kernel
theorem dX2_lowestOfBest_45 : decode cX2_lowestOfBest 45 = .ok (.iinc 5 1, 3) := by decide +kernel
theorem dX2_lowestOfBest_48 : decode cX2_lowestOfBest 48 = .ok (.goto (-45), 3) := by decide +kernel
theorem dX2_lowestOfBest_51 : decode cX2_lowestOfBest 51 = .ok (.bipush (-9), 2) := by decide +kernel
theorem dX2_lowestOfBest_53 : decode cX2_lowestOfBest 53 = .ok (.ireturn, 1) := by decide +kernel
theorem dX3_init_0 : decode cX3_init 0 = .ok (.aload_n 0, 1) := by decide +kernel
theorem dX3_init_1 : decode cX3_init 1 = .ok (.invokespecial 3, 3) := by decide +kernel
theorem dX3_init_4 : decode cX3_init 4 = .ok (.aload_n 0, 1) := by decide +kernel
theorem dX3_init_5 : decode cX3_init 5 = .ok (.iconst 0, 1) := by decide +kernel
theorem dX3_init_6 : decode cX3_init 6 = .ok (.putfield 9, 3) := by decide +kernel
theorem dX3_init_9 : decode cX3_init 9 = .ok (.aload_n 0, 1) := by decide +kernel
theorem dX3_init_10 : decode cX3_init 10 = .ok (.iconst 0, 1) := by decide +kernel
theorem dX3_init_11 : decode cX3_init 11 = .ok (.putfield 15, 3) := by decide +kernel
theorem dX3_init_14 : decode cX3_init 14 = .ok (.aload_n 0, 1) := by decide +kernel
theorem dX3_init_15 : decode cX3_init 15 = .ok (.iconst 0, 1) := by decide +kernel
theorem dX3_init_16 : decode cX3_init 16 = .ok (.putfield 18, 3) := by decide +kernel
theorem dX3_init_19 : decode cX3_init 19 = .ok (.aload_n 0, 1) := by decide +kernel
theorem dX3_init_20 : decode cX3_init 20 = .ok (.bipush 6, 2) := by decide +kernel
theorem dX3_init_22 : decode cX3_init 22 = .ok (.newarray .int, 2) := by decide +kernel
theorem dX3_init_24 : decode cX3_init 24 = .ok (.putfield 21, 3) := by decide +kernel
theorem dX3_init_27 : decode cX3_init 27 = .ok (.aload_n 0, 1) := by decide +kernel
theorem dX3_init_28 : decode cX3_init 28 = .ok (.bipush 6, 2) := by decide +kernel
theorem dX3_init_30 : decode cX3_init 30 = .ok (.newarray .int, 2) := by decide +kernel
theorem dX3_init_32 : decode cX3_init 32 = .ok (.putfield 25, 3) := by decide +kernel
theorem dX3_init_35 : decode cX3_init 35 = .ok (.aload_n 0, 1) := by decide +kernel
theorem dX3_init_36 : decode cX3_init 36 = .ok (.bipush 6, 2) := by decide +kernel
theorem dX3_init_38 : decode cX3_init 38 = .ok (.newarray .int, 2) := by decide +kernel
theorem dX3_init_40 : decode cX3_init 40 = .ok (.putfield 28, 3) := by decide +kernel
theorem dX3_init_43 : decode cX3_init 43 = .ok (.return_, 1) := by decide +kernel
theorem dX3_startAnew_0 : decode cX3_startAnew 0 = .ok (.aload_n 0, 1) := by decide +kernel
theorem dX3_startAnew_1 : decode cX3_startAnew 1 = .ok (.iconst 0, 1) := by decide +kernel
theorem dX3_startAnew_2 : decode cX3_startAnew 2 = .ok (.putfield 9, 3) := by decide +kernel
theorem dX3_startAnew_5 : decode cX3_startAnew 5 = .ok (.aload_n 0, 1) := by decide +kernel
theorem dX3_startAnew_6 : decode cX3_startAnew 6 = .ok (.iconst 0, 1) := by decide +kernel
theorem dX3_startAnew_7 : decode cX3_startAnew 7 = .ok (.putfield 15, 3) := by decide +kernel
theorem dX3_startAnew_10 : decode cX3_startAnew 10 = .ok (.aload_n 0, 1) := by decide +kernel
theorem dX3_startAnew_11 : decode cX3_startAnew 11 = .ok (.iconst 0, 1) := by decide +kernel
theorem dX3_startAnew_12 : decode cX3_startAnew 12 = .ok (.putfield 18, 3) := by decide +kernel
theorem dX3_startAnew_15 : decode cX3_startAnew 15 = .ok (.aload_n 0, 1) := by decide +kernel
theorem dX3_startAnew_16 : decode cX3_startAnew 16 = .ok (.getfield 21, 3) := by decide +kernel
theorem dX3_startAnew_19 : decode cX3_startAnew 19 = .ok (.iconst 0, 1) := by decide +kernel
theorem dX3_startAnew_20 : decode cX3_startAnew 20 = .ok (.invokestatic 31, 3) := by decide +kernel
theorem dX3_startAnew_23 : decode cX3_startAnew 23 = .ok (.aload_n 0, 1) := by decide +kernel
theorem dX3_startAnew_24 : decode cX3_startAnew 24 = .ok (.getfield 25, 3) := by decide +kernel
theorem dX3_startAnew_27 : decode cX3_startAnew 27 = .ok (.iconst 0, 1) := by decide +kernel
theorem dX3_startAnew_28 : decode cX3_startAnew 28 = .ok (.invokestatic 31, 3) := by decide +kernel
theorem dX3_startAnew_31 : decode cX3_startAnew 31 = .ok (.aload_n 0, 1) := by decide +kernel
theorem dX3_startAnew_32 : decode cX3_startAnew 32 = .ok (.getfield 28, 3) := by decide +kernel
theorem dX3_startAnew_35 : decode cX3_startAnew 35 = .ok (.iconst 0, 1) := by decide +kernel
theorem dX3_startAnew_36 : decode cX3_startAnew 36 = .ok (.invokestatic 31, 3) := by decide +kernel
theorem dX3_startAnew_39 : decode cX3_startAnew 39 = .ok (.return_, 1) := by decide +kernel
theorem dX3_become_0 : decode cX3_become 0 = .ok (.aload_n 0, 1) := by decide +kernel
theorem dX3_become_1 : decode cX3_become 1 = .ok (.aload_n 1, 1) := by decide +kernel
theorem dX3_become_2 : decode cX3_become 2 = .ok (.getfield 9, 3) := by decide +kernel
theorem dX3_become_5 : decode cX3_become 5 = .ok (.putfield 9, 3) := by decide +kernel
theorem dX3_become_8 : decode cX3_become 8 = .ok (.aload_n 0, 1) := by decide +kernel
theorem dX3_become_9 : decode cX3_become 9 = .ok (.aload_n 1, 1) := by decide +kernel
theorem dX3_become_10 : decode cX3_become 10 = .ok (.getfield 15, 3) := by decide +kernel
theorem dX3_become_13 : decode cX3_become 13 = .ok (.putfield 15, 3) := by decide +kernel
theorem dX3_become_16 : decode cX3_become 16 = .ok (.aload_n 0, 1) := by decide +kernel
theorem dX3_become_17 : decode cX3_become 17 = .ok (.aload_n 1, 1) := by decide +kernel
theorem dX3_become_18 : decode cX3_become 18 = .ok (.getfield 18, 3) := by decide +kernel
theorem dX3_become_21 : decode cX3_become 21 = .ok (.putfield 18, 3) := by decide +kernel
theorem dX3_become_24 : decode cX3_become 24 = .ok (.aload_n 1, 1) := by decide +kernel
theorem dX3_become_25 : decode cX3_become 25 = .ok (.getfield 21, 3) := by decide +kernel
theorem dX3_become_28 : decode cX3_become 28 = .ok (.iconst 0, 1) := by decide +kernel
theorem dX3_become_29 : decode cX3_become 29 = .ok (.aload_n 0, 1) := by decide +kernel
theorem dX3_become_30 : decode cX3_become 30 = .ok (.getfield 21, 3) := by decide +kernel
theorem dX3_become_33 : decode cX3_become 33 = .ok (.iconst 0, 1) := by decide +kernel
theorem dX3_become_34 : decode cX3_become 34 = .ok (.bipush 6, 2) := by decide +kernel
theorem dX3_become_36 : decode cX3_become 36 = .ok (.invokestatic 37, 3) := by decide +kernel
theorem dX3_become_39 : decode cX3_become 39 = .ok (.aload_n 1, 1) := by decide +kernel
theorem dX3_become_40 : decode cX3_become 40 = .ok (.getfield 25, 3) := by decide +kernel
theorem dX3_become_43 : decode cX3_become 43 = .ok (.iconst 0, 1) := by decide +kernel
theorem dX3_become_44 : decode cX3_become 44 = .ok (.aload_n 0, 1) := by decide +kernel
theorem dX3_become_45 : decode cX3_become 45 = .ok (.getfield 25, 3) := by decide +kernel
theorem dX3_become_48 : decode cX3_become 48 = .ok (.iconst 0, 1) := by decide +kernel
theorem dX3_become_49 : decode cX3_become 49 = .ok (.bipush 6, 2) := by decide +kernel
theorem dX3_become_51 : decode cX3_become 51 = .ok (.invokestatic 37, 3) := by decide +kernel
theorem dX3_become_54 : decode cX3_become 54 = .ok (.aload_n 1, 1) := by decide +kernel
theorem dX3_become_55 : decode cX3_become 55 = .ok (.getfield 28, 3) := by decide +kernel
theorem dX3_become_58 : decode cX3_become 58 = .ok (.iconst 0, 1) := by decide +kernel
theorem dX3_become_59 : decode cX3_become 59 = .ok (.aload_n 0, 1) := by decide +kernel
theorem dX3_become_60 : decode cX3_become 60 = .ok (.getfield 28, 3) := by decide +kernel
theorem dX3_become_63 : decode cX3_become 63 = .ok (.iconst 0, 1) := by decide +kernel
theorem dX3_become_64 : decode cX3_become 64 = .ok (.bipush 6, 2) := by decide +kernel
theorem dX3_become_66 : decode cX3_become 66 = .ok (.invokestatic 37, 3) := by decide +kernel
theorem dX3_become_69 : decode cX3_become 69 = .ok (.return_, 1) := by decide +kernel
theorem dX3_whoAre_0 : decode cX3_whoAre 0 = .ok (.iconst 0, 1) := by decide +kernel
theorem dX3_whoAre_1 : decode cX3_whoAre 1 = .ok (.istore_n 2, 1) := by decide +kernel
theorem dX3_whoAre_2 : decode cX3_whoAre 2 = .ok (.iconst 0, 1) := by decide +kernel
theorem dX3_whoAre_3 : decode cX3_whoAre 3 = .ok (.istore_n 3, 1) := by decide +kernel
theorem dX3_whoAre_4 : decode cX3_whoAre 4 = .ok (.iload_n 3, 1) := by decide +kernel
theorem dX3_whoAre_5 : decode cX3_whoAre 5 = .ok (.bipush 6, 2) := by decide +kernel
theorem dX3_whoAre_7 : decode cX3_whoAre 7 = .ok (.if_icmp .ge 25, 3) := by decide +kernel
theorem dX3_whoAre_10 : decode cX3_whoAre 10 = .ok (.aload_n 0, 1) := by decide +kernel
theorem dX3_whoAre_11 : decode cX3_whoAre 11 = .ok (.getfield 21, 3) := by decide +kernel
theorem dX3_whoAre_14 : decode cX3_whoAre 14 = .ok (.iload_n 3, 1) := by decide +kernel
theorem dX3_whoAre_15 : decode cX3_whoAre 15 = .ok (.iaload, 1) := by decide +kernel
theorem dX3_whoAre_16 : decode cX3_whoAre 16 = .ok (.iload_n 1, 1) := by decide +kernel
theorem dX3_whoAre_17 : decode cX3_whoAre 17 = .ok (.if_icmp .ne 9, 3) := by decide +kernel
theorem dX3_whoAre_20 : decode cX3_whoAre 20 = .ok (.iload_n 2, 1) := by decide +kernel
theorem dX3_whoAre_21 : decode cX3_whoAre 21 = .ok (.iconst 1, 1) := by decide +kernel
theorem dX3_whoAre_22 : decode cX3_whoAre 22 = .ok (.iload_n 3, 1) := by decide +kernel
theorem dX3_whoAre_23 : decode cX3_whoAre 23 = .ok (.ishl, 1) := by decide +kernel
theorem dX3_whoAre_24 : decode cX3_whoAre 24 = .ok (.ior, 1) := by decide +kernel
theorem dX3_whoAre_25 : decode cX3_whoAre 25 = .ok (.istore_n 2, 1) := by decide +kernel
theorem dX3_whoAre_26 : decode cX3_whoAre 26 = .ok (.iinc 3 1, 3) := by decide +kernel
theorem dX3_whoAre_29 : decode cX3_whoAre 29 = .ok (.goto (-25), 3) := by decide +kernel
theorem dX3_whoAre_32 : decode cX3_whoAre 32 = .ok (.iload_n 2, 1) := by decide +kernel
theorem dX3_whoAre_33 : decode cX3_whoAre 33 = .ok (.ireturn, 1) := by decide +kernel
theorem dX3_sendRound_0 : decode cX3_sendRound 0 = .ok (.aload_n 0, 1) := by decide +kernel
theorem dX3_sendRound_1 : decode cX3_sendRound 1 = .ok (.getfield 21, 3) := by decide +kernel
theorem dX3_sendRound_4 : decode cX3_sendRound 4 = .ok (.iload_n 1, 1) := by decide +kernel
theorem dX3_sendRound_5 : decode cX3_sendRound 5 = .ok (.iconst 2, 1) := by decide +kernel
theorem dX3_sendRound_6 : decode cX3_sendRound 6 = .ok (.iastore, 1) := by decide +kernel
theorem dX3_sendRound_7 : decode cX3_sendRound 7 = .ok (.aload_n 0, 1) := by decide +kernel
theorem dX3_sendRound_8 : decode cX3_sendRound 8 = .ok (.getfield 25, 3) := by decide +kernel
theorem dX3_sendRound_11 : decode cX3_sendRound 11 = .ok (.iload_n 1, 1) := by decide +kernel
theorem dX3_sendRound_12 : decode cX3_sendRound 12 = .ok (.aload_n 0, 1) := by decide +kernel
theorem dX3_sendRound_13 : decode cX3_sendRound 13 = .ok (.getfield 9, 3) := by decide +kernel
theorem dX3_sendRound_16 : decode cX3_sendRound 16 = .ok (.iload_n 2, 1) := by decide +kernel
theorem dX3_sendRound_17 : decode cX3_sendRound 17 = .ok (.iadd, 1) := by decide +kernel
theorem dX3_sendRound_18 : decode cX3_sendRound 18 = .ok (.iastore, 1) := by decide +kernel
theorem dX3_sendRound_19 : decode cX3_sendRound 19 = .ok (.aload_n 0, 1) := by decide +kernel
theorem dX3_sendRound_20 : decode cX3_sendRound 20 = .ok (.getfield 28, 3) := by decide +kernel
theorem dX3_sendRound_23 : decode cX3_sendRound 23 = .ok (.iload_n 1, 1) := by decide +kernel
theorem dX3_sendRound_24 : decode cX3_sendRound 24 = .ok (.dup2, 1) := by decide +kernel
theorem dX3_sendRound_25 : decode cX3_sendRound 25 = .ok (.iaload, 1) := by decide +kernel
theorem dX3_sendRound_26 : decode cX3_sendRound 26 = .ok (.iconst 1, 1) := by decide +kernel
theorem dX3_sendRound_27 : decode cX3_sendRound 27 = .ok (.iadd, 1) := by decide +kernel
theorem dX3_sendRound_28 : decode cX3_sendRound 28 = .ok (.iastore, 1) := by decide +kernel
theorem dX3_sendRound_29 : decode cX3_sendRound 29 = .ok (.return_, 1) := by decide +kernel
theorem dX3_pass_0 : decode cX3_pass 0 = .ok (.aload_n 0, 1) := by decide +kernel
theorem dX3_pass_1 : decode cX3_pass 1 = .ok (.dup, 1) := by decide +kernel
theorem dX3_pass_2 : decode cX3_pass 2 = .ok (.getfield 9, 3) := by decide +kernel
theorem dX3_pass_5 : decode cX3_pass 5 = .ok (.iload_n 1, 1) := by decide +kernel
theorem dX3_pass_6 : decode cX3_pass 6 = .ok (.iadd, 1) := by decide +kernel
theorem dX3_pass_7 : decode cX3_pass 7 = .ok (.putfield 9, 3) := by decide +kernel
theorem dX3_pass_10 : decode cX3_pass 10 = .ok (.iconst 0, 1) := by decide +kernel
theorem dX3_pass_11 : decode cX3_pass 11 = .ok (.istore_n 2, 1) := by decide +kernel
theorem dX3_pass_12 : decode cX3_pass 12 = .ok (.iload_n 2, 1) := by decide +kernel
theorem dX3_pass_13 : decode cX3_pass 13 = .ok (.bipush 6, 2) := by decide +kernel
theorem dX3_pass_15 : decode cX3_pass 15 = .ok (.if_icmp .ge 39, 3) := by decide +kernel
theorem dX3_pass_18 : decode cX3_pass 18 = .ok (.aload_n 0, 1) := by decide +kernel
theorem dX3_pass_19 : decode cX3_pass 19 = .ok (.getfield 21, 3) := by decide +kernel
theorem dX3_pass_22 : decode cX3_pass 22 = .ok (.iload_n 2, 1) := by decide +kernel
theorem dX3_pass_23 : decode cX3_pass 23 = .ok (.iaload, 1) := by decide +kernel
theorem dX3_pass_24 : decode cX3_pass 24 = .ok (.iconst 2, 1) := by decide +kernel
theorem dX3_pass_25 : decode cX3_pass 25 = .ok (.if_icmp .ne 23, 3) := by decide +kernel
theorem dX3_pass_28 : decode cX3_pass 28 = .ok (.aload_n 0, 1) := by decide +kernel
theorem dX3_pass_29 : decode cX3_pass 29 = .ok (.getfield 25, 3) := by decide +kernel
theorem dX3_pass_32 : decode cX3_pass 32 = .ok (.iload_n 2, 1) := by decide +kernel
theorem dX3_pass_33 : decode cX3_pass 33 = .ok (.iaload, 1) := by decide +kernel
theorem dX3_pass_34 : decode cX3_pass 34 = .ok (.aload_n 0, 1) := by decide +kernel
theorem dX3_pass_35 : decode cX3_pass 35 = .ok (.getfield 9, 3) := by decide +kernel
theorem dX3_pass_38 : decode cX3_pass 38 = .ok (.if_icmp .gt 10, 3) := by decide +kernel
theorem dX3_pass_41 : decode cX3_pass 41 = .ok (.aload_n 0, 1) := by decide +kernel
theorem dX3_pass_42 : decode cX3_pass 42 = .ok (.getfield 21, 3) := by decide +kernel
theorem dX3_pass_45 : decode cX3_pass 45 = .ok (.iload_n 2, 1) := by decide +kernel
theorem dX3_pass_46 : decode cX3_pass 46 = .ok (.iconst 1, 1) := by decide +kernel
theorem dX3_pass_47 : decode cX3_pass 47 = .ok (.iastore, 1) := by decide +kernel
theorem dX3_pass_48 : decode cX3_pass 48 = .ok (.iinc 2 1, 3) := by decide +kernel
theorem dX3_pass_51 : decode cX3_pass 51 = .ok (.goto (-39), 3) := by decide +kernel
theorem dX3_pass_54 : decode cX3_pass 54 = .ok (.return_, 1) := by decide +kernel
theorem dX4_init_0 : decode cX4_init 0 = .ok (.aload_n 0, 1) := by decide +kernel
theorem dX4_init_1 : decode cX4_init 1 = .ok (.invokespecial 3, 3) := by decide +kernel
theorem dX4_init_4 : decode cX4_init 4 = .ok (.aload_n 0, 1) := by decide +kernel
theorem dX4_init_5 : decode cX4_init 5 = .ok (.bipush 6, 2) := by decide +kernel
theorem dX4_init_7 : decode cX4_init 7 = .ok (.newarray .int, 2) := by decide +kernel
theorem dX4_init_9 : decode cX4_init 9 = .ok (.putfield 9, 3) := by decide +kernel
theorem dX4_init_12 : decode cX4_init 12 = .ok (.aload_n 0, 1) := by decide +kernel
theorem dX4_init_13 : decode cX4_init 13 = .ok (.bipush 6, 2) := by decide +kernel
theorem dX4_init_15 : decode cX4_init 15 = .ok (.newarray .int, 2) := by decide +kernel
theorem dX4_init_17 : decode cX4_init 17 = .ok (.putfield 15, 3) := by decide +kernel
theorem dX4_init_20 : decode cX4_init 20 = .ok (.aload_n 0, 1) := by decide +kernel
theorem dX4_init_21 : decode cX4_init 21 = .ok (.bipush 6, 2) := by decide +kernel
theorem dX4_init_23 : decode cX4_init 23 = .ok (.newarray .int, 2) := by decide +kernel
theorem dX4_init_25 : decode cX4_init 25 = .ok (.putfield 18, 3) := by decide +kernel
theorem dX4_init_28 : decode cX4_init 28 = .ok (.aload_n 0, 1) := by decide +kernel
theorem dX4_init_29 : decode cX4_init 29 = .ok (.iconst 0, 1) := by decide +kernel
theorem dX4_init_30 : decode cX4_init 30 = .ok (.putfield 21, 3) := by decide +kernel
theorem dX4_init_33 : decode cX4_init 33 = .ok (.return_, 1) := by decide +kernel
theorem dX4_add_0 : decode cX4_add 0 = .ok (.aload_n 0, 1) := by decide +kernel
theorem dX4_add_1 : decode cX4_add 1 = .ok (.getfield 9, 3) := by decide +kernel
theorem dX4_add_4 : decode cX4_add 4 = .ok (.aload_n 0, 1) := by decide +kernel
theorem dX4_add_5 : decode cX4_add 5 = .ok (.getfield 21, 3) := by decide +kernel
theorem dX4_add_8 : decode cX4_add 8 = .ok (.iload_n 1, 1) := by decide +kernel
theorem dX4_add_9 : decode cX4_add 9 = .ok (.iastore, 1) := by decide +kernel
theorem dX4_add_10 : decode cX4_add 10 = .ok (.aload_n 0, 1) := by decide +kernel
theorem dX4_add_11 : decode cX4_add 11 = .ok (.getfield 15, 3) := by decide +kernel
theorem dX4_add_14 : decode cX4_add 14 = .ok (.aload_n 0, 1) := by decide +kernel
theorem dX4_add_15 : decode cX4_add 15 = .ok (.getfield 21, 3) := by decide +kernel
theorem dX4_add_18 : decode cX4_add 18 = .ok (.iload_n 2, 1) := by decide +kernel
theorem dX4_add_19 : decode cX4_add 19 = .ok (.iastore, 1) := by decide +kernel
theorem dX4_add_20 : decode cX4_add 20 = .ok (.aload_n 0, 1) := by decide +kernel
theorem dX4_add_21 : decode cX4_add 21 = .ok (.getfield 18, 3) := by decide +kernel
theorem dX4_add_24 : decode cX4_add 24 = .ok (.aload_n 0, 1) := by decide +kernel
theorem dX4_add_25 : decode cX4_add 25 = .ok (.getfield 21, 3) := by decide +kernel
theorem dX4_add_28 : decode cX4_add 28 = .ok (.iload_n 3, 1) := by decide +kernel
theorem dX4_add_29 : decode cX4_add 29 = .ok (.iastore, 1) := by decide +kernel
theorem dX4_add_30 : decode cX4_add 30 = .ok (.aload_n 0, 1) := by decide +kernel
theorem dX4_add_31 : decode cX4_add 31 = .ok (.dup, 1) := by decide +kernel
theorem dX4_add_32 : decode cX4_add 32 = .ok (.getfield 21, 3) := by decide +kernel
theorem dX4_add_35 : decode cX4_add 35 = .ok (.iconst 1, 1) := by decide +kernel
theorem dX4_add_36 : decode cX4_add 36 = .ok (.iadd, 1) := by decide +kernel
theorem dX4_add_37 : decode cX4_add 37 = .ok (.putfield 21, 3) := by decide +kernel
theorem dX4_add_40 : decode cX4_add 40 = .ok (.return_, 1) := by decide +kernel
theorem dX4_allows_0 : decode cX4_allows 0 = .ok (.iconst 0, 1) := by decide +kernel
theorem dX4_allows_1 : decode cX4_allows 1 = .ok (.istore_n 3, 1) := by decide +kernel
theorem dX4_allows_2 : decode cX4_allows 2 = .ok (.iload_n 3, 1) := by decide +kernel
theorem dX4_allows_3 : decode cX4_allows 3 = .ok (.aload_n 0, 1) := by decide +kernel
theorem dX4_allows_4 : decode cX4_allows 4 = .ok (.getfield 21, 3) := by decide +kernel
theorem dX4_allows_7 : decode cX4_allows 7 = .ok (.if_icmp .ge 70, 3) := by decide +kernel
theorem dX4_allows_10 : decode cX4_allows 10 = .ok (.iload_n 1, 1) := by decide +kernel
theorem dX4_allows_11 : decode cX4_allows 11 = .ok (.aload_n 0, 1) := by decide +kernel
theorem dX4_allows_12 : decode cX4_allows 12 = .ok (.getfield 9, 3) := by decide +kernel
theorem dX4_allows_15 : decode cX4_allows 15 = .ok (.iload_n 3, 1) := by decide +kernel
theorem dX4_allows_16 : decode cX4_allows 16 = .ok (.iaload, 1) := by decide +kernel
theorem dX4_allows_17 : decode cX4_allows 17 = .ok (.invokestatic 25, 3) := by decide +kernel
theorem dX4_allows_20 : decode cX4_allows 20 = .ok (.ifCond .eq 26, 3) := by decide +kernel
theorem dX4_allows_23 : decode cX4_allows 23 = .ok (.aload_n 2, 1) := by decide +kernel
theorem dX4_allows_24 : decode cX4_allows 24 = .ok (.aload_n 0, 1) := by decide +kernel
theorem dX4_allows_25 : decode cX4_allows 25 = .ok (.getfield 9, 3) := by decide +kernel
theorem dX4_allows_28 : decode cX4_allows 28 = .ok (.iload_n 3, 1) := by decide +kernel
theorem dX4_allows_29 : decode cX4_allows 29 = .ok (.iaload, 1) := by decide +kernel
theorem dX4_allows_30 : decode cX4_allows 30 = .ok (.aload_n 0, 1) := by decide +kernel
theorem dX4_allows_31 : decode cX4_allows 31 = .ok (.getfield 15, 3) := by decide +kernel
theorem dX4_allows_34 : decode cX4_allows 34 = .ok (.iload_n 3, 1) := by decide +kernel
theorem dX4_allows_35 : decode cX4_allows 35 = .ok (.iaload, 1) := by decide +kernel
theorem dX4_allows_36 : decode cX4_allows 36 = .ok (.invokevirtual 29, 3) := by decide +kernel
theorem dX4_allows_39 : decode cX4_allows 39 = .ok (.ifCond .eq 7, 3) := by decide +kernel
theorem dX4_allows_42 : decode cX4_allows 42 = .ok (.iconst 1, 1) := by decide +kernel
theorem dX4_allows_43 : decode cX4_allows 43 = .ok (.goto 4, 3) := by decide +kernel
theorem dX4_allows_46 : decode cX4_allows 46 = .ok (.iconst 0, 1) := by decide +kernel
theorem dX4_allows_47 : decode cX4_allows 47 = .ok (.istore 4, 2) := by decide +kernel
theorem dX4_allows_49 : decode cX4_allows 49 = .ok (.iload 4, 2) := by decide +kernel
theorem dX4_allows_51 : decode cX4_allows 51 = .ok (.aload_n 0, 1) := by decide +kernel
theorem dX4_allows_52 : decode cX4_allows 52 = .ok (.getfield 18, 3) := by decide +kernel
theorem dX4_allows_55 : decode cX4_allows 55 = .ok (.iload_n 3, 1) := by decide +kernel
theorem dX4_allows_56 : decode cX4_allows 56 = .ok (.iaload, 1) := by decide +kernel
theorem dX4_allows_57 : decode cX4_allows 57 = .ok (.iconst 1, 1) := by decide +kernel
theorem dX4_allows_58 : decode cX4_allows 58 = .ok (.if_icmp .ne 7, 3) := by decide +kernel
theorem dX4_allows_61 : decode cX4_allows 61 = .ok (.iconst 1, 1) := by decide +kernel
theorem dX4_allows_62 : decode cX4_allows 62 = .ok (.goto 4, 3) := by decide +kernel
theorem dX4_allows_65 : decode cX4_allows 65 = .ok (.iconst 0, 1) := by decide +kernel
theorem dX4_allows_66 : decode cX4_allows 66 = .ok (.if_icmp .eq 5, 3) := by decide +kernel
theorem dX4_allows_69 : decode cX4_allows 69 = .ok (.iconst 0, 1) := by decide +kernel
theorem dX4_allows_70 : decode cX4_allows 70 = .ok (.ireturn, 1) := by decide +kernel
theorem dX4_allows_71 : decode cX4_allows 71 = .ok (.iinc 3 1, 3) := by decide +kernel
theorem dX4_allows_74 : decode cX4_allows 74 = .ok (.goto (-72), 3) := by decide +kernel
theorem dX4_allows_77 : decode cX4_allows 77 = .ok (.iconst 1, 1) := by decide +kernel
theorem dX4_allows_78 : decode cX4_allows 78 = .ok (.ireturn, 1) := by decide +kernel
end
section
theorem dX5_init_0 : decode cX5_init 0 = .ok (.aload_n 0, 1) := by decide +kernel
theorem dX5_init_1 : decode cX5_init 1 = .ok (.invokespecial 3, 3) := by decide +kernel
theorem dX5_init_4 : decode cX5_init 4 = .ok (.aload_n 0, 1) := by decide +kernel
theorem dX5_init_5 : decode cX5_init 5 = .ok (.sipush 160, 3) := by decide +kernel
theorem dX5_init_8 : decode cX5_init 8 = .ok (.newarray .int, 2) := by decide +kernel
theorem dX5_init_10 : decode cX5_init 10 = .ok (.putfield 9, 3) := by decide +kernel
theorem dX5_init_13 : decode cX5_init 13 = .ok (.aload_n 0, 1) := by decide +kernel
theorem dX5_init_14 : decode cX5_init 14 = .ok (.iconst 0, 1) := by decide +kernel
theorem dX5_init_15 : decode cX5_init 15 = .ok (.putfield 15, 3) := by decide +kernel
theorem dX5_init_18 : decode cX5_init 18 = .ok (.aload_n 0, 1) := by decide +kernel
theorem dX5_init_19 : decode cX5_init 19 = .ok (.iconst 0, 1) := by decide +kernel
theorem dX5_init_20 : decode cX5_init 20 = .ok (.putfield 19, 3) := by decide +kernel
theorem dX5_init_23 : decode cX5_init 23 = .ok (.aload_n 0, 1) := by decide +kernel
theorem dX5_init_24 : decode cX5_init 24 = .ok (.iconst 0, 1) := by decide +kernel
theorem dX5_init_25 : decode cX5_init 25 = .ok (.putfield 22, 3) := by decide +kernel
theorem dX5_init_28 : decode cX5_init 28 = .ok (.aload_n 0, 1) := by decide +kernel
theorem dX5_init_29 : decode cX5_init 29 = .ok (.iconst 0, 1) := by decide +kernel
theorem dX5_init_30 : decode cX5_init 30 = .ok (.putfield 25, 3) := by decide +kernel
theorem dX5_init_33 : decode cX5_init 33 = .ok (.aload_n 0, 1) := by decide +kernel
theorem dX5_init_34 : decode cX5_init 34 = .ok (.iconst 0, 1) := by decide +kernel
theorem dX5_init_35 : decode cX5_init 35 = .ok (.putfield 28, 3) := by decide +kernel
theorem dX5_init_38 : decode cX5_init 38 = .ok (.return_, 1) := by decide +kernel
theorem dX5_readInto_0 : decode cX5_readInto 0 = .ok (.aload_n 1, 1) := by decide +kernel
theorem dX5_readInto_1 : decode cX5_readInto 1 = .ok (.invokevirtual 32, 3) := by decide +kernel
theorem dX5_readInto_4 : decode cX5_readInto 4 = .ok (.aload_n 0, 1) := by decide +kernel
theorem dX5_readInto_5 : decode cX5_readInto 5 = .ok (.iconst 0, 1) := by decide +kernel
theorem dX5_readInto_6 : decode cX5_readInto 6 = .ok (.putfield 28, 3) := by decide +kernel
theorem dX5_readInto_9 : decode cX5_readInto 9 = .ok (.aload_n 0, 1) := by decide +kernel
theorem dX5_readInto_10 : decode cX5_readInto 10 = .ok (.iconst 0, 1) := by decide +kernel
theorem dX5_readInto_11 : decode cX5_readInto 11 = .ok (.putfield 25, 3) := by decide +kernel
theorem dX5_readInto_14 : decode cX5_readInto 14 = .ok (.aload_n 0, 1) := by decide +kernel
theorem dX5_readInto_15 : decode cX5_readInto 15 = .ok (.invokevirtual 37, 3) := by decide +kernel
theorem dX5_readInto_18 : decode cX5_readInto 18 = .ok (.iconst 0, 1) := by decide +kernel
theorem dX5_readInto_19 : decode cX5_readInto 19 = .ok (.istore_n 2, 1) := by decide +kernel
theorem dX5_readInto_20 : decode cX5_readInto 20 = .ok (.aload_n 0, 1) := by decide +kernel
theorem dX5_readInto_21 : decode cX5_readInto 21 = .ok (.getfield 19, 3) := by decide +kernel
theorem dX5_readInto_24 : decode cX5_readInto 24 = .ok (.ifCond .eq 32, 3) := by decide +kernel
theorem dX5_readInto_27 : decode cX5_readInto 27 = .ok (.iload_n 2, 1) := by decide +kernel
theorem dX5_readInto_28 : decode cX5_readInto 28 = .ok (.sipush 160, 3) := by decide +kernel
theorem dX5_readInto_31 : decode cX5_readInto 31 = .ok (.if_icmp .ge 25, 3) := by decide +kernel
theorem dX5_readInto_34 : decode cX5_readInto 34 = .ok (.aload_n 0, 1) := by decide +kernel
theorem dX5_readInto_35 : decode cX5_readInto 35 = .ok (.aload_n 1, 1) := by decide +kernel
theorem dX5_readInto_36 : decode cX5_readInto 36 = .ok (.invokevirtual 40, 3) := by decide +kernel
theorem dX5_readInto_39 : decode cX5_readInto 39 = .ok (.ifCond .ne 11, 3) := by decide +kernel
theorem dX5_readInto_42 : decode cX5_readInto 42 = .ok (.bipush (-10), 2) := by decide +kernel
theorem dX5_readInto_44 : decode cX5_readInto 44 = .ok (.aload_n 0, 1) := by decide +kernel
theorem dX5_readInto_45 : decode cX5_readInto 45 = .ok (.getfield 22, 3) := by decide +kernel
theorem dX5_readInto_48 : decode cX5_readInto 48 = .ok (.isub, 1) := by decide +kernel
theorem dX5_readInto_49 : decode cX5_readInto 49 = .ok (.ireturn, 1) := by decide +kernel
theorem dX5_readInto_50 : decode cX5_readInto 50 = .ok (.iinc 2 1, 3) := by decide +kernel
theorem dX5_readInto_53 : decode cX5_readInto 53 = .ok (.goto (-33), 3) := by decide +kernel
theorem dX5_readInto_56 : decode cX5_readInto 56 = .ok (.iload_n 2, 1) := by decide +kernel
theorem dX5_readInto_57 : decode cX5_readInto 57 = .ok (.ireturn, 1) := by decide +kernel
theorem dX5_readItem_0 : decode cX5_readItem 0 = .ok (.aload_n 0, 1) := by decide +kernel
theorem dX5_readItem_1 : decode cX5_readItem 1 = .ok (.getfield 19, 3) := by decide +kernel
theorem dX5_readItem_4 : decode cX5_readItem 4 = .ok (.iconst 1, 1) := by decide +kernel
theorem dX5_readItem_5 : decode cX5_readItem 5 = .ok (.if_icmp .ne 16, 3) := by decide +kernel
theorem dX5_readItem_8 : decode cX5_readItem 8 = .ok (.aload_n 0, 1) := by decide +kernel
theorem dX5_readItem_9 : decode cX5_readItem 9 = .ok (.getfield 25, 3) := by decide +kernel
theorem dX5_readItem_12 : decode cX5_readItem 12 = .ok (.aload_n 0, 1) := by decide +kernel
theorem dX5_readItem_13 : decode cX5_readItem 13 = .ok (.getfield 22, 3) := by decide +kernel
theorem dX5_readItem_16 : decode cX5_readItem 16 = .ok (.isub, 1) := by decide +kernel
theorem dX5_readItem_17 : decode cX5_readItem 17 = .ok (.iconst 1, 1) := by decide +kernel
theorem dX5_readItem_18 : decode cX5_readItem 18 = .ok (.if_icmp .eq 5, 3) := by decide +kernel
theorem dX5_readItem_21 : decode cX5_readItem 21 = .ok (.iconst 0, 1) := by decide +kernel
theorem dX5_readItem_22 : decode cX5_readItem 22 = .ok (.ireturn, 1) := by decide +kernel
theorem dX5_readItem_23 : decode cX5_readItem 23 = .ok (.aload_n 0, 1) := by decide +kernel
theorem dX5_readItem_24 : decode cX5_readItem 24 = .ok (.getfield 9, 3) := by decide +kernel
theorem dX5_readItem_27 : decode cX5_readItem 27 = .ok (.aload_n 0, 1) := by decide +kernel
theorem dX5_readItem_28 : decode cX5_readItem 28 = .ok (.getfield 22, 3) := by decide +kernel
theorem dX5_readItem_31 : decode cX5_readItem 31 = .ok (.iaload, 1) := by decide +kernel
theorem dX5_readItem_32 : decode cX5_readItem 32 = .ok (.lookupswitch 97 #[(103, 61), (107, 79), (110, 88), (118, 52), (121, 70)], 52) := by decide +kernel
theorem dX5_readItem_84 : decode cX5_readItem 84 = .ok (.aload_n 0, 1) := by decide +kernel
theorem dX5_readItem_85 : decode cX5_readItem 85 = .ok (.aload_n 1, 1) := by decide +kernel
theorem dX5_readItem_86 : decode cX5_readItem 86 = .ok (.invokevirtual 44, 3) := by decide +kernel
theorem dX5_readItem_89 : decode cX5_readItem 89 = .ok (.istore_n 2, 1) := by decide +kernel
theorem dX5_readItem_90 : decode cX5_readItem 90 = .ok (.goto 41, 3) := by decide +kernel
theorem dX5_readItem_93 : decode cX5_readItem 93 = .ok (.aload_n 0, 1) := by decide +kernel
theorem dX5_readItem_94 : decode cX5_readItem 94 = .ok (.aload_n 1, 1) := by decide +kernel
theorem dX5_readItem_95 : decode cX5_readItem 95 = .ok (.invokevirtual 47, 3) := by decide +kernel
theorem dX5_readItem_98 : decode cX5_readItem 98 = .ok (.istore_n 2, 1) := by decide +kernel
theorem dX5_readItem_99 : decode cX5_readItem 99 = .ok (.goto 32, 3) := by decide +kernel
theorem dX5_readItem_102 : decode cX5_readItem 102 = .ok (.aload_n 0, 1) := by decide +kernel
theorem dX5_readItem_103 : decode cX5_readItem 103 = .ok (.aload_n 1, 1) := by decide +kernel
theorem dX5_readItem_104 : decode cX5_readItem 104 = .ok (.invokevirtual 50, 3) := by decide +kernel
theorem dX5_readItem_107 : decode cX5_readItem 107 = .ok (.istore_n 2, 1) := by decide +kernel
theorem dX5_readItem_108 : decode cX5_readItem 108 = .ok (.goto 23, 3) := by decide +kernel
theorem dX5_readItem_111 : decode cX5_readItem 111 = .ok (.aload_n 0, 1) := by decide +kernel
theorem dX5_readItem_112 : decode cX5_readItem 112 = .ok (.aload_n 1, 1) := by decide +kernel
theorem dX5_readItem_113 : decode cX5_readItem 113 = .ok (.invokevirtual 53, 3) := by decide +kernel
theorem dX5_readItem_116 : decode cX5_readItem 116 = .ok (.istore_n 2, 1) := by decide +kernel
theorem dX5_readItem_117 : decode cX5_readItem 117 = .ok (.goto 14, 3) := by decide +kernel
theorem dX5_readItem_120 : decode cX5_readItem 120 = .ok (.aload_n 0, 1) := by decide +kernel
theorem dX5_readItem_121 : decode cX5_readItem 121 = .ok (.aload_n 1, 1) := by decide +kernel
theorem dX5_readItem_122 : decode cX5_readItem 122 = .ok (.invokevirtual 56, 3) := by decide +kernel
theorem dX5_readItem_125 : decode cX5_readItem 125 = .ok (.istore_n 2, 1) := by decide +kernel
theorem dX5_readItem_126 : decode cX5_readItem 126 = .ok (.goto 5, 3) := by decide +kernel
theorem dX5_readItem_129 : decode cX5_readItem 129 = .ok (.iconst 0, 1) := by decide +kernel
theorem dX5_readItem_130 : decode cX5_readItem 130 = .ok (.istore_n 2, 1) := by decide +kernel
theorem dX5_readItem_131 : decode cX5_readItem 131 = .ok (.iload_n 2, 1) := by decide +kernel
theorem dX5_readItem_132 : decode cX5_readItem 132 = .ok (.ifCond .eq 11, 3) := by decide +kernel
theorem dX5_readItem_135 : decode cX5_readItem 135 = .ok (.aload_n 0, 1) := by decide +kernel
theorem dX5_readItem_136 : decode cX5_readItem 136 = .ok (.getfield 19, 3) := by decide +kernel
theorem dX5_readItem_139 : decode cX5_readItem 139 = .ok (.iconst 3, 1) := by decide +kernel
theorem dX5_readItem_140 : decode cX5_readItem 140 = .ok (.if_icmp .eq 5, 3) := by decide +kernel
theorem dX5_readItem_143 : decode cX5_readItem 143 = .ok (.iconst 0, 1) := by decide +kernel
theorem dX5_readItem_144 : decode cX5_readItem 144 = .ok (.ireturn, 1) := by decide +kernel
theorem dX5_readItem_145 : decode cX5_readItem 145 = .ok (.aload_n 0, 1) := by decide +kernel
theorem dX5_readItem_146 : decode cX5_readItem 146 = .ok (.invokevirtual 37, 3) := by decide +kernel
theorem dX5_readItem_149 : decode cX5_readItem 149 = .ok (.iconst 1, 1) := by decide +kernel
theorem dX5_readItem_150 : decode cX5_readItem 150 = .ok (.ireturn, 1) := by decide +kernel
theorem dX5_readLeaf_0 : decode cX5_readLeaf 0 = .ok (.aload_n 0, 1) := by decide +kernel
theorem dX5_readLeaf_1 : decode cX5_readLeaf 1 = .ok (.aload_n 1, 1) := by decide +kernel
theorem dX5_readLeaf_2 : decode cX5_readLeaf 2 = .ok (.getfield 59, 3) := by decide +kernel
theorem dX5_readLeaf_5 : decode cX5_readLeaf 5 = .ok (.aload_n 1, 1) := by decide +kernel
theorem dX5_readLeaf_6 : decode cX5_readLeaf 6 = .ok (.getfield 62, 3) := by decide +kernel
theorem dX5_readLeaf_9 : decode cX5_readLeaf 9 = .ok (.invokevirtual 65, 3) := by decide +kernel
theorem dX5_readLeaf_12 : decode cX5_readLeaf 12 = .ok (.ifCond .ne 5, 3) := by decide +kernel
theorem dX5_readLeaf_15 : decode cX5_readLeaf 15 = .ok (.iconst 0, 1) := by decide +kernel
theorem dX5_readLeaf_16 : decode cX5_readLeaf 16 = .ok (.ireturn, 1) := by decide +kernel
theorem dX5_readLeaf_17 : decode cX5_readLeaf 17 = .ok (.aload_n 1, 1) := by decide +kernel
theorem dX5_readLeaf_18 : decode cX5_readLeaf 18 = .ok (.dup, 1) := by decide +kernel
theorem dX5_readLeaf_19 : decode cX5_readLeaf 19 = .ok (.getfield 62, 3) := by decide +kernel
theorem dX5_readLeaf_22 : decode cX5_readLeaf 22 = .ok (.iconst 1, 1) := by decide +kernel
theorem dX5_readLeaf_23 : decode cX5_readLeaf 23 = .ok (.iadd, 1) := by decide +kernel
theorem dX5_readLeaf_24 : decode cX5_readLeaf 24 = .ok (.putfield 62, 3) := by decide +kernel
theorem dX5_readLeaf_27 : decode cX5_readLeaf 27 = .ok (.iconst 1, 1) := by decide +kernel
theorem dX5_readLeaf_28 : decode cX5_readLeaf 28 = .ok (.ireturn, 1) := by decide +kernel
theorem dX5_readGoer_0 : decode cX5_readGoer 0 = .ok (.aload_n 0, 1) := by decide +kernel
theorem dX5_readGoer_1 : decode cX5_readGoer 1 = .ok (.aload_n 1, 1) := by decide +kernel
theorem dX5_readGoer_2 : decode cX5_readGoer 2 = .ok (.getfield 69, 3) := by decide +kernel
theorem dX5_readGoer_5 : decode cX5_readGoer 5 = .ok (.aload_n 1, 1) := by decide +kernel
theorem dX5_readGoer_6 : decode cX5_readGoer 6 = .ok (.getfield 72, 3) := by decide +kernel
theorem dX5_readGoer_9 : decode cX5_readGoer 9 = .ok (.invokevirtual 65, 3) := by decide +kernel
theorem dX5_readGoer_12 : decode cX5_readGoer 12 = .ok (.ifCond .ne 5, 3) := by decide +kernel
theorem dX5_readGoer_15 : decode cX5_readGoer 15 = .ok (.iconst 0, 1) := by decide +kernel
theorem dX5_readGoer_16 : decode cX5_readGoer 16 = .ok (.ireturn, 1) := by decide +kernel
theorem dX5_readGoer_17 : decode cX5_readGoer 17 = .ok (.aload_n 1, 1) := by decide +kernel
theorem dX5_readGoer_18 : decode cX5_readGoer 18 = .ok (.dup, 1) := by decide +kernel
theorem dX5_readGoer_19 : decode cX5_readGoer 19 = .ok (.getfield 72, 3) := by decide +kernel
theorem dX5_readGoer_22 : decode cX5_readGoer 22 = .ok (.iconst 1, 1) := by decide +kernel
theorem dX5_readGoer_23 : decode cX5_readGoer 23 = .ok (.iadd, 1) := by decide +kernel
theorem dX5_readGoer_24 : decode cX5_readGoer 24 = .ok (.putfield 72, 3) := by decide +kernel
theorem dX5_readGoer_27 : decode cX5_readGoer 27 = .ok (.iconst 1, 1) := by decide +kernel
theorem dX5_readGoer_28 : decode cX5_readGoer 28 = .ok (.ireturn, 1) := by decide +kernel
theorem dX5_readTastes_0 : decode cX5_readTastes 0 = .ok (.iload_n 2, 1) := by decide +kernel
theorem dX5_readTastes_1 : decode cX5_readTastes 1 = .ok (.aload_n 1, 1) := by decide +kernel
theorem dX5_readTastes_2 : decode cX5_readTastes 2 = .ok (.arraylength, 1) := by decide +kernel
theorem dX5_readTastes_3 : decode cX5_readTastes 3 = .ok (.if_icmp .lt 5, 3) := by decide +kernel
theorem dX5_readTastes_6 : decode cX5_readTastes 6 = .ok (.iconst 0, 1) := by decide +kernel
theorem dX5_readTastes_7 : decode cX5_readTastes 7 = .ok (.ireturn, 1) := by decide +kernel
theorem dX5_readTastes_8 : decode cX5_readTastes 8 = .ok (.aload_n 0, 1) := by decide +kernel
theorem dX5_readTastes_9 : decode cX5_readTastes 9 = .ok (.invokevirtual 37, 3) := by decide +kernel
theorem dX5_readTastes_12 : decode cX5_readTastes 12 = .ok (.aload_n 0, 1) := by decide +kernel
theorem dX5_readTastes_13 : decode cX5_readTastes 13 = .ok (.iconst 1, 1) := by decide +kernel
theorem dX5_readTastes_14 : decode cX5_readTastes 14 = .ok (.invokevirtual 75, 3) := by decide +kernel
theorem dX5_readTastes_17 : decode cX5_readTastes 17 = .ok (.ifCond .ne 5, 3) := by decide +kernel
theorem dX5_readTastes_20 : decode cX5_readTastes 20 = .ok (.iconst 0, 1) := by decide +kernel
theorem dX5_readTastes_21 : decode cX5_readTastes 21 = .ok (.ireturn, 1) := by decide +kernel
theorem dX5_readTastes_22 : decode cX5_readTastes 22 = .ok (.aload_n 1, 1) := by decide +kernel
theorem dX5_readTastes_23 : decode cX5_readTastes 23 = .ok (.iload_n 2, 1) := by decide +kernel
theorem dX5_readTastes_24 : decode cX5_readTastes 24 = .ok (.aload_n 0, 1) := by decide +kernel
theorem dX5_readTastes_25 : decode cX5_readTastes 25 = .ok (.invokevirtual 79, 3) := by decide +kernel
theorem dX5_readTastes_28 : decode cX5_readTastes 28 = .ok (.iastore, 1) := by decide +kernel
theorem dX5_readTastes_29 : decode cX5_readTastes 29 = .ok (.aload_n 0, 1) := by decide +kernel
theorem dX5_readTastes_30 : decode cX5_readTastes 30 = .ok (.invokevirtual 37, 3) := by decide +kernel
theorem dX5_readTastes_33 : decode cX5_readTastes 33 = .ok (.iconst 1, 1) := by decide +kernel
theorem dX5_readTastes_34 : decode cX5_readTastes 34 = .ok (.ireturn, 1) := by decide +kernel
theorem dX5_readSister_0 : decode cX5_readSister 0 = .ok (.aload_n 1, 1) := by decide +kernel
theorem dX5_readSister_1 : decode cX5_readSister 1 = .ok (.getfield 83, 3) := by decide +kernel
theorem dX5_readSister_4 : decode cX5_readSister 4 = .ok (.iconst 4, 1) := by decide +kernel
theorem dX5_readSister_5 : decode cX5_readSister 5 = .ok (.if_icmp .lt 5, 3) := by decide +kernel
theorem dX5_readSister_8 : decode cX5_readSister 8 = .ok (.iconst 0, 1) := by decide +kernel
theorem dX5_readSister_9 : decode cX5_readSister 9 = .ok (.ireturn, 1) := by decide +kernel
theorem dX5_readSister_10 : decode cX5_readSister 10 = .ok (.aload_n 0, 1) := by decide +kernel
theorem dX5_readSister_11 : decode cX5_readSister 11 = .ok (.invokevirtual 37, 3) := by decide +kernel
theorem dX5_readSister_14 : decode cX5_readSister 14 = .ok (.aload_n 0, 1) := by decide +kernel
theorem dX5_readSister_15 : decode cX5_readSister 15 = .ok (.bipush 6, 2) := by decide +kernel
theorem dX5_readSister_17 : decode cX5_readSister 17 = .ok (.invokevirtual 75, 3) := by decide +kernel
theorem dX5_readSister_20 : decode cX5_readSister 20 = .ok (.ifCond .ne 5, 3) := by decide +kernel
theorem dX5_readSister_23 : decode cX5_readSister 23 = .ok (.iconst 0, 1) := by decide +kernel
theorem dX5_readSister_24 : decode cX5_readSister 24 = .ok (.ireturn, 1) := by decide +kernel
theorem dX5_readSister_25 : decode cX5_readSister 25 = .ok (.iconst 0, 1) := by decide +kernel
theorem dX5_readSister_26 : decode cX5_readSister 26 = .ok (.istore_n 2, 1) := by decide +kernel
theorem dX5_readSister_27 : decode cX5_readSister 27 = .ok (.iload_n 2, 1) := by decide +kernel
theorem dX5_readSister_28 : decode cX5_readSister 28 = .ok (.bipush 6, 2) := by decide +kernel
theorem dX5_readSister_30 : decode cX5_readSister 30 = .ok (.if_icmp .ge 37, 3) := by decide +kernel
theorem dX5_readSister_33 : decode cX5_readSister 33 = .ok (.aload_n 1, 1) := by decide +kernel
theorem dX5_readSister_34 : decode cX5_readSister 34 = .ok (.getfield 86, 3) := by decide +kernel
theorem dX5_readSister_37 : decode cX5_readSister 37 = .ok (.aload_n 1, 1) := by decide +kernel
theorem dX5_readSister_38 : decode cX5_readSister 38 = .ok (.getfield 83, 3) := by decide +kernel
theorem dX5_readSister_41 : decode cX5_readSister 41 = .ok (.bipush 6, 2) := by decide +kernel
theorem dX5_readSister_43 : decode cX5_readSister 43 = .ok (.imul, 1) := by decide +kernel
theorem dX5_readSister_44 : decode cX5_readSister 44 = .ok (.iload_n 2, 1) := by decide +kernel
theorem dX5_readSister_45 : decode cX5_readSister 45 = .ok (.iadd, 1) := by decide +kernel
theorem dX5_readSister_46 : decode cX5_readSister 46 = .ok (.aload_n 0, 1) := by decide +kernel
theorem dX5_readSister_47 : decode cX5_readSister 47 = .ok (.getfield 9, 3) := by decide +kernel
theorem dX5_readSister_50 : decode cX5_readSister 50 = .ok (.aload_n 0, 1) := by decide +kernel
theorem dX5_readSister_51 : decode cX5_readSister 51 = .ok (.getfield 22, 3) := by decide +kernel
theorem dX5_readSister_54 : decode cX5_readSister 54 = .ok (.iload_n 2, 1) := by decide +kernel
theorem dX5_readSister_55 : decode cX5_readSister 55 = .ok (.iadd, 1) := by decide +kernel
theorem dX5_readSister_56 : decode cX5_readSister 56 = .ok (.iaload, 1) := by decide +kernel
theorem dX5_readSister_57 : decode cX5_readSister 57 = .ok (.bipush 97, 2) := by decide +kernel
theorem dX5_readSister_59 : decode cX5_readSister 59 = .ok (.isub, 1) := by decide +kernel
theorem dX5_readSister_60 : decode cX5_readSister 60 = .ok (.iastore, 1) := by decide +kernel
theorem dX5_readSister_61 : decode cX5_readSister 61 = .ok (.iinc 2 1, 3) := by decide +kernel
theorem dX5_readSister_64 : decode cX5_readSister 64 = .ok (.goto (-37), 3) := by decide +kernel
theorem dX5_readSister_67 : decode cX5_readSister 67 = .ok (.aload_n 1, 1) := by decide +kernel
theorem dX5_readSister_68 : decode cX5_readSister 68 = .ok (.dup, 1) := by decide +kernel
theorem dX5_readSister_69 : decode cX5_readSister 69 = .ok (.getfield 83, 3) := by decide +kernel
theorem dX5_readSister_72 : decode cX5_readSister 72 = .ok (.iconst 1, 1) := by decide +kernel
theorem dX5_readSister_73 : decode cX5_readSister 73 = .ok (.iadd, 1) := by decide +kernel
theorem dX5_readSister_74 : decode cX5_readSister 74 = .ok (.putfield 83, 3) := by decide +kernel
theorem dX5_readSister_77 : decode cX5_readSister 77 = .ok (.aload_n 0, 1) := by decide +kernel
theorem dX5_readSister_78 : decode cX5_readSister 78 = .ok (.invokevirtual 37, 3) := by decide +kernel
theorem dX5_readSister_81 : decode cX5_readSister 81 = .ok (.iconst 1, 1) := by decide +kernel
theorem dX5_readSister_82 : decode cX5_readSister 82 = .ok (.ireturn, 1) := by decide +kernel
theorem dX5_readFriday_0 : decode cX5_readFriday 0 = .ok (.aload_n 1, 1) := by decide +kernel
theorem dX5_readFriday_1 : decode cX5_readFriday 1 = .ok (.getfield 89, 3) := by decide +kernel
theorem dX5_readFriday_4 : decode cX5_readFriday 4 = .ok (.iconst 3, 1) := by decide +kernel
theorem dX5_readFriday_5 : decode cX5_readFriday 5 = .ok (.if_icmp .lt 5, 3) := by decide +kernel
theorem dX5_readFriday_8 : decode cX5_readFriday 8 = .ok (.iconst 0, 1) := by decide +kernel
theorem dX5_readFriday_9 : decode cX5_readFriday 9 = .ok (.ireturn, 1) := by decide +kernel
theorem dX5_readFriday_10 : decode cX5_readFriday 10 = .ok (.aload_n 0, 1) := by decide +kernel
theorem dX5_readFriday_11 : decode cX5_readFriday 11 = .ok (.invokevirtual 37, 3) := by decide +kernel
theorem dX5_readFriday_14 : decode cX5_readFriday 14 = .ok (.aload_n 0, 1) := by decide +kernel
theorem dX5_readFriday_15 : decode cX5_readFriday 15 = .ok (.iconst 2, 1) := by decide +kernel
theorem dX5_readFriday_16 : decode cX5_readFriday 16 = .ok (.bipush 12, 2) := by decide +kernel
theorem dX5_readFriday_18 : decode cX5_readFriday 18 = .ok (.invokevirtual 92, 3) := by decide +kernel
theorem dX5_readFriday_21 : decode cX5_readFriday 21 = .ok (.ifCond .ne 5, 3) := by decide +kernel
theorem dX5_readFriday_24 : decode cX5_readFriday 24 = .ok (.iconst 0, 1) := by decide +kernel
theorem dX5_readFriday_25 : decode cX5_readFriday 25 = .ok (.ireturn, 1) := by decide +kernel
theorem dX5_readFriday_26 : decode cX5_readFriday 26 = .ok (.aload_n 0, 1) := by decide +kernel
theorem dX5_readFriday_27 : decode cX5_readFriday 27 = .ok (.invokevirtual 96, 3) := by decide +kernel
theorem dX5_readFriday_30 : decode cX5_readFriday 30 = .ok (.istore_n 2, 1) := by decide +kernel
theorem dX5_readFriday_31 : decode cX5_readFriday 31 = .ok (.aload_n 0, 1) := by decide +kernel
theorem dX5_readFriday_32 : decode cX5_readFriday 32 = .ok (.invokevirtual 37, 3) := by decide +kernel
theorem dX5_readFriday_35 : decode cX5_readFriday 35 = .ok (.aload_n 0, 1) := by decide +kernel
theorem dX5_readFriday_36 : decode cX5_readFriday 36 = .ok (.iconst 0, 1) := by decide +kernel
theorem dX5_readFriday_37 : decode cX5_readFriday 37 = .ok (.iload_n 2, 1) := by decide +kernel
theorem dX5_readFriday_38 : decode cX5_readFriday 38 = .ok (.iconst 1, 1) := by decide +kernel
theorem dX5_readFriday_39 : decode cX5_readFriday 39 = .ok (.isub, 1) := by decide +kernel
theorem dX5_readFriday_40 : decode cX5_readFriday 40 = .ok (.invokevirtual 92, 3) := by decide +kernel
theorem dX5_readFriday_43 : decode cX5_readFriday 43 = .ok (.ifCond .ne 5, 3) := by decide +kernel
theorem dX5_readFriday_46 : decode cX5_readFriday 46 = .ok (.iconst 0, 1) := by decide +kernel
theorem dX5_readFriday_47 : decode cX5_readFriday 47 = .ok (.ireturn, 1) := by decide +kernel
theorem dX5_readFriday_48 : decode cX5_readFriday 48 = .ok (.aload_n 1, 1) := by decide +kernel
theorem dX5_readFriday_49 : decode cX5_readFriday 49 = .ok (.getfield 99, 3) := by decide +kernel
theorem dX5_readFriday_52 : decode cX5_readFriday 52 = .ok (.aload_n 1, 1) := by decide +kernel
theorem dX5_readFriday_53 : decode cX5_readFriday 53 = .ok (.getfield 89, 3) := by decide +kernel
theorem dX5_readFriday_56 : decode cX5_readFriday 56 = .ok (.iload_n 2, 1) := by decide +kernel
theorem dX5_readFriday_57 : decode cX5_readFriday 57 = .ok (.iastore, 1) := by decide +kernel
theorem dX5_readFriday_58 : decode cX5_readFriday 58 = .ok (.aload_n 1, 1) := by decide +kernel
theorem dX5_readFriday_59 : decode cX5_readFriday 59 = .ok (.getfield 102, 3) := by decide +kernel
theorem dX5_readFriday_62 : decode cX5_readFriday 62 = .ok (.aload_n 1, 1) := by decide +kernel
theorem dX5_readFriday_63 : decode cX5_readFriday 63 = .ok (.getfield 89, 3) := by decide +kernel
theorem dX5_readFriday_66 : decode cX5_readFriday 66 = .ok (.aload_n 0, 1) := by decide +kernel
theorem dX5_readFriday_67 : decode cX5_readFriday 67 = .ok (.invokevirtual 96, 3) := by decide +kernel
theorem dX5_readFriday_70 : decode cX5_readFriday 70 = .ok (.iastore, 1) := by decide +kernel
theorem dX5_readFriday_71 : decode cX5_readFriday 71 = .ok (.aload_n 1, 1) := by decide +kernel
theorem dX5_readFriday_72 : decode cX5_readFriday 72 = .ok (.dup, 1) := by decide +kernel
theorem dX5_readFriday_73 : decode cX5_readFriday 73 = .ok (.getfield 89, 3) := by decide +kernel
theorem dX5_readFriday_76 : decode cX5_readFriday 76 = .ok (.iconst 1, 1) := by decide +kernel
theorem dX5_readFriday_77 : decode cX5_readFriday 77 = .ok (.iadd, 1) := by decide +kernel
theorem dX5_readFriday_78 : decode cX5_readFriday 78 = .ok (.putfield 89, 3) := by decide +kernel
theorem dX5_readFriday_81 : decode cX5_readFriday 81 = .ok (.aload_n 0, 1) := by decide +kernel
theorem dX5_readFriday_82 : decode cX5_readFriday 82 = .ok (.invokevirtual 37, 3) := by decide +kernel
theorem dX5_readFriday_85 : decode cX5_readFriday 85 = .ok (.iconst 1, 1) := by decide +kernel
theorem dX5_readFriday_86 : decode cX5_readFriday 86 = .ok (.ireturn, 1) := by decide +kernel
theorem dX5_readLane_0 : decode cX5_readLane 0 = .ok (.aload_n 0, 1) := by decide +kernel
theorem dX5_readLane_1 : decode cX5_readLane 1 = .ok (.getfield 28, 3) := by decide +kernel
theorem dX5_readLane_4 : decode cX5_readLane 4 = .ok (.ifCond .eq 5, 3) := by decide +kernel
theorem dX5_readLane_7 : decode cX5_readLane 7 = .ok (.iconst 0, 1) := by decide +kernel
theorem dX5_readLane_8 : decode cX5_readLane 8 = .ok (.ireturn, 1) := by decide +kernel
theorem dX5_readLane_9 : decode cX5_readLane 9 = .ok (.aload_n 0, 1) := by decide +kernel
theorem dX5_readLane_10 : decode cX5_readLane 10 = .ok (.invokevirtual 37, 3) := by decide +kernel
theorem dX5_readLane_13 : decode cX5_readLane 13 = .ok (.aload_n 0, 1) := by decide +kernel
theorem dX5_readLane_14 : decode cX5_readLane 14 = .ok (.iconst 1, 1) := by decide +kernel
theorem dX5_readLane_15 : decode cX5_readLane 15 = .ok (.bipush 9, 2) := by decide +kernel
theorem dX5_readLane_17 : decode cX5_readLane 17 = .ok (.invokevirtual 92, 3) := by decide +kernel
theorem dX5_readLane_20 : decode cX5_readLane 20 = .ok (.ifCond .ne 5, 3) := by decide +kernel
theorem dX5_readLane_23 : decode cX5_readLane 23 = .ok (.iconst 0, 1) := by decide +kernel
theorem dX5_readLane_24 : decode cX5_readLane 24 = .ok (.ireturn, 1) := by decide +kernel
theorem dX5_readLane_25 : decode cX5_readLane 25 = .ok (.aload_n 1, 1) := by decide +kernel
theorem dX5_readLane_26 : decode cX5_readLane 26 = .ok (.aload_n 0, 1) := by decide +kernel
theorem dX5_readLane_27 : decode cX5_readLane 27 = .ok (.invokevirtual 96, 3) := by decide +kernel
theorem dX5_readLane_30 : decode cX5_readLane 30 = .ok (.putfield 105, 3) := by decide +kernel
theorem dX5_readLane_33 : decode cX5_readLane 33 = .ok (.aload_n 0, 1) := by decide +kernel
theorem dX5_readLane_34 : decode cX5_readLane 34 = .ok (.iconst 1, 1) := by decide +kernel
theorem dX5_readLane_35 : decode cX5_readLane 35 = .ok (.putfield 28, 3) := by decide +kernel
theorem dX5_readLane_38 : decode cX5_readLane 38 = .ok (.aload_n 0, 1) := by decide +kernel
theorem dX5_readLane_39 : decode cX5_readLane 39 = .ok (.invokevirtual 37, 3) := by decide +kernel
theorem dX5_readLane_42 : decode cX5_readLane 42 = .ok (.iconst 1, 1) := by decide +kernel
theorem dX5_readLane_43 : decode cX5_readLane 43 = .ok (.ireturn, 1) := by decide +kernel
theorem dX5_isRow_0 : decode cX5_isRow 0 = .ok (.aload_n 0, 1) := by decide +kernel
theorem dX5_isRow_1 : decode cX5_isRow 1 = .ok (.getfield 25, 3) := by decide +kernel
theorem dX5_isRow_4 : decode cX5_isRow 4 = .ok (.aload_n 0, 1) := by decide +kernel
theorem dX5_isRow_5 : decode cX5_isRow 5 = .ok (.getfield 22, 3) := by decide +kernel
theorem dX5_isRow_8 : decode cX5_isRow 8 = .ok (.isub, 1) := by decide +kernel
theorem dX5_isRow_9 : decode cX5_isRow 9 = .ok (.istore_n 2, 1) := by decide +kernel
theorem dX5_isRow_10 : decode cX5_isRow 10 = .ok (.aload_n 0, 1) := by decide +kernel
theorem dX5_isRow_11 : decode cX5_isRow 11 = .ok (.getfield 19, 3) := by decide +kernel
theorem dX5_isRow_14 : decode cX5_isRow 14 = .ok (.iconst 1, 1) := by decide +kernel
theorem dX5_isRow_15 : decode cX5_isRow 15 = .ok (.if_icmp .ne 14, 3) := by decide +kernel
theorem dX5_isRow_18 : decode cX5_isRow 18 = .ok (.iload_n 2, 1) := by decide +kernel
theorem dX5_isRow_19 : decode cX5_isRow 19 = .ok (.iload_n 1, 1) := by decide +kernel
theorem dX5_isRow_20 : decode cX5_isRow 20 = .ok (.if_icmp .lt 9, 3) := by decide +kernel
theorem dX5_isRow_23 : decode cX5_isRow 23 = .ok (.iload_n 2, 1) := by decide +kernel
theorem dX5_isRow_24 : decode cX5_isRow 24 = .ok (.bipush 6, 2) := by decide +kernel
theorem dX5_isRow_26 : decode cX5_isRow 26 = .ok (.if_icmp .le 5, 3) := by decide +kernel
theorem dX5_isRow_29 : decode cX5_isRow 29 = .ok (.iconst 0, 1) := by decide +kernel
theorem dX5_isRow_30 : decode cX5_isRow 30 = .ok (.ireturn, 1) := by decide +kernel
theorem dX5_isRow_31 : decode cX5_isRow 31 = .ok (.aload_n 0, 1) := by decide +kernel
theorem dX5_isRow_32 : decode cX5_isRow 32 = .ok (.getfield 22, 3) := by decide +kernel
theorem dX5_isRow_35 : decode cX5_isRow 35 = .ok (.istore_n 3, 1) := by decide +kernel
theorem dX5_isRow_36 : decode cX5_isRow 36 = .ok (.iload_n 3, 1) := by decide +kernel
theorem dX5_isRow_37 : decode cX5_isRow 37 = .ok (.aload_n 0, 1) := by decide +kernel
theorem dX5_isRow_38 : decode cX5_isRow 38 = .ok (.getfield 25, 3) := by decide +kernel
theorem dX5_isRow_41 : decode cX5_isRow 41 = .ok (.if_icmp .ge 26, 3) := by decide +kernel
theorem dX5_isRow_44 : decode cX5_isRow 44 = .ok (.aload_n 0, 1) := by decide +kernel
theorem dX5_isRow_45 : decode cX5_isRow 45 = .ok (.getfield 9, 3) := by decide +kernel
theorem dX5_isRow_48 : decode cX5_isRow 48 = .ok (.iload_n 3, 1) := by decide +kernel
theorem dX5_isRow_49 : decode cX5_isRow 49 = .ok (.iaload, 1) := by decide +kernel
theorem dX5_isRow_50 : decode cX5_isRow 50 = .ok (.bipush 97, 2) := by decide +kernel
theorem dX5_isRow_52 : decode cX5_isRow 52 = .ok (.isub, 1) := by decide +kernel
theorem dX5_isRow_53 : decode cX5_isRow 53 = .ok (.invokestatic 108, 3) := by decide +kernel
theorem dX5_isRow_56 : decode cX5_isRow 56 = .ok (.ifCond .ne 5, 3) := by decide +kernel
theorem dX5_isRow_59 : decode cX5_isRow 59 = .ok (.iconst 0, 1) := by decide +kernel
theorem dX5_isRow_60 : decode cX5_isRow 60 = .ok (.ireturn, 1) := by decide +kernel
theorem dX5_isRow_61 : decode cX5_isRow 61 = .ok (.iinc 3 1, 3) := by decide +kernel
theorem dX5_isRow_64 : decode cX5_isRow 64 = .ok (.goto (-28), 3) := by decide +kernel
theorem dX5_isRow_67 : decode cX5_isRow 67 = .ok (.iconst 1, 1) := by decide +kernel
theorem dX5_isRow_68 : decode cX5_isRow 68 = .ok (.ireturn, 1) := by decide +kernel
theorem dX5_rowBits_0 : decode cX5_rowBits 0 = .ok (.iconst 0, 1) := by decide +kernel
theorem dX5_rowBits_1 : decode cX5_rowBits 1 = .ok (.istore_n 1, 1) := by decide +kernel
theorem dX5_rowBits_2 : decode cX5_rowBits 2 = .ok (.aload_n 0, 1) := by decide +kernel
theorem dX5_rowBits_3 : decode cX5_rowBits 3 = .ok (.getfield 22, 3) := by decide +kernel
theorem dX5_rowBits_6 : decode cX5_rowBits 6 = .ok (.istore_n 2, 1) := by decide +kernel
theorem dX5_rowBits_7 : decode cX5_rowBits 7 = .ok (.iload_n 2, 1) := by decide +kernel
theorem dX5_rowBits_8 : decode cX5_rowBits 8 = .ok (.aload_n 0, 1) := by decide +kernel
theorem dX5_rowBits_9 : decode cX5_rowBits 9 = .ok (.getfield 25, 3) := by decide +kernel
theorem dX5_rowBits_12 : decode cX5_rowBits 12 = .ok (.if_icmp .ge 23, 3) := by decide +kernel
theorem dX5_rowBits_15 : decode cX5_rowBits 15 = .ok (.iload_n 1, 1) := by decide +kernel
theorem dX5_rowBits_16 : decode cX5_rowBits 16 = .ok (.iconst 1, 1) := by decide +kernel
theorem dX5_rowBits_17 : decode cX5_rowBits 17 = .ok (.aload_n 0, 1) := by decide +kernel
theorem dX5_rowBits_18 : decode cX5_rowBits 18 = .ok (.getfield 9, 3) := by decide +kernel
theorem dX5_rowBits_21 : decode cX5_rowBits 21 = .ok (.iload_n 2, 1) := by decide +kernel
theorem dX5_rowBits_22 : decode cX5_rowBits 22 = .ok (.iaload, 1) := by decide +kernel
theorem dX5_rowBits_23 : decode cX5_rowBits 23 = .ok (.bipush 97, 2) := by decide +kernel
theorem dX5_rowBits_25 : decode cX5_rowBits 25 = .ok (.isub, 1) := by decide +kernel
theorem dX5_rowBits_26 : decode cX5_rowBits 26 = .ok (.ishl, 1) := by decide +kernel
theorem dX5_rowBits_27 : decode cX5_rowBits 27 = .ok (.ior, 1) := by decide +kernel
theorem dX5_rowBits_28 : decode cX5_rowBits 28 = .ok (.istore_n 1, 1) := by decide +kernel
theorem dX5_rowBits_29 : decode cX5_rowBits 29 = .ok (.iinc 2 1, 3) := by decide +kernel
theorem dX5_rowBits_32 : decode cX5_rowBits 32 = .ok (.goto (-25), 3) := by decide +kernel
theorem dX5_rowBits_35 : decode cX5_rowBits 35 = .ok (.iload_n 1, 1) := by decide +kernel
theorem dX5_rowBits_36 : decode cX5_rowBits 36 = .ok (.ireturn, 1) := by decide +kernel
theorem dX5_isNumber_0 : decode cX5_isNumber 0 = .ok (.aload_n 0, 1) := by decide +kernel
theorem dX5_isNumber_1 : decode cX5_isNumber 1 = .ok (.getfield 19, 3) := by decide +kernel
theorem dX5_isNumber_4 : decode cX5_isNumber 4 = .ok (.iconst 2, 1) := by decide +kernel
theorem dX5_isNumber_5 : decode cX5_isNumber 5 = .ok (.if_icmp .ne 23, 3) := by decide +kernel
theorem dX5_isNumber_8 : decode cX5_isNumber 8 = .ok (.aload_n 0, 1) := by decide +kernel
theorem dX5_isNumber_9 : decode cX5_isNumber 9 = .ok (.invokevirtual 96, 3) := by decide +kernel
theorem dX5_isNumber_12 : decode cX5_isNumber 12 = .ok (.iload_n 1, 1) := by decide +kernel
theorem dX5_isNumber_13 : decode cX5_isNumber 13 = .ok (.if_icmp .lt 15, 3) := by decide +kernel
theorem dX5_isNumber_16 : decode cX5_isNumber 16 = .ok (.aload_n 0, 1) := by decide +kernel
theorem dX5_isNumber_17 : decode cX5_isNumber 17 = .ok (.invokevirtual 96, 3) := by decide +kernel
theorem dX5_isNumber_20 : decode cX5_isNumber 20 = .ok (.iload_n 2, 1) := by decide +kernel
theorem dX5_isNumber_21 : decode cX5_isNumber 21 = .ok (.if_icmp .gt 7, 3) := by decide +kernel
theorem dX5_isNumber_24 : decode cX5_isNumber 24 = .ok (.iconst 1, 1) := by decide +kernel
theorem dX5_isNumber_25 : decode cX5_isNumber 25 = .ok (.goto 4, 3) := by decide +kernel
theorem dX5_isNumber_28 : decode cX5_isNumber 28 = .ok (.iconst 0, 1) := by decide +kernel
theorem dX5_isNumber_29 : decode cX5_isNumber 29 = .ok (.ireturn, 1) := by decide +kernel
theorem dX5_number_0 : decode cX5_number 0 = .ok (.iconst 0, 1) := by decide +kernel
theorem dX5_number_1 : decode cX5_number 1 = .ok (.istore_n 1, 1) := by decide +kernel
theorem dX5_number_2 : decode cX5_number 2 = .ok (.aload_n 0, 1) := by decide +kernel
theorem dX5_number_3 : decode cX5_number 3 = .ok (.getfield 22, 3) := by decide +kernel
theorem dX5_number_6 : decode cX5_number 6 = .ok (.istore_n 2, 1) := by decide +kernel
theorem dX5_number_7 : decode cX5_number 7 = .ok (.iload_n 2, 1) := by decide +kernel
theorem dX5_number_8 : decode cX5_number 8 = .ok (.aload_n 0, 1) := by decide +kernel
theorem dX5_number_9 : decode cX5_number 9 = .ok (.getfield 25, 3) := by decide +kernel
theorem dX5_number_12 : decode cX5_number 12 = .ok (.if_icmp .ge 24, 3) := by decide +kernel
theorem dX5_number_15 : decode cX5_number 15 = .ok (.iload_n 1, 1) := by decide +kernel
theorem dX5_number_16 : decode cX5_number 16 = .ok (.bipush 10, 2) := by decide +kernel
theorem dX5_number_18 : decode cX5_number 18 = .ok (.imul, 1) := by decide +kernel
theorem dX5_number_19 : decode cX5_number 19 = .ok (.aload_n 0, 1) := by decide +kernel
theorem dX5_number_20 : decode cX5_number 20 = .ok (.getfield 9, 3) := by decide +kernel
theorem dX5_number_23 : decode cX5_number 23 = .ok (.iload_n 2, 1) := by decide +kernel
theorem dX5_number_24 : decode cX5_number 24 = .ok (.iaload, 1) := by decide +kernel
theorem dX5_number_25 : decode cX5_number 25 = .ok (.iadd, 1) := by decide +kernel
theorem dX5_number_26 : decode cX5_number 26 = .ok (.bipush 48, 2) := by decide +kernel
theorem dX5_number_28 : decode cX5_number 28 = .ok (.isub, 1) := by decide +kernel
theorem dX5_number_29 : decode cX5_number 29 = .ok (.istore_n 1, 1) := by decide +kernel
theorem dX5_number_30 : decode cX5_number 30 = .ok (.iinc 2 1, 3) := by decide +kernel
theorem dX5_number_33 : decode cX5_number 33 = .ok (.goto (-26), 3) := by decide +kernel
theorem dX5_number_36 : decode cX5_number 36 = .ok (.iload_n 1, 1) := by decide +kernel
theorem dX5_number_37 : decode cX5_number 37 = .ok (.ireturn, 1) := by decide +kernel
theorem dX5_step_0 : decode cX5_step 0 = .ok (.aload_n 0, 1) := by decide +kernel
theorem dX5_step_1 : decode cX5_step 1 = .ok (.aload_n 0, 1) := by decide +kernel
theorem dX5_step_2 : decode cX5_step 2 = .ok (.getfield 25, 3) := by decide +kernel
theorem dX5_step_5 : decode cX5_step 5 = .ok (.putfield 22, 3) := by decide +kernel
theorem dX5_step_8 : decode cX5_step 8 = .ok (.aload_n 0, 1) := by decide +kernel
theorem dX5_step_9 : decode cX5_step 9 = .ok (.getfield 22, 3) := by decide +kernel
theorem dX5_step_12 : decode cX5_step 12 = .ok (.aload_n 0, 1) := by decide +kernel
theorem dX5_step_13 : decode cX5_step 13 = .ok (.getfield 15, 3) := by decide +kernel
theorem dX5_step_16 : decode cX5_step 16 = .ok (.if_icmp .ge 30, 3) := by decide +kernel
theorem dX5_step_19 : decode cX5_step 19 = .ok (.aload_n 0, 1) := by decide +kernel
theorem dX5_step_20 : decode cX5_step 20 = .ok (.getfield 9, 3) := by decide +kernel
theorem dX5_step_23 : decode cX5_step 23 = .ok (.aload_n 0, 1) := by decide +kernel
theorem dX5_step_24 : decode cX5_step 24 = .ok (.getfield 22, 3) := by decide +kernel
theorem dX5_step_27 : decode cX5_step 27 = .ok (.iaload, 1) := by decide +kernel
theorem dX5_step_28 : decode cX5_step 28 = .ok (.bipush 32, 2) := by decide +kernel
theorem dX5_step_30 : decode cX5_step 30 = .ok (.if_icmp .ne 16, 3) := by decide +kernel
theorem dX5_step_33 : decode cX5_step 33 = .ok (.aload_n 0, 1) := by decide +kernel
theorem dX5_step_34 : decode cX5_step 34 = .ok (.dup, 1) := by decide +kernel
theorem dX5_step_35 : decode cX5_step 35 = .ok (.getfield 22, 3) := by decide +kernel
theorem dX5_step_38 : decode cX5_step 38 = .ok (.iconst 1, 1) := by decide +kernel
theorem dX5_step_39 : decode cX5_step 39 = .ok (.iadd, 1) := by decide +kernel
theorem dX5_step_40 : decode cX5_step 40 = .ok (.putfield 22, 3) := by decide +kernel
theorem dX5_step_43 : decode cX5_step 43 = .ok (.goto (-35), 3) := by decide +kernel
theorem dX5_step_46 : decode cX5_step 46 = .ok (.aload_n 0, 1) := by decide +kernel
theorem dX5_step_47 : decode cX5_step 47 = .ok (.aload_n 0, 1) := by decide +kernel
theorem dX5_step_48 : decode cX5_step 48 = .ok (.getfield 22, 3) := by decide +kernel
theorem dX5_step_51 : decode cX5_step 51 = .ok (.putfield 25, 3) := by decide +kernel
theorem dX5_step_54 : decode cX5_step 54 = .ok (.aload_n 0, 1) := by decide +kernel
theorem dX5_step_55 : decode cX5_step 55 = .ok (.getfield 22, 3) := by decide +kernel
theorem dX5_step_58 : decode cX5_step 58 = .ok (.aload_n 0, 1) := by decide +kernel
theorem dX5_step_59 : decode cX5_step 59 = .ok (.getfield 15, 3) := by decide +kernel
theorem dX5_step_62 : decode cX5_step 62 = .ok (.if_icmp .lt 11, 3) := by decide +kernel
theorem dX5_step_65 : decode cX5_step 65 = .ok (.aload_n 0, 1) := by decide +kernel
theorem dX5_step_66 : decode cX5_step 66 = .ok (.iconst 0, 1) := by decide +kernel
theorem dX5_step_67 : decode cX5_step 67 = .ok (.putfield 19, 3) := by decide +kernel
theorem dX5_step_70 : decode cX5_step 70 = .ok (.goto 72, 3) := by decide +kernel
theorem dX5_step_73 : decode cX5_step 73 = .ok (.aload_n 0, 1) := by decide +kernel
theorem dX5_step_74 : decode cX5_step 74 = .ok (.aload_n 0, 1) := by decide +kernel
theorem dX5_step_75 : decode cX5_step 75 = .ok (.getfield 22, 3) := by decide +kernel
theorem dX5_step_78 : decode cX5_step 78 = .ok (.invokevirtual 111, 3) := by decide +kernel
theorem dX5_step_81 : decode cX5_step 81 = .ok (.ifCond .eq 10, 3) := by decide +kernel
theorem dX5_step_84 : decode cX5_step 84 = .ok (.aload_n 0, 1) := by decide +kernel
theorem dX5_step_85 : decode cX5_step 85 = .ok (.invokevirtual 114, 3) := by decide +kernel
theorem dX5_step_88 : decode cX5_step 88 = .ok (.goto 54, 3) := by decide +kernel
theorem dX5_step_91 : decode cX5_step 91 = .ok (.aload_n 0, 1) := by decide +kernel
theorem dX5_step_92 : decode cX5_step 92 = .ok (.aload_n 0, 1) := by decide +kernel
theorem dX5_step_93 : decode cX5_step 93 = .ok (.getfield 22, 3) := by decide +kernel
theorem dX5_step_96 : decode cX5_step 96 = .ok (.invokevirtual 117, 3) := by decide +kernel
theorem dX5_step_99 : decode cX5_step 99 = .ok (.ifCond .eq 10, 3) := by decide +kernel
theorem dX5_step_102 : decode cX5_step 102 = .ok (.aload_n 0, 1) := by decide +kernel
theorem dX5_step_103 : decode cX5_step 103 = .ok (.invokevirtual 120, 3) := by decide +kernel
theorem dX5_step_106 : decode cX5_step 106 = .ok (.goto 36, 3) := by decide +kernel
theorem dX5_step_109 : decode cX5_step 109 = .ok (.aload_n 0, 1) := by decide +kernel
theorem dX5_step_110 : decode cX5_step 110 = .ok (.dup, 1) := by decide +kernel
theorem dX5_step_111 : decode cX5_step 111 = .ok (.getfield 25, 3) := by decide +kernel
theorem dX5_step_114 : decode cX5_step 114 = .ok (.iconst 1, 1) := by decide +kernel
theorem dX5_step_115 : decode cX5_step 115 = .ok (.iadd, 1) := by decide +kernel
theorem dX5_step_116 : decode cX5_step 116 = .ok (.putfield 25, 3) := by decide +kernel
theorem dX5_step_119 : decode cX5_step 119 = .ok (.aload_n 0, 1) := by decide +kernel
theorem dX5_step_120 : decode cX5_step 120 = .ok (.aload_n 0, 1) := by decide +kernel
theorem dX5_step_121 : decode cX5_step 121 = .ok (.getfield 9, 3) := by decide +kernel
theorem dX5_step_124 : decode cX5_step 124 = .ok (.aload_n 0, 1) := by decide +kernel
theorem dX5_step_125 : decode cX5_step 125 = .ok (.getfield 22, 3) := by decide +kernel
theorem dX5_step_128 : decode cX5_step 128 = .ok (.iaload, 1) := by decide +kernel
theorem dX5_step_129 : decode cX5_step 129 = .ok (.bipush 59, 2) := by decide +kernel
theorem dX5_step_131 : decode cX5_step 131 = .ok (.if_icmp .ne 7, 3) := by decide +kernel
theorem dX5_step_134 : decode cX5_step 134 = .ok (.iconst 3, 1) := by decide +kernel
theorem dX5_step_135 : decode cX5_step 135 = .ok (.goto 4, 3) := by decide +kernel
theorem dX5_step_138 : decode cX5_step 138 = .ok (.iconst 4, 1) := by decide +kernel
theorem dX5_step_139 : decode cX5_step 139 = .ok (.putfield 19, 3) := by decide +kernel
theorem dX5_step_142 : decode cX5_step 142 = .ok (.return_, 1) := by decide +kernel
theorem dX5_takeWord_0 : decode cX5_takeWord 0 = .ok (.aload_n 0, 1) := by decide +kernel
theorem dX5_takeWord_1 : decode cX5_takeWord 1 = .ok (.getfield 25, 3) := by decide +kernel
theorem dX5_takeWord_4 : decode cX5_takeWord 4 = .ok (.aload_n 0, 1) := by decide +kernel
theorem dX5_takeWord_5 : decode cX5_takeWord 5 = .ok (.getfield 15, 3) := by decide +kernel
theorem dX5_takeWord_8 : decode cX5_takeWord 8 = .ok (.if_icmp .ge 27, 3) := by decide +kernel
theorem dX5_takeWord_11 : decode cX5_takeWord 11 = .ok (.aload_n 0, 1) := by decide +kernel
theorem dX5_takeWord_12 : decode cX5_takeWord 12 = .ok (.aload_n 0, 1) := by decide +kernel
theorem dX5_takeWord_13 : decode cX5_takeWord 13 = .ok (.getfield 25, 3) := by decide +kernel
theorem dX5_takeWord_16 : decode cX5_takeWord 16 = .ok (.invokevirtual 111, 3) := by decide +kernel
theorem dX5_takeWord_19 : decode cX5_takeWord 19 = .ok (.ifCond .eq 16, 3) := by decide +kernel
theorem dX5_takeWord_22 : decode cX5_takeWord 22 = .ok (.aload_n 0, 1) := by decide +kernel
theorem dX5_takeWord_23 : decode cX5_takeWord 23 = .ok (.dup, 1) := by decide +kernel
theorem dX5_takeWord_24 : decode cX5_takeWord 24 = .ok (.getfield 25, 3) := by decide +kernel
theorem dX5_takeWord_27 : decode cX5_takeWord 27 = .ok (.iconst 1, 1) := by decide +kernel
theorem dX5_takeWord_28 : decode cX5_takeWord 28 = .ok (.iadd, 1) := by decide +kernel
theorem dX5_takeWord_29 : decode cX5_takeWord 29 = .ok (.putfield 25, 3) := by decide +kernel
theorem dX5_takeWord_32 : decode cX5_takeWord 32 = .ok (.goto (-32), 3) := by decide +kernel
theorem dX5_takeWord_35 : decode cX5_takeWord 35 = .ok (.aload_n 0, 1) := by decide +kernel
theorem dX5_takeWord_36 : decode cX5_takeWord 36 = .ok (.iconst 1, 1) := by decide +kernel
theorem dX5_takeWord_37 : decode cX5_takeWord 37 = .ok (.putfield 19, 3) := by decide +kernel
theorem dX5_takeWord_40 : decode cX5_takeWord 40 = .ok (.return_, 1) := by decide +kernel
theorem dX5_takeNumber_0 : decode cX5_takeNumber 0 = .ok (.aload_n 0, 1) := by decide +kernel
theorem dX5_takeNumber_1 : decode cX5_takeNumber 1 = .ok (.getfield 25, 3) := by decide +kernel
theorem dX5_takeNumber_4 : decode cX5_takeNumber 4 = .ok (.aload_n 0, 1) := by decide +kernel
theorem dX5_takeNumber_5 : decode cX5_takeNumber 5 = .ok (.getfield 15, 3) := by decide +kernel
theorem dX5_takeNumber_8 : decode cX5_takeNumber 8 = .ok (.if_icmp .ge 27, 3) := by decide +kernel
theorem dX5_takeNumber_11 : decode cX5_takeNumber 11 = .ok (.aload_n 0, 1) := by decide +kernel
theorem dX5_takeNumber_12 : decode cX5_takeNumber 12 = .ok (.aload_n 0, 1) := by decide +kernel
theorem dX5_takeNumber_13 : decode cX5_takeNumber 13 = .ok (.getfield 25, 3) := by decide +kernel
theorem dX5_takeNumber_16 : decode cX5_takeNumber 16 = .ok (.invokevirtual 117, 3) := by decide +kernel
theorem dX5_takeNumber_19 : decode cX5_takeNumber 19 = .ok (.ifCond .eq 16, 3) := by decide +kernel
theorem dX5_takeNumber_22 : decode cX5_takeNumber 22 = .ok (.aload_n 0, 1) := by decide +kernel
theorem dX5_takeNumber_23 : decode cX5_takeNumber 23 = .ok (.dup, 1) := by decide +kernel
theorem dX5_takeNumber_24 : decode cX5_takeNumber 24 = .ok (.getfield 25, 3) := by decide +kernel
theorem dX5_takeNumber_27 : decode cX5_takeNumber 27 = .ok (.iconst 1, 1) := by decide +kernel
theorem dX5_takeNumber_28 : decode cX5_takeNumber 28 = .ok (.iadd, 1) := by decide +kernel
theorem dX5_takeNumber_29 : decode cX5_takeNumber 29 = .ok (.putfield 25, 3) := by decide +kernel
theorem dX5_takeNumber_32 : decode cX5_takeNumber 32 = .ok (.goto (-32), 3) := by decide +kernel
theorem dX5_takeNumber_35 : decode cX5_takeNumber 35 = .ok (.aload_n 0, 1) := by decide +kernel
theorem dX5_takeNumber_36 : decode cX5_takeNumber 36 = .ok (.getfield 9, 3) := by decide +kernel
theorem dX5_takeNumber_39 : decode cX5_takeNumber 39 = .ok (.aload_n 0, 1) := by decide +kernel
theorem dX5_takeNumber_40 : decode cX5_takeNumber 40 = .ok (.getfield 22, 3) := by decide +kernel
theorem dX5_takeNumber_43 : decode cX5_takeNumber 43 = .ok (.iaload, 1) := by decide +kernel
theorem dX5_takeNumber_44 : decode cX5_takeNumber 44 = .ok (.bipush 48, 2) := by decide +kernel
theorem dX5_takeNumber_46 : decode cX5_takeNumber 46 = .ok (.if_icmp .ne 20, 3) := by decide +kernel
theorem dX5_takeNumber_49 : decode cX5_takeNumber 49 = .ok (.aload_n 0, 1) := by decide +kernel
theorem dX5_takeNumber_50 : decode cX5_takeNumber 50 = .ok (.getfield 25, 3) := by decide +kernel
theorem dX5_takeNumber_53 : decode cX5_takeNumber 53 = .ok (.aload_n 0, 1) := by decide +kernel
theorem dX5_takeNumber_54 : decode cX5_takeNumber 54 = .ok (.getfield 22, 3) := by decide +kernel
theorem dX5_takeNumber_57 : decode cX5_takeNumber 57 = .ok (.isub, 1) := by decide +kernel
theorem dX5_takeNumber_58 : decode cX5_takeNumber 58 = .ok (.iconst 1, 1) := by decide +kernel
theorem dX5_takeNumber_59 : decode cX5_takeNumber 59 = .ok (.if_icmp .le 7, 3) := by decide +kernel
theorem dX5_takeNumber_62 : decode cX5_takeNumber 62 = .ok (.iconst 1, 1) := by decide +kernel
theorem dX5_takeNumber_63 : decode cX5_takeNumber 63 = .ok (.goto 4, 3) := by decide +kernel
theorem dX5_takeNumber_66 : decode cX5_takeNumber 66 = .ok (.iconst 0, 1) := by decide +kernel
theorem dX5_takeNumber_67 : decode cX5_takeNumber 67 = .ok (.istore_n 1, 1) := by decide +kernel
theorem dX5_takeNumber_68 : decode cX5_takeNumber 68 = .ok (.aload_n 0, 1) := by decide +kernel
theorem dX5_takeNumber_69 : decode cX5_takeNumber 69 = .ok (.iload_n 1, 1) := by decide +kernel
theorem dX5_takeNumber_70 : decode cX5_takeNumber 70 = .ok (.ifCond .ne 16, 3) := by decide +kernel
theorem dX5_takeNumber_73 : decode cX5_takeNumber 73 = .ok (.aload_n 0, 1) := by decide +kernel
theorem dX5_takeNumber_74 : decode cX5_takeNumber 74 = .ok (.getfield 25, 3) := by decide +kernel
theorem dX5_takeNumber_77 : decode cX5_takeNumber 77 = .ok (.aload_n 0, 1) := by decide +kernel
theorem dX5_takeNumber_78 : decode cX5_takeNumber 78 = .ok (.getfield 22, 3) := by decide +kernel
theorem dX5_takeNumber_81 : decode cX5_takeNumber 81 = .ok (.isub, 1) := by decide +kernel
theorem dX5_takeNumber_82 : decode cX5_takeNumber 82 = .ok (.iconst 2, 1) := by decide +kernel
theorem dX5_takeNumber_83 : decode cX5_takeNumber 83 = .ok (.if_icmp .le 7, 3) := by decide +kernel
theorem dX5_takeNumber_86 : decode cX5_takeNumber 86 = .ok (.iconst 4, 1) := by decide +kernel
theorem dX5_takeNumber_87 : decode cX5_takeNumber 87 = .ok (.goto 4, 3) := by decide +kernel
theorem dX5_takeNumber_90 : decode cX5_takeNumber 90 = .ok (.iconst 2, 1) := by decide +kernel
theorem dX5_takeNumber_91 : decode cX5_takeNumber 91 = .ok (.putfield 19, 3) := by decide +kernel
theorem dX5_takeNumber_94 : decode cX5_takeNumber 94 = .ok (.return_, 1) := by decide +kernel
theorem dX5_isLetter_0 : decode cX5_isLetter 0 = .ok (.aload_n 0, 1) := by decide +kernel
theorem dX5_isLetter_1 : decode cX5_isLetter 1 = .ok (.getfield 9, 3) := by decide +kernel
theorem dX5_isLetter_4 : decode cX5_isLetter 4 = .ok (.iload_n 1, 1) := by decide +kernel
theorem dX5_isLetter_5 : decode cX5_isLetter 5 = .ok (.iaload, 1) := by decide +kernel
theorem dX5_isLetter_6 : decode cX5_isLetter 6 = .ok (.bipush 97, 2) := by decide +kernel
theorem dX5_isLetter_8 : decode cX5_isLetter 8 = .ok (.if_icmp .lt 18, 3) := by decide +kernel
theorem dX5_isLetter_11 : decode cX5_isLetter 11 = .ok (.aload_n 0, 1) := by decide +kernel
theorem dX5_isLetter_12 : decode cX5_isLetter 12 = .ok (.getfield 9, 3) := by decide +kernel
theorem dX5_isLetter_15 : decode cX5_isLetter 15 = .ok (.iload_n 1, 1) := by decide +kernel
theorem dX5_isLetter_16 : decode cX5_isLetter 16 = .ok (.iaload, 1) := by decide +kernel
theorem dX5_isLetter_17 : decode cX5_isLetter 17 = .ok (.bipush 122, 2) := by decide +kernel
theorem dX5_isLetter_19 : decode cX5_isLetter 19 = .ok (.if_icmp .gt 7, 3) := by decide +kernel
theorem dX5_isLetter_22 : decode cX5_isLetter 22 = .ok (.iconst 1, 1) := by decide +kernel
theorem dX5_isLetter_23 : decode cX5_isLetter 23 = .ok (.goto 4, 3) := by decide +kernel
theorem dX5_isLetter_26 : decode cX5_isLetter 26 = .ok (.iconst 0, 1) := by decide +kernel
theorem dX5_isLetter_27 : decode cX5_isLetter 27 = .ok (.ireturn, 1) := by decide +kernel
theorem dX5_isDigit_0 : decode cX5_isDigit 0 = .ok (.aload_n 0, 1) := by decide +kernel
theorem dX5_isDigit_1 : decode cX5_isDigit 1 = .ok (.getfield 9, 3) := by decide +kernel
theorem dX5_isDigit_4 : decode cX5_isDigit 4 = .ok (.iload_n 1, 1) := by decide +kernel
theorem dX5_isDigit_5 : decode cX5_isDigit 5 = .ok (.iaload, 1) := by decide +kernel
theorem dX5_isDigit_6 : decode cX5_isDigit 6 = .ok (.bipush 48, 2) := by decide +kernel
theorem dX5_isDigit_8 : decode cX5_isDigit 8 = .ok (.if_icmp .lt 18, 3) := by decide +kernel
theorem dX5_isDigit_11 : decode cX5_isDigit 11 = .ok (.aload_n 0, 1) := by decide +kernel
theorem dX5_isDigit_12 : decode cX5_isDigit 12 = .ok (.getfield 9, 3) := by decide +kernel
theorem dX5_isDigit_15 : decode cX5_isDigit 15 = .ok (.iload_n 1, 1) := by decide +kernel
theorem dX5_isDigit_16 : decode cX5_isDigit 16 = .ok (.iaload, 1) := by decide +kernel
theorem dX5_isDigit_17 : decode cX5_isDigit 17 = .ok (.bipush 57, 2) := by decide +kernel
theorem dX5_isDigit_19 : decode cX5_isDigit 19 = .ok (.if_icmp .gt 7, 3) := by decide +kernel
theorem dX5_isDigit_22 : decode cX5_isDigit 22 = .ok (.iconst 1, 1) := by decide +kernel
theorem dX5_isDigit_23 : decode cX5_isDigit 23 = .ok (.goto 4, 3) := by decide +kernel
theorem dX5_isDigit_26 : decode cX5_isDigit 26 = .ok (.iconst 0, 1) := by decide +kernel
theorem dX5_isDigit_27 : decode cX5_isDigit 27 = .ok (.ireturn, 1) := by decide +kernel
end
section
theorem dX6_init_0 : decode cX6_init 0 = .ok (.aload_n 0, 1) := by decide +kernel
theorem dX6_init_1 : decode cX6_init 1 = .ok (.invokespecial 1, 3) := by decide +kernel
theorem dX6_init_4 : decode cX6_init 4 = .ok (.aload_n 0, 1) := by decide +kernel
theorem dX6_init_5 : decode cX6_init 5 = .ok (.new 7, 3) := by decide +kernel
theorem dX6_init_8 : decode cX6_init 8 = .ok (.dup, 1) := by decide +kernel
theorem dX6_init_9 : decode cX6_init 9 = .ok (.invokespecial 9, 3) := by decide +kernel
theorem dX6_init_12 : decode cX6_init 12 = .ok (.putfield 10, 3) := by decide +kernel
theorem dX6_init_15 : decode cX6_init 15 = .ok (.aload_n 0, 1) := by decide +kernel
theorem dX6_init_16 : decode cX6_init 16 = .ok (.new 16, 3) := by decide +kernel
theorem dX6_init_19 : decode cX6_init 19 = .ok (.dup, 1) := by decide +kernel
theorem dX6_init_20 : decode cX6_init 20 = .ok (.invokespecial 18, 3) := by decide +kernel
theorem dX6_init_23 : decode cX6_init 23 = .ok (.putfield 19, 3) := by decide +kernel
theorem dX6_init_26 : decode cX6_init 26 = .ok (.aload_n 0, 1) := by decide +kernel
theorem dX6_init_27 : decode cX6_init 27 = .ok (.new 16, 3) := by decide +kernel
theorem dX6_init_30 : decode cX6_init 30 = .ok (.dup, 1) := by decide +kernel
theorem dX6_init_31 : decode cX6_init 31 = .ok (.invokespecial 18, 3) := by decide +kernel
theorem dX6_init_34 : decode cX6_init 34 = .ok (.putfield 23, 3) := by decide +kernel
theorem dX6_init_37 : decode cX6_init 37 = .ok (.aload_n 0, 1) := by decide +kernel
theorem dX6_init_38 : decode cX6_init 38 = .ok (.new 26, 3) := by decide +kernel
theorem dX6_init_41 : decode cX6_init 41 = .ok (.dup, 1) := by decide +kernel
theorem dX6_init_42 : decode cX6_init 42 = .ok (.invokespecial 28, 3) := by decide +kernel
theorem dX6_init_45 : decode cX6_init 45 = .ok (.putfield 29, 3) := by decide +kernel
theorem dX6_init_48 : decode cX6_init 48 = .ok (.aload_n 0, 1) := by decide +kernel
theorem dX6_init_49 : decode cX6_init 49 = .ok (.new 33, 3) := by decide +kernel
theorem dX6_init_52 : decode cX6_init 52 = .ok (.dup, 1) := by decide +kernel
theorem dX6_init_53 : decode cX6_init 53 = .ok (.invokespecial 35, 3) := by decide +kernel
theorem dX6_init_56 : decode cX6_init 56 = .ok (.putfield 36, 3) := by decide +kernel
theorem dX6_init_59 : decode cX6_init 59 = .ok (.aload_n 0, 1) := by decide +kernel
theorem dX6_init_60 : decode cX6_init 60 = .ok (.iconst 2, 1) := by decide +kernel
theorem dX6_init_61 : decode cX6_init 61 = .ok (.anewarray 26, 3) := by decide +kernel
theorem dX6_init_64 : decode cX6_init 64 = .ok (.putfield 40, 3) := by decide +kernel
theorem dX6_init_67 : decode cX6_init 67 = .ok (.aload_n 0, 1) := by decide +kernel
theorem dX6_init_68 : decode cX6_init 68 = .ok (.iconst 2, 1) := by decide +kernel
theorem dX6_init_69 : decode cX6_init 69 = .ok (.newarray .boolean, 2) := by decide +kernel
theorem dX6_init_71 : decode cX6_init 71 = .ok (.putfield 44, 3) := by decide +kernel
theorem dX6_init_74 : decode cX6_init 74 = .ok (.aload_n 0, 1) := by decide +kernel
theorem dX6_init_75 : decode cX6_init 75 = .ok (.new 48, 3) := by decide +kernel
theorem dX6_init_78 : decode cX6_init 78 = .ok (.dup, 1) := by decide +kernel
theorem dX6_init_79 : decode cX6_init 79 = .ok (.invokespecial 50, 3) := by decide +kernel
theorem dX6_init_82 : decode cX6_init 82 = .ok (.putfield 51, 3) := by decide +kernel
theorem dX6_init_85 : decode cX6_init 85 = .ok (.aload_n 0, 1) := by decide +kernel
theorem dX6_init_86 : decode cX6_init 86 = .ok (.new 55, 3) := by decide +kernel
theorem dX6_init_89 : decode cX6_init 89 = .ok (.dup, 1) := by decide +kernel
theorem dX6_init_90 : decode cX6_init 90 = .ok (.invokespecial 57, 3) := by decide +kernel
theorem dX6_init_93 : decode cX6_init 93 = .ok (.putfield 58, 3) := by decide +kernel
theorem dX6_init_96 : decode cX6_init 96 = .ok (.aload_n 0, 1) := by decide +kernel
theorem dX6_init_97 : decode cX6_init 97 = .ok (.lconst 0, 1) := by decide +kernel
theorem dX6_init_98 : decode cX6_init 98 = .ok (.putfield 62, 3) := by decide +kernel
theorem dX6_init_101 : decode cX6_init 101 = .ok (.iconst 0, 1) := by decide +kernel
theorem dX6_init_102 : decode cX6_init 102 = .ok (.istore_n 1, 1) := by decide +kernel
theorem dX6_init_103 : decode cX6_init 103 = .ok (.iload_n 1, 1) := by decide +kernel
theorem dX6_init_104 : decode cX6_init 104 = .ok (.iconst 2, 1) := by decide +kernel
theorem dX6_init_105 : decode cX6_init 105 = .ok (.if_icmp .ge 22, 3) := by decide +kernel
theorem dX6_init_108 : decode cX6_init 108 = .ok (.aload_n 0, 1) := by decide +kernel
theorem dX6_init_109 : decode cX6_init 109 = .ok (.getfield 40, 3) := by decide +kernel
theorem dX6_init_112 : decode cX6_init 112 = .ok (.iload_n 1, 1) := by decide +kernel
theorem dX6_init_113 : decode cX6_init 113 = .ok (.new 26, 3) := by decide +kernel
theorem dX6_init_116 : decode cX6_init 116 = .ok (.dup, 1) := by decide +kernel
theorem dX6_init_117 : decode cX6_init 117 = .ok (.invokespecial 28, 3) := by decide +kernel
theorem dX6_init_120 : decode cX6_init 120 = .ok (.aastore, 1) := by decide +kernel
theorem dX6_init_121 : decode cX6_init 121 = .ok (.iinc 1 1, 3) := by decide +kernel
theorem dX6_init_124 : decode cX6_init 124 = .ok (.goto (-21), 3) := by decide +kernel
theorem dX6_init_127 : decode cX6_init 127 = .ok (.return_, 1) := by decide +kernel
theorem dX6_type_0 : decode cX6_type 0 = .ok (.iload_n 1, 1) := by decide +kernel
theorem dX6_type_1 : decode cX6_type 1 = .ok (.ifCond .lt 10, 3) := by decide +kernel
theorem dX6_type_4 : decode cX6_type 4 = .ok (.iload_n 1, 1) := by decide +kernel
theorem dX6_type_5 : decode cX6_type 5 = .ok (.sipush 255, 3) := by decide +kernel
theorem dX6_type_8 : decode cX6_type 8 = .ok (.if_icmp .le 5, 3) := by decide +kernel
theorem dX6_type_11 : decode cX6_type 11 = .ok (.iconst (-1), 1) := by decide +kernel
theorem dX6_type_12 : decode cX6_type 12 = .ok (.ireturn, 1) := by decide +kernel
theorem dX6_type_13 : decode cX6_type 13 = .ok (.aload_n 0, 1) := by decide +kernel
theorem dX6_type_14 : decode cX6_type 14 = .ok (.getfield 10, 3) := by decide +kernel
theorem dX6_type_17 : decode cX6_type 17 = .ok (.getfield 66, 3) := by decide +kernel
theorem dX6_type_20 : decode cX6_type 20 = .ok (.sipush 160, 3) := by decide +kernel
theorem dX6_type_23 : decode cX6_type 23 = .ok (.if_icmp .lt 6, 3) := by decide +kernel
theorem dX6_type_26 : decode cX6_type 26 = .ok (.bipush (-3), 2) := by decide +kernel
theorem dX6_type_28 : decode cX6_type 28 = .ok (.ireturn, 1) := by decide +kernel
theorem dX6_type_29 : decode cX6_type 29 = .ok (.aload_n 0, 1) := by decide +kernel
theorem dX6_type_30 : decode cX6_type 30 = .ok (.getfield 10, 3) := by decide +kernel
theorem dX6_type_33 : decode cX6_type 33 = .ok (.getfield 70, 3) := by decide +kernel
theorem dX6_type_36 : decode cX6_type 36 = .ok (.aload_n 0, 1) := by decide +kernel
theorem dX6_type_37 : decode cX6_type 37 = .ok (.getfield 10, 3) := by decide +kernel
theorem dX6_type_40 : decode cX6_type 40 = .ok (.getfield 66, 3) := by decide +kernel
theorem dX6_type_43 : decode cX6_type 43 = .ok (.iload_n 1, 1) := by decide +kernel
theorem dX6_type_44 : decode cX6_type 44 = .ok (.iastore, 1) := by decide +kernel
theorem dX6_type_45 : decode cX6_type 45 = .ok (.aload_n 0, 1) := by decide +kernel
theorem dX6_type_46 : decode cX6_type 46 = .ok (.getfield 10, 3) := by decide +kernel
theorem dX6_type_49 : decode cX6_type 49 = .ok (.dup, 1) := by decide +kernel
theorem dX6_type_50 : decode cX6_type 50 = .ok (.getfield 66, 3) := by decide +kernel
theorem dX6_type_53 : decode cX6_type 53 = .ok (.iconst 1, 1) := by decide +kernel
theorem dX6_type_54 : decode cX6_type 54 = .ok (.iadd, 1) := by decide +kernel
theorem dX6_type_55 : decode cX6_type 55 = .ok (.putfield 66, 3) := by decide +kernel
theorem dX6_type_58 : decode cX6_type 58 = .ok (.aload_n 0, 1) := by decide +kernel
theorem dX6_type_59 : decode cX6_type 59 = .ok (.getfield 10, 3) := by decide +kernel
theorem dX6_type_62 : decode cX6_type 62 = .ok (.getfield 66, 3) := by decide +kernel
theorem dX6_type_65 : decode cX6_type 65 = .ok (.ireturn, 1) := by decide +kernel
theorem dX6_clear_0 : decode cX6_clear 0 = .ok (.aload_n 0, 1) := by decide +kernel
theorem dX6_clear_1 : decode cX6_clear 1 = .ok (.getfield 10, 3) := by decide +kernel
theorem dX6_clear_4 : decode cX6_clear 4 = .ok (.getfield 66, 3) := by decide +kernel
theorem dX6_clear_7 : decode cX6_clear 7 = .ok (.istore_n 1, 1) := by decide +kernel
theorem dX6_clear_8 : decode cX6_clear 8 = .ok (.aload_n 0, 1) := by decide +kernel
theorem dX6_clear_9 : decode cX6_clear 9 = .ok (.getfield 10, 3) := by decide +kernel
theorem dX6_clear_12 : decode cX6_clear 12 = .ok (.iconst 0, 1) := by decide +kernel
theorem dX6_clear_13 : decode cX6_clear 13 = .ok (.putfield 66, 3) := by decide +kernel
theorem dX6_clear_16 : decode cX6_clear 16 = .ok (.iload_n 1, 1) := by decide +kernel
theorem dX6_clear_17 : decode cX6_clear 17 = .ok (.ireturn, 1) := by decide +kernel
theorem dX6_court_0 : decode cX6_court 0 = .ok (.aload_n 0, 1) := by decide +kernel
theorem dX6_court_1 : decode cX6_court 1 = .ok (.getfield 10, 3) := by decide +kernel
theorem dX6_court_4 : decode cX6_court 4 = .ok (.aload_n 0, 1) := by decide +kernel
theorem dX6_court_5 : decode cX6_court 5 = .ok (.getfield 23, 3) := by decide +kernel
theorem dX6_court_8 : decode cX6_court 8 = .ok (.invokevirtual 74, 3) := by decide +kernel
theorem dX6_court_11 : decode cX6_court 11 = .ok (.istore_n 1, 1) := by decide +kernel
theorem dX6_court_12 : decode cX6_court 12 = .ok (.iload_n 1, 1) := by decide +kernel
theorem dX6_court_13 : decode cX6_court 13 = .ok (.ifCond .ge 5, 3) := by decide +kernel
theorem dX6_court_16 : decode cX6_court 16 = .ok (.iload_n 1, 1) := by decide +kernel
theorem dX6_court_17 : decode cX6_court 17 = .ok (.ireturn, 1) := by decide +kernel
theorem dX6_court_18 : decode cX6_court 18 = .ok (.aload_n 0, 1) := by decide +kernel
theorem dX6_court_19 : decode cX6_court 19 = .ok (.getfield 19, 3) := by decide +kernel
theorem dX6_court_22 : decode cX6_court 22 = .ok (.astore_n 2, 1) := by decide +kernel
theorem dX6_court_23 : decode cX6_court 23 = .ok (.aload_n 0, 1) := by decide +kernel
theorem dX6_court_24 : decode cX6_court 24 = .ok (.aload_n 0, 1) := by decide +kernel
theorem dX6_court_25 : decode cX6_court 25 = .ok (.getfield 23, 3) := by decide +kernel
theorem dX6_court_28 : decode cX6_court 28 = .ok (.putfield 19, 3) := by decide +kernel
theorem dX6_court_31 : decode cX6_court 31 = .ok (.aload_n 0, 1) := by decide +kernel
theorem dX6_court_32 : decode cX6_court 32 = .ok (.aload_n 2, 1) := by decide +kernel
theorem dX6_court_33 : decode cX6_court 33 = .ok (.putfield 23, 3) := by decide +kernel
theorem dX6_court_36 : decode cX6_court 36 = .ok (.aload_n 0, 1) := by decide +kernel
theorem dX6_court_37 : decode cX6_court 37 = .ok (.getfield 10, 3) := by decide +kernel
theorem dX6_court_40 : decode cX6_court 40 = .ok (.iconst 0, 1) := by decide +kernel
theorem dX6_court_41 : decode cX6_court 41 = .ok (.putfield 66, 3) := by decide +kernel
theorem dX6_court_44 : decode cX6_court 44 = .ok (.aload_n 0, 1) := by decide +kernel
theorem dX6_court_45 : decode cX6_court 45 = .ok (.getfield 29, 3) := by decide +kernel
theorem dX6_court_48 : decode cX6_court 48 = .ok (.invokevirtual 78, 3) := by decide +kernel
theorem dX6_court_51 : decode cX6_court 51 = .ok (.aload_n 0, 1) := by decide +kernel
theorem dX6_court_52 : decode cX6_court 52 = .ok (.getfield 36, 3) := by decide +kernel
theorem dX6_court_55 : decode cX6_court 55 = .ok (.iconst 0, 1) := by decide +kernel
theorem dX6_court_56 : decode cX6_court 56 = .ok (.putfield 81, 3) := by decide +kernel
theorem dX6_court_59 : decode cX6_court 59 = .ok (.aload_n 0, 1) := by decide +kernel
theorem dX6_court_60 : decode cX6_court 60 = .ok (.getfield 51, 3) := by decide +kernel
theorem dX6_court_63 : decode cX6_court 63 = .ok (.iconst 0, 1) := by decide +kernel
theorem dX6_court_64 : decode cX6_court 64 = .ok (.putfield 84, 3) := by decide +kernel
theorem dX6_court_67 : decode cX6_court 67 = .ok (.iconst 0, 1) := by decide +kernel
theorem dX6_court_68 : decode cX6_court 68 = .ok (.istore_n 3, 1) := by decide +kernel
theorem dX6_court_69 : decode cX6_court 69 = .ok (.iload_n 3, 1) := by decide +kernel
theorem dX6_court_70 : decode cX6_court 70 = .ok (.iconst 2, 1) := by decide +kernel
theorem dX6_court_71 : decode cX6_court 71 = .ok (.if_icmp .ge 16, 3) := by decide +kernel
theorem dX6_court_74 : decode cX6_court 74 = .ok (.aload_n 0, 1) := by decide +kernel
theorem dX6_court_75 : decode cX6_court 75 = .ok (.getfield 44, 3) := by decide +kernel
theorem dX6_court_78 : decode cX6_court 78 = .ok (.iload_n 3, 1) := by decide +kernel
theorem dX6_court_79 : decode cX6_court 79 = .ok (.iconst 0, 1) := by decide +kernel
theorem dX6_court_80 : decode cX6_court 80 = .ok (.bastore, 1) := by decide +kernel
theorem dX6_court_81 : decode cX6_court 81 = .ok (.iinc 3 1, 3) := by decide +kernel
theorem dX6_court_84 : decode cX6_court 84 = .ok (.goto (-15), 3) := by decide +kernel
theorem dX6_court_87 : decode cX6_court 87 = .ok (.iload_n 1, 1) := by decide +kernel
theorem dX6_court_88 : decode cX6_court 88 = .ok (.ireturn, 1) := by decide +kernel
theorem dX6_leaf_0 : decode cX6_leaf 0 = .ok (.aload_n 0, 1) := by decide +kernel
theorem dX6_leaf_1 : decode cX6_leaf 1 = .ok (.getfield 19, 3) := by decide +kernel
theorem dX6_leaf_4 : decode cX6_leaf 4 = .ok (.iload_n 1, 1) := by decide +kernel
theorem dX6_leaf_5 : decode cX6_leaf 5 = .ok (.invokevirtual 87, 3) := by decide +kernel
theorem dX6_leaf_8 : decode cX6_leaf 8 = .ok (.ifCond .ne 5, 3) := by decide +kernel
theorem dX6_leaf_11 : decode cX6_leaf 11 = .ok (.iconst (-1), 1) := by decide +kernel
theorem dX6_leaf_12 : decode cX6_leaf 12 = .ok (.ireturn, 1) := by decide +kernel
theorem dX6_leaf_13 : decode cX6_leaf 13 = .ok (.iload_n 2, 1) := by decide +kernel
theorem dX6_leaf_14 : decode cX6_leaf 14 = .ok (.lookupswitch 45 #[(0, 26), (1, 36)], 26) := by decide +kernel
theorem dX6_leaf_40 : decode cX6_leaf 40 = .ok (.aload_n 0, 1) := by decide +kernel
theorem dX6_leaf_41 : decode cX6_leaf 41 = .ok (.getfield 19, 3) := by decide +kernel
theorem dX6_leaf_44 : decode cX6_leaf 44 = .ok (.getfield 91, 3) := by decide +kernel
theorem dX6_leaf_47 : decode cX6_leaf 47 = .ok (.iload_n 1, 1) := by decide +kernel
theorem dX6_leaf_48 : decode cX6_leaf 48 = .ok (.iaload, 1) := by decide +kernel
theorem dX6_leaf_49 : decode cX6_leaf 49 = .ok (.ireturn, 1) := by decide +kernel
theorem dX6_leaf_50 : decode cX6_leaf 50 = .ok (.aload_n 0, 1) := by decide +kernel
theorem dX6_leaf_51 : decode cX6_leaf 51 = .ok (.getfield 19, 3) := by decide +kernel
theorem dX6_leaf_54 : decode cX6_leaf 54 = .ok (.iload_n 1, 1) := by decide +kernel
theorem dX6_leaf_55 : decode cX6_leaf 55 = .ok (.invokevirtual 94, 3) := by decide +kernel
theorem dX6_leaf_58 : decode cX6_leaf 58 = .ok (.ireturn, 1) := by decide +kernel
theorem dX6_leaf_59 : decode cX6_leaf 59 = .ok (.iconst (-1), 1) := by decide +kernel
theorem dX6_leaf_60 : decode cX6_leaf 60 = .ok (.ireturn, 1) := by decide +kernel
theorem dX6_goer_0 : decode cX6_goer 0 = .ok (.aload_n 0, 1) := by decide +kernel
theorem dX6_goer_1 : decode cX6_goer 1 = .ok (.getfield 19, 3) := by decide +kernel
theorem dX6_goer_4 : decode cX6_goer 4 = .ok (.iload_n 1, 1) := by decide +kernel
theorem dX6_goer_5 : decode cX6_goer 5 = .ok (.invokevirtual 98, 3) := by decide +kernel
theorem dX6_goer_8 : decode cX6_goer 8 = .ok (.ifCond .ne 5, 3) := by decide +kernel
theorem dX6_goer_11 : decode cX6_goer 11 = .ok (.iconst (-1), 1) := by decide +kernel
theorem dX6_goer_12 : decode cX6_goer 12 = .ok (.ireturn, 1) := by decide +kernel
theorem dX6_goer_13 : decode cX6_goer 13 = .ok (.iload_n 2, 1) := by decide +kernel
theorem dX6_goer_14 : decode cX6_goer 14 = .ok (.tableswitch 108 0 4 #[34, 44, 54, 89, 99], 34) := by decide +kernel
theorem dX6_goer_48 : decode cX6_goer 48 = .ok (.aload_n 0, 1) := by decide +kernel
theorem dX6_goer_49 : decode cX6_goer 49 = .ok (.getfield 19, 3) := by decide +kernel
theorem dX6_goer_52 : decode cX6_goer 52 = .ok (.getfield 101, 3) := by decide +kernel
theorem dX6_goer_55 : decode cX6_goer 55 = .ok (.iload_n 1, 1) := by decide +kernel
theorem dX6_goer_56 : decode cX6_goer 56 = .ok (.iaload, 1) := by decide +kernel
theorem dX6_goer_57 : decode cX6_goer 57 = .ok (.ireturn, 1) := by decide +kernel
theorem dX6_goer_58 : decode cX6_goer 58 = .ok (.aload_n 0, 1) := by decide +kernel
theorem dX6_goer_59 : decode cX6_goer 59 = .ok (.getfield 29, 3) := by decide +kernel
theorem dX6_goer_62 : decode cX6_goer 62 = .ok (.getfield 104, 3) := by decide +kernel
theorem dX6_goer_65 : decode cX6_goer 65 = .ok (.iload_n 1, 1) := by decide +kernel
theorem dX6_goer_66 : decode cX6_goer 66 = .ok (.iaload, 1) := by decide +kernel
theorem dX6_goer_67 : decode cX6_goer 67 = .ok (.ireturn, 1) := by decide +kernel
theorem dX6_goer_68 : decode cX6_goer 68 = .ok (.aload_n 0, 1) := by decide +kernel
theorem dX6_goer_69 : decode cX6_goer 69 = .ok (.getfield 29, 3) := by decide +kernel
theorem dX6_goer_72 : decode cX6_goer 72 = .ok (.getfield 104, 3) := by decide +kernel
theorem dX6_goer_75 : decode cX6_goer 75 = .ok (.iload_n 1, 1) := by decide +kernel
theorem dX6_goer_76 : decode cX6_goer 76 = .ok (.iaload, 1) := by decide +kernel
theorem dX6_goer_77 : decode cX6_goer 77 = .ok (.iconst 2, 1) := by decide +kernel
theorem dX6_goer_78 : decode cX6_goer 78 = .ok (.if_icmp .ne 23, 3) := by decide +kernel
theorem dX6_goer_81 : decode cX6_goer 81 = .ok (.aload_n 0, 1) := by decide +kernel
theorem dX6_goer_82 : decode cX6_goer 82 = .ok (.getfield 29, 3) := by decide +kernel
theorem dX6_goer_85 : decode cX6_goer 85 = .ok (.getfield 107, 3) := by decide +kernel
theorem dX6_goer_88 : decode cX6_goer 88 = .ok (.iload_n 1, 1) := by decide +kernel
theorem dX6_goer_89 : decode cX6_goer 89 = .ok (.iaload, 1) := by decide +kernel
theorem dX6_goer_90 : decode cX6_goer 90 = .ok (.aload_n 0, 1) := by decide +kernel
theorem dX6_goer_91 : decode cX6_goer 91 = .ok (.getfield 29, 3) := by decide +kernel
theorem dX6_goer_94 : decode cX6_goer 94 = .ok (.getfield 110, 3) := by decide +kernel
theorem dX6_goer_97 : decode cX6_goer 97 = .ok (.isub, 1) := by decide +kernel
theorem dX6_goer_98 : decode cX6_goer 98 = .ok (.goto 4, 3) := by decide +kernel
theorem dX6_goer_101 : decode cX6_goer 101 = .ok (.iconst 0, 1) := by decide +kernel
theorem dX6_goer_102 : decode cX6_goer 102 = .ok (.ireturn, 1) := by decide +kernel
theorem dX6_goer_103 : decode cX6_goer 103 = .ok (.aload_n 0, 1) := by decide +kernel
theorem dX6_goer_104 : decode cX6_goer 104 = .ok (.getfield 29, 3) := by decide +kernel
theorem dX6_goer_107 : decode cX6_goer 107 = .ok (.getfield 113, 3) := by decide +kernel
theorem dX6_goer_110 : decode cX6_goer 110 = .ok (.iload_n 1, 1) := by decide +kernel
theorem dX6_goer_111 : decode cX6_goer 111 = .ok (.iaload, 1) := by decide +kernel
theorem dX6_goer_112 : decode cX6_goer 112 = .ok (.ireturn, 1) := by decide +kernel
theorem dX6_goer_113 : decode cX6_goer 113 = .ok (.aload_n 0, 1) := by decide +kernel
theorem dX6_goer_114 : decode cX6_goer 114 = .ok (.getfield 19, 3) := by decide +kernel
theorem dX6_goer_117 : decode cX6_goer 117 = .ok (.iload_n 1, 1) := by decide +kernel
theorem dX6_goer_118 : decode cX6_goer 118 = .ok (.invokevirtual 116, 3) := by decide +kernel
theorem dX6_goer_121 : decode cX6_goer 121 = .ok (.ireturn, 1) := by decide +kernel
theorem dX6_goer_122 : decode cX6_goer 122 = .ok (.iconst (-1), 1) := by decide +kernel
theorem dX6_goer_123 : decode cX6_goer 123 = .ok (.ireturn, 1) := by decide +kernel
theorem dX6_sister_0 : decode cX6_sister 0 = .ok (.iload_n 1, 1) := by decide +kernel
theorem dX6_sister_1 : decode cX6_sister 1 = .ok (.ifCond .lt 21, 3) := by decide +kernel
theorem dX6_sister_4 : decode cX6_sister 4 = .ok (.iload_n 1, 1) := by decide +kernel
theorem dX6_sister_5 : decode cX6_sister 5 = .ok (.aload_n 0, 1) := by decide +kernel
theorem dX6_sister_6 : decode cX6_sister 6 = .ok (.getfield 19, 3) := by decide +kernel
theorem dX6_sister_9 : decode cX6_sister 9 = .ok (.getfield 119, 3) := by decide +kernel
theorem dX6_sister_12 : decode cX6_sister 12 = .ok (.if_icmp .ge 10, 3) := by decide +kernel
theorem dX6_sister_15 : decode cX6_sister 15 = .ok (.iload_n 2, 1) := by decide +kernel
theorem dX6_sister_16 : decode cX6_sister 16 = .ok (.invokestatic 122, 3) := by decide +kernel
theorem dX6_sister_19 : decode cX6_sister 19 = .ok (.ifCond .ne 5, 3) := by decide +kernel
theorem dX6_sister_22 : decode cX6_sister 22 = .ok (.iconst (-1), 1) := by decide +kernel
theorem dX6_sister_23 : decode cX6_sister 23 = .ok (.ireturn, 1) := by decide +kernel
theorem dX6_sister_24 : decode cX6_sister 24 = .ok (.aload_n 0, 1) := by decide +kernel
theorem dX6_sister_25 : decode cX6_sister 25 = .ok (.getfield 19, 3) := by decide +kernel
theorem dX6_sister_28 : decode cX6_sister 28 = .ok (.iload_n 1, 1) := by decide +kernel
theorem dX6_sister_29 : decode cX6_sister 29 = .ok (.iload_n 2, 1) := by decide +kernel
theorem dX6_sister_30 : decode cX6_sister 30 = .ok (.invokevirtual 125, 3) := by decide +kernel
theorem dX6_sister_33 : decode cX6_sister 33 = .ok (.ireturn, 1) := by decide +kernel
theorem dX6_now_0 : decode cX6_now 0 = .ok (.iload_n 1, 1) := by decide +kernel
theorem dX6_now_1 : decode cX6_now 1 = .ok (.tableswitch 101 0 6 #[43, 51, 59, 67, 76, 85, 93], 43) := by decide +kernel
theorem dX6_now_44 : decode cX6_now 44 = .ok (.aload_n 0, 1) := by decide +kernel
theorem dX6_now_45 : decode cX6_now 45 = .ok (.getfield 29, 3) := by decide +kernel
theorem dX6_now_48 : decode cX6_now 48 = .ok (.getfield 110, 3) := by decide +kernel
theorem dX6_now_51 : decode cX6_now 51 = .ok (.ireturn, 1) := by decide +kernel
theorem dX6_now_52 : decode cX6_now 52 = .ok (.aload_n 0, 1) := by decide +kernel
theorem dX6_now_53 : decode cX6_now 53 = .ok (.getfield 29, 3) := by decide +kernel
theorem dX6_now_56 : decode cX6_now 56 = .ok (.getfield 129, 3) := by decide +kernel
theorem dX6_now_59 : decode cX6_now 59 = .ok (.ireturn, 1) := by decide +kernel
theorem dX6_now_60 : decode cX6_now 60 = .ok (.aload_n 0, 1) := by decide +kernel
theorem dX6_now_61 : decode cX6_now 61 = .ok (.getfield 29, 3) := by decide +kernel
theorem dX6_now_64 : decode cX6_now 64 = .ok (.getfield 132, 3) := by decide +kernel
theorem dX6_now_67 : decode cX6_now 67 = .ok (.ireturn, 1) := by decide +kernel
theorem dX6_now_68 : decode cX6_now 68 = .ok (.aload_n 0, 1) := by decide +kernel
theorem dX6_now_69 : decode cX6_now 69 = .ok (.getfield 29, 3) := by decide +kernel
theorem dX6_now_72 : decode cX6_now 72 = .ok (.iconst 1, 1) := by decide +kernel
theorem dX6_now_73 : decode cX6_now 73 = .ok (.invokevirtual 135, 3) := by decide +kernel
theorem dX6_now_76 : decode cX6_now 76 = .ok (.ireturn, 1) := by decide +kernel
theorem dX6_now_77 : decode cX6_now 77 = .ok (.aload_n 0, 1) := by decide +kernel
theorem dX6_now_78 : decode cX6_now 78 = .ok (.getfield 29, 3) := by decide +kernel
theorem dX6_now_81 : decode cX6_now 81 = .ok (.iconst 3, 1) := by decide +kernel
theorem dX6_now_82 : decode cX6_now 82 = .ok (.invokevirtual 135, 3) := by decide +kernel
theorem dX6_now_85 : decode cX6_now 85 = .ok (.ireturn, 1) := by decide +kernel
theorem dX6_now_86 : decode cX6_now 86 = .ok (.aload_n 0, 1) := by decide +kernel
theorem dX6_now_87 : decode cX6_now 87 = .ok (.getfield 19, 3) := by decide +kernel
theorem dX6_now_90 : decode cX6_now 90 = .ok (.invokevirtual 138, 3) := by decide +kernel
theorem dX6_now_93 : decode cX6_now 93 = .ok (.ireturn, 1) := by decide +kernel
theorem dX6_now_94 : decode cX6_now 94 = .ok (.aload_n 0, 1) := by decide +kernel
theorem dX6_now_95 : decode cX6_now 95 = .ok (.getfield 36, 3) := by decide +kernel
theorem dX6_now_98 : decode cX6_now 98 = .ok (.getfield 81, 3) := by decide +kernel
theorem dX6_now_101 : decode cX6_now 101 = .ok (.ireturn, 1) := by decide +kernel
theorem dX6_now_102 : decode cX6_now 102 = .ok (.iconst (-1), 1) := by decide +kernel
theorem dX6_now_103 : decode cX6_now 103 = .ok (.ireturn, 1) := by decide +kernel
theorem dX6_comes_0 : decode cX6_comes 0 = .ok (.aload_n 0, 1) := by decide +kernel
theorem dX6_comes_1 : decode cX6_comes 1 = .ok (.getfield 19, 3) := by decide +kernel
theorem dX6_comes_4 : decode cX6_comes 4 = .ok (.iload_n 1, 1) := by decide +kernel
theorem dX6_comes_5 : decode cX6_comes 5 = .ok (.invokevirtual 98, 3) := by decide +kernel
theorem dX6_comes_8 : decode cX6_comes 8 = .ok (.ifCond .ne 5, 3) := by decide +kernel
theorem dX6_comes_11 : decode cX6_comes 11 = .ok (.iconst (-1), 1) := by decide +kernel
theorem dX6_comes_12 : decode cX6_comes 12 = .ok (.ireturn, 1) := by decide +kernel
theorem dX6_comes_13 : decode cX6_comes 13 = .ok (.aload_n 0, 1) := by decide +kernel
theorem dX6_comes_14 : decode cX6_comes 14 = .ok (.getfield 29, 3) := by decide +kernel
theorem dX6_comes_17 : decode cX6_comes 17 = .ok (.getfield 104, 3) := by decide +kernel
theorem dX6_comes_20 : decode cX6_comes 20 = .ok (.iload_n 1, 1) := by decide +kernel
theorem dX6_comes_21 : decode cX6_comes 21 = .ok (.iaload, 1) := by decide +kernel
theorem dX6_comes_22 : decode cX6_comes 22 = .ok (.ifCond .eq 6, 3) := by decide +kernel
theorem dX6_comes_25 : decode cX6_comes 25 = .ok (.bipush (-2), 2) := by decide +kernel
theorem dX6_comes_27 : decode cX6_comes 27 = .ok (.ireturn, 1) := by decide +kernel
theorem dX6_comes_28 : decode cX6_comes 28 = .ok (.aload_n 0, 1) := by decide +kernel
theorem dX6_comes_29 : decode cX6_comes 29 = .ok (.getfield 36, 3) := by decide +kernel
theorem dX6_comes_32 : decode cX6_comes 32 = .ok (.aload_n 0, 1) := by decide +kernel
theorem dX6_comes_33 : decode cX6_comes 33 = .ok (.getfield 29, 3) := by decide +kernel
theorem dX6_comes_36 : decode cX6_comes 36 = .ok (.invokevirtual 142, 3) := by decide +kernel
theorem dX6_comes_39 : decode cX6_comes 39 = .ok (.aload_n 0, 1) := by decide +kernel
theorem dX6_comes_40 : decode cX6_comes 40 = .ok (.getfield 29, 3) := by decide +kernel
theorem dX6_comes_43 : decode cX6_comes 43 = .ok (.getfield 104, 3) := by decide +kernel
theorem dX6_comes_46 : decode cX6_comes 46 = .ok (.iload_n 1, 1) := by decide +kernel
theorem dX6_comes_47 : decode cX6_comes 47 = .ok (.iconst 1, 1) := by decide +kernel
theorem dX6_comes_48 : decode cX6_comes 48 = .ok (.iastore, 1) := by decide +kernel
theorem dX6_comes_49 : decode cX6_comes 49 = .ok (.aload_n 0, 1) := by decide +kernel
theorem dX6_comes_50 : decode cX6_comes 50 = .ok (.getfield 29, 3) := by decide +kernel
theorem dX6_comes_53 : decode cX6_comes 53 = .ok (.iconst 1, 1) := by decide +kernel
theorem dX6_comes_54 : decode cX6_comes 54 = .ok (.invokevirtual 135, 3) := by decide +kernel
theorem dX6_comes_57 : decode cX6_comes 57 = .ok (.invokestatic 146, 3) := by decide +kernel
theorem dX6_comes_60 : decode cX6_comes 60 = .ok (.ireturn, 1) := by decide +kernel
theorem dX6_says_0 : decode cX6_says 0 = .ok (.aload_n 0, 1) := by decide +kernel
theorem dX6_says_1 : decode cX6_says 1 = .ok (.getfield 19, 3) := by decide +kernel
theorem dX6_says_4 : decode cX6_says 4 = .ok (.iload_n 1, 1) := by decide +kernel
theorem dX6_says_5 : decode cX6_says 5 = .ok (.invokevirtual 98, 3) := by decide +kernel
theorem dX6_says_8 : decode cX6_says 8 = .ok (.ifCond .eq 10, 3) := by decide +kernel
theorem dX6_says_11 : decode cX6_says 11 = .ok (.iload_n 2, 1) := by decide +kernel
theorem dX6_says_12 : decode cX6_says 12 = .ok (.invokestatic 122, 3) := by decide +kernel
theorem dX6_says_15 : decode cX6_says 15 = .ok (.ifCond .ne 5, 3) := by decide +kernel
theorem dX6_says_18 : decode cX6_says 18 = .ok (.iconst (-1), 1) := by decide +kernel
theorem dX6_says_19 : decode cX6_says 19 = .ok (.ireturn, 1) := by decide +kernel
theorem dX6_says_20 : decode cX6_says 20 = .ok (.aload_n 0, 1) := by decide +kernel
theorem dX6_says_21 : decode cX6_says 21 = .ok (.getfield 29, 3) := by decide +kernel
theorem dX6_says_24 : decode cX6_says 24 = .ok (.getfield 104, 3) := by decide +kernel
theorem dX6_says_27 : decode cX6_says 27 = .ok (.iload_n 1, 1) := by decide +kernel
theorem dX6_says_28 : decode cX6_says 28 = .ok (.iaload, 1) := by decide +kernel
theorem dX6_says_29 : decode cX6_says 29 = .ok (.iconst 1, 1) := by decide +kernel
theorem dX6_says_30 : decode cX6_says 30 = .ok (.if_icmp .ne 13, 3) := by decide +kernel
theorem dX6_says_33 : decode cX6_says 33 = .ok (.aload_n 0, 1) := by decide +kernel
theorem dX6_says_34 : decode cX6_says 34 = .ok (.getfield 19, 3) := by decide +kernel
theorem dX6_says_37 : decode cX6_says 37 = .ok (.getfield 151, 3) := by decide +kernel
theorem dX6_says_40 : decode cX6_says 40 = .ok (.ifCond .ne 6, 3) := by decide +kernel
theorem dX6_says_43 : decode cX6_says 43 = .ok (.bipush (-2), 2) := by decide +kernel
theorem dX6_says_45 : decode cX6_says 45 = .ok (.ireturn, 1) := by decide +kernel
theorem dX6_says_46 : decode cX6_says 46 = .ok (.aload_n 0, 1) := by decide +kernel
theorem dX6_says_47 : decode cX6_says 47 = .ok (.getfield 36, 3) := by decide +kernel
theorem dX6_says_50 : decode cX6_says 50 = .ok (.aload_n 0, 1) := by decide +kernel
theorem dX6_says_51 : decode cX6_says 51 = .ok (.getfield 29, 3) := by decide +kernel
theorem dX6_says_54 : decode cX6_says 54 = .ok (.invokevirtual 142, 3) := by decide +kernel
theorem dX6_says_57 : decode cX6_says 57 = .ok (.aload_n 0, 1) := by decide +kernel
theorem dX6_says_58 : decode cX6_says 58 = .ok (.getfield 19, 3) := by decide +kernel
theorem dX6_says_61 : decode cX6_says 61 = .ok (.aload_n 0, 1) := by decide +kernel
theorem dX6_says_62 : decode cX6_says 62 = .ok (.getfield 29, 3) := by decide +kernel
theorem dX6_says_65 : decode cX6_says 65 = .ok (.getfield 129, 3) := by decide +kernel
theorem dX6_says_68 : decode cX6_says 68 = .ok (.iload_n 1, 1) := by decide +kernel
theorem dX6_says_69 : decode cX6_says 69 = .ok (.invokevirtual 154, 3) := by decide +kernel
theorem dX6_says_72 : decode cX6_says 72 = .ok (.iload_n 2, 1) := by decide +kernel
theorem dX6_says_73 : decode cX6_says 73 = .ok (.invokestatic 157, 3) := by decide +kernel
theorem dX6_says_76 : decode cX6_says 76 = .ok (.istore_n 3, 1) := by decide +kernel
theorem dX6_says_77 : decode cX6_says 77 = .ok (.iload_n 3, 1) := by decide +kernel
theorem dX6_says_78 : decode cX6_says 78 = .ok (.ifCond .eq 16, 3) := by decide +kernel
theorem dX6_says_81 : decode cX6_says 81 = .ok (.aload_n 0, 1) := by decide +kernel
theorem dX6_says_82 : decode cX6_says 82 = .ok (.getfield 29, 3) := by decide +kernel
theorem dX6_says_85 : decode cX6_says 85 = .ok (.getfield 104, 3) := by decide +kernel
theorem dX6_says_88 : decode cX6_says 88 = .ok (.iload_n 1, 1) := by decide +kernel
theorem dX6_says_89 : decode cX6_says 89 = .ok (.iconst 3, 1) := by decide +kernel
theorem dX6_says_90 : decode cX6_says 90 = .ok (.iastore, 1) := by decide +kernel
theorem dX6_says_91 : decode cX6_says 91 = .ok (.goto 18, 3) := by decide +kernel
theorem dX6_says_94 : decode cX6_says 94 = .ok (.aload_n 0, 1) := by decide +kernel
theorem dX6_says_95 : decode cX6_says 95 = .ok (.getfield 29, 3) := by decide +kernel
theorem dX6_says_98 : decode cX6_says 98 = .ok (.iload_n 1, 1) := by decide +kernel
theorem dX6_says_99 : decode cX6_says 99 = .ok (.aload_n 0, 1) := by decide +kernel
theorem dX6_says_100 : decode cX6_says 100 = .ok (.getfield 19, 3) := by decide +kernel
theorem dX6_says_103 : decode cX6_says 103 = .ok (.getfield 161, 3) := by decide +kernel
theorem dX6_says_106 : decode cX6_says 106 = .ok (.invokevirtual 164, 3) := by decide +kernel
theorem dX6_says_109 : decode cX6_says 109 = .ok (.aload_n 0, 1) := by decide +kernel
theorem dX6_says_110 : decode cX6_says 110 = .ok (.getfield 29, 3) := by decide +kernel
theorem dX6_says_113 : decode cX6_says 113 = .ok (.aload_n 0, 1) := by decide +kernel
theorem dX6_says_114 : decode cX6_says 114 = .ok (.getfield 19, 3) := by decide +kernel
theorem dX6_says_117 : decode cX6_says 117 = .ok (.aload_n 0, 1) := by decide +kernel
theorem dX6_says_118 : decode cX6_says 118 = .ok (.getfield 29, 3) := by decide +kernel
theorem dX6_says_121 : decode cX6_says 121 = .ok (.getfield 129, 3) := by decide +kernel
theorem dX6_says_124 : decode cX6_says 124 = .ok (.iconst 1, 1) := by decide +kernel
theorem dX6_says_125 : decode cX6_says 125 = .ok (.invokevirtual 168, 3) := by decide +kernel
theorem dX6_says_128 : decode cX6_says 128 = .ok (.putfield 129, 3) := by decide +kernel
theorem dX6_says_131 : decode cX6_says 131 = .ok (.aload_n 0, 1) := by decide +kernel
theorem dX6_says_132 : decode cX6_says 132 = .ok (.getfield 29, 3) := by decide +kernel
theorem dX6_says_135 : decode cX6_says 135 = .ok (.sipush 999, 3) := by decide +kernel
theorem dX6_says_138 : decode cX6_says 138 = .ok (.aload_n 0, 1) := by decide +kernel
theorem dX6_says_139 : decode cX6_says 139 = .ok (.getfield 29, 3) := by decide +kernel
theorem dX6_says_142 : decode cX6_says 142 = .ok (.getfield 132, 3) := by decide +kernel
theorem dX6_says_145 : decode cX6_says 145 = .ok (.iconst 1, 1) := by decide +kernel
theorem dX6_says_146 : decode cX6_says 146 = .ok (.iadd, 1) := by decide +kernel
theorem dX6_says_147 : decode cX6_says 147 = .ok (.invokestatic 171, 3) := by decide +kernel
theorem dX6_says_150 : decode cX6_says 150 = .ok (.putfield 132, 3) := by decide +kernel
theorem dX6_says_153 : decode cX6_says 153 = .ok (.iload_n 3, 1) := by decide +kernel
theorem dX6_says_154 : decode cX6_says 154 = .ok (.ifCond .eq 7, 3) := by decide +kernel
theorem dX6_says_157 : decode cX6_says 157 = .ok (.iconst 1, 1) := by decide +kernel
theorem dX6_says_158 : decode cX6_says 158 = .ok (.goto 4, 3) := by decide +kernel
theorem dX6_says_161 : decode cX6_says 161 = .ok (.iconst 0, 1) := by decide +kernel
theorem dX6_says_162 : decode cX6_says 162 = .ok (.ireturn, 1) := by decide +kernel
theorem dX6_minutes_0 : decode cX6_minutes 0 = .ok (.iload_n 1, 1) := by decide +kernel
theorem dX6_minutes_1 : decode cX6_minutes 1 = .ok (.iconst 1, 1) := by decide +kernel
theorem dX6_minutes_2 : decode cX6_minutes 2 = .ok (.if_icmp .lt 9, 3) := by decide +kernel
theorem dX6_minutes_5 : decode cX6_minutes 5 = .ok (.iload_n 1, 1) := by decide +kernel
theorem dX6_minutes_6 : decode cX6_minutes 6 = .ok (.bipush 9, 2) := by decide +kernel
theorem dX6_minutes_8 : decode cX6_minutes 8 = .ok (.if_icmp .le 5, 3) := by decide +kernel
theorem dX6_minutes_11 : decode cX6_minutes 11 = .ok (.iconst (-1), 1) := by decide +kernel
theorem dX6_minutes_12 : decode cX6_minutes 12 = .ok (.ireturn, 1) := by decide +kernel
theorem dX6_minutes_13 : decode cX6_minutes 13 = .ok (.aload_n 0, 1) := by decide +kernel
theorem dX6_minutes_14 : decode cX6_minutes 14 = .ok (.getfield 29, 3) := by decide +kernel
theorem dX6_minutes_17 : decode cX6_minutes 17 = .ok (.getfield 110, 3) := by decide +kernel
theorem dX6_minutes_20 : decode cX6_minutes 20 = .ok (.iload_n 1, 1) := by decide +kernel
theorem dX6_minutes_21 : decode cX6_minutes 21 = .ok (.iadd, 1) := by decide +kernel
theorem dX6_minutes_22 : decode cX6_minutes 22 = .ok (.sipush 999, 3) := by decide +kernel
theorem dX6_minutes_25 : decode cX6_minutes 25 = .ok (.if_icmp .le 6, 3) := by decide +kernel
theorem dX6_minutes_28 : decode cX6_minutes 28 = .ok (.bipush (-2), 2) := by decide +kernel
theorem dX6_minutes_30 : decode cX6_minutes 30 = .ok (.ireturn, 1) := by decide +kernel
theorem dX6_minutes_31 : decode cX6_minutes 31 = .ok (.aload_n 0, 1) := by decide +kernel
theorem dX6_minutes_32 : decode cX6_minutes 32 = .ok (.getfield 36, 3) := by decide +kernel
theorem dX6_minutes_35 : decode cX6_minutes 35 = .ok (.aload_n 0, 1) := by decide +kernel
theorem dX6_minutes_36 : decode cX6_minutes 36 = .ok (.getfield 29, 3) := by decide +kernel
theorem dX6_minutes_39 : decode cX6_minutes 39 = .ok (.invokevirtual 142, 3) := by decide +kernel
theorem dX6_minutes_42 : decode cX6_minutes 42 = .ok (.aload_n 0, 1) := by decide +kernel
theorem dX6_minutes_43 : decode cX6_minutes 43 = .ok (.getfield 29, 3) := by decide +kernel
theorem dX6_minutes_46 : decode cX6_minutes 46 = .ok (.iload_n 1, 1) := by decide +kernel
theorem dX6_minutes_47 : decode cX6_minutes 47 = .ok (.invokevirtual 176, 3) := by decide +kernel
theorem dX6_minutes_50 : decode cX6_minutes 50 = .ok (.aload_n 0, 1) := by decide +kernel
theorem dX6_minutes_51 : decode cX6_minutes 51 = .ok (.getfield 29, 3) := by decide +kernel
theorem dX6_minutes_54 : decode cX6_minutes 54 = .ok (.iconst 1, 1) := by decide +kernel
theorem dX6_minutes_55 : decode cX6_minutes 55 = .ok (.invokevirtual 135, 3) := by decide +kernel
theorem dX6_minutes_58 : decode cX6_minutes 58 = .ok (.invokestatic 146, 3) := by decide +kernel
theorem dX6_minutes_61 : decode cX6_minutes 61 = .ok (.ireturn, 1) := by decide +kernel
theorem dX6_undo_0 : decode cX6_undo 0 = .ok (.aload_n 0, 1) := by decide +kernel
theorem dX6_undo_1 : decode cX6_undo 1 = .ok (.getfield 36, 3) := by decide +kernel
theorem dX6_undo_4 : decode cX6_undo 4 = .ok (.getfield 81, 3) := by decide +kernel
theorem dX6_undo_7 : decode cX6_undo 7 = .ok (.ifCond .ne 6, 3) := by decide +kernel
theorem dX6_undo_10 : decode cX6_undo 10 = .ok (.bipush (-2), 2) := by decide +kernel
theorem dX6_undo_12 : decode cX6_undo 12 = .ok (.ireturn, 1) := by decide +kernel
theorem dX6_undo_13 : decode cX6_undo 13 = .ok (.aload_n 0, 1) := by decide +kernel
theorem dX6_undo_14 : decode cX6_undo 14 = .ok (.getfield 36, 3) := by decide +kernel
theorem dX6_undo_17 : decode cX6_undo 17 = .ok (.aload_n 0, 1) := by decide +kernel
theorem dX6_undo_18 : decode cX6_undo 18 = .ok (.getfield 29, 3) := by decide +kernel
theorem dX6_undo_21 : decode cX6_undo 21 = .ok (.invokevirtual 180, 3) := by decide +kernel
theorem dX6_undo_24 : decode cX6_undo 24 = .ok (.aload_n 0, 1) := by decide +kernel
theorem dX6_undo_25 : decode cX6_undo 25 = .ok (.getfield 36, 3) := by decide +kernel
theorem dX6_undo_28 : decode cX6_undo 28 = .ok (.getfield 81, 3) := by decide +kernel
theorem dX6_undo_31 : decode cX6_undo 31 = .ok (.ireturn, 1) := by decide +kernel
theorem dX6_fewest_0 : decode cX6_fewest 0 = .ok (.aload_n 0, 1) := by decide +kernel
theorem dX6_fewest_1 : decode cX6_fewest 1 = .ok (.getfield 19, 3) := by decide +kernel
theorem dX6_fewest_4 : decode cX6_fewest 4 = .ok (.iload_n 1, 1) := by decide +kernel
theorem dX6_fewest_5 : decode cX6_fewest 5 = .ok (.invokevirtual 98, 3) := by decide +kernel
theorem dX6_fewest_8 : decode cX6_fewest 8 = .ok (.ifCond .eq 12, 3) := by decide +kernel
theorem dX6_fewest_11 : decode cX6_fewest 11 = .ok (.iload_n 2, 1) := by decide +kernel
theorem dX6_fewest_12 : decode cX6_fewest 12 = .ok (.ifCond .lt 8, 3) := by decide +kernel
theorem dX6_fewest_15 : decode cX6_fewest 15 = .ok (.iload_n 2, 1) := by decide +kernel
theorem dX6_fewest_16 : decode cX6_fewest 16 = .ok (.iconst 1, 1) := by decide +kernel
theorem dX6_fewest_17 : decode cX6_fewest 17 = .ok (.if_icmp .le 5, 3) := by decide +kernel
theorem dX6_fewest_20 : decode cX6_fewest 20 = .ok (.iconst (-1), 1) := by decide +kernel
theorem dX6_fewest_21 : decode cX6_fewest 21 = .ok (.ireturn, 1) := by decide +kernel
theorem dX6_fewest_22 : decode cX6_fewest 22 = .ok (.aload_n 0, 1) := by decide +kernel
theorem dX6_fewest_23 : decode cX6_fewest 23 = .ok (.getfield 29, 3) := by decide +kernel
theorem dX6_fewest_26 : decode cX6_fewest 26 = .ok (.getfield 104, 3) := by decide +kernel
theorem dX6_fewest_29 : decode cX6_fewest 29 = .ok (.iload_n 1, 1) := by decide +kernel
theorem dX6_fewest_30 : decode cX6_fewest 30 = .ok (.iaload, 1) := by decide +kernel
theorem dX6_fewest_31 : decode cX6_fewest 31 = .ok (.iconst 3, 1) := by decide +kernel
theorem dX6_fewest_32 : decode cX6_fewest 32 = .ok (.if_icmp .ne 6, 3) := by decide +kernel
theorem dX6_fewest_35 : decode cX6_fewest 35 = .ok (.bipush (-2), 2) := by decide +kernel
theorem dX6_fewest_37 : decode cX6_fewest 37 = .ok (.ireturn, 1) := by decide +kernel
theorem dX6_fewest_38 : decode cX6_fewest 38 = .ok (.iconst 0, 1) := by decide +kernel
theorem dX6_fewest_39 : decode cX6_fewest 39 = .ok (.istore_n 3, 1) := by decide +kernel
theorem dX6_fewest_40 : decode cX6_fewest 40 = .ok (.iload_n 3, 1) := by decide +kernel
theorem dX6_fewest_41 : decode cX6_fewest 41 = .ok (.aload_n 0, 1) := by decide +kernel
theorem dX6_fewest_42 : decode cX6_fewest 42 = .ok (.getfield 19, 3) := by decide +kernel
theorem dX6_fewest_45 : decode cX6_fewest 45 = .ok (.getfield 151, 3) := by decide +kernel
theorem dX6_fewest_48 : decode cX6_fewest 48 = .ok (.if_icmp .ge 55, 3) := by decide +kernel
theorem dX6_fewest_51 : decode cX6_fewest 51 = .ok (.aload_n 0, 1) := by decide +kernel
theorem dX6_fewest_52 : decode cX6_fewest 52 = .ok (.getfield 19, 3) := by decide +kernel
theorem dX6_fewest_55 : decode cX6_fewest 55 = .ok (.aload_n 0, 1) := by decide +kernel
theorem dX6_fewest_56 : decode cX6_fewest 56 = .ok (.getfield 19, 3) := by decide +kernel
theorem dX6_fewest_59 : decode cX6_fewest 59 = .ok (.aload_n 0, 1) := by decide +kernel
theorem dX6_fewest_60 : decode cX6_fewest 60 = .ok (.getfield 29, 3) := by decide +kernel
theorem dX6_fewest_63 : decode cX6_fewest 63 = .ok (.getfield 129, 3) := by decide +kernel
theorem dX6_fewest_66 : decode cX6_fewest 66 = .ok (.iload_n 3, 1) := by decide +kernel
theorem dX6_fewest_67 : decode cX6_fewest 67 = .ok (.invokevirtual 168, 3) := by decide +kernel
theorem dX6_fewest_70 : decode cX6_fewest 70 = .ok (.iload_n 1, 1) := by decide +kernel
theorem dX6_fewest_71 : decode cX6_fewest 71 = .ok (.invokevirtual 154, 3) := by decide +kernel
theorem dX6_fewest_74 : decode cX6_fewest 74 = .ok (.istore 4, 2) := by decide +kernel
theorem dX6_fewest_76 : decode cX6_fewest 76 = .ok (.iload 4, 2) := by decide +kernel
theorem dX6_fewest_78 : decode cX6_fewest 78 = .ok (.ifCond .eq 19, 3) := by decide +kernel
theorem dX6_fewest_81 : decode cX6_fewest 81 = .ok (.iload_n 2, 1) := by decide +kernel
theorem dX6_fewest_82 : decode cX6_fewest 82 = .ok (.ifCond .ne 9, 3) := by decide +kernel
theorem dX6_fewest_85 : decode cX6_fewest 85 = .ok (.iload_n 3, 1) := by decide +kernel
theorem dX6_fewest_86 : decode cX6_fewest 86 = .ok (.iconst 1, 1) := by decide +kernel
theorem dX6_fewest_87 : decode cX6_fewest 87 = .ok (.iadd, 1) := by decide +kernel
theorem dX6_fewest_88 : decode cX6_fewest 88 = .ok (.goto 8, 3) := by decide +kernel
theorem dX6_fewest_91 : decode cX6_fewest 91 = .ok (.iload 4, 2) := by decide +kernel
theorem dX6_fewest_93 : decode cX6_fewest 93 = .ok (.invokestatic 183, 3) := by decide +kernel
theorem dX6_fewest_96 : decode cX6_fewest 96 = .ok (.ireturn, 1) := by decide +kernel
theorem dX6_fewest_97 : decode cX6_fewest 97 = .ok (.iinc 3 1, 3) := by decide +kernel
theorem dX6_fewest_100 : decode cX6_fewest 100 = .ok (.goto (-60), 3) := by decide +kernel
theorem dX6_fewest_103 : decode cX6_fewest 103 = .ok (.bipush (-9), 2) := by decide +kernel
theorem dX6_fewest_105 : decode cX6_fewest 105 = .ok (.ireturn, 1) := by decide +kernel
theorem dX6_line_0 : decode cX6_line 0 = .ok (.iload_n 1, 1) := by decide +kernel
theorem dX6_line_1 : decode cX6_line 1 = .ok (.iconst (-1), 1) := by decide +kernel
theorem dX6_line_2 : decode cX6_line 2 = .ok (.if_icmp .lt 9, 3) := by decide +kernel
theorem dX6_line_5 : decode cX6_line 5 = .ok (.iload_n 1, 1) := by decide +kernel
theorem dX6_line_6 : decode cX6_line 6 = .ok (.bipush 6, 2) := by decide +kernel
theorem dX6_line_8 : decode cX6_line 8 = .ok (.if_icmp .lt 5, 3) := by decide +kernel
theorem dX6_line_11 : decode cX6_line 11 = .ok (.iconst (-1), 1) := by decide +kernel
theorem dX6_line_12 : decode cX6_line 12 = .ok (.ireturn, 1) := by decide +kernel
theorem dX6_line_13 : decode cX6_line 13 = .ok (.aload_n 0, 1) := by decide +kernel
theorem dX6_line_14 : decode cX6_line 14 = .ok (.getfield 58, 3) := by decide +kernel
theorem dX6_line_17 : decode cX6_line 17 = .ok (.aload_n 0, 1) := by decide +kernel
theorem dX6_line_18 : decode cX6_line 18 = .ok (.getfield 19, 3) := by decide +kernel
theorem dX6_line_21 : decode cX6_line 21 = .ok (.aload_n 0, 1) := by decide +kernel
theorem dX6_line_22 : decode cX6_line 22 = .ok (.getfield 29, 3) := by decide +kernel
theorem dX6_line_25 : decode cX6_line 25 = .ok (.invokevirtual 186, 3) := by decide +kernel
theorem dX6_line_28 : decode cX6_line 28 = .ok (.iload_n 1, 1) := by decide +kernel
theorem dX6_line_29 : decode cX6_line 29 = .ok (.iconst (-1), 1) := by decide +kernel
theorem dX6_line_30 : decode cX6_line 30 = .ok (.if_icmp .ne 15, 3) := by decide +kernel
theorem dX6_line_33 : decode cX6_line 33 = .ok (.aload_n 0, 1) := by decide +kernel
theorem dX6_line_34 : decode cX6_line 34 = .ok (.getfield 58, 3) := by decide +kernel
theorem dX6_line_37 : decode cX6_line 37 = .ok (.getfield 190, 3) := by decide +kernel
theorem dX6_line_40 : decode cX6_line 40 = .ok (.iconst 0, 1) := by decide +kernel
theorem dX6_line_41 : decode cX6_line 41 = .ok (.iaload, 1) := by decide +kernel
theorem dX6_line_42 : decode cX6_line 42 = .ok (.goto 19, 3) := by decide +kernel
theorem dX6_line_45 : decode cX6_line 45 = .ok (.aload_n 0, 1) := by decide +kernel
theorem dX6_line_46 : decode cX6_line 46 = .ok (.getfield 58, 3) := by decide +kernel
theorem dX6_line_49 : decode cX6_line 49 = .ok (.iload_n 1, 1) := by decide +kernel
theorem dX6_line_50 : decode cX6_line 50 = .ok (.aload_n 0, 1) := by decide +kernel
theorem dX6_line_51 : decode cX6_line 51 = .ok (.getfield 19, 3) := by decide +kernel
theorem dX6_line_54 : decode cX6_line 54 = .ok (.aload_n 0, 1) := by decide +kernel
theorem dX6_line_55 : decode cX6_line 55 = .ok (.getfield 29, 3) := by decide +kernel
theorem dX6_line_58 : decode cX6_line 58 = .ok (.invokevirtual 193, 3) := by decide +kernel
theorem dX6_line_61 : decode cX6_line 61 = .ok (.ireturn, 1) := by decide +kernel
theorem dX6_sees_0 : decode cX6_sees 0 = .ok (.iload_n 1, 1) := by decide +kernel
theorem dX6_sees_1 : decode cX6_sees 1 = .ok (.invokestatic 122, 3) := by decide +kernel
theorem dX6_sees_4 : decode cX6_sees 4 = .ok (.ifCond .eq 23, 3) := by decide +kernel
theorem dX6_sees_7 : decode cX6_sees 7 = .ok (.aload_n 0, 1) := by decide +kernel
theorem dX6_sees_8 : decode cX6_sees 8 = .ok (.getfield 19, 3) := by decide +kernel
theorem dX6_sees_11 : decode cX6_sees 11 = .ok (.iload_n 2, 1) := by decide +kernel
theorem dX6_sees_12 : decode cX6_sees 12 = .ok (.invokevirtual 87, 3) := by decide +kernel
theorem dX6_sees_15 : decode cX6_sees 15 = .ok (.ifCond .eq 12, 3) := by decide +kernel
theorem dX6_sees_18 : decode cX6_sees 18 = .ok (.iload_n 3, 1) := by decide +kernel
theorem dX6_sees_19 : decode cX6_sees 19 = .ok (.ifCond .lt 8, 3) := by decide +kernel
theorem dX6_sees_22 : decode cX6_sees 22 = .ok (.iload_n 3, 1) := by decide +kernel
theorem dX6_sees_23 : decode cX6_sees 23 = .ok (.iconst 1, 1) := by decide +kernel
theorem dX6_sees_24 : decode cX6_sees 24 = .ok (.if_icmp .le 5, 3) := by decide +kernel
theorem dX6_sees_27 : decode cX6_sees 27 = .ok (.iconst (-1), 1) := by decide +kernel
theorem dX6_sees_28 : decode cX6_sees 28 = .ok (.ireturn, 1) := by decide +kernel
theorem dX6_sees_29 : decode cX6_sees 29 = .ok (.aload_n 0, 1) := by decide +kernel
theorem dX6_sees_30 : decode cX6_sees 30 = .ok (.getfield 51, 3) := by decide +kernel
theorem dX6_sees_33 : decode cX6_sees 33 = .ok (.getfield 84, 3) := by decide +kernel
theorem dX6_sees_36 : decode cX6_sees 36 = .ok (.bipush 6, 2) := by decide +kernel
theorem dX6_sees_38 : decode cX6_sees 38 = .ok (.if_icmp .lt 6, 3) := by decide +kernel
theorem dX6_sees_41 : decode cX6_sees 41 = .ok (.bipush (-3), 2) := by decide +kernel
theorem dX6_sees_43 : decode cX6_sees 43 = .ok (.ireturn, 1) := by decide +kernel
theorem dX6_sees_44 : decode cX6_sees 44 = .ok (.aload_n 0, 1) := by decide +kernel
theorem dX6_sees_45 : decode cX6_sees 45 = .ok (.getfield 51, 3) := by decide +kernel
theorem dX6_sees_48 : decode cX6_sees 48 = .ok (.iload_n 1, 1) := by decide +kernel
theorem dX6_sees_49 : decode cX6_sees 49 = .ok (.iload_n 2, 1) := by decide +kernel
theorem dX6_sees_50 : decode cX6_sees 50 = .ok (.iload_n 3, 1) := by decide +kernel
theorem dX6_sees_51 : decode cX6_sees 51 = .ok (.invokevirtual 197, 3) := by decide +kernel
theorem dX6_sees_54 : decode cX6_sees 54 = .ok (.aload_n 0, 1) := by decide +kernel
theorem dX6_sees_55 : decode cX6_sees 55 = .ok (.getfield 51, 3) := by decide +kernel
theorem dX6_sees_58 : decode cX6_sees 58 = .ok (.getfield 84, 3) := by decide +kernel
theorem dX6_sees_61 : decode cX6_sees 61 = .ok (.ireturn, 1) := by decide +kernel
theorem dX6_forget_0 : decode cX6_forget 0 = .ok (.aload_n 0, 1) := by decide +kernel
theorem dX6_forget_1 : decode cX6_forget 1 = .ok (.getfield 51, 3) := by decide +kernel
theorem dX6_forget_4 : decode cX6_forget 4 = .ok (.getfield 84, 3) := by decide +kernel
theorem dX6_forget_7 : decode cX6_forget 7 = .ok (.istore_n 1, 1) := by decide +kernel
theorem dX6_forget_8 : decode cX6_forget 8 = .ok (.aload_n 0, 1) := by decide +kernel
theorem dX6_forget_9 : decode cX6_forget 9 = .ok (.getfield 51, 3) := by decide +kernel
theorem dX6_forget_12 : decode cX6_forget 12 = .ok (.iconst 0, 1) := by decide +kernel
theorem dX6_forget_13 : decode cX6_forget 13 = .ok (.putfield 84, 3) := by decide +kernel
theorem dX6_forget_16 : decode cX6_forget 16 = .ok (.iload_n 1, 1) := by decide +kernel
theorem dX6_forget_17 : decode cX6_forget 17 = .ok (.ireturn, 1) := by decide +kernel
theorem dX6_had_0 : decode cX6_had 0 = .ok (.iconst 0, 1) := by decide +kernel
theorem dX6_had_1 : decode cX6_had 1 = .ok (.istore_n 2, 1) := by decide +kernel
theorem dX6_had_2 : decode cX6_had 2 = .ok (.bipush 63, 2) := by decide +kernel
theorem dX6_had_4 : decode cX6_had 4 = .ok (.istore_n 3, 1) := by decide +kernel
theorem dX6_had_5 : decode cX6_had 5 = .ok (.iconst 0, 1) := by decide +kernel
theorem dX6_had_6 : decode cX6_had 6 = .ok (.istore 4, 2) := by decide +kernel
theorem dX6_had_8 : decode cX6_had 8 = .ok (.iconst 0, 1) := by decide +kernel
theorem dX6_had_9 : decode cX6_had 9 = .ok (.istore 5, 2) := by decide +kernel
theorem dX6_had_11 : decode cX6_had 11 = .ok (.iload 5, 2) := by decide +kernel
theorem dX6_had_13 : decode cX6_had 13 = .ok (.bipush 64, 2) := by decide +kernel
theorem dX6_had_15 : decode cX6_had 15 = .ok (.if_icmp .ge 40, 3) := by decide +kernel
theorem dX6_had_18 : decode cX6_had 18 = .ok (.aload_n 0, 1) := by decide +kernel
theorem dX6_had_19 : decode cX6_had 19 = .ok (.getfield 51, 3) := by decide +kernel
theorem dX6_had_22 : decode cX6_had 22 = .ok (.iload 5, 2) := by decide +kernel
theorem dX6_had_24 : decode cX6_had 24 = .ok (.aload_n 0, 1) := by decide +kernel
theorem dX6_had_25 : decode cX6_had 25 = .ok (.getfield 19, 3) := by decide +kernel
theorem dX6_had_28 : decode cX6_had 28 = .ok (.invokevirtual 201, 3) := by decide +kernel
theorem dX6_had_31 : decode cX6_had 31 = .ok (.ifCond .eq 18, 3) := by decide +kernel
theorem dX6_had_34 : decode cX6_had 34 = .ok (.iinc 2 1, 3) := by decide +kernel
theorem dX6_had_37 : decode cX6_had 37 = .ok (.iload_n 3, 1) := by decide +kernel
theorem dX6_had_38 : decode cX6_had 38 = .ok (.iload 5, 2) := by decide +kernel
theorem dX6_had_40 : decode cX6_had 40 = .ok (.iand, 1) := by decide +kernel
theorem dX6_had_41 : decode cX6_had 41 = .ok (.istore_n 3, 1) := by decide +kernel
theorem dX6_had_42 : decode cX6_had 42 = .ok (.iload 4, 2) := by decide +kernel
theorem dX6_had_44 : decode cX6_had 44 = .ok (.iload 5, 2) := by decide +kernel
theorem dX6_had_46 : decode cX6_had 46 = .ok (.ior, 1) := by decide +kernel
theorem dX6_had_47 : decode cX6_had 47 = .ok (.istore 4, 2) := by decide +kernel
theorem dX6_had_49 : decode cX6_had 49 = .ok (.iinc 5 1, 3) := by decide +kernel
theorem dX6_had_52 : decode cX6_had 52 = .ok (.goto (-41), 3) := by decide +kernel
theorem dX6_had_55 : decode cX6_had 55 = .ok (.iload_n 1, 1) := by decide +kernel
theorem dX6_had_56 : decode cX6_had 56 = .ok (.tableswitch 44 0 2 #[28, 30, 41], 28) := by decide +kernel
theorem dX6_had_84 : decode cX6_had 84 = .ok (.iload_n 2, 1) := by decide +kernel
theorem dX6_had_85 : decode cX6_had 85 = .ok (.ireturn, 1) := by decide +kernel
theorem dX6_had_86 : decode cX6_had 86 = .ok (.iload_n 2, 1) := by decide +kernel
theorem dX6_had_87 : decode cX6_had 87 = .ok (.ifCond .ne 8, 3) := by decide +kernel
theorem dX6_had_90 : decode cX6_had 90 = .ok (.bipush (-9), 2) := by decide +kernel
theorem dX6_had_92 : decode cX6_had 92 = .ok (.goto 4, 3) := by decide +kernel
theorem dX6_had_95 : decode cX6_had 95 = .ok (.iload_n 3, 1) := by decide +kernel
theorem dX6_had_96 : decode cX6_had 96 = .ok (.ireturn, 1) := by decide +kernel
theorem dX6_had_97 : decode cX6_had 97 = .ok (.iload 4, 2) := by decide +kernel
theorem dX6_had_99 : decode cX6_had 99 = .ok (.ireturn, 1) := by decide +kernel
theorem dX6_had_100 : decode cX6_had 100 = .ok (.iconst (-1), 1) := by decide +kernel
theorem dX6_had_101 : decode cX6_had 101 = .ok (.ireturn, 1) := by decide +kernel
theorem dX6_ask_0 : decode cX6_ask 0 = .ok (.aload_n 0, 1) := by decide +kernel
theorem dX6_ask_1 : decode cX6_ask 1 = .ok (.getfield 19, 3) := by decide +kernel
theorem dX6_ask_4 : decode cX6_ask 4 = .ok (.iload_n 1, 1) := by decide +kernel
theorem dX6_ask_5 : decode cX6_ask 5 = .ok (.invokevirtual 87, 3) := by decide +kernel
theorem dX6_ask_8 : decode cX6_ask 8 = .ok (.ifCond .ne 5, 3) := by decide +kernel
theorem dX6_ask_11 : decode cX6_ask 11 = .ok (.iconst (-1), 1) := by decide +kernel
theorem dX6_ask_12 : decode cX6_ask 12 = .ok (.ireturn, 1) := by decide +kernel
theorem dX6_ask_13 : decode cX6_ask 13 = .ok (.aload_n 0, 1) := by decide +kernel
theorem dX6_ask_14 : decode cX6_ask 14 = .ok (.iconst 0, 1) := by decide +kernel
theorem dX6_ask_15 : decode cX6_ask 15 = .ok (.invokevirtual 205, 3) := by decide +kernel
theorem dX6_ask_18 : decode cX6_ask 18 = .ok (.istore_n 2, 1) := by decide +kernel
theorem dX6_ask_19 : decode cX6_ask 19 = .ok (.iload_n 2, 1) := by decide +kernel
theorem dX6_ask_20 : decode cX6_ask 20 = .ok (.iconst 1, 1) := by decide +kernel
theorem dX6_ask_21 : decode cX6_ask 21 = .ok (.if_icmp .gt 6, 3) := by decide +kernel
theorem dX6_ask_24 : decode cX6_ask 24 = .ok (.bipush (-9), 2) := by decide +kernel
theorem dX6_ask_26 : decode cX6_ask 26 = .ok (.ireturn, 1) := by decide +kernel
theorem dX6_ask_27 : decode cX6_ask 27 = .ok (.iconst 0, 1) := by decide +kernel
theorem dX6_ask_28 : decode cX6_ask 28 = .ok (.istore_n 3, 1) := by decide +kernel
theorem dX6_ask_29 : decode cX6_ask 29 = .ok (.iload_n 2, 1) := by decide +kernel
theorem dX6_ask_30 : decode cX6_ask 30 = .ok (.iconst 1, 1) := by decide +kernel
theorem dX6_ask_31 : decode cX6_ask 31 = .ok (.iadd, 1) := by decide +kernel
theorem dX6_ask_32 : decode cX6_ask 32 = .ok (.istore 4, 2) := by decide +kernel
theorem dX6_ask_34 : decode cX6_ask 34 = .ok (.iconst 0, 1) := by decide +kernel
theorem dX6_ask_35 : decode cX6_ask 35 = .ok (.istore 5, 2) := by decide +kernel
theorem dX6_ask_37 : decode cX6_ask 37 = .ok (.iload 5, 2) := by decide +kernel
theorem dX6_ask_39 : decode cX6_ask 39 = .ok (.bipush 6, 2) := by decide +kernel
theorem dX6_ask_41 : decode cX6_ask 41 = .ok (.if_icmp .ge 43, 3) := by decide +kernel
theorem dX6_ask_44 : decode cX6_ask 44 = .ok (.aload_n 0, 1) := by decide +kernel
theorem dX6_ask_45 : decode cX6_ask 45 = .ok (.iload 5, 2) := by decide +kernel
theorem dX6_ask_47 : decode cX6_ask 47 = .ok (.iload_n 1, 1) := by decide +kernel
theorem dX6_ask_48 : decode cX6_ask 48 = .ok (.invokevirtual 208, 3) := by decide +kernel
theorem dX6_ask_51 : decode cX6_ask 51 = .ok (.istore 6, 2) := by decide +kernel
theorem dX6_ask_53 : decode cX6_ask 53 = .ok (.iload 6, 2) := by decide +kernel
theorem dX6_ask_55 : decode cX6_ask 55 = .ok (.iload_n 2, 1) := by decide +kernel
theorem dX6_ask_56 : decode cX6_ask 56 = .ok (.iload 6, 2) := by decide +kernel
theorem dX6_ask_58 : decode cX6_ask 58 = .ok (.isub, 1) := by decide +kernel
theorem dX6_ask_59 : decode cX6_ask 59 = .ok (.invokestatic 211, 3) := by decide +kernel
theorem dX6_ask_62 : decode cX6_ask 62 = .ok (.istore 7, 2) := by decide +kernel
theorem dX6_ask_64 : decode cX6_ask 64 = .ok (.iload 7, 2) := by decide +kernel
theorem dX6_ask_66 : decode cX6_ask 66 = .ok (.iload 4, 2) := by decide +kernel
theorem dX6_ask_68 : decode cX6_ask 68 = .ok (.if_icmp .ge 10, 3) := by decide +kernel
theorem dX6_ask_71 : decode cX6_ask 71 = .ok (.iload 7, 2) := by decide +kernel
theorem dX6_ask_73 : decode cX6_ask 73 = .ok (.istore 4, 2) := by decide +kernel
theorem dX6_ask_75 : decode cX6_ask 75 = .ok (.iload 5, 2) := by decide +kernel
theorem dX6_ask_77 : decode cX6_ask 77 = .ok (.istore_n 3, 1) := by decide +kernel
theorem dX6_ask_78 : decode cX6_ask 78 = .ok (.iinc 5 1, 3) := by decide +kernel
theorem dX6_ask_81 : decode cX6_ask 81 = .ok (.goto (-44), 3) := by decide +kernel
theorem dX6_ask_84 : decode cX6_ask 84 = .ok (.iload_n 3, 1) := by decide +kernel
theorem dX6_ask_85 : decode cX6_ask 85 = .ok (.ireturn, 1) := by decide +kernel
theorem dX6_setsLetBy_0 : decode cX6_setsLetBy 0 = .ok (.iconst 0, 1) := by decide +kernel
theorem dX6_setsLetBy_1 : decode cX6_setsLetBy 1 = .ok (.istore_n 3, 1) := by decide +kernel
theorem dX6_setsLetBy_2 : decode cX6_setsLetBy 2 = .ok (.iconst 0, 1) := by decide +kernel
theorem dX6_setsLetBy_3 : decode cX6_setsLetBy 3 = .ok (.istore 4, 2) := by decide +kernel
theorem dX6_setsLetBy_5 : decode cX6_setsLetBy 5 = .ok (.iload 4, 2) := by decide +kernel
theorem dX6_setsLetBy_7 : decode cX6_setsLetBy 7 = .ok (.bipush 64, 2) := by decide +kernel
theorem dX6_setsLetBy_9 : decode cX6_setsLetBy 9 = .ok (.if_icmp .ge 49, 3) := by decide +kernel
theorem dX6_setsLetBy_12 : decode cX6_setsLetBy 12 = .ok (.aload_n 0, 1) := by decide +kernel
theorem dX6_setsLetBy_13 : decode cX6_setsLetBy 13 = .ok (.getfield 19, 3) := by decide +kernel
theorem dX6_setsLetBy_16 : decode cX6_setsLetBy 16 = .ok (.iload_n 1, 1) := by decide +kernel
theorem dX6_setsLetBy_17 : decode cX6_setsLetBy 17 = .ok (.iload_n 2, 1) := by decide +kernel
theorem dX6_setsLetBy_18 : decode cX6_setsLetBy 18 = .ok (.invokevirtual 214, 3) := by decide +kernel
theorem dX6_setsLetBy_21 : decode cX6_setsLetBy 21 = .ok (.ifCond .eq 31, 3) := by decide +kernel
theorem dX6_setsLetBy_24 : decode cX6_setsLetBy 24 = .ok (.iload 4, 2) := by decide +kernel
theorem dX6_setsLetBy_26 : decode cX6_setsLetBy 26 = .ok (.iload_n 1, 1) := by decide +kernel
theorem dX6_setsLetBy_27 : decode cX6_setsLetBy 27 = .ok (.invokestatic 157, 3) := by decide +kernel
theorem dX6_setsLetBy_30 : decode cX6_setsLetBy 30 = .ok (.ifCond .eq 22, 3) := by decide +kernel
theorem dX6_setsLetBy_33 : decode cX6_setsLetBy 33 = .ok (.aload_n 0, 1) := by decide +kernel
theorem dX6_setsLetBy_34 : decode cX6_setsLetBy 34 = .ok (.getfield 51, 3) := by decide +kernel
theorem dX6_setsLetBy_37 : decode cX6_setsLetBy 37 = .ok (.iload 4, 2) := by decide +kernel
theorem dX6_setsLetBy_39 : decode cX6_setsLetBy 39 = .ok (.aload_n 0, 1) := by decide +kernel
theorem dX6_setsLetBy_40 : decode cX6_setsLetBy 40 = .ok (.getfield 19, 3) := by decide +kernel
theorem dX6_setsLetBy_43 : decode cX6_setsLetBy 43 = .ok (.invokevirtual 201, 3) := by decide +kernel
theorem dX6_setsLetBy_46 : decode cX6_setsLetBy 46 = .ok (.ifCond .eq 6, 3) := by decide +kernel
theorem dX6_setsLetBy_49 : decode cX6_setsLetBy 49 = .ok (.iinc 3 1, 3) := by decide +kernel
theorem dX6_setsLetBy_52 : decode cX6_setsLetBy 52 = .ok (.iinc 4 1, 3) := by decide +kernel
theorem dX6_setsLetBy_55 : decode cX6_setsLetBy 55 = .ok (.goto (-50), 3) := by decide +kernel
theorem dX6_setsLetBy_58 : decode cX6_setsLetBy 58 = .ok (.iload_n 3, 1) := by decide +kernel
theorem dX6_setsLetBy_59 : decode cX6_setsLetBy 59 = .ok (.ireturn, 1) := by decide +kernel
theorem dX6_tale_0 : decode cX6_tale 0 = .ok (.iload_n 1, 1) := by decide +kernel
theorem dX6_tale_1 : decode cX6_tale 1 = .ok (.invokestatic 122, 3) := by decide +kernel
theorem dX6_tale_4 : decode cX6_tale 4 = .ok (.ifCond .eq 13, 3) := by decide +kernel
theorem dX6_tale_7 : decode cX6_tale 7 = .ok (.iload_n 2, 1) := by decide +kernel
theorem dX6_tale_8 : decode cX6_tale 8 = .ok (.ifCond .lt 9, 3) := by decide +kernel
theorem dX6_tale_11 : decode cX6_tale 11 = .ok (.iload_n 2, 1) := by decide +kernel
theorem dX6_tale_12 : decode cX6_tale 12 = .ok (.bipush 99, 2) := by decide +kernel
theorem dX6_tale_14 : decode cX6_tale 14 = .ok (.if_icmp .le 5, 3) := by decide +kernel
theorem dX6_tale_17 : decode cX6_tale 17 = .ok (.iconst (-1), 1) := by decide +kernel
theorem dX6_tale_18 : decode cX6_tale 18 = .ok (.ireturn, 1) := by decide +kernel
theorem dX6_tale_19 : decode cX6_tale 19 = .ok (.aload_n 0, 1) := by decide +kernel
theorem dX6_tale_20 : decode cX6_tale 20 = .ok (.getfield 19, 3) := by decide +kernel
theorem dX6_tale_23 : decode cX6_tale 23 = .ok (.iload_n 1, 1) := by decide +kernel
theorem dX6_tale_24 : decode cX6_tale 24 = .ok (.iload_n 2, 1) := by decide +kernel
theorem dX6_tale_25 : decode cX6_tale 25 = .ok (.invokevirtual 217, 3) := by decide +kernel
theorem dX6_tale_28 : decode cX6_tale 28 = .ok (.ireturn, 1) := by decide +kernel
theorem dX6_first_0 : decode cX6_first 0 = .ok (.iload_n 1, 1) := by decide +kernel
theorem dX6_first_1 : decode cX6_first 1 = .ok (.invokestatic 122, 3) := by decide +kernel
theorem dX6_first_4 : decode cX6_first 4 = .ok (.ifCond .eq 13, 3) := by decide +kernel
theorem dX6_first_7 : decode cX6_first 7 = .ok (.iload_n 2, 1) := by decide +kernel
theorem dX6_first_8 : decode cX6_first 8 = .ok (.ifCond .lt 9, 3) := by decide +kernel
theorem dX6_first_11 : decode cX6_first 11 = .ok (.iload_n 2, 1) := by decide +kernel
theorem dX6_first_12 : decode cX6_first 12 = .ok (.bipush 99, 2) := by decide +kernel
theorem dX6_first_14 : decode cX6_first 14 = .ok (.if_icmp .le 5, 3) := by decide +kernel
theorem dX6_first_17 : decode cX6_first 17 = .ok (.iconst (-1), 1) := by decide +kernel
theorem dX6_first_18 : decode cX6_first 18 = .ok (.ireturn, 1) := by decide +kernel
theorem dX6_first_19 : decode cX6_first 19 = .ok (.iconst 0, 1) := by decide +kernel
theorem dX6_first_20 : decode cX6_first 20 = .ok (.istore_n 3, 1) := by decide +kernel
theorem dX6_first_21 : decode cX6_first 21 = .ok (.iconst 0, 1) := by decide +kernel
theorem dX6_first_22 : decode cX6_first 22 = .ok (.istore 4, 2) := by decide +kernel
theorem dX6_first_24 : decode cX6_first 24 = .ok (.iload 4, 2) := by decide +kernel
theorem dX6_first_26 : decode cX6_first 26 = .ok (.bipush 6, 2) := by decide +kernel
theorem dX6_first_28 : decode cX6_first 28 = .ok (.if_icmp .ge 30, 3) := by decide +kernel
theorem dX6_first_31 : decode cX6_first 31 = .ok (.aload_n 0, 1) := by decide +kernel
theorem dX6_first_32 : decode cX6_first 32 = .ok (.getfield 19, 3) := by decide +kernel
theorem dX6_first_35 : decode cX6_first 35 = .ok (.iload 4, 2) := by decide +kernel
theorem dX6_first_37 : decode cX6_first 37 = .ok (.iload_n 2, 1) := by decide +kernel
theorem dX6_first_38 : decode cX6_first 38 = .ok (.invokevirtual 217, 3) := by decide +kernel
theorem dX6_first_41 : decode cX6_first 41 = .ok (.iload_n 1, 1) := by decide +kernel
theorem dX6_first_42 : decode cX6_first 42 = .ok (.if_icmp .ne 10, 3) := by decide +kernel
theorem dX6_first_45 : decode cX6_first 45 = .ok (.iload_n 3, 1) := by decide +kernel
theorem dX6_first_46 : decode cX6_first 46 = .ok (.iconst 1, 1) := by decide +kernel
theorem dX6_first_47 : decode cX6_first 47 = .ok (.iload 4, 2) := by decide +kernel
theorem dX6_first_49 : decode cX6_first 49 = .ok (.ishl, 1) := by decide +kernel
theorem dX6_first_50 : decode cX6_first 50 = .ok (.ior, 1) := by decide +kernel
theorem dX6_first_51 : decode cX6_first 51 = .ok (.istore_n 3, 1) := by decide +kernel
theorem dX6_first_52 : decode cX6_first 52 = .ok (.iinc 4 1, 3) := by decide +kernel
theorem dX6_first_55 : decode cX6_first 55 = .ok (.goto (-31), 3) := by decide +kernel
theorem dX6_first_58 : decode cX6_first 58 = .ok (.iload_n 3, 1) := by decide +kernel
theorem dX6_first_59 : decode cX6_first 59 = .ok (.ireturn, 1) := by decide +kernel
theorem dX6_when_0 : decode cX6_when 0 = .ok (.iload_n 1, 1) := by decide +kernel
theorem dX6_when_1 : decode cX6_when 1 = .ok (.ifCond .lt 10, 3) := by decide +kernel
theorem dX6_when_4 : decode cX6_when 4 = .ok (.iload_n 1, 1) := by decide +kernel
theorem dX6_when_5 : decode cX6_when 5 = .ok (.sipush 30000, 3) := by decide +kernel
theorem dX6_when_8 : decode cX6_when 8 = .ok (.if_icmp .le 5, 3) := by decide +kernel
theorem dX6_when_11 : decode cX6_when 11 = .ok (.iconst (-1), 1) := by decide +kernel
theorem dX6_when_12 : decode cX6_when 12 = .ok (.ireturn, 1) := by decide +kernel
theorem dX6_when_13 : decode cX6_when 13 = .ok (.aload_n 0, 1) := by decide +kernel
theorem dX6_when_14 : decode cX6_when 14 = .ok (.getfield 19, 3) := by decide +kernel
theorem dX6_when_17 : decode cX6_when 17 = .ok (.iload_n 1, 1) := by decide +kernel
theorem dX6_when_18 : decode cX6_when 18 = .ok (.invokevirtual 220, 3) := by decide +kernel
theorem dX6_when_21 : decode cX6_when 21 = .ok (.ireturn, 1) := by decide +kernel
theorem dX6_odds_0 : decode cX6_odds 0 = .ok (.iload_n 1, 1) := by decide +kernel
theorem dX6_odds_1 : decode cX6_odds 1 = .ok (.ifCond .lt 40, 3) := by decide +kernel
theorem dX6_odds_4 : decode cX6_odds 4 = .ok (.iload_n 1, 1) := by decide +kernel
theorem dX6_odds_5 : decode cX6_odds 5 = .ok (.bipush 10, 2) := by decide +kernel
theorem dX6_odds_7 : decode cX6_odds 7 = .ok (.if_icmp .gt 34, 3) := by decide +kernel
theorem dX6_odds_10 : decode cX6_odds 10 = .ok (.iload_n 2, 1) := by decide +kernel
theorem dX6_odds_11 : decode cX6_odds 11 = .ok (.ifCond .lt 30, 3) := by decide +kernel
theorem dX6_odds_14 : decode cX6_odds 14 = .ok (.iload_n 2, 1) := by decide +kernel
theorem dX6_odds_15 : decode cX6_odds 15 = .ok (.bipush 6, 2) := by decide +kernel
theorem dX6_odds_17 : decode cX6_odds 17 = .ok (.if_icmp .gt 24, 3) := by decide +kernel
theorem dX6_odds_20 : decode cX6_odds 20 = .ok (.iload_n 3, 1) := by decide +kernel
theorem dX6_odds_21 : decode cX6_odds 21 = .ok (.ifCond .lt 20, 3) := by decide +kernel
theorem dX6_odds_24 : decode cX6_odds 24 = .ok (.iload_n 3, 1) := by decide +kernel
theorem dX6_odds_25 : decode cX6_odds 25 = .ok (.bipush 6, 2) := by decide +kernel
theorem dX6_odds_27 : decode cX6_odds 27 = .ok (.if_icmp .gt 14, 3) := by decide +kernel
theorem dX6_odds_30 : decode cX6_odds 30 = .ok (.iload 4, 2) := by decide +kernel
theorem dX6_odds_32 : decode cX6_odds 32 = .ok (.ifCond .lt 9, 3) := by decide +kernel
theorem dX6_odds_35 : decode cX6_odds 35 = .ok (.iload 4, 2) := by decide +kernel
theorem dX6_odds_37 : decode cX6_odds 37 = .ok (.iconst 1, 1) := by decide +kernel
theorem dX6_odds_38 : decode cX6_odds 38 = .ok (.if_icmp .le 5, 3) := by decide +kernel
theorem dX6_odds_41 : decode cX6_odds 41 = .ok (.iconst (-1), 1) := by decide +kernel
theorem dX6_odds_42 : decode cX6_odds 42 = .ok (.ireturn, 1) := by decide +kernel
theorem dX6_odds_43 : decode cX6_odds 43 = .ok (.iconst 0, 1) := by decide +kernel
theorem dX6_odds_44 : decode cX6_odds 44 = .ok (.istore 5, 2) := by decide +kernel
theorem dX6_odds_46 : decode cX6_odds 46 = .ok (.iload_n 3, 1) := by decide +kernel
theorem dX6_odds_47 : decode cX6_odds 47 = .ok (.istore 6, 2) := by decide +kernel
theorem dX6_odds_49 : decode cX6_odds 49 = .ok (.iload 6, 2) := by decide +kernel
theorem dX6_odds_51 : decode cX6_odds 51 = .ok (.iload_n 2, 1) := by decide +kernel
theorem dX6_odds_52 : decode cX6_odds 52 = .ok (.if_icmp .gt 39, 3) := by decide +kernel
theorem dX6_odds_55 : decode cX6_odds 55 = .ok (.iload 5, 2) := by decide +kernel
theorem dX6_odds_57 : decode cX6_odds 57 = .ok (.iload_n 2, 1) := by decide +kernel
theorem dX6_odds_58 : decode cX6_odds 58 = .ok (.iload 6, 2) := by decide +kernel
theorem dX6_odds_60 : decode cX6_odds 60 = .ok (.invokestatic 223, 3) := by decide +kernel
theorem dX6_odds_63 : decode cX6_odds 63 = .ok (.iload_n 1, 1) := by decide +kernel
theorem dX6_odds_64 : decode cX6_odds 64 = .ok (.iload 6, 2) := by decide +kernel
theorem dX6_odds_66 : decode cX6_odds 66 = .ok (.invokestatic 226, 3) := by decide +kernel
theorem dX6_odds_69 : decode cX6_odds 69 = .ok (.imul, 1) := by decide +kernel
theorem dX6_odds_70 : decode cX6_odds 70 = .ok (.bipush 10, 2) := by decide +kernel
theorem dX6_odds_72 : decode cX6_odds 72 = .ok (.iload_n 1, 1) := by decide +kernel
theorem dX6_odds_73 : decode cX6_odds 73 = .ok (.isub, 1) := by decide +kernel
theorem dX6_odds_74 : decode cX6_odds 74 = .ok (.iload_n 2, 1) := by decide +kernel
theorem dX6_odds_75 : decode cX6_odds 75 = .ok (.iload 6, 2) := by decide +kernel
theorem dX6_odds_77 : decode cX6_odds 77 = .ok (.isub, 1) := by decide +kernel
theorem dX6_odds_78 : decode cX6_odds 78 = .ok (.invokestatic 226, 3) := by decide +kernel
theorem dX6_odds_81 : decode cX6_odds 81 = .ok (.imul, 1) := by decide +kernel
theorem dX6_odds_82 : decode cX6_odds 82 = .ok (.iadd, 1) := by decide +kernel
theorem dX6_odds_83 : decode cX6_odds 83 = .ok (.istore 5, 2) := by decide +kernel
theorem dX6_odds_85 : decode cX6_odds 85 = .ok (.iinc 6 1, 3) := by decide +kernel
theorem dX6_odds_88 : decode cX6_odds 88 = .ok (.goto (-39), 3) := by decide +kernel
theorem dX6_odds_91 : decode cX6_odds 91 = .ok (.bipush 10, 2) := by decide +kernel
theorem dX6_odds_93 : decode cX6_odds 93 = .ok (.iload_n 2, 1) := by decide +kernel
theorem dX6_odds_94 : decode cX6_odds 94 = .ok (.invokestatic 226, 3) := by decide +kernel
theorem dX6_odds_97 : decode cX6_odds 97 = .ok (.istore 6, 2) := by decide +kernel
theorem dX6_odds_99 : decode cX6_odds 99 = .ok (.iload 5, 2) := by decide +kernel
theorem dX6_odds_101 : decode cX6_odds 101 = .ok (.iload 6, 2) := by decide +kernel
theorem dX6_odds_103 : decode cX6_odds 103 = .ok (.invokestatic 229, 3) := by decide +kernel
theorem dX6_odds_106 : decode cX6_odds 106 = .ok (.istore 7, 2) := by decide +kernel
theorem dX6_odds_108 : decode cX6_odds 108 = .ok (.iload 4, 2) := by decide +kernel
theorem dX6_odds_110 : decode cX6_odds 110 = .ok (.ifCond .ne 8, 3) := by decide +kernel
theorem dX6_odds_113 : decode cX6_odds 113 = .ok (.iload 5, 2) := by decide +kernel
theorem dX6_odds_115 : decode cX6_odds 115 = .ok (.goto 5, 3) := by decide +kernel
theorem dX6_odds_118 : decode cX6_odds 118 = .ok (.iload 6, 2) := by decide +kernel
theorem dX6_odds_120 : decode cX6_odds 120 = .ok (.iload 7, 2) := by decide +kernel
theorem dX6_odds_122 : decode cX6_odds 122 = .ok (.idiv, 1) := by decide +kernel
theorem dX6_odds_123 : decode cX6_odds 123 = .ok (.ireturn, 1) := by decide +kernel
theorem dX6_rate_0 : decode cX6_rate 0 = .ok (.aload_n 0, 1) := by decide +kernel
theorem dX6_rate_1 : decode cX6_rate 1 = .ok (.getfield 19, 3) := by decide +kernel
theorem dX6_rate_4 : decode cX6_rate 4 = .ok (.iload_n 2, 1) := by decide +kernel
theorem dX6_rate_5 : decode cX6_rate 5 = .ok (.invokevirtual 98, 3) := by decide +kernel
theorem dX6_rate_8 : decode cX6_rate 8 = .ok (.ifCond .ne 6, 3) := by decide +kernel
theorem dX6_rate_11 : decode cX6_rate 11 = .ok (.ldc 232, 2) := by decide +kernel
theorem dX6_rate_13 : decode cX6_rate 13 = .ok (.ireturn, 1) := by decide +kernel
theorem dX6_rate_14 : decode cX6_rate 14 = .ok (.iload_n 1, 1) := by decide +kernel
theorem dX6_rate_15 : decode cX6_rate 15 = .ok (.tableswitch 73 0 5 #[37, 43, 49, 55, 61, 67], 37) := by decide +kernel
theorem dX6_rate_52 : decode cX6_rate 52 = .ok (.aload_n 0, 1) := by decide +kernel
theorem dX6_rate_53 : decode cX6_rate 53 = .ok (.iload_n 2, 1) := by decide +kernel
theorem dX6_rate_54 : decode cX6_rate 54 = .ok (.invokevirtual 233, 3) := by decide +kernel
theorem dX6_rate_57 : decode cX6_rate 57 = .ok (.ireturn, 1) := by decide +kernel
theorem dX6_rate_58 : decode cX6_rate 58 = .ok (.aload_n 0, 1) := by decide +kernel
theorem dX6_rate_59 : decode cX6_rate 59 = .ok (.iload_n 2, 1) := by decide +kernel
theorem dX6_rate_60 : decode cX6_rate 60 = .ok (.invokevirtual 236, 3) := by decide +kernel
theorem dX6_rate_63 : decode cX6_rate 63 = .ok (.ireturn, 1) := by decide +kernel
theorem dX6_rate_64 : decode cX6_rate 64 = .ok (.aload_n 0, 1) := by decide +kernel
theorem dX6_rate_65 : decode cX6_rate 65 = .ok (.iload_n 2, 1) := by decide +kernel
theorem dX6_rate_66 : decode cX6_rate 66 = .ok (.invokevirtual 239, 3) := by decide +kernel
theorem dX6_rate_69 : decode cX6_rate 69 = .ok (.ireturn, 1) := by decide +kernel
theorem dX6_rate_70 : decode cX6_rate 70 = .ok (.aload_n 0, 1) := by decide +kernel
theorem dX6_rate_71 : decode cX6_rate 71 = .ok (.iload_n 2, 1) := by decide +kernel
theorem dX6_rate_72 : decode cX6_rate 72 = .ok (.invokevirtual 242, 3) := by decide +kernel
theorem dX6_rate_75 : decode cX6_rate 75 = .ok (.ireturn, 1) := by decide +kernel
theorem dX6_rate_76 : decode cX6_rate 76 = .ok (.aload_n 0, 1) := by decide +kernel
theorem dX6_rate_77 : decode cX6_rate 77 = .ok (.iload_n 2, 1) := by decide +kernel
theorem dX6_rate_78 : decode cX6_rate 78 = .ok (.invokevirtual 245, 3) := by decide +kernel
theorem dX6_rate_81 : decode cX6_rate 81 = .ok (.ireturn, 1) := by decide +kernel
theorem dX6_rate_82 : decode cX6_rate 82 = .ok (.aload_n 0, 1) := by decide +kernel
theorem dX6_rate_83 : decode cX6_rate 83 = .ok (.iload_n 2, 1) := by decide +kernel
theorem dX6_rate_84 : decode cX6_rate 84 = .ok (.invokevirtual 248, 3) := by decide +kernel
theorem dX6_rate_87 : decode cX6_rate 87 = .ok (.ireturn, 1) := by decide +kernel
theorem dX6_rate_88 : decode cX6_rate 88 = .ok (.ldc 232, 2) := by decide +kernel
theorem dX6_rate_90 : decode cX6_rate 90 = .ok (.ireturn, 1) := by decide +kernel
theorem dX6_rateAsGoer_0 : decode cX6_rateAsGoer 0 = .ok (.aload_n 0, 1) := by decide +kernel
theorem dX6_rateAsGoer_1 : decode cX6_rateAsGoer 1 = .ok (.dup, 1) := by decide +kernel
theorem dX6_rateAsGoer_2 : decode cX6_rateAsGoer 2 = .ok (.getfield 62, 3) := by decide +kernel
theorem dX6_rateAsGoer_5 : decode cX6_rateAsGoer 5 = .ok (.lconst 1, 1) := by decide +kernel
theorem dX6_rateAsGoer_6 : decode cX6_rateAsGoer 6 = .ok (.ladd, 1) := by decide +kernel
theorem dX6_rateAsGoer_7 : decode cX6_rateAsGoer 7 = .ok (.putfield 62, 3) := by decide +kernel
theorem dX6_rateAsGoer_10 : decode cX6_rateAsGoer 10 = .ok (.aload_n 0, 1) := by decide +kernel
theorem dX6_rateAsGoer_11 : decode cX6_rateAsGoer 11 = .ok (.getfield 19, 3) := by decide +kernel
theorem dX6_rateAsGoer_14 : decode cX6_rateAsGoer 14 = .ok (.getfield 101, 3) := by decide +kernel
theorem dX6_rateAsGoer_17 : decode cX6_rateAsGoer 17 = .ok (.iload_n 1, 1) := by decide +kernel
theorem dX6_rateAsGoer_18 : decode cX6_rateAsGoer 18 = .ok (.iaload, 1) := by decide +kernel
theorem dX6_rateAsGoer_19 : decode cX6_rateAsGoer 19 = .ok (.invokestatic 146, 3) := by decide +kernel
theorem dX6_rateAsGoer_22 : decode cX6_rateAsGoer 22 = .ok (.ireturn, 1) := by decide +kernel
theorem dX6_rateAsGent_0 : decode cX6_rateAsGent 0 = .ok (.aload_n 0, 1) := by decide +kernel
theorem dX6_rateAsGent_1 : decode cX6_rateAsGent 1 = .ok (.dup, 1) := by decide +kernel
theorem dX6_rateAsGent_2 : decode cX6_rateAsGent 2 = .ok (.getfield 62, 3) := by decide +kernel
theorem dX6_rateAsGent_5 : decode cX6_rateAsGent 5 = .ok (.ldc2_w 251, 3) := by decide +kernel
theorem dX6_rateAsGent_8 : decode cX6_rateAsGent 8 = .ok (.ladd, 1) := by decide +kernel
theorem dX6_rateAsGent_9 : decode cX6_rateAsGent 9 = .ok (.putfield 62, 3) := by decide +kernel
theorem dX6_rateAsGent_12 : decode cX6_rateAsGent 12 = .ok (.aload_n 0, 1) := by decide +kernel
theorem dX6_rateAsGent_13 : decode cX6_rateAsGent 13 = .ok (.iload_n 1, 1) := by decide +kernel
theorem dX6_rateAsGent_14 : decode cX6_rateAsGent 14 = .ok (.invokevirtual 233, 3) := by decide +kernel
theorem dX6_rateAsGent_17 : decode cX6_rateAsGent 17 = .ok (.aload_n 0, 1) := by decide +kernel
theorem dX6_rateAsGent_18 : decode cX6_rateAsGent 18 = .ok (.getfield 29, 3) := by decide +kernel
theorem dX6_rateAsGent_21 : decode cX6_rateAsGent 21 = .ok (.getfield 113, 3) := by decide +kernel
theorem dX6_rateAsGent_24 : decode cX6_rateAsGent 24 = .ok (.iload_n 1, 1) := by decide +kernel
theorem dX6_rateAsGent_25 : decode cX6_rateAsGent 25 = .ok (.iaload, 1) := by decide +kernel
theorem dX6_rateAsGent_26 : decode cX6_rateAsGent 26 = .ok (.iadd, 1) := by decide +kernel
theorem dX6_rateAsGent_27 : decode cX6_rateAsGent 27 = .ok (.ireturn, 1) := by decide +kernel
theorem dX6_rateAsDoctor_0 : decode cX6_rateAsDoctor 0 = .ok (.aload_n 0, 1) := by decide +kernel
theorem dX6_rateAsDoctor_1 : decode cX6_rateAsDoctor 1 = .ok (.dup, 1) := by decide +kernel
theorem dX6_rateAsDoctor_2 : decode cX6_rateAsDoctor 2 = .ok (.getfield 62, 3) := by decide +kernel
theorem dX6_rateAsDoctor_5 : decode cX6_rateAsDoctor 5 = .ok (.ldc2_w 253, 3) := by decide +kernel
theorem dX6_rateAsDoctor_8 : decode cX6_rateAsDoctor 8 = .ok (.ladd, 1) := by decide +kernel
theorem dX6_rateAsDoctor_9 : decode cX6_rateAsDoctor 9 = .ok (.putfield 62, 3) := by decide +kernel
theorem dX6_rateAsDoctor_12 : decode cX6_rateAsDoctor 12 = .ok (.aload_n 0, 1) := by decide +kernel
theorem dX6_rateAsDoctor_13 : decode cX6_rateAsDoctor 13 = .ok (.iload_n 1, 1) := by decide +kernel
theorem dX6_rateAsDoctor_14 : decode cX6_rateAsDoctor 14 = .ok (.invokevirtual 233, 3) := by decide +kernel
theorem dX6_rateAsDoctor_17 : decode cX6_rateAsDoctor 17 = .ok (.aload_n 0, 1) := by decide +kernel
theorem dX6_rateAsDoctor_18 : decode cX6_rateAsDoctor 18 = .ok (.getfield 19, 3) := by decide +kernel
theorem dX6_rateAsDoctor_21 : decode cX6_rateAsDoctor 21 = .ok (.iload_n 1, 1) := by decide +kernel
theorem dX6_rateAsDoctor_22 : decode cX6_rateAsDoctor 22 = .ok (.invokevirtual 116, 3) := by decide +kernel
theorem dX6_rateAsDoctor_25 : decode cX6_rateAsDoctor 25 = .ok (.invokestatic 146, 3) := by decide +kernel
theorem dX6_rateAsDoctor_28 : decode cX6_rateAsDoctor 28 = .ok (.isub, 1) := by decide +kernel
theorem dX6_rateAsDoctor_29 : decode cX6_rateAsDoctor 29 = .ok (.ireturn, 1) := by decide +kernel
theorem dX6_rateAsSamples_0 : decode cX6_rateAsSamples 0 = .ok (.aload_n 0, 1) := by decide +kernel
theorem dX6_rateAsSamples_1 : decode cX6_rateAsSamples 1 = .ok (.dup, 1) := by decide +kernel
theorem dX6_rateAsSamples_2 : decode cX6_rateAsSamples 2 = .ok (.getfield 62, 3) := by decide +kernel
theorem dX6_rateAsSamples_5 : decode cX6_rateAsSamples 5 = .ok (.ldc2_w 255, 3) := by decide +kernel
theorem dX6_rateAsSamples_8 : decode cX6_rateAsSamples 8 = .ok (.ladd, 1) := by decide +kernel
theorem dX6_rateAsSamples_9 : decode cX6_rateAsSamples 9 = .ok (.putfield 62, 3) := by decide +kernel
theorem dX6_rateAsSamples_12 : decode cX6_rateAsSamples 12 = .ok (.iconst 2, 1) := by decide +kernel
theorem dX6_rateAsSamples_13 : decode cX6_rateAsSamples 13 = .ok (.aload_n 0, 1) := by decide +kernel
theorem dX6_rateAsSamples_14 : decode cX6_rateAsSamples 14 = .ok (.iload_n 1, 1) := by decide +kernel
theorem dX6_rateAsSamples_15 : decode cX6_rateAsSamples 15 = .ok (.invokevirtual 236, 3) := by decide +kernel
theorem dX6_rateAsSamples_18 : decode cX6_rateAsSamples 18 = .ok (.imul, 1) := by decide +kernel
theorem dX6_rateAsSamples_19 : decode cX6_rateAsSamples 19 = .ok (.ireturn, 1) := by decide +kernel
theorem dX6_rateAsWife_0 : decode cX6_rateAsWife 0 = .ok (.aload_n 0, 1) := by decide +kernel
theorem dX6_rateAsWife_1 : decode cX6_rateAsWife 1 = .ok (.dup, 1) := by decide +kernel
theorem dX6_rateAsWife_2 : decode cX6_rateAsWife 2 = .ok (.getfield 62, 3) := by decide +kernel
theorem dX6_rateAsWife_5 : decode cX6_rateAsWife 5 = .ok (.ldc2_w 257, 3) := by decide +kernel
theorem dX6_rateAsWife_8 : decode cX6_rateAsWife 8 = .ok (.ladd, 1) := by decide +kernel
theorem dX6_rateAsWife_9 : decode cX6_rateAsWife 9 = .ok (.putfield 62, 3) := by decide +kernel
theorem dX6_rateAsWife_12 : decode cX6_rateAsWife 12 = .ok (.aload_n 0, 1) := by decide +kernel
theorem dX6_rateAsWife_13 : decode cX6_rateAsWife 13 = .ok (.iload_n 1, 1) := by decide +kernel
theorem dX6_rateAsWife_14 : decode cX6_rateAsWife 14 = .ok (.invokevirtual 239, 3) := by decide +kernel
theorem dX6_rateAsWife_17 : decode cX6_rateAsWife 17 = .ok (.iload_n 1, 1) := by decide +kernel
theorem dX6_rateAsWife_18 : decode cX6_rateAsWife 18 = .ok (.iadd, 1) := by decide +kernel
theorem dX6_rateAsWife_19 : decode cX6_rateAsWife 19 = .ok (.ireturn, 1) := by decide +kernel
theorem dX6_rateAsTall_0 : decode cX6_rateAsTall 0 = .ok (.aload_n 0, 1) := by decide +kernel
theorem dX6_rateAsTall_1 : decode cX6_rateAsTall 1 = .ok (.dup, 1) := by decide +kernel
theorem dX6_rateAsTall_2 : decode cX6_rateAsTall 2 = .ok (.getfield 62, 3) := by decide +kernel
theorem dX6_rateAsTall_5 : decode cX6_rateAsTall 5 = .ok (.ldc2_w 259, 3) := by decide +kernel
theorem dX6_rateAsTall_8 : decode cX6_rateAsTall 8 = .ok (.ladd, 1) := by decide +kernel
theorem dX6_rateAsTall_9 : decode cX6_rateAsTall 9 = .ok (.putfield 62, 3) := by decide +kernel
theorem dX6_rateAsTall_12 : decode cX6_rateAsTall 12 = .ok (.aload_n 0, 1) := by decide +kernel
theorem dX6_rateAsTall_13 : decode cX6_rateAsTall 13 = .ok (.iload_n 1, 1) := by decide +kernel
theorem dX6_rateAsTall_14 : decode cX6_rateAsTall 14 = .ok (.invokevirtual 233, 3) := by decide +kernel
theorem dX6_rateAsTall_17 : decode cX6_rateAsTall 17 = .ok (.aload_n 0, 1) := by decide +kernel
theorem dX6_rateAsTall_18 : decode cX6_rateAsTall 18 = .ok (.getfield 29, 3) := by decide +kernel
theorem dX6_rateAsTall_21 : decode cX6_rateAsTall 21 = .ok (.getfield 132, 3) := by decide +kernel
theorem dX6_rateAsTall_24 : decode cX6_rateAsTall 24 = .ok (.iadd, 1) := by decide +kernel
theorem dX6_rateAsTall_25 : decode cX6_rateAsTall 25 = .ok (.ireturn, 1) := by decide +kernel
theorem dX6_keep_0 : decode cX6_keep 0 = .ok (.iload_n 1, 1) := by decide +kernel
theorem dX6_keep_1 : decode cX6_keep 1 = .ok (.ifCond .lt 8, 3) := by decide +kernel
theorem dX6_keep_4 : decode cX6_keep 4 = .ok (.iload_n 1, 1) := by decide +kernel
theorem dX6_keep_5 : decode cX6_keep 5 = .ok (.iconst 2, 1) := by decide +kernel
theorem dX6_keep_6 : decode cX6_keep 6 = .ok (.if_icmp .lt 5, 3) := by decide +kernel
theorem dX6_keep_9 : decode cX6_keep 9 = .ok (.iconst (-1), 1) := by decide +kernel
theorem dX6_keep_10 : decode cX6_keep 10 = .ok (.ireturn, 1) := by decide +kernel
theorem dX6_keep_11 : decode cX6_keep 11 = .ok (.aload_n 0, 1) := by decide +kernel
theorem dX6_keep_12 : decode cX6_keep 12 = .ok (.getfield 40, 3) := by decide +kernel
theorem dX6_keep_15 : decode cX6_keep 15 = .ok (.iload_n 1, 1) := by decide +kernel
theorem dX6_keep_16 : decode cX6_keep 16 = .ok (.aaload, 1) := by decide +kernel
theorem dX6_keep_17 : decode cX6_keep 17 = .ok (.aload_n 0, 1) := by decide +kernel
theorem dX6_keep_18 : decode cX6_keep 18 = .ok (.getfield 29, 3) := by decide +kernel
theorem dX6_keep_21 : decode cX6_keep 21 = .ok (.invokevirtual 261, 3) := by decide +kernel
theorem dX6_keep_24 : decode cX6_keep 24 = .ok (.aload_n 0, 1) := by decide +kernel
theorem dX6_keep_25 : decode cX6_keep 25 = .ok (.getfield 44, 3) := by decide +kernel
theorem dX6_keep_28 : decode cX6_keep 28 = .ok (.iload_n 1, 1) := by decide +kernel
theorem dX6_keep_29 : decode cX6_keep 29 = .ok (.iconst 1, 1) := by decide +kernel
theorem dX6_keep_30 : decode cX6_keep 30 = .ok (.bastore, 1) := by decide +kernel
theorem dX6_keep_31 : decode cX6_keep 31 = .ok (.aload_n 0, 1) := by decide +kernel
theorem dX6_keep_32 : decode cX6_keep 32 = .ok (.getfield 29, 3) := by decide +kernel
theorem dX6_keep_35 : decode cX6_keep 35 = .ok (.getfield 110, 3) := by decide +kernel
theorem dX6_keep_38 : decode cX6_keep 38 = .ok (.ireturn, 1) := by decide +kernel
theorem dX6_back_0 : decode cX6_back 0 = .ok (.iload_n 1, 1) := by decide +kernel
theorem dX6_back_1 : decode cX6_back 1 = .ok (.ifCond .lt 8, 3) := by decide +kernel
theorem dX6_back_4 : decode cX6_back 4 = .ok (.iload_n 1, 1) := by decide +kernel
theorem dX6_back_5 : decode cX6_back 5 = .ok (.iconst 2, 1) := by decide +kernel
theorem dX6_back_6 : decode cX6_back 6 = .ok (.if_icmp .lt 5, 3) := by decide +kernel
theorem dX6_back_9 : decode cX6_back 9 = .ok (.iconst (-1), 1) := by decide +kernel
theorem dX6_back_10 : decode cX6_back 10 = .ok (.ireturn, 1) := by decide +kernel
theorem dX6_back_11 : decode cX6_back 11 = .ok (.aload_n 0, 1) := by decide +kernel
theorem dX6_back_12 : decode cX6_back 12 = .ok (.getfield 44, 3) := by decide +kernel
theorem dX6_back_15 : decode cX6_back 15 = .ok (.iload_n 1, 1) := by decide +kernel
theorem dX6_back_16 : decode cX6_back 16 = .ok (.baload, 1) := by decide +kernel
theorem dX6_back_17 : decode cX6_back 17 = .ok (.ifCond .ne 6, 3) := by decide +kernel
theorem dX6_back_20 : decode cX6_back 20 = .ok (.bipush (-2), 2) := by decide +kernel
theorem dX6_back_22 : decode cX6_back 22 = .ok (.ireturn, 1) := by decide +kernel
theorem dX6_back_23 : decode cX6_back 23 = .ok (.aload_n 0, 1) := by decide +kernel
theorem dX6_back_24 : decode cX6_back 24 = .ok (.getfield 29, 3) := by decide +kernel
theorem dX6_back_27 : decode cX6_back 27 = .ok (.aload_n 0, 1) := by decide +kernel
theorem dX6_back_28 : decode cX6_back 28 = .ok (.getfield 40, 3) := by decide +kernel
theorem dX6_back_31 : decode cX6_back 31 = .ok (.iload_n 1, 1) := by decide +kernel
theorem dX6_back_32 : decode cX6_back 32 = .ok (.aaload, 1) := by decide +kernel
theorem dX6_back_33 : decode cX6_back 33 = .ok (.invokevirtual 261, 3) := by decide +kernel
theorem dX6_back_36 : decode cX6_back 36 = .ok (.aload_n 0, 1) := by decide +kernel
theorem dX6_back_37 : decode cX6_back 37 = .ok (.getfield 36, 3) := by decide +kernel
theorem dX6_back_40 : decode cX6_back 40 = .ok (.iconst 0, 1) := by decide +kernel
theorem dX6_back_41 : decode cX6_back 41 = .ok (.putfield 81, 3) := by decide +kernel
theorem dX6_back_44 : decode cX6_back 44 = .ok (.aload_n 0, 1) := by decide +kernel
theorem dX6_back_45 : decode cX6_back 45 = .ok (.getfield 29, 3) := by decide +kernel
theorem dX6_back_48 : decode cX6_back 48 = .ok (.getfield 110, 3) := by decide +kernel
theorem dX6_back_51 : decode cX6_back 51 = .ok (.ireturn, 1) := by decide +kernel
theorem dX6_count_0 : decode cX6_count 0 = .ok (.iload_n 1, 1) := by decide +kernel
theorem dX6_count_1 : decode cX6_count 1 = .ok (.tableswitch 99 0 6 #[43, 51, 59, 67, 75, 83, 91], 43) := by decide +kernel
theorem dX6_count_44 : decode cX6_count 44 = .ok (.aload_n 0, 1) := by decide +kernel
theorem dX6_count_45 : decode cX6_count 45 = .ok (.getfield 19, 3) := by decide +kernel
theorem dX6_count_48 : decode cX6_count 48 = .ok (.getfield 151, 3) := by decide +kernel
theorem dX6_count_51 : decode cX6_count 51 = .ok (.ireturn, 1) := by decide +kernel
theorem dX6_count_52 : decode cX6_count 52 = .ok (.aload_n 0, 1) := by decide +kernel
theorem dX6_count_53 : decode cX6_count 53 = .ok (.getfield 19, 3) := by decide +kernel
theorem dX6_count_56 : decode cX6_count 56 = .ok (.getfield 264, 3) := by decide +kernel
theorem dX6_count_59 : decode cX6_count 59 = .ok (.ireturn, 1) := by decide +kernel
theorem dX6_count_60 : decode cX6_count 60 = .ok (.aload_n 0, 1) := by decide +kernel
theorem dX6_count_61 : decode cX6_count 61 = .ok (.getfield 19, 3) := by decide +kernel
theorem dX6_count_64 : decode cX6_count 64 = .ok (.getfield 119, 3) := by decide +kernel
theorem dX6_count_67 : decode cX6_count 67 = .ok (.ireturn, 1) := by decide +kernel
theorem dX6_count_68 : decode cX6_count 68 = .ok (.aload_n 0, 1) := by decide +kernel
theorem dX6_count_69 : decode cX6_count 69 = .ok (.getfield 19, 3) := by decide +kernel
theorem dX6_count_72 : decode cX6_count 72 = .ok (.getfield 267, 3) := by decide +kernel
theorem dX6_count_75 : decode cX6_count 75 = .ok (.ireturn, 1) := by decide +kernel
theorem dX6_count_76 : decode cX6_count 76 = .ok (.aload_n 0, 1) := by decide +kernel
theorem dX6_count_77 : decode cX6_count 77 = .ok (.getfield 19, 3) := by decide +kernel
theorem dX6_count_80 : decode cX6_count 80 = .ok (.getfield 161, 3) := by decide +kernel
theorem dX6_count_83 : decode cX6_count 83 = .ok (.ireturn, 1) := by decide +kernel
theorem dX6_count_84 : decode cX6_count 84 = .ok (.aload_n 0, 1) := by decide +kernel
theorem dX6_count_85 : decode cX6_count 85 = .ok (.getfield 51, 3) := by decide +kernel
theorem dX6_count_88 : decode cX6_count 88 = .ok (.getfield 84, 3) := by decide +kernel
theorem dX6_count_91 : decode cX6_count 91 = .ok (.ireturn, 1) := by decide +kernel
theorem dX6_count_92 : decode cX6_count 92 = .ok (.aload_n 0, 1) := by decide +kernel
theorem dX6_count_93 : decode cX6_count 93 = .ok (.getfield 10, 3) := by decide +kernel
theorem dX6_count_96 : decode cX6_count 96 = .ok (.getfield 66, 3) := by decide +kernel
theorem dX6_count_99 : decode cX6_count 99 = .ok (.ireturn, 1) := by decide +kernel
theorem dX6_count_100 : decode cX6_count 100 = .ok (.iconst (-1), 1) := by decide +kernel
theorem dX6_count_101 : decode cX6_count 101 = .ok (.ireturn, 1) := by decide +kernel
theorem dX6_trace_0 : decode cX6_trace 0 = .ok (.aload_n 0, 1) := by decide +kernel
theorem dX6_trace_1 : decode cX6_trace 1 = .ok (.getfield 62, 3) := by decide +kernel
theorem dX6_trace_4 : decode cX6_trace 4 = .ok (.lreturn, 1) := by decide +kernel
theorem dX6_isTaste_0 : decode cX6_isTaste 0 = .ok (.iload_n 0, 1) := by decide +kernel
theorem dX6_isTaste_1 : decode cX6_isTaste 1 = .ok (.ifCond .lt 13, 3) := by decide +kernel
theorem dX6_isTaste_4 : decode cX6_isTaste 4 = .ok (.iload_n 0, 1) := by decide +kernel
theorem dX6_isTaste_5 : decode cX6_isTaste 5 = .ok (.bipush 6, 2) := by decide +kernel
theorem dX6_isTaste_7 : decode cX6_isTaste 7 = .ok (.if_icmp .ge 7, 3) := by decide +kernel
theorem dX6_isTaste_10 : decode cX6_isTaste 10 = .ok (.iconst 1, 1) := by decide +kernel
theorem dX6_isTaste_11 : decode cX6_isTaste 11 = .ok (.goto 4, 3) := by decide +kernel
theorem dX6_isTaste_14 : decode cX6_isTaste 14 = .ok (.iconst 0, 1) := by decide +kernel
theorem dX6_isTaste_15 : decode cX6_isTaste 15 = .ok (.ireturn, 1) := by decide +kernel
theorem dX6_hasBit_0 : decode cX6_hasBit 0 = .ok (.iload_n 0, 1) := by decide +kernel
theorem dX6_hasBit_1 : decode cX6_hasBit 1 = .ok (.iload_n 1, 1) := by decide +kernel
theorem dX6_hasBit_2 : decode cX6_hasBit 2 = .ok (.ishr, 1) := by decide +kernel
theorem dX6_hasBit_3 : decode cX6_hasBit 3 = .ok (.iconst 1, 1) := by decide +kernel
theorem dX6_hasBit_4 : decode cX6_hasBit 4 = .ok (.iand, 1) := by decide +kernel
theorem dX6_hasBit_5 : decode cX6_hasBit 5 = .ok (.iconst 1, 1) := by decide +kernel
theorem dX6_hasBit_6 : decode cX6_hasBit 6 = .ok (.if_icmp .ne 7, 3) := by decide +kernel
theorem dX6_hasBit_9 : decode cX6_hasBit 9 = .ok (.iconst 1, 1) := by decide +kernel
theorem dX6_hasBit_10 : decode cX6_hasBit 10 = .ok (.goto 4, 3) := by decide +kernel
theorem dX6_hasBit_13 : decode cX6_hasBit 13 = .ok (.iconst 0, 1) := by decide +kernel
theorem dX6_hasBit_14 : decode cX6_hasBit 14 = .ok (.ireturn, 1) := by decide +kernel
theorem dX6_lowestBit_0 : decode cX6_lowestBit 0 = .ok (.iconst 0, 1) := by decide +kernel
theorem dX6_lowestBit_1 : decode cX6_lowestBit 1 = .ok (.istore_n 1, 1) := by decide +kernel
theorem dX6_lowestBit_2 : decode cX6_lowestBit 2 = .ok (.iload_n 1, 1) := by decide +kernel
theorem dX6_lowestBit_3 : decode cX6_lowestBit 3 = .ok (.bipush 31, 2) := by decide +kernel
theorem dX6_lowestBit_5 : decode cX6_lowestBit 5 = .ok (.if_icmp .ge 19, 3) := by decide +kernel
theorem dX6_lowestBit_8 : decode cX6_lowestBit 8 = .ok (.iload_n 0, 1) := by decide +kernel
theorem dX6_lowestBit_9 : decode cX6_lowestBit 9 = .ok (.iload_n 1, 1) := by decide +kernel
theorem dX6_lowestBit_10 : decode cX6_lowestBit 10 = .ok (.invokestatic 157, 3) := by decide +kernel
theorem dX6_lowestBit_13 : decode cX6_lowestBit 13 = .ok (.ifCond .eq 5, 3) := by decide +kernel
theorem dX6_lowestBit_16 : decode cX6_lowestBit 16 = .ok (.iload_n 1, 1) := by decide +kernel
theorem dX6_lowestBit_17 : decode cX6_lowestBit 17 = .ok (.ireturn, 1) := by decide +kernel
theorem dX6_lowestBit_18 : decode cX6_lowestBit 18 = .ok (.iinc 1 1, 3) := by decide +kernel
theorem dX6_lowestBit_21 : decode cX6_lowestBit 21 = .ok (.goto (-19), 3) := by decide +kernel
theorem dX6_lowestBit_24 : decode cX6_lowestBit 24 = .ok (.bipush (-9), 2) := by decide +kernel
theorem dX6_lowestBit_26 : decode cX6_lowestBit 26 = .ok (.ireturn, 1) := by decide +kernel
theorem dX6_power_0 : decode cX6_power 0 = .ok (.iconst 1, 1) := by decide +kernel
theorem dX6_power_1 : decode cX6_power 1 = .ok (.istore_n 2, 1) := by decide +kernel
theorem dX6_power_2 : decode cX6_power 2 = .ok (.iconst 0, 1) := by decide +kernel
theorem dX6_power_3 : decode cX6_power 3 = .ok (.istore_n 3, 1) := by decide +kernel
theorem dX6_power_4 : decode cX6_power 4 = .ok (.iload_n 3, 1) := by decide +kernel
theorem dX6_power_5 : decode cX6_power 5 = .ok (.iload_n 1, 1) := by decide +kernel
theorem dX6_power_6 : decode cX6_power 6 = .ok (.if_icmp .ge 13, 3) := by decide +kernel
theorem dX6_power_9 : decode cX6_power 9 = .ok (.iload_n 2, 1) := by decide +kernel
theorem dX6_power_10 : decode cX6_power 10 = .ok (.iload_n 0, 1) := by decide +kernel
theorem dX6_power_11 : decode cX6_power 11 = .ok (.imul, 1) := by decide +kernel
theorem dX6_power_12 : decode cX6_power 12 = .ok (.istore_n 2, 1) := by decide +kernel
theorem dX6_power_13 : decode cX6_power 13 = .ok (.iinc 3 1, 3) := by decide +kernel
theorem dX6_power_16 : decode cX6_power 16 = .ok (.goto (-12), 3) := by decide +kernel
theorem dX6_power_19 : decode cX6_power 19 = .ok (.iload_n 2, 1) := by decide +kernel
theorem dX6_power_20 : decode cX6_power 20 = .ok (.ireturn, 1) := by decide +kernel
theorem dX6_choices_0 : decode cX6_choices 0 = .ok (.iconst 1, 1) := by decide +kernel
theorem dX6_choices_1 : decode cX6_choices 1 = .ok (.istore_n 2, 1) := by decide +kernel
theorem dX6_choices_2 : decode cX6_choices 2 = .ok (.iconst 1, 1) := by decide +kernel
theorem dX6_choices_3 : decode cX6_choices 3 = .ok (.istore_n 3, 1) := by decide +kernel
theorem dX6_choices_4 : decode cX6_choices 4 = .ok (.iload_n 3, 1) := by decide +kernel
theorem dX6_choices_5 : decode cX6_choices 5 = .ok (.iload_n 1, 1) := by decide +kernel
theorem dX6_choices_6 : decode cX6_choices 6 = .ok (.if_icmp .gt 19, 3) := by decide +kernel
theorem dX6_choices_9 : decode cX6_choices 9 = .ok (.iload_n 2, 1) := by decide +kernel
theorem dX6_choices_10 : decode cX6_choices 10 = .ok (.iload_n 0, 1) := by decide +kernel
theorem dX6_choices_11 : decode cX6_choices 11 = .ok (.iload_n 3, 1) := by decide +kernel
theorem dX6_choices_12 : decode cX6_choices 12 = .ok (.isub, 1) := by decide +kernel
theorem dX6_choices_13 : decode cX6_choices 13 = .ok (.iconst 1, 1) := by decide +kernel
theorem dX6_choices_14 : decode cX6_choices 14 = .ok (.iadd, 1) := by decide +kernel
theorem dX6_choices_15 : decode cX6_choices 15 = .ok (.imul, 1) := by decide +kernel
theorem dX6_choices_16 : decode cX6_choices 16 = .ok (.iload_n 3, 1) := by decide +kernel
theorem dX6_choices_17 : decode cX6_choices 17 = .ok (.idiv, 1) := by decide +kernel
theorem dX6_choices_18 : decode cX6_choices 18 = .ok (.istore_n 2, 1) := by decide +kernel
theorem dX6_choices_19 : decode cX6_choices 19 = .ok (.iinc 3 1, 3) := by decide +kernel
theorem dX6_choices_22 : decode cX6_choices 22 = .ok (.goto (-18), 3) := by decide +kernel
theorem dX6_choices_25 : decode cX6_choices 25 = .ok (.iload_n 2, 1) := by decide +kernel
theorem dX6_choices_26 : decode cX6_choices 26 = .ok (.ireturn, 1) := by decide +kernel
theorem dX6_greatestDivisor_0 : decode cX6_greatestDivisor 0 = .ok (.iload_n 0, 1) := by decide +kernel
theorem dX6_greatestDivisor_1 : decode cX6_greatestDivisor 1 = .ok (.istore_n 2, 1) := by decide +kernel
theorem dX6_greatestDivisor_2 : decode cX6_greatestDivisor 2 = .ok (.iload_n 1, 1) := by decide +kernel
theorem dX6_greatestDivisor_3 : decode cX6_greatestDivisor 3 = .ok (.istore_n 3, 1) := by decide +kernel
theorem dX6_greatestDivisor_4 : decode cX6_greatestDivisor 4 = .ok (.iconst 0, 1) := by decide +kernel
theorem dX6_greatestDivisor_5 : decode cX6_greatestDivisor 5 = .ok (.istore 4, 2) := by decide +kernel
theorem dX6_greatestDivisor_7 : decode cX6_greatestDivisor 7 = .ok (.iload 4, 2) := by decide +kernel
theorem dX6_greatestDivisor_9 : decode cX6_greatestDivisor 9 = .ok (.bipush 64, 2) := by decide +kernel
theorem dX6_greatestDivisor_11 : decode cX6_greatestDivisor 11 = .ok (.if_icmp .ge 23, 3) := by decide +kernel
theorem dX6_greatestDivisor_14 : decode cX6_greatestDivisor 14 = .ok (.iload_n 3, 1) := by decide +kernel
theorem dX6_greatestDivisor_15 : decode cX6_greatestDivisor 15 = .ok (.ifCond .eq 19, 3) := by decide +kernel
theorem dX6_greatestDivisor_18 : decode cX6_greatestDivisor 18 = .ok (.iload_n 2, 1) := by decide +kernel
theorem dX6_greatestDivisor_19 : decode cX6_greatestDivisor 19 = .ok (.iload_n 3, 1) := by decide +kernel
theorem dX6_greatestDivisor_20 : decode cX6_greatestDivisor 20 = .ok (.irem, 1) := by decide +kernel
theorem dX6_greatestDivisor_21 : decode cX6_greatestDivisor 21 = .ok (.istore 5, 2) := by decide +kernel
theorem dX6_greatestDivisor_23 : decode cX6_greatestDivisor 23 = .ok (.iload_n 3, 1) := by decide +kernel
theorem dX6_greatestDivisor_24 : decode cX6_greatestDivisor 24 = .ok (.istore_n 2, 1) := by decide +kernel
theorem dX6_greatestDivisor_25 : decode cX6_greatestDivisor 25 = .ok (.iload 5, 2) := by decide +kernel
theorem dX6_greatestDivisor_27 : decode cX6_greatestDivisor 27 = .ok (.istore_n 3, 1) := by decide +kernel
theorem dX6_greatestDivisor_28 : decode cX6_greatestDivisor 28 = .ok (.iinc 4 1, 3) := by decide +kernel
theorem dX6_greatestDivisor_31 : decode cX6_greatestDivisor 31 = .ok (.goto (-24), 3) := by decide +kernel
theorem dX6_greatestDivisor_34 : decode cX6_greatestDivisor 34 = .ok (.iconst 1, 1) := by decide +kernel
theorem dX6_greatestDivisor_35 : decode cX6_greatestDivisor 35 = .ok (.iload_n 2, 1) := by decide +kernel
theorem dX6_greatestDivisor_36 : decode cX6_greatestDivisor 36 = .ok (.invokestatic 211, 3) := by decide +kernel
theorem dX6_greatestDivisor_39 : decode cX6_greatestDivisor 39 = .ok (.ireturn, 1) := by decide +kernel
end
section
theorem dX7_init_0 : decode cX7_init 0 = .ok (.aload_n 0, 1) := by decide +kernel
theorem dX7_init_1 : decode cX7_init 1 = .ok (.invokespecial 1, 3) := by decide +kernel
theorem dX7_init_4 : decode cX7_init 4 = .ok (.aload_n 0, 1) := by decide +kernel
theorem dX7_init_5 : decode cX7_init 5 = .ok (.iconst 5, 1) := by decide +kernel
theorem dX7_init_6 : decode cX7_init 6 = .ok (.newarray .int, 2) := by decide +kernel
theorem dX7_init_8 : decode cX7_init 8 = .ok (.putfield 7, 3) := by decide +kernel
theorem dX7_init_11 : decode cX7_init 11 = .ok (.aload_n 0, 1) := by decide +kernel
theorem dX7_init_12 : decode cX7_init 12 = .ok (.bipush 6, 2) := by decide +kernel
theorem dX7_init_14 : decode cX7_init 14 = .ok (.newarray .int, 2) := by decide +kernel
theorem dX7_init_16 : decode cX7_init 16 = .ok (.putfield 13, 3) := by decide +kernel
theorem dX7_init_19 : decode cX7_init 19 = .ok (.aload_n 0, 1) := by decide +kernel
theorem dX7_init_20 : decode cX7_init 20 = .ok (.bipush 24, 2) := by decide +kernel
theorem dX7_init_22 : decode cX7_init 22 = .ok (.newarray .int, 2) := by decide +kernel
theorem dX7_init_24 : decode cX7_init 24 = .ok (.putfield 16, 3) := by decide +kernel
theorem dX7_init_27 : decode cX7_init 27 = .ok (.aload_n 0, 1) := by decide +kernel
theorem dX7_init_28 : decode cX7_init 28 = .ok (.iconst 3, 1) := by decide +kernel
theorem dX7_init_29 : decode cX7_init 29 = .ok (.newarray .int, 2) := by decide +kernel
theorem dX7_init_31 : decode cX7_init 31 = .ok (.putfield 19, 3) := by decide +kernel
theorem dX7_init_34 : decode cX7_init 34 = .ok (.aload_n 0, 1) := by decide +kernel
theorem dX7_init_35 : decode cX7_init 35 = .ok (.iconst 3, 1) := by decide +kernel
theorem dX7_init_36 : decode cX7_init 36 = .ok (.newarray .int, 2) := by decide +kernel
theorem dX7_init_38 : decode cX7_init 38 = .ok (.putfield 22, 3) := by decide +kernel
theorem dX7_init_41 : decode cX7_init 41 = .ok (.aload_n 0, 1) := by decide +kernel
theorem dX7_init_42 : decode cX7_init 42 = .ok (.iconst 3, 1) := by decide +kernel
theorem dX7_init_43 : decode cX7_init 43 = .ok (.putfield 25, 3) := by decide +kernel
theorem dX7_init_46 : decode cX7_init 46 = .ok (.aload_n 0, 1) := by decide +kernel
theorem dX7_init_47 : decode cX7_init 47 = .ok (.bipush 21, 2) := by decide +kernel
theorem dX7_init_49 : decode cX7_init 49 = .ok (.newarray .int, 2) := by decide +kernel
theorem dX7_init_51 : decode cX7_init 51 = .ok (.putfield 29, 3) := by decide +kernel
theorem dX7_init_54 : decode cX7_init 54 = .ok (.aload_n 0, 1) := by decide +kernel
theorem dX7_init_55 : decode cX7_init 55 = .ok (.sipush 210, 3) := by decide +kernel
theorem dX7_init_58 : decode cX7_init 58 = .ok (.newarray .int, 2) := by decide +kernel
theorem dX7_init_60 : decode cX7_init 60 = .ok (.putfield 32, 3) := by decide +kernel
theorem dX7_init_63 : decode cX7_init 63 = .ok (.aload_n 0, 1) := by decide +kernel
theorem dX7_init_64 : decode cX7_init 64 = .ok (.bipush 42, 2) := by decide +kernel
theorem dX7_init_66 : decode cX7_init 66 = .ok (.newarray .int, 2) := by decide +kernel
theorem dX7_init_68 : decode cX7_init 68 = .ok (.putfield 35, 3) := by decide +kernel
theorem dX7_init_71 : decode cX7_init 71 = .ok (.aload_n 0, 1) := by decide +kernel
theorem dX7_init_72 : decode cX7_init 72 = .ok (.iconst 2, 1) := by decide +kernel
theorem dX7_init_73 : decode cX7_init 73 = .ok (.newarray .boolean, 2) := by decide +kernel
theorem dX7_init_75 : decode cX7_init 75 = .ok (.putfield 38, 3) := by decide +kernel
theorem dX7_init_78 : decode cX7_init 78 = .ok (.aload_n 0, 1) := by decide +kernel
theorem dX7_init_79 : decode cX7_init 79 = .ok (.bipush 18, 2) := by decide +kernel
theorem dX7_init_81 : decode cX7_init 81 = .ok (.newarray .int, 2) := by decide +kernel
theorem dX7_init_83 : decode cX7_init 83 = .ok (.putfield 42, 3) := by decide +kernel
theorem dX7_init_86 : decode cX7_init 86 = .ok (.aload_n 0, 1) := by decide +kernel
theorem dX7_init_87 : decode cX7_init 87 = .ok (.sipush 160, 3) := by decide +kernel
theorem dX7_init_90 : decode cX7_init 90 = .ok (.newarray .int, 2) := by decide +kernel
theorem dX7_init_92 : decode cX7_init 92 = .ok (.putfield 45, 3) := by decide +kernel
theorem dX7_init_95 : decode cX7_init 95 = .ok (.aload_n 0, 1) := by decide +kernel
theorem dX7_init_96 : decode cX7_init 96 = .ok (.iconst 5, 1) := by decide +kernel
theorem dX7_init_97 : decode cX7_init 97 = .ok (.newarray .int, 2) := by decide +kernel
theorem dX7_init_99 : decode cX7_init 99 = .ok (.putfield 48, 3) := by decide +kernel
theorem dX7_init_102 : decode cX7_init 102 = .ok (.aload_n 0, 1) := by decide +kernel
theorem dX7_init_103 : decode cX7_init 103 = .ok (.bipush 6, 2) := by decide +kernel
theorem dX7_init_105 : decode cX7_init 105 = .ok (.newarray .int, 2) := by decide +kernel
theorem dX7_init_107 : decode cX7_init 107 = .ok (.putfield 51, 3) := by decide +kernel
theorem dX7_init_110 : decode cX7_init 110 = .ok (.aload_n 0, 1) := by decide +kernel
theorem dX7_init_111 : decode cX7_init 111 = .ok (.bipush 24, 2) := by decide +kernel
theorem dX7_init_113 : decode cX7_init 113 = .ok (.newarray .int, 2) := by decide +kernel
theorem dX7_init_115 : decode cX7_init 115 = .ok (.putfield 54, 3) := by decide +kernel
theorem dX7_init_118 : decode cX7_init 118 = .ok (.aload_n 0, 1) := by decide +kernel
theorem dX7_init_119 : decode cX7_init 119 = .ok (.iconst 3, 1) := by decide +kernel
theorem dX7_init_120 : decode cX7_init 120 = .ok (.newarray .int, 2) := by decide +kernel
theorem dX7_init_122 : decode cX7_init 122 = .ok (.putfield 57, 3) := by decide +kernel
theorem dX7_init_125 : decode cX7_init 125 = .ok (.aload_n 0, 1) := by decide +kernel
theorem dX7_init_126 : decode cX7_init 126 = .ok (.iconst 3, 1) := by decide +kernel
theorem dX7_init_127 : decode cX7_init 127 = .ok (.newarray .int, 2) := by decide +kernel
theorem dX7_init_129 : decode cX7_init 129 = .ok (.putfield 60, 3) := by decide +kernel
theorem dX7_init_132 : decode cX7_init 132 = .ok (.aload_n 0, 1) := by decide +kernel
theorem dX7_init_133 : decode cX7_init 133 = .ok (.bipush 6, 2) := by decide +kernel
theorem dX7_init_135 : decode cX7_init 135 = .ok (.newarray .int, 2) := by decide +kernel
theorem dX7_init_137 : decode cX7_init 137 = .ok (.putfield 63, 3) := by decide +kernel
theorem dX7_init_140 : decode cX7_init 140 = .ok (.aload_n 0, 1) := by decide +kernel
theorem dX7_init_141 : decode cX7_init 141 = .ok (.bipush 6, 2) := by decide +kernel
theorem dX7_init_143 : decode cX7_init 143 = .ok (.newarray .int, 2) := by decide +kernel
theorem dX7_init_145 : decode cX7_init 145 = .ok (.putfield 66, 3) := by decide +kernel
theorem dX7_init_148 : decode cX7_init 148 = .ok (.return_, 1) := by decide +kernel
theorem dX7_in_0 : decode cX7_in 0 = .ok (.lload_n 0, 1) := by decide +kernel
theorem dX7_in_1 : decode cX7_in 1 = .ok (.lload_n 2, 1) := by decide +kernel
theorem dX7_in_2 : decode cX7_in 2 = .ok (.lcmp, 1) := by decide +kernel
theorem dX7_in_3 : decode cX7_in 3 = .ok (.ifCond .lt 14, 3) := by decide +kernel
theorem dX7_in_6 : decode cX7_in 6 = .ok (.lload_n 0, 1) := by decide +kernel
theorem dX7_in_7 : decode cX7_in 7 = .ok (.lload 4, 2) := by decide +kernel
theorem dX7_in_9 : decode cX7_in 9 = .ok (.lcmp, 1) := by decide +kernel
theorem dX7_in_10 : decode cX7_in 10 = .ok (.ifCond .gt 7, 3) := by decide +kernel
theorem dX7_in_13 : decode cX7_in 13 = .ok (.iconst 1, 1) := by decide +kernel
theorem dX7_in_14 : decode cX7_in 14 = .ok (.goto 4, 3) := by decide +kernel
theorem dX7_in_17 : decode cX7_in 17 = .ok (.iconst 0, 1) := by decide +kernel
theorem dX7_in_18 : decode cX7_in 18 = .ok (.ireturn, 1) := by decide +kernel
theorem dX7_has_0 : decode cX7_has 0 = .ok (.iload_n 0, 1) := by decide +kernel
theorem dX7_has_1 : decode cX7_has 1 = .ok (.iload_n 1, 1) := by decide +kernel
theorem dX7_has_2 : decode cX7_has 2 = .ok (.ishr, 1) := by decide +kernel
theorem dX7_has_3 : decode cX7_has 3 = .ok (.iconst 1, 1) := by decide +kernel
theorem dX7_has_4 : decode cX7_has 4 = .ok (.iand, 1) := by decide +kernel
theorem dX7_has_5 : decode cX7_has 5 = .ok (.iconst 1, 1) := by decide +kernel
theorem dX7_has_6 : decode cX7_has 6 = .ok (.if_icmp .ne 7, 3) := by decide +kernel
theorem dX7_has_9 : decode cX7_has 9 = .ok (.iconst 1, 1) := by decide +kernel
theorem dX7_has_10 : decode cX7_has 10 = .ok (.goto 4, 3) := by decide +kernel
theorem dX7_has_13 : decode cX7_has 13 = .ok (.iconst 0, 1) := by decide +kernel
theorem dX7_has_14 : decode cX7_has 14 = .ok (.ireturn, 1) := by decide +kernel
theorem dX7_bits_0 : decode cX7_bits 0 = .ok (.iconst 0, 1) := by decide +kernel
theorem dX7_bits_1 : decode cX7_bits 1 = .ok (.istore_n 1, 1) := by decide +kernel
theorem dX7_bits_2 : decode cX7_bits 2 = .ok (.iload_n 0, 1) := by decide +kernel
theorem dX7_bits_3 : decode cX7_bits 3 = .ok (.istore_n 2, 1) := by decide +kernel
theorem dX7_bits_4 : decode cX7_bits 4 = .ok (.iload_n 2, 1) := by decide +kernel
theorem dX7_bits_5 : decode cX7_bits 5 = .ok (.ifCond .eq 15, 3) := by decide +kernel
theorem dX7_bits_8 : decode cX7_bits 8 = .ok (.iinc 1 1, 3) := by decide +kernel
theorem dX7_bits_11 : decode cX7_bits 11 = .ok (.iload_n 2, 1) := by decide +kernel
theorem dX7_bits_12 : decode cX7_bits 12 = .ok (.iload_n 2, 1) := by decide +kernel
theorem dX7_bits_13 : decode cX7_bits 13 = .ok (.iconst 1, 1) := by decide +kernel
theorem dX7_bits_14 : decode cX7_bits 14 = .ok (.isub, 1) := by decide +kernel
theorem dX7_bits_15 : decode cX7_bits 15 = .ok (.iand, 1) := by decide +kernel
theorem dX7_bits_16 : decode cX7_bits 16 = .ok (.istore_n 2, 1) := by decide +kernel
theorem dX7_bits_17 : decode cX7_bits 17 = .ok (.goto (-13), 3) := by decide +kernel
theorem dX7_bits_20 : decode cX7_bits 20 = .ok (.iload_n 1, 1) := by decide +kernel
theorem dX7_bits_21 : decode cX7_bits 21 = .ok (.ireturn, 1) := by decide +kernel
theorem dX7_lowest_0 : decode cX7_lowest 0 = .ok (.iconst 0, 1) := by decide +kernel
theorem dX7_lowest_1 : decode cX7_lowest 1 = .ok (.istore_n 1, 1) := by decide +kernel
theorem dX7_lowest_2 : decode cX7_lowest 2 = .ok (.iload_n 0, 1) := by decide +kernel
theorem dX7_lowest_3 : decode cX7_lowest 3 = .ok (.iload_n 1, 1) := by decide +kernel
theorem dX7_lowest_4 : decode cX7_lowest 4 = .ok (.invokestatic 69, 3) := by decide +kernel
theorem dX7_lowest_7 : decode cX7_lowest 7 = .ok (.ifCond .ne 9, 3) := by decide +kernel
theorem dX7_lowest_10 : decode cX7_lowest 10 = .ok (.iinc 1 1, 3) := by decide +kernel
theorem dX7_lowest_13 : decode cX7_lowest 13 = .ok (.goto (-11), 3) := by decide +kernel
theorem dX7_lowest_16 : decode cX7_lowest 16 = .ok (.iload_n 1, 1) := by decide +kernel
theorem dX7_lowest_17 : decode cX7_lowest 17 = .ok (.ireturn, 1) := by decide +kernel
theorem dX7_copies_0 : decode cX7_copies 0 = .ok (.iconst 0, 1) := by decide +kernel
theorem dX7_copies_1 : decode cX7_copies 1 = .ok (.istore 5, 2) := by decide +kernel
theorem dX7_copies_3 : decode cX7_copies 3 = .ok (.iload 5, 2) := by decide +kernel
theorem dX7_copies_5 : decode cX7_copies 5 = .ok (.iload 4, 2) := by decide +kernel
theorem dX7_copies_7 : decode cX7_copies 7 = .ok (.if_icmp .ge 21, 3) := by decide +kernel
theorem dX7_copies_10 : decode cX7_copies 10 = .ok (.aload_n 2, 1) := by decide +kernel
theorem dX7_copies_11 : decode cX7_copies 11 = .ok (.iload_n 3, 1) := by decide +kernel
theorem dX7_copies_12 : decode cX7_copies 12 = .ok (.iload 5, 2) := by decide +kernel
theorem dX7_copies_14 : decode cX7_copies 14 = .ok (.iadd, 1) := by decide +kernel
theorem dX7_copies_15 : decode cX7_copies 15 = .ok (.aload_n 0, 1) := by decide +kernel
theorem dX7_copies_16 : decode cX7_copies 16 = .ok (.iload_n 1, 1) := by decide +kernel
theorem dX7_copies_17 : decode cX7_copies 17 = .ok (.iload 5, 2) := by decide +kernel
theorem dX7_copies_19 : decode cX7_copies 19 = .ok (.iadd, 1) := by decide +kernel
theorem dX7_copies_20 : decode cX7_copies 20 = .ok (.iaload, 1) := by decide +kernel
theorem dX7_copies_21 : decode cX7_copies 21 = .ok (.iastore, 1) := by decide +kernel
theorem dX7_copies_22 : decode cX7_copies 22 = .ok (.iinc 5 1, 3) := by decide +kernel
theorem dX7_copies_25 : decode cX7_copies 25 = .ok (.goto (-22), 3) := by decide +kernel
theorem dX7_copies_28 : decode cX7_copies 28 = .ok (.return_, 1) := by decide +kernel
theorem dX7_type_0 : decode cX7_type 0 = .ok (.iload_n 1, 1) := by decide +kernel
theorem dX7_type_1 : decode cX7_type 1 = .ok (.i2l, 1) := by decide +kernel
theorem dX7_type_2 : decode cX7_type 2 = .ok (.lconst 0, 1) := by decide +kernel
theorem dX7_type_3 : decode cX7_type 3 = .ok (.ldc2_w 73, 3) := by decide +kernel
theorem dX7_type_6 : decode cX7_type 6 = .ok (.invokestatic 75, 3) := by decide +kernel
theorem dX7_type_9 : decode cX7_type 9 = .ok (.ifCond .ne 5, 3) := by decide +kernel
theorem dX7_type_12 : decode cX7_type 12 = .ok (.iconst (-1), 1) := by decide +kernel
theorem dX7_type_13 : decode cX7_type 13 = .ok (.ireturn, 1) := by decide +kernel
theorem dX7_type_14 : decode cX7_type 14 = .ok (.aload_n 0, 1) := by decide +kernel
theorem dX7_type_15 : decode cX7_type 15 = .ok (.getfield 79, 3) := by decide +kernel
theorem dX7_type_18 : decode cX7_type 18 = .ok (.sipush 160, 3) := by decide +kernel
theorem dX7_type_21 : decode cX7_type 21 = .ok (.if_icmp .ne 6, 3) := by decide +kernel
theorem dX7_type_24 : decode cX7_type 24 = .ok (.bipush (-3), 2) := by decide +kernel
theorem dX7_type_26 : decode cX7_type 26 = .ok (.ireturn, 1) := by decide +kernel
theorem dX7_type_27 : decode cX7_type 27 = .ok (.aload_n 0, 1) := by decide +kernel
theorem dX7_type_28 : decode cX7_type 28 = .ok (.getfield 45, 3) := by decide +kernel
theorem dX7_type_31 : decode cX7_type 31 = .ok (.aload_n 0, 1) := by decide +kernel
theorem dX7_type_32 : decode cX7_type 32 = .ok (.getfield 79, 3) := by decide +kernel
theorem dX7_type_35 : decode cX7_type 35 = .ok (.iload_n 1, 1) := by decide +kernel
theorem dX7_type_36 : decode cX7_type 36 = .ok (.iastore, 1) := by decide +kernel
theorem dX7_type_37 : decode cX7_type 37 = .ok (.aload_n 0, 1) := by decide +kernel
theorem dX7_type_38 : decode cX7_type 38 = .ok (.dup, 1) := by decide +kernel
theorem dX7_type_39 : decode cX7_type 39 = .ok (.getfield 79, 3) := by decide +kernel
theorem dX7_type_42 : decode cX7_type 42 = .ok (.iconst 1, 1) := by decide +kernel
theorem dX7_type_43 : decode cX7_type 43 = .ok (.iadd, 1) := by decide +kernel
theorem dX7_type_44 : decode cX7_type 44 = .ok (.putfield 79, 3) := by decide +kernel
theorem dX7_type_47 : decode cX7_type 47 = .ok (.aload_n 0, 1) := by decide +kernel
theorem dX7_type_48 : decode cX7_type 48 = .ok (.getfield 79, 3) := by decide +kernel
theorem dX7_type_51 : decode cX7_type 51 = .ok (.ireturn, 1) := by decide +kernel
theorem dX7_clear_0 : decode cX7_clear 0 = .ok (.aload_n 0, 1) := by decide +kernel
theorem dX7_clear_1 : decode cX7_clear 1 = .ok (.getfield 79, 3) := by decide +kernel
theorem dX7_clear_4 : decode cX7_clear 4 = .ok (.istore_n 1, 1) := by decide +kernel
theorem dX7_clear_5 : decode cX7_clear 5 = .ok (.aload_n 0, 1) := by decide +kernel
theorem dX7_clear_6 : decode cX7_clear 6 = .ok (.iconst 0, 1) := by decide +kernel
theorem dX7_clear_7 : decode cX7_clear 7 = .ok (.putfield 79, 3) := by decide +kernel
theorem dX7_clear_10 : decode cX7_clear 10 = .ok (.iload_n 1, 1) := by decide +kernel
theorem dX7_clear_11 : decode cX7_clear 11 = .ok (.ireturn, 1) := by decide +kernel
theorem dX7_here_0 : decode cX7_here 0 = .ok (.aload_n 0, 1) := by decide +kernel
theorem dX7_here_1 : decode cX7_here 1 = .ok (.getfield 82, 3) := by decide +kernel
theorem dX7_here_4 : decode cX7_here 4 = .ok (.aload_n 0, 1) := by decide +kernel
theorem dX7_here_5 : decode cX7_here 5 = .ok (.getfield 79, 3) := by decide +kernel
theorem dX7_here_8 : decode cX7_here 8 = .ok (.if_icmp .ge 15, 3) := by decide +kernel
theorem dX7_here_11 : decode cX7_here 11 = .ok (.aload_n 0, 1) := by decide +kernel
theorem dX7_here_12 : decode cX7_here 12 = .ok (.getfield 45, 3) := by decide +kernel
theorem dX7_here_15 : decode cX7_here 15 = .ok (.aload_n 0, 1) := by decide +kernel
theorem dX7_here_16 : decode cX7_here 16 = .ok (.getfield 82, 3) := by decide +kernel
theorem dX7_here_19 : decode cX7_here 19 = .ok (.iaload, 1) := by decide +kernel
theorem dX7_here_20 : decode cX7_here 20 = .ok (.goto 4, 3) := by decide +kernel
theorem dX7_here_23 : decode cX7_here 23 = .ok (.iconst (-1), 1) := by decide +kernel
theorem dX7_here_24 : decode cX7_here 24 = .ok (.ireturn, 1) := by decide +kernel
theorem dX7_isLetter_0 : decode cX7_isLetter 0 = .ok (.aload_n 0, 1) := by decide +kernel
theorem dX7_isLetter_1 : decode cX7_isLetter 1 = .ok (.invokevirtual 85, 3) := by decide +kernel
theorem dX7_isLetter_4 : decode cX7_isLetter 4 = .ok (.i2l, 1) := by decide +kernel
theorem dX7_isLetter_5 : decode cX7_isLetter 5 = .ok (.ldc2_w 89, 3) := by decide +kernel
theorem dX7_isLetter_8 : decode cX7_isLetter 8 = .ok (.ldc2_w 91, 3) := by decide +kernel
theorem dX7_isLetter_11 : decode cX7_isLetter 11 = .ok (.invokestatic 75, 3) := by decide +kernel
theorem dX7_isLetter_14 : decode cX7_isLetter 14 = .ok (.ireturn, 1) := by decide +kernel
theorem dX7_isFigure_0 : decode cX7_isFigure 0 = .ok (.aload_n 0, 1) := by decide +kernel
theorem dX7_isFigure_1 : decode cX7_isFigure 1 = .ok (.invokevirtual 85, 3) := by decide +kernel
theorem dX7_isFigure_4 : decode cX7_isFigure 4 = .ok (.i2l, 1) := by decide +kernel
theorem dX7_isFigure_5 : decode cX7_isFigure 5 = .ok (.ldc2_w 93, 3) := by decide +kernel
theorem dX7_isFigure_8 : decode cX7_isFigure 8 = .ok (.ldc2_w 95, 3) := by decide +kernel
theorem dX7_isFigure_11 : decode cX7_isFigure 11 = .ok (.invokestatic 75, 3) := by decide +kernel
theorem dX7_isFigure_14 : decode cX7_isFigure 14 = .ok (.ireturn, 1) := by decide +kernel
theorem dX7_step_0 : decode cX7_step 0 = .ok (.aload_n 0, 1) := by decide +kernel
theorem dX7_step_1 : decode cX7_step 1 = .ok (.invokevirtual 85, 3) := by decide +kernel
theorem dX7_step_4 : decode cX7_step 4 = .ok (.bipush 32, 2) := by decide +kernel
theorem dX7_step_6 : decode cX7_step 6 = .ok (.if_icmp .ne 16, 3) := by decide +kernel
theorem dX7_step_9 : decode cX7_step 9 = .ok (.aload_n 0, 1) := by decide +kernel
theorem dX7_step_10 : decode cX7_step 10 = .ok (.dup, 1) := by decide +kernel
theorem dX7_step_11 : decode cX7_step 11 = .ok (.getfield 82, 3) := by decide +kernel
theorem dX7_step_14 : decode cX7_step 14 = .ok (.iconst 1, 1) := by decide +kernel
theorem dX7_step_15 : decode cX7_step 15 = .ok (.iadd, 1) := by decide +kernel
theorem dX7_step_16 : decode cX7_step 16 = .ok (.putfield 82, 3) := by decide +kernel
theorem dX7_step_19 : decode cX7_step 19 = .ok (.goto (-19), 3) := by decide +kernel
theorem dX7_step_22 : decode cX7_step 22 = .ok (.aload_n 0, 1) := by decide +kernel
theorem dX7_step_23 : decode cX7_step 23 = .ok (.aload_n 0, 1) := by decide +kernel
theorem dX7_step_24 : decode cX7_step 24 = .ok (.getfield 82, 3) := by decide +kernel
theorem dX7_step_27 : decode cX7_step 27 = .ok (.putfield 97, 3) := by decide +kernel
theorem dX7_step_30 : decode cX7_step 30 = .ok (.aload_n 0, 1) := by decide +kernel
theorem dX7_step_31 : decode cX7_step 31 = .ok (.iconst 0, 1) := by decide +kernel
theorem dX7_step_32 : decode cX7_step 32 = .ok (.putfield 100, 3) := by decide +kernel
theorem dX7_step_35 : decode cX7_step 35 = .ok (.aload_n 0, 1) := by decide +kernel
theorem dX7_step_36 : decode cX7_step 36 = .ok (.getfield 82, 3) := by decide +kernel
theorem dX7_step_39 : decode cX7_step 39 = .ok (.aload_n 0, 1) := by decide +kernel
theorem dX7_step_40 : decode cX7_step 40 = .ok (.getfield 79, 3) := by decide +kernel
theorem dX7_step_43 : decode cX7_step 43 = .ok (.if_icmp .ne 11, 3) := by decide +kernel
theorem dX7_step_46 : decode cX7_step 46 = .ok (.aload_n 0, 1) := by decide +kernel
theorem dX7_step_47 : decode cX7_step 47 = .ok (.iconst 0, 1) := by decide +kernel
theorem dX7_step_48 : decode cX7_step 48 = .ok (.putfield 103, 3) := by decide +kernel
theorem dX7_step_51 : decode cX7_step 51 = .ok (.goto 77, 3) := by decide +kernel
theorem dX7_step_54 : decode cX7_step 54 = .ok (.aload_n 0, 1) := by decide +kernel
theorem dX7_step_55 : decode cX7_step 55 = .ok (.invokevirtual 106, 3) := by decide +kernel
theorem dX7_step_58 : decode cX7_step 58 = .ok (.ifCond .eq 28, 3) := by decide +kernel
theorem dX7_step_61 : decode cX7_step 61 = .ok (.aload_n 0, 1) := by decide +kernel
theorem dX7_step_62 : decode cX7_step 62 = .ok (.iconst 1, 1) := by decide +kernel
theorem dX7_step_63 : decode cX7_step 63 = .ok (.putfield 103, 3) := by decide +kernel
theorem dX7_step_66 : decode cX7_step 66 = .ok (.aload_n 0, 1) := by decide +kernel
theorem dX7_step_67 : decode cX7_step 67 = .ok (.invokevirtual 106, 3) := by decide +kernel
theorem dX7_step_70 : decode cX7_step 70 = .ok (.ifCond .eq 58, 3) := by decide +kernel
theorem dX7_step_73 : decode cX7_step 73 = .ok (.aload_n 0, 1) := by decide +kernel
theorem dX7_step_74 : decode cX7_step 74 = .ok (.dup, 1) := by decide +kernel
theorem dX7_step_75 : decode cX7_step 75 = .ok (.getfield 82, 3) := by decide +kernel
theorem dX7_step_78 : decode cX7_step 78 = .ok (.iconst 1, 1) := by decide +kernel
theorem dX7_step_79 : decode cX7_step 79 = .ok (.iadd, 1) := by decide +kernel
theorem dX7_step_80 : decode cX7_step 80 = .ok (.putfield 82, 3) := by decide +kernel
theorem dX7_step_83 : decode cX7_step 83 = .ok (.goto (-17), 3) := by decide +kernel
theorem dX7_step_86 : decode cX7_step 86 = .ok (.aload_n 0, 1) := by decide +kernel
theorem dX7_step_87 : decode cX7_step 87 = .ok (.invokevirtual 110, 3) := by decide +kernel
theorem dX7_step_90 : decode cX7_step 90 = .ok (.ifCond .eq 10, 3) := by decide +kernel
theorem dX7_step_93 : decode cX7_step 93 = .ok (.aload_n 0, 1) := by decide +kernel
theorem dX7_step_94 : decode cX7_step 94 = .ok (.invokevirtual 113, 3) := by decide +kernel
theorem dX7_step_97 : decode cX7_step 97 = .ok (.goto 31, 3) := by decide +kernel
theorem dX7_step_100 : decode cX7_step 100 = .ok (.aload_n 0, 1) := by decide +kernel
theorem dX7_step_101 : decode cX7_step 101 = .ok (.aload_n 0, 1) := by decide +kernel
theorem dX7_step_102 : decode cX7_step 102 = .ok (.invokevirtual 85, 3) := by decide +kernel
theorem dX7_step_105 : decode cX7_step 105 = .ok (.bipush 59, 2) := by decide +kernel
theorem dX7_step_107 : decode cX7_step 107 = .ok (.if_icmp .ne 7, 3) := by decide +kernel
theorem dX7_step_110 : decode cX7_step 110 = .ok (.iconst 3, 1) := by decide +kernel
theorem dX7_step_111 : decode cX7_step 111 = .ok (.goto 4, 3) := by decide +kernel
theorem dX7_step_114 : decode cX7_step 114 = .ok (.iconst 4, 1) := by decide +kernel
theorem dX7_step_115 : decode cX7_step 115 = .ok (.putfield 103, 3) := by decide +kernel
theorem dX7_step_118 : decode cX7_step 118 = .ok (.aload_n 0, 1) := by decide +kernel
theorem dX7_step_119 : decode cX7_step 119 = .ok (.dup, 1) := by decide +kernel
theorem dX7_step_120 : decode cX7_step 120 = .ok (.getfield 82, 3) := by decide +kernel
theorem dX7_step_123 : decode cX7_step 123 = .ok (.iconst 1, 1) := by decide +kernel
theorem dX7_step_124 : decode cX7_step 124 = .ok (.iadd, 1) := by decide +kernel
theorem dX7_step_125 : decode cX7_step 125 = .ok (.putfield 82, 3) := by decide +kernel
theorem dX7_step_128 : decode cX7_step 128 = .ok (.return_, 1) := by decide +kernel
theorem dX7_readsFigures_0 : decode cX7_readsFigures 0 = .ok (.aload_n 0, 1) := by decide +kernel
theorem dX7_readsFigures_1 : decode cX7_readsFigures 1 = .ok (.invokevirtual 85, 3) := by decide +kernel
theorem dX7_readsFigures_4 : decode cX7_readsFigures 4 = .ok (.bipush 48, 2) := by decide +kernel
theorem dX7_readsFigures_6 : decode cX7_readsFigures 6 = .ok (.if_icmp .ne 7, 3) := by decide +kernel
theorem dX7_readsFigures_9 : decode cX7_readsFigures 9 = .ok (.iconst 1, 1) := by decide +kernel
theorem dX7_readsFigures_10 : decode cX7_readsFigures 10 = .ok (.goto 4, 3) := by decide +kernel
theorem dX7_readsFigures_13 : decode cX7_readsFigures 13 = .ok (.iconst 0, 1) := by decide +kernel
theorem dX7_readsFigures_14 : decode cX7_readsFigures 14 = .ok (.istore_n 1, 1) := by decide +kernel
theorem dX7_readsFigures_15 : decode cX7_readsFigures 15 = .ok (.aload_n 0, 1) := by decide +kernel
theorem dX7_readsFigures_16 : decode cX7_readsFigures 16 = .ok (.invokevirtual 110, 3) := by decide +kernel
theorem dX7_readsFigures_19 : decode cX7_readsFigures 19 = .ok (.ifCond .eq 51, 3) := by decide +kernel
theorem dX7_readsFigures_22 : decode cX7_readsFigures 22 = .ok (.aload_n 0, 1) := by decide +kernel
theorem dX7_readsFigures_23 : decode cX7_readsFigures 23 = .ok (.aload_n 0, 1) := by decide +kernel
theorem dX7_readsFigures_24 : decode cX7_readsFigures 24 = .ok (.getfield 100, 3) := by decide +kernel
theorem dX7_readsFigures_27 : decode cX7_readsFigures 27 = .ok (.bipush 99, 2) := by decide +kernel
theorem dX7_readsFigures_29 : decode cX7_readsFigures 29 = .ok (.if_icmp .le 10, 3) := by decide +kernel
theorem dX7_readsFigures_32 : decode cX7_readsFigures 32 = .ok (.aload_n 0, 1) := by decide +kernel
theorem dX7_readsFigures_33 : decode cX7_readsFigures 33 = .ok (.getfield 100, 3) := by decide +kernel
theorem dX7_readsFigures_36 : decode cX7_readsFigures 36 = .ok (.goto 18, 3) := by decide +kernel
theorem dX7_readsFigures_39 : decode cX7_readsFigures 39 = .ok (.bipush 10, 2) := by decide +kernel
theorem dX7_readsFigures_41 : decode cX7_readsFigures 41 = .ok (.aload_n 0, 1) := by decide +kernel
theorem dX7_readsFigures_42 : decode cX7_readsFigures 42 = .ok (.getfield 100, 3) := by decide +kernel
theorem dX7_readsFigures_45 : decode cX7_readsFigures 45 = .ok (.imul, 1) := by decide +kernel
theorem dX7_readsFigures_46 : decode cX7_readsFigures 46 = .ok (.aload_n 0, 1) := by decide +kernel
theorem dX7_readsFigures_47 : decode cX7_readsFigures 47 = .ok (.invokevirtual 85, 3) := by decide +kernel
theorem dX7_readsFigures_50 : decode cX7_readsFigures 50 = .ok (.iadd, 1) := by decide +kernel
theorem dX7_readsFigures_51 : decode cX7_readsFigures 51 = .ok (.bipush 48, 2) := by decide +kernel
theorem dX7_readsFigures_53 : decode cX7_readsFigures 53 = .ok (.isub, 1) := by decide +kernel
theorem dX7_readsFigures_54 : decode cX7_readsFigures 54 = .ok (.putfield 100, 3) := by decide +kernel
theorem dX7_readsFigures_57 : decode cX7_readsFigures 57 = .ok (.aload_n 0, 1) := by decide +kernel
theorem dX7_readsFigures_58 : decode cX7_readsFigures 58 = .ok (.dup, 1) := by decide +kernel
theorem dX7_readsFigures_59 : decode cX7_readsFigures 59 = .ok (.getfield 82, 3) := by decide +kernel
theorem dX7_readsFigures_62 : decode cX7_readsFigures 62 = .ok (.iconst 1, 1) := by decide +kernel
theorem dX7_readsFigures_63 : decode cX7_readsFigures 63 = .ok (.iadd, 1) := by decide +kernel
theorem dX7_readsFigures_64 : decode cX7_readsFigures 64 = .ok (.putfield 82, 3) := by decide +kernel
theorem dX7_readsFigures_67 : decode cX7_readsFigures 67 = .ok (.goto (-52), 3) := by decide +kernel
theorem dX7_readsFigures_70 : decode cX7_readsFigures 70 = .ok (.aload_n 0, 1) := by decide +kernel
theorem dX7_readsFigures_71 : decode cX7_readsFigures 71 = .ok (.aload_n 0, 1) := by decide +kernel
theorem dX7_readsFigures_72 : decode cX7_readsFigures 72 = .ok (.getfield 100, 3) := by decide +kernel
theorem dX7_readsFigures_75 : decode cX7_readsFigures 75 = .ok (.bipush 99, 2) := by decide +kernel
theorem dX7_readsFigures_77 : decode cX7_readsFigures 77 = .ok (.if_icmp .gt 20, 3) := by decide +kernel
theorem dX7_readsFigures_80 : decode cX7_readsFigures 80 = .ok (.iload_n 1, 1) := by decide +kernel
theorem dX7_readsFigures_81 : decode cX7_readsFigures 81 = .ok (.ifCond .eq 20, 3) := by decide +kernel
theorem dX7_readsFigures_84 : decode cX7_readsFigures 84 = .ok (.aload_n 0, 1) := by decide +kernel
theorem dX7_readsFigures_85 : decode cX7_readsFigures 85 = .ok (.getfield 82, 3) := by decide +kernel
theorem dX7_readsFigures_88 : decode cX7_readsFigures 88 = .ok (.aload_n 0, 1) := by decide +kernel
theorem dX7_readsFigures_89 : decode cX7_readsFigures 89 = .ok (.getfield 97, 3) := by decide +kernel
theorem dX7_readsFigures_92 : decode cX7_readsFigures 92 = .ok (.isub, 1) := by decide +kernel
theorem dX7_readsFigures_93 : decode cX7_readsFigures 93 = .ok (.iconst 1, 1) := by decide +kernel
theorem dX7_readsFigures_94 : decode cX7_readsFigures 94 = .ok (.if_icmp .le 7, 3) := by decide +kernel
theorem dX7_readsFigures_97 : decode cX7_readsFigures 97 = .ok (.iconst 4, 1) := by decide +kernel
theorem dX7_readsFigures_98 : decode cX7_readsFigures 98 = .ok (.goto 4, 3) := by decide +kernel
theorem dX7_readsFigures_101 : decode cX7_readsFigures 101 = .ok (.iconst 2, 1) := by decide +kernel
theorem dX7_readsFigures_102 : decode cX7_readsFigures 102 = .ok (.putfield 103, 3) := by decide +kernel
theorem dX7_readsFigures_105 : decode cX7_readsFigures 105 = .ok (.return_, 1) := by decide +kernel
theorem dX7_number_0 : decode cX7_number 0 = .ok (.aload_n 0, 1) := by decide +kernel
theorem dX7_number_1 : decode cX7_number 1 = .ok (.invokevirtual 116, 3) := by decide +kernel
theorem dX7_number_4 : decode cX7_number 4 = .ok (.aload_n 0, 1) := by decide +kernel
theorem dX7_number_5 : decode cX7_number 5 = .ok (.getfield 103, 3) := by decide +kernel
theorem dX7_number_8 : decode cX7_number 8 = .ok (.iconst 2, 1) := by decide +kernel
theorem dX7_number_9 : decode cX7_number 9 = .ok (.if_icmp .ne 22, 3) := by decide +kernel
theorem dX7_number_12 : decode cX7_number 12 = .ok (.aload_n 0, 1) := by decide +kernel
theorem dX7_number_13 : decode cX7_number 13 = .ok (.getfield 100, 3) := by decide +kernel
theorem dX7_number_16 : decode cX7_number 16 = .ok (.i2l, 1) := by decide +kernel
theorem dX7_number_17 : decode cX7_number 17 = .ok (.iload_n 1, 1) := by decide +kernel
theorem dX7_number_18 : decode cX7_number 18 = .ok (.i2l, 1) := by decide +kernel
theorem dX7_number_19 : decode cX7_number 19 = .ok (.iload_n 2, 1) := by decide +kernel
theorem dX7_number_20 : decode cX7_number 20 = .ok (.i2l, 1) := by decide +kernel
theorem dX7_number_21 : decode cX7_number 21 = .ok (.invokestatic 75, 3) := by decide +kernel
theorem dX7_number_24 : decode cX7_number 24 = .ok (.ifCond .eq 7, 3) := by decide +kernel
theorem dX7_number_27 : decode cX7_number 27 = .ok (.iconst 1, 1) := by decide +kernel
theorem dX7_number_28 : decode cX7_number 28 = .ok (.goto 4, 3) := by decide +kernel
theorem dX7_number_31 : decode cX7_number 31 = .ok (.iconst 0, 1) := by decide +kernel
theorem dX7_number_32 : decode cX7_number 32 = .ok (.ireturn, 1) := by decide +kernel
theorem dX7_row_0 : decode cX7_row 0 = .ok (.aload_n 0, 1) := by decide +kernel
theorem dX7_row_1 : decode cX7_row 1 = .ok (.invokevirtual 116, 3) := by decide +kernel
theorem dX7_row_4 : decode cX7_row 4 = .ok (.iconst 0, 1) := by decide +kernel
theorem dX7_row_5 : decode cX7_row 5 = .ok (.istore_n 3, 1) := by decide +kernel
theorem dX7_row_6 : decode cX7_row 6 = .ok (.aload_n 0, 1) := by decide +kernel
theorem dX7_row_7 : decode cX7_row 7 = .ok (.getfield 97, 3) := by decide +kernel
theorem dX7_row_10 : decode cX7_row 10 = .ok (.istore 4, 2) := by decide +kernel
theorem dX7_row_12 : decode cX7_row 12 = .ok (.iload 4, 2) := by decide +kernel
theorem dX7_row_14 : decode cX7_row 14 = .ok (.aload_n 0, 1) := by decide +kernel
theorem dX7_row_15 : decode cX7_row 15 = .ok (.getfield 82, 3) := by decide +kernel
theorem dX7_row_18 : decode cX7_row 18 = .ok (.if_icmp .ge 54, 3) := by decide +kernel
theorem dX7_row_21 : decode cX7_row 21 = .ok (.aload_n 0, 1) := by decide +kernel
theorem dX7_row_22 : decode cX7_row 22 = .ok (.getfield 103, 3) := by decide +kernel
theorem dX7_row_25 : decode cX7_row 25 = .ok (.iconst 1, 1) := by decide +kernel
theorem dX7_row_26 : decode cX7_row 26 = .ok (.if_icmp .ne 46, 3) := by decide +kernel
theorem dX7_row_29 : decode cX7_row 29 = .ok (.aload_n 0, 1) := by decide +kernel
theorem dX7_row_30 : decode cX7_row 30 = .ok (.getfield 45, 3) := by decide +kernel
theorem dX7_row_33 : decode cX7_row 33 = .ok (.iload 4, 2) := by decide +kernel
theorem dX7_row_35 : decode cX7_row 35 = .ok (.iaload, 1) := by decide +kernel
theorem dX7_row_36 : decode cX7_row 36 = .ok (.i2l, 1) := by decide +kernel
theorem dX7_row_37 : decode cX7_row 37 = .ok (.ldc2_w 89, 3) := by decide +kernel
theorem dX7_row_40 : decode cX7_row 40 = .ok (.ldc2_w 119, 3) := by decide +kernel
theorem dX7_row_43 : decode cX7_row 43 = .ok (.invokestatic 75, 3) := by decide +kernel
theorem dX7_row_46 : decode cX7_row 46 = .ok (.ifCond .ne 5, 3) := by decide +kernel
theorem dX7_row_49 : decode cX7_row 49 = .ok (.iconst 0, 1) := by decide +kernel
theorem dX7_row_50 : decode cX7_row 50 = .ok (.ireturn, 1) := by decide +kernel
theorem dX7_row_51 : decode cX7_row 51 = .ok (.iload_n 3, 1) := by decide +kernel
theorem dX7_row_52 : decode cX7_row 52 = .ok (.iconst 1, 1) := by decide +kernel
theorem dX7_row_53 : decode cX7_row 53 = .ok (.aload_n 0, 1) := by decide +kernel
theorem dX7_row_54 : decode cX7_row 54 = .ok (.getfield 45, 3) := by decide +kernel
theorem dX7_row_57 : decode cX7_row 57 = .ok (.iload 4, 2) := by decide +kernel
theorem dX7_row_59 : decode cX7_row 59 = .ok (.iaload, 1) := by decide +kernel
theorem dX7_row_60 : decode cX7_row 60 = .ok (.bipush 97, 2) := by decide +kernel
theorem dX7_row_62 : decode cX7_row 62 = .ok (.isub, 1) := by decide +kernel
theorem dX7_row_63 : decode cX7_row 63 = .ok (.ishl, 1) := by decide +kernel
theorem dX7_row_64 : decode cX7_row 64 = .ok (.ior, 1) := by decide +kernel
theorem dX7_row_65 : decode cX7_row 65 = .ok (.istore_n 3, 1) := by decide +kernel
theorem dX7_row_66 : decode cX7_row 66 = .ok (.iinc 4 1, 3) := by decide +kernel
theorem dX7_row_69 : decode cX7_row 69 = .ok (.goto (-57), 3) := by decide +kernel
theorem dX7_row_72 : decode cX7_row 72 = .ok (.aload_n 0, 1) := by decide +kernel
theorem dX7_row_73 : decode cX7_row 73 = .ok (.getfield 103, 3) := by decide +kernel
theorem dX7_row_76 : decode cX7_row 76 = .ok (.iconst 1, 1) := by decide +kernel
theorem dX7_row_77 : decode cX7_row 77 = .ok (.if_icmp .ne 27, 3) := by decide +kernel
theorem dX7_row_80 : decode cX7_row 80 = .ok (.aload_n 0, 1) := by decide +kernel
theorem dX7_row_81 : decode cX7_row 81 = .ok (.getfield 82, 3) := by decide +kernel
theorem dX7_row_84 : decode cX7_row 84 = .ok (.aload_n 0, 1) := by decide +kernel
theorem dX7_row_85 : decode cX7_row 85 = .ok (.getfield 97, 3) := by decide +kernel
theorem dX7_row_88 : decode cX7_row 88 = .ok (.isub, 1) := by decide +kernel
theorem dX7_row_89 : decode cX7_row 89 = .ok (.i2l, 1) := by decide +kernel
theorem dX7_row_90 : decode cX7_row 90 = .ok (.iload_n 1, 1) := by decide +kernel
theorem dX7_row_91 : decode cX7_row 91 = .ok (.i2l, 1) := by decide +kernel
theorem dX7_row_92 : decode cX7_row 92 = .ok (.iload_n 2, 1) := by decide +kernel
theorem dX7_row_93 : decode cX7_row 93 = .ok (.i2l, 1) := by decide +kernel
theorem dX7_row_94 : decode cX7_row 94 = .ok (.invokestatic 75, 3) := by decide +kernel
theorem dX7_row_97 : decode cX7_row 97 = .ok (.ifCond .eq 7, 3) := by decide +kernel
theorem dX7_row_100 : decode cX7_row 100 = .ok (.iload_n 3, 1) := by decide +kernel
theorem dX7_row_101 : decode cX7_row 101 = .ok (.goto 4, 3) := by decide +kernel
theorem dX7_row_104 : decode cX7_row 104 = .ok (.iconst 0, 1) := by decide +kernel
theorem dX7_row_105 : decode cX7_row 105 = .ok (.ireturn, 1) := by decide +kernel
theorem dX7_isLeaf_0 : decode cX7_isLeaf 0 = .ok (.aload_n 0, 1) := by decide +kernel
theorem dX7_isLeaf_1 : decode cX7_isLeaf 1 = .ok (.getfield 121, 3) := by decide +kernel
theorem dX7_isLeaf_4 : decode cX7_isLeaf 4 = .ok (.iconst 5, 1) := by decide +kernel
theorem dX7_isLeaf_5 : decode cX7_isLeaf 5 = .ok (.if_icmp .ne 5, 3) := by decide +kernel
theorem dX7_isLeaf_8 : decode cX7_isLeaf 8 = .ok (.iconst 0, 1) := by decide +kernel
theorem dX7_isLeaf_9 : decode cX7_isLeaf 9 = .ok (.ireturn, 1) := by decide +kernel
theorem dX7_isLeaf_10 : decode cX7_isLeaf 10 = .ok (.aload_n 0, 1) := by decide +kernel
theorem dX7_isLeaf_11 : decode cX7_isLeaf 11 = .ok (.iconst 1, 1) := by decide +kernel
theorem dX7_isLeaf_12 : decode cX7_isLeaf 12 = .ok (.bipush 6, 2) := by decide +kernel
theorem dX7_isLeaf_14 : decode cX7_isLeaf 14 = .ok (.invokevirtual 124, 3) := by decide +kernel
theorem dX7_isLeaf_17 : decode cX7_isLeaf 17 = .ok (.istore_n 1, 1) := by decide +kernel
theorem dX7_isLeaf_18 : decode cX7_isLeaf 18 = .ok (.iload_n 1, 1) := by decide +kernel
theorem dX7_isLeaf_19 : decode cX7_isLeaf 19 = .ok (.ifCond .ne 5, 3) := by decide +kernel
theorem dX7_isLeaf_22 : decode cX7_isLeaf 22 = .ok (.iconst 0, 1) := by decide +kernel
theorem dX7_isLeaf_23 : decode cX7_isLeaf 23 = .ok (.ireturn, 1) := by decide +kernel
theorem dX7_isLeaf_24 : decode cX7_isLeaf 24 = .ok (.aload_n 0, 1) := by decide +kernel
theorem dX7_isLeaf_25 : decode cX7_isLeaf 25 = .ok (.getfield 48, 3) := by decide +kernel
theorem dX7_isLeaf_28 : decode cX7_isLeaf 28 = .ok (.aload_n 0, 1) := by decide +kernel
theorem dX7_isLeaf_29 : decode cX7_isLeaf 29 = .ok (.getfield 121, 3) := by decide +kernel
theorem dX7_isLeaf_32 : decode cX7_isLeaf 32 = .ok (.iload_n 1, 1) := by decide +kernel
theorem dX7_isLeaf_33 : decode cX7_isLeaf 33 = .ok (.iastore, 1) := by decide +kernel
theorem dX7_isLeaf_34 : decode cX7_isLeaf 34 = .ok (.aload_n 0, 1) := by decide +kernel
theorem dX7_isLeaf_35 : decode cX7_isLeaf 35 = .ok (.dup, 1) := by decide +kernel
theorem dX7_isLeaf_36 : decode cX7_isLeaf 36 = .ok (.getfield 121, 3) := by decide +kernel
theorem dX7_isLeaf_39 : decode cX7_isLeaf 39 = .ok (.iconst 1, 1) := by decide +kernel
theorem dX7_isLeaf_40 : decode cX7_isLeaf 40 = .ok (.iadd, 1) := by decide +kernel
theorem dX7_isLeaf_41 : decode cX7_isLeaf 41 = .ok (.putfield 121, 3) := by decide +kernel
theorem dX7_isLeaf_44 : decode cX7_isLeaf 44 = .ok (.iconst 1, 1) := by decide +kernel
theorem dX7_isLeaf_45 : decode cX7_isLeaf 45 = .ok (.ireturn, 1) := by decide +kernel
theorem dX7_isGoer_0 : decode cX7_isGoer 0 = .ok (.aload_n 0, 1) := by decide +kernel
theorem dX7_isGoer_1 : decode cX7_isGoer 1 = .ok (.getfield 128, 3) := by decide +kernel
theorem dX7_isGoer_4 : decode cX7_isGoer 4 = .ok (.bipush 6, 2) := by decide +kernel
theorem dX7_isGoer_6 : decode cX7_isGoer 6 = .ok (.if_icmp .ne 5, 3) := by decide +kernel
theorem dX7_isGoer_9 : decode cX7_isGoer 9 = .ok (.iconst 0, 1) := by decide +kernel
theorem dX7_isGoer_10 : decode cX7_isGoer 10 = .ok (.ireturn, 1) := by decide +kernel
theorem dX7_isGoer_11 : decode cX7_isGoer 11 = .ok (.aload_n 0, 1) := by decide +kernel
theorem dX7_isGoer_12 : decode cX7_isGoer 12 = .ok (.iconst 1, 1) := by decide +kernel
theorem dX7_isGoer_13 : decode cX7_isGoer 13 = .ok (.bipush 6, 2) := by decide +kernel
theorem dX7_isGoer_15 : decode cX7_isGoer 15 = .ok (.invokevirtual 124, 3) := by decide +kernel
theorem dX7_isGoer_18 : decode cX7_isGoer 18 = .ok (.istore_n 1, 1) := by decide +kernel
theorem dX7_isGoer_19 : decode cX7_isGoer 19 = .ok (.iload_n 1, 1) := by decide +kernel
theorem dX7_isGoer_20 : decode cX7_isGoer 20 = .ok (.ifCond .ne 5, 3) := by decide +kernel
theorem dX7_isGoer_23 : decode cX7_isGoer 23 = .ok (.iconst 0, 1) := by decide +kernel
theorem dX7_isGoer_24 : decode cX7_isGoer 24 = .ok (.ireturn, 1) := by decide +kernel
theorem dX7_isGoer_25 : decode cX7_isGoer 25 = .ok (.aload_n 0, 1) := by decide +kernel
theorem dX7_isGoer_26 : decode cX7_isGoer 26 = .ok (.getfield 51, 3) := by decide +kernel
theorem dX7_isGoer_29 : decode cX7_isGoer 29 = .ok (.aload_n 0, 1) := by decide +kernel
theorem dX7_isGoer_30 : decode cX7_isGoer 30 = .ok (.getfield 128, 3) := by decide +kernel
theorem dX7_isGoer_33 : decode cX7_isGoer 33 = .ok (.iload_n 1, 1) := by decide +kernel
theorem dX7_isGoer_34 : decode cX7_isGoer 34 = .ok (.iastore, 1) := by decide +kernel
theorem dX7_isGoer_35 : decode cX7_isGoer 35 = .ok (.aload_n 0, 1) := by decide +kernel
theorem dX7_isGoer_36 : decode cX7_isGoer 36 = .ok (.dup, 1) := by decide +kernel
theorem dX7_isGoer_37 : decode cX7_isGoer 37 = .ok (.getfield 128, 3) := by decide +kernel
theorem dX7_isGoer_40 : decode cX7_isGoer 40 = .ok (.iconst 1, 1) := by decide +kernel
theorem dX7_isGoer_41 : decode cX7_isGoer 41 = .ok (.iadd, 1) := by decide +kernel
theorem dX7_isGoer_42 : decode cX7_isGoer 42 = .ok (.putfield 128, 3) := by decide +kernel
theorem dX7_isGoer_45 : decode cX7_isGoer 45 = .ok (.iconst 1, 1) := by decide +kernel
theorem dX7_isGoer_46 : decode cX7_isGoer 46 = .ok (.ireturn, 1) := by decide +kernel
theorem dX7_isSister_0 : decode cX7_isSister 0 = .ok (.aload_n 0, 1) := by decide +kernel
theorem dX7_isSister_1 : decode cX7_isSister 1 = .ok (.getfield 131, 3) := by decide +kernel
theorem dX7_isSister_4 : decode cX7_isSister 4 = .ok (.iconst 4, 1) := by decide +kernel
theorem dX7_isSister_5 : decode cX7_isSister 5 = .ok (.if_icmp .eq 14, 3) := by decide +kernel
theorem dX7_isSister_8 : decode cX7_isSister 8 = .ok (.aload_n 0, 1) := by decide +kernel
theorem dX7_isSister_9 : decode cX7_isSister 9 = .ok (.bipush 6, 2) := by decide +kernel
theorem dX7_isSister_11 : decode cX7_isSister 11 = .ok (.bipush 6, 2) := by decide +kernel
theorem dX7_isSister_13 : decode cX7_isSister 13 = .ok (.invokevirtual 124, 3) := by decide +kernel
theorem dX7_isSister_16 : decode cX7_isSister 16 = .ok (.ifCond .ne 5, 3) := by decide +kernel
theorem dX7_isSister_19 : decode cX7_isSister 19 = .ok (.iconst 0, 1) := by decide +kernel
theorem dX7_isSister_20 : decode cX7_isSister 20 = .ok (.ireturn, 1) := by decide +kernel
theorem dX7_isSister_21 : decode cX7_isSister 21 = .ok (.iconst 0, 1) := by decide +kernel
theorem dX7_isSister_22 : decode cX7_isSister 22 = .ok (.istore_n 1, 1) := by decide +kernel
theorem dX7_isSister_23 : decode cX7_isSister 23 = .ok (.iload_n 1, 1) := by decide +kernel
theorem dX7_isSister_24 : decode cX7_isSister 24 = .ok (.bipush 6, 2) := by decide +kernel
theorem dX7_isSister_26 : decode cX7_isSister 26 = .ok (.if_icmp .ge 37, 3) := by decide +kernel
theorem dX7_isSister_29 : decode cX7_isSister 29 = .ok (.aload_n 0, 1) := by decide +kernel
theorem dX7_isSister_30 : decode cX7_isSister 30 = .ok (.getfield 54, 3) := by decide +kernel
theorem dX7_isSister_33 : decode cX7_isSister 33 = .ok (.bipush 6, 2) := by decide +kernel
theorem dX7_isSister_35 : decode cX7_isSister 35 = .ok (.aload_n 0, 1) := by decide +kernel
theorem dX7_isSister_36 : decode cX7_isSister 36 = .ok (.getfield 131, 3) := by decide +kernel
theorem dX7_isSister_39 : decode cX7_isSister 39 = .ok (.imul, 1) := by decide +kernel
theorem dX7_isSister_40 : decode cX7_isSister 40 = .ok (.iload_n 1, 1) := by decide +kernel
theorem dX7_isSister_41 : decode cX7_isSister 41 = .ok (.iadd, 1) := by decide +kernel
theorem dX7_isSister_42 : decode cX7_isSister 42 = .ok (.aload_n 0, 1) := by decide +kernel
theorem dX7_isSister_43 : decode cX7_isSister 43 = .ok (.getfield 45, 3) := by decide +kernel
theorem dX7_isSister_46 : decode cX7_isSister 46 = .ok (.aload_n 0, 1) := by decide +kernel
theorem dX7_isSister_47 : decode cX7_isSister 47 = .ok (.getfield 97, 3) := by decide +kernel
theorem dX7_isSister_50 : decode cX7_isSister 50 = .ok (.iload_n 1, 1) := by decide +kernel
theorem dX7_isSister_51 : decode cX7_isSister 51 = .ok (.iadd, 1) := by decide +kernel
theorem dX7_isSister_52 : decode cX7_isSister 52 = .ok (.iaload, 1) := by decide +kernel
theorem dX7_isSister_53 : decode cX7_isSister 53 = .ok (.bipush 97, 2) := by decide +kernel
theorem dX7_isSister_55 : decode cX7_isSister 55 = .ok (.isub, 1) := by decide +kernel
theorem dX7_isSister_56 : decode cX7_isSister 56 = .ok (.iastore, 1) := by decide +kernel
theorem dX7_isSister_57 : decode cX7_isSister 57 = .ok (.iinc 1 1, 3) := by decide +kernel
theorem dX7_isSister_60 : decode cX7_isSister 60 = .ok (.goto (-37), 3) := by decide +kernel
theorem dX7_isSister_63 : decode cX7_isSister 63 = .ok (.aload_n 0, 1) := by decide +kernel
theorem dX7_isSister_64 : decode cX7_isSister 64 = .ok (.dup, 1) := by decide +kernel
theorem dX7_isSister_65 : decode cX7_isSister 65 = .ok (.getfield 131, 3) := by decide +kernel
theorem dX7_isSister_68 : decode cX7_isSister 68 = .ok (.iconst 1, 1) := by decide +kernel
theorem dX7_isSister_69 : decode cX7_isSister 69 = .ok (.iadd, 1) := by decide +kernel
theorem dX7_isSister_70 : decode cX7_isSister 70 = .ok (.putfield 131, 3) := by decide +kernel
theorem dX7_isSister_73 : decode cX7_isSister 73 = .ok (.iconst 1, 1) := by decide +kernel
theorem dX7_isSister_74 : decode cX7_isSister 74 = .ok (.ireturn, 1) := by decide +kernel
theorem dX7_isFriday_0 : decode cX7_isFriday 0 = .ok (.aload_n 0, 1) := by decide +kernel
theorem dX7_isFriday_1 : decode cX7_isFriday 1 = .ok (.getfield 134, 3) := by decide +kernel
theorem dX7_isFriday_4 : decode cX7_isFriday 4 = .ok (.iconst 3, 1) := by decide +kernel
theorem dX7_isFriday_5 : decode cX7_isFriday 5 = .ok (.if_icmp .eq 13, 3) := by decide +kernel
theorem dX7_isFriday_8 : decode cX7_isFriday 8 = .ok (.aload_n 0, 1) := by decide +kernel
theorem dX7_isFriday_9 : decode cX7_isFriday 9 = .ok (.iconst 2, 1) := by decide +kernel
theorem dX7_isFriday_10 : decode cX7_isFriday 10 = .ok (.bipush 12, 2) := by decide +kernel
theorem dX7_isFriday_12 : decode cX7_isFriday 12 = .ok (.invokevirtual 137, 3) := by decide +kernel
theorem dX7_isFriday_15 : decode cX7_isFriday 15 = .ok (.ifCond .ne 5, 3) := by decide +kernel
theorem dX7_isFriday_18 : decode cX7_isFriday 18 = .ok (.iconst 0, 1) := by decide +kernel
theorem dX7_isFriday_19 : decode cX7_isFriday 19 = .ok (.ireturn, 1) := by decide +kernel
theorem dX7_isFriday_20 : decode cX7_isFriday 20 = .ok (.aload_n 0, 1) := by decide +kernel
theorem dX7_isFriday_21 : decode cX7_isFriday 21 = .ok (.getfield 100, 3) := by decide +kernel
theorem dX7_isFriday_24 : decode cX7_isFriday 24 = .ok (.istore_n 1, 1) := by decide +kernel
theorem dX7_isFriday_25 : decode cX7_isFriday 25 = .ok (.aload_n 0, 1) := by decide +kernel
theorem dX7_isFriday_26 : decode cX7_isFriday 26 = .ok (.iconst 0, 1) := by decide +kernel
theorem dX7_isFriday_27 : decode cX7_isFriday 27 = .ok (.iload_n 1, 1) := by decide +kernel
theorem dX7_isFriday_28 : decode cX7_isFriday 28 = .ok (.iconst 1, 1) := by decide +kernel
theorem dX7_isFriday_29 : decode cX7_isFriday 29 = .ok (.isub, 1) := by decide +kernel
theorem dX7_isFriday_30 : decode cX7_isFriday 30 = .ok (.invokevirtual 137, 3) := by decide +kernel
theorem dX7_isFriday_33 : decode cX7_isFriday 33 = .ok (.ifCond .ne 5, 3) := by decide +kernel
theorem dX7_isFriday_36 : decode cX7_isFriday 36 = .ok (.iconst 0, 1) := by decide +kernel
theorem dX7_isFriday_37 : decode cX7_isFriday 37 = .ok (.ireturn, 1) := by decide +kernel
theorem dX7_isFriday_38 : decode cX7_isFriday 38 = .ok (.aload_n 0, 1) := by decide +kernel
theorem dX7_isFriday_39 : decode cX7_isFriday 39 = .ok (.getfield 57, 3) := by decide +kernel
theorem dX7_isFriday_42 : decode cX7_isFriday 42 = .ok (.aload_n 0, 1) := by decide +kernel
theorem dX7_isFriday_43 : decode cX7_isFriday 43 = .ok (.getfield 134, 3) := by decide +kernel
theorem dX7_isFriday_46 : decode cX7_isFriday 46 = .ok (.iload_n 1, 1) := by decide +kernel
theorem dX7_isFriday_47 : decode cX7_isFriday 47 = .ok (.iastore, 1) := by decide +kernel
theorem dX7_isFriday_48 : decode cX7_isFriday 48 = .ok (.aload_n 0, 1) := by decide +kernel
theorem dX7_isFriday_49 : decode cX7_isFriday 49 = .ok (.getfield 60, 3) := by decide +kernel
theorem dX7_isFriday_52 : decode cX7_isFriday 52 = .ok (.aload_n 0, 1) := by decide +kernel
theorem dX7_isFriday_53 : decode cX7_isFriday 53 = .ok (.getfield 134, 3) := by decide +kernel
theorem dX7_isFriday_56 : decode cX7_isFriday 56 = .ok (.aload_n 0, 1) := by decide +kernel
theorem dX7_isFriday_57 : decode cX7_isFriday 57 = .ok (.getfield 100, 3) := by decide +kernel
theorem dX7_isFriday_60 : decode cX7_isFriday 60 = .ok (.iastore, 1) := by decide +kernel
theorem dX7_isFriday_61 : decode cX7_isFriday 61 = .ok (.aload_n 0, 1) := by decide +kernel
theorem dX7_isFriday_62 : decode cX7_isFriday 62 = .ok (.dup, 1) := by decide +kernel
theorem dX7_isFriday_63 : decode cX7_isFriday 63 = .ok (.getfield 134, 3) := by decide +kernel
theorem dX7_isFriday_66 : decode cX7_isFriday 66 = .ok (.iconst 1, 1) := by decide +kernel
theorem dX7_isFriday_67 : decode cX7_isFriday 67 = .ok (.iadd, 1) := by decide +kernel
theorem dX7_isFriday_68 : decode cX7_isFriday 68 = .ok (.putfield 134, 3) := by decide +kernel
theorem dX7_isFriday_71 : decode cX7_isFriday 71 = .ok (.iconst 1, 1) := by decide +kernel
theorem dX7_isFriday_72 : decode cX7_isFriday 72 = .ok (.ireturn, 1) := by decide +kernel
theorem dX7_isLane_0 : decode cX7_isLane 0 = .ok (.aload_n 0, 1) := by decide +kernel
theorem dX7_isLane_1 : decode cX7_isLane 1 = .ok (.getfield 140, 3) := by decide +kernel
theorem dX7_isLane_4 : decode cX7_isLane 4 = .ok (.ifCond .gt 13, 3) := by decide +kernel
theorem dX7_isLane_7 : decode cX7_isLane 7 = .ok (.aload_n 0, 1) := by decide +kernel
theorem dX7_isLane_8 : decode cX7_isLane 8 = .ok (.iconst 1, 1) := by decide +kernel
theorem dX7_isLane_9 : decode cX7_isLane 9 = .ok (.bipush 9, 2) := by decide +kernel
theorem dX7_isLane_11 : decode cX7_isLane 11 = .ok (.invokevirtual 137, 3) := by decide +kernel
theorem dX7_isLane_14 : decode cX7_isLane 14 = .ok (.ifCond .ne 5, 3) := by decide +kernel
theorem dX7_isLane_17 : decode cX7_isLane 17 = .ok (.iconst 0, 1) := by decide +kernel
theorem dX7_isLane_18 : decode cX7_isLane 18 = .ok (.ireturn, 1) := by decide +kernel
theorem dX7_isLane_19 : decode cX7_isLane 19 = .ok (.aload_n 0, 1) := by decide +kernel
theorem dX7_isLane_20 : decode cX7_isLane 20 = .ok (.aload_n 0, 1) := by decide +kernel
theorem dX7_isLane_21 : decode cX7_isLane 21 = .ok (.getfield 100, 3) := by decide +kernel
theorem dX7_isLane_24 : decode cX7_isLane 24 = .ok (.putfield 140, 3) := by decide +kernel
theorem dX7_isLane_27 : decode cX7_isLane 27 = .ok (.iconst 1, 1) := by decide +kernel
theorem dX7_isLane_28 : decode cX7_isLane 28 = .ok (.ireturn, 1) := by decide +kernel
theorem dX7_isItem_0 : decode cX7_isItem 0 = .ok (.aload_n 0, 1) := by decide +kernel
theorem dX7_isItem_1 : decode cX7_isItem 1 = .ok (.getfield 103, 3) := by decide +kernel
theorem dX7_isItem_4 : decode cX7_isItem 4 = .ok (.iconst 1, 1) := by decide +kernel
theorem dX7_isItem_5 : decode cX7_isItem 5 = .ok (.if_icmp .ne 16, 3) := by decide +kernel
theorem dX7_isItem_8 : decode cX7_isItem 8 = .ok (.aload_n 0, 1) := by decide +kernel
theorem dX7_isItem_9 : decode cX7_isItem 9 = .ok (.getfield 82, 3) := by decide +kernel
theorem dX7_isItem_12 : decode cX7_isItem 12 = .ok (.aload_n 0, 1) := by decide +kernel
theorem dX7_isItem_13 : decode cX7_isItem 13 = .ok (.getfield 97, 3) := by decide +kernel
theorem dX7_isItem_16 : decode cX7_isItem 16 = .ok (.isub, 1) := by decide +kernel
theorem dX7_isItem_17 : decode cX7_isItem 17 = .ok (.iconst 1, 1) := by decide +kernel
theorem dX7_isItem_18 : decode cX7_isItem 18 = .ok (.if_icmp .eq 5, 3) := by decide +kernel
theorem dX7_isItem_21 : decode cX7_isItem 21 = .ok (.iconst 0, 1) := by decide +kernel
theorem dX7_isItem_22 : decode cX7_isItem 22 = .ok (.ireturn, 1) := by decide +kernel
theorem dX7_isItem_23 : decode cX7_isItem 23 = .ok (.aload_n 0, 1) := by decide +kernel
theorem dX7_isItem_24 : decode cX7_isItem 24 = .ok (.getfield 45, 3) := by decide +kernel
theorem dX7_isItem_27 : decode cX7_isItem 27 = .ok (.aload_n 0, 1) := by decide +kernel
theorem dX7_isItem_28 : decode cX7_isItem 28 = .ok (.getfield 97, 3) := by decide +kernel
theorem dX7_isItem_31 : decode cX7_isItem 31 = .ok (.iaload, 1) := by decide +kernel
theorem dX7_isItem_32 : decode cX7_isItem 32 = .ok (.lookupswitch 77 #[(103, 57), (107, 67), (110, 72), (118, 52), (121, 62)], 52) := by decide +kernel
theorem dX7_isItem_84 : decode cX7_isItem 84 = .ok (.aload_n 0, 1) := by decide +kernel
theorem dX7_isItem_85 : decode cX7_isItem 85 = .ok (.invokevirtual 143, 3) := by decide +kernel
theorem dX7_isItem_88 : decode cX7_isItem 88 = .ok (.ireturn, 1) := by decide +kernel
theorem dX7_isItem_89 : decode cX7_isItem 89 = .ok (.aload_n 0, 1) := by decide +kernel
theorem dX7_isItem_90 : decode cX7_isItem 90 = .ok (.invokevirtual 146, 3) := by decide +kernel
theorem dX7_isItem_93 : decode cX7_isItem 93 = .ok (.ireturn, 1) := by decide +kernel
theorem dX7_isItem_94 : decode cX7_isItem 94 = .ok (.aload_n 0, 1) := by decide +kernel
theorem dX7_isItem_95 : decode cX7_isItem 95 = .ok (.invokevirtual 149, 3) := by decide +kernel
theorem dX7_isItem_98 : decode cX7_isItem 98 = .ok (.ireturn, 1) := by decide +kernel
theorem dX7_isItem_99 : decode cX7_isItem 99 = .ok (.aload_n 0, 1) := by decide +kernel
theorem dX7_isItem_100 : decode cX7_isItem 100 = .ok (.invokevirtual 152, 3) := by decide +kernel
theorem dX7_isItem_103 : decode cX7_isItem 103 = .ok (.ireturn, 1) := by decide +kernel
theorem dX7_isItem_104 : decode cX7_isItem 104 = .ok (.aload_n 0, 1) := by decide +kernel
theorem dX7_isItem_105 : decode cX7_isItem 105 = .ok (.invokevirtual 155, 3) := by decide +kernel
theorem dX7_isItem_108 : decode cX7_isItem 108 = .ok (.ireturn, 1) := by decide +kernel
theorem dX7_isItem_109 : decode cX7_isItem 109 = .ok (.iconst 0, 1) := by decide +kernel
theorem dX7_isItem_110 : decode cX7_isItem 110 = .ok (.ireturn, 1) := by decide +kernel
theorem dX7_reads_0 : decode cX7_reads 0 = .ok (.aload_n 0, 1) := by decide +kernel
theorem dX7_reads_1 : decode cX7_reads 1 = .ok (.iconst 0, 1) := by decide +kernel
theorem dX7_reads_2 : decode cX7_reads 2 = .ok (.putfield 121, 3) := by decide +kernel
theorem dX7_reads_5 : decode cX7_reads 5 = .ok (.aload_n 0, 1) := by decide +kernel
theorem dX7_reads_6 : decode cX7_reads 6 = .ok (.iconst 0, 1) := by decide +kernel
theorem dX7_reads_7 : decode cX7_reads 7 = .ok (.putfield 128, 3) := by decide +kernel
theorem dX7_reads_10 : decode cX7_reads 10 = .ok (.aload_n 0, 1) := by decide +kernel
theorem dX7_reads_11 : decode cX7_reads 11 = .ok (.iconst 0, 1) := by decide +kernel
theorem dX7_reads_12 : decode cX7_reads 12 = .ok (.putfield 131, 3) := by decide +kernel
theorem dX7_reads_15 : decode cX7_reads 15 = .ok (.aload_n 0, 1) := by decide +kernel
theorem dX7_reads_16 : decode cX7_reads 16 = .ok (.iconst 0, 1) := by decide +kernel
theorem dX7_reads_17 : decode cX7_reads 17 = .ok (.putfield 134, 3) := by decide +kernel
theorem dX7_reads_20 : decode cX7_reads 20 = .ok (.aload_n 0, 1) := by decide +kernel
theorem dX7_reads_21 : decode cX7_reads 21 = .ok (.iconst 0, 1) := by decide +kernel
theorem dX7_reads_22 : decode cX7_reads 22 = .ok (.putfield 140, 3) := by decide +kernel
theorem dX7_reads_25 : decode cX7_reads 25 = .ok (.aload_n 0, 1) := by decide +kernel
theorem dX7_reads_26 : decode cX7_reads 26 = .ok (.iconst 0, 1) := by decide +kernel
theorem dX7_reads_27 : decode cX7_reads 27 = .ok (.putfield 82, 3) := by decide +kernel
theorem dX7_reads_30 : decode cX7_reads 30 = .ok (.iconst 0, 1) := by decide +kernel
theorem dX7_reads_31 : decode cX7_reads 31 = .ok (.istore_n 1, 1) := by decide +kernel
theorem dX7_reads_32 : decode cX7_reads 32 = .ok (.aload_n 0, 1) := by decide +kernel
theorem dX7_reads_33 : decode cX7_reads 33 = .ok (.invokevirtual 116, 3) := by decide +kernel
theorem dX7_reads_36 : decode cX7_reads 36 = .ok (.aload_n 0, 1) := by decide +kernel
theorem dX7_reads_37 : decode cX7_reads 37 = .ok (.getfield 103, 3) := by decide +kernel
theorem dX7_reads_40 : decode cX7_reads 40 = .ok (.ifCond .eq 48, 3) := by decide +kernel
theorem dX7_reads_43 : decode cX7_reads 43 = .ok (.aload_n 0, 1) := by decide +kernel
theorem dX7_reads_44 : decode cX7_reads 44 = .ok (.invokevirtual 158, 3) := by decide +kernel
theorem dX7_reads_47 : decode cX7_reads 47 = .ok (.ifCond .ne 11, 3) := by decide +kernel
theorem dX7_reads_50 : decode cX7_reads 50 = .ok (.bipush (-10), 2) := by decide +kernel
theorem dX7_reads_52 : decode cX7_reads 52 = .ok (.aload_n 0, 1) := by decide +kernel
theorem dX7_reads_53 : decode cX7_reads 53 = .ok (.getfield 97, 3) := by decide +kernel
theorem dX7_reads_56 : decode cX7_reads 56 = .ok (.isub, 1) := by decide +kernel
theorem dX7_reads_57 : decode cX7_reads 57 = .ok (.ireturn, 1) := by decide +kernel
theorem dX7_reads_58 : decode cX7_reads 58 = .ok (.aload_n 0, 1) := by decide +kernel
theorem dX7_reads_59 : decode cX7_reads 59 = .ok (.invokevirtual 116, 3) := by decide +kernel
theorem dX7_reads_62 : decode cX7_reads 62 = .ok (.aload_n 0, 1) := by decide +kernel
theorem dX7_reads_63 : decode cX7_reads 63 = .ok (.getfield 103, 3) := by decide +kernel
theorem dX7_reads_66 : decode cX7_reads 66 = .ok (.iconst 3, 1) := by decide +kernel
theorem dX7_reads_67 : decode cX7_reads 67 = .ok (.if_icmp .eq 11, 3) := by decide +kernel
theorem dX7_reads_70 : decode cX7_reads 70 = .ok (.bipush (-10), 2) := by decide +kernel
theorem dX7_reads_72 : decode cX7_reads 72 = .ok (.aload_n 0, 1) := by decide +kernel
theorem dX7_reads_73 : decode cX7_reads 73 = .ok (.getfield 97, 3) := by decide +kernel
theorem dX7_reads_76 : decode cX7_reads 76 = .ok (.isub, 1) := by decide +kernel
theorem dX7_reads_77 : decode cX7_reads 77 = .ok (.ireturn, 1) := by decide +kernel
theorem dX7_reads_78 : decode cX7_reads 78 = .ok (.iinc 1 1, 3) := by decide +kernel
theorem dX7_reads_81 : decode cX7_reads 81 = .ok (.aload_n 0, 1) := by decide +kernel
theorem dX7_reads_82 : decode cX7_reads 82 = .ok (.invokevirtual 116, 3) := by decide +kernel
theorem dX7_reads_85 : decode cX7_reads 85 = .ok (.goto (-49), 3) := by decide +kernel
theorem dX7_reads_88 : decode cX7_reads 88 = .ok (.iload_n 1, 1) := by decide +kernel
theorem dX7_reads_89 : decode cX7_reads 89 = .ok (.ireturn, 1) := by decide +kernel
theorem dX7_court_0 : decode cX7_court 0 = .ok (.aload_n 0, 1) := by decide +kernel
theorem dX7_court_1 : decode cX7_court 1 = .ok (.invokevirtual 161, 3) := by decide +kernel
theorem dX7_court_4 : decode cX7_court 4 = .ok (.istore_n 1, 1) := by decide +kernel
theorem dX7_court_5 : decode cX7_court 5 = .ok (.iload_n 1, 1) := by decide +kernel
theorem dX7_court_6 : decode cX7_court 6 = .ok (.ifCond .ge 5, 3) := by decide +kernel
theorem dX7_court_9 : decode cX7_court 9 = .ok (.iload_n 1, 1) := by decide +kernel
theorem dX7_court_10 : decode cX7_court 10 = .ok (.ireturn, 1) := by decide +kernel
theorem dX7_court_11 : decode cX7_court 11 = .ok (.aload_n 0, 1) := by decide +kernel
theorem dX7_court_12 : decode cX7_court 12 = .ok (.aload_n 0, 1) := by decide +kernel
theorem dX7_court_13 : decode cX7_court 13 = .ok (.getfield 121, 3) := by decide +kernel
theorem dX7_court_16 : decode cX7_court 16 = .ok (.putfield 164, 3) := by decide +kernel
theorem dX7_court_19 : decode cX7_court 19 = .ok (.aload_n 0, 1) := by decide +kernel
theorem dX7_court_20 : decode cX7_court 20 = .ok (.aload_n 0, 1) := by decide +kernel
theorem dX7_court_21 : decode cX7_court 21 = .ok (.getfield 128, 3) := by decide +kernel
theorem dX7_court_24 : decode cX7_court 24 = .ok (.putfield 167, 3) := by decide +kernel
theorem dX7_court_27 : decode cX7_court 27 = .ok (.aload_n 0, 1) := by decide +kernel
theorem dX7_court_28 : decode cX7_court 28 = .ok (.aload_n 0, 1) := by decide +kernel
theorem dX7_court_29 : decode cX7_court 29 = .ok (.getfield 131, 3) := by decide +kernel
theorem dX7_court_32 : decode cX7_court 32 = .ok (.putfield 170, 3) := by decide +kernel
theorem dX7_court_35 : decode cX7_court 35 = .ok (.aload_n 0, 1) := by decide +kernel
theorem dX7_court_36 : decode cX7_court 36 = .ok (.aload_n 0, 1) := by decide +kernel
theorem dX7_court_37 : decode cX7_court 37 = .ok (.getfield 134, 3) := by decide +kernel
theorem dX7_court_40 : decode cX7_court 40 = .ok (.putfield 173, 3) := by decide +kernel
theorem dX7_court_43 : decode cX7_court 43 = .ok (.aload_n 0, 1) := by decide +kernel
theorem dX7_court_44 : decode cX7_court 44 = .ok (.aload_n 0, 1) := by decide +kernel
theorem dX7_court_45 : decode cX7_court 45 = .ok (.getfield 140, 3) := by decide +kernel
theorem dX7_court_48 : decode cX7_court 48 = .ok (.ifCond .ne 7, 3) := by decide +kernel
theorem dX7_court_51 : decode cX7_court 51 = .ok (.iconst 3, 1) := by decide +kernel
theorem dX7_court_52 : decode cX7_court 52 = .ok (.goto 7, 3) := by decide +kernel
theorem dX7_court_55 : decode cX7_court 55 = .ok (.aload_n 0, 1) := by decide +kernel
theorem dX7_court_56 : decode cX7_court 56 = .ok (.getfield 140, 3) := by decide +kernel
theorem dX7_court_59 : decode cX7_court 59 = .ok (.putfield 25, 3) := by decide +kernel
theorem dX7_court_62 : decode cX7_court 62 = .ok (.aload_n 0, 1) := by decide +kernel
theorem dX7_court_63 : decode cX7_court 63 = .ok (.getfield 48, 3) := by decide +kernel
theorem dX7_court_66 : decode cX7_court 66 = .ok (.iconst 0, 1) := by decide +kernel
theorem dX7_court_67 : decode cX7_court 67 = .ok (.aload_n 0, 1) := by decide +kernel
theorem dX7_court_68 : decode cX7_court 68 = .ok (.getfield 7, 3) := by decide +kernel
theorem dX7_court_71 : decode cX7_court 71 = .ok (.iconst 0, 1) := by decide +kernel
theorem dX7_court_72 : decode cX7_court 72 = .ok (.iconst 5, 1) := by decide +kernel
theorem dX7_court_73 : decode cX7_court 73 = .ok (.invokestatic 176, 3) := by decide +kernel
theorem dX7_court_76 : decode cX7_court 76 = .ok (.aload_n 0, 1) := by decide +kernel
theorem dX7_court_77 : decode cX7_court 77 = .ok (.getfield 51, 3) := by decide +kernel
theorem dX7_court_80 : decode cX7_court 80 = .ok (.iconst 0, 1) := by decide +kernel
theorem dX7_court_81 : decode cX7_court 81 = .ok (.aload_n 0, 1) := by decide +kernel
theorem dX7_court_82 : decode cX7_court 82 = .ok (.getfield 13, 3) := by decide +kernel
theorem dX7_court_85 : decode cX7_court 85 = .ok (.iconst 0, 1) := by decide +kernel
theorem dX7_court_86 : decode cX7_court 86 = .ok (.bipush 6, 2) := by decide +kernel
theorem dX7_court_88 : decode cX7_court 88 = .ok (.invokestatic 176, 3) := by decide +kernel
theorem dX7_court_91 : decode cX7_court 91 = .ok (.aload_n 0, 1) := by decide +kernel
theorem dX7_court_92 : decode cX7_court 92 = .ok (.getfield 54, 3) := by decide +kernel
theorem dX7_court_95 : decode cX7_court 95 = .ok (.iconst 0, 1) := by decide +kernel
theorem dX7_court_96 : decode cX7_court 96 = .ok (.aload_n 0, 1) := by decide +kernel
theorem dX7_court_97 : decode cX7_court 97 = .ok (.getfield 16, 3) := by decide +kernel
theorem dX7_court_100 : decode cX7_court 100 = .ok (.iconst 0, 1) := by decide +kernel
theorem dX7_court_101 : decode cX7_court 101 = .ok (.bipush 24, 2) := by decide +kernel
theorem dX7_court_103 : decode cX7_court 103 = .ok (.invokestatic 176, 3) := by decide +kernel
theorem dX7_court_106 : decode cX7_court 106 = .ok (.aload_n 0, 1) := by decide +kernel
theorem dX7_court_107 : decode cX7_court 107 = .ok (.getfield 57, 3) := by decide +kernel
theorem dX7_court_110 : decode cX7_court 110 = .ok (.iconst 0, 1) := by decide +kernel
theorem dX7_court_111 : decode cX7_court 111 = .ok (.aload_n 0, 1) := by decide +kernel
theorem dX7_court_112 : decode cX7_court 112 = .ok (.getfield 19, 3) := by decide +kernel
theorem dX7_court_115 : decode cX7_court 115 = .ok (.iconst 0, 1) := by decide +kernel
theorem dX7_court_116 : decode cX7_court 116 = .ok (.iconst 3, 1) := by decide +kernel
theorem dX7_court_117 : decode cX7_court 117 = .ok (.invokestatic 176, 3) := by decide +kernel
theorem dX7_court_120 : decode cX7_court 120 = .ok (.aload_n 0, 1) := by decide +kernel
theorem dX7_court_121 : decode cX7_court 121 = .ok (.getfield 60, 3) := by decide +kernel
theorem dX7_court_124 : decode cX7_court 124 = .ok (.iconst 0, 1) := by decide +kernel
theorem dX7_court_125 : decode cX7_court 125 = .ok (.aload_n 0, 1) := by decide +kernel
theorem dX7_court_126 : decode cX7_court 126 = .ok (.getfield 22, 3) := by decide +kernel
theorem dX7_court_129 : decode cX7_court 129 = .ok (.iconst 0, 1) := by decide +kernel
theorem dX7_court_130 : decode cX7_court 130 = .ok (.iconst 3, 1) := by decide +kernel
theorem dX7_court_131 : decode cX7_court 131 = .ok (.invokestatic 176, 3) := by decide +kernel
theorem dX7_court_134 : decode cX7_court 134 = .ok (.iconst 0, 1) := by decide +kernel
theorem dX7_court_135 : decode cX7_court 135 = .ok (.istore_n 2, 1) := by decide +kernel
theorem dX7_court_136 : decode cX7_court 136 = .ok (.iload_n 2, 1) := by decide +kernel
theorem dX7_court_137 : decode cX7_court 137 = .ok (.bipush 21, 2) := by decide +kernel
theorem dX7_court_139 : decode cX7_court 139 = .ok (.if_icmp .ge 16, 3) := by decide +kernel
theorem dX7_court_142 : decode cX7_court 142 = .ok (.aload_n 0, 1) := by decide +kernel
theorem dX7_court_143 : decode cX7_court 143 = .ok (.getfield 29, 3) := by decide +kernel
theorem dX7_court_146 : decode cX7_court 146 = .ok (.iload_n 2, 1) := by decide +kernel
theorem dX7_court_147 : decode cX7_court 147 = .ok (.iconst 0, 1) := by decide +kernel
theorem dX7_court_148 : decode cX7_court 148 = .ok (.iastore, 1) := by decide +kernel
theorem dX7_court_149 : decode cX7_court 149 = .ok (.iinc 2 1, 3) := by decide +kernel
theorem dX7_court_152 : decode cX7_court 152 = .ok (.goto (-16), 3) := by decide +kernel
theorem dX7_court_155 : decode cX7_court 155 = .ok (.aload_n 0, 1) := by decide +kernel
theorem dX7_court_156 : decode cX7_court 156 = .ok (.iconst 0, 1) := by decide +kernel
theorem dX7_court_157 : decode cX7_court 157 = .ok (.putfield 180, 3) := by decide +kernel
theorem dX7_court_160 : decode cX7_court 160 = .ok (.aload_n 0, 1) := by decide +kernel
theorem dX7_court_161 : decode cX7_court 161 = .ok (.iconst 0, 1) := by decide +kernel
theorem dX7_court_162 : decode cX7_court 162 = .ok (.putfield 183, 3) := by decide +kernel
theorem dX7_court_165 : decode cX7_court 165 = .ok (.aload_n 0, 1) := by decide +kernel
theorem dX7_court_166 : decode cX7_court 166 = .ok (.getfield 38, 3) := by decide +kernel
theorem dX7_court_169 : decode cX7_court 169 = .ok (.iconst 0, 1) := by decide +kernel
theorem dX7_court_170 : decode cX7_court 170 = .ok (.iconst 0, 1) := by decide +kernel
theorem dX7_court_171 : decode cX7_court 171 = .ok (.bastore, 1) := by decide +kernel
theorem dX7_court_172 : decode cX7_court 172 = .ok (.aload_n 0, 1) := by decide +kernel
theorem dX7_court_173 : decode cX7_court 173 = .ok (.getfield 38, 3) := by decide +kernel
theorem dX7_court_176 : decode cX7_court 176 = .ok (.iconst 1, 1) := by decide +kernel
theorem dX7_court_177 : decode cX7_court 177 = .ok (.iconst 0, 1) := by decide +kernel
theorem dX7_court_178 : decode cX7_court 178 = .ok (.bastore, 1) := by decide +kernel
theorem dX7_court_179 : decode cX7_court 179 = .ok (.aload_n 0, 1) := by decide +kernel
theorem dX7_court_180 : decode cX7_court 180 = .ok (.iconst 0, 1) := by decide +kernel
theorem dX7_court_181 : decode cX7_court 181 = .ok (.putfield 79, 3) := by decide +kernel
theorem dX7_court_184 : decode cX7_court 184 = .ok (.iload_n 1, 1) := by decide +kernel
theorem dX7_court_185 : decode cX7_court 185 = .ok (.ireturn, 1) := by decide +kernel
theorem dX7_isTheLeaf_0 : decode cX7_isTheLeaf 0 = .ok (.iload_n 1, 1) := by decide +kernel
theorem dX7_isTheLeaf_1 : decode cX7_isTheLeaf 1 = .ok (.i2l, 1) := by decide +kernel
theorem dX7_isTheLeaf_2 : decode cX7_isTheLeaf 2 = .ok (.lconst 0, 1) := by decide +kernel
theorem dX7_isTheLeaf_3 : decode cX7_isTheLeaf 3 = .ok (.aload_n 0, 1) := by decide +kernel
theorem dX7_isTheLeaf_4 : decode cX7_isTheLeaf 4 = .ok (.getfield 164, 3) := by decide +kernel
theorem dX7_isTheLeaf_7 : decode cX7_isTheLeaf 7 = .ok (.iconst 1, 1) := by decide +kernel
theorem dX7_isTheLeaf_8 : decode cX7_isTheLeaf 8 = .ok (.isub, 1) := by decide +kernel
theorem dX7_isTheLeaf_9 : decode cX7_isTheLeaf 9 = .ok (.i2l, 1) := by decide +kernel
theorem dX7_isTheLeaf_10 : decode cX7_isTheLeaf 10 = .ok (.invokestatic 75, 3) := by decide +kernel
theorem dX7_isTheLeaf_13 : decode cX7_isTheLeaf 13 = .ok (.ireturn, 1) := by decide +kernel
theorem dX7_isOne_0 : decode cX7_isOne 0 = .ok (.iload_n 1, 1) := by decide +kernel
theorem dX7_isOne_1 : decode cX7_isOne 1 = .ok (.i2l, 1) := by decide +kernel
theorem dX7_isOne_2 : decode cX7_isOne 2 = .ok (.lconst 0, 1) := by decide +kernel
theorem dX7_isOne_3 : decode cX7_isOne 3 = .ok (.aload_n 0, 1) := by decide +kernel
theorem dX7_isOne_4 : decode cX7_isOne 4 = .ok (.getfield 167, 3) := by decide +kernel
theorem dX7_isOne_7 : decode cX7_isOne 7 = .ok (.iconst 1, 1) := by decide +kernel
theorem dX7_isOne_8 : decode cX7_isOne 8 = .ok (.isub, 1) := by decide +kernel
theorem dX7_isOne_9 : decode cX7_isOne 9 = .ok (.i2l, 1) := by decide +kernel
theorem dX7_isOne_10 : decode cX7_isOne 10 = .ok (.invokestatic 75, 3) := by decide +kernel
theorem dX7_isOne_13 : decode cX7_isOne 13 = .ok (.ireturn, 1) := by decide +kernel
theorem dX7_isTaste_0 : decode cX7_isTaste 0 = .ok (.iload_n 0, 1) := by decide +kernel
theorem dX7_isTaste_1 : decode cX7_isTaste 1 = .ok (.i2l, 1) := by decide +kernel
theorem dX7_isTaste_2 : decode cX7_isTaste 2 = .ok (.lconst 0, 1) := by decide +kernel
theorem dX7_isTaste_3 : decode cX7_isTaste 3 = .ok (.ldc2_w 186, 3) := by decide +kernel
theorem dX7_isTaste_6 : decode cX7_isTaste 6 = .ok (.invokestatic 75, 3) := by decide +kernel
theorem dX7_isTaste_9 : decode cX7_isTaste 9 = .ok (.ireturn, 1) := by decide +kernel
theorem dX7_isBit_0 : decode cX7_isBit 0 = .ok (.iload_n 0, 1) := by decide +kernel
theorem dX7_isBit_1 : decode cX7_isBit 1 = .ok (.i2l, 1) := by decide +kernel
theorem dX7_isBit_2 : decode cX7_isBit 2 = .ok (.lconst 0, 1) := by decide +kernel
theorem dX7_isBit_3 : decode cX7_isBit 3 = .ok (.lconst 1, 1) := by decide +kernel
theorem dX7_isBit_4 : decode cX7_isBit 4 = .ok (.invokestatic 75, 3) := by decide +kernel
theorem dX7_isBit_7 : decode cX7_isBit 7 = .ok (.ireturn, 1) := by decide +kernel
theorem dX7_lets_0 : decode cX7_lets 0 = .ok (.aload_n 0, 1) := by decide +kernel
theorem dX7_lets_1 : decode cX7_lets 1 = .ok (.getfield 7, 3) := by decide +kernel
theorem dX7_lets_4 : decode cX7_lets 4 = .ok (.iload_n 1, 1) := by decide +kernel
theorem dX7_lets_5 : decode cX7_lets 5 = .ok (.iaload, 1) := by decide +kernel
theorem dX7_lets_6 : decode cX7_lets 6 = .ok (.aload_n 0, 1) := by decide +kernel
theorem dX7_lets_7 : decode cX7_lets 7 = .ok (.getfield 13, 3) := by decide +kernel
theorem dX7_lets_10 : decode cX7_lets 10 = .ok (.iload_n 2, 1) := by decide +kernel
theorem dX7_lets_11 : decode cX7_lets 11 = .ok (.iaload, 1) := by decide +kernel
theorem dX7_lets_12 : decode cX7_lets 12 = .ok (.iand, 1) := by decide +kernel
theorem dX7_lets_13 : decode cX7_lets 13 = .ok (.ifCond .eq 7, 3) := by decide +kernel
theorem dX7_lets_16 : decode cX7_lets 16 = .ok (.iconst 1, 1) := by decide +kernel
theorem dX7_lets_17 : decode cX7_lets 17 = .ok (.goto 4, 3) := by decide +kernel
theorem dX7_lets_20 : decode cX7_lets 20 = .ok (.iconst 0, 1) := by decide +kernel
theorem dX7_lets_21 : decode cX7_lets 21 = .ok (.ireturn, 1) := by decide +kernel
theorem dX7_letsBy_0 : decode cX7_letsBy 0 = .ok (.iconst 0, 1) := by decide +kernel
theorem dX7_letsBy_1 : decode cX7_letsBy 1 = .ok (.istore_n 2, 1) := by decide +kernel
theorem dX7_letsBy_2 : decode cX7_letsBy 2 = .ok (.iconst 0, 1) := by decide +kernel
theorem dX7_letsBy_3 : decode cX7_letsBy 3 = .ok (.istore_n 3, 1) := by decide +kernel
theorem dX7_letsBy_4 : decode cX7_letsBy 4 = .ok (.iload_n 3, 1) := by decide +kernel
theorem dX7_letsBy_5 : decode cX7_letsBy 5 = .ok (.aload_n 0, 1) := by decide +kernel
theorem dX7_letsBy_6 : decode cX7_letsBy 6 = .ok (.getfield 167, 3) := by decide +kernel
theorem dX7_letsBy_9 : decode cX7_letsBy 9 = .ok (.if_icmp .ge 28, 3) := by decide +kernel
theorem dX7_letsBy_12 : decode cX7_letsBy 12 = .ok (.iload_n 2, 1) := by decide +kernel
theorem dX7_letsBy_13 : decode cX7_letsBy 13 = .ok (.aload_n 0, 1) := by decide +kernel
theorem dX7_letsBy_14 : decode cX7_letsBy 14 = .ok (.iload_n 1, 1) := by decide +kernel
theorem dX7_letsBy_15 : decode cX7_letsBy 15 = .ok (.iload_n 3, 1) := by decide +kernel
theorem dX7_letsBy_16 : decode cX7_letsBy 16 = .ok (.invokevirtual 188, 3) := by decide +kernel
theorem dX7_letsBy_19 : decode cX7_letsBy 19 = .ok (.ifCond .eq 9, 3) := by decide +kernel
theorem dX7_letsBy_22 : decode cX7_letsBy 22 = .ok (.iconst 1, 1) := by decide +kernel
theorem dX7_letsBy_23 : decode cX7_letsBy 23 = .ok (.iload_n 3, 1) := by decide +kernel
theorem dX7_letsBy_24 : decode cX7_letsBy 24 = .ok (.ishl, 1) := by decide +kernel
theorem dX7_letsBy_25 : decode cX7_letsBy 25 = .ok (.goto 4, 3) := by decide +kernel
theorem dX7_letsBy_28 : decode cX7_letsBy 28 = .ok (.iconst 0, 1) := by decide +kernel
theorem dX7_letsBy_29 : decode cX7_letsBy 29 = .ok (.ior, 1) := by decide +kernel
theorem dX7_letsBy_30 : decode cX7_letsBy 30 = .ok (.istore_n 2, 1) := by decide +kernel
theorem dX7_letsBy_31 : decode cX7_letsBy 31 = .ok (.iinc 3 1, 3) := by decide +kernel
theorem dX7_letsBy_34 : decode cX7_letsBy 34 = .ok (.goto (-30), 3) := by decide +kernel
theorem dX7_letsBy_37 : decode cX7_letsBy 37 = .ok (.iload_n 2, 1) := by decide +kernel
theorem dX7_letsBy_38 : decode cX7_letsBy 38 = .ok (.ireturn, 1) := by decide +kernel
theorem dX7_leavesOf_0 : decode cX7_leavesOf 0 = .ok (.iconst 0, 1) := by decide +kernel
theorem dX7_leavesOf_1 : decode cX7_leavesOf 1 = .ok (.istore_n 2, 1) := by decide +kernel
theorem dX7_leavesOf_2 : decode cX7_leavesOf 2 = .ok (.iconst 0, 1) := by decide +kernel
theorem dX7_leavesOf_3 : decode cX7_leavesOf 3 = .ok (.istore_n 3, 1) := by decide +kernel
theorem dX7_leavesOf_4 : decode cX7_leavesOf 4 = .ok (.iload_n 3, 1) := by decide +kernel
theorem dX7_leavesOf_5 : decode cX7_leavesOf 5 = .ok (.aload_n 0, 1) := by decide +kernel
theorem dX7_leavesOf_6 : decode cX7_leavesOf 6 = .ok (.getfield 164, 3) := by decide +kernel
theorem dX7_leavesOf_9 : decode cX7_leavesOf 9 = .ok (.if_icmp .ge 28, 3) := by decide +kernel
theorem dX7_leavesOf_12 : decode cX7_leavesOf 12 = .ok (.iload_n 2, 1) := by decide +kernel
theorem dX7_leavesOf_13 : decode cX7_leavesOf 13 = .ok (.aload_n 0, 1) := by decide +kernel
theorem dX7_leavesOf_14 : decode cX7_leavesOf 14 = .ok (.iload_n 3, 1) := by decide +kernel
theorem dX7_leavesOf_15 : decode cX7_leavesOf 15 = .ok (.iload_n 1, 1) := by decide +kernel
theorem dX7_leavesOf_16 : decode cX7_leavesOf 16 = .ok (.invokevirtual 188, 3) := by decide +kernel
theorem dX7_leavesOf_19 : decode cX7_leavesOf 19 = .ok (.ifCond .eq 9, 3) := by decide +kernel
theorem dX7_leavesOf_22 : decode cX7_leavesOf 22 = .ok (.iconst 1, 1) := by decide +kernel
theorem dX7_leavesOf_23 : decode cX7_leavesOf 23 = .ok (.iload_n 3, 1) := by decide +kernel
theorem dX7_leavesOf_24 : decode cX7_leavesOf 24 = .ok (.ishl, 1) := by decide +kernel
theorem dX7_leavesOf_25 : decode cX7_leavesOf 25 = .ok (.goto 4, 3) := by decide +kernel
theorem dX7_leavesOf_28 : decode cX7_leavesOf 28 = .ok (.iconst 0, 1) := by decide +kernel
theorem dX7_leavesOf_29 : decode cX7_leavesOf 29 = .ok (.ior, 1) := by decide +kernel
theorem dX7_leavesOf_30 : decode cX7_leavesOf 30 = .ok (.istore_n 2, 1) := by decide +kernel
theorem dX7_leavesOf_31 : decode cX7_leavesOf 31 = .ok (.iinc 3 1, 3) := by decide +kernel
theorem dX7_leavesOf_34 : decode cX7_leavesOf 34 = .ok (.goto (-30), 3) := by decide +kernel
theorem dX7_leavesOf_37 : decode cX7_leavesOf 37 = .ok (.iload_n 2, 1) := by decide +kernel
theorem dX7_leavesOf_38 : decode cX7_leavesOf 38 = .ok (.ireturn, 1) := by decide +kernel
theorem dX7_those_0 : decode cX7_those 0 = .ok (.iconst 0, 1) := by decide +kernel
theorem dX7_those_1 : decode cX7_those 1 = .ok (.istore_n 2, 1) := by decide +kernel
theorem dX7_those_2 : decode cX7_those 2 = .ok (.iconst 0, 1) := by decide +kernel
theorem dX7_those_3 : decode cX7_those 3 = .ok (.istore_n 3, 1) := by decide +kernel
theorem dX7_those_4 : decode cX7_those 4 = .ok (.iload_n 3, 1) := by decide +kernel
theorem dX7_those_5 : decode cX7_those 5 = .ok (.aload_n 0, 1) := by decide +kernel
theorem dX7_those_6 : decode cX7_those 6 = .ok (.getfield 167, 3) := by decide +kernel
theorem dX7_those_9 : decode cX7_those 9 = .ok (.if_icmp .ge 31, 3) := by decide +kernel
theorem dX7_those_12 : decode cX7_those 12 = .ok (.iload_n 2, 1) := by decide +kernel
theorem dX7_those_13 : decode cX7_those 13 = .ok (.aload_n 0, 1) := by decide +kernel
theorem dX7_those_14 : decode cX7_those 14 = .ok (.getfield 29, 3) := by decide +kernel
theorem dX7_those_17 : decode cX7_those 17 = .ok (.iconst 3, 1) := by decide +kernel
theorem dX7_those_18 : decode cX7_those 18 = .ok (.iload_n 3, 1) := by decide +kernel
theorem dX7_those_19 : decode cX7_those 19 = .ok (.iadd, 1) := by decide +kernel
theorem dX7_those_20 : decode cX7_those 20 = .ok (.iaload, 1) := by decide +kernel
theorem dX7_those_21 : decode cX7_those 21 = .ok (.iload_n 1, 1) := by decide +kernel
theorem dX7_those_22 : decode cX7_those 22 = .ok (.if_icmp .ne 9, 3) := by decide +kernel
theorem dX7_those_25 : decode cX7_those 25 = .ok (.iconst 1, 1) := by decide +kernel
theorem dX7_those_26 : decode cX7_those 26 = .ok (.iload_n 3, 1) := by decide +kernel
theorem dX7_those_27 : decode cX7_those 27 = .ok (.ishl, 1) := by decide +kernel
theorem dX7_those_28 : decode cX7_those 28 = .ok (.goto 4, 3) := by decide +kernel
theorem dX7_those_31 : decode cX7_those 31 = .ok (.iconst 0, 1) := by decide +kernel
theorem dX7_those_32 : decode cX7_those 32 = .ok (.ior, 1) := by decide +kernel
theorem dX7_those_33 : decode cX7_those 33 = .ok (.istore_n 2, 1) := by decide +kernel
theorem dX7_those_34 : decode cX7_those 34 = .ok (.iinc 3 1, 3) := by decide +kernel
theorem dX7_those_37 : decode cX7_those 37 = .ok (.goto (-33), 3) := by decide +kernel
theorem dX7_those_40 : decode cX7_those 40 = .ok (.iload_n 2, 1) := by decide +kernel
theorem dX7_those_41 : decode cX7_those 41 = .ok (.ireturn, 1) := by decide +kernel
theorem dX7_cover_0 : decode cX7_cover 0 = .ok (.bipush (-9), 2) := by decide +kernel
theorem dX7_cover_2 : decode cX7_cover 2 = .ok (.istore_n 1, 1) := by decide +kernel
theorem dX7_cover_3 : decode cX7_cover 3 = .ok (.iconst 0, 1) := by decide +kernel
theorem dX7_cover_4 : decode cX7_cover 4 = .ok (.istore_n 2, 1) := by decide +kernel
theorem dX7_cover_5 : decode cX7_cover 5 = .ok (.iload_n 2, 1) := by decide +kernel
theorem dX7_cover_6 : decode cX7_cover 6 = .ok (.iconst 1, 1) := by decide +kernel
theorem dX7_cover_7 : decode cX7_cover 7 = .ok (.aload_n 0, 1) := by decide +kernel
theorem dX7_cover_8 : decode cX7_cover 8 = .ok (.getfield 164, 3) := by decide +kernel
theorem dX7_cover_11 : decode cX7_cover 11 = .ok (.ishl, 1) := by decide +kernel
theorem dX7_cover_12 : decode cX7_cover 12 = .ok (.if_icmp .ge 86, 3) := by decide +kernel
theorem dX7_cover_15 : decode cX7_cover 15 = .ok (.iconst 0, 1) := by decide +kernel
theorem dX7_cover_16 : decode cX7_cover 16 = .ok (.istore_n 3, 1) := by decide +kernel
theorem dX7_cover_17 : decode cX7_cover 17 = .ok (.iconst 0, 1) := by decide +kernel
theorem dX7_cover_18 : decode cX7_cover 18 = .ok (.istore 4, 2) := by decide +kernel
theorem dX7_cover_20 : decode cX7_cover 20 = .ok (.iload 4, 2) := by decide +kernel
theorem dX7_cover_22 : decode cX7_cover 22 = .ok (.aload_n 0, 1) := by decide +kernel
theorem dX7_cover_23 : decode cX7_cover 23 = .ok (.getfield 164, 3) := by decide +kernel
theorem dX7_cover_26 : decode cX7_cover 26 = .ok (.if_icmp .ge 31, 3) := by decide +kernel
theorem dX7_cover_29 : decode cX7_cover 29 = .ok (.iload_n 3, 1) := by decide +kernel
theorem dX7_cover_30 : decode cX7_cover 30 = .ok (.iload_n 2, 1) := by decide +kernel
theorem dX7_cover_31 : decode cX7_cover 31 = .ok (.iload 4, 2) := by decide +kernel
theorem dX7_cover_33 : decode cX7_cover 33 = .ok (.invokestatic 69, 3) := by decide +kernel
theorem dX7_cover_36 : decode cX7_cover 36 = .ok (.ifCond .eq 12, 3) := by decide +kernel
theorem dX7_cover_39 : decode cX7_cover 39 = .ok (.aload_n 0, 1) := by decide +kernel
theorem dX7_cover_40 : decode cX7_cover 40 = .ok (.iload 4, 2) := by decide +kernel
theorem dX7_cover_42 : decode cX7_cover 42 = .ok (.invokevirtual 191, 3) := by decide +kernel
theorem dX7_cover_45 : decode cX7_cover 45 = .ok (.goto 4, 3) := by decide +kernel
theorem dX7_cover_48 : decode cX7_cover 48 = .ok (.iconst 0, 1) := by decide +kernel
theorem dX7_cover_49 : decode cX7_cover 49 = .ok (.ior, 1) := by decide +kernel
theorem dX7_cover_50 : decode cX7_cover 50 = .ok (.istore_n 3, 1) := by decide +kernel
theorem dX7_cover_51 : decode cX7_cover 51 = .ok (.iinc 4 1, 3) := by decide +kernel
theorem dX7_cover_54 : decode cX7_cover 54 = .ok (.goto (-34), 3) := by decide +kernel
theorem dX7_cover_57 : decode cX7_cover 57 = .ok (.iload_n 3, 1) := by decide +kernel
theorem dX7_cover_58 : decode cX7_cover 58 = .ok (.iconst 1, 1) := by decide +kernel
theorem dX7_cover_59 : decode cX7_cover 59 = .ok (.aload_n 0, 1) := by decide +kernel
theorem dX7_cover_60 : decode cX7_cover 60 = .ok (.getfield 167, 3) := by decide +kernel
theorem dX7_cover_63 : decode cX7_cover 63 = .ok (.ishl, 1) := by decide +kernel
theorem dX7_cover_64 : decode cX7_cover 64 = .ok (.iconst 1, 1) := by decide +kernel
theorem dX7_cover_65 : decode cX7_cover 65 = .ok (.isub, 1) := by decide +kernel
theorem dX7_cover_66 : decode cX7_cover 66 = .ok (.if_icmp .ne 24, 3) := by decide +kernel
theorem dX7_cover_69 : decode cX7_cover 69 = .ok (.iload_n 1, 1) := by decide +kernel
theorem dX7_cover_70 : decode cX7_cover 70 = .ok (.bipush (-9), 2) := by decide +kernel
theorem dX7_cover_72 : decode cX7_cover 72 = .ok (.if_icmp .eq 14, 3) := by decide +kernel
theorem dX7_cover_75 : decode cX7_cover 75 = .ok (.iload_n 2, 1) := by decide +kernel
theorem dX7_cover_76 : decode cX7_cover 76 = .ok (.invokestatic 195, 3) := by decide +kernel
theorem dX7_cover_79 : decode cX7_cover 79 = .ok (.iload_n 1, 1) := by decide +kernel
theorem dX7_cover_80 : decode cX7_cover 80 = .ok (.invokestatic 195, 3) := by decide +kernel
theorem dX7_cover_83 : decode cX7_cover 83 = .ok (.if_icmp .ge 7, 3) := by decide +kernel
theorem dX7_cover_86 : decode cX7_cover 86 = .ok (.iload_n 2, 1) := by decide +kernel
theorem dX7_cover_87 : decode cX7_cover 87 = .ok (.goto 4, 3) := by decide +kernel
theorem dX7_cover_90 : decode cX7_cover 90 = .ok (.iload_n 1, 1) := by decide +kernel
theorem dX7_cover_91 : decode cX7_cover 91 = .ok (.istore_n 1, 1) := by decide +kernel
theorem dX7_cover_92 : decode cX7_cover 92 = .ok (.iinc 2 1, 3) := by decide +kernel
theorem dX7_cover_95 : decode cX7_cover 95 = .ok (.goto (-90), 3) := by decide +kernel
theorem dX7_cover_98 : decode cX7_cover 98 = .ok (.iload_n 1, 1) := by decide +kernel
theorem dX7_cover_99 : decode cX7_cover 99 = .ok (.ireturn, 1) := by decide +kernel
theorem dX7_leaf_0 : decode cX7_leaf 0 = .ok (.aload_n 0, 1) := by decide +kernel
theorem dX7_leaf_1 : decode cX7_leaf 1 = .ok (.iload_n 1, 1) := by decide +kernel
theorem dX7_leaf_2 : decode cX7_leaf 2 = .ok (.invokevirtual 198, 3) := by decide +kernel
theorem dX7_leaf_5 : decode cX7_leaf 5 = .ok (.ifCond .eq 10, 3) := by decide +kernel
theorem dX7_leaf_8 : decode cX7_leaf 8 = .ok (.iload_n 2, 1) := by decide +kernel
theorem dX7_leaf_9 : decode cX7_leaf 9 = .ok (.invokestatic 202, 3) := by decide +kernel
theorem dX7_leaf_12 : decode cX7_leaf 12 = .ok (.ifCond .ne 5, 3) := by decide +kernel
theorem dX7_leaf_15 : decode cX7_leaf 15 = .ok (.iconst (-1), 1) := by decide +kernel
theorem dX7_leaf_16 : decode cX7_leaf 16 = .ok (.ireturn, 1) := by decide +kernel
theorem dX7_leaf_17 : decode cX7_leaf 17 = .ok (.iload_n 2, 1) := by decide +kernel
theorem dX7_leaf_18 : decode cX7_leaf 18 = .ok (.ifCond .ne 12, 3) := by decide +kernel
theorem dX7_leaf_21 : decode cX7_leaf 21 = .ok (.aload_n 0, 1) := by decide +kernel
theorem dX7_leaf_22 : decode cX7_leaf 22 = .ok (.getfield 7, 3) := by decide +kernel
theorem dX7_leaf_25 : decode cX7_leaf 25 = .ok (.iload_n 1, 1) := by decide +kernel
theorem dX7_leaf_26 : decode cX7_leaf 26 = .ok (.iaload, 1) := by decide +kernel
theorem dX7_leaf_27 : decode cX7_leaf 27 = .ok (.goto 8, 3) := by decide +kernel
theorem dX7_leaf_30 : decode cX7_leaf 30 = .ok (.aload_n 0, 1) := by decide +kernel
theorem dX7_leaf_31 : decode cX7_leaf 31 = .ok (.iload_n 1, 1) := by decide +kernel
theorem dX7_leaf_32 : decode cX7_leaf 32 = .ok (.invokevirtual 191, 3) := by decide +kernel
theorem dX7_leaf_35 : decode cX7_leaf 35 = .ok (.ireturn, 1) := by decide +kernel
theorem dX7_goer_0 : decode cX7_goer 0 = .ok (.aload_n 0, 1) := by decide +kernel
theorem dX7_goer_1 : decode cX7_goer 1 = .ok (.iload_n 1, 1) := by decide +kernel
theorem dX7_goer_2 : decode cX7_goer 2 = .ok (.invokevirtual 205, 3) := by decide +kernel
theorem dX7_goer_5 : decode cX7_goer 5 = .ok (.ifCond .ne 5, 3) := by decide +kernel
theorem dX7_goer_8 : decode cX7_goer 8 = .ok (.iconst (-1), 1) := by decide +kernel
theorem dX7_goer_9 : decode cX7_goer 9 = .ok (.ireturn, 1) := by decide +kernel
theorem dX7_goer_10 : decode cX7_goer 10 = .ok (.iload_n 2, 1) := by decide +kernel
theorem dX7_goer_11 : decode cX7_goer 11 = .ok (.tableswitch 75 0 4 #[33, 40, 49, 59, 69], 33) := by decide +kernel
theorem dX7_goer_44 : decode cX7_goer 44 = .ok (.aload_n 0, 1) := by decide +kernel
theorem dX7_goer_45 : decode cX7_goer 45 = .ok (.getfield 13, 3) := by decide +kernel
theorem dX7_goer_48 : decode cX7_goer 48 = .ok (.iload_n 1, 1) := by decide +kernel
theorem dX7_goer_49 : decode cX7_goer 49 = .ok (.iaload, 1) := by decide +kernel
theorem dX7_goer_50 : decode cX7_goer 50 = .ok (.ireturn, 1) := by decide +kernel
theorem dX7_goer_51 : decode cX7_goer 51 = .ok (.aload_n 0, 1) := by decide +kernel
theorem dX7_goer_52 : decode cX7_goer 52 = .ok (.getfield 29, 3) := by decide +kernel
theorem dX7_goer_55 : decode cX7_goer 55 = .ok (.iconst 3, 1) := by decide +kernel
theorem dX7_goer_56 : decode cX7_goer 56 = .ok (.iload_n 1, 1) := by decide +kernel
theorem dX7_goer_57 : decode cX7_goer 57 = .ok (.iadd, 1) := by decide +kernel
theorem dX7_goer_58 : decode cX7_goer 58 = .ok (.iaload, 1) := by decide +kernel
theorem dX7_goer_59 : decode cX7_goer 59 = .ok (.ireturn, 1) := by decide +kernel
theorem dX7_goer_60 : decode cX7_goer 60 = .ok (.aload_n 0, 1) := by decide +kernel
theorem dX7_goer_61 : decode cX7_goer 61 = .ok (.getfield 29, 3) := by decide +kernel
theorem dX7_goer_64 : decode cX7_goer 64 = .ok (.bipush 9, 2) := by decide +kernel
theorem dX7_goer_66 : decode cX7_goer 66 = .ok (.iload_n 1, 1) := by decide +kernel
theorem dX7_goer_67 : decode cX7_goer 67 = .ok (.iadd, 1) := by decide +kernel
theorem dX7_goer_68 : decode cX7_goer 68 = .ok (.iaload, 1) := by decide +kernel
theorem dX7_goer_69 : decode cX7_goer 69 = .ok (.ireturn, 1) := by decide +kernel
theorem dX7_goer_70 : decode cX7_goer 70 = .ok (.aload_n 0, 1) := by decide +kernel
theorem dX7_goer_71 : decode cX7_goer 71 = .ok (.getfield 29, 3) := by decide +kernel
theorem dX7_goer_74 : decode cX7_goer 74 = .ok (.bipush 15, 2) := by decide +kernel
theorem dX7_goer_76 : decode cX7_goer 76 = .ok (.iload_n 1, 1) := by decide +kernel
theorem dX7_goer_77 : decode cX7_goer 77 = .ok (.iadd, 1) := by decide +kernel
theorem dX7_goer_78 : decode cX7_goer 78 = .ok (.iaload, 1) := by decide +kernel
theorem dX7_goer_79 : decode cX7_goer 79 = .ok (.ireturn, 1) := by decide +kernel
theorem dX7_goer_80 : decode cX7_goer 80 = .ok (.aload_n 0, 1) := by decide +kernel
theorem dX7_goer_81 : decode cX7_goer 81 = .ok (.iload_n 1, 1) := by decide +kernel
theorem dX7_goer_82 : decode cX7_goer 82 = .ok (.invokevirtual 208, 3) := by decide +kernel
theorem dX7_goer_85 : decode cX7_goer 85 = .ok (.ireturn, 1) := by decide +kernel
theorem dX7_goer_86 : decode cX7_goer 86 = .ok (.iconst (-1), 1) := by decide +kernel
theorem dX7_goer_87 : decode cX7_goer 87 = .ok (.ireturn, 1) := by decide +kernel
theorem dX7_sister_0 : decode cX7_sister 0 = .ok (.iload_n 1, 1) := by decide +kernel
theorem dX7_sister_1 : decode cX7_sister 1 = .ok (.i2l, 1) := by decide +kernel
theorem dX7_sister_2 : decode cX7_sister 2 = .ok (.lconst 0, 1) := by decide +kernel
theorem dX7_sister_3 : decode cX7_sister 3 = .ok (.aload_n 0, 1) := by decide +kernel
theorem dX7_sister_4 : decode cX7_sister 4 = .ok (.getfield 170, 3) := by decide +kernel
theorem dX7_sister_7 : decode cX7_sister 7 = .ok (.iconst 1, 1) := by decide +kernel
theorem dX7_sister_8 : decode cX7_sister 8 = .ok (.isub, 1) := by decide +kernel
theorem dX7_sister_9 : decode cX7_sister 9 = .ok (.i2l, 1) := by decide +kernel
theorem dX7_sister_10 : decode cX7_sister 10 = .ok (.invokestatic 75, 3) := by decide +kernel
theorem dX7_sister_13 : decode cX7_sister 13 = .ok (.ifCond .eq 24, 3) := by decide +kernel
theorem dX7_sister_16 : decode cX7_sister 16 = .ok (.iload_n 2, 1) := by decide +kernel
theorem dX7_sister_17 : decode cX7_sister 17 = .ok (.invokestatic 211, 3) := by decide +kernel
theorem dX7_sister_20 : decode cX7_sister 20 = .ok (.ifCond .eq 17, 3) := by decide +kernel
theorem dX7_sister_23 : decode cX7_sister 23 = .ok (.aload_n 0, 1) := by decide +kernel
theorem dX7_sister_24 : decode cX7_sister 24 = .ok (.getfield 16, 3) := by decide +kernel
theorem dX7_sister_27 : decode cX7_sister 27 = .ok (.bipush 6, 2) := by decide +kernel
theorem dX7_sister_29 : decode cX7_sister 29 = .ok (.iload_n 1, 1) := by decide +kernel
theorem dX7_sister_30 : decode cX7_sister 30 = .ok (.imul, 1) := by decide +kernel
theorem dX7_sister_31 : decode cX7_sister 31 = .ok (.iload_n 2, 1) := by decide +kernel
theorem dX7_sister_32 : decode cX7_sister 32 = .ok (.iadd, 1) := by decide +kernel
theorem dX7_sister_33 : decode cX7_sister 33 = .ok (.iaload, 1) := by decide +kernel
theorem dX7_sister_34 : decode cX7_sister 34 = .ok (.goto 4, 3) := by decide +kernel
theorem dX7_sister_37 : decode cX7_sister 37 = .ok (.iconst (-1), 1) := by decide +kernel
theorem dX7_sister_38 : decode cX7_sister 38 = .ok (.ireturn, 1) := by decide +kernel
theorem dX7_now_0 : decode cX7_now 0 = .ok (.iload_n 1, 1) := by decide +kernel
theorem dX7_now_1 : decode cX7_now 1 = .ok (.tableswitch 72 0 6 #[43, 43, 43, 50, 56, 62, 67], 43) := by decide +kernel
theorem dX7_now_44 : decode cX7_now 44 = .ok (.aload_n 0, 1) := by decide +kernel
theorem dX7_now_45 : decode cX7_now 45 = .ok (.getfield 29, 3) := by decide +kernel
theorem dX7_now_48 : decode cX7_now 48 = .ok (.iload_n 1, 1) := by decide +kernel
theorem dX7_now_49 : decode cX7_now 49 = .ok (.iaload, 1) := by decide +kernel
theorem dX7_now_50 : decode cX7_now 50 = .ok (.ireturn, 1) := by decide +kernel
theorem dX7_now_51 : decode cX7_now 51 = .ok (.aload_n 0, 1) := by decide +kernel
theorem dX7_now_52 : decode cX7_now 52 = .ok (.iconst 1, 1) := by decide +kernel
theorem dX7_now_53 : decode cX7_now 53 = .ok (.invokevirtual 214, 3) := by decide +kernel
theorem dX7_now_56 : decode cX7_now 56 = .ok (.ireturn, 1) := by decide +kernel
theorem dX7_now_57 : decode cX7_now 57 = .ok (.aload_n 0, 1) := by decide +kernel
theorem dX7_now_58 : decode cX7_now 58 = .ok (.iconst 3, 1) := by decide +kernel
theorem dX7_now_59 : decode cX7_now 59 = .ok (.invokevirtual 214, 3) := by decide +kernel
theorem dX7_now_62 : decode cX7_now 62 = .ok (.ireturn, 1) := by decide +kernel
theorem dX7_now_63 : decode cX7_now 63 = .ok (.aload_n 0, 1) := by decide +kernel
theorem dX7_now_64 : decode cX7_now 64 = .ok (.invokevirtual 217, 3) := by decide +kernel
theorem dX7_now_67 : decode cX7_now 67 = .ok (.ireturn, 1) := by decide +kernel
theorem dX7_now_68 : decode cX7_now 68 = .ok (.aload_n 0, 1) := by decide +kernel
theorem dX7_now_69 : decode cX7_now 69 = .ok (.getfield 180, 3) := by decide +kernel
theorem dX7_now_72 : decode cX7_now 72 = .ok (.ireturn, 1) := by decide +kernel
theorem dX7_now_73 : decode cX7_now 73 = .ok (.iconst (-1), 1) := by decide +kernel
theorem dX7_now_74 : decode cX7_now 74 = .ok (.ireturn, 1) := by decide +kernel
theorem dX7_notes_0 : decode cX7_notes 0 = .ok (.aload_n 0, 1) := by decide +kernel
theorem dX7_notes_1 : decode cX7_notes 1 = .ok (.getfield 180, 3) := by decide +kernel
theorem dX7_notes_4 : decode cX7_notes 4 = .ok (.bipush 10, 2) := by decide +kernel
theorem dX7_notes_6 : decode cX7_notes 6 = .ok (.if_icmp .ne 43, 3) := by decide +kernel
theorem dX7_notes_9 : decode cX7_notes 9 = .ok (.iconst 0, 1) := by decide +kernel
theorem dX7_notes_10 : decode cX7_notes 10 = .ok (.istore_n 1, 1) := by decide +kernel
theorem dX7_notes_11 : decode cX7_notes 11 = .ok (.iload_n 1, 1) := by decide +kernel
theorem dX7_notes_12 : decode cX7_notes 12 = .ok (.sipush 189, 3) := by decide +kernel
theorem dX7_notes_15 : decode cX7_notes 15 = .ok (.if_icmp .ge 24, 3) := by decide +kernel
theorem dX7_notes_18 : decode cX7_notes 18 = .ok (.aload_n 0, 1) := by decide +kernel
theorem dX7_notes_19 : decode cX7_notes 19 = .ok (.getfield 32, 3) := by decide +kernel
theorem dX7_notes_22 : decode cX7_notes 22 = .ok (.iload_n 1, 1) := by decide +kernel
theorem dX7_notes_23 : decode cX7_notes 23 = .ok (.aload_n 0, 1) := by decide +kernel
theorem dX7_notes_24 : decode cX7_notes 24 = .ok (.getfield 32, 3) := by decide +kernel
theorem dX7_notes_27 : decode cX7_notes 27 = .ok (.iload_n 1, 1) := by decide +kernel
theorem dX7_notes_28 : decode cX7_notes 28 = .ok (.bipush 21, 2) := by decide +kernel
theorem dX7_notes_30 : decode cX7_notes 30 = .ok (.iadd, 1) := by decide +kernel
theorem dX7_notes_31 : decode cX7_notes 31 = .ok (.iaload, 1) := by decide +kernel
theorem dX7_notes_32 : decode cX7_notes 32 = .ok (.iastore, 1) := by decide +kernel
theorem dX7_notes_33 : decode cX7_notes 33 = .ok (.iinc 1 1, 3) := by decide +kernel
theorem dX7_notes_36 : decode cX7_notes 36 = .ok (.goto (-25), 3) := by decide +kernel
theorem dX7_notes_39 : decode cX7_notes 39 = .ok (.aload_n 0, 1) := by decide +kernel
theorem dX7_notes_40 : decode cX7_notes 40 = .ok (.dup, 1) := by decide +kernel
theorem dX7_notes_41 : decode cX7_notes 41 = .ok (.getfield 180, 3) := by decide +kernel
theorem dX7_notes_44 : decode cX7_notes 44 = .ok (.iconst 1, 1) := by decide +kernel
theorem dX7_notes_45 : decode cX7_notes 45 = .ok (.isub, 1) := by decide +kernel
theorem dX7_notes_46 : decode cX7_notes 46 = .ok (.putfield 180, 3) := by decide +kernel
theorem dX7_notes_49 : decode cX7_notes 49 = .ok (.aload_n 0, 1) := by decide +kernel
theorem dX7_notes_50 : decode cX7_notes 50 = .ok (.getfield 29, 3) := by decide +kernel
theorem dX7_notes_53 : decode cX7_notes 53 = .ok (.iconst 0, 1) := by decide +kernel
theorem dX7_notes_54 : decode cX7_notes 54 = .ok (.aload_n 0, 1) := by decide +kernel
theorem dX7_notes_55 : decode cX7_notes 55 = .ok (.getfield 32, 3) := by decide +kernel
theorem dX7_notes_58 : decode cX7_notes 58 = .ok (.bipush 21, 2) := by decide +kernel
theorem dX7_notes_60 : decode cX7_notes 60 = .ok (.aload_n 0, 1) := by decide +kernel
theorem dX7_notes_61 : decode cX7_notes 61 = .ok (.getfield 180, 3) := by decide +kernel
theorem dX7_notes_64 : decode cX7_notes 64 = .ok (.imul, 1) := by decide +kernel
theorem dX7_notes_65 : decode cX7_notes 65 = .ok (.bipush 21, 2) := by decide +kernel
theorem dX7_notes_67 : decode cX7_notes 67 = .ok (.invokestatic 176, 3) := by decide +kernel
theorem dX7_notes_70 : decode cX7_notes 70 = .ok (.aload_n 0, 1) := by decide +kernel
theorem dX7_notes_71 : decode cX7_notes 71 = .ok (.dup, 1) := by decide +kernel
theorem dX7_notes_72 : decode cX7_notes 72 = .ok (.getfield 180, 3) := by decide +kernel
theorem dX7_notes_75 : decode cX7_notes 75 = .ok (.iconst 1, 1) := by decide +kernel
theorem dX7_notes_76 : decode cX7_notes 76 = .ok (.iadd, 1) := by decide +kernel
theorem dX7_notes_77 : decode cX7_notes 77 = .ok (.putfield 180, 3) := by decide +kernel
theorem dX7_notes_80 : decode cX7_notes 80 = .ok (.return_, 1) := by decide +kernel
theorem dX7_comes_0 : decode cX7_comes 0 = .ok (.aload_n 0, 1) := by decide +kernel
theorem dX7_comes_1 : decode cX7_comes 1 = .ok (.iload_n 1, 1) := by decide +kernel
theorem dX7_comes_2 : decode cX7_comes 2 = .ok (.invokevirtual 205, 3) := by decide +kernel
theorem dX7_comes_5 : decode cX7_comes 5 = .ok (.ifCond .ne 5, 3) := by decide +kernel
theorem dX7_comes_8 : decode cX7_comes 8 = .ok (.iconst (-1), 1) := by decide +kernel
theorem dX7_comes_9 : decode cX7_comes 9 = .ok (.ireturn, 1) := by decide +kernel
theorem dX7_comes_10 : decode cX7_comes 10 = .ok (.aload_n 0, 1) := by decide +kernel
theorem dX7_comes_11 : decode cX7_comes 11 = .ok (.getfield 29, 3) := by decide +kernel
theorem dX7_comes_14 : decode cX7_comes 14 = .ok (.iconst 3, 1) := by decide +kernel
theorem dX7_comes_15 : decode cX7_comes 15 = .ok (.iload_n 1, 1) := by decide +kernel
theorem dX7_comes_16 : decode cX7_comes 16 = .ok (.iadd, 1) := by decide +kernel
theorem dX7_comes_17 : decode cX7_comes 17 = .ok (.iaload, 1) := by decide +kernel
theorem dX7_comes_18 : decode cX7_comes 18 = .ok (.ifCond .eq 6, 3) := by decide +kernel
theorem dX7_comes_21 : decode cX7_comes 21 = .ok (.bipush (-2), 2) := by decide +kernel
theorem dX7_comes_23 : decode cX7_comes 23 = .ok (.ireturn, 1) := by decide +kernel
theorem dX7_comes_24 : decode cX7_comes 24 = .ok (.aload_n 0, 1) := by decide +kernel
theorem dX7_comes_25 : decode cX7_comes 25 = .ok (.invokevirtual 220, 3) := by decide +kernel
theorem dX7_comes_28 : decode cX7_comes 28 = .ok (.aload_n 0, 1) := by decide +kernel
theorem dX7_comes_29 : decode cX7_comes 29 = .ok (.getfield 29, 3) := by decide +kernel
theorem dX7_comes_32 : decode cX7_comes 32 = .ok (.iconst 3, 1) := by decide +kernel
theorem dX7_comes_33 : decode cX7_comes 33 = .ok (.iload_n 1, 1) := by decide +kernel
theorem dX7_comes_34 : decode cX7_comes 34 = .ok (.iadd, 1) := by decide +kernel
theorem dX7_comes_35 : decode cX7_comes 35 = .ok (.iconst 1, 1) := by decide +kernel
theorem dX7_comes_36 : decode cX7_comes 36 = .ok (.iastore, 1) := by decide +kernel
theorem dX7_comes_37 : decode cX7_comes 37 = .ok (.aload_n 0, 1) := by decide +kernel
theorem dX7_comes_38 : decode cX7_comes 38 = .ok (.iconst 1, 1) := by decide +kernel
theorem dX7_comes_39 : decode cX7_comes 39 = .ok (.invokevirtual 214, 3) := by decide +kernel
theorem dX7_comes_42 : decode cX7_comes 42 = .ok (.invokestatic 195, 3) := by decide +kernel
theorem dX7_comes_45 : decode cX7_comes 45 = .ok (.ireturn, 1) := by decide +kernel
theorem dX7_says_0 : decode cX7_says 0 = .ok (.aload_n 0, 1) := by decide +kernel
theorem dX7_says_1 : decode cX7_says 1 = .ok (.iload_n 1, 1) := by decide +kernel
theorem dX7_says_2 : decode cX7_says 2 = .ok (.invokevirtual 205, 3) := by decide +kernel
theorem dX7_says_5 : decode cX7_says 5 = .ok (.ifCond .eq 10, 3) := by decide +kernel
theorem dX7_says_8 : decode cX7_says 8 = .ok (.iload_n 2, 1) := by decide +kernel
theorem dX7_says_9 : decode cX7_says 9 = .ok (.invokestatic 211, 3) := by decide +kernel
theorem dX7_says_12 : decode cX7_says 12 = .ok (.ifCond .ne 5, 3) := by decide +kernel
theorem dX7_says_15 : decode cX7_says 15 = .ok (.iconst (-1), 1) := by decide +kernel
theorem dX7_says_16 : decode cX7_says 16 = .ok (.ireturn, 1) := by decide +kernel
theorem dX7_says_17 : decode cX7_says 17 = .ok (.aload_n 0, 1) := by decide +kernel
theorem dX7_says_18 : decode cX7_says 18 = .ok (.getfield 29, 3) := by decide +kernel
theorem dX7_says_21 : decode cX7_says 21 = .ok (.iconst 3, 1) := by decide +kernel
theorem dX7_says_22 : decode cX7_says 22 = .ok (.iload_n 1, 1) := by decide +kernel
theorem dX7_says_23 : decode cX7_says 23 = .ok (.iadd, 1) := by decide +kernel
theorem dX7_says_24 : decode cX7_says 24 = .ok (.iaload, 1) := by decide +kernel
theorem dX7_says_25 : decode cX7_says 25 = .ok (.iconst 1, 1) := by decide +kernel
theorem dX7_says_26 : decode cX7_says 26 = .ok (.if_icmp .ne 10, 3) := by decide +kernel
end
section
theorem dX7_says_29 : decode cX7_says 29 = .ok (.aload_n 0, 1) := by decide +kernel
theorem dX7_says_30 : decode cX7_says 30 = .ok (.getfield 164, 3) := by decide +kernel
theorem dX7_says_33 : decode cX7_says 33 = .ok (.ifCond .ne 6, 3) := by decide +kernel
theorem dX7_says_36 : decode cX7_says 36 = .ok (.bipush (-2), 2) := by decide +kernel
theorem dX7_says_38 : decode cX7_says 38 = .ok (.ireturn, 1) := by decide +kernel
theorem dX7_says_39 : decode cX7_says 39 = .ok (.aload_n 0, 1) := by decide +kernel
theorem dX7_says_40 : decode cX7_says 40 = .ok (.invokevirtual 220, 3) := by decide +kernel
theorem dX7_says_43 : decode cX7_says 43 = .ok (.aload_n 0, 1) := by decide +kernel
theorem dX7_says_44 : decode cX7_says 44 = .ok (.getfield 13, 3) := by decide +kernel
theorem dX7_says_47 : decode cX7_says 47 = .ok (.iload_n 1, 1) := by decide +kernel
theorem dX7_says_48 : decode cX7_says 48 = .ok (.iaload, 1) := by decide +kernel
theorem dX7_says_49 : decode cX7_says 49 = .ok (.aload_n 0, 1) := by decide +kernel
theorem dX7_says_50 : decode cX7_says 50 = .ok (.getfield 7, 3) := by decide +kernel
theorem dX7_says_53 : decode cX7_says 53 = .ok (.aload_n 0, 1) := by decide +kernel
theorem dX7_says_54 : decode cX7_says 54 = .ok (.getfield 29, 3) := by decide +kernel
theorem dX7_says_57 : decode cX7_says 57 = .ok (.iconst 1, 1) := by decide +kernel
theorem dX7_says_58 : decode cX7_says 58 = .ok (.iaload, 1) := by decide +kernel
theorem dX7_says_59 : decode cX7_says 59 = .ok (.iaload, 1) := by decide +kernel
theorem dX7_says_60 : decode cX7_says 60 = .ok (.iand, 1) := by decide +kernel
theorem dX7_says_61 : decode cX7_says 61 = .ok (.iload_n 2, 1) := by decide +kernel
theorem dX7_says_62 : decode cX7_says 62 = .ok (.invokestatic 69, 3) := by decide +kernel
theorem dX7_says_65 : decode cX7_says 65 = .ok (.istore_n 3, 1) := by decide +kernel
theorem dX7_says_66 : decode cX7_says 66 = .ok (.aload_n 0, 1) := by decide +kernel
theorem dX7_says_67 : decode cX7_says 67 = .ok (.getfield 29, 3) := by decide +kernel
theorem dX7_says_70 : decode cX7_says 70 = .ok (.iconst 3, 1) := by decide +kernel
theorem dX7_says_71 : decode cX7_says 71 = .ok (.iload_n 1, 1) := by decide +kernel
theorem dX7_says_72 : decode cX7_says 72 = .ok (.iadd, 1) := by decide +kernel
theorem dX7_says_73 : decode cX7_says 73 = .ok (.iload_n 3, 1) := by decide +kernel
theorem dX7_says_74 : decode cX7_says 74 = .ok (.ifCond .eq 7, 3) := by decide +kernel
theorem dX7_says_77 : decode cX7_says 77 = .ok (.iconst 3, 1) := by decide +kernel
theorem dX7_says_78 : decode cX7_says 78 = .ok (.goto 4, 3) := by decide +kernel
theorem dX7_says_81 : decode cX7_says 81 = .ok (.iconst 2, 1) := by decide +kernel
theorem dX7_says_82 : decode cX7_says 82 = .ok (.iastore, 1) := by decide +kernel
theorem dX7_says_83 : decode cX7_says 83 = .ok (.aload_n 0, 1) := by decide +kernel
theorem dX7_says_84 : decode cX7_says 84 = .ok (.getfield 29, 3) := by decide +kernel
theorem dX7_says_87 : decode cX7_says 87 = .ok (.bipush 9, 2) := by decide +kernel
theorem dX7_says_89 : decode cX7_says 89 = .ok (.iload_n 1, 1) := by decide +kernel
theorem dX7_says_90 : decode cX7_says 90 = .ok (.iadd, 1) := by decide +kernel
theorem dX7_says_91 : decode cX7_says 91 = .ok (.iload_n 3, 1) := by decide +kernel
theorem dX7_says_92 : decode cX7_says 92 = .ok (.ifCond .eq 7, 3) := by decide +kernel
theorem dX7_says_95 : decode cX7_says 95 = .ok (.iconst 0, 1) := by decide +kernel
theorem dX7_says_96 : decode cX7_says 96 = .ok (.goto 7, 3) := by decide +kernel
theorem dX7_says_99 : decode cX7_says 99 = .ok (.aload_n 0, 1) := by decide +kernel
theorem dX7_says_100 : decode cX7_says 100 = .ok (.getfield 25, 3) := by decide +kernel
theorem dX7_says_103 : decode cX7_says 103 = .ok (.iastore, 1) := by decide +kernel
theorem dX7_says_104 : decode cX7_says 104 = .ok (.aload_n 0, 1) := by decide +kernel
theorem dX7_says_105 : decode cX7_says 105 = .ok (.getfield 29, 3) := by decide +kernel
theorem dX7_says_108 : decode cX7_says 108 = .ok (.bipush 15, 2) := by decide +kernel
theorem dX7_says_110 : decode cX7_says 110 = .ok (.iload_n 1, 1) := by decide +kernel
theorem dX7_says_111 : decode cX7_says 111 = .ok (.iadd, 1) := by decide +kernel
theorem dX7_says_112 : decode cX7_says 112 = .ok (.dup2, 1) := by decide +kernel
theorem dX7_says_113 : decode cX7_says 113 = .ok (.iaload, 1) := by decide +kernel
theorem dX7_says_114 : decode cX7_says 114 = .ok (.iload_n 3, 1) := by decide +kernel
theorem dX7_says_115 : decode cX7_says 115 = .ok (.ifCond .eq 7, 3) := by decide +kernel
theorem dX7_says_118 : decode cX7_says 118 = .ok (.iconst 0, 1) := by decide +kernel
theorem dX7_says_119 : decode cX7_says 119 = .ok (.goto 4, 3) := by decide +kernel
theorem dX7_says_122 : decode cX7_says 122 = .ok (.iconst 1, 1) := by decide +kernel
theorem dX7_says_123 : decode cX7_says 123 = .ok (.iadd, 1) := by decide +kernel
theorem dX7_says_124 : decode cX7_says 124 = .ok (.iastore, 1) := by decide +kernel
theorem dX7_says_125 : decode cX7_says 125 = .ok (.aload_n 0, 1) := by decide +kernel
theorem dX7_says_126 : decode cX7_says 126 = .ok (.getfield 29, 3) := by decide +kernel
theorem dX7_says_129 : decode cX7_says 129 = .ok (.iconst 1, 1) := by decide +kernel
theorem dX7_says_130 : decode cX7_says 130 = .ok (.aload_n 0, 1) := by decide +kernel
theorem dX7_says_131 : decode cX7_says 131 = .ok (.getfield 29, 3) := by decide +kernel
theorem dX7_says_134 : decode cX7_says 134 = .ok (.iconst 1, 1) := by decide +kernel
theorem dX7_says_135 : decode cX7_says 135 = .ok (.iaload, 1) := by decide +kernel
theorem dX7_says_136 : decode cX7_says 136 = .ok (.iconst 1, 1) := by decide +kernel
theorem dX7_says_137 : decode cX7_says 137 = .ok (.iadd, 1) := by decide +kernel
theorem dX7_says_138 : decode cX7_says 138 = .ok (.aload_n 0, 1) := by decide +kernel
theorem dX7_says_139 : decode cX7_says 139 = .ok (.getfield 164, 3) := by decide +kernel
theorem dX7_says_142 : decode cX7_says 142 = .ok (.irem, 1) := by decide +kernel
theorem dX7_says_143 : decode cX7_says 143 = .ok (.iastore, 1) := by decide +kernel
theorem dX7_says_144 : decode cX7_says 144 = .ok (.aload_n 0, 1) := by decide +kernel
theorem dX7_says_145 : decode cX7_says 145 = .ok (.getfield 29, 3) := by decide +kernel
theorem dX7_says_148 : decode cX7_says 148 = .ok (.iconst 2, 1) := by decide +kernel
theorem dX7_says_149 : decode cX7_says 149 = .ok (.dup2, 1) := by decide +kernel
theorem dX7_says_150 : decode cX7_says 150 = .ok (.iaload, 1) := by decide +kernel
theorem dX7_says_151 : decode cX7_says 151 = .ok (.aload_n 0, 1) := by decide +kernel
theorem dX7_says_152 : decode cX7_says 152 = .ok (.getfield 29, 3) := by decide +kernel
theorem dX7_says_155 : decode cX7_says 155 = .ok (.iconst 2, 1) := by decide +kernel
theorem dX7_says_156 : decode cX7_says 156 = .ok (.iaload, 1) := by decide +kernel
theorem dX7_says_157 : decode cX7_says 157 = .ok (.sipush 999, 3) := by decide +kernel
theorem dX7_says_160 : decode cX7_says 160 = .ok (.if_icmp .ge 7, 3) := by decide +kernel
theorem dX7_says_163 : decode cX7_says 163 = .ok (.iconst 1, 1) := by decide +kernel
theorem dX7_says_164 : decode cX7_says 164 = .ok (.goto 4, 3) := by decide +kernel
theorem dX7_says_167 : decode cX7_says 167 = .ok (.iconst 0, 1) := by decide +kernel
theorem dX7_says_168 : decode cX7_says 168 = .ok (.iadd, 1) := by decide +kernel
theorem dX7_says_169 : decode cX7_says 169 = .ok (.iastore, 1) := by decide +kernel
theorem dX7_says_170 : decode cX7_says 170 = .ok (.iload_n 3, 1) := by decide +kernel
theorem dX7_says_171 : decode cX7_says 171 = .ok (.ifCond .eq 7, 3) := by decide +kernel
theorem dX7_says_174 : decode cX7_says 174 = .ok (.iconst 1, 1) := by decide +kernel
theorem dX7_says_175 : decode cX7_says 175 = .ok (.goto 4, 3) := by decide +kernel
theorem dX7_says_178 : decode cX7_says 178 = .ok (.iconst 0, 1) := by decide +kernel
theorem dX7_says_179 : decode cX7_says 179 = .ok (.ireturn, 1) := by decide +kernel
theorem dX7_minutes_0 : decode cX7_minutes 0 = .ok (.iload_n 1, 1) := by decide +kernel
theorem dX7_minutes_1 : decode cX7_minutes 1 = .ok (.i2l, 1) := by decide +kernel
theorem dX7_minutes_2 : decode cX7_minutes 2 = .ok (.lconst 1, 1) := by decide +kernel
theorem dX7_minutes_3 : decode cX7_minutes 3 = .ok (.ldc2_w 223, 3) := by decide +kernel
theorem dX7_minutes_6 : decode cX7_minutes 6 = .ok (.invokestatic 75, 3) := by decide +kernel
theorem dX7_minutes_9 : decode cX7_minutes 9 = .ok (.ifCond .ne 5, 3) := by decide +kernel
theorem dX7_minutes_12 : decode cX7_minutes 12 = .ok (.iconst (-1), 1) := by decide +kernel
theorem dX7_minutes_13 : decode cX7_minutes 13 = .ok (.ireturn, 1) := by decide +kernel
theorem dX7_minutes_14 : decode cX7_minutes 14 = .ok (.aload_n 0, 1) := by decide +kernel
theorem dX7_minutes_15 : decode cX7_minutes 15 = .ok (.getfield 29, 3) := by decide +kernel
theorem dX7_minutes_18 : decode cX7_minutes 18 = .ok (.iconst 0, 1) := by decide +kernel
theorem dX7_minutes_19 : decode cX7_minutes 19 = .ok (.iaload, 1) := by decide +kernel
theorem dX7_minutes_20 : decode cX7_minutes 20 = .ok (.iload_n 1, 1) := by decide +kernel
theorem dX7_minutes_21 : decode cX7_minutes 21 = .ok (.iadd, 1) := by decide +kernel
theorem dX7_minutes_22 : decode cX7_minutes 22 = .ok (.sipush 999, 3) := by decide +kernel
theorem dX7_minutes_25 : decode cX7_minutes 25 = .ok (.if_icmp .le 6, 3) := by decide +kernel
theorem dX7_minutes_28 : decode cX7_minutes 28 = .ok (.bipush (-2), 2) := by decide +kernel
theorem dX7_minutes_30 : decode cX7_minutes 30 = .ok (.ireturn, 1) := by decide +kernel
theorem dX7_minutes_31 : decode cX7_minutes 31 = .ok (.aload_n 0, 1) := by decide +kernel
theorem dX7_minutes_32 : decode cX7_minutes 32 = .ok (.invokevirtual 220, 3) := by decide +kernel
theorem dX7_minutes_35 : decode cX7_minutes 35 = .ok (.aload_n 0, 1) := by decide +kernel
theorem dX7_minutes_36 : decode cX7_minutes 36 = .ok (.getfield 29, 3) := by decide +kernel
theorem dX7_minutes_39 : decode cX7_minutes 39 = .ok (.iconst 0, 1) := by decide +kernel
theorem dX7_minutes_40 : decode cX7_minutes 40 = .ok (.dup2, 1) := by decide +kernel
theorem dX7_minutes_41 : decode cX7_minutes 41 = .ok (.iaload, 1) := by decide +kernel
theorem dX7_minutes_42 : decode cX7_minutes 42 = .ok (.iload_n 1, 1) := by decide +kernel
theorem dX7_minutes_43 : decode cX7_minutes 43 = .ok (.iadd, 1) := by decide +kernel
theorem dX7_minutes_44 : decode cX7_minutes 44 = .ok (.iastore, 1) := by decide +kernel
theorem dX7_minutes_45 : decode cX7_minutes 45 = .ok (.iconst 0, 1) := by decide +kernel
theorem dX7_minutes_46 : decode cX7_minutes 46 = .ok (.istore_n 2, 1) := by decide +kernel
theorem dX7_minutes_47 : decode cX7_minutes 47 = .ok (.iload_n 2, 1) := by decide +kernel
theorem dX7_minutes_48 : decode cX7_minutes 48 = .ok (.aload_n 0, 1) := by decide +kernel
theorem dX7_minutes_49 : decode cX7_minutes 49 = .ok (.getfield 167, 3) := by decide +kernel
theorem dX7_minutes_52 : decode cX7_minutes 52 = .ok (.if_icmp .ge 83, 3) := by decide +kernel
theorem dX7_minutes_55 : decode cX7_minutes 55 = .ok (.aload_n 0, 1) := by decide +kernel
theorem dX7_minutes_56 : decode cX7_minutes 56 = .ok (.getfield 29, 3) := by decide +kernel
theorem dX7_minutes_59 : decode cX7_minutes 59 = .ok (.iconst 3, 1) := by decide +kernel
theorem dX7_minutes_60 : decode cX7_minutes 60 = .ok (.iload_n 2, 1) := by decide +kernel
theorem dX7_minutes_61 : decode cX7_minutes 61 = .ok (.iadd, 1) := by decide +kernel
theorem dX7_minutes_62 : decode cX7_minutes 62 = .ok (.iaload, 1) := by decide +kernel
theorem dX7_minutes_63 : decode cX7_minutes 63 = .ok (.iconst 2, 1) := by decide +kernel
theorem dX7_minutes_64 : decode cX7_minutes 64 = .ok (.if_icmp .ne 65, 3) := by decide +kernel
theorem dX7_minutes_67 : decode cX7_minutes 67 = .ok (.aload_n 0, 1) := by decide +kernel
theorem dX7_minutes_68 : decode cX7_minutes 68 = .ok (.getfield 29, 3) := by decide +kernel
theorem dX7_minutes_71 : decode cX7_minutes 71 = .ok (.bipush 9, 2) := by decide +kernel
theorem dX7_minutes_73 : decode cX7_minutes 73 = .ok (.iload_n 2, 1) := by decide +kernel
theorem dX7_minutes_74 : decode cX7_minutes 74 = .ok (.iadd, 1) := by decide +kernel
theorem dX7_minutes_75 : decode cX7_minutes 75 = .ok (.aload_n 0, 1) := by decide +kernel
theorem dX7_minutes_76 : decode cX7_minutes 76 = .ok (.getfield 29, 3) := by decide +kernel
theorem dX7_minutes_79 : decode cX7_minutes 79 = .ok (.bipush 9, 2) := by decide +kernel
theorem dX7_minutes_81 : decode cX7_minutes 81 = .ok (.iload_n 2, 1) := by decide +kernel
theorem dX7_minutes_82 : decode cX7_minutes 82 = .ok (.iadd, 1) := by decide +kernel
theorem dX7_minutes_83 : decode cX7_minutes 83 = .ok (.iaload, 1) := by decide +kernel
theorem dX7_minutes_84 : decode cX7_minutes 84 = .ok (.iload_n 1, 1) := by decide +kernel
theorem dX7_minutes_85 : decode cX7_minutes 85 = .ok (.if_icmp .le 17, 3) := by decide +kernel
theorem dX7_minutes_88 : decode cX7_minutes 88 = .ok (.aload_n 0, 1) := by decide +kernel
theorem dX7_minutes_89 : decode cX7_minutes 89 = .ok (.getfield 29, 3) := by decide +kernel
theorem dX7_minutes_92 : decode cX7_minutes 92 = .ok (.bipush 9, 2) := by decide +kernel
theorem dX7_minutes_94 : decode cX7_minutes 94 = .ok (.iload_n 2, 1) := by decide +kernel
theorem dX7_minutes_95 : decode cX7_minutes 95 = .ok (.iadd, 1) := by decide +kernel
theorem dX7_minutes_96 : decode cX7_minutes 96 = .ok (.iaload, 1) := by decide +kernel
theorem dX7_minutes_97 : decode cX7_minutes 97 = .ok (.iload_n 1, 1) := by decide +kernel
theorem dX7_minutes_98 : decode cX7_minutes 98 = .ok (.isub, 1) := by decide +kernel
theorem dX7_minutes_99 : decode cX7_minutes 99 = .ok (.goto 4, 3) := by decide +kernel
theorem dX7_minutes_102 : decode cX7_minutes 102 = .ok (.iconst 0, 1) := by decide +kernel
theorem dX7_minutes_103 : decode cX7_minutes 103 = .ok (.iastore, 1) := by decide +kernel
theorem dX7_minutes_104 : decode cX7_minutes 104 = .ok (.aload_n 0, 1) := by decide +kernel
theorem dX7_minutes_105 : decode cX7_minutes 105 = .ok (.getfield 29, 3) := by decide +kernel
theorem dX7_minutes_108 : decode cX7_minutes 108 = .ok (.iconst 3, 1) := by decide +kernel
theorem dX7_minutes_109 : decode cX7_minutes 109 = .ok (.iload_n 2, 1) := by decide +kernel
theorem dX7_minutes_110 : decode cX7_minutes 110 = .ok (.iadd, 1) := by decide +kernel
theorem dX7_minutes_111 : decode cX7_minutes 111 = .ok (.aload_n 0, 1) := by decide +kernel
theorem dX7_minutes_112 : decode cX7_minutes 112 = .ok (.getfield 29, 3) := by decide +kernel
theorem dX7_minutes_115 : decode cX7_minutes 115 = .ok (.bipush 9, 2) := by decide +kernel
theorem dX7_minutes_117 : decode cX7_minutes 117 = .ok (.iload_n 2, 1) := by decide +kernel
theorem dX7_minutes_118 : decode cX7_minutes 118 = .ok (.iadd, 1) := by decide +kernel
theorem dX7_minutes_119 : decode cX7_minutes 119 = .ok (.iaload, 1) := by decide +kernel
theorem dX7_minutes_120 : decode cX7_minutes 120 = .ok (.ifCond .ne 7, 3) := by decide +kernel
theorem dX7_minutes_123 : decode cX7_minutes 123 = .ok (.iconst 1, 1) := by decide +kernel
theorem dX7_minutes_124 : decode cX7_minutes 124 = .ok (.goto 4, 3) := by decide +kernel
theorem dX7_minutes_127 : decode cX7_minutes 127 = .ok (.iconst 2, 1) := by decide +kernel
theorem dX7_minutes_128 : decode cX7_minutes 128 = .ok (.iastore, 1) := by decide +kernel
theorem dX7_minutes_129 : decode cX7_minutes 129 = .ok (.iinc 2 1, 3) := by decide +kernel
theorem dX7_minutes_132 : decode cX7_minutes 132 = .ok (.goto (-85), 3) := by decide +kernel
theorem dX7_minutes_135 : decode cX7_minutes 135 = .ok (.aload_n 0, 1) := by decide +kernel
theorem dX7_minutes_136 : decode cX7_minutes 136 = .ok (.iconst 1, 1) := by decide +kernel
theorem dX7_minutes_137 : decode cX7_minutes 137 = .ok (.invokevirtual 214, 3) := by decide +kernel
theorem dX7_minutes_140 : decode cX7_minutes 140 = .ok (.invokestatic 195, 3) := by decide +kernel
theorem dX7_minutes_143 : decode cX7_minutes 143 = .ok (.ireturn, 1) := by decide +kernel
theorem dX7_undo_0 : decode cX7_undo 0 = .ok (.aload_n 0, 1) := by decide +kernel
theorem dX7_undo_1 : decode cX7_undo 1 = .ok (.getfield 180, 3) := by decide +kernel
theorem dX7_undo_4 : decode cX7_undo 4 = .ok (.ifCond .ne 6, 3) := by decide +kernel
theorem dX7_undo_7 : decode cX7_undo 7 = .ok (.bipush (-2), 2) := by decide +kernel
theorem dX7_undo_9 : decode cX7_undo 9 = .ok (.ireturn, 1) := by decide +kernel
theorem dX7_undo_10 : decode cX7_undo 10 = .ok (.aload_n 0, 1) := by decide +kernel
theorem dX7_undo_11 : decode cX7_undo 11 = .ok (.dup, 1) := by decide +kernel
theorem dX7_undo_12 : decode cX7_undo 12 = .ok (.getfield 180, 3) := by decide +kernel
theorem dX7_undo_15 : decode cX7_undo 15 = .ok (.iconst 1, 1) := by decide +kernel
theorem dX7_undo_16 : decode cX7_undo 16 = .ok (.isub, 1) := by decide +kernel
theorem dX7_undo_17 : decode cX7_undo 17 = .ok (.putfield 180, 3) := by decide +kernel
theorem dX7_undo_20 : decode cX7_undo 20 = .ok (.aload_n 0, 1) := by decide +kernel
theorem dX7_undo_21 : decode cX7_undo 21 = .ok (.getfield 32, 3) := by decide +kernel
theorem dX7_undo_24 : decode cX7_undo 24 = .ok (.bipush 21, 2) := by decide +kernel
theorem dX7_undo_26 : decode cX7_undo 26 = .ok (.aload_n 0, 1) := by decide +kernel
theorem dX7_undo_27 : decode cX7_undo 27 = .ok (.getfield 180, 3) := by decide +kernel
theorem dX7_undo_30 : decode cX7_undo 30 = .ok (.imul, 1) := by decide +kernel
theorem dX7_undo_31 : decode cX7_undo 31 = .ok (.aload_n 0, 1) := by decide +kernel
theorem dX7_undo_32 : decode cX7_undo 32 = .ok (.getfield 29, 3) := by decide +kernel
theorem dX7_undo_35 : decode cX7_undo 35 = .ok (.iconst 0, 1) := by decide +kernel
theorem dX7_undo_36 : decode cX7_undo 36 = .ok (.bipush 21, 2) := by decide +kernel
theorem dX7_undo_38 : decode cX7_undo 38 = .ok (.invokestatic 176, 3) := by decide +kernel
theorem dX7_undo_41 : decode cX7_undo 41 = .ok (.aload_n 0, 1) := by decide +kernel
theorem dX7_undo_42 : decode cX7_undo 42 = .ok (.getfield 180, 3) := by decide +kernel
theorem dX7_undo_45 : decode cX7_undo 45 = .ok (.ireturn, 1) := by decide +kernel
theorem dX7_fewest_0 : decode cX7_fewest 0 = .ok (.aload_n 0, 1) := by decide +kernel
theorem dX7_fewest_1 : decode cX7_fewest 1 = .ok (.iload_n 1, 1) := by decide +kernel
theorem dX7_fewest_2 : decode cX7_fewest 2 = .ok (.invokevirtual 205, 3) := by decide +kernel
theorem dX7_fewest_5 : decode cX7_fewest 5 = .ok (.ifCond .eq 10, 3) := by decide +kernel
theorem dX7_fewest_8 : decode cX7_fewest 8 = .ok (.iload_n 2, 1) := by decide +kernel
theorem dX7_fewest_9 : decode cX7_fewest 9 = .ok (.invokestatic 202, 3) := by decide +kernel
theorem dX7_fewest_12 : decode cX7_fewest 12 = .ok (.ifCond .ne 5, 3) := by decide +kernel
theorem dX7_fewest_15 : decode cX7_fewest 15 = .ok (.iconst (-1), 1) := by decide +kernel
theorem dX7_fewest_16 : decode cX7_fewest 16 = .ok (.ireturn, 1) := by decide +kernel
theorem dX7_fewest_17 : decode cX7_fewest 17 = .ok (.aload_n 0, 1) := by decide +kernel
theorem dX7_fewest_18 : decode cX7_fewest 18 = .ok (.getfield 29, 3) := by decide +kernel
theorem dX7_fewest_21 : decode cX7_fewest 21 = .ok (.iconst 3, 1) := by decide +kernel
theorem dX7_fewest_22 : decode cX7_fewest 22 = .ok (.iload_n 1, 1) := by decide +kernel
theorem dX7_fewest_23 : decode cX7_fewest 23 = .ok (.iadd, 1) := by decide +kernel
theorem dX7_fewest_24 : decode cX7_fewest 24 = .ok (.iaload, 1) := by decide +kernel
theorem dX7_fewest_25 : decode cX7_fewest 25 = .ok (.iconst 3, 1) := by decide +kernel
theorem dX7_fewest_26 : decode cX7_fewest 26 = .ok (.if_icmp .ne 6, 3) := by decide +kernel
theorem dX7_fewest_29 : decode cX7_fewest 29 = .ok (.bipush (-2), 2) := by decide +kernel
theorem dX7_fewest_31 : decode cX7_fewest 31 = .ok (.ireturn, 1) := by decide +kernel
theorem dX7_fewest_32 : decode cX7_fewest 32 = .ok (.iconst 0, 1) := by decide +kernel
theorem dX7_fewest_33 : decode cX7_fewest 33 = .ok (.istore_n 3, 1) := by decide +kernel
theorem dX7_fewest_34 : decode cX7_fewest 34 = .ok (.iload_n 3, 1) := by decide +kernel
theorem dX7_fewest_35 : decode cX7_fewest 35 = .ok (.aload_n 0, 1) := by decide +kernel
theorem dX7_fewest_36 : decode cX7_fewest 36 = .ok (.getfield 164, 3) := by decide +kernel
theorem dX7_fewest_39 : decode cX7_fewest 39 = .ok (.if_icmp .ge 62, 3) := by decide +kernel
theorem dX7_fewest_42 : decode cX7_fewest 42 = .ok (.aload_n 0, 1) := by decide +kernel
theorem dX7_fewest_43 : decode cX7_fewest 43 = .ok (.getfield 29, 3) := by decide +kernel
theorem dX7_fewest_46 : decode cX7_fewest 46 = .ok (.iconst 1, 1) := by decide +kernel
theorem dX7_fewest_47 : decode cX7_fewest 47 = .ok (.iaload, 1) := by decide +kernel
theorem dX7_fewest_48 : decode cX7_fewest 48 = .ok (.iload_n 3, 1) := by decide +kernel
theorem dX7_fewest_49 : decode cX7_fewest 49 = .ok (.iadd, 1) := by decide +kernel
theorem dX7_fewest_50 : decode cX7_fewest 50 = .ok (.aload_n 0, 1) := by decide +kernel
theorem dX7_fewest_51 : decode cX7_fewest 51 = .ok (.getfield 164, 3) := by decide +kernel
theorem dX7_fewest_54 : decode cX7_fewest 54 = .ok (.irem, 1) := by decide +kernel
theorem dX7_fewest_55 : decode cX7_fewest 55 = .ok (.istore 4, 2) := by decide +kernel
theorem dX7_fewest_57 : decode cX7_fewest 57 = .ok (.aload_n 0, 1) := by decide +kernel
theorem dX7_fewest_58 : decode cX7_fewest 58 = .ok (.iload 4, 2) := by decide +kernel
theorem dX7_fewest_60 : decode cX7_fewest 60 = .ok (.iload_n 1, 1) := by decide +kernel
theorem dX7_fewest_61 : decode cX7_fewest 61 = .ok (.invokevirtual 188, 3) := by decide +kernel
theorem dX7_fewest_64 : decode cX7_fewest 64 = .ok (.ifCond .eq 31, 3) := by decide +kernel
theorem dX7_fewest_67 : decode cX7_fewest 67 = .ok (.iload_n 2, 1) := by decide +kernel
theorem dX7_fewest_68 : decode cX7_fewest 68 = .ok (.ifCond .ne 9, 3) := by decide +kernel
theorem dX7_fewest_71 : decode cX7_fewest 71 = .ok (.iload_n 3, 1) := by decide +kernel
theorem dX7_fewest_72 : decode cX7_fewest 72 = .ok (.iconst 1, 1) := by decide +kernel
theorem dX7_fewest_73 : decode cX7_fewest 73 = .ok (.iadd, 1) := by decide +kernel
theorem dX7_fewest_74 : decode cX7_fewest 74 = .ok (.goto 20, 3) := by decide +kernel
theorem dX7_fewest_77 : decode cX7_fewest 77 = .ok (.aload_n 0, 1) := by decide +kernel
theorem dX7_fewest_78 : decode cX7_fewest 78 = .ok (.getfield 7, 3) := by decide +kernel
theorem dX7_fewest_81 : decode cX7_fewest 81 = .ok (.iload 4, 2) := by decide +kernel
theorem dX7_fewest_83 : decode cX7_fewest 83 = .ok (.iaload, 1) := by decide +kernel
theorem dX7_fewest_84 : decode cX7_fewest 84 = .ok (.aload_n 0, 1) := by decide +kernel
theorem dX7_fewest_85 : decode cX7_fewest 85 = .ok (.getfield 13, 3) := by decide +kernel
theorem dX7_fewest_88 : decode cX7_fewest 88 = .ok (.iload_n 1, 1) := by decide +kernel
theorem dX7_fewest_89 : decode cX7_fewest 89 = .ok (.iaload, 1) := by decide +kernel
theorem dX7_fewest_90 : decode cX7_fewest 90 = .ok (.iand, 1) := by decide +kernel
theorem dX7_fewest_91 : decode cX7_fewest 91 = .ok (.invokestatic 225, 3) := by decide +kernel
theorem dX7_fewest_94 : decode cX7_fewest 94 = .ok (.ireturn, 1) := by decide +kernel
theorem dX7_fewest_95 : decode cX7_fewest 95 = .ok (.iinc 3 1, 3) := by decide +kernel
theorem dX7_fewest_98 : decode cX7_fewest 98 = .ok (.goto (-64), 3) := by decide +kernel
theorem dX7_fewest_101 : decode cX7_fewest 101 = .ok (.bipush (-9), 2) := by decide +kernel
theorem dX7_fewest_103 : decode cX7_fewest 103 = .ok (.ireturn, 1) := by decide +kernel
theorem dX7_nextOrder_0 : decode cX7_nextOrder 0 = .ok (.iload_n 1, 1) := by decide +kernel
theorem dX7_nextOrder_1 : decode cX7_nextOrder 1 = .ok (.iconst 2, 1) := by decide +kernel
theorem dX7_nextOrder_2 : decode cX7_nextOrder 2 = .ok (.isub, 1) := by decide +kernel
theorem dX7_nextOrder_3 : decode cX7_nextOrder 3 = .ok (.istore_n 2, 1) := by decide +kernel
theorem dX7_nextOrder_4 : decode cX7_nextOrder 4 = .ok (.iload_n 2, 1) := by decide +kernel
theorem dX7_nextOrder_5 : decode cX7_nextOrder 5 = .ok (.ifCond .lt 26, 3) := by decide +kernel
theorem dX7_nextOrder_8 : decode cX7_nextOrder 8 = .ok (.aload_n 0, 1) := by decide +kernel
theorem dX7_nextOrder_9 : decode cX7_nextOrder 9 = .ok (.getfield 63, 3) := by decide +kernel
theorem dX7_nextOrder_12 : decode cX7_nextOrder 12 = .ok (.iload_n 2, 1) := by decide +kernel
theorem dX7_nextOrder_13 : decode cX7_nextOrder 13 = .ok (.iaload, 1) := by decide +kernel
theorem dX7_nextOrder_14 : decode cX7_nextOrder 14 = .ok (.aload_n 0, 1) := by decide +kernel
theorem dX7_nextOrder_15 : decode cX7_nextOrder 15 = .ok (.getfield 63, 3) := by decide +kernel
theorem dX7_nextOrder_18 : decode cX7_nextOrder 18 = .ok (.iload_n 2, 1) := by decide +kernel
theorem dX7_nextOrder_19 : decode cX7_nextOrder 19 = .ok (.iconst 1, 1) := by decide +kernel
theorem dX7_nextOrder_20 : decode cX7_nextOrder 20 = .ok (.iadd, 1) := by decide +kernel
theorem dX7_nextOrder_21 : decode cX7_nextOrder 21 = .ok (.iaload, 1) := by decide +kernel
theorem dX7_nextOrder_22 : decode cX7_nextOrder 22 = .ok (.if_icmp .le 9, 3) := by decide +kernel
theorem dX7_nextOrder_25 : decode cX7_nextOrder 25 = .ok (.iinc 2 (-1), 3) := by decide +kernel
theorem dX7_nextOrder_28 : decode cX7_nextOrder 28 = .ok (.goto (-24), 3) := by decide +kernel
theorem dX7_nextOrder_31 : decode cX7_nextOrder 31 = .ok (.iload_n 2, 1) := by decide +kernel
theorem dX7_nextOrder_32 : decode cX7_nextOrder 32 = .ok (.ifCond .ge 5, 3) := by decide +kernel
theorem dX7_nextOrder_35 : decode cX7_nextOrder 35 = .ok (.iconst 0, 1) := by decide +kernel
theorem dX7_nextOrder_36 : decode cX7_nextOrder 36 = .ok (.ireturn, 1) := by decide +kernel
theorem dX7_nextOrder_37 : decode cX7_nextOrder 37 = .ok (.iload_n 1, 1) := by decide +kernel
theorem dX7_nextOrder_38 : decode cX7_nextOrder 38 = .ok (.iconst 1, 1) := by decide +kernel
theorem dX7_nextOrder_39 : decode cX7_nextOrder 39 = .ok (.isub, 1) := by decide +kernel
theorem dX7_nextOrder_40 : decode cX7_nextOrder 40 = .ok (.istore_n 3, 1) := by decide +kernel
theorem dX7_nextOrder_41 : decode cX7_nextOrder 41 = .ok (.aload_n 0, 1) := by decide +kernel
theorem dX7_nextOrder_42 : decode cX7_nextOrder 42 = .ok (.getfield 63, 3) := by decide +kernel
theorem dX7_nextOrder_45 : decode cX7_nextOrder 45 = .ok (.iload_n 3, 1) := by decide +kernel
theorem dX7_nextOrder_46 : decode cX7_nextOrder 46 = .ok (.iaload, 1) := by decide +kernel
theorem dX7_nextOrder_47 : decode cX7_nextOrder 47 = .ok (.aload_n 0, 1) := by decide +kernel
theorem dX7_nextOrder_48 : decode cX7_nextOrder 48 = .ok (.getfield 63, 3) := by decide +kernel
theorem dX7_nextOrder_51 : decode cX7_nextOrder 51 = .ok (.iload_n 2, 1) := by decide +kernel
theorem dX7_nextOrder_52 : decode cX7_nextOrder 52 = .ok (.iaload, 1) := by decide +kernel
theorem dX7_nextOrder_53 : decode cX7_nextOrder 53 = .ok (.if_icmp .ge 9, 3) := by decide +kernel
theorem dX7_nextOrder_56 : decode cX7_nextOrder 56 = .ok (.iinc 3 (-1), 3) := by decide +kernel
theorem dX7_nextOrder_59 : decode cX7_nextOrder 59 = .ok (.goto (-18), 3) := by decide +kernel
theorem dX7_nextOrder_62 : decode cX7_nextOrder 62 = .ok (.aload_n 0, 1) := by decide +kernel
theorem dX7_nextOrder_63 : decode cX7_nextOrder 63 = .ok (.getfield 63, 3) := by decide +kernel
theorem dX7_nextOrder_66 : decode cX7_nextOrder 66 = .ok (.iload_n 2, 1) := by decide +kernel
theorem dX7_nextOrder_67 : decode cX7_nextOrder 67 = .ok (.iaload, 1) := by decide +kernel
theorem dX7_nextOrder_68 : decode cX7_nextOrder 68 = .ok (.istore 4, 2) := by decide +kernel
theorem dX7_nextOrder_70 : decode cX7_nextOrder 70 = .ok (.aload_n 0, 1) := by decide +kernel
theorem dX7_nextOrder_71 : decode cX7_nextOrder 71 = .ok (.getfield 63, 3) := by decide +kernel
theorem dX7_nextOrder_74 : decode cX7_nextOrder 74 = .ok (.iload_n 2, 1) := by decide +kernel
theorem dX7_nextOrder_75 : decode cX7_nextOrder 75 = .ok (.aload_n 0, 1) := by decide +kernel
theorem dX7_nextOrder_76 : decode cX7_nextOrder 76 = .ok (.getfield 63, 3) := by decide +kernel
theorem dX7_nextOrder_79 : decode cX7_nextOrder 79 = .ok (.iload_n 3, 1) := by decide +kernel
theorem dX7_nextOrder_80 : decode cX7_nextOrder 80 = .ok (.iaload, 1) := by decide +kernel
theorem dX7_nextOrder_81 : decode cX7_nextOrder 81 = .ok (.iastore, 1) := by decide +kernel
theorem dX7_nextOrder_82 : decode cX7_nextOrder 82 = .ok (.aload_n 0, 1) := by decide +kernel
theorem dX7_nextOrder_83 : decode cX7_nextOrder 83 = .ok (.getfield 63, 3) := by decide +kernel
theorem dX7_nextOrder_86 : decode cX7_nextOrder 86 = .ok (.iload_n 3, 1) := by decide +kernel
theorem dX7_nextOrder_87 : decode cX7_nextOrder 87 = .ok (.iload 4, 2) := by decide +kernel
theorem dX7_nextOrder_89 : decode cX7_nextOrder 89 = .ok (.iastore, 1) := by decide +kernel
theorem dX7_nextOrder_90 : decode cX7_nextOrder 90 = .ok (.iload_n 2, 1) := by decide +kernel
theorem dX7_nextOrder_91 : decode cX7_nextOrder 91 = .ok (.iconst 1, 1) := by decide +kernel
theorem dX7_nextOrder_92 : decode cX7_nextOrder 92 = .ok (.iadd, 1) := by decide +kernel
theorem dX7_nextOrder_93 : decode cX7_nextOrder 93 = .ok (.istore 5, 2) := by decide +kernel
theorem dX7_nextOrder_95 : decode cX7_nextOrder 95 = .ok (.iload_n 1, 1) := by decide +kernel
theorem dX7_nextOrder_96 : decode cX7_nextOrder 96 = .ok (.iconst 1, 1) := by decide +kernel
theorem dX7_nextOrder_97 : decode cX7_nextOrder 97 = .ok (.isub, 1) := by decide +kernel
theorem dX7_nextOrder_98 : decode cX7_nextOrder 98 = .ok (.istore 6, 2) := by decide +kernel
theorem dX7_nextOrder_100 : decode cX7_nextOrder 100 = .ok (.iload 5, 2) := by decide +kernel
theorem dX7_nextOrder_102 : decode cX7_nextOrder 102 = .ok (.iload 6, 2) := by decide +kernel
theorem dX7_nextOrder_104 : decode cX7_nextOrder 104 = .ok (.if_icmp .ge 44, 3) := by decide +kernel
theorem dX7_nextOrder_107 : decode cX7_nextOrder 107 = .ok (.aload_n 0, 1) := by decide +kernel
theorem dX7_nextOrder_108 : decode cX7_nextOrder 108 = .ok (.getfield 63, 3) := by decide +kernel
theorem dX7_nextOrder_111 : decode cX7_nextOrder 111 = .ok (.iload 5, 2) := by decide +kernel
theorem dX7_nextOrder_113 : decode cX7_nextOrder 113 = .ok (.iaload, 1) := by decide +kernel
theorem dX7_nextOrder_114 : decode cX7_nextOrder 114 = .ok (.istore 4, 2) := by decide +kernel
theorem dX7_nextOrder_116 : decode cX7_nextOrder 116 = .ok (.aload_n 0, 1) := by decide +kernel
theorem dX7_nextOrder_117 : decode cX7_nextOrder 117 = .ok (.getfield 63, 3) := by decide +kernel
theorem dX7_nextOrder_120 : decode cX7_nextOrder 120 = .ok (.iload 5, 2) := by decide +kernel
theorem dX7_nextOrder_122 : decode cX7_nextOrder 122 = .ok (.aload_n 0, 1) := by decide +kernel
theorem dX7_nextOrder_123 : decode cX7_nextOrder 123 = .ok (.getfield 63, 3) := by decide +kernel
theorem dX7_nextOrder_126 : decode cX7_nextOrder 126 = .ok (.iload 6, 2) := by decide +kernel
theorem dX7_nextOrder_128 : decode cX7_nextOrder 128 = .ok (.iaload, 1) := by decide +kernel
theorem dX7_nextOrder_129 : decode cX7_nextOrder 129 = .ok (.iastore, 1) := by decide +kernel
theorem dX7_nextOrder_130 : decode cX7_nextOrder 130 = .ok (.aload_n 0, 1) := by decide +kernel
theorem dX7_nextOrder_131 : decode cX7_nextOrder 131 = .ok (.getfield 63, 3) := by decide +kernel
theorem dX7_nextOrder_134 : decode cX7_nextOrder 134 = .ok (.iload 6, 2) := by decide +kernel
theorem dX7_nextOrder_136 : decode cX7_nextOrder 136 = .ok (.iload 4, 2) := by decide +kernel
theorem dX7_nextOrder_138 : decode cX7_nextOrder 138 = .ok (.iastore, 1) := by decide +kernel
theorem dX7_nextOrder_139 : decode cX7_nextOrder 139 = .ok (.iinc 5 1, 3) := by decide +kernel
theorem dX7_nextOrder_142 : decode cX7_nextOrder 142 = .ok (.iinc 6 (-1), 3) := by decide +kernel
theorem dX7_nextOrder_145 : decode cX7_nextOrder 145 = .ok (.goto (-45), 3) := by decide +kernel
theorem dX7_nextOrder_148 : decode cX7_nextOrder 148 = .ok (.iconst 1, 1) := by decide +kernel
theorem dX7_nextOrder_149 : decode cX7_nextOrder 149 = .ok (.ireturn, 1) := by decide +kernel
theorem dX7_line_0 : decode cX7_line 0 = .ok (.iload_n 1, 1) := by decide +kernel
theorem dX7_line_1 : decode cX7_line 1 = .ok (.i2l, 1) := by decide +kernel
theorem dX7_line_2 : decode cX7_line 2 = .ok (.ldc2_w 228, 3) := by decide +kernel
theorem dX7_line_5 : decode cX7_line 5 = .ok (.ldc2_w 186, 3) := by decide +kernel
theorem dX7_line_8 : decode cX7_line 8 = .ok (.invokestatic 75, 3) := by decide +kernel
theorem dX7_line_11 : decode cX7_line 11 = .ok (.ifCond .ne 5, 3) := by decide +kernel
theorem dX7_line_14 : decode cX7_line 14 = .ok (.iconst (-1), 1) := by decide +kernel
theorem dX7_line_15 : decode cX7_line 15 = .ok (.ireturn, 1) := by decide +kernel
theorem dX7_line_16 : decode cX7_line 16 = .ok (.iconst 0, 1) := by decide +kernel
theorem dX7_line_17 : decode cX7_line 17 = .ok (.istore_n 2, 1) := by decide +kernel
theorem dX7_line_18 : decode cX7_line 18 = .ok (.iconst 0, 1) := by decide +kernel
theorem dX7_line_19 : decode cX7_line 19 = .ok (.istore_n 3, 1) := by decide +kernel
theorem dX7_line_20 : decode cX7_line 20 = .ok (.iload_n 3, 1) := by decide +kernel
theorem dX7_line_21 : decode cX7_line 21 = .ok (.aload_n 0, 1) := by decide +kernel
theorem dX7_line_22 : decode cX7_line 22 = .ok (.getfield 167, 3) := by decide +kernel
theorem dX7_line_25 : decode cX7_line 25 = .ok (.if_icmp .ge 31, 3) := by decide +kernel
theorem dX7_line_28 : decode cX7_line 28 = .ok (.aload_n 0, 1) := by decide +kernel
theorem dX7_line_29 : decode cX7_line 29 = .ok (.getfield 29, 3) := by decide +kernel
theorem dX7_line_32 : decode cX7_line 32 = .ok (.iconst 3, 1) := by decide +kernel
theorem dX7_line_33 : decode cX7_line 33 = .ok (.iload_n 3, 1) := by decide +kernel
theorem dX7_line_34 : decode cX7_line 34 = .ok (.iadd, 1) := by decide +kernel
theorem dX7_line_35 : decode cX7_line 35 = .ok (.iaload, 1) := by decide +kernel
theorem dX7_line_36 : decode cX7_line 36 = .ok (.iconst 1, 1) := by decide +kernel
theorem dX7_line_37 : decode cX7_line 37 = .ok (.if_icmp .ne 13, 3) := by decide +kernel
theorem dX7_line_40 : decode cX7_line 40 = .ok (.aload_n 0, 1) := by decide +kernel
theorem dX7_line_41 : decode cX7_line 41 = .ok (.getfield 63, 3) := by decide +kernel
theorem dX7_line_44 : decode cX7_line 44 = .ok (.iload_n 2, 1) := by decide +kernel
theorem dX7_line_45 : decode cX7_line 45 = .ok (.iload_n 3, 1) := by decide +kernel
theorem dX7_line_46 : decode cX7_line 46 = .ok (.iastore, 1) := by decide +kernel
theorem dX7_line_47 : decode cX7_line 47 = .ok (.iinc 2 1, 3) := by decide +kernel
theorem dX7_line_50 : decode cX7_line 50 = .ok (.iinc 3 1, 3) := by decide +kernel
theorem dX7_line_53 : decode cX7_line 53 = .ok (.goto (-33), 3) := by decide +kernel
theorem dX7_line_56 : decode cX7_line 56 = .ok (.iconst (-1), 1) := by decide +kernel
theorem dX7_line_57 : decode cX7_line 57 = .ok (.istore_n 3, 1) := by decide +kernel
theorem dX7_line_58 : decode cX7_line 58 = .ok (.iconst 1, 1) := by decide +kernel
theorem dX7_line_59 : decode cX7_line 59 = .ok (.istore 4, 2) := by decide +kernel
theorem dX7_line_61 : decode cX7_line 61 = .ok (.iload 4, 2) := by decide +kernel
theorem dX7_line_63 : decode cX7_line 63 = .ok (.ifCond .eq 99, 3) := by decide +kernel
theorem dX7_line_66 : decode cX7_line 66 = .ok (.iconst 0, 1) := by decide +kernel
theorem dX7_line_67 : decode cX7_line 67 = .ok (.istore 5, 2) := by decide +kernel
theorem dX7_line_69 : decode cX7_line 69 = .ok (.iconst 0, 1) := by decide +kernel
theorem dX7_line_70 : decode cX7_line 70 = .ok (.istore 6, 2) := by decide +kernel
theorem dX7_line_72 : decode cX7_line 72 = .ok (.iload 6, 2) := by decide +kernel
theorem dX7_line_74 : decode cX7_line 74 = .ok (.iload_n 2, 1) := by decide +kernel
theorem dX7_line_75 : decode cX7_line 75 = .ok (.if_icmp .ge 54, 3) := by decide +kernel
theorem dX7_line_78 : decode cX7_line 78 = .ok (.aload_n 0, 1) := by decide +kernel
theorem dX7_line_79 : decode cX7_line 79 = .ok (.getfield 164, 3) := by decide +kernel
theorem dX7_line_82 : decode cX7_line 82 = .ok (.ifCond .le 47, 3) := by decide +kernel
theorem dX7_line_85 : decode cX7_line 85 = .ok (.iload 5, 2) := by decide +kernel
theorem dX7_line_87 : decode cX7_line 87 = .ok (.aload_n 0, 1) := by decide +kernel
theorem dX7_line_88 : decode cX7_line 88 = .ok (.aload_n 0, 1) := by decide +kernel
theorem dX7_line_89 : decode cX7_line 89 = .ok (.getfield 29, 3) := by decide +kernel
theorem dX7_line_92 : decode cX7_line 92 = .ok (.iconst 1, 1) := by decide +kernel
theorem dX7_line_93 : decode cX7_line 93 = .ok (.iaload, 1) := by decide +kernel
theorem dX7_line_94 : decode cX7_line 94 = .ok (.iload 6, 2) := by decide +kernel
theorem dX7_line_96 : decode cX7_line 96 = .ok (.iadd, 1) := by decide +kernel
theorem dX7_line_97 : decode cX7_line 97 = .ok (.aload_n 0, 1) := by decide +kernel
theorem dX7_line_98 : decode cX7_line 98 = .ok (.getfield 164, 3) := by decide +kernel
theorem dX7_line_101 : decode cX7_line 101 = .ok (.irem, 1) := by decide +kernel
theorem dX7_line_102 : decode cX7_line 102 = .ok (.aload_n 0, 1) := by decide +kernel
theorem dX7_line_103 : decode cX7_line 103 = .ok (.getfield 63, 3) := by decide +kernel
theorem dX7_line_106 : decode cX7_line 106 = .ok (.iload 6, 2) := by decide +kernel
theorem dX7_line_108 : decode cX7_line 108 = .ok (.iaload, 1) := by decide +kernel
theorem dX7_line_109 : decode cX7_line 109 = .ok (.invokevirtual 188, 3) := by decide +kernel
theorem dX7_line_112 : decode cX7_line 112 = .ok (.ifCond .eq 7, 3) := by decide +kernel
theorem dX7_line_115 : decode cX7_line 115 = .ok (.iconst 1, 1) := by decide +kernel
theorem dX7_line_116 : decode cX7_line 116 = .ok (.goto 4, 3) := by decide +kernel
theorem dX7_line_119 : decode cX7_line 119 = .ok (.iconst 0, 1) := by decide +kernel
theorem dX7_line_120 : decode cX7_line 120 = .ok (.iadd, 1) := by decide +kernel
theorem dX7_line_121 : decode cX7_line 121 = .ok (.istore 5, 2) := by decide +kernel
theorem dX7_line_123 : decode cX7_line 123 = .ok (.iinc 6 1, 3) := by decide +kernel
theorem dX7_line_126 : decode cX7_line 126 = .ok (.goto (-54), 3) := by decide +kernel
theorem dX7_line_129 : decode cX7_line 129 = .ok (.iload 5, 2) := by decide +kernel
theorem dX7_line_131 : decode cX7_line 131 = .ok (.iload_n 3, 1) := by decide +kernel
theorem dX7_line_132 : decode cX7_line 132 = .ok (.if_icmp .le 20, 3) := by decide +kernel
theorem dX7_line_135 : decode cX7_line 135 = .ok (.iload 5, 2) := by decide +kernel
theorem dX7_line_137 : decode cX7_line 137 = .ok (.istore_n 3, 1) := by decide +kernel
theorem dX7_line_138 : decode cX7_line 138 = .ok (.aload_n 0, 1) := by decide +kernel
theorem dX7_line_139 : decode cX7_line 139 = .ok (.getfield 63, 3) := by decide +kernel
theorem dX7_line_142 : decode cX7_line 142 = .ok (.iconst 0, 1) := by decide +kernel
theorem dX7_line_143 : decode cX7_line 143 = .ok (.aload_n 0, 1) := by decide +kernel
theorem dX7_line_144 : decode cX7_line 144 = .ok (.getfield 66, 3) := by decide +kernel
theorem dX7_line_147 : decode cX7_line 147 = .ok (.iconst 0, 1) := by decide +kernel
theorem dX7_line_148 : decode cX7_line 148 = .ok (.iload_n 2, 1) := by decide +kernel
theorem dX7_line_149 : decode cX7_line 149 = .ok (.invokestatic 176, 3) := by decide +kernel
theorem dX7_line_152 : decode cX7_line 152 = .ok (.aload_n 0, 1) := by decide +kernel
theorem dX7_line_153 : decode cX7_line 153 = .ok (.iload_n 2, 1) := by decide +kernel
theorem dX7_line_154 : decode cX7_line 154 = .ok (.invokevirtual 230, 3) := by decide +kernel
theorem dX7_line_157 : decode cX7_line 157 = .ok (.istore 4, 2) := by decide +kernel
theorem dX7_line_159 : decode cX7_line 159 = .ok (.goto (-98), 3) := by decide +kernel
theorem dX7_line_162 : decode cX7_line 162 = .ok (.iload_n 1, 1) := by decide +kernel
theorem dX7_line_163 : decode cX7_line 163 = .ok (.iconst (-1), 1) := by decide +kernel
theorem dX7_line_164 : decode cX7_line 164 = .ok (.if_icmp .ne 7, 3) := by decide +kernel
theorem dX7_line_167 : decode cX7_line 167 = .ok (.iload_n 3, 1) := by decide +kernel
theorem dX7_line_168 : decode cX7_line 168 = .ok (.goto 19, 3) := by decide +kernel
theorem dX7_line_171 : decode cX7_line 171 = .ok (.iload_n 1, 1) := by decide +kernel
theorem dX7_line_172 : decode cX7_line 172 = .ok (.iload_n 2, 1) := by decide +kernel
theorem dX7_line_173 : decode cX7_line 173 = .ok (.if_icmp .ge 12, 3) := by decide +kernel
theorem dX7_line_176 : decode cX7_line 176 = .ok (.aload_n 0, 1) := by decide +kernel
theorem dX7_line_177 : decode cX7_line 177 = .ok (.getfield 66, 3) := by decide +kernel
theorem dX7_line_180 : decode cX7_line 180 = .ok (.iload_n 1, 1) := by decide +kernel
theorem dX7_line_181 : decode cX7_line 181 = .ok (.iaload, 1) := by decide +kernel
theorem dX7_line_182 : decode cX7_line 182 = .ok (.goto 5, 3) := by decide +kernel
theorem dX7_line_185 : decode cX7_line 185 = .ok (.bipush (-9), 2) := by decide +kernel
theorem dX7_line_187 : decode cX7_line 187 = .ok (.ireturn, 1) := by decide +kernel
theorem dX7_sees_0 : decode cX7_sees 0 = .ok (.iload_n 1, 1) := by decide +kernel
theorem dX7_sees_1 : decode cX7_sees 1 = .ok (.invokestatic 211, 3) := by decide +kernel
theorem dX7_sees_4 : decode cX7_sees 4 = .ok (.ifCond .eq 18, 3) := by decide +kernel
theorem dX7_sees_7 : decode cX7_sees 7 = .ok (.aload_n 0, 1) := by decide +kernel
theorem dX7_sees_8 : decode cX7_sees 8 = .ok (.iload_n 2, 1) := by decide +kernel
theorem dX7_sees_9 : decode cX7_sees 9 = .ok (.invokevirtual 198, 3) := by decide +kernel
theorem dX7_sees_12 : decode cX7_sees 12 = .ok (.ifCond .eq 10, 3) := by decide +kernel
theorem dX7_sees_15 : decode cX7_sees 15 = .ok (.iload_n 3, 1) := by decide +kernel
theorem dX7_sees_16 : decode cX7_sees 16 = .ok (.invokestatic 202, 3) := by decide +kernel
theorem dX7_sees_19 : decode cX7_sees 19 = .ok (.ifCond .ne 5, 3) := by decide +kernel
theorem dX7_sees_22 : decode cX7_sees 22 = .ok (.iconst (-1), 1) := by decide +kernel
theorem dX7_sees_23 : decode cX7_sees 23 = .ok (.ireturn, 1) := by decide +kernel
theorem dX7_sees_24 : decode cX7_sees 24 = .ok (.aload_n 0, 1) := by decide +kernel
theorem dX7_sees_25 : decode cX7_sees 25 = .ok (.getfield 183, 3) := by decide +kernel
theorem dX7_sees_28 : decode cX7_sees 28 = .ok (.bipush 6, 2) := by decide +kernel
theorem dX7_sees_30 : decode cX7_sees 30 = .ok (.if_icmp .ne 6, 3) := by decide +kernel
theorem dX7_sees_33 : decode cX7_sees 33 = .ok (.bipush (-3), 2) := by decide +kernel
theorem dX7_sees_35 : decode cX7_sees 35 = .ok (.ireturn, 1) := by decide +kernel
theorem dX7_sees_36 : decode cX7_sees 36 = .ok (.aload_n 0, 1) := by decide +kernel
theorem dX7_sees_37 : decode cX7_sees 37 = .ok (.getfield 42, 3) := by decide +kernel
theorem dX7_sees_40 : decode cX7_sees 40 = .ok (.iconst 3, 1) := by decide +kernel
theorem dX7_sees_41 : decode cX7_sees 41 = .ok (.aload_n 0, 1) := by decide +kernel
theorem dX7_sees_42 : decode cX7_sees 42 = .ok (.getfield 183, 3) := by decide +kernel
theorem dX7_sees_45 : decode cX7_sees 45 = .ok (.imul, 1) := by decide +kernel
theorem dX7_sees_46 : decode cX7_sees 46 = .ok (.iload_n 1, 1) := by decide +kernel
theorem dX7_sees_47 : decode cX7_sees 47 = .ok (.iastore, 1) := by decide +kernel
theorem dX7_sees_48 : decode cX7_sees 48 = .ok (.aload_n 0, 1) := by decide +kernel
theorem dX7_sees_49 : decode cX7_sees 49 = .ok (.getfield 42, 3) := by decide +kernel
theorem dX7_sees_52 : decode cX7_sees 52 = .ok (.iconst 3, 1) := by decide +kernel
theorem dX7_sees_53 : decode cX7_sees 53 = .ok (.aload_n 0, 1) := by decide +kernel
theorem dX7_sees_54 : decode cX7_sees 54 = .ok (.getfield 183, 3) := by decide +kernel
theorem dX7_sees_57 : decode cX7_sees 57 = .ok (.imul, 1) := by decide +kernel
theorem dX7_sees_58 : decode cX7_sees 58 = .ok (.iconst 1, 1) := by decide +kernel
theorem dX7_sees_59 : decode cX7_sees 59 = .ok (.iadd, 1) := by decide +kernel
theorem dX7_sees_60 : decode cX7_sees 60 = .ok (.iload_n 2, 1) := by decide +kernel
theorem dX7_sees_61 : decode cX7_sees 61 = .ok (.iastore, 1) := by decide +kernel
theorem dX7_sees_62 : decode cX7_sees 62 = .ok (.aload_n 0, 1) := by decide +kernel
theorem dX7_sees_63 : decode cX7_sees 63 = .ok (.getfield 42, 3) := by decide +kernel
theorem dX7_sees_66 : decode cX7_sees 66 = .ok (.iconst 3, 1) := by decide +kernel
theorem dX7_sees_67 : decode cX7_sees 67 = .ok (.aload_n 0, 1) := by decide +kernel
theorem dX7_sees_68 : decode cX7_sees 68 = .ok (.getfield 183, 3) := by decide +kernel
theorem dX7_sees_71 : decode cX7_sees 71 = .ok (.imul, 1) := by decide +kernel
theorem dX7_sees_72 : decode cX7_sees 72 = .ok (.iconst 2, 1) := by decide +kernel
theorem dX7_sees_73 : decode cX7_sees 73 = .ok (.iadd, 1) := by decide +kernel
theorem dX7_sees_74 : decode cX7_sees 74 = .ok (.iload_n 3, 1) := by decide +kernel
theorem dX7_sees_75 : decode cX7_sees 75 = .ok (.iastore, 1) := by decide +kernel
theorem dX7_sees_76 : decode cX7_sees 76 = .ok (.aload_n 0, 1) := by decide +kernel
theorem dX7_sees_77 : decode cX7_sees 77 = .ok (.dup, 1) := by decide +kernel
theorem dX7_sees_78 : decode cX7_sees 78 = .ok (.getfield 183, 3) := by decide +kernel
theorem dX7_sees_81 : decode cX7_sees 81 = .ok (.iconst 1, 1) := by decide +kernel
theorem dX7_sees_82 : decode cX7_sees 82 = .ok (.iadd, 1) := by decide +kernel
theorem dX7_sees_83 : decode cX7_sees 83 = .ok (.putfield 183, 3) := by decide +kernel
theorem dX7_sees_86 : decode cX7_sees 86 = .ok (.aload_n 0, 1) := by decide +kernel
theorem dX7_sees_87 : decode cX7_sees 87 = .ok (.getfield 183, 3) := by decide +kernel
theorem dX7_sees_90 : decode cX7_sees 90 = .ok (.ireturn, 1) := by decide +kernel
theorem dX7_forget_0 : decode cX7_forget 0 = .ok (.aload_n 0, 1) := by decide +kernel
theorem dX7_forget_1 : decode cX7_forget 1 = .ok (.getfield 183, 3) := by decide +kernel
theorem dX7_forget_4 : decode cX7_forget 4 = .ok (.istore_n 1, 1) := by decide +kernel
theorem dX7_forget_5 : decode cX7_forget 5 = .ok (.aload_n 0, 1) := by decide +kernel
theorem dX7_forget_6 : decode cX7_forget 6 = .ok (.iconst 0, 1) := by decide +kernel
theorem dX7_forget_7 : decode cX7_forget 7 = .ok (.putfield 183, 3) := by decide +kernel
theorem dX7_forget_10 : decode cX7_forget 10 = .ok (.iload_n 1, 1) := by decide +kernel
theorem dX7_forget_11 : decode cX7_forget 11 = .ok (.ireturn, 1) := by decide +kernel
theorem dX7_canHave_0 : decode cX7_canHave 0 = .ok (.iconst 1, 1) := by decide +kernel
theorem dX7_canHave_1 : decode cX7_canHave 1 = .ok (.istore_n 2, 1) := by decide +kernel
theorem dX7_canHave_2 : decode cX7_canHave 2 = .ok (.iconst 0, 1) := by decide +kernel
theorem dX7_canHave_3 : decode cX7_canHave 3 = .ok (.istore_n 3, 1) := by decide +kernel
theorem dX7_canHave_4 : decode cX7_canHave 4 = .ok (.iload_n 3, 1) := by decide +kernel
theorem dX7_canHave_5 : decode cX7_canHave 5 = .ok (.iconst 3, 1) := by decide +kernel
theorem dX7_canHave_6 : decode cX7_canHave 6 = .ok (.aload_n 0, 1) := by decide +kernel
theorem dX7_canHave_7 : decode cX7_canHave 7 = .ok (.getfield 183, 3) := by decide +kernel
theorem dX7_canHave_10 : decode cX7_canHave 10 = .ok (.imul, 1) := by decide +kernel
theorem dX7_canHave_11 : decode cX7_canHave 11 = .ok (.if_icmp .ge 63, 3) := by decide +kernel
theorem dX7_canHave_14 : decode cX7_canHave 14 = .ok (.iload_n 2, 1) := by decide +kernel
theorem dX7_canHave_15 : decode cX7_canHave 15 = .ok (.ifCond .eq 51, 3) := by decide +kernel
theorem dX7_canHave_18 : decode cX7_canHave 18 = .ok (.iload_n 1, 1) := by decide +kernel
theorem dX7_canHave_19 : decode cX7_canHave 19 = .ok (.aload_n 0, 1) := by decide +kernel
theorem dX7_canHave_20 : decode cX7_canHave 20 = .ok (.getfield 7, 3) := by decide +kernel
theorem dX7_canHave_23 : decode cX7_canHave 23 = .ok (.aload_n 0, 1) := by decide +kernel
theorem dX7_canHave_24 : decode cX7_canHave 24 = .ok (.getfield 42, 3) := by decide +kernel
theorem dX7_canHave_27 : decode cX7_canHave 27 = .ok (.iload_n 3, 1) := by decide +kernel
theorem dX7_canHave_28 : decode cX7_canHave 28 = .ok (.iconst 1, 1) := by decide +kernel
theorem dX7_canHave_29 : decode cX7_canHave 29 = .ok (.iadd, 1) := by decide +kernel
theorem dX7_canHave_30 : decode cX7_canHave 30 = .ok (.iaload, 1) := by decide +kernel
theorem dX7_canHave_31 : decode cX7_canHave 31 = .ok (.iaload, 1) := by decide +kernel
theorem dX7_canHave_32 : decode cX7_canHave 32 = .ok (.iand, 1) := by decide +kernel
theorem dX7_canHave_33 : decode cX7_canHave 33 = .ok (.aload_n 0, 1) := by decide +kernel
theorem dX7_canHave_34 : decode cX7_canHave 34 = .ok (.getfield 42, 3) := by decide +kernel
theorem dX7_canHave_37 : decode cX7_canHave 37 = .ok (.iload_n 3, 1) := by decide +kernel
theorem dX7_canHave_38 : decode cX7_canHave 38 = .ok (.iaload, 1) := by decide +kernel
theorem dX7_canHave_39 : decode cX7_canHave 39 = .ok (.invokestatic 69, 3) := by decide +kernel
theorem dX7_canHave_42 : decode cX7_canHave 42 = .ok (.aload_n 0, 1) := by decide +kernel
theorem dX7_canHave_43 : decode cX7_canHave 43 = .ok (.getfield 42, 3) := by decide +kernel
theorem dX7_canHave_46 : decode cX7_canHave 46 = .ok (.iload_n 3, 1) := by decide +kernel
theorem dX7_canHave_47 : decode cX7_canHave 47 = .ok (.iconst 2, 1) := by decide +kernel
theorem dX7_canHave_48 : decode cX7_canHave 48 = .ok (.iadd, 1) := by decide +kernel
theorem dX7_canHave_49 : decode cX7_canHave 49 = .ok (.iaload, 1) := by decide +kernel
theorem dX7_canHave_50 : decode cX7_canHave 50 = .ok (.iconst 1, 1) := by decide +kernel
theorem dX7_canHave_51 : decode cX7_canHave 51 = .ok (.if_icmp .ne 7, 3) := by decide +kernel
theorem dX7_canHave_54 : decode cX7_canHave 54 = .ok (.iconst 1, 1) := by decide +kernel
theorem dX7_canHave_55 : decode cX7_canHave 55 = .ok (.goto 4, 3) := by decide +kernel
theorem dX7_canHave_58 : decode cX7_canHave 58 = .ok (.iconst 0, 1) := by decide +kernel
theorem dX7_canHave_59 : decode cX7_canHave 59 = .ok (.if_icmp .ne 7, 3) := by decide +kernel
theorem dX7_canHave_62 : decode cX7_canHave 62 = .ok (.iconst 1, 1) := by decide +kernel
theorem dX7_canHave_63 : decode cX7_canHave 63 = .ok (.goto 4, 3) := by decide +kernel
theorem dX7_canHave_66 : decode cX7_canHave 66 = .ok (.iconst 0, 1) := by decide +kernel
theorem dX7_canHave_67 : decode cX7_canHave 67 = .ok (.istore_n 2, 1) := by decide +kernel
theorem dX7_canHave_68 : decode cX7_canHave 68 = .ok (.iinc 3 3, 3) := by decide +kernel
theorem dX7_canHave_71 : decode cX7_canHave 71 = .ok (.goto (-67), 3) := by decide +kernel
theorem dX7_canHave_74 : decode cX7_canHave 74 = .ok (.iload_n 2, 1) := by decide +kernel
theorem dX7_canHave_75 : decode cX7_canHave 75 = .ok (.ireturn, 1) := by decide +kernel
theorem dX7_had_0 : decode cX7_had 0 = .ok (.iload_n 1, 1) := by decide +kernel
theorem dX7_had_1 : decode cX7_had 1 = .ok (.i2l, 1) := by decide +kernel
theorem dX7_had_2 : decode cX7_had 2 = .ok (.lconst 0, 1) := by decide +kernel
theorem dX7_had_3 : decode cX7_had 3 = .ok (.ldc2_w 233, 3) := by decide +kernel
theorem dX7_had_6 : decode cX7_had 6 = .ok (.invokestatic 75, 3) := by decide +kernel
theorem dX7_had_9 : decode cX7_had 9 = .ok (.ifCond .ne 5, 3) := by decide +kernel
theorem dX7_had_12 : decode cX7_had 12 = .ok (.iconst (-1), 1) := by decide +kernel
theorem dX7_had_13 : decode cX7_had 13 = .ok (.ireturn, 1) := by decide +kernel
theorem dX7_had_14 : decode cX7_had 14 = .ok (.iconst 0, 1) := by decide +kernel
theorem dX7_had_15 : decode cX7_had 15 = .ok (.istore_n 2, 1) := by decide +kernel
theorem dX7_had_16 : decode cX7_had 16 = .ok (.bipush 63, 2) := by decide +kernel
theorem dX7_had_18 : decode cX7_had 18 = .ok (.istore_n 3, 1) := by decide +kernel
theorem dX7_had_19 : decode cX7_had 19 = .ok (.iconst 0, 1) := by decide +kernel
theorem dX7_had_20 : decode cX7_had 20 = .ok (.istore 4, 2) := by decide +kernel
theorem dX7_had_22 : decode cX7_had 22 = .ok (.iconst 0, 1) := by decide +kernel
theorem dX7_had_23 : decode cX7_had 23 = .ok (.istore 5, 2) := by decide +kernel
theorem dX7_had_25 : decode cX7_had 25 = .ok (.iload 5, 2) := by decide +kernel
theorem dX7_had_27 : decode cX7_had 27 = .ok (.bipush 64, 2) := by decide +kernel
theorem dX7_had_29 : decode cX7_had 29 = .ok (.if_icmp .ge 33, 3) := by decide +kernel
theorem dX7_had_32 : decode cX7_had 32 = .ok (.aload_n 0, 1) := by decide +kernel
theorem dX7_had_33 : decode cX7_had 33 = .ok (.iload 5, 2) := by decide +kernel
theorem dX7_had_35 : decode cX7_had 35 = .ok (.invokevirtual 235, 3) := by decide +kernel
theorem dX7_had_38 : decode cX7_had 38 = .ok (.ifCond .eq 18, 3) := by decide +kernel
theorem dX7_had_41 : decode cX7_had 41 = .ok (.iinc 2 1, 3) := by decide +kernel
theorem dX7_had_44 : decode cX7_had 44 = .ok (.iload_n 3, 1) := by decide +kernel
theorem dX7_had_45 : decode cX7_had 45 = .ok (.iload 5, 2) := by decide +kernel
theorem dX7_had_47 : decode cX7_had 47 = .ok (.iand, 1) := by decide +kernel
theorem dX7_had_48 : decode cX7_had 48 = .ok (.istore_n 3, 1) := by decide +kernel
theorem dX7_had_49 : decode cX7_had 49 = .ok (.iload 4, 2) := by decide +kernel
theorem dX7_had_51 : decode cX7_had 51 = .ok (.iload 5, 2) := by decide +kernel
theorem dX7_had_53 : decode cX7_had 53 = .ok (.ior, 1) := by decide +kernel
theorem dX7_had_54 : decode cX7_had 54 = .ok (.istore 4, 2) := by decide +kernel
theorem dX7_had_56 : decode cX7_had 56 = .ok (.iinc 5 1, 3) := by decide +kernel
theorem dX7_had_59 : decode cX7_had 59 = .ok (.goto (-34), 3) := by decide +kernel
theorem dX7_had_62 : decode cX7_had 62 = .ok (.iload_n 1, 1) := by decide +kernel
theorem dX7_had_63 : decode cX7_had 63 = .ok (.ifCond .ne 7, 3) := by decide +kernel
theorem dX7_had_66 : decode cX7_had 66 = .ok (.iload_n 2, 1) := by decide +kernel
theorem dX7_had_67 : decode cX7_had 67 = .ok (.goto 23, 3) := by decide +kernel
theorem dX7_had_70 : decode cX7_had 70 = .ok (.iload_n 1, 1) := by decide +kernel
theorem dX7_had_71 : decode cX7_had 71 = .ok (.iconst 2, 1) := by decide +kernel
theorem dX7_had_72 : decode cX7_had 72 = .ok (.if_icmp .ne 8, 3) := by decide +kernel
theorem dX7_had_75 : decode cX7_had 75 = .ok (.iload 4, 2) := by decide +kernel
theorem dX7_had_77 : decode cX7_had 77 = .ok (.goto 13, 3) := by decide +kernel
theorem dX7_had_80 : decode cX7_had 80 = .ok (.iload_n 2, 1) := by decide +kernel
theorem dX7_had_81 : decode cX7_had 81 = .ok (.ifCond .ne 8, 3) := by decide +kernel
theorem dX7_had_84 : decode cX7_had 84 = .ok (.bipush (-9), 2) := by decide +kernel
theorem dX7_had_86 : decode cX7_had 86 = .ok (.goto 4, 3) := by decide +kernel
theorem dX7_had_89 : decode cX7_had 89 = .ok (.iload_n 3, 1) := by decide +kernel
theorem dX7_had_90 : decode cX7_had 90 = .ok (.ireturn, 1) := by decide +kernel
theorem dX7_ask_0 : decode cX7_ask 0 = .ok (.aload_n 0, 1) := by decide +kernel
theorem dX7_ask_1 : decode cX7_ask 1 = .ok (.iload_n 1, 1) := by decide +kernel
theorem dX7_ask_2 : decode cX7_ask 2 = .ok (.invokevirtual 198, 3) := by decide +kernel
theorem dX7_ask_5 : decode cX7_ask 5 = .ok (.ifCond .ne 5, 3) := by decide +kernel
theorem dX7_ask_8 : decode cX7_ask 8 = .ok (.iconst (-1), 1) := by decide +kernel
theorem dX7_ask_9 : decode cX7_ask 9 = .ok (.ireturn, 1) := by decide +kernel
theorem dX7_ask_10 : decode cX7_ask 10 = .ok (.aload_n 0, 1) := by decide +kernel
theorem dX7_ask_11 : decode cX7_ask 11 = .ok (.iconst 0, 1) := by decide +kernel
theorem dX7_ask_12 : decode cX7_ask 12 = .ok (.invokevirtual 238, 3) := by decide +kernel
theorem dX7_ask_15 : decode cX7_ask 15 = .ok (.istore_n 2, 1) := by decide +kernel
theorem dX7_ask_16 : decode cX7_ask 16 = .ok (.bipush 65, 2) := by decide +kernel
theorem dX7_ask_18 : decode cX7_ask 18 = .ok (.istore_n 3, 1) := by decide +kernel
theorem dX7_ask_19 : decode cX7_ask 19 = .ok (.bipush (-9), 2) := by decide +kernel
theorem dX7_ask_21 : decode cX7_ask 21 = .ok (.istore 4, 2) := by decide +kernel
theorem dX7_ask_23 : decode cX7_ask 23 = .ok (.iconst 0, 1) := by decide +kernel
theorem dX7_ask_24 : decode cX7_ask 24 = .ok (.istore 5, 2) := by decide +kernel
theorem dX7_ask_26 : decode cX7_ask 26 = .ok (.iload 5, 2) := by decide +kernel
theorem dX7_ask_28 : decode cX7_ask 28 = .ok (.bipush 6, 2) := by decide +kernel
theorem dX7_ask_30 : decode cX7_ask 30 = .ok (.if_icmp .ge 117, 3) := by decide +kernel
theorem dX7_ask_33 : decode cX7_ask 33 = .ok (.iload_n 2, 1) := by decide +kernel
theorem dX7_ask_34 : decode cX7_ask 34 = .ok (.iconst 1, 1) := by decide +kernel
theorem dX7_ask_35 : decode cX7_ask 35 = .ok (.if_icmp .le 112, 3) := by decide +kernel
theorem dX7_ask_38 : decode cX7_ask 38 = .ok (.iconst 0, 1) := by decide +kernel
theorem dX7_ask_39 : decode cX7_ask 39 = .ok (.istore 6, 2) := by decide +kernel
theorem dX7_ask_41 : decode cX7_ask 41 = .ok (.iconst 0, 1) := by decide +kernel
theorem dX7_ask_42 : decode cX7_ask 42 = .ok (.istore 7, 2) := by decide +kernel
theorem dX7_ask_44 : decode cX7_ask 44 = .ok (.iload 7, 2) := by decide +kernel
theorem dX7_ask_46 : decode cX7_ask 46 = .ok (.bipush 64, 2) := by decide +kernel
theorem dX7_ask_48 : decode cX7_ask 48 = .ok (.if_icmp .ge 45, 3) := by decide +kernel
theorem dX7_ask_51 : decode cX7_ask 51 = .ok (.iload 6, 2) := by decide +kernel
theorem dX7_ask_53 : decode cX7_ask 53 = .ok (.aload_n 0, 1) := by decide +kernel
theorem dX7_ask_54 : decode cX7_ask 54 = .ok (.iload 7, 2) := by decide +kernel
theorem dX7_ask_56 : decode cX7_ask 56 = .ok (.invokevirtual 235, 3) := by decide +kernel
theorem dX7_ask_59 : decode cX7_ask 59 = .ok (.ifCond .eq 24, 3) := by decide +kernel
theorem dX7_ask_62 : decode cX7_ask 62 = .ok (.iload 7, 2) := by decide +kernel
theorem dX7_ask_64 : decode cX7_ask 64 = .ok (.aload_n 0, 1) := by decide +kernel
theorem dX7_ask_65 : decode cX7_ask 65 = .ok (.getfield 7, 3) := by decide +kernel
theorem dX7_ask_68 : decode cX7_ask 68 = .ok (.iload_n 1, 1) := by decide +kernel
theorem dX7_ask_69 : decode cX7_ask 69 = .ok (.iaload, 1) := by decide +kernel
theorem dX7_ask_70 : decode cX7_ask 70 = .ok (.iand, 1) := by decide +kernel
theorem dX7_ask_71 : decode cX7_ask 71 = .ok (.iload 5, 2) := by decide +kernel
theorem dX7_ask_73 : decode cX7_ask 73 = .ok (.invokestatic 69, 3) := by decide +kernel
theorem dX7_ask_76 : decode cX7_ask 76 = .ok (.ifCond .eq 7, 3) := by decide +kernel
theorem dX7_ask_79 : decode cX7_ask 79 = .ok (.iconst 1, 1) := by decide +kernel
theorem dX7_ask_80 : decode cX7_ask 80 = .ok (.goto 4, 3) := by decide +kernel
theorem dX7_ask_83 : decode cX7_ask 83 = .ok (.iconst 0, 1) := by decide +kernel
theorem dX7_ask_84 : decode cX7_ask 84 = .ok (.iadd, 1) := by decide +kernel
theorem dX7_ask_85 : decode cX7_ask 85 = .ok (.istore 6, 2) := by decide +kernel
theorem dX7_ask_87 : decode cX7_ask 87 = .ok (.iinc 7 1, 3) := by decide +kernel
theorem dX7_ask_90 : decode cX7_ask 90 = .ok (.goto (-46), 3) := by decide +kernel
theorem dX7_ask_93 : decode cX7_ask 93 = .ok (.iload 6, 2) := by decide +kernel
theorem dX7_ask_95 : decode cX7_ask 95 = .ok (.iload_n 2, 1) := by decide +kernel
theorem dX7_ask_96 : decode cX7_ask 96 = .ok (.iload 6, 2) := by decide +kernel
theorem dX7_ask_98 : decode cX7_ask 98 = .ok (.isub, 1) := by decide +kernel
theorem dX7_ask_99 : decode cX7_ask 99 = .ok (.if_icmp .le 8, 3) := by decide +kernel
theorem dX7_ask_102 : decode cX7_ask 102 = .ok (.iload 6, 2) := by decide +kernel
theorem dX7_ask_104 : decode cX7_ask 104 = .ok (.goto 7, 3) := by decide +kernel
theorem dX7_ask_107 : decode cX7_ask 107 = .ok (.iload_n 2, 1) := by decide +kernel
theorem dX7_ask_108 : decode cX7_ask 108 = .ok (.iload 6, 2) := by decide +kernel
theorem dX7_ask_110 : decode cX7_ask 110 = .ok (.isub, 1) := by decide +kernel
theorem dX7_ask_111 : decode cX7_ask 111 = .ok (.istore 7, 2) := by decide +kernel
theorem dX7_ask_113 : decode cX7_ask 113 = .ok (.iload 7, 2) := by decide +kernel
theorem dX7_ask_115 : decode cX7_ask 115 = .ok (.iload_n 3, 1) := by decide +kernel
theorem dX7_ask_116 : decode cX7_ask 116 = .ok (.if_icmp .ge 8, 3) := by decide +kernel
theorem dX7_ask_119 : decode cX7_ask 119 = .ok (.iload 5, 2) := by decide +kernel
theorem dX7_ask_121 : decode cX7_ask 121 = .ok (.goto 5, 3) := by decide +kernel
theorem dX7_ask_124 : decode cX7_ask 124 = .ok (.iload 4, 2) := by decide +kernel
theorem dX7_ask_126 : decode cX7_ask 126 = .ok (.istore 4, 2) := by decide +kernel
theorem dX7_ask_128 : decode cX7_ask 128 = .ok (.iload 7, 2) := by decide +kernel
theorem dX7_ask_130 : decode cX7_ask 130 = .ok (.iload_n 3, 1) := by decide +kernel
theorem dX7_ask_131 : decode cX7_ask 131 = .ok (.if_icmp .ge 8, 3) := by decide +kernel
theorem dX7_ask_134 : decode cX7_ask 134 = .ok (.iload 7, 2) := by decide +kernel
theorem dX7_ask_136 : decode cX7_ask 136 = .ok (.goto 4, 3) := by decide +kernel
theorem dX7_ask_139 : decode cX7_ask 139 = .ok (.iload_n 3, 1) := by decide +kernel
theorem dX7_ask_140 : decode cX7_ask 140 = .ok (.istore_n 3, 1) := by decide +kernel
theorem dX7_ask_141 : decode cX7_ask 141 = .ok (.iinc 5 1, 3) := by decide +kernel
theorem dX7_ask_144 : decode cX7_ask 144 = .ok (.goto (-118), 3) := by decide +kernel
theorem dX7_ask_147 : decode cX7_ask 147 = .ok (.iload 4, 2) := by decide +kernel
theorem dX7_ask_149 : decode cX7_ask 149 = .ok (.ireturn, 1) := by decide +kernel
theorem dX7_taleOf_0 : decode cX7_taleOf 0 = .ok (.iload_n 1, 1) := by decide +kernel
theorem dX7_taleOf_1 : decode cX7_taleOf 1 = .ok (.istore_n 3, 1) := by decide +kernel
theorem dX7_taleOf_2 : decode cX7_taleOf 2 = .ok (.iconst 0, 1) := by decide +kernel
theorem dX7_taleOf_3 : decode cX7_taleOf 3 = .ok (.istore 4, 2) := by decide +kernel
theorem dX7_taleOf_5 : decode cX7_taleOf 5 = .ok (.iload 4, 2) := by decide +kernel
theorem dX7_taleOf_7 : decode cX7_taleOf 7 = .ok (.iload_n 2, 1) := by decide +kernel
theorem dX7_taleOf_8 : decode cX7_taleOf 8 = .ok (.if_icmp .ge 27, 3) := by decide +kernel
theorem dX7_taleOf_11 : decode cX7_taleOf 11 = .ok (.aload_n 0, 1) := by decide +kernel
theorem dX7_taleOf_12 : decode cX7_taleOf 12 = .ok (.getfield 16, 3) := by decide +kernel
theorem dX7_taleOf_15 : decode cX7_taleOf 15 = .ok (.bipush 6, 2) := by decide +kernel
theorem dX7_taleOf_17 : decode cX7_taleOf 17 = .ok (.iload 4, 2) := by decide +kernel
theorem dX7_taleOf_19 : decode cX7_taleOf 19 = .ok (.aload_n 0, 1) := by decide +kernel
theorem dX7_taleOf_20 : decode cX7_taleOf 20 = .ok (.getfield 170, 3) := by decide +kernel
theorem dX7_taleOf_23 : decode cX7_taleOf 23 = .ok (.irem, 1) := by decide +kernel
theorem dX7_taleOf_24 : decode cX7_taleOf 24 = .ok (.imul, 1) := by decide +kernel
theorem dX7_taleOf_25 : decode cX7_taleOf 25 = .ok (.iload_n 3, 1) := by decide +kernel
theorem dX7_taleOf_26 : decode cX7_taleOf 26 = .ok (.iadd, 1) := by decide +kernel
theorem dX7_taleOf_27 : decode cX7_taleOf 27 = .ok (.iaload, 1) := by decide +kernel
theorem dX7_taleOf_28 : decode cX7_taleOf 28 = .ok (.istore_n 3, 1) := by decide +kernel
theorem dX7_taleOf_29 : decode cX7_taleOf 29 = .ok (.iinc 4 1, 3) := by decide +kernel
theorem dX7_taleOf_32 : decode cX7_taleOf 32 = .ok (.goto (-27), 3) := by decide +kernel
theorem dX7_taleOf_35 : decode cX7_taleOf 35 = .ok (.iload_n 3, 1) := by decide +kernel
theorem dX7_taleOf_36 : decode cX7_taleOf 36 = .ok (.ireturn, 1) := by decide +kernel
theorem dX7_isTold_0 : decode cX7_isTold 0 = .ok (.iload_n 1, 1) := by decide +kernel
theorem dX7_isTold_1 : decode cX7_isTold 1 = .ok (.ifCond .eq 10, 3) := by decide +kernel
theorem dX7_isTold_4 : decode cX7_isTold 4 = .ok (.aload_n 0, 1) := by decide +kernel
theorem dX7_isTold_5 : decode cX7_isTold 5 = .ok (.getfield 170, 3) := by decide +kernel
theorem dX7_isTold_8 : decode cX7_isTold 8 = .ok (.ifCond .le 7, 3) := by decide +kernel
theorem dX7_isTold_11 : decode cX7_isTold 11 = .ok (.iconst 1, 1) := by decide +kernel
theorem dX7_isTold_12 : decode cX7_isTold 12 = .ok (.goto 4, 3) := by decide +kernel
theorem dX7_isTold_15 : decode cX7_isTold 15 = .ok (.iconst 0, 1) := by decide +kernel
theorem dX7_isTold_16 : decode cX7_isTold 16 = .ok (.ireturn, 1) := by decide +kernel
theorem dX7_tale_0 : decode cX7_tale 0 = .ok (.iload_n 1, 1) := by decide +kernel
theorem dX7_tale_1 : decode cX7_tale 1 = .ok (.invokestatic 211, 3) := by decide +kernel
theorem dX7_tale_4 : decode cX7_tale 4 = .ok (.ifCond .eq 15, 3) := by decide +kernel
theorem dX7_tale_7 : decode cX7_tale 7 = .ok (.iload_n 2, 1) := by decide +kernel
theorem dX7_tale_8 : decode cX7_tale 8 = .ok (.i2l, 1) := by decide +kernel
theorem dX7_tale_9 : decode cX7_tale 9 = .ok (.lconst 0, 1) := by decide +kernel
theorem dX7_tale_10 : decode cX7_tale 10 = .ok (.ldc2_w 241, 3) := by decide +kernel
theorem dX7_tale_13 : decode cX7_tale 13 = .ok (.invokestatic 75, 3) := by decide +kernel
theorem dX7_tale_16 : decode cX7_tale 16 = .ok (.ifCond .ne 5, 3) := by decide +kernel
theorem dX7_tale_19 : decode cX7_tale 19 = .ok (.iconst (-1), 1) := by decide +kernel
theorem dX7_tale_20 : decode cX7_tale 20 = .ok (.ireturn, 1) := by decide +kernel
theorem dX7_tale_21 : decode cX7_tale 21 = .ok (.aload_n 0, 1) := by decide +kernel
theorem dX7_tale_22 : decode cX7_tale 22 = .ok (.iload_n 2, 1) := by decide +kernel
theorem dX7_tale_23 : decode cX7_tale 23 = .ok (.invokevirtual 243, 3) := by decide +kernel
theorem dX7_tale_26 : decode cX7_tale 26 = .ok (.ifCond .eq 12, 3) := by decide +kernel
theorem dX7_tale_29 : decode cX7_tale 29 = .ok (.aload_n 0, 1) := by decide +kernel
theorem dX7_tale_30 : decode cX7_tale 30 = .ok (.iload_n 1, 1) := by decide +kernel
theorem dX7_tale_31 : decode cX7_tale 31 = .ok (.iload_n 2, 1) := by decide +kernel
theorem dX7_tale_32 : decode cX7_tale 32 = .ok (.invokevirtual 246, 3) := by decide +kernel
theorem dX7_tale_35 : decode cX7_tale 35 = .ok (.goto 5, 3) := by decide +kernel
theorem dX7_tale_38 : decode cX7_tale 38 = .ok (.bipush (-9), 2) := by decide +kernel
theorem dX7_tale_40 : decode cX7_tale 40 = .ok (.ireturn, 1) := by decide +kernel
theorem dX7_first_0 : decode cX7_first 0 = .ok (.iload_n 1, 1) := by decide +kernel
theorem dX7_first_1 : decode cX7_first 1 = .ok (.invokestatic 211, 3) := by decide +kernel
theorem dX7_first_4 : decode cX7_first 4 = .ok (.ifCond .eq 15, 3) := by decide +kernel
theorem dX7_first_7 : decode cX7_first 7 = .ok (.iload_n 2, 1) := by decide +kernel
theorem dX7_first_8 : decode cX7_first 8 = .ok (.i2l, 1) := by decide +kernel
theorem dX7_first_9 : decode cX7_first 9 = .ok (.lconst 0, 1) := by decide +kernel
theorem dX7_first_10 : decode cX7_first 10 = .ok (.ldc2_w 241, 3) := by decide +kernel
theorem dX7_first_13 : decode cX7_first 13 = .ok (.invokestatic 75, 3) := by decide +kernel
theorem dX7_first_16 : decode cX7_first 16 = .ok (.ifCond .ne 5, 3) := by decide +kernel
theorem dX7_first_19 : decode cX7_first 19 = .ok (.iconst (-1), 1) := by decide +kernel
theorem dX7_first_20 : decode cX7_first 20 = .ok (.ireturn, 1) := by decide +kernel
theorem dX7_first_21 : decode cX7_first 21 = .ok (.iconst 0, 1) := by decide +kernel
theorem dX7_first_22 : decode cX7_first 22 = .ok (.istore_n 3, 1) := by decide +kernel
theorem dX7_first_23 : decode cX7_first 23 = .ok (.iconst 0, 1) := by decide +kernel
theorem dX7_first_24 : decode cX7_first 24 = .ok (.istore 4, 2) := by decide +kernel
theorem dX7_first_26 : decode cX7_first 26 = .ok (.iload 4, 2) := by decide +kernel
theorem dX7_first_28 : decode cX7_first 28 = .ok (.bipush 6, 2) := by decide +kernel
theorem dX7_first_30 : decode cX7_first 30 = .ok (.if_icmp .ge 39, 3) := by decide +kernel
theorem dX7_first_33 : decode cX7_first 33 = .ok (.aload_n 0, 1) := by decide +kernel
theorem dX7_first_34 : decode cX7_first 34 = .ok (.iload_n 2, 1) := by decide +kernel
theorem dX7_first_35 : decode cX7_first 35 = .ok (.invokevirtual 243, 3) := by decide +kernel
theorem dX7_first_38 : decode cX7_first 38 = .ok (.ifCond .eq 31, 3) := by decide +kernel
theorem dX7_first_41 : decode cX7_first 41 = .ok (.iload_n 3, 1) := by decide +kernel
theorem dX7_first_42 : decode cX7_first 42 = .ok (.aload_n 0, 1) := by decide +kernel
theorem dX7_first_43 : decode cX7_first 43 = .ok (.iload 4, 2) := by decide +kernel
theorem dX7_first_45 : decode cX7_first 45 = .ok (.iload_n 2, 1) := by decide +kernel
theorem dX7_first_46 : decode cX7_first 46 = .ok (.invokevirtual 246, 3) := by decide +kernel
theorem dX7_first_49 : decode cX7_first 49 = .ok (.iload_n 1, 1) := by decide +kernel
theorem dX7_first_50 : decode cX7_first 50 = .ok (.if_icmp .ne 10, 3) := by decide +kernel
theorem dX7_first_53 : decode cX7_first 53 = .ok (.iconst 1, 1) := by decide +kernel
theorem dX7_first_54 : decode cX7_first 54 = .ok (.iload 4, 2) := by decide +kernel
theorem dX7_first_56 : decode cX7_first 56 = .ok (.ishl, 1) := by decide +kernel
theorem dX7_first_57 : decode cX7_first 57 = .ok (.goto 4, 3) := by decide +kernel
theorem dX7_first_60 : decode cX7_first 60 = .ok (.iconst 0, 1) := by decide +kernel
theorem dX7_first_61 : decode cX7_first 61 = .ok (.ior, 1) := by decide +kernel
theorem dX7_first_62 : decode cX7_first 62 = .ok (.istore_n 3, 1) := by decide +kernel
theorem dX7_first_63 : decode cX7_first 63 = .ok (.iinc 4 1, 3) := by decide +kernel
theorem dX7_first_66 : decode cX7_first 66 = .ok (.goto (-40), 3) := by decide +kernel
theorem dX7_first_69 : decode cX7_first 69 = .ok (.iload_n 3, 1) := by decide +kernel
theorem dX7_first_70 : decode cX7_first 70 = .ok (.ireturn, 1) := by decide +kernel
theorem dX7_when_0 : decode cX7_when 0 = .ok (.iload_n 1, 1) := by decide +kernel
theorem dX7_when_1 : decode cX7_when 1 = .ok (.i2l, 1) := by decide +kernel
theorem dX7_when_2 : decode cX7_when 2 = .ok (.lconst 0, 1) := by decide +kernel
theorem dX7_when_3 : decode cX7_when 3 = .ok (.ldc2_w 249, 3) := by decide +kernel
theorem dX7_when_6 : decode cX7_when 6 = .ok (.invokestatic 75, 3) := by decide +kernel
theorem dX7_when_9 : decode cX7_when 9 = .ok (.ifCond .ne 5, 3) := by decide +kernel
theorem dX7_when_12 : decode cX7_when 12 = .ok (.iconst (-1), 1) := by decide +kernel
theorem dX7_when_13 : decode cX7_when 13 = .ok (.ireturn, 1) := by decide +kernel
theorem dX7_when_14 : decode cX7_when 14 = .ok (.iload_n 1, 1) := by decide +kernel
theorem dX7_when_15 : decode cX7_when 15 = .ok (.istore_n 2, 1) := by decide +kernel
theorem dX7_when_16 : decode cX7_when 16 = .ok (.iload_n 2, 1) := by decide +kernel
theorem dX7_when_17 : decode cX7_when 17 = .ok (.iload_n 1, 1) := by decide +kernel
theorem dX7_when_18 : decode cX7_when 18 = .ok (.sipush 1728, 3) := by decide +kernel
theorem dX7_when_21 : decode cX7_when 21 = .ok (.iadd, 1) := by decide +kernel
theorem dX7_when_22 : decode cX7_when 22 = .ok (.if_icmp .ge 64, 3) := by decide +kernel
theorem dX7_when_25 : decode cX7_when 25 = .ok (.iconst 1, 1) := by decide +kernel
theorem dX7_when_26 : decode cX7_when 26 = .ok (.istore_n 3, 1) := by decide +kernel
theorem dX7_when_27 : decode cX7_when 27 = .ok (.iconst 0, 1) := by decide +kernel
theorem dX7_when_28 : decode cX7_when 28 = .ok (.istore 4, 2) := by decide +kernel
theorem dX7_when_30 : decode cX7_when 30 = .ok (.iload 4, 2) := by decide +kernel
theorem dX7_when_32 : decode cX7_when 32 = .ok (.aload_n 0, 1) := by decide +kernel
theorem dX7_when_33 : decode cX7_when 33 = .ok (.getfield 173, 3) := by decide +kernel
theorem dX7_when_36 : decode cX7_when 36 = .ok (.if_icmp .ge 38, 3) := by decide +kernel
theorem dX7_when_39 : decode cX7_when 39 = .ok (.iload_n 3, 1) := by decide +kernel
theorem dX7_when_40 : decode cX7_when 40 = .ok (.ifCond .eq 26, 3) := by decide +kernel
theorem dX7_when_43 : decode cX7_when 43 = .ok (.iload_n 2, 1) := by decide +kernel
theorem dX7_when_44 : decode cX7_when 44 = .ok (.aload_n 0, 1) := by decide +kernel
theorem dX7_when_45 : decode cX7_when 45 = .ok (.getfield 19, 3) := by decide +kernel
theorem dX7_when_48 : decode cX7_when 48 = .ok (.iload 4, 2) := by decide +kernel
theorem dX7_when_50 : decode cX7_when 50 = .ok (.iaload, 1) := by decide +kernel
theorem dX7_when_51 : decode cX7_when 51 = .ok (.irem, 1) := by decide +kernel
theorem dX7_when_52 : decode cX7_when 52 = .ok (.aload_n 0, 1) := by decide +kernel
theorem dX7_when_53 : decode cX7_when 53 = .ok (.getfield 22, 3) := by decide +kernel
theorem dX7_when_56 : decode cX7_when 56 = .ok (.iload 4, 2) := by decide +kernel
theorem dX7_when_58 : decode cX7_when 58 = .ok (.iaload, 1) := by decide +kernel
theorem dX7_when_59 : decode cX7_when 59 = .ok (.if_icmp .ne 7, 3) := by decide +kernel
theorem dX7_when_62 : decode cX7_when 62 = .ok (.iconst 1, 1) := by decide +kernel
theorem dX7_when_63 : decode cX7_when 63 = .ok (.goto 4, 3) := by decide +kernel
theorem dX7_when_66 : decode cX7_when 66 = .ok (.iconst 0, 1) := by decide +kernel
theorem dX7_when_67 : decode cX7_when 67 = .ok (.istore_n 3, 1) := by decide +kernel
theorem dX7_when_68 : decode cX7_when 68 = .ok (.iinc 4 1, 3) := by decide +kernel
theorem dX7_when_71 : decode cX7_when 71 = .ok (.goto (-41), 3) := by decide +kernel
theorem dX7_when_74 : decode cX7_when 74 = .ok (.iload_n 3, 1) := by decide +kernel
theorem dX7_when_75 : decode cX7_when 75 = .ok (.ifCond .eq 5, 3) := by decide +kernel
theorem dX7_when_78 : decode cX7_when 78 = .ok (.iload_n 2, 1) := by decide +kernel
theorem dX7_when_79 : decode cX7_when 79 = .ok (.ireturn, 1) := by decide +kernel
theorem dX7_when_80 : decode cX7_when 80 = .ok (.iinc 2 1, 3) := by decide +kernel
theorem dX7_when_83 : decode cX7_when 83 = .ok (.goto (-67), 3) := by decide +kernel
theorem dX7_when_86 : decode cX7_when 86 = .ok (.bipush (-9), 2) := by decide +kernel
theorem dX7_when_88 : decode cX7_when 88 = .ok (.ireturn, 1) := by decide +kernel
theorem dX7_power_0 : decode cX7_power 0 = .ok (.lconst 1, 1) := by decide +kernel
theorem dX7_power_1 : decode cX7_power 1 = .ok (.lstore_n 3, 1) := by decide +kernel
theorem dX7_power_2 : decode cX7_power 2 = .ok (.iconst 0, 1) := by decide +kernel
theorem dX7_power_3 : decode cX7_power 3 = .ok (.istore 5, 2) := by decide +kernel
theorem dX7_power_5 : decode cX7_power 5 = .ok (.iload 5, 2) := by decide +kernel
theorem dX7_power_7 : decode cX7_power 7 = .ok (.iload_n 2, 1) := by decide +kernel
theorem dX7_power_8 : decode cX7_power 8 = .ok (.if_icmp .ge 13, 3) := by decide +kernel
theorem dX7_power_11 : decode cX7_power 11 = .ok (.lload_n 3, 1) := by decide +kernel
theorem dX7_power_12 : decode cX7_power 12 = .ok (.lload_n 0, 1) := by decide +kernel
theorem dX7_power_13 : decode cX7_power 13 = .ok (.lmul, 1) := by decide +kernel
theorem dX7_power_14 : decode cX7_power 14 = .ok (.lstore_n 3, 1) := by decide +kernel
theorem dX7_power_15 : decode cX7_power 15 = .ok (.iinc 5 1, 3) := by decide +kernel
theorem dX7_power_18 : decode cX7_power 18 = .ok (.goto (-13), 3) := by decide +kernel
theorem dX7_power_21 : decode cX7_power 21 = .ok (.lload_n 3, 1) := by decide +kernel
theorem dX7_power_22 : decode cX7_power 22 = .ok (.lreturn, 1) := by decide +kernel
theorem dX7_odds_0 : decode cX7_odds 0 = .ok (.iload_n 1, 1) := by decide +kernel
theorem dX7_odds_1 : decode cX7_odds 1 = .ok (.i2l, 1) := by decide +kernel
theorem dX7_odds_2 : decode cX7_odds 2 = .ok (.lconst 0, 1) := by decide +kernel
theorem dX7_odds_3 : decode cX7_odds 3 = .ok (.ldc2_w 251, 3) := by decide +kernel
theorem dX7_odds_6 : decode cX7_odds 6 = .ok (.invokestatic 75, 3) := by decide +kernel
theorem dX7_odds_9 : decode cX7_odds 9 = .ok (.ifCond .eq 35, 3) := by decide +kernel
theorem dX7_odds_12 : decode cX7_odds 12 = .ok (.iload_n 2, 1) := by decide +kernel
theorem dX7_odds_13 : decode cX7_odds 13 = .ok (.i2l, 1) := by decide +kernel
theorem dX7_odds_14 : decode cX7_odds 14 = .ok (.lconst 0, 1) := by decide +kernel
theorem dX7_odds_15 : decode cX7_odds 15 = .ok (.ldc2_w 253, 3) := by decide +kernel
theorem dX7_odds_18 : decode cX7_odds 18 = .ok (.invokestatic 75, 3) := by decide +kernel
theorem dX7_odds_21 : decode cX7_odds 21 = .ok (.ifCond .eq 23, 3) := by decide +kernel
theorem dX7_odds_24 : decode cX7_odds 24 = .ok (.iload_n 3, 1) := by decide +kernel
theorem dX7_odds_25 : decode cX7_odds 25 = .ok (.i2l, 1) := by decide +kernel
theorem dX7_odds_26 : decode cX7_odds 26 = .ok (.lconst 0, 1) := by decide +kernel
theorem dX7_odds_27 : decode cX7_odds 27 = .ok (.ldc2_w 253, 3) := by decide +kernel
theorem dX7_odds_30 : decode cX7_odds 30 = .ok (.invokestatic 75, 3) := by decide +kernel
theorem dX7_odds_33 : decode cX7_odds 33 = .ok (.ifCond .eq 11, 3) := by decide +kernel
theorem dX7_odds_36 : decode cX7_odds 36 = .ok (.iload 4, 2) := by decide +kernel
theorem dX7_odds_38 : decode cX7_odds 38 = .ok (.invokestatic 202, 3) := by decide +kernel
theorem dX7_odds_41 : decode cX7_odds 41 = .ok (.ifCond .ne 5, 3) := by decide +kernel
theorem dX7_odds_44 : decode cX7_odds 44 = .ok (.iconst (-1), 1) := by decide +kernel
theorem dX7_odds_45 : decode cX7_odds 45 = .ok (.ireturn, 1) := by decide +kernel
theorem dX7_odds_46 : decode cX7_odds 46 = .ok (.lconst 0, 1) := by decide +kernel
theorem dX7_odds_47 : decode cX7_odds 47 = .ok (.lstore 5, 2) := by decide +kernel
theorem dX7_odds_49 : decode cX7_odds 49 = .ok (.iconst 0, 1) := by decide +kernel
theorem dX7_odds_50 : decode cX7_odds 50 = .ok (.istore 7, 2) := by decide +kernel
theorem dX7_odds_52 : decode cX7_odds 52 = .ok (.iload 7, 2) := by decide +kernel
theorem dX7_odds_54 : decode cX7_odds 54 = .ok (.iconst 1, 1) := by decide +kernel
theorem dX7_odds_55 : decode cX7_odds 55 = .ok (.iload_n 2, 1) := by decide +kernel
theorem dX7_odds_56 : decode cX7_odds 56 = .ok (.ishl, 1) := by decide +kernel
theorem dX7_odds_57 : decode cX7_odds 57 = .ok (.if_icmp .ge 51, 3) := by decide +kernel
theorem dX7_odds_60 : decode cX7_odds 60 = .ok (.iload 7, 2) := by decide +kernel
theorem dX7_odds_62 : decode cX7_odds 62 = .ok (.invokestatic 195, 3) := by decide +kernel
theorem dX7_odds_65 : decode cX7_odds 65 = .ok (.istore 8, 2) := by decide +kernel
theorem dX7_odds_67 : decode cX7_odds 67 = .ok (.lload 5, 2) := by decide +kernel
theorem dX7_odds_69 : decode cX7_odds 69 = .ok (.iload 8, 2) := by decide +kernel
theorem dX7_odds_71 : decode cX7_odds 71 = .ok (.iload_n 3, 1) := by decide +kernel
theorem dX7_odds_72 : decode cX7_odds 72 = .ok (.if_icmp .lt 26, 3) := by decide +kernel
theorem dX7_odds_75 : decode cX7_odds 75 = .ok (.iload_n 1, 1) := by decide +kernel
theorem dX7_odds_76 : decode cX7_odds 76 = .ok (.i2l, 1) := by decide +kernel
theorem dX7_odds_77 : decode cX7_odds 77 = .ok (.iload 8, 2) := by decide +kernel
theorem dX7_odds_79 : decode cX7_odds 79 = .ok (.invokestatic 255, 3) := by decide +kernel
theorem dX7_odds_82 : decode cX7_odds 82 = .ok (.bipush 10, 2) := by decide +kernel
theorem dX7_odds_84 : decode cX7_odds 84 = .ok (.iload_n 1, 1) := by decide +kernel
theorem dX7_odds_85 : decode cX7_odds 85 = .ok (.isub, 1) := by decide +kernel
theorem dX7_odds_86 : decode cX7_odds 86 = .ok (.i2l, 1) := by decide +kernel
theorem dX7_odds_87 : decode cX7_odds 87 = .ok (.iload_n 2, 1) := by decide +kernel
theorem dX7_odds_88 : decode cX7_odds 88 = .ok (.iload 8, 2) := by decide +kernel
theorem dX7_odds_90 : decode cX7_odds 90 = .ok (.isub, 1) := by decide +kernel
theorem dX7_odds_91 : decode cX7_odds 91 = .ok (.invokestatic 255, 3) := by decide +kernel
theorem dX7_odds_94 : decode cX7_odds 94 = .ok (.lmul, 1) := by decide +kernel
theorem dX7_odds_95 : decode cX7_odds 95 = .ok (.goto 4, 3) := by decide +kernel
theorem dX7_odds_98 : decode cX7_odds 98 = .ok (.lconst 0, 1) := by decide +kernel
theorem dX7_odds_99 : decode cX7_odds 99 = .ok (.ladd, 1) := by decide +kernel
theorem dX7_odds_100 : decode cX7_odds 100 = .ok (.lstore 5, 2) := by decide +kernel
theorem dX7_odds_102 : decode cX7_odds 102 = .ok (.iinc 7 1, 3) := by decide +kernel
theorem dX7_odds_105 : decode cX7_odds 105 = .ok (.goto (-53), 3) := by decide +kernel
theorem dX7_odds_108 : decode cX7_odds 108 = .ok (.ldc2_w 251, 3) := by decide +kernel
theorem dX7_odds_111 : decode cX7_odds 111 = .ok (.iload_n 2, 1) := by decide +kernel
theorem dX7_odds_112 : decode cX7_odds 112 = .ok (.invokestatic 255, 3) := by decide +kernel
theorem dX7_odds_115 : decode cX7_odds 115 = .ok (.lstore 7, 2) := by decide +kernel
theorem dX7_odds_117 : decode cX7_odds 117 = .ok (.lload 5, 2) := by decide +kernel
theorem dX7_odds_119 : decode cX7_odds 119 = .ok (.lstore 9, 2) := by decide +kernel
theorem dX7_odds_121 : decode cX7_odds 121 = .ok (.lload 7, 2) := by decide +kernel
theorem dX7_odds_123 : decode cX7_odds 123 = .ok (.lstore 11, 2) := by decide +kernel
theorem dX7_odds_125 : decode cX7_odds 125 = .ok (.lload 11, 2) := by decide +kernel
theorem dX7_odds_127 : decode cX7_odds 127 = .ok (.lconst 0, 1) := by decide +kernel
theorem dX7_odds_128 : decode cX7_odds 128 = .ok (.lcmp, 1) := by decide +kernel
theorem dX7_odds_129 : decode cX7_odds 129 = .ok (.ifCond .eq 21, 3) := by decide +kernel
theorem dX7_odds_132 : decode cX7_odds 132 = .ok (.lload 9, 2) := by decide +kernel
theorem dX7_odds_134 : decode cX7_odds 134 = .ok (.lload 11, 2) := by decide +kernel
theorem dX7_odds_136 : decode cX7_odds 136 = .ok (.lrem, 1) := by decide +kernel
theorem dX7_odds_137 : decode cX7_odds 137 = .ok (.lstore 13, 2) := by decide +kernel
theorem dX7_odds_139 : decode cX7_odds 139 = .ok (.lload 11, 2) := by decide +kernel
theorem dX7_odds_141 : decode cX7_odds 141 = .ok (.lstore 9, 2) := by decide +kernel
theorem dX7_odds_143 : decode cX7_odds 143 = .ok (.lload 13, 2) := by decide +kernel
theorem dX7_odds_145 : decode cX7_odds 145 = .ok (.lstore 11, 2) := by decide +kernel
theorem dX7_odds_147 : decode cX7_odds 147 = .ok (.goto (-22), 3) := by decide +kernel
theorem dX7_odds_150 : decode cX7_odds 150 = .ok (.iload 4, 2) := by decide +kernel
theorem dX7_odds_152 : decode cX7_odds 152 = .ok (.ifCond .ne 8, 3) := by decide +kernel
theorem dX7_odds_155 : decode cX7_odds 155 = .ok (.lload 5, 2) := by decide +kernel
theorem dX7_odds_157 : decode cX7_odds 157 = .ok (.goto 5, 3) := by decide +kernel
theorem dX7_odds_160 : decode cX7_odds 160 = .ok (.lload 7, 2) := by decide +kernel
theorem dX7_odds_162 : decode cX7_odds 162 = .ok (.lload 9, 2) := by decide +kernel
theorem dX7_odds_164 : decode cX7_odds 164 = .ok (.ldiv, 1) := by decide +kernel
theorem dX7_odds_165 : decode cX7_odds 165 = .ok (.l2i, 1) := by decide +kernel
theorem dX7_odds_166 : decode cX7_odds 166 = .ok (.ireturn, 1) := by decide +kernel
theorem dX7_asGoer_0 : decode cX7_asGoer 0 = .ok (.aload_n 0, 1) := by decide +kernel
theorem dX7_asGoer_1 : decode cX7_asGoer 1 = .ok (.dup, 1) := by decide +kernel
theorem dX7_asGoer_2 : decode cX7_asGoer 2 = .ok (.getfield 259, 3) := by decide +kernel
theorem dX7_asGoer_5 : decode cX7_asGoer 5 = .ok (.lconst 1, 1) := by decide +kernel
theorem dX7_asGoer_6 : decode cX7_asGoer 6 = .ok (.ladd, 1) := by decide +kernel
theorem dX7_asGoer_7 : decode cX7_asGoer 7 = .ok (.putfield 259, 3) := by decide +kernel
theorem dX7_asGoer_10 : decode cX7_asGoer 10 = .ok (.aload_n 0, 1) := by decide +kernel
theorem dX7_asGoer_11 : decode cX7_asGoer 11 = .ok (.getfield 13, 3) := by decide +kernel
theorem dX7_asGoer_14 : decode cX7_asGoer 14 = .ok (.iload_n 1, 1) := by decide +kernel
theorem dX7_asGoer_15 : decode cX7_asGoer 15 = .ok (.iaload, 1) := by decide +kernel
theorem dX7_asGoer_16 : decode cX7_asGoer 16 = .ok (.invokestatic 195, 3) := by decide +kernel
theorem dX7_asGoer_19 : decode cX7_asGoer 19 = .ok (.ireturn, 1) := by decide +kernel
theorem dX7_asGent_0 : decode cX7_asGent 0 = .ok (.aload_n 0, 1) := by decide +kernel
theorem dX7_asGent_1 : decode cX7_asGent 1 = .ok (.dup, 1) := by decide +kernel
theorem dX7_asGent_2 : decode cX7_asGent 2 = .ok (.getfield 259, 3) := by decide +kernel
theorem dX7_asGent_5 : decode cX7_asGent 5 = .ok (.ldc2_w 251, 3) := by decide +kernel
theorem dX7_asGent_8 : decode cX7_asGent 8 = .ok (.ladd, 1) := by decide +kernel
theorem dX7_asGent_9 : decode cX7_asGent 9 = .ok (.putfield 259, 3) := by decide +kernel
theorem dX7_asGent_12 : decode cX7_asGent 12 = .ok (.aload_n 0, 1) := by decide +kernel
theorem dX7_asGent_13 : decode cX7_asGent 13 = .ok (.iload_n 1, 1) := by decide +kernel
theorem dX7_asGent_14 : decode cX7_asGent 14 = .ok (.invokevirtual 263, 3) := by decide +kernel
theorem dX7_asGent_17 : decode cX7_asGent 17 = .ok (.aload_n 0, 1) := by decide +kernel
theorem dX7_asGent_18 : decode cX7_asGent 18 = .ok (.getfield 29, 3) := by decide +kernel
theorem dX7_asGent_21 : decode cX7_asGent 21 = .ok (.bipush 15, 2) := by decide +kernel
theorem dX7_asGent_23 : decode cX7_asGent 23 = .ok (.iload_n 1, 1) := by decide +kernel
theorem dX7_asGent_24 : decode cX7_asGent 24 = .ok (.iadd, 1) := by decide +kernel
theorem dX7_asGent_25 : decode cX7_asGent 25 = .ok (.iaload, 1) := by decide +kernel
theorem dX7_asGent_26 : decode cX7_asGent 26 = .ok (.iadd, 1) := by decide +kernel
theorem dX7_asGent_27 : decode cX7_asGent 27 = .ok (.ireturn, 1) := by decide +kernel
theorem dX7_asDoctor_0 : decode cX7_asDoctor 0 = .ok (.aload_n 0, 1) := by decide +kernel
theorem dX7_asDoctor_1 : decode cX7_asDoctor 1 = .ok (.dup, 1) := by decide +kernel
theorem dX7_asDoctor_2 : decode cX7_asDoctor 2 = .ok (.getfield 259, 3) := by decide +kernel
theorem dX7_asDoctor_5 : decode cX7_asDoctor 5 = .ok (.ldc2_w 266, 3) := by decide +kernel
theorem dX7_asDoctor_8 : decode cX7_asDoctor 8 = .ok (.ladd, 1) := by decide +kernel
theorem dX7_asDoctor_9 : decode cX7_asDoctor 9 = .ok (.putfield 259, 3) := by decide +kernel
theorem dX7_asDoctor_12 : decode cX7_asDoctor 12 = .ok (.aload_n 0, 1) := by decide +kernel
theorem dX7_asDoctor_13 : decode cX7_asDoctor 13 = .ok (.iload_n 1, 1) := by decide +kernel
theorem dX7_asDoctor_14 : decode cX7_asDoctor 14 = .ok (.invokevirtual 263, 3) := by decide +kernel
theorem dX7_asDoctor_17 : decode cX7_asDoctor 17 = .ok (.aload_n 0, 1) := by decide +kernel
theorem dX7_asDoctor_18 : decode cX7_asDoctor 18 = .ok (.iload_n 1, 1) := by decide +kernel
theorem dX7_asDoctor_19 : decode cX7_asDoctor 19 = .ok (.invokevirtual 208, 3) := by decide +kernel
theorem dX7_asDoctor_22 : decode cX7_asDoctor 22 = .ok (.invokestatic 195, 3) := by decide +kernel
theorem dX7_asDoctor_25 : decode cX7_asDoctor 25 = .ok (.isub, 1) := by decide +kernel
theorem dX7_asDoctor_26 : decode cX7_asDoctor 26 = .ok (.ireturn, 1) := by decide +kernel
theorem dX7_rate_0 : decode cX7_rate 0 = .ok (.aload_n 0, 1) := by decide +kernel
theorem dX7_rate_1 : decode cX7_rate 1 = .ok (.iload_n 2, 1) := by decide +kernel
theorem dX7_rate_2 : decode cX7_rate 2 = .ok (.invokevirtual 205, 3) := by decide +kernel
theorem dX7_rate_5 : decode cX7_rate 5 = .ok (.ifCond .ne 7, 3) := by decide +kernel
theorem dX7_rate_8 : decode cX7_rate 8 = .ok (.ldc_w 268, 3) := by decide +kernel
theorem dX7_rate_11 : decode cX7_rate 11 = .ok (.ireturn, 1) := by decide +kernel
theorem dX7_rate_12 : decode cX7_rate 12 = .ok (.iload_n 1, 1) := by decide +kernel
theorem dX7_rate_13 : decode cX7_rate 13 = .ok (.tableswitch 122 0 5 #[39, 45, 51, 57, 77, 97], 39) := by decide +kernel
theorem dX7_rate_52 : decode cX7_rate 52 = .ok (.aload_n 0, 1) := by decide +kernel
theorem dX7_rate_53 : decode cX7_rate 53 = .ok (.iload_n 2, 1) := by decide +kernel
theorem dX7_rate_54 : decode cX7_rate 54 = .ok (.invokevirtual 263, 3) := by decide +kernel
theorem dX7_rate_57 : decode cX7_rate 57 = .ok (.ireturn, 1) := by decide +kernel
theorem dX7_rate_58 : decode cX7_rate 58 = .ok (.aload_n 0, 1) := by decide +kernel
theorem dX7_rate_59 : decode cX7_rate 59 = .ok (.iload_n 2, 1) := by decide +kernel
theorem dX7_rate_60 : decode cX7_rate 60 = .ok (.invokevirtual 269, 3) := by decide +kernel
theorem dX7_rate_63 : decode cX7_rate 63 = .ok (.ireturn, 1) := by decide +kernel
theorem dX7_rate_64 : decode cX7_rate 64 = .ok (.aload_n 0, 1) := by decide +kernel
theorem dX7_rate_65 : decode cX7_rate 65 = .ok (.iload_n 2, 1) := by decide +kernel
theorem dX7_rate_66 : decode cX7_rate 66 = .ok (.invokevirtual 272, 3) := by decide +kernel
theorem dX7_rate_69 : decode cX7_rate 69 = .ok (.ireturn, 1) := by decide +kernel
theorem dX7_rate_70 : decode cX7_rate 70 = .ok (.aload_n 0, 1) := by decide +kernel
theorem dX7_rate_71 : decode cX7_rate 71 = .ok (.dup, 1) := by decide +kernel
theorem dX7_rate_72 : decode cX7_rate 72 = .ok (.getfield 259, 3) := by decide +kernel
theorem dX7_rate_75 : decode cX7_rate 75 = .ok (.ldc2_w 275, 3) := by decide +kernel
theorem dX7_rate_78 : decode cX7_rate 78 = .ok (.ladd, 1) := by decide +kernel
theorem dX7_rate_79 : decode cX7_rate 79 = .ok (.putfield 259, 3) := by decide +kernel
theorem dX7_rate_82 : decode cX7_rate 82 = .ok (.iconst 2, 1) := by decide +kernel
theorem dX7_rate_83 : decode cX7_rate 83 = .ok (.aload_n 0, 1) := by decide +kernel
theorem dX7_rate_84 : decode cX7_rate 84 = .ok (.iload_n 2, 1) := by decide +kernel
theorem dX7_rate_85 : decode cX7_rate 85 = .ok (.invokevirtual 269, 3) := by decide +kernel
theorem dX7_rate_88 : decode cX7_rate 88 = .ok (.imul, 1) := by decide +kernel
theorem dX7_rate_89 : decode cX7_rate 89 = .ok (.ireturn, 1) := by decide +kernel
theorem dX7_rate_90 : decode cX7_rate 90 = .ok (.aload_n 0, 1) := by decide +kernel
theorem dX7_rate_91 : decode cX7_rate 91 = .ok (.dup, 1) := by decide +kernel
theorem dX7_rate_92 : decode cX7_rate 92 = .ok (.getfield 259, 3) := by decide +kernel
theorem dX7_rate_95 : decode cX7_rate 95 = .ok (.ldc2_w 277, 3) := by decide +kernel
theorem dX7_rate_98 : decode cX7_rate 98 = .ok (.ladd, 1) := by decide +kernel
theorem dX7_rate_99 : decode cX7_rate 99 = .ok (.putfield 259, 3) := by decide +kernel
theorem dX7_rate_102 : decode cX7_rate 102 = .ok (.aload_n 0, 1) := by decide +kernel
theorem dX7_rate_103 : decode cX7_rate 103 = .ok (.iload_n 2, 1) := by decide +kernel
theorem dX7_rate_104 : decode cX7_rate 104 = .ok (.invokevirtual 272, 3) := by decide +kernel
theorem dX7_rate_107 : decode cX7_rate 107 = .ok (.iload_n 2, 1) := by decide +kernel
theorem dX7_rate_108 : decode cX7_rate 108 = .ok (.iadd, 1) := by decide +kernel
theorem dX7_rate_109 : decode cX7_rate 109 = .ok (.ireturn, 1) := by decide +kernel
theorem dX7_rate_110 : decode cX7_rate 110 = .ok (.aload_n 0, 1) := by decide +kernel
theorem dX7_rate_111 : decode cX7_rate 111 = .ok (.dup, 1) := by decide +kernel
theorem dX7_rate_112 : decode cX7_rate 112 = .ok (.getfield 259, 3) := by decide +kernel
theorem dX7_rate_115 : decode cX7_rate 115 = .ok (.ldc2_w 279, 3) := by decide +kernel
theorem dX7_rate_118 : decode cX7_rate 118 = .ok (.ladd, 1) := by decide +kernel
theorem dX7_rate_119 : decode cX7_rate 119 = .ok (.putfield 259, 3) := by decide +kernel
theorem dX7_rate_122 : decode cX7_rate 122 = .ok (.aload_n 0, 1) := by decide +kernel
theorem dX7_rate_123 : decode cX7_rate 123 = .ok (.iload_n 2, 1) := by decide +kernel
theorem dX7_rate_124 : decode cX7_rate 124 = .ok (.invokevirtual 263, 3) := by decide +kernel
theorem dX7_rate_127 : decode cX7_rate 127 = .ok (.aload_n 0, 1) := by decide +kernel
theorem dX7_rate_128 : decode cX7_rate 128 = .ok (.getfield 29, 3) := by decide +kernel
theorem dX7_rate_131 : decode cX7_rate 131 = .ok (.iconst 2, 1) := by decide +kernel
theorem dX7_rate_132 : decode cX7_rate 132 = .ok (.iaload, 1) := by decide +kernel
theorem dX7_rate_133 : decode cX7_rate 133 = .ok (.iadd, 1) := by decide +kernel
theorem dX7_rate_134 : decode cX7_rate 134 = .ok (.ireturn, 1) := by decide +kernel
theorem dX7_rate_135 : decode cX7_rate 135 = .ok (.ldc_w 268, 3) := by decide +kernel
theorem dX7_rate_138 : decode cX7_rate 138 = .ok (.ireturn, 1) := by decide +kernel
theorem dX7_keep_0 : decode cX7_keep 0 = .ok (.iload_n 1, 1) := by decide +kernel
theorem dX7_keep_1 : decode cX7_keep 1 = .ok (.invokestatic 202, 3) := by decide +kernel
theorem dX7_keep_4 : decode cX7_keep 4 = .ok (.ifCond .ne 5, 3) := by decide +kernel
theorem dX7_keep_7 : decode cX7_keep 7 = .ok (.iconst (-1), 1) := by decide +kernel
theorem dX7_keep_8 : decode cX7_keep 8 = .ok (.ireturn, 1) := by decide +kernel
theorem dX7_keep_9 : decode cX7_keep 9 = .ok (.aload_n 0, 1) := by decide +kernel
theorem dX7_keep_10 : decode cX7_keep 10 = .ok (.getfield 29, 3) := by decide +kernel
theorem dX7_keep_13 : decode cX7_keep 13 = .ok (.iconst 0, 1) := by decide +kernel
theorem dX7_keep_14 : decode cX7_keep 14 = .ok (.aload_n 0, 1) := by decide +kernel
theorem dX7_keep_15 : decode cX7_keep 15 = .ok (.getfield 35, 3) := by decide +kernel
theorem dX7_keep_18 : decode cX7_keep 18 = .ok (.bipush 21, 2) := by decide +kernel
theorem dX7_keep_20 : decode cX7_keep 20 = .ok (.iload_n 1, 1) := by decide +kernel
theorem dX7_keep_21 : decode cX7_keep 21 = .ok (.imul, 1) := by decide +kernel
theorem dX7_keep_22 : decode cX7_keep 22 = .ok (.bipush 21, 2) := by decide +kernel
theorem dX7_keep_24 : decode cX7_keep 24 = .ok (.invokestatic 176, 3) := by decide +kernel
theorem dX7_keep_27 : decode cX7_keep 27 = .ok (.aload_n 0, 1) := by decide +kernel
theorem dX7_keep_28 : decode cX7_keep 28 = .ok (.getfield 38, 3) := by decide +kernel
theorem dX7_keep_31 : decode cX7_keep 31 = .ok (.iload_n 1, 1) := by decide +kernel
theorem dX7_keep_32 : decode cX7_keep 32 = .ok (.iconst 1, 1) := by decide +kernel
theorem dX7_keep_33 : decode cX7_keep 33 = .ok (.bastore, 1) := by decide +kernel
theorem dX7_keep_34 : decode cX7_keep 34 = .ok (.aload_n 0, 1) := by decide +kernel
theorem dX7_keep_35 : decode cX7_keep 35 = .ok (.getfield 29, 3) := by decide +kernel
theorem dX7_keep_38 : decode cX7_keep 38 = .ok (.iconst 0, 1) := by decide +kernel
theorem dX7_keep_39 : decode cX7_keep 39 = .ok (.iaload, 1) := by decide +kernel
theorem dX7_keep_40 : decode cX7_keep 40 = .ok (.ireturn, 1) := by decide +kernel
theorem dX7_back_0 : decode cX7_back 0 = .ok (.iload_n 1, 1) := by decide +kernel
theorem dX7_back_1 : decode cX7_back 1 = .ok (.invokestatic 202, 3) := by decide +kernel
theorem dX7_back_4 : decode cX7_back 4 = .ok (.ifCond .ne 5, 3) := by decide +kernel
theorem dX7_back_7 : decode cX7_back 7 = .ok (.iconst (-1), 1) := by decide +kernel
theorem dX7_back_8 : decode cX7_back 8 = .ok (.ireturn, 1) := by decide +kernel
theorem dX7_back_9 : decode cX7_back 9 = .ok (.aload_n 0, 1) := by decide +kernel
theorem dX7_back_10 : decode cX7_back 10 = .ok (.getfield 38, 3) := by decide +kernel
theorem dX7_back_13 : decode cX7_back 13 = .ok (.iload_n 1, 1) := by decide +kernel
theorem dX7_back_14 : decode cX7_back 14 = .ok (.baload, 1) := by decide +kernel
theorem dX7_back_15 : decode cX7_back 15 = .ok (.ifCond .ne 6, 3) := by decide +kernel
theorem dX7_back_18 : decode cX7_back 18 = .ok (.bipush (-2), 2) := by decide +kernel
theorem dX7_back_20 : decode cX7_back 20 = .ok (.ireturn, 1) := by decide +kernel
theorem dX7_back_21 : decode cX7_back 21 = .ok (.aload_n 0, 1) := by decide +kernel
theorem dX7_back_22 : decode cX7_back 22 = .ok (.getfield 35, 3) := by decide +kernel
theorem dX7_back_25 : decode cX7_back 25 = .ok (.bipush 21, 2) := by decide +kernel
theorem dX7_back_27 : decode cX7_back 27 = .ok (.iload_n 1, 1) := by decide +kernel
theorem dX7_back_28 : decode cX7_back 28 = .ok (.imul, 1) := by decide +kernel
theorem dX7_back_29 : decode cX7_back 29 = .ok (.aload_n 0, 1) := by decide +kernel
theorem dX7_back_30 : decode cX7_back 30 = .ok (.getfield 29, 3) := by decide +kernel
theorem dX7_back_33 : decode cX7_back 33 = .ok (.iconst 0, 1) := by decide +kernel
theorem dX7_back_34 : decode cX7_back 34 = .ok (.bipush 21, 2) := by decide +kernel
theorem dX7_back_36 : decode cX7_back 36 = .ok (.invokestatic 176, 3) := by decide +kernel
theorem dX7_back_39 : decode cX7_back 39 = .ok (.aload_n 0, 1) := by decide +kernel
theorem dX7_back_40 : decode cX7_back 40 = .ok (.iconst 0, 1) := by decide +kernel
theorem dX7_back_41 : decode cX7_back 41 = .ok (.putfield 180, 3) := by decide +kernel
theorem dX7_back_44 : decode cX7_back 44 = .ok (.aload_n 0, 1) := by decide +kernel
theorem dX7_back_45 : decode cX7_back 45 = .ok (.getfield 29, 3) := by decide +kernel
theorem dX7_back_48 : decode cX7_back 48 = .ok (.iconst 0, 1) := by decide +kernel
theorem dX7_back_49 : decode cX7_back 49 = .ok (.iaload, 1) := by decide +kernel
theorem dX7_back_50 : decode cX7_back 50 = .ok (.ireturn, 1) := by decide +kernel
theorem dX7_count_0 : decode cX7_count 0 = .ok (.iload_n 1, 1) := by decide +kernel
theorem dX7_count_1 : decode cX7_count 1 = .ok (.tableswitch 78 0 6 #[43, 48, 53, 58, 63, 68, 73], 43) := by decide +kernel
theorem dX7_count_44 : decode cX7_count 44 = .ok (.aload_n 0, 1) := by decide +kernel
theorem dX7_count_45 : decode cX7_count 45 = .ok (.getfield 164, 3) := by decide +kernel
theorem dX7_count_48 : decode cX7_count 48 = .ok (.ireturn, 1) := by decide +kernel
theorem dX7_count_49 : decode cX7_count 49 = .ok (.aload_n 0, 1) := by decide +kernel
theorem dX7_count_50 : decode cX7_count 50 = .ok (.getfield 167, 3) := by decide +kernel
theorem dX7_count_53 : decode cX7_count 53 = .ok (.ireturn, 1) := by decide +kernel
theorem dX7_count_54 : decode cX7_count 54 = .ok (.aload_n 0, 1) := by decide +kernel
theorem dX7_count_55 : decode cX7_count 55 = .ok (.getfield 170, 3) := by decide +kernel
theorem dX7_count_58 : decode cX7_count 58 = .ok (.ireturn, 1) := by decide +kernel
theorem dX7_count_59 : decode cX7_count 59 = .ok (.aload_n 0, 1) := by decide +kernel
theorem dX7_count_60 : decode cX7_count 60 = .ok (.getfield 173, 3) := by decide +kernel
theorem dX7_count_63 : decode cX7_count 63 = .ok (.ireturn, 1) := by decide +kernel
theorem dX7_count_64 : decode cX7_count 64 = .ok (.aload_n 0, 1) := by decide +kernel
theorem dX7_count_65 : decode cX7_count 65 = .ok (.getfield 25, 3) := by decide +kernel
theorem dX7_count_68 : decode cX7_count 68 = .ok (.ireturn, 1) := by decide +kernel
theorem dX7_count_69 : decode cX7_count 69 = .ok (.aload_n 0, 1) := by decide +kernel
theorem dX7_count_70 : decode cX7_count 70 = .ok (.getfield 183, 3) := by decide +kernel
theorem dX7_count_73 : decode cX7_count 73 = .ok (.ireturn, 1) := by decide +kernel
theorem dX7_count_74 : decode cX7_count 74 = .ok (.aload_n 0, 1) := by decide +kernel
theorem dX7_count_75 : decode cX7_count 75 = .ok (.getfield 79, 3) := by decide +kernel
theorem dX7_count_78 : decode cX7_count 78 = .ok (.ireturn, 1) := by decide +kernel
theorem dX7_count_79 : decode cX7_count 79 = .ok (.iconst (-1), 1) := by decide +kernel
theorem dX7_count_80 : decode cX7_count 80 = .ok (.ireturn, 1) := by decide +kernel
theorem dX7_trace_0 : decode cX7_trace 0 = .ok (.aload_n 0, 1) := by decide +kernel
theorem dX7_trace_1 : decode cX7_trace 1 = .ok (.getfield 259, 3) := by decide +kernel
theorem dX7_trace_4 : decode cX7_trace 4 = .ok (.lreturn, 1) := by decide +kernel
end
section
theorem dL_law_0 : decode cL_law 0 = .ok (.new 7, 3) := by decide +kernel
theorem dL_law_3 : decode cL_law 3 = .ok (.dup, 1) := by decide +kernel
theorem dL_law_4 : decode cL_law 4 = .ok (.invokespecial 9, 3) := by decide +kernel
theorem dL_law_7 : decode cL_law 7 = .ok (.astore_n 1, 1) := by decide +kernel
theorem dL_law_8 : decode cL_law 8 = .ok (.new 10, 3) := by decide +kernel
theorem dL_law_11 : decode cL_law 11 = .ok (.dup, 1) := by decide +kernel
theorem dL_law_12 : decode cL_law 12 = .ok (.invokespecial 12, 3) := by decide +kernel
theorem dL_law_15 : decode cL_law 15 = .ok (.astore_n 2, 1) := by decide +kernel
theorem dL_law_16 : decode cL_law 16 = .ok (.iconst 0, 1) := by decide +kernel
theorem dL_law_17 : decode cL_law 17 = .ok (.istore_n 3, 1) := by decide +kernel
theorem dL_law_18 : decode cL_law 18 = .ok (.iload_n 3, 1) := by decide +kernel
theorem dL_law_19 : decode cL_law 19 = .ok (.aload_n 0, 1) := by decide +kernel
theorem dL_law_20 : decode cL_law 20 = .ok (.arraylength, 1) := by decide +kernel
theorem dL_law_21 : decode cL_law 21 = .ok (.iconst 5, 1) := by decide +kernel
theorem dL_law_22 : decode cL_law 22 = .ok (.isub, 1) := by decide +kernel
theorem dL_law_23 : decode cL_law 23 = .ok (.if_icmp .gt 814, 3) := by decide +kernel
theorem dL_law_26 : decode cL_law 26 = .ok (.aload_n 0, 1) := by decide +kernel
theorem dL_law_27 : decode cL_law 27 = .ok (.iload_n 3, 1) := by decide +kernel
theorem dL_law_28 : decode cL_law 28 = .ok (.iaload, 1) := by decide +kernel
theorem dL_law_29 : decode cL_law 29 = .ok (.bipush 31, 2) := by decide +kernel
theorem dL_law_31 : decode cL_law 31 = .ok (.iand, 1) := by decide +kernel
theorem dL_law_32 : decode cL_law 32 = .ok (.tableswitch 799 0 25 #[120, 143, 156, 169, 202, 235, 268, 291, 314, 347, 370, 383, 416, 439, 482, 495, 518, 541, 574, 607, 630, 683, 716, 739, 762, 785], 120) := by decide +kernel
theorem dL_law_152 : decode cL_law 152 = .ok (.aload_n 1, 1) := by decide +kernel
theorem dL_law_153 : decode cL_law 153 = .ok (.aload_n 0, 1) := by decide +kernel
theorem dL_law_154 : decode cL_law 154 = .ok (.iload_n 3, 1) := by decide +kernel
theorem dL_law_155 : decode cL_law 155 = .ok (.iconst 1, 1) := by decide +kernel
theorem dL_law_156 : decode cL_law 156 = .ok (.iadd, 1) := by decide +kernel
theorem dL_law_157 : decode cL_law 157 = .ok (.iaload, 1) := by decide +kernel
theorem dL_law_158 : decode cL_law 158 = .ok (.invokevirtual 13, 3) := by decide +kernel
theorem dL_law_161 : decode cL_law 161 = .ok (.aload_n 2, 1) := by decide +kernel
theorem dL_law_162 : decode cL_law 162 = .ok (.aload_n 0, 1) := by decide +kernel
theorem dL_law_163 : decode cL_law 163 = .ok (.iload_n 3, 1) := by decide +kernel
theorem dL_law_164 : decode cL_law 164 = .ok (.iconst 1, 1) := by decide +kernel
theorem dL_law_165 : decode cL_law 165 = .ok (.iadd, 1) := by decide +kernel
theorem dL_law_166 : decode cL_law 166 = .ok (.iaload, 1) := by decide +kernel
theorem dL_law_167 : decode cL_law 167 = .ok (.invokevirtual 17, 3) := by decide +kernel
theorem dL_law_170 : decode cL_law 170 = .ok (.if_icmp .eq 661, 3) := by decide +kernel
theorem dL_law_173 : decode cL_law 173 = .ok (.iconst 0, 1) := by decide +kernel
theorem dL_law_174 : decode cL_law 174 = .ok (.ireturn, 1) := by decide +kernel
theorem dL_law_175 : decode cL_law 175 = .ok (.aload_n 1, 1) := by decide +kernel
theorem dL_law_176 : decode cL_law 176 = .ok (.invokevirtual 18, 3) := by decide +kernel
theorem dL_law_179 : decode cL_law 179 = .ok (.aload_n 2, 1) := by decide +kernel
theorem dL_law_180 : decode cL_law 180 = .ok (.invokevirtual 22, 3) := by decide +kernel
theorem dL_law_183 : decode cL_law 183 = .ok (.if_icmp .eq 648, 3) := by decide +kernel
theorem dL_law_186 : decode cL_law 186 = .ok (.iconst 0, 1) := by decide +kernel
theorem dL_law_187 : decode cL_law 187 = .ok (.ireturn, 1) := by decide +kernel
theorem dL_law_188 : decode cL_law 188 = .ok (.aload_n 1, 1) := by decide +kernel
theorem dL_law_189 : decode cL_law 189 = .ok (.invokevirtual 23, 3) := by decide +kernel
theorem dL_law_192 : decode cL_law 192 = .ok (.aload_n 2, 1) := by decide +kernel
theorem dL_law_193 : decode cL_law 193 = .ok (.invokevirtual 26, 3) := by decide +kernel
theorem dL_law_196 : decode cL_law 196 = .ok (.if_icmp .eq 635, 3) := by decide +kernel
theorem dL_law_199 : decode cL_law 199 = .ok (.iconst 0, 1) := by decide +kernel
theorem dL_law_200 : decode cL_law 200 = .ok (.ireturn, 1) := by decide +kernel
theorem dL_law_201 : decode cL_law 201 = .ok (.aload_n 1, 1) := by decide +kernel
theorem dL_law_202 : decode cL_law 202 = .ok (.aload_n 0, 1) := by decide +kernel
theorem dL_law_203 : decode cL_law 203 = .ok (.iload_n 3, 1) := by decide +kernel
theorem dL_law_204 : decode cL_law 204 = .ok (.iconst 1, 1) := by decide +kernel
theorem dL_law_205 : decode cL_law 205 = .ok (.iadd, 1) := by decide +kernel
theorem dL_law_206 : decode cL_law 206 = .ok (.iaload, 1) := by decide +kernel
theorem dL_law_207 : decode cL_law 207 = .ok (.aload_n 0, 1) := by decide +kernel
theorem dL_law_208 : decode cL_law 208 = .ok (.iload_n 3, 1) := by decide +kernel
theorem dL_law_209 : decode cL_law 209 = .ok (.iconst 2, 1) := by decide +kernel
theorem dL_law_210 : decode cL_law 210 = .ok (.iadd, 1) := by decide +kernel
theorem dL_law_211 : decode cL_law 211 = .ok (.iaload, 1) := by decide +kernel
theorem dL_law_212 : decode cL_law 212 = .ok (.invokevirtual 27, 3) := by decide +kernel
theorem dL_law_215 : decode cL_law 215 = .ok (.aload_n 2, 1) := by decide +kernel
theorem dL_law_216 : decode cL_law 216 = .ok (.aload_n 0, 1) := by decide +kernel
theorem dL_law_217 : decode cL_law 217 = .ok (.iload_n 3, 1) := by decide +kernel
theorem dL_law_218 : decode cL_law 218 = .ok (.iconst 1, 1) := by decide +kernel
theorem dL_law_219 : decode cL_law 219 = .ok (.iadd, 1) := by decide +kernel
theorem dL_law_220 : decode cL_law 220 = .ok (.iaload, 1) := by decide +kernel
theorem dL_law_221 : decode cL_law 221 = .ok (.aload_n 0, 1) := by decide +kernel
theorem dL_law_222 : decode cL_law 222 = .ok (.iload_n 3, 1) := by decide +kernel
theorem dL_law_223 : decode cL_law 223 = .ok (.iconst 2, 1) := by decide +kernel
theorem dL_law_224 : decode cL_law 224 = .ok (.iadd, 1) := by decide +kernel
theorem dL_law_225 : decode cL_law 225 = .ok (.iaload, 1) := by decide +kernel
theorem dL_law_226 : decode cL_law 226 = .ok (.invokevirtual 31, 3) := by decide +kernel
theorem dL_law_229 : decode cL_law 229 = .ok (.if_icmp .eq 602, 3) := by decide +kernel
theorem dL_law_232 : decode cL_law 232 = .ok (.iconst 0, 1) := by decide +kernel
theorem dL_law_233 : decode cL_law 233 = .ok (.ireturn, 1) := by decide +kernel
theorem dL_law_234 : decode cL_law 234 = .ok (.aload_n 1, 1) := by decide +kernel
theorem dL_law_235 : decode cL_law 235 = .ok (.aload_n 0, 1) := by decide +kernel
theorem dL_law_236 : decode cL_law 236 = .ok (.iload_n 3, 1) := by decide +kernel
theorem dL_law_237 : decode cL_law 237 = .ok (.iconst 1, 1) := by decide +kernel
theorem dL_law_238 : decode cL_law 238 = .ok (.iadd, 1) := by decide +kernel
theorem dL_law_239 : decode cL_law 239 = .ok (.iaload, 1) := by decide +kernel
theorem dL_law_240 : decode cL_law 240 = .ok (.aload_n 0, 1) := by decide +kernel
theorem dL_law_241 : decode cL_law 241 = .ok (.iload_n 3, 1) := by decide +kernel
theorem dL_law_242 : decode cL_law 242 = .ok (.iconst 2, 1) := by decide +kernel
theorem dL_law_243 : decode cL_law 243 = .ok (.iadd, 1) := by decide +kernel
theorem dL_law_244 : decode cL_law 244 = .ok (.iaload, 1) := by decide +kernel
theorem dL_law_245 : decode cL_law 245 = .ok (.invokevirtual 32, 3) := by decide +kernel
theorem dL_law_248 : decode cL_law 248 = .ok (.aload_n 2, 1) := by decide +kernel
theorem dL_law_249 : decode cL_law 249 = .ok (.aload_n 0, 1) := by decide +kernel
theorem dL_law_250 : decode cL_law 250 = .ok (.iload_n 3, 1) := by decide +kernel
theorem dL_law_251 : decode cL_law 251 = .ok (.iconst 1, 1) := by decide +kernel
theorem dL_law_252 : decode cL_law 252 = .ok (.iadd, 1) := by decide +kernel
theorem dL_law_253 : decode cL_law 253 = .ok (.iaload, 1) := by decide +kernel
theorem dL_law_254 : decode cL_law 254 = .ok (.aload_n 0, 1) := by decide +kernel
theorem dL_law_255 : decode cL_law 255 = .ok (.iload_n 3, 1) := by decide +kernel
theorem dL_law_256 : decode cL_law 256 = .ok (.iconst 2, 1) := by decide +kernel
theorem dL_law_257 : decode cL_law 257 = .ok (.iadd, 1) := by decide +kernel
theorem dL_law_258 : decode cL_law 258 = .ok (.iaload, 1) := by decide +kernel
theorem dL_law_259 : decode cL_law 259 = .ok (.invokevirtual 35, 3) := by decide +kernel
theorem dL_law_262 : decode cL_law 262 = .ok (.if_icmp .eq 569, 3) := by decide +kernel
theorem dL_law_265 : decode cL_law 265 = .ok (.iconst 0, 1) := by decide +kernel
theorem dL_law_266 : decode cL_law 266 = .ok (.ireturn, 1) := by decide +kernel
theorem dL_law_267 : decode cL_law 267 = .ok (.aload_n 1, 1) := by decide +kernel
theorem dL_law_268 : decode cL_law 268 = .ok (.aload_n 0, 1) := by decide +kernel
theorem dL_law_269 : decode cL_law 269 = .ok (.iload_n 3, 1) := by decide +kernel
theorem dL_law_270 : decode cL_law 270 = .ok (.iconst 1, 1) := by decide +kernel
theorem dL_law_271 : decode cL_law 271 = .ok (.iadd, 1) := by decide +kernel
theorem dL_law_272 : decode cL_law 272 = .ok (.iaload, 1) := by decide +kernel
theorem dL_law_273 : decode cL_law 273 = .ok (.aload_n 0, 1) := by decide +kernel
theorem dL_law_274 : decode cL_law 274 = .ok (.iload_n 3, 1) := by decide +kernel
theorem dL_law_275 : decode cL_law 275 = .ok (.iconst 2, 1) := by decide +kernel
theorem dL_law_276 : decode cL_law 276 = .ok (.iadd, 1) := by decide +kernel
theorem dL_law_277 : decode cL_law 277 = .ok (.iaload, 1) := by decide +kernel
theorem dL_law_278 : decode cL_law 278 = .ok (.invokevirtual 36, 3) := by decide +kernel
theorem dL_law_281 : decode cL_law 281 = .ok (.aload_n 2, 1) := by decide +kernel
theorem dL_law_282 : decode cL_law 282 = .ok (.aload_n 0, 1) := by decide +kernel
theorem dL_law_283 : decode cL_law 283 = .ok (.iload_n 3, 1) := by decide +kernel
theorem dL_law_284 : decode cL_law 284 = .ok (.iconst 1, 1) := by decide +kernel
theorem dL_law_285 : decode cL_law 285 = .ok (.iadd, 1) := by decide +kernel
theorem dL_law_286 : decode cL_law 286 = .ok (.iaload, 1) := by decide +kernel
theorem dL_law_287 : decode cL_law 287 = .ok (.aload_n 0, 1) := by decide +kernel
theorem dL_law_288 : decode cL_law 288 = .ok (.iload_n 3, 1) := by decide +kernel
theorem dL_law_289 : decode cL_law 289 = .ok (.iconst 2, 1) := by decide +kernel
theorem dL_law_290 : decode cL_law 290 = .ok (.iadd, 1) := by decide +kernel
theorem dL_law_291 : decode cL_law 291 = .ok (.iaload, 1) := by decide +kernel
theorem dL_law_292 : decode cL_law 292 = .ok (.invokevirtual 39, 3) := by decide +kernel
theorem dL_law_295 : decode cL_law 295 = .ok (.if_icmp .eq 536, 3) := by decide +kernel
theorem dL_law_298 : decode cL_law 298 = .ok (.iconst 0, 1) := by decide +kernel
theorem dL_law_299 : decode cL_law 299 = .ok (.ireturn, 1) := by decide +kernel
theorem dL_law_300 : decode cL_law 300 = .ok (.aload_n 1, 1) := by decide +kernel
theorem dL_law_301 : decode cL_law 301 = .ok (.aload_n 0, 1) := by decide +kernel
theorem dL_law_302 : decode cL_law 302 = .ok (.iload_n 3, 1) := by decide +kernel
theorem dL_law_303 : decode cL_law 303 = .ok (.iconst 1, 1) := by decide +kernel
theorem dL_law_304 : decode cL_law 304 = .ok (.iadd, 1) := by decide +kernel
theorem dL_law_305 : decode cL_law 305 = .ok (.iaload, 1) := by decide +kernel
theorem dL_law_306 : decode cL_law 306 = .ok (.invokevirtual 40, 3) := by decide +kernel
theorem dL_law_309 : decode cL_law 309 = .ok (.aload_n 2, 1) := by decide +kernel
theorem dL_law_310 : decode cL_law 310 = .ok (.aload_n 0, 1) := by decide +kernel
theorem dL_law_311 : decode cL_law 311 = .ok (.iload_n 3, 1) := by decide +kernel
theorem dL_law_312 : decode cL_law 312 = .ok (.iconst 1, 1) := by decide +kernel
theorem dL_law_313 : decode cL_law 313 = .ok (.iadd, 1) := by decide +kernel
theorem dL_law_314 : decode cL_law 314 = .ok (.iaload, 1) := by decide +kernel
theorem dL_law_315 : decode cL_law 315 = .ok (.invokevirtual 43, 3) := by decide +kernel
theorem dL_law_318 : decode cL_law 318 = .ok (.if_icmp .eq 513, 3) := by decide +kernel
theorem dL_law_321 : decode cL_law 321 = .ok (.iconst 0, 1) := by decide +kernel
theorem dL_law_322 : decode cL_law 322 = .ok (.ireturn, 1) := by decide +kernel
theorem dL_law_323 : decode cL_law 323 = .ok (.aload_n 1, 1) := by decide +kernel
theorem dL_law_324 : decode cL_law 324 = .ok (.aload_n 0, 1) := by decide +kernel
theorem dL_law_325 : decode cL_law 325 = .ok (.iload_n 3, 1) := by decide +kernel
theorem dL_law_326 : decode cL_law 326 = .ok (.iconst 1, 1) := by decide +kernel
theorem dL_law_327 : decode cL_law 327 = .ok (.iadd, 1) := by decide +kernel
theorem dL_law_328 : decode cL_law 328 = .ok (.iaload, 1) := by decide +kernel
theorem dL_law_329 : decode cL_law 329 = .ok (.invokevirtual 44, 3) := by decide +kernel
theorem dL_law_332 : decode cL_law 332 = .ok (.aload_n 2, 1) := by decide +kernel
theorem dL_law_333 : decode cL_law 333 = .ok (.aload_n 0, 1) := by decide +kernel
theorem dL_law_334 : decode cL_law 334 = .ok (.iload_n 3, 1) := by decide +kernel
theorem dL_law_335 : decode cL_law 335 = .ok (.iconst 1, 1) := by decide +kernel
theorem dL_law_336 : decode cL_law 336 = .ok (.iadd, 1) := by decide +kernel
theorem dL_law_337 : decode cL_law 337 = .ok (.iaload, 1) := by decide +kernel
theorem dL_law_338 : decode cL_law 338 = .ok (.invokevirtual 47, 3) := by decide +kernel
theorem dL_law_341 : decode cL_law 341 = .ok (.if_icmp .eq 490, 3) := by decide +kernel
theorem dL_law_344 : decode cL_law 344 = .ok (.iconst 0, 1) := by decide +kernel
theorem dL_law_345 : decode cL_law 345 = .ok (.ireturn, 1) := by decide +kernel
theorem dL_law_346 : decode cL_law 346 = .ok (.aload_n 1, 1) := by decide +kernel
theorem dL_law_347 : decode cL_law 347 = .ok (.aload_n 0, 1) := by decide +kernel
theorem dL_law_348 : decode cL_law 348 = .ok (.iload_n 3, 1) := by decide +kernel
theorem dL_law_349 : decode cL_law 349 = .ok (.iconst 1, 1) := by decide +kernel
theorem dL_law_350 : decode cL_law 350 = .ok (.iadd, 1) := by decide +kernel
theorem dL_law_351 : decode cL_law 351 = .ok (.iaload, 1) := by decide +kernel
theorem dL_law_352 : decode cL_law 352 = .ok (.aload_n 0, 1) := by decide +kernel
theorem dL_law_353 : decode cL_law 353 = .ok (.iload_n 3, 1) := by decide +kernel
theorem dL_law_354 : decode cL_law 354 = .ok (.iconst 2, 1) := by decide +kernel
theorem dL_law_355 : decode cL_law 355 = .ok (.iadd, 1) := by decide +kernel
theorem dL_law_356 : decode cL_law 356 = .ok (.iaload, 1) := by decide +kernel
theorem dL_law_357 : decode cL_law 357 = .ok (.invokevirtual 48, 3) := by decide +kernel
theorem dL_law_360 : decode cL_law 360 = .ok (.aload_n 2, 1) := by decide +kernel
theorem dL_law_361 : decode cL_law 361 = .ok (.aload_n 0, 1) := by decide +kernel
theorem dL_law_362 : decode cL_law 362 = .ok (.iload_n 3, 1) := by decide +kernel
theorem dL_law_363 : decode cL_law 363 = .ok (.iconst 1, 1) := by decide +kernel
theorem dL_law_364 : decode cL_law 364 = .ok (.iadd, 1) := by decide +kernel
theorem dL_law_365 : decode cL_law 365 = .ok (.iaload, 1) := by decide +kernel
theorem dL_law_366 : decode cL_law 366 = .ok (.aload_n 0, 1) := by decide +kernel
theorem dL_law_367 : decode cL_law 367 = .ok (.iload_n 3, 1) := by decide +kernel
theorem dL_law_368 : decode cL_law 368 = .ok (.iconst 2, 1) := by decide +kernel
theorem dL_law_369 : decode cL_law 369 = .ok (.iadd, 1) := by decide +kernel
theorem dL_law_370 : decode cL_law 370 = .ok (.iaload, 1) := by decide +kernel
theorem dL_law_371 : decode cL_law 371 = .ok (.invokevirtual 51, 3) := by decide +kernel
theorem dL_law_374 : decode cL_law 374 = .ok (.if_icmp .eq 457, 3) := by decide +kernel
theorem dL_law_377 : decode cL_law 377 = .ok (.iconst 0, 1) := by decide +kernel
theorem dL_law_378 : decode cL_law 378 = .ok (.ireturn, 1) := by decide +kernel
theorem dL_law_379 : decode cL_law 379 = .ok (.aload_n 1, 1) := by decide +kernel
theorem dL_law_380 : decode cL_law 380 = .ok (.aload_n 0, 1) := by decide +kernel
theorem dL_law_381 : decode cL_law 381 = .ok (.iload_n 3, 1) := by decide +kernel
theorem dL_law_382 : decode cL_law 382 = .ok (.iconst 1, 1) := by decide +kernel
theorem dL_law_383 : decode cL_law 383 = .ok (.iadd, 1) := by decide +kernel
theorem dL_law_384 : decode cL_law 384 = .ok (.iaload, 1) := by decide +kernel
theorem dL_law_385 : decode cL_law 385 = .ok (.invokevirtual 52, 3) := by decide +kernel
theorem dL_law_388 : decode cL_law 388 = .ok (.aload_n 2, 1) := by decide +kernel
theorem dL_law_389 : decode cL_law 389 = .ok (.aload_n 0, 1) := by decide +kernel
theorem dL_law_390 : decode cL_law 390 = .ok (.iload_n 3, 1) := by decide +kernel
theorem dL_law_391 : decode cL_law 391 = .ok (.iconst 1, 1) := by decide +kernel
theorem dL_law_392 : decode cL_law 392 = .ok (.iadd, 1) := by decide +kernel
theorem dL_law_393 : decode cL_law 393 = .ok (.iaload, 1) := by decide +kernel
theorem dL_law_394 : decode cL_law 394 = .ok (.invokevirtual 55, 3) := by decide +kernel
theorem dL_law_397 : decode cL_law 397 = .ok (.if_icmp .eq 434, 3) := by decide +kernel
theorem dL_law_400 : decode cL_law 400 = .ok (.iconst 0, 1) := by decide +kernel
theorem dL_law_401 : decode cL_law 401 = .ok (.ireturn, 1) := by decide +kernel
theorem dL_law_402 : decode cL_law 402 = .ok (.aload_n 1, 1) := by decide +kernel
theorem dL_law_403 : decode cL_law 403 = .ok (.invokevirtual 56, 3) := by decide +kernel
theorem dL_law_406 : decode cL_law 406 = .ok (.aload_n 2, 1) := by decide +kernel
theorem dL_law_407 : decode cL_law 407 = .ok (.invokevirtual 59, 3) := by decide +kernel
theorem dL_law_410 : decode cL_law 410 = .ok (.if_icmp .eq 421, 3) := by decide +kernel
theorem dL_law_413 : decode cL_law 413 = .ok (.iconst 0, 1) := by decide +kernel
theorem dL_law_414 : decode cL_law 414 = .ok (.ireturn, 1) := by decide +kernel
theorem dL_law_415 : decode cL_law 415 = .ok (.aload_n 1, 1) := by decide +kernel
theorem dL_law_416 : decode cL_law 416 = .ok (.aload_n 0, 1) := by decide +kernel
theorem dL_law_417 : decode cL_law 417 = .ok (.iload_n 3, 1) := by decide +kernel
theorem dL_law_418 : decode cL_law 418 = .ok (.iconst 1, 1) := by decide +kernel
theorem dL_law_419 : decode cL_law 419 = .ok (.iadd, 1) := by decide +kernel
theorem dL_law_420 : decode cL_law 420 = .ok (.iaload, 1) := by decide +kernel
theorem dL_law_421 : decode cL_law 421 = .ok (.aload_n 0, 1) := by decide +kernel
theorem dL_law_422 : decode cL_law 422 = .ok (.iload_n 3, 1) := by decide +kernel
theorem dL_law_423 : decode cL_law 423 = .ok (.iconst 2, 1) := by decide +kernel
theorem dL_law_424 : decode cL_law 424 = .ok (.iadd, 1) := by decide +kernel
theorem dL_law_425 : decode cL_law 425 = .ok (.iaload, 1) := by decide +kernel
theorem dL_law_426 : decode cL_law 426 = .ok (.invokevirtual 60, 3) := by decide +kernel
theorem dL_law_429 : decode cL_law 429 = .ok (.aload_n 2, 1) := by decide +kernel
theorem dL_law_430 : decode cL_law 430 = .ok (.aload_n 0, 1) := by decide +kernel
theorem dL_law_431 : decode cL_law 431 = .ok (.iload_n 3, 1) := by decide +kernel
theorem dL_law_432 : decode cL_law 432 = .ok (.iconst 1, 1) := by decide +kernel
theorem dL_law_433 : decode cL_law 433 = .ok (.iadd, 1) := by decide +kernel
theorem dL_law_434 : decode cL_law 434 = .ok (.iaload, 1) := by decide +kernel
theorem dL_law_435 : decode cL_law 435 = .ok (.aload_n 0, 1) := by decide +kernel
theorem dL_law_436 : decode cL_law 436 = .ok (.iload_n 3, 1) := by decide +kernel
theorem dL_law_437 : decode cL_law 437 = .ok (.iconst 2, 1) := by decide +kernel
theorem dL_law_438 : decode cL_law 438 = .ok (.iadd, 1) := by decide +kernel
theorem dL_law_439 : decode cL_law 439 = .ok (.iaload, 1) := by decide +kernel
theorem dL_law_440 : decode cL_law 440 = .ok (.invokevirtual 63, 3) := by decide +kernel
theorem dL_law_443 : decode cL_law 443 = .ok (.if_icmp .eq 388, 3) := by decide +kernel
theorem dL_law_446 : decode cL_law 446 = .ok (.iconst 0, 1) := by decide +kernel
theorem dL_law_447 : decode cL_law 447 = .ok (.ireturn, 1) := by decide +kernel
theorem dL_law_448 : decode cL_law 448 = .ok (.aload_n 1, 1) := by decide +kernel
theorem dL_law_449 : decode cL_law 449 = .ok (.aload_n 0, 1) := by decide +kernel
theorem dL_law_450 : decode cL_law 450 = .ok (.iload_n 3, 1) := by decide +kernel
theorem dL_law_451 : decode cL_law 451 = .ok (.iconst 1, 1) := by decide +kernel
theorem dL_law_452 : decode cL_law 452 = .ok (.iadd, 1) := by decide +kernel
theorem dL_law_453 : decode cL_law 453 = .ok (.iaload, 1) := by decide +kernel
theorem dL_law_454 : decode cL_law 454 = .ok (.invokevirtual 64, 3) := by decide +kernel
theorem dL_law_457 : decode cL_law 457 = .ok (.aload_n 2, 1) := by decide +kernel
theorem dL_law_458 : decode cL_law 458 = .ok (.aload_n 0, 1) := by decide +kernel
theorem dL_law_459 : decode cL_law 459 = .ok (.iload_n 3, 1) := by decide +kernel
theorem dL_law_460 : decode cL_law 460 = .ok (.iconst 1, 1) := by decide +kernel
theorem dL_law_461 : decode cL_law 461 = .ok (.iadd, 1) := by decide +kernel
theorem dL_law_462 : decode cL_law 462 = .ok (.iaload, 1) := by decide +kernel
theorem dL_law_463 : decode cL_law 463 = .ok (.invokevirtual 67, 3) := by decide +kernel
theorem dL_law_466 : decode cL_law 466 = .ok (.if_icmp .eq 365, 3) := by decide +kernel
theorem dL_law_469 : decode cL_law 469 = .ok (.iconst 0, 1) := by decide +kernel
theorem dL_law_470 : decode cL_law 470 = .ok (.ireturn, 1) := by decide +kernel
theorem dL_law_471 : decode cL_law 471 = .ok (.aload_n 1, 1) := by decide +kernel
theorem dL_law_472 : decode cL_law 472 = .ok (.aload_n 0, 1) := by decide +kernel
theorem dL_law_473 : decode cL_law 473 = .ok (.iload_n 3, 1) := by decide +kernel
theorem dL_law_474 : decode cL_law 474 = .ok (.iconst 1, 1) := by decide +kernel
theorem dL_law_475 : decode cL_law 475 = .ok (.iadd, 1) := by decide +kernel
theorem dL_law_476 : decode cL_law 476 = .ok (.iaload, 1) := by decide +kernel
theorem dL_law_477 : decode cL_law 477 = .ok (.aload_n 0, 1) := by decide +kernel
theorem dL_law_478 : decode cL_law 478 = .ok (.iload_n 3, 1) := by decide +kernel
theorem dL_law_479 : decode cL_law 479 = .ok (.iconst 2, 1) := by decide +kernel
theorem dL_law_480 : decode cL_law 480 = .ok (.iadd, 1) := by decide +kernel
theorem dL_law_481 : decode cL_law 481 = .ok (.iaload, 1) := by decide +kernel
theorem dL_law_482 : decode cL_law 482 = .ok (.aload_n 0, 1) := by decide +kernel
theorem dL_law_483 : decode cL_law 483 = .ok (.iload_n 3, 1) := by decide +kernel
theorem dL_law_484 : decode cL_law 484 = .ok (.iconst 3, 1) := by decide +kernel
theorem dL_law_485 : decode cL_law 485 = .ok (.iadd, 1) := by decide +kernel
theorem dL_law_486 : decode cL_law 486 = .ok (.iaload, 1) := by decide +kernel
theorem dL_law_487 : decode cL_law 487 = .ok (.invokevirtual 68, 3) := by decide +kernel
theorem dL_law_490 : decode cL_law 490 = .ok (.aload_n 2, 1) := by decide +kernel
theorem dL_law_491 : decode cL_law 491 = .ok (.aload_n 0, 1) := by decide +kernel
theorem dL_law_492 : decode cL_law 492 = .ok (.iload_n 3, 1) := by decide +kernel
theorem dL_law_493 : decode cL_law 493 = .ok (.iconst 1, 1) := by decide +kernel
theorem dL_law_494 : decode cL_law 494 = .ok (.iadd, 1) := by decide +kernel
theorem dL_law_495 : decode cL_law 495 = .ok (.iaload, 1) := by decide +kernel
theorem dL_law_496 : decode cL_law 496 = .ok (.aload_n 0, 1) := by decide +kernel
theorem dL_law_497 : decode cL_law 497 = .ok (.iload_n 3, 1) := by decide +kernel
theorem dL_law_498 : decode cL_law 498 = .ok (.iconst 2, 1) := by decide +kernel
theorem dL_law_499 : decode cL_law 499 = .ok (.iadd, 1) := by decide +kernel
theorem dL_law_500 : decode cL_law 500 = .ok (.iaload, 1) := by decide +kernel
theorem dL_law_501 : decode cL_law 501 = .ok (.aload_n 0, 1) := by decide +kernel
theorem dL_law_502 : decode cL_law 502 = .ok (.iload_n 3, 1) := by decide +kernel
theorem dL_law_503 : decode cL_law 503 = .ok (.iconst 3, 1) := by decide +kernel
theorem dL_law_504 : decode cL_law 504 = .ok (.iadd, 1) := by decide +kernel
theorem dL_law_505 : decode cL_law 505 = .ok (.iaload, 1) := by decide +kernel
theorem dL_law_506 : decode cL_law 506 = .ok (.invokevirtual 72, 3) := by decide +kernel
theorem dL_law_509 : decode cL_law 509 = .ok (.if_icmp .eq 322, 3) := by decide +kernel
theorem dL_law_512 : decode cL_law 512 = .ok (.iconst 0, 1) := by decide +kernel
theorem dL_law_513 : decode cL_law 513 = .ok (.ireturn, 1) := by decide +kernel
theorem dL_law_514 : decode cL_law 514 = .ok (.aload_n 1, 1) := by decide +kernel
theorem dL_law_515 : decode cL_law 515 = .ok (.invokevirtual 73, 3) := by decide +kernel
theorem dL_law_518 : decode cL_law 518 = .ok (.aload_n 2, 1) := by decide +kernel
theorem dL_law_519 : decode cL_law 519 = .ok (.invokevirtual 76, 3) := by decide +kernel
theorem dL_law_522 : decode cL_law 522 = .ok (.if_icmp .eq 309, 3) := by decide +kernel
theorem dL_law_525 : decode cL_law 525 = .ok (.iconst 0, 1) := by decide +kernel
theorem dL_law_526 : decode cL_law 526 = .ok (.ireturn, 1) := by decide +kernel
theorem dL_law_527 : decode cL_law 527 = .ok (.aload_n 1, 1) := by decide +kernel
theorem dL_law_528 : decode cL_law 528 = .ok (.aload_n 0, 1) := by decide +kernel
theorem dL_law_529 : decode cL_law 529 = .ok (.iload_n 3, 1) := by decide +kernel
theorem dL_law_530 : decode cL_law 530 = .ok (.iconst 1, 1) := by decide +kernel
theorem dL_law_531 : decode cL_law 531 = .ok (.iadd, 1) := by decide +kernel
theorem dL_law_532 : decode cL_law 532 = .ok (.iaload, 1) := by decide +kernel
theorem dL_law_533 : decode cL_law 533 = .ok (.invokevirtual 77, 3) := by decide +kernel
theorem dL_law_536 : decode cL_law 536 = .ok (.aload_n 2, 1) := by decide +kernel
theorem dL_law_537 : decode cL_law 537 = .ok (.aload_n 0, 1) := by decide +kernel
theorem dL_law_538 : decode cL_law 538 = .ok (.iload_n 3, 1) := by decide +kernel
theorem dL_law_539 : decode cL_law 539 = .ok (.iconst 1, 1) := by decide +kernel
theorem dL_law_540 : decode cL_law 540 = .ok (.iadd, 1) := by decide +kernel
theorem dL_law_541 : decode cL_law 541 = .ok (.iaload, 1) := by decide +kernel
theorem dL_law_542 : decode cL_law 542 = .ok (.invokevirtual 80, 3) := by decide +kernel
theorem dL_law_545 : decode cL_law 545 = .ok (.if_icmp .eq 286, 3) := by decide +kernel
theorem dL_law_548 : decode cL_law 548 = .ok (.iconst 0, 1) := by decide +kernel
theorem dL_law_549 : decode cL_law 549 = .ok (.ireturn, 1) := by decide +kernel
theorem dL_law_550 : decode cL_law 550 = .ok (.aload_n 1, 1) := by decide +kernel
theorem dL_law_551 : decode cL_law 551 = .ok (.aload_n 0, 1) := by decide +kernel
theorem dL_law_552 : decode cL_law 552 = .ok (.iload_n 3, 1) := by decide +kernel
theorem dL_law_553 : decode cL_law 553 = .ok (.iconst 1, 1) := by decide +kernel
theorem dL_law_554 : decode cL_law 554 = .ok (.iadd, 1) := by decide +kernel
theorem dL_law_555 : decode cL_law 555 = .ok (.iaload, 1) := by decide +kernel
theorem dL_law_556 : decode cL_law 556 = .ok (.invokevirtual 81, 3) := by decide +kernel
theorem dL_law_559 : decode cL_law 559 = .ok (.aload_n 2, 1) := by decide +kernel
theorem dL_law_560 : decode cL_law 560 = .ok (.aload_n 0, 1) := by decide +kernel
theorem dL_law_561 : decode cL_law 561 = .ok (.iload_n 3, 1) := by decide +kernel
theorem dL_law_562 : decode cL_law 562 = .ok (.iconst 1, 1) := by decide +kernel
theorem dL_law_563 : decode cL_law 563 = .ok (.iadd, 1) := by decide +kernel
theorem dL_law_564 : decode cL_law 564 = .ok (.iaload, 1) := by decide +kernel
theorem dL_law_565 : decode cL_law 565 = .ok (.invokevirtual 84, 3) := by decide +kernel
theorem dL_law_568 : decode cL_law 568 = .ok (.if_icmp .eq 263, 3) := by decide +kernel
theorem dL_law_571 : decode cL_law 571 = .ok (.iconst 0, 1) := by decide +kernel
theorem dL_law_572 : decode cL_law 572 = .ok (.ireturn, 1) := by decide +kernel
theorem dL_law_573 : decode cL_law 573 = .ok (.aload_n 1, 1) := by decide +kernel
theorem dL_law_574 : decode cL_law 574 = .ok (.aload_n 0, 1) := by decide +kernel
theorem dL_law_575 : decode cL_law 575 = .ok (.iload_n 3, 1) := by decide +kernel
theorem dL_law_576 : decode cL_law 576 = .ok (.iconst 1, 1) := by decide +kernel
theorem dL_law_577 : decode cL_law 577 = .ok (.iadd, 1) := by decide +kernel
theorem dL_law_578 : decode cL_law 578 = .ok (.iaload, 1) := by decide +kernel
theorem dL_law_579 : decode cL_law 579 = .ok (.aload_n 0, 1) := by decide +kernel
theorem dL_law_580 : decode cL_law 580 = .ok (.iload_n 3, 1) := by decide +kernel
theorem dL_law_581 : decode cL_law 581 = .ok (.iconst 2, 1) := by decide +kernel
theorem dL_law_582 : decode cL_law 582 = .ok (.iadd, 1) := by decide +kernel
theorem dL_law_583 : decode cL_law 583 = .ok (.iaload, 1) := by decide +kernel
theorem dL_law_584 : decode cL_law 584 = .ok (.invokevirtual 85, 3) := by decide +kernel
theorem dL_law_587 : decode cL_law 587 = .ok (.aload_n 2, 1) := by decide +kernel
theorem dL_law_588 : decode cL_law 588 = .ok (.aload_n 0, 1) := by decide +kernel
theorem dL_law_589 : decode cL_law 589 = .ok (.iload_n 3, 1) := by decide +kernel
theorem dL_law_590 : decode cL_law 590 = .ok (.iconst 1, 1) := by decide +kernel
theorem dL_law_591 : decode cL_law 591 = .ok (.iadd, 1) := by decide +kernel
theorem dL_law_592 : decode cL_law 592 = .ok (.iaload, 1) := by decide +kernel
theorem dL_law_593 : decode cL_law 593 = .ok (.aload_n 0, 1) := by decide +kernel
theorem dL_law_594 : decode cL_law 594 = .ok (.iload_n 3, 1) := by decide +kernel
theorem dL_law_595 : decode cL_law 595 = .ok (.iconst 2, 1) := by decide +kernel
theorem dL_law_596 : decode cL_law 596 = .ok (.iadd, 1) := by decide +kernel
theorem dL_law_597 : decode cL_law 597 = .ok (.iaload, 1) := by decide +kernel
theorem dL_law_598 : decode cL_law 598 = .ok (.invokevirtual 88, 3) := by decide +kernel
theorem dL_law_601 : decode cL_law 601 = .ok (.if_icmp .eq 230, 3) := by decide +kernel
theorem dL_law_604 : decode cL_law 604 = .ok (.iconst 0, 1) := by decide +kernel
theorem dL_law_605 : decode cL_law 605 = .ok (.ireturn, 1) := by decide +kernel
theorem dL_law_606 : decode cL_law 606 = .ok (.aload_n 1, 1) := by decide +kernel
theorem dL_law_607 : decode cL_law 607 = .ok (.aload_n 0, 1) := by decide +kernel
theorem dL_law_608 : decode cL_law 608 = .ok (.iload_n 3, 1) := by decide +kernel
theorem dL_law_609 : decode cL_law 609 = .ok (.iconst 1, 1) := by decide +kernel
theorem dL_law_610 : decode cL_law 610 = .ok (.iadd, 1) := by decide +kernel
theorem dL_law_611 : decode cL_law 611 = .ok (.iaload, 1) := by decide +kernel
theorem dL_law_612 : decode cL_law 612 = .ok (.aload_n 0, 1) := by decide +kernel
theorem dL_law_613 : decode cL_law 613 = .ok (.iload_n 3, 1) := by decide +kernel
theorem dL_law_614 : decode cL_law 614 = .ok (.iconst 2, 1) := by decide +kernel
theorem dL_law_615 : decode cL_law 615 = .ok (.iadd, 1) := by decide +kernel
theorem dL_law_616 : decode cL_law 616 = .ok (.iaload, 1) := by decide +kernel
theorem dL_law_617 : decode cL_law 617 = .ok (.invokevirtual 89, 3) := by decide +kernel
theorem dL_law_620 : decode cL_law 620 = .ok (.aload_n 2, 1) := by decide +kernel
theorem dL_law_621 : decode cL_law 621 = .ok (.aload_n 0, 1) := by decide +kernel
theorem dL_law_622 : decode cL_law 622 = .ok (.iload_n 3, 1) := by decide +kernel
theorem dL_law_623 : decode cL_law 623 = .ok (.iconst 1, 1) := by decide +kernel
theorem dL_law_624 : decode cL_law 624 = .ok (.iadd, 1) := by decide +kernel
theorem dL_law_625 : decode cL_law 625 = .ok (.iaload, 1) := by decide +kernel
theorem dL_law_626 : decode cL_law 626 = .ok (.aload_n 0, 1) := by decide +kernel
theorem dL_law_627 : decode cL_law 627 = .ok (.iload_n 3, 1) := by decide +kernel
theorem dL_law_628 : decode cL_law 628 = .ok (.iconst 2, 1) := by decide +kernel
theorem dL_law_629 : decode cL_law 629 = .ok (.iadd, 1) := by decide +kernel
theorem dL_law_630 : decode cL_law 630 = .ok (.iaload, 1) := by decide +kernel
theorem dL_law_631 : decode cL_law 631 = .ok (.invokevirtual 92, 3) := by decide +kernel
theorem dL_law_634 : decode cL_law 634 = .ok (.if_icmp .eq 197, 3) := by decide +kernel
theorem dL_law_637 : decode cL_law 637 = .ok (.iconst 0, 1) := by decide +kernel
theorem dL_law_638 : decode cL_law 638 = .ok (.ireturn, 1) := by decide +kernel
theorem dL_law_639 : decode cL_law 639 = .ok (.aload_n 1, 1) := by decide +kernel
theorem dL_law_640 : decode cL_law 640 = .ok (.aload_n 0, 1) := by decide +kernel
theorem dL_law_641 : decode cL_law 641 = .ok (.iload_n 3, 1) := by decide +kernel
theorem dL_law_642 : decode cL_law 642 = .ok (.iconst 1, 1) := by decide +kernel
theorem dL_law_643 : decode cL_law 643 = .ok (.iadd, 1) := by decide +kernel
theorem dL_law_644 : decode cL_law 644 = .ok (.iaload, 1) := by decide +kernel
theorem dL_law_645 : decode cL_law 645 = .ok (.invokevirtual 93, 3) := by decide +kernel
theorem dL_law_648 : decode cL_law 648 = .ok (.aload_n 2, 1) := by decide +kernel
theorem dL_law_649 : decode cL_law 649 = .ok (.aload_n 0, 1) := by decide +kernel
theorem dL_law_650 : decode cL_law 650 = .ok (.iload_n 3, 1) := by decide +kernel
theorem dL_law_651 : decode cL_law 651 = .ok (.iconst 1, 1) := by decide +kernel
theorem dL_law_652 : decode cL_law 652 = .ok (.iadd, 1) := by decide +kernel
theorem dL_law_653 : decode cL_law 653 = .ok (.iaload, 1) := by decide +kernel
theorem dL_law_654 : decode cL_law 654 = .ok (.invokevirtual 96, 3) := by decide +kernel
theorem dL_law_657 : decode cL_law 657 = .ok (.if_icmp .eq 174, 3) := by decide +kernel
theorem dL_law_660 : decode cL_law 660 = .ok (.iconst 0, 1) := by decide +kernel
theorem dL_law_661 : decode cL_law 661 = .ok (.ireturn, 1) := by decide +kernel
theorem dL_law_662 : decode cL_law 662 = .ok (.aload_n 1, 1) := by decide +kernel
theorem dL_law_663 : decode cL_law 663 = .ok (.aload_n 0, 1) := by decide +kernel
theorem dL_law_664 : decode cL_law 664 = .ok (.iload_n 3, 1) := by decide +kernel
theorem dL_law_665 : decode cL_law 665 = .ok (.iconst 1, 1) := by decide +kernel
theorem dL_law_666 : decode cL_law 666 = .ok (.iadd, 1) := by decide +kernel
theorem dL_law_667 : decode cL_law 667 = .ok (.iaload, 1) := by decide +kernel
theorem dL_law_668 : decode cL_law 668 = .ok (.aload_n 0, 1) := by decide +kernel
theorem dL_law_669 : decode cL_law 669 = .ok (.iload_n 3, 1) := by decide +kernel
theorem dL_law_670 : decode cL_law 670 = .ok (.iconst 2, 1) := by decide +kernel
theorem dL_law_671 : decode cL_law 671 = .ok (.iadd, 1) := by decide +kernel
theorem dL_law_672 : decode cL_law 672 = .ok (.iaload, 1) := by decide +kernel
theorem dL_law_673 : decode cL_law 673 = .ok (.aload_n 0, 1) := by decide +kernel
theorem dL_law_674 : decode cL_law 674 = .ok (.iload_n 3, 1) := by decide +kernel
theorem dL_law_675 : decode cL_law 675 = .ok (.iconst 3, 1) := by decide +kernel
theorem dL_law_676 : decode cL_law 676 = .ok (.iadd, 1) := by decide +kernel
theorem dL_law_677 : decode cL_law 677 = .ok (.iaload, 1) := by decide +kernel
theorem dL_law_678 : decode cL_law 678 = .ok (.aload_n 0, 1) := by decide +kernel
theorem dL_law_679 : decode cL_law 679 = .ok (.iload_n 3, 1) := by decide +kernel
theorem dL_law_680 : decode cL_law 680 = .ok (.iconst 4, 1) := by decide +kernel
theorem dL_law_681 : decode cL_law 681 = .ok (.iadd, 1) := by decide +kernel
theorem dL_law_682 : decode cL_law 682 = .ok (.iaload, 1) := by decide +kernel
theorem dL_law_683 : decode cL_law 683 = .ok (.invokevirtual 97, 3) := by decide +kernel
theorem dL_law_686 : decode cL_law 686 = .ok (.aload_n 2, 1) := by decide +kernel
theorem dL_law_687 : decode cL_law 687 = .ok (.aload_n 0, 1) := by decide +kernel
theorem dL_law_688 : decode cL_law 688 = .ok (.iload_n 3, 1) := by decide +kernel
theorem dL_law_689 : decode cL_law 689 = .ok (.iconst 1, 1) := by decide +kernel
theorem dL_law_690 : decode cL_law 690 = .ok (.iadd, 1) := by decide +kernel
theorem dL_law_691 : decode cL_law 691 = .ok (.iaload, 1) := by decide +kernel
theorem dL_law_692 : decode cL_law 692 = .ok (.aload_n 0, 1) := by decide +kernel
theorem dL_law_693 : decode cL_law 693 = .ok (.iload_n 3, 1) := by decide +kernel
theorem dL_law_694 : decode cL_law 694 = .ok (.iconst 2, 1) := by decide +kernel
theorem dL_law_695 : decode cL_law 695 = .ok (.iadd, 1) := by decide +kernel
theorem dL_law_696 : decode cL_law 696 = .ok (.iaload, 1) := by decide +kernel
theorem dL_law_697 : decode cL_law 697 = .ok (.aload_n 0, 1) := by decide +kernel
theorem dL_law_698 : decode cL_law 698 = .ok (.iload_n 3, 1) := by decide +kernel
theorem dL_law_699 : decode cL_law 699 = .ok (.iconst 3, 1) := by decide +kernel
theorem dL_law_700 : decode cL_law 700 = .ok (.iadd, 1) := by decide +kernel
theorem dL_law_701 : decode cL_law 701 = .ok (.iaload, 1) := by decide +kernel
theorem dL_law_702 : decode cL_law 702 = .ok (.aload_n 0, 1) := by decide +kernel
theorem dL_law_703 : decode cL_law 703 = .ok (.iload_n 3, 1) := by decide +kernel
theorem dL_law_704 : decode cL_law 704 = .ok (.iconst 4, 1) := by decide +kernel
theorem dL_law_705 : decode cL_law 705 = .ok (.iadd, 1) := by decide +kernel
theorem dL_law_706 : decode cL_law 706 = .ok (.iaload, 1) := by decide +kernel
theorem dL_law_707 : decode cL_law 707 = .ok (.invokevirtual 101, 3) := by decide +kernel
theorem dL_law_710 : decode cL_law 710 = .ok (.if_icmp .eq 121, 3) := by decide +kernel
theorem dL_law_713 : decode cL_law 713 = .ok (.iconst 0, 1) := by decide +kernel
theorem dL_law_714 : decode cL_law 714 = .ok (.ireturn, 1) := by decide +kernel
theorem dL_law_715 : decode cL_law 715 = .ok (.aload_n 1, 1) := by decide +kernel
theorem dL_law_716 : decode cL_law 716 = .ok (.aload_n 0, 1) := by decide +kernel
theorem dL_law_717 : decode cL_law 717 = .ok (.iload_n 3, 1) := by decide +kernel
theorem dL_law_718 : decode cL_law 718 = .ok (.iconst 1, 1) := by decide +kernel
theorem dL_law_719 : decode cL_law 719 = .ok (.iadd, 1) := by decide +kernel
theorem dL_law_720 : decode cL_law 720 = .ok (.iaload, 1) := by decide +kernel
theorem dL_law_721 : decode cL_law 721 = .ok (.aload_n 0, 1) := by decide +kernel
theorem dL_law_722 : decode cL_law 722 = .ok (.iload_n 3, 1) := by decide +kernel
theorem dL_law_723 : decode cL_law 723 = .ok (.iconst 2, 1) := by decide +kernel
theorem dL_law_724 : decode cL_law 724 = .ok (.iadd, 1) := by decide +kernel
theorem dL_law_725 : decode cL_law 725 = .ok (.iaload, 1) := by decide +kernel
theorem dL_law_726 : decode cL_law 726 = .ok (.invokevirtual 102, 3) := by decide +kernel
theorem dL_law_729 : decode cL_law 729 = .ok (.aload_n 2, 1) := by decide +kernel
theorem dL_law_730 : decode cL_law 730 = .ok (.aload_n 0, 1) := by decide +kernel
theorem dL_law_731 : decode cL_law 731 = .ok (.iload_n 3, 1) := by decide +kernel
theorem dL_law_732 : decode cL_law 732 = .ok (.iconst 1, 1) := by decide +kernel
theorem dL_law_733 : decode cL_law 733 = .ok (.iadd, 1) := by decide +kernel
theorem dL_law_734 : decode cL_law 734 = .ok (.iaload, 1) := by decide +kernel
theorem dL_law_735 : decode cL_law 735 = .ok (.aload_n 0, 1) := by decide +kernel
theorem dL_law_736 : decode cL_law 736 = .ok (.iload_n 3, 1) := by decide +kernel
theorem dL_law_737 : decode cL_law 737 = .ok (.iconst 2, 1) := by decide +kernel
theorem dL_law_738 : decode cL_law 738 = .ok (.iadd, 1) := by decide +kernel
theorem dL_law_739 : decode cL_law 739 = .ok (.iaload, 1) := by decide +kernel
theorem dL_law_740 : decode cL_law 740 = .ok (.invokevirtual 105, 3) := by decide +kernel
theorem dL_law_743 : decode cL_law 743 = .ok (.if_icmp .eq 88, 3) := by decide +kernel
theorem dL_law_746 : decode cL_law 746 = .ok (.iconst 0, 1) := by decide +kernel
theorem dL_law_747 : decode cL_law 747 = .ok (.ireturn, 1) := by decide +kernel
theorem dL_law_748 : decode cL_law 748 = .ok (.aload_n 1, 1) := by decide +kernel
theorem dL_law_749 : decode cL_law 749 = .ok (.aload_n 0, 1) := by decide +kernel
theorem dL_law_750 : decode cL_law 750 = .ok (.iload_n 3, 1) := by decide +kernel
theorem dL_law_751 : decode cL_law 751 = .ok (.iconst 1, 1) := by decide +kernel
theorem dL_law_752 : decode cL_law 752 = .ok (.iadd, 1) := by decide +kernel
theorem dL_law_753 : decode cL_law 753 = .ok (.iaload, 1) := by decide +kernel
theorem dL_law_754 : decode cL_law 754 = .ok (.invokevirtual 106, 3) := by decide +kernel
theorem dL_law_757 : decode cL_law 757 = .ok (.aload_n 2, 1) := by decide +kernel
theorem dL_law_758 : decode cL_law 758 = .ok (.aload_n 0, 1) := by decide +kernel
theorem dL_law_759 : decode cL_law 759 = .ok (.iload_n 3, 1) := by decide +kernel
theorem dL_law_760 : decode cL_law 760 = .ok (.iconst 1, 1) := by decide +kernel
theorem dL_law_761 : decode cL_law 761 = .ok (.iadd, 1) := by decide +kernel
theorem dL_law_762 : decode cL_law 762 = .ok (.iaload, 1) := by decide +kernel
theorem dL_law_763 : decode cL_law 763 = .ok (.invokevirtual 109, 3) := by decide +kernel
theorem dL_law_766 : decode cL_law 766 = .ok (.if_icmp .eq 65, 3) := by decide +kernel
theorem dL_law_769 : decode cL_law 769 = .ok (.iconst 0, 1) := by decide +kernel
theorem dL_law_770 : decode cL_law 770 = .ok (.ireturn, 1) := by decide +kernel
theorem dL_law_771 : decode cL_law 771 = .ok (.aload_n 1, 1) := by decide +kernel
theorem dL_law_772 : decode cL_law 772 = .ok (.aload_n 0, 1) := by decide +kernel
theorem dL_law_773 : decode cL_law 773 = .ok (.iload_n 3, 1) := by decide +kernel
theorem dL_law_774 : decode cL_law 774 = .ok (.iconst 1, 1) := by decide +kernel
theorem dL_law_775 : decode cL_law 775 = .ok (.iadd, 1) := by decide +kernel
theorem dL_law_776 : decode cL_law 776 = .ok (.iaload, 1) := by decide +kernel
theorem dL_law_777 : decode cL_law 777 = .ok (.invokevirtual 110, 3) := by decide +kernel
theorem dL_law_780 : decode cL_law 780 = .ok (.aload_n 2, 1) := by decide +kernel
theorem dL_law_781 : decode cL_law 781 = .ok (.aload_n 0, 1) := by decide +kernel
theorem dL_law_782 : decode cL_law 782 = .ok (.iload_n 3, 1) := by decide +kernel
theorem dL_law_783 : decode cL_law 783 = .ok (.iconst 1, 1) := by decide +kernel
theorem dL_law_784 : decode cL_law 784 = .ok (.iadd, 1) := by decide +kernel
theorem dL_law_785 : decode cL_law 785 = .ok (.iaload, 1) := by decide +kernel
theorem dL_law_786 : decode cL_law 786 = .ok (.invokevirtual 113, 3) := by decide +kernel
theorem dL_law_789 : decode cL_law 789 = .ok (.if_icmp .eq 42, 3) := by decide +kernel
theorem dL_law_792 : decode cL_law 792 = .ok (.iconst 0, 1) := by decide +kernel
theorem dL_law_793 : decode cL_law 793 = .ok (.ireturn, 1) := by decide +kernel
theorem dL_law_794 : decode cL_law 794 = .ok (.aload_n 1, 1) := by decide +kernel
theorem dL_law_795 : decode cL_law 795 = .ok (.aload_n 0, 1) := by decide +kernel
theorem dL_law_796 : decode cL_law 796 = .ok (.iload_n 3, 1) := by decide +kernel
theorem dL_law_797 : decode cL_law 797 = .ok (.iconst 1, 1) := by decide +kernel
theorem dL_law_798 : decode cL_law 798 = .ok (.iadd, 1) := by decide +kernel
theorem dL_law_799 : decode cL_law 799 = .ok (.iaload, 1) := by decide +kernel
theorem dL_law_800 : decode cL_law 800 = .ok (.invokevirtual 114, 3) := by decide +kernel
theorem dL_law_803 : decode cL_law 803 = .ok (.aload_n 2, 1) := by decide +kernel
theorem dL_law_804 : decode cL_law 804 = .ok (.aload_n 0, 1) := by decide +kernel
theorem dL_law_805 : decode cL_law 805 = .ok (.iload_n 3, 1) := by decide +kernel
theorem dL_law_806 : decode cL_law 806 = .ok (.iconst 1, 1) := by decide +kernel
theorem dL_law_807 : decode cL_law 807 = .ok (.iadd, 1) := by decide +kernel
theorem dL_law_808 : decode cL_law 808 = .ok (.iaload, 1) := by decide +kernel
theorem dL_law_809 : decode cL_law 809 = .ok (.invokevirtual 117, 3) := by decide +kernel
theorem dL_law_812 : decode cL_law 812 = .ok (.if_icmp .eq 19, 3) := by decide +kernel
theorem dL_law_815 : decode cL_law 815 = .ok (.iconst 0, 1) := by decide +kernel
theorem dL_law_816 : decode cL_law 816 = .ok (.ireturn, 1) := by decide +kernel
theorem dL_law_817 : decode cL_law 817 = .ok (.aload_n 1, 1) := by decide +kernel
theorem dL_law_818 : decode cL_law 818 = .ok (.invokevirtual 118, 3) := by decide +kernel
theorem dL_law_821 : decode cL_law 821 = .ok (.aload_n 2, 1) := by decide +kernel
theorem dL_law_822 : decode cL_law 822 = .ok (.invokevirtual 122, 3) := by decide +kernel
theorem dL_law_825 : decode cL_law 825 = .ok (.lcmp, 1) := by decide +kernel
theorem dL_law_826 : decode cL_law 826 = .ok (.ifCond .eq 5, 3) := by decide +kernel
theorem dL_law_829 : decode cL_law 829 = .ok (.iconst 0, 1) := by decide +kernel
theorem dL_law_830 : decode cL_law 830 = .ok (.ireturn, 1) := by decide +kernel
theorem dL_law_831 : decode cL_law 831 = .ok (.iinc 3 5, 3) := by decide +kernel
theorem dL_law_834 : decode cL_law 834 = .ok (.goto (-816), 3) := by decide +kernel
theorem dL_law_837 : decode cL_law 837 = .ok (.iconst 1, 1) := by decide +kernel
theorem dL_law_838 : decode cL_law 838 = .ok (.ireturn, 1) := by decide +kernel
theorem dJ6_bitCount_0f7a4_0 : decode cJ6_bitCount_0f7a4 0 = .ok (.iload_n 0, 1) := by decide +kernel
theorem dJ6_bitCount_0f7a4_1 : decode cJ6_bitCount_0f7a4 1 = .ok (.iload_n 0, 1) := by decide +kernel
theorem dJ6_bitCount_0f7a4_2 : decode cJ6_bitCount_0f7a4 2 = .ok (.iconst 1, 1) := by decide +kernel
theorem dJ6_bitCount_0f7a4_3 : decode cJ6_bitCount_0f7a4 3 = .ok (.iushr, 1) := by decide +kernel
theorem dJ6_bitCount_0f7a4_4 : decode cJ6_bitCount_0f7a4 4 = .ok (.ldc_w 265, 3) := by decide +kernel
theorem dJ6_bitCount_0f7a4_7 : decode cJ6_bitCount_0f7a4 7 = .ok (.iand, 1) := by decide +kernel
theorem dJ6_bitCount_0f7a4_8 : decode cJ6_bitCount_0f7a4 8 = .ok (.isub, 1) := by decide +kernel
theorem dJ6_bitCount_0f7a4_9 : decode cJ6_bitCount_0f7a4 9 = .ok (.istore_n 0, 1) := by decide +kernel
theorem dJ6_bitCount_0f7a4_10 : decode cJ6_bitCount_0f7a4 10 = .ok (.iload_n 0, 1) := by decide +kernel
theorem dJ6_bitCount_0f7a4_11 : decode cJ6_bitCount_0f7a4 11 = .ok (.ldc_w 266, 3) := by decide +kernel
theorem dJ6_bitCount_0f7a4_14 : decode cJ6_bitCount_0f7a4 14 = .ok (.iand, 1) := by decide +kernel
theorem dJ6_bitCount_0f7a4_15 : decode cJ6_bitCount_0f7a4 15 = .ok (.iload_n 0, 1) := by decide +kernel
theorem dJ6_bitCount_0f7a4_16 : decode cJ6_bitCount_0f7a4 16 = .ok (.iconst 2, 1) := by decide +kernel
theorem dJ6_bitCount_0f7a4_17 : decode cJ6_bitCount_0f7a4 17 = .ok (.iushr, 1) := by decide +kernel
theorem dJ6_bitCount_0f7a4_18 : decode cJ6_bitCount_0f7a4 18 = .ok (.ldc_w 266, 3) := by decide +kernel
theorem dJ6_bitCount_0f7a4_21 : decode cJ6_bitCount_0f7a4 21 = .ok (.iand, 1) := by decide +kernel
theorem dJ6_bitCount_0f7a4_22 : decode cJ6_bitCount_0f7a4 22 = .ok (.iadd, 1) := by decide +kernel
theorem dJ6_bitCount_0f7a4_23 : decode cJ6_bitCount_0f7a4 23 = .ok (.istore_n 0, 1) := by decide +kernel
theorem dJ6_bitCount_0f7a4_24 : decode cJ6_bitCount_0f7a4 24 = .ok (.iload_n 0, 1) := by decide +kernel
theorem dJ6_bitCount_0f7a4_25 : decode cJ6_bitCount_0f7a4 25 = .ok (.iload_n 0, 1) := by decide +kernel
theorem dJ6_bitCount_0f7a4_26 : decode cJ6_bitCount_0f7a4 26 = .ok (.iconst 4, 1) := by decide +kernel
theorem dJ6_bitCount_0f7a4_27 : decode cJ6_bitCount_0f7a4 27 = .ok (.iushr, 1) := by decide +kernel
theorem dJ6_bitCount_0f7a4_28 : decode cJ6_bitCount_0f7a4 28 = .ok (.iadd, 1) := by decide +kernel
theorem dJ6_bitCount_0f7a4_29 : decode cJ6_bitCount_0f7a4 29 = .ok (.ldc_w 267, 3) := by decide +kernel
theorem dJ6_bitCount_0f7a4_32 : decode cJ6_bitCount_0f7a4 32 = .ok (.iand, 1) := by decide +kernel
theorem dJ6_bitCount_0f7a4_33 : decode cJ6_bitCount_0f7a4 33 = .ok (.istore_n 0, 1) := by decide +kernel
theorem dJ6_bitCount_0f7a4_34 : decode cJ6_bitCount_0f7a4 34 = .ok (.iload_n 0, 1) := by decide +kernel
theorem dJ6_bitCount_0f7a4_35 : decode cJ6_bitCount_0f7a4 35 = .ok (.iload_n 0, 1) := by decide +kernel
theorem dJ6_bitCount_0f7a4_36 : decode cJ6_bitCount_0f7a4 36 = .ok (.bipush 8, 2) := by decide +kernel
theorem dJ6_bitCount_0f7a4_38 : decode cJ6_bitCount_0f7a4 38 = .ok (.iushr, 1) := by decide +kernel
theorem dJ6_bitCount_0f7a4_39 : decode cJ6_bitCount_0f7a4 39 = .ok (.iadd, 1) := by decide +kernel
theorem dJ6_bitCount_0f7a4_40 : decode cJ6_bitCount_0f7a4 40 = .ok (.istore_n 0, 1) := by decide +kernel
theorem dJ6_bitCount_0f7a4_41 : decode cJ6_bitCount_0f7a4 41 = .ok (.iload_n 0, 1) := by decide +kernel
theorem dJ6_bitCount_0f7a4_42 : decode cJ6_bitCount_0f7a4 42 = .ok (.iload_n 0, 1) := by decide +kernel
theorem dJ6_bitCount_0f7a4_43 : decode cJ6_bitCount_0f7a4 43 = .ok (.bipush 16, 2) := by decide +kernel
theorem dJ6_bitCount_0f7a4_45 : decode cJ6_bitCount_0f7a4 45 = .ok (.iushr, 1) := by decide +kernel
theorem dJ6_bitCount_0f7a4_46 : decode cJ6_bitCount_0f7a4 46 = .ok (.iadd, 1) := by decide +kernel
theorem dJ6_bitCount_0f7a4_47 : decode cJ6_bitCount_0f7a4 47 = .ok (.istore_n 0, 1) := by decide +kernel
theorem dJ6_bitCount_0f7a4_48 : decode cJ6_bitCount_0f7a4 48 = .ok (.iload_n 0, 1) := by decide +kernel
theorem dJ6_bitCount_0f7a4_49 : decode cJ6_bitCount_0f7a4 49 = .ok (.bipush 63, 2) := by decide +kernel
theorem dJ6_bitCount_0f7a4_51 : decode cJ6_bitCount_0f7a4 51 = .ok (.iand, 1) := by decide +kernel
theorem dJ6_bitCount_0f7a4_52 : decode cJ6_bitCount_0f7a4 52 = .ok (.ireturn, 1) := by decide +kernel
theorem dJ7_fill_53178_0 : decode cJ7_fill_53178 0 = .ok (.iconst 0, 1) := by decide +kernel
theorem dJ7_fill_53178_1 : decode cJ7_fill_53178 1 = .ok (.istore_n 2, 1) := by decide +kernel
theorem dJ7_fill_53178_2 : decode cJ7_fill_53178 2 = .ok (.aload_n 0, 1) := by decide +kernel
theorem dJ7_fill_53178_3 : decode cJ7_fill_53178 3 = .ok (.arraylength, 1) := by decide +kernel
theorem dJ7_fill_53178_4 : decode cJ7_fill_53178 4 = .ok (.istore_n 3, 1) := by decide +kernel
theorem dJ7_fill_53178_5 : decode cJ7_fill_53178 5 = .ok (.iload_n 2, 1) := by decide +kernel
theorem dJ7_fill_53178_6 : decode cJ7_fill_53178 6 = .ok (.iload_n 3, 1) := by decide +kernel
theorem dJ7_fill_53178_7 : decode cJ7_fill_53178 7 = .ok (.if_icmp .ge 13, 3) := by decide +kernel
theorem dJ7_fill_53178_10 : decode cJ7_fill_53178 10 = .ok (.aload_n 0, 1) := by decide +kernel
theorem dJ7_fill_53178_11 : decode cJ7_fill_53178 11 = .ok (.iload_n 2, 1) := by decide +kernel
theorem dJ7_fill_53178_12 : decode cJ7_fill_53178 12 = .ok (.iload_n 1, 1) := by decide +kernel
theorem dJ7_fill_53178_13 : decode cJ7_fill_53178 13 = .ok (.iastore, 1) := by decide +kernel
theorem dJ7_fill_53178_14 : decode cJ7_fill_53178 14 = .ok (.iinc 2 1, 3) := by decide +kernel
theorem dJ7_fill_53178_17 : decode cJ7_fill_53178 17 = .ok (.goto (-12), 3) := by decide +kernel
theorem dJ7_fill_53178_20 : decode cJ7_fill_53178 20 = .ok (.return_, 1) := by decide +kernel
theorem dJ9_max_7cf53_0 : decode cJ9_max_7cf53 0 = .ok (.iload_n 0, 1) := by decide +kernel
theorem dJ9_max_7cf53_1 : decode cJ9_max_7cf53 1 = .ok (.iload_n 1, 1) := by decide +kernel
theorem dJ9_max_7cf53_2 : decode cJ9_max_7cf53 2 = .ok (.if_icmp .lt 7, 3) := by decide +kernel
theorem dJ9_max_7cf53_5 : decode cJ9_max_7cf53 5 = .ok (.iload_n 0, 1) := by decide +kernel
theorem dJ9_max_7cf53_6 : decode cJ9_max_7cf53 6 = .ok (.goto 4, 3) := by decide +kernel
theorem dJ9_max_7cf53_9 : decode cJ9_max_7cf53 9 = .ok (.iload_n 1, 1) := by decide +kernel
theorem dJ9_max_7cf53_10 : decode cJ9_max_7cf53 10 = .ok (.ireturn, 1) := by decide +kernel
theorem dJ9_min_7cf53_0 : decode cJ9_min_7cf53 0 = .ok (.iload_n 0, 1) := by decide +kernel
theorem dJ9_min_7cf53_1 : decode cJ9_min_7cf53 1 = .ok (.iload_n 1, 1) := by decide +kernel
theorem dJ9_min_7cf53_2 : decode cJ9_min_7cf53 2 = .ok (.if_icmp .gt 7, 3) := by decide +kernel
theorem dJ9_min_7cf53_5 : decode cJ9_min_7cf53 5 = .ok (.iload_n 0, 1) := by decide +kernel
theorem dJ9_min_7cf53_6 : decode cJ9_min_7cf53 6 = .ok (.goto 4, 3) := by decide +kernel
theorem dJ9_min_7cf53_9 : decode cJ9_min_7cf53 9 = .ok (.iload_n 1, 1) := by decide +kernel
theorem dJ9_min_7cf53_10 : decode cJ9_min_7cf53 10 = .ok (.ireturn, 1) := by decide +kernel
end
section
/-! abstract states: S the shapes of the cells made so far (kind, length), I their ints, R their references, L their longs -/
abbrev Hi : Type := Nat → Nat → Int32
abbrev Hr : Type := Nat → Nat → Option Nat
abbrev Hl : Type := Nat → Nat → Int64
abbrev Shp : Type := List (Nat × Nat)
/-- launch, first address, script's address, length, contents, classes, class numbers of the arrays -/
abbrev GP : Type := Launch × Nat × Nat × Nat × (Nat → Int32) × va_G × ClassId × ClassId × ClassId
abbrev gl (G : GP) : Launch := G.1
abbrev gN (G : GP) : Nat := G.2.1
abbrev gB (G : GP) : Nat := G.2.2.1
abbrev gL (G : GP) : Nat := G.2.2.2.1
abbrev gX (G : GP) : Nat → Int32 := G.2.2.2.2.1
abbrev gD (G : GP) : va_G := G.2.2.2.2.2.1
abbrev gI (G : GP) : ClassId := G.2.2.2.2.2.2.1
abbrev gZ (G : GP) : ClassId := G.2.2.2.2.2.2.2.1
abbrev gQ (G : GP) : ClassId := G.2.2.2.2.2.2.2.2
def gT (G : GP) : List (ClassId × FieldType) := [(gI G, .int), (gZ G, .boolean), (gQ G, .object RX3)]
def gA (G : GP) : Nat → Prop := fun q => gN G ≤ q
/-- the words that a callee may be given -/
def gtbl : List Cond := lw_tbl.filter goodWord
def isNest : Cond → Bool
  | .methodLinkNest .. => true
  | _ => false
def ntbl : List Cond := lw_tbl.filter isNest
theorem gmem {w : Cond} (h : w ∈ lw_tbl) (hg : goodWord w = true) : w ∈ gtbl := List.mem_filter.mpr ⟨h, hg⟩
theorem nmem {w : Cond} (h : w ∈ lw_tbl) (hg : isNest w = true) : w ∈ ntbl := List.mem_filter.mpr ⟨h, hg⟩
/-! classes by number -/
def cTy (ci : Nat) : Nat → FieldType := match ci with
  | 0 => tyX0
  | 1 => tyX1
  | 2 => tyX2
  | 3 => tyX3
  | 4 => tyX4
  | 5 => tyX5
  | 6 => tyX6
  | _ => tyX7
def cTb (ci : Nat) : u_T := match ci with
  | 0 => TX0
  | 1 => TX1
  | 2 => TX2
  | 3 => TX3
  | 4 => TX4
  | 5 => TX5
  | 6 => TX6
  | _ => TX7
def cNm (ci : Nat) : String := match ci with
  | 0 => RX0
  | 1 => RX1
  | 2 => RX2
  | 3 => RX3
  | 4 => RX4
  | 5 => RX5
  | 6 => RX6
  | _ => RX7
def cNf (ci : Nat) : Nat := match ci with
  | 0 => 10
  | 1 => 3
  | 2 => 1
  | 3 => 6
  | 4 => 4
  | 5 => 6
  | 6 => 10
  | _ => 36
theorem c8 {P : Nat → Prop} (h0 : P 0) (h1 : P 1) (h2 : P 2) (h3 : P 3) (h4 : P 4) (h5 : P 5) (h6 : P 6) (h7 : P 7) {ci : Nat} (h : ci < 8) : P ci := by
  have hc : ci = 0 ∨ ci = 1 ∨ ci = 2 ∨ ci = 3 ∨ ci = 4 ∨ ci = 5 ∨ ci = 6 ∨ ci = 7 := by omega
  rcases hc with rfl | rfl | rfl | rfl | rfl | rfl | rfl | rfl <;> assumption
theorem vwCl_at {ci : Nat} (h : ci < 8) : vwCl[ci]? = some (cNm ci, cTb ci, cNf ci) := c8 (P := fun ci => vwCl[ci]? = some (cNm ci, cTb ci, cNf ci)) rfl rfl rfl rfl rfl rfl rfl rfl h
theorem cTy_ok {ci : Nat} (h : ci < 8) : ∀ k, k < cNf ci → parseFieldDescriptor (cTb ci k).2.2.1 = some (cTy ci k) :=
  c8 (P := fun ci => ∀ k, k < cNf ci → parseFieldDescriptor (cTb ci k).2.2.1 = some (cTy ci k)) tyX0_ok tyX1_ok tyX2_ok tyX3_ok tyX4_ok tyX5_ok tyX6_ok tyX7_ok h
theorem cNm_ok {ci : Nat} (h : ci < 8) : ∀ a, a < cNf ci → ∀ b, b < cNf ci → a ≠ b → (cTb ci a).2.1 ≠ (cTb ci b).2.1 :=
  c8 (P := fun ci => ∀ a, a < cNf ci → ∀ b, b < cNf ci → a ≠ b → (cTb ci a).2.1 ≠ (cTb ci b).2.1) nmX0 nmX1 nmX2 nmX3 nmX4 nmX5 nmX6 nmX7 h
set_option maxRecDepth 100000 in
theorem cIn_all : ((List.range 8).all fun ci => (u_ws (cNm ci) (cTb ci) (cNf ci)).all fun w => decide (w ∈ lw_tbl) && goodWord w) = true := by decide +kernel
theorem cIn {ci : Nat} (h : ci < 8) : ∀ w ∈ u_ws (cNm ci) (cTb ci) (cNf ci), w ∈ gtbl := by
  intro w hw
  have h1 := List.all_eq_true.mp cIn_all ci (List.mem_range.mpr h)
  have h2 := List.all_eq_true.mp h1 w hw
  simp only [Bool.and_eq_true, decide_eq_true_eq] at h2
  exact gmem h2.1 h2.2
/-- what a field holds: 0 an int, 1 a long, 2 a reference -/
def fkd (ci j : Nat) : Nat := match cTy ci j with
  | .long => 1
  | .array _ => 2
  | .object _ => 2
  | _ => 0
def fv (G : GP) (I : Hi) (R : Hr) (L : Hl) (ci k j : Nat) : Value := match fkd ci j with
  | 0 => .int (I k j)
  | 1 => .long (L k j)
  | _ => va_rf ((R k j).map (gN G + ·))
def fvs (G : GP) (I : Hi) (R : Hr) (L : Hl) (ci k : Nat) : List Value := (List.range (cNf ci)).map (fv G I R L ci k)
/-- a cell: 0 .. 7 an object, 8 an int array, 9 a boolean array, 10 an array of Now -/
def ce (G : GP) (I : Hi) (R : Hr) (L : Hl) (k : Nat) (sh : Nat × Nat) : va_E :=
  if sh.1 < 8 then .inr (sh.1, fvs G I R L sh.1 k)
  else if sh.1 = 8 then .inl (gI G, sh.2, .inl (I k))
  else if sh.1 = 9 then .inl (gZ G, sh.2, .inl (I k))
  else .inl (gQ G, sh.2, .inr (.inr (.inr (.inr (fun j => (R k j).map (gN G + ·))))))
def wd (G : GP) (S : Shp) (I : Hi) (R : Hr) (L : Hl) : va_W := S.mapIdx (fun k sh => (gN G + k, ce G I R L k sh))
section BASE
variable {G : GP} {S : Shp} {I I' : Hi} {R R' : Hr} {L L' : Hl} {k j : Nat} {sh : Nat × Nat}
theorem wd_at (h : S[k]? = some sh) : (wd G S I R L)[k]? = some (gN G + k, ce G I R L k sh) := by
  simp [wd, List.getElem?_mapIdx, h]
theorem wd_inv {q : Nat × va_E} (h : (wd G S I R L)[k]? = some q) : ∃ sh, S[k]? = some sh ∧ q = (gN G + k, ce G I R L k sh) := by
  rw [wd, List.getElem?_mapIdx] at h
  cases hs : S[k]? with
  | none => rw [hs] at h; cases h
  | some sh => rw [hs] at h; exact ⟨sh, rfl, (Option.some.inj h).symm⟩
theorem wd_D : va_D (gA G) (wd G S I R L) := by
  refine ⟨fun i j p q hp hq e => ?_, fun k q hq => ?_⟩
  · obtain ⟨_, _, rfl⟩ := wd_inv hp
    obtain ⟨_, _, rfl⟩ := wd_inv hq
    have e : gN G + i = gN G + j := e
    omega
  · obtain ⟨_, _, rfl⟩ := wd_inv hq
    exact Nat.le_add_right _ _
theorem fvs_congr {ci : Nat} (hi : I' k = I k) (hr : R' k = R k) (hl : L' k = L k) : fvs G I' R' L' ci k = fvs G I R L ci k := by
  have : fv G I' R' L' ci k = fv G I R L ci k := by
    funext j
    simp only [fv, hi, hr, hl]
  simp only [fvs, this]
theorem ce_congr (hi : I' k = I k) (hr : R' k = R k) (hl : L' k = L k) : ce G I' R' L' k sh = ce G I R L k sh := by
  simp only [ce, fvs_congr hi hr hl, hi, hr]
theorem wd_set (h : S[k]? = some sh) (hi : ∀ a, a ≠ k → I' a = I a) (hr : ∀ a, a ≠ k → R' a = R a) (hl : ∀ a, a ≠ k → L' a = L a) : (wd G S I R L).set k (gN G + k, ce G I' R' L' k sh) = wd G S I' R' L' := by
  have hk : k < (wd G S I R L).length := (List.getElem?_eq_some_iff.mp (wd_at (G := G) (I := I) (R := R) (L := L) h)).1
  apply List.ext_getElem?
  intro i
  by_cases hik : i = k
  · subst hik
    rw [List.getElem?_set_self hk, wd_at h]
  · rw [List.getElem?_set_ne (Ne.symm hik)]
    simp only [wd, List.getElem?_mapIdx]
    cases S[i]? with
    | none => rfl
    | some s2 => simp only [Option.map_some]; rw [ce_congr (hi i hik) (hr i hik) (hl i hik)]
theorem wd_push (hi : ∀ a, a < S.length → I' a = I a) (hr : ∀ a, a < S.length → R' a = R a) (hl : ∀ a, a < S.length → L' a = L a) : wd G (S ++ [sh]) I' R' L' = wd G S I R L ++ [(gN G + S.length, ce G I' R' L' S.length sh)] := by
  apply List.ext_getElem?
  intro i
  have hlen : (wd G S I R L).length = S.length := by simp [wd]
  by_cases h1 : i < S.length
  · rw [List.getElem?_append_left (by rw [hlen]; exact h1)]
    simp only [wd, List.getElem?_mapIdx]
    rw [List.getElem?_append_left h1]
    cases S[i]? with
    | none => rfl
    | some s2 => simp only [Option.map_some]; rw [ce_congr (hi i h1) (hr i h1) (hl i h1)]
  · by_cases h2 : i = S.length
    · subst h2
      rw [List.getElem?_append_right (by rw [hlen]; exact Nat.le_refl _), hlen, Nat.sub_self]
      simp only [wd, List.getElem?_mapIdx]
      rw [List.getElem?_append_right (Nat.le_refl _), Nat.sub_self]
      rfl
    · rw [List.getElem?_eq_none (by simp [wd]; omega), List.getElem?_eq_none (by simp [wd]; omega)]
theorem fvs_at {ci : Nat} (hj : j < cNf ci) : (fvs G I R L ci k)[j]? = some (fv G I R L ci k j) := by
  simp [fvs, hj]
theorem ce_obj (h : sh.1 < 8) : ce G I R L k sh = .inr (sh.1, fvs G I R L sh.1 k) := by simp [ce, h]
theorem ce_int {n : Nat} : ce G I R L k (8, n) = .inl (gI G, n, .inl (I k)) := rfl
theorem ce_bool {n : Nat} : ce G I R L k (9, n) = .inl (gZ G, n, .inl (I k)) := rfl
theorem ce_ref {n : Nat} : ce G I R L k (10, n) = .inl (gQ G, n, .inr (.inr (.inr (.inr (fun j => (R k j).map (gN G + ·)))))) := rfl
end BASE
/-! updates -/
def u2 {α : Type} (f : Nat → Nat → α) (k j : Nat) (v : α) : Nat → Nat → α := fun a b => if a = k ∧ b = j then v else f a b
def rs {α : Type} (f : Nat → Nat → α) (k : Nat) (g : Nat → α) : Nat → Nat → α := fun a b => if a = k then g b else f a b
section UPD
variable {α : Type} {f : Nat → Nat → α} {k j a b : Nat} {v : α} {g : Nat → α}
theorem u2_s : u2 f k j v k j = v := if_pos ⟨rfl, rfl⟩
theorem u2_r (h : a ≠ k) : u2 f k j v a b = f a b := if_neg fun q => h q.1
theorem u2_c (h : b ≠ j) : u2 f k j v a b = f a b := if_neg fun q => h q.2
theorem u2_row (h : a ≠ k) : u2 f k j v a = f a := funext fun _ => u2_r h
theorem rs_s : rs f k g k b = g b := if_pos rfl
theorem rs_sr : rs f k g k = g := funext fun _ => rs_s
theorem rs_r (h : a ≠ k) : rs f k g a b = f a b := if_neg h
theorem rs_row (h : a ≠ k) : rs f k g a = f a := funext fun _ => rs_r h
end UPD
section FLD
variable {G : GP} {S : Shp} {I : Hi} {R : Hr} {L : Hl} {k j ci : Nat}
theorem fvs_setI {x : Int32} (hk : fkd ci j = 0) : (fvs G I R L ci k).set j (.int x) = fvs G (u2 I k j x) R L ci k := by
  apply List.ext_getElem?
  intro i
  by_cases hij : i = j
  · subst hij
    by_cases hl : i < cNf ci
    · rw [List.getElem?_set_self (by simp [fvs, hl]), fvs_at hl]
      simp only [fv, hk, u2_s]
    · rw [List.getElem?_eq_none (by simp [fvs]; omega), List.getElem?_eq_none (by simp [fvs]; omega)]
  · rw [List.getElem?_set_ne (Ne.symm hij)]
    by_cases hl : i < cNf ci
    · rw [fvs_at hl, fvs_at hl]
      simp only [fv, u2_c (a := k) hij]
    · rw [List.getElem?_eq_none (by simp [fvs]; omega), List.getElem?_eq_none (by simp [fvs]; omega)]
theorem fvs_setL {x : Int64} (hk : fkd ci j = 1) : (fvs G I R L ci k).set j (.long x) = fvs G I R (u2 L k j x) ci k := by
  apply List.ext_getElem?
  intro i
  by_cases hij : i = j
  · subst hij
    by_cases hl : i < cNf ci
    · rw [List.getElem?_set_self (by simp [fvs, hl]), fvs_at hl]
      simp only [fv, hk, u2_s]
    · rw [List.getElem?_eq_none (by simp [fvs]; omega), List.getElem?_eq_none (by simp [fvs]; omega)]
  · rw [List.getElem?_set_ne (Ne.symm hij)]
    by_cases hl : i < cNf ci
    · rw [fvs_at hl, fvs_at hl]
      simp only [fv, u2_c (a := k) hij]
    · rw [List.getElem?_eq_none (by simp [fvs]; omega), List.getElem?_eq_none (by simp [fvs]; omega)]
theorem fvs_setR {x : Nat} (hk : fkd ci j = 2) : (fvs G I R L ci k).set j (.ref (gN G + x)) = fvs G I (u2 R k j (some x)) L ci k := by
  apply List.ext_getElem?
  intro i
  by_cases hij : i = j
  · subst hij
    by_cases hl : i < cNf ci
    · rw [List.getElem?_set_self (by simp [fvs, hl]), fvs_at hl]
      simp only [fv, hk, u2_s]
      rfl
    · rw [List.getElem?_eq_none (by simp [fvs]; omega), List.getElem?_eq_none (by simp [fvs]; omega)]
  · rw [List.getElem?_set_ne (Ne.symm hij)]
    by_cases hl : i < cNf ci
    · rw [fvs_at hl, fvs_at hl]
      simp only [fv, u2_c (a := k) hij]
    · rw [List.getElem?_eq_none (by simp [fvs]; omega), List.getElem?_eq_none (by simp [fvs]; omega)]
end FLD
/-! values, locals -/
def rv (G : GP) : Value → Value
  | .ref k => .ref (gN G + k)
  | .float _ => .ref (gB G)
  | v => v
theorem rv_cat (G : GP) (v : Value) : (rv G v).category = v.category := by cases v <;> rfl
theorem rv_cats (G : GP) (st : List Value) : ((st.map (rv G)).map fun v => v.category).sum = (st.map fun v => v.category).sum := by
  rw [List.map_map]
  congr 1
  apply List.map_congr_left
  intro v _
  exact rv_cat G v
/-- the locals: .null says nothing of its place -/
def lrel (G : GP) (la : Array Slot) (nL : Nat) (ls : List Value) : Prop := la.size = nL ∧ lv_wf la ∧ ∀ (i : Nat) (v : Value), ls[i]? = some v → v ≠ .null → la[i]? = some (.val (rv G v))
/-- no long stands right before place i -/
def okl (ls : List Value) (i : Nat) : Bool := match i with
  | 0 => true
  | j + 1 => match ls[j]? with
    | some (.long _) => false
    | some (.double _) => false
    | _ => true
theorem okl_spec {ls : List Value} {i j : Nat} {v : Value} (h : okl ls i = true) (hj : j + 1 = i) (hv : ls[j]? = some v) : v.category ≠ 2 := by
  subst hj
  simp only [okl, hv] at h
  cases v <;> simp_all [Value.category]
def al (G : GP) (ls : List Value) : List (Nat × Value) := (ls.zipIdx.filter (fun q => !(q.1 == .null))).map (fun q => (q.2, rv G q.1))
theorem al_mem {G : GP} {ls : List Value} {q : Nat × Value} (h : q ∈ al G ls) : ∃ v, ls[q.1]? = some v ∧ v ≠ .null ∧ q.2 = rv G v := by
  obtain ⟨x, hx, rfl⟩ := List.mem_map.mp h
  obtain ⟨h1, h2⟩ := List.mem_filter.mp hx
  obtain ⟨v, i⟩ := x
  have h3 := List.mem_zipIdx_iff_getElem?.mp h1
  exact ⟨v, h3, by simpa using h2, rfl⟩
theorem al_in {G : GP} {ls : List Value} {i : Nat} {v : Value} (h : ls[i]? = some v) (hv : v ≠ .null) : (i, rv G v) ∈ al G ls := by
  refine List.mem_map.mpr ⟨(v, i), List.mem_filter.mpr ⟨List.mem_zipIdx_iff_getElem?.mpr h, ?_⟩, rfl⟩
  simpa using hv
theorem lrel.has {G : GP} {la : Array Slot} {nL : Nat} {ls : List Value} (h : lrel G la nL ls) : lv_has la nL (al G ls) := by
  refine ⟨h.1, h.2.1, fun q hq => ?_⟩
  obtain ⟨v, h1, h2, h3⟩ := al_mem hq
  rw [h3]
  exact h.2.2 q.1 v h1 h2
theorem lrel.store1 {G : GP} {la' : Array Slot} {nL i : Nat} {ls : List Value} {v : Value} (ho : okl ls i = true) (h' : lv_has la' nL ((i, rv G v) :: (al G ls).filter (fun q => !(q.1 == i) && !(q.1 + 1 == i && q.2.category == 2)))) : lrel G la' nL (ls.set i v) := by
  refine ⟨h'.1, h'.2.1, fun j w hj hw => ?_⟩
  by_cases hji : j = i
  · subst hji
    have hlt : j < ls.length := by
      have := (List.getElem?_eq_some_iff.mp hj).1
      simpa using this
    rw [List.getElem?_set_self hlt] at hj
    cases hj
    exact h'.2.2 (j, rv G v) List.mem_cons_self
  · rw [List.getElem?_set_ne (Ne.symm hji)] at hj
    refine h'.2.2 (j, rv G w) (List.mem_cons_of_mem _ (List.mem_filter.mpr ⟨al_in hj hw, ?_⟩))
    have h2 : ∀ _ : j + 1 = i, ¬ (rv G w).category = 2 := fun e => by rw [rv_cat]; exact okl_spec ho e hj
    by_cases hj1 : j + 1 = i
    · simp [hji, h2 hj1]
    · simp [hji, hj1]
theorem lrel.store2 {G : GP} {la' : Array Slot} {nL i : Nat} {ls : List Value} {v : Value} (ho : okl ls i = true) (h' : lv_has la' nL ((i, rv G v) :: (al G ls).filter (fun q => !(q.1 == i) && (!(q.1 == i + 1) && !(q.1 + 1 == i && q.2.category == 2))))) : lrel G la' nL ((ls.set i v).set (i + 1) .null) := by
  refine ⟨h'.1, h'.2.1, fun j w hj hw => ?_⟩
  by_cases hji1 : j = i + 1
  · subst hji1
    have hlt : i + 1 < (ls.set i v).length := by
      have := (List.getElem?_eq_some_iff.mp hj).1
      simpa using this
    rw [List.getElem?_set_self hlt] at hj
    cases hj
    exact absurd rfl hw
  · rw [List.getElem?_set_ne (Ne.symm hji1)] at hj
    by_cases hji : j = i
    · subst hji
      have hlt : j < ls.length := by
        have := (List.getElem?_eq_some_iff.mp hj).1
        simpa using this
      rw [List.getElem?_set_self hlt] at hj
      cases hj
      exact h'.2.2 (j, rv G v) List.mem_cons_self
    · rw [List.getElem?_set_ne (Ne.symm hji)] at hj
      refine h'.2.2 (j, rv G w) (List.mem_cons_of_mem _ (List.mem_filter.mpr ⟨al_in hj hw, ?_⟩))
      have h2 : ∀ _ : j + 1 = i, ¬ (rv G w).category = 2 := fun e => by rw [rv_cat]; exact okl_spec ho e hj
      by_cases hj1 : j + 1 = i
      · simp [hji, hji1, h2 hj1]
      · simp [hji, hji1, hj1]
/-- the locals at a method's entry -/
def el : List Value → List Value
  | [] => []
  | v :: vs => if v.category = 2 then v :: .null :: el vs else v :: el vs
theorem el_at (G : GP) : ∀ (vs : List Value) (b i : Nat) (v : Value), (el vs)[i]? = some v → v ≠ .null → (b + i, rv G v) ∈ lv_args b (vs.map (rv G))
  | [], _, _, _, h, _ => by simp [el] at h
  | w :: vs, b, i, v, h, hv => by
    simp only [el] at h
    simp only [List.map_cons, lv_args, rv_cat]
    by_cases hc : w.category = 2
    · rw [if_pos hc] at h ⊢
      match i, h with
      | 0, h => cases h; exact List.mem_cons_self
      | 1, h => cases h; exact absurd rfl hv
      | i + 2, h =>
        have := el_at G vs (b + 2) i v h hv
        rw [show b + (i + 2) = b + 2 + i by omega]
        exact List.mem_cons_of_mem _ this
    · rw [if_neg hc] at h ⊢
      match i, h with
      | 0, h => cases h; exact List.mem_cons_self
      | i + 1, h =>
        have := el_at G vs (b + 1) i v h hv
        rw [show b + (i + 1) = b + 1 + i by omega]
        exact List.mem_cons_of_mem _ this
theorem el_len (G : GP) : ∀ (vs : List Value), (lg_sl (vs.map (rv G))).length = (el vs).length
  | [] => rfl
  | v :: vs => by
    have ih := el_len G vs
    simp only [lg_sl, List.map_cons, List.flatMap_cons, List.length_append, el, rv_cat] at ih ⊢
    by_cases hc : v.category = 2
    · rw [if_pos hc, if_pos hc]; simp only [List.length_cons, List.length_nil]; omega
    · rw [if_neg hc, if_neg hc]; simp only [List.length_cons, List.length_nil]; omega
/-- more places that say nothing -/
theorem lrel.pad {G : GP} {la : Array Slot} {nL n : Nat} {ls : List Value} (h : lrel G la nL ls) : lrel G la nL (ls ++ List.replicate n .null) := by
  refine ⟨h.1, h.2.1, fun i v hv hn => ?_⟩
  by_cases hl : i < ls.length
  · rw [List.getElem?_append_left hl] at hv
    exact h.2.2 i v hv hn
  · rw [List.getElem?_append_right (by omega)] at hv
    have := List.mem_of_getElem? hv
    exact absurd (List.mem_replicate.mp this).2 hn
end
section
/-! methods: name, code, locals, answer, room (frames, locals, cells, slots) -/
abbrev MI : Type := MethodName × ByteArray × Nat × Option FieldType × Nat × Nat × Nat × Nat
abbrev mY (M : MI) : MethodName := M.1
abbrev mC (M : MI) : ByteArray := M.2.1
abbrev mL (M : MI) : Nat := M.2.2.1
abbrev mT (M : MI) : Option FieldType := M.2.2.2.1
abbrev mFr (M : MI) : Nat := M.2.2.2.2.1
abbrev mLo (M : MI) : Nat := M.2.2.2.2.2.1
abbrev mCe (M : MI) : Nat := M.2.2.2.2.2.2.1
abbrev mSl (M : MI) : Nat := M.2.2.2.2.2.2.2
def mRm (M : MI) : Room := { frames := mFr M, cells := mCe M, slots := mSl M, locals := mLo M }
/-- what holds of a machine state in every frame -/
def GOK (G : GP) (U : State) : Prop := va_K (gD G) vwCl (gT G) U ∧ (∀ w ∈ ntbl, va_Nw w U) ∧ va_AO RX3 U ∧ va_X (gB G) (gL G) (gX G) U U.heap ∧ gB G < gN G ∧ gN G ≤ U.heap.size
theorem GOK.moved {G : GP} {s U : State} (h : GOK G s) (hW : s.WarmedH U.vm) (hq : U.heap[gB G]? = s.heap[gB G]?) (hz : gN G ≤ U.heap.size) : GOK G U := by
  obtain ⟨h1, h2, h3, h4, h5, h6⟩ := h
  refine ⟨h1.moved hW.alike, fun w hw => ?_, h3.moved hW.alike, (h4.moved hW.alike).kept hq, h5, hz⟩
  have h7 := h2 w hw
  have h8 := (List.mem_filter.mp hw).2
  cases w <;> first | exact va_Nw.warmM hW h7 | exact absurd h8 (by simp [isNest])
abbrev CX : Type := Program × Env × Room × State × MethodId × Array Value × List Frame × Method × Code × (State → Prop)
/-- the frame of method M -/
def XOK (G : GP) (X : CX) (M : MI) : Prop := match X with
  | (p, _, Rm, s, m, args, _, meth, c, _) => p.tables.exec = Jvm.exec ∧ c.code = mC M ∧ c.maxLocals = mL M ∧ s.vm.findClass (mY M).cls = some m.cls ∧ (∀ w ∈ gtbl, w.before args s = true) ∧ meth.sig.returnType = mT M ∧ meth.locks = false ∧ meth.name = (mY M).name ∧ Rm = mRm M ∧ GOK G s
/-- from this abstract state the machine comes to its end -/
def AW (G : GP) (X : CX) (cu su : Nat) (S : Shp) (I : Hi) (R : Hr) (L : Hl) (pc : Nat) (ls st : List Value) : Prop := match X with
  | (p, e, Rm, s, m, args, below, meth, c, Z) => ∀ (H : Heap) (locs : List Loc) (la : Array Slot), s.heap.size + cu = gN G + S.length → va_P (gD G) vwCl (wd G S I R L) H → va_S (gA G) s.heap H locs → lrel G la c.maxLocals ls → W p (gl G) e Rm s m args below meth c H locs cu su Z (F0 m pc la (st.map (rv G)))
section RULES
variable {G : GP} {X : CX} {M : MI} {cu su : Nat} {S : Shp} {I : Hi} {R : Hr} {L : Hl} {pc : Nat} {ls st : List Value}
theorem aw_iconst (hX : XOK G X M) {n : Int} (v : Int32) (hd : decode (mC M) pc = .ok (.iconst n, 1)) (hv : Int32.ofInt n = v) (k : AW G X cu su S I R L (pc + 1) ls (.int v :: st)) : AW G X cu su S I R L pc ls (st) := by
  obtain ⟨p, e, Rm, s, m, args, below, meth, c, Z⟩ := X
  obtain ⟨hx, hb, hml, hown, hts, hr, hlk, hnm, hrm, hG⟩ := hX
  intro H locs la h1 h2 h3 h4
  exact lv_iconst hx hb hd hv (k H locs la h1 h2 h3 h4)
theorem aw_bipush (hX : XOK G X M) {n : Int} (v : Int32) (hd : decode (mC M) pc = .ok (.bipush n, 2)) (hv : (Int8.ofInt n).toInt32 = v) (k : AW G X cu su S I R L (pc + 2) ls (.int v :: st)) : AW G X cu su S I R L pc ls (st) := by
  obtain ⟨p, e, Rm, s, m, args, below, meth, c, Z⟩ := X
  obtain ⟨hx, hb, hml, hown, hts, hr, hlk, hnm, hrm, hG⟩ := hX
  intro H locs la h1 h2 h3 h4
  exact lv_bipush hx hb hd hv (k H locs la h1 h2 h3 h4)
theorem aw_sipush (hX : XOK G X M) {n : Int} (v : Int32) (hd : decode (mC M) pc = .ok (.sipush n, 3)) (hv : (Int16.ofInt n).toInt32 = v) (k : AW G X cu su S I R L (pc + 3) ls (.int v :: st)) : AW G X cu su S I R L pc ls (st) := by
  obtain ⟨p, e, Rm, s, m, args, below, meth, c, Z⟩ := X
  obtain ⟨hx, hb, hml, hown, hts, hr, hlk, hnm, hrm, hG⟩ := hX
  intro H locs la h1 h2 h3 h4
  exact lv_sipush hx hb hd hv (k H locs la h1 h2 h3 h4)
theorem aw_lconst (hX : XOK G X M) {n : Fin 2} (v : Int64) (hd : decode (mC M) pc = .ok (.lconst n, 1)) (hv : Int64.ofNat (n : Nat) = v) (k : AW G X cu su S I R L (pc + 1) ls (.long v :: st)) : AW G X cu su S I R L pc ls (st) := by
  obtain ⟨p, e, Rm, s, m, args, below, meth, c, Z⟩ := X
  obtain ⟨hx, hb, hml, hown, hts, hr, hlk, hnm, hrm, hG⟩ := hX
  intro H locs la h1 h2 h3 h4
  exact lv_lconst hx hb hd hv (k H locs la h1 h2 h3 h4)
theorem aw_ldc (hX : XOK G X M) {i : Nat} {v : Int32} (hd : decode (mC M) pc = .ok (.ldc i, 2)) (hc : Cond.constant (mY M).cls i v ∈ gtbl) (k : AW G X cu su S I R L (pc + 2) ls (.int v :: st)) : AW G X cu su S I R L pc ls (st) := by
  obtain ⟨p, e, Rm, s, m, args, below, meth, c, Z⟩ := X
  obtain ⟨hx, hb, hml, hown, hts, hr, hlk, hnm, hrm, hG⟩ := hX
  intro H locs la h1 h2 h3 h4
  exact lv_ldc hx hb hown (hts _ hc) hd (k H locs la h1 h2 h3 h4)
theorem aw_ldcw (hX : XOK G X M) {i : Nat} {v : Int32} (hd : decode (mC M) pc = .ok (.ldc_w i, 3)) (hc : Cond.constant (mY M).cls i v ∈ gtbl) (k : AW G X cu su S I R L (pc + 3) ls (.int v :: st)) : AW G X cu su S I R L pc ls (st) := by
  obtain ⟨p, e, Rm, s, m, args, below, meth, c, Z⟩ := X
  obtain ⟨hx, hb, hml, hown, hts, hr, hlk, hnm, hrm, hG⟩ := hX
  intro H locs la h1 h2 h3 h4
  exact lv_ldcw hx hb hown (hts _ hc) hd (k H locs la h1 h2 h3 h4)
theorem aw_ldc2 (hX : XOK G X M) {i : Nat} {v : Int64} (hd : decode (mC M) pc = .ok (.ldc2_w i, 3)) (hc : Cond.constantLong (mY M).cls i v ∈ gtbl) (k : AW G X cu su S I R L (pc + 3) ls (.long v :: st)) : AW G X cu su S I R L pc ls (st) := by
  obtain ⟨p, e, Rm, s, m, args, below, meth, c, Z⟩ := X
  obtain ⟨hx, hb, hml, hown, hts, hr, hlk, hnm, hrm, hG⟩ := hX
  intro H locs la h1 h2 h3 h4
  exact lv_ldc2 hx hb hown (hts _ hc) hd (k H locs la h1 h2 h3 h4)
theorem aw_iload_n (hX : XOK G X M) {q : Fin 4} (i : Nat) {x : Int32} (hd : decode (mC M) pc = .ok (.iload_n q, 1)) (hi : (q : Nat) = i) (hl : ls[i]? = some (.int x)) (k : AW G X cu su S I R L (pc + 1) ls (.int x :: st)) : AW G X cu su S I R L pc ls (st) := by
  obtain ⟨p, e, Rm, s, m, args, below, meth, c, Z⟩ := X
  obtain ⟨hx, hb, hml, hown, hts, hr, hlk, hnm, hrm, hG⟩ := hX
  intro H locs la h1 h2 h3 h4
  exact lv_iload_n hx hb hd hi (h4.2.2 _ _ hl (by intro h; cases h)) (k H locs la h1 h2 h3 h4)
theorem aw_iload (hX : XOK G X M) {i : Nat} {x : Int32} (hd : decode (mC M) pc = .ok (.iload i, 2)) (hl : ls[i]? = some (.int x)) (k : AW G X cu su S I R L (pc + 2) ls (.int x :: st)) : AW G X cu su S I R L pc ls (st) := by
  obtain ⟨p, e, Rm, s, m, args, below, meth, c, Z⟩ := X
  obtain ⟨hx, hb, hml, hown, hts, hr, hlk, hnm, hrm, hG⟩ := hX
  intro H locs la h1 h2 h3 h4
  exact lv_iload hx hb hd (h4.2.2 _ _ hl (by intro h; cases h)) (k H locs la h1 h2 h3 h4)
theorem aw_lload_n (hX : XOK G X M) {q : Fin 4} (i : Nat) {x : Int64} (hd : decode (mC M) pc = .ok (.lload_n q, 1)) (hi : (q : Nat) = i) (hl : ls[i]? = some (.long x)) (k : AW G X cu su S I R L (pc + 1) ls (.long x :: st)) : AW G X cu su S I R L pc ls (st) := by
  obtain ⟨p, e, Rm, s, m, args, below, meth, c, Z⟩ := X
  obtain ⟨hx, hb, hml, hown, hts, hr, hlk, hnm, hrm, hG⟩ := hX
  intro H locs la h1 h2 h3 h4
  exact lv_lload_n hx hb hd hi (h4.2.2 _ _ hl (by intro h; cases h)) (k H locs la h1 h2 h3 h4)
theorem aw_lload (hX : XOK G X M) {i : Nat} {x : Int64} (hd : decode (mC M) pc = .ok (.lload i, 2)) (hl : ls[i]? = some (.long x)) (k : AW G X cu su S I R L (pc + 2) ls (.long x :: st)) : AW G X cu su S I R L pc ls (st) := by
  obtain ⟨p, e, Rm, s, m, args, below, meth, c, Z⟩ := X
  obtain ⟨hx, hb, hml, hown, hts, hr, hlk, hnm, hrm, hG⟩ := hX
  intro H locs la h1 h2 h3 h4
  exact lv_lload hx hb hd (h4.2.2 _ _ hl (by intro h; cases h)) (k H locs la h1 h2 h3 h4)
theorem aw_aload_n (hX : XOK G X M) {q : Fin 4} (i : Nat) {x : Nat} (hd : decode (mC M) pc = .ok (.aload_n q, 1)) (hi : (q : Nat) = i) (hl : ls[i]? = some (.ref x)) (k : AW G X cu su S I R L (pc + 1) ls (.ref x :: st)) : AW G X cu su S I R L pc ls (st) := by
  obtain ⟨p, e, Rm, s, m, args, below, meth, c, Z⟩ := X
  obtain ⟨hx, hb, hml, hown, hts, hr, hlk, hnm, hrm, hG⟩ := hX
  intro H locs la h1 h2 h3 h4
  exact lv_aload_n hx hb hd hi (h4.2.2 _ _ hl (by intro h; cases h)) (k H locs la h1 h2 h3 h4)
theorem aw_aload (hX : XOK G X M) {i : Nat} {x : Nat} (hd : decode (mC M) pc = .ok (.aload i, 2)) (hl : ls[i]? = some (.ref x)) (k : AW G X cu su S I R L (pc + 2) ls (.ref x :: st)) : AW G X cu su S I R L pc ls (st) := by
  obtain ⟨p, e, Rm, s, m, args, below, meth, c, Z⟩ := X
  obtain ⟨hx, hb, hml, hown, hts, hr, hlk, hnm, hrm, hG⟩ := hX
  intro H locs la h1 h2 h3 h4
  exact lv_aload hx hb hd (h4.2.2 _ _ hl (by intro h; cases h)) (k H locs la h1 h2 h3 h4)
theorem aw_sload_n (hX : XOK G X M) {q : Fin 4} (i : Nat) {x : UInt32} (hd : decode (mC M) pc = .ok (.aload_n q, 1)) (hi : (q : Nat) = i) (hl : ls[i]? = some (.float x)) (k : AW G X cu su S I R L (pc + 1) ls (.float x :: st)) : AW G X cu su S I R L pc ls (st) := by
  obtain ⟨p, e, Rm, s, m, args, below, meth, c, Z⟩ := X
  obtain ⟨hx, hb, hml, hown, hts, hr, hlk, hnm, hrm, hG⟩ := hX
  intro H locs la h1 h2 h3 h4
  exact lv_aload_n hx hb hd hi (h4.2.2 _ _ hl (by intro h; cases h)) (k H locs la h1 h2 h3 h4)
theorem aw_istore_n (hX : XOK G X M) {q : Fin 4} (i : Nat) {x : Int32} (hd : decode (mC M) pc = .ok (.istore_n q, 1)) (hi : (q : Nat) = i) (hn : i < mL M) (ho : okl ls i = true) (k : AW G X cu su S I R L (pc + 1) (ls.set i (.int x)) st) : AW G X cu su S I R L pc ls (.int x :: st) := by
  obtain ⟨p, e, Rm, s, m, args, below, meth, c, Z⟩ := X
  obtain ⟨hx, hb, hml, hown, hts, hr, hlk, hnm, hrm, hG⟩ := hX
  intro H locs la h1 h2 h3 h4
  exact lv_istore_n hx hb hd hi h4.has (by rw [hml]; exact hn) rfl (fun la2 h5 => k H locs la2 h1 h2 h3 (lrel.store1 (v := .int x) ho h5))
theorem aw_istore (hX : XOK G X M) {i : Nat} {x : Int32} (hd : decode (mC M) pc = .ok (.istore i, 2)) (hn : i < mL M) (ho : okl ls i = true) (k : AW G X cu su S I R L (pc + 2) (ls.set i (.int x)) st) : AW G X cu su S I R L pc ls (.int x :: st) := by
  obtain ⟨p, e, Rm, s, m, args, below, meth, c, Z⟩ := X
  obtain ⟨hx, hb, hml, hown, hts, hr, hlk, hnm, hrm, hG⟩ := hX
  intro H locs la h1 h2 h3 h4
  exact lv_istore hx hb hd h4.has (by rw [hml]; exact hn) rfl (fun la2 h5 => k H locs la2 h1 h2 h3 (lrel.store1 (v := .int x) ho h5))
theorem aw_astore_n (hX : XOK G X M) {q : Fin 4} (i : Nat) {x : Nat} (hd : decode (mC M) pc = .ok (.astore_n q, 1)) (hi : (q : Nat) = i) (hn : i < mL M) (ho : okl ls i = true) (k : AW G X cu su S I R L (pc + 1) (ls.set i (.ref x)) st) : AW G X cu su S I R L pc ls (.ref x :: st) := by
  obtain ⟨p, e, Rm, s, m, args, below, meth, c, Z⟩ := X
  obtain ⟨hx, hb, hml, hown, hts, hr, hlk, hnm, hrm, hG⟩ := hX
  intro H locs la h1 h2 h3 h4
  exact lv_astore_n hx hb hd hi h4.has (by rw [hml]; exact hn) rfl (fun la2 h5 => k H locs la2 h1 h2 h3 (lrel.store1 (v := .ref x) ho h5))
theorem aw_astore (hX : XOK G X M) {i : Nat} {x : Nat} (hd : decode (mC M) pc = .ok (.astore i, 2)) (hn : i < mL M) (ho : okl ls i = true) (k : AW G X cu su S I R L (pc + 2) (ls.set i (.ref x)) st) : AW G X cu su S I R L pc ls (.ref x :: st) := by
  obtain ⟨p, e, Rm, s, m, args, below, meth, c, Z⟩ := X
  obtain ⟨hx, hb, hml, hown, hts, hr, hlk, hnm, hrm, hG⟩ := hX
  intro H locs la h1 h2 h3 h4
  exact lv_astore hx hb hd h4.has (by rw [hml]; exact hn) rfl (fun la2 h5 => k H locs la2 h1 h2 h3 (lrel.store1 (v := .ref x) ho h5))
theorem aw_lstore_n (hX : XOK G X M) {q : Fin 4} (i : Nat) {x : Int64} (hd : decode (mC M) pc = .ok (.lstore_n q, 1)) (hi : (q : Nat) = i) (hn : i + 1 < mL M) (ho : okl ls i = true) (k : AW G X cu su S I R L (pc + 1) ((ls.set i (.long x)).set (i + 1) .null) st) : AW G X cu su S I R L pc ls (.long x :: st) := by
  obtain ⟨p, e, Rm, s, m, args, below, meth, c, Z⟩ := X
  obtain ⟨hx, hb, hml, hown, hts, hr, hlk, hnm, hrm, hG⟩ := hX
  intro H locs la h1 h2 h3 h4
  exact lv_lstore_n hx hb hd hi h4.has (by rw [hml]; exact hn) rfl (fun la2 h5 => k H locs la2 h1 h2 h3 (lrel.store2 (v := .long x) ho h5))
theorem aw_lstore (hX : XOK G X M) {i : Nat} {x : Int64} (hd : decode (mC M) pc = .ok (.lstore i, 2)) (hn : i + 1 < mL M) (ho : okl ls i = true) (k : AW G X cu su S I R L (pc + 2) ((ls.set i (.long x)).set (i + 1) .null) st) : AW G X cu su S I R L pc ls (.long x :: st) := by
  obtain ⟨p, e, Rm, s, m, args, below, meth, c, Z⟩ := X
  obtain ⟨hx, hb, hml, hown, hts, hr, hlk, hnm, hrm, hG⟩ := hX
  intro H locs la h1 h2 h3 h4
  exact lv_lstore hx hb hd h4.has (by rw [hml]; exact hn) rfl (fun la2 h5 => k H locs la2 h1 h2 h3 (lrel.store2 (v := .long x) ho h5))
theorem aw_iinc (hX : XOK G X M) {i : Nat} {n : Int} {x : Int32} (v : Int32) (hd : decode (mC M) pc = .ok (.iinc i n, 3)) (hl : ls[i]? = some (.int x)) (hv : x + Int32.ofInt n = v) (hn : i < mL M) (ho : okl ls i = true) (k : AW G X cu su S I R L (pc + 3) (ls.set i (.int v)) st) : AW G X cu su S I R L pc ls st := by
  obtain ⟨p, e, Rm, s, m, args, below, meth, c, Z⟩ := X
  obtain ⟨hx, hb, hml, hown, hts, hr, hlk, hnm, hrm, hG⟩ := hX
  intro H locs la h1 h2 h3 h4
  obtain ⟨j, hj⟩ := List.getElem?_of_mem (al_in (G := G) hl (by intro h; cases h))
  exact lv_iinc hx hb hd h4.has hj hv (by rw [hml]; exact hn) rfl (fun la2 h5 => k H locs la2 h1 h2 h3 (lrel.store1 (v := .int v) ho h5))
theorem aw_iadd (hX : XOK G X M) {x y : Int32} (hd : decode (mC M) pc = .ok (.iadd, 1))  (k : AW G X cu su S I R L (pc + 1) ls (.int (x + y) :: st)) : AW G X cu su S I R L pc ls (.int y :: .int x :: st) := by
  obtain ⟨p, e, Rm, s, m, args, below, meth, c, Z⟩ := X
  obtain ⟨hx, hb, hml, hown, hts, hr, hlk, hnm, hrm, hG⟩ := hX
  intro H locs la h1 h2 h3 h4
  exact lv_iadd hx hb hd (k H locs la h1 h2 h3 h4)
theorem aw_isub (hX : XOK G X M) {x y : Int32} (hd : decode (mC M) pc = .ok (.isub, 1))  (k : AW G X cu su S I R L (pc + 1) ls (.int (x - y) :: st)) : AW G X cu su S I R L pc ls (.int y :: .int x :: st) := by
  obtain ⟨p, e, Rm, s, m, args, below, meth, c, Z⟩ := X
  obtain ⟨hx, hb, hml, hown, hts, hr, hlk, hnm, hrm, hG⟩ := hX
  intro H locs la h1 h2 h3 h4
  exact lv_isub hx hb hd (k H locs la h1 h2 h3 h4)
theorem aw_imul (hX : XOK G X M) {x y : Int32} (hd : decode (mC M) pc = .ok (.imul, 1))  (k : AW G X cu su S I R L (pc + 1) ls (.int (x * y) :: st)) : AW G X cu su S I R L pc ls (.int y :: .int x :: st) := by
  obtain ⟨p, e, Rm, s, m, args, below, meth, c, Z⟩ := X
  obtain ⟨hx, hb, hml, hown, hts, hr, hlk, hnm, hrm, hG⟩ := hX
  intro H locs la h1 h2 h3 h4
  exact lv_imul hx hb hd (k H locs la h1 h2 h3 h4)
theorem aw_iand (hX : XOK G X M) {x y : Int32} (hd : decode (mC M) pc = .ok (.iand, 1))  (k : AW G X cu su S I R L (pc + 1) ls (.int (x &&& y) :: st)) : AW G X cu su S I R L pc ls (.int y :: .int x :: st) := by
  obtain ⟨p, e, Rm, s, m, args, below, meth, c, Z⟩ := X
  obtain ⟨hx, hb, hml, hown, hts, hr, hlk, hnm, hrm, hG⟩ := hX
  intro H locs la h1 h2 h3 h4
  exact lv_iand hx hb hd (k H locs la h1 h2 h3 h4)
theorem aw_ior (hX : XOK G X M) {x y : Int32} (hd : decode (mC M) pc = .ok (.ior, 1))  (k : AW G X cu su S I R L (pc + 1) ls (.int (x ||| y) :: st)) : AW G X cu su S I R L pc ls (.int y :: .int x :: st) := by
  obtain ⟨p, e, Rm, s, m, args, below, meth, c, Z⟩ := X
  obtain ⟨hx, hb, hml, hown, hts, hr, hlk, hnm, hrm, hG⟩ := hX
  intro H locs la h1 h2 h3 h4
  exact lv_ior hx hb hd (k H locs la h1 h2 h3 h4)
theorem aw_ixor (hX : XOK G X M) {x y : Int32} (hd : decode (mC M) pc = .ok (.ixor, 1))  (k : AW G X cu su S I R L (pc + 1) ls (.int (x ^^^ y) :: st)) : AW G X cu su S I R L pc ls (.int y :: .int x :: st) := by
  obtain ⟨p, e, Rm, s, m, args, below, meth, c, Z⟩ := X
  obtain ⟨hx, hb, hml, hown, hts, hr, hlk, hnm, hrm, hG⟩ := hX
  intro H locs la h1 h2 h3 h4
  exact lv_ixor hx hb hd (k H locs la h1 h2 h3 h4)
theorem aw_ishl (hX : XOK G X M) {x y : Int32} (hd : decode (mC M) pc = .ok (.ishl, 1))  (k : AW G X cu su S I R L (pc + 1) ls (.int (x <<< (y &&& 31)) :: st)) : AW G X cu su S I R L pc ls (.int y :: .int x :: st) := by
  obtain ⟨p, e, Rm, s, m, args, below, meth, c, Z⟩ := X
  obtain ⟨hx, hb, hml, hown, hts, hr, hlk, hnm, hrm, hG⟩ := hX
  intro H locs la h1 h2 h3 h4
  exact lv_ishl hx hb hd (k H locs la h1 h2 h3 h4)
theorem aw_ishr (hX : XOK G X M) {x y : Int32} (hd : decode (mC M) pc = .ok (.ishr, 1))  (k : AW G X cu su S I R L (pc + 1) ls (.int (x >>> (y &&& 31)) :: st)) : AW G X cu su S I R L pc ls (.int y :: .int x :: st) := by
  obtain ⟨p, e, Rm, s, m, args, below, meth, c, Z⟩ := X
  obtain ⟨hx, hb, hml, hown, hts, hr, hlk, hnm, hrm, hG⟩ := hX
  intro H locs la h1 h2 h3 h4
  exact lv_ishr hx hb hd (k H locs la h1 h2 h3 h4)
theorem aw_iushr (hX : XOK G X M) {x y : Int32} (hd : decode (mC M) pc = .ok (.iushr, 1))  (k : AW G X cu su S I R L (pc + 1) ls (.int ((x.toUInt32 >>> (y.toUInt32 &&& Int32.toUInt32 31)).toInt32) :: st)) : AW G X cu su S I R L pc ls (.int y :: .int x :: st) := by
  obtain ⟨p, e, Rm, s, m, args, below, meth, c, Z⟩ := X
  obtain ⟨hx, hb, hml, hown, hts, hr, hlk, hnm, hrm, hG⟩ := hX
  intro H locs la h1 h2 h3 h4
  exact lv_iushr hx hb hd rfl (k H locs la h1 h2 h3 h4)
theorem aw_idiv (hX : XOK G X M) {x y : Int32} (hd : decode (mC M) pc = .ok (.idiv, 1)) (hne : ¬ y = 0) (k : AW G X cu su S I R L (pc + 1) ls (.int (x / y) :: st)) : AW G X cu su S I R L pc ls (.int y :: .int x :: st) := by
  obtain ⟨p, e, Rm, s, m, args, below, meth, c, Z⟩ := X
  obtain ⟨hx, hb, hml, hown, hts, hr, hlk, hnm, hrm, hG⟩ := hX
  intro H locs la h1 h2 h3 h4
  exact lv_idiv hx hb hd hne (k H locs la h1 h2 h3 h4)
theorem aw_irem (hX : XOK G X M) {x y : Int32} (hd : decode (mC M) pc = .ok (.irem, 1)) (hne : ¬ y = 0) (k : AW G X cu su S I R L (pc + 1) ls (.int (x - x / y * y) :: st)) : AW G X cu su S I R L pc ls (.int y :: .int x :: st) := by
  obtain ⟨p, e, Rm, s, m, args, below, meth, c, Z⟩ := X
  obtain ⟨hx, hb, hml, hown, hts, hr, hlk, hnm, hrm, hG⟩ := hX
  intro H locs la h1 h2 h3 h4
  exact lv_irem hx hb hd hne (k H locs la h1 h2 h3 h4)
theorem aw_ladd (hX : XOK G X M) {x y : Int64} (hd : decode (mC M) pc = .ok (.ladd, 1))  (k : AW G X cu su S I R L (pc + 1) ls (.long (x + y) :: st)) : AW G X cu su S I R L pc ls (.long y :: .long x :: st) := by
  obtain ⟨p, e, Rm, s, m, args, below, meth, c, Z⟩ := X
  obtain ⟨hx, hb, hml, hown, hts, hr, hlk, hnm, hrm, hG⟩ := hX
  intro H locs la h1 h2 h3 h4
  exact lv_ladd hx hb hd (k H locs la h1 h2 h3 h4)
theorem aw_lsub (hX : XOK G X M) {x y : Int64} (hd : decode (mC M) pc = .ok (.lsub, 1))  (k : AW G X cu su S I R L (pc + 1) ls (.long (x - y) :: st)) : AW G X cu su S I R L pc ls (.long y :: .long x :: st) := by
  obtain ⟨p, e, Rm, s, m, args, below, meth, c, Z⟩ := X
  obtain ⟨hx, hb, hml, hown, hts, hr, hlk, hnm, hrm, hG⟩ := hX
  intro H locs la h1 h2 h3 h4
  exact lv_lsub hx hb hd (k H locs la h1 h2 h3 h4)
theorem aw_lmul (hX : XOK G X M) {x y : Int64} (hd : decode (mC M) pc = .ok (.lmul, 1))  (k : AW G X cu su S I R L (pc + 1) ls (.long (x * y) :: st)) : AW G X cu su S I R L pc ls (.long y :: .long x :: st) := by
  obtain ⟨p, e, Rm, s, m, args, below, meth, c, Z⟩ := X
  obtain ⟨hx, hb, hml, hown, hts, hr, hlk, hnm, hrm, hG⟩ := hX
  intro H locs la h1 h2 h3 h4
  exact lv_lmul hx hb hd (k H locs la h1 h2 h3 h4)
theorem aw_ldiv (hX : XOK G X M) {x y : Int64} (hd : decode (mC M) pc = .ok (.ldiv, 1)) (hne : ¬ y = 0) (k : AW G X cu su S I R L (pc + 1) ls (.long (x / y) :: st)) : AW G X cu su S I R L pc ls (.long y :: .long x :: st) := by
  obtain ⟨p, e, Rm, s, m, args, below, meth, c, Z⟩ := X
  obtain ⟨hx, hb, hml, hown, hts, hr, hlk, hnm, hrm, hG⟩ := hX
  intro H locs la h1 h2 h3 h4
  exact lv_ldiv hx hb hd hne (k H locs la h1 h2 h3 h4)
theorem aw_lrem (hX : XOK G X M) {x y : Int64} (hd : decode (mC M) pc = .ok (.lrem, 1)) (hne : ¬ y = 0) (k : AW G X cu su S I R L (pc + 1) ls (.long (x - x / y * y) :: st)) : AW G X cu su S I R L pc ls (.long y :: .long x :: st) := by
  obtain ⟨p, e, Rm, s, m, args, below, meth, c, Z⟩ := X
  obtain ⟨hx, hb, hml, hown, hts, hr, hlk, hnm, hrm, hG⟩ := hX
  intro H locs la h1 h2 h3 h4
  exact lv_lrem hx hb hd hne (k H locs la h1 h2 h3 h4)
theorem aw_i2l (hX : XOK G X M) {x : Int32} (hd : decode (mC M) pc = .ok (.i2l, 1))  (k : AW G X cu su S I R L (pc + 1) ls (.long x.toInt64 :: st)) : AW G X cu su S I R L pc ls (.int x :: st) := by
  obtain ⟨p, e, Rm, s, m, args, below, meth, c, Z⟩ := X
  obtain ⟨hx, hb, hml, hown, hts, hr, hlk, hnm, hrm, hG⟩ := hX
  intro H locs la h1 h2 h3 h4
  exact lv_i2l hx hb hd rfl (k H locs la h1 h2 h3 h4)
theorem aw_l2i (hX : XOK G X M) {x : Int64} (hd : decode (mC M) pc = .ok (.l2i, 1))  (k : AW G X cu su S I R L (pc + 1) ls (.int x.toInt32 :: st)) : AW G X cu su S I R L pc ls (.long x :: st) := by
  obtain ⟨p, e, Rm, s, m, args, below, meth, c, Z⟩ := X
  obtain ⟨hx, hb, hml, hown, hts, hr, hlk, hnm, hrm, hG⟩ := hX
  intro H locs la h1 h2 h3 h4
  exact lv_l2i hx hb hd rfl (k H locs la h1 h2 h3 h4)
theorem aw_lcmp (hX : XOK G X M) {x y : Int64} (hd : decode (mC M) pc = .ok (.lcmp, 1))  (k : AW G X cu su S I R L (pc + 1) ls (.int (lg_cmp x y) :: st)) : AW G X cu su S I R L pc ls (.long y :: .long x :: st) := by
  obtain ⟨p, e, Rm, s, m, args, below, meth, c, Z⟩ := X
  obtain ⟨hx, hb, hml, hown, hts, hr, hlk, hnm, hrm, hG⟩ := hX
  intro H locs la h1 h2 h3 h4
  exact W.lcmp hx hb hd (k H locs la h1 h2 h3 h4)
theorem aw_dup (hX : XOK G X M) {v : Value} (hd : decode (mC M) pc = .ok (.dup, 1)) (hc : v.category = 1) (k : AW G X cu su S I R L (pc + 1) ls (v :: v :: st)) : AW G X cu su S I R L pc ls (v :: st) := by
  obtain ⟨p, e, Rm, s, m, args, below, meth, c, Z⟩ := X
  obtain ⟨hx, hb, hml, hown, hts, hr, hlk, hnm, hrm, hG⟩ := hX
  intro H locs la h1 h2 h3 h4
  exact lv_dup hx hb hd (by rw [rv_cat]; exact hc) (k H locs la h1 h2 h3 h4)
theorem aw_dup2 (hX : XOK G X M) {v u : Value} (hd : decode (mC M) pc = .ok (.dup2, 1)) (hc : v.category = 1) (hc2 : u.category = 1) (k : AW G X cu su S I R L (pc + 1) ls (v :: u :: v :: u :: st)) : AW G X cu su S I R L pc ls (v :: u :: st) := by
  obtain ⟨p, e, Rm, s, m, args, below, meth, c, Z⟩ := X
  obtain ⟨hx, hb, hml, hown, hts, hr, hlk, hnm, hrm, hG⟩ := hX
  intro H locs la h1 h2 h3 h4
  exact lv_dup2_11 hx hb hd (by rw [rv_cat]; exact hc) (by rw [rv_cat]; exact hc2) (k H locs la h1 h2 h3 h4)
theorem aw_if_eq (hX : XOK G X M) {x : Int32} {off : Int} (tgt : Nat) (hd : decode (mC M) pc = .ok (.ifCond .eq off, 3)) (ht : (pc : Int) + off = (tgt : Int)) (kt : x = 0 → AW G X cu su S I R L tgt ls st) (kf : ¬ x = 0 → AW G X cu su S I R L (pc + 3) ls st) : AW G X cu su S I R L pc ls (.int x :: st) := by
  obtain ⟨p, e, Rm, s, m, args, below, meth, c, Z⟩ := X
  obtain ⟨hx, hb, hml, hown, hts, hr, hlk, hnm, hrm, hG⟩ := hX
  intro H locs la h1 h2 h3 h4
  exact lv_if_eq hx hb hd ht (fun hc => kt hc H locs la h1 h2 h3 h4) (fun hc => kf hc H locs la h1 h2 h3 h4)
theorem aw_icmp_eq (hX : XOK G X M) {x y : Int32} {off : Int} (tgt : Nat) (hd : decode (mC M) pc = .ok (.if_icmp .eq off, 3)) (ht : (pc : Int) + off = (tgt : Int)) (kt : x = y → AW G X cu su S I R L tgt ls st) (kf : ¬ x = y → AW G X cu su S I R L (pc + 3) ls st) : AW G X cu su S I R L pc ls (.int y :: .int x :: st) := by
  obtain ⟨p, e, Rm, s, m, args, below, meth, c, Z⟩ := X
  obtain ⟨hx, hb, hml, hown, hts, hr, hlk, hnm, hrm, hG⟩ := hX
  intro H locs la h1 h2 h3 h4
  exact lv_icmp_eq hx hb hd ht (fun hc => kt hc H locs la h1 h2 h3 h4) (fun hc => kf hc H locs la h1 h2 h3 h4)
theorem aw_if_ne (hX : XOK G X M) {x : Int32} {off : Int} (tgt : Nat) (hd : decode (mC M) pc = .ok (.ifCond .ne off, 3)) (ht : (pc : Int) + off = (tgt : Int)) (kt : ¬ x = 0 → AW G X cu su S I R L tgt ls st) (kf : x = 0 → AW G X cu su S I R L (pc + 3) ls st) : AW G X cu su S I R L pc ls (.int x :: st) := by
  obtain ⟨p, e, Rm, s, m, args, below, meth, c, Z⟩ := X
  obtain ⟨hx, hb, hml, hown, hts, hr, hlk, hnm, hrm, hG⟩ := hX
  intro H locs la h1 h2 h3 h4
  exact lv_if_ne hx hb hd ht (fun hc => kt hc H locs la h1 h2 h3 h4) (fun hc => kf hc H locs la h1 h2 h3 h4)
theorem aw_icmp_ne (hX : XOK G X M) {x y : Int32} {off : Int} (tgt : Nat) (hd : decode (mC M) pc = .ok (.if_icmp .ne off, 3)) (ht : (pc : Int) + off = (tgt : Int)) (kt : ¬ x = y → AW G X cu su S I R L tgt ls st) (kf : x = y → AW G X cu su S I R L (pc + 3) ls st) : AW G X cu su S I R L pc ls (.int y :: .int x :: st) := by
  obtain ⟨p, e, Rm, s, m, args, below, meth, c, Z⟩ := X
  obtain ⟨hx, hb, hml, hown, hts, hr, hlk, hnm, hrm, hG⟩ := hX
  intro H locs la h1 h2 h3 h4
  exact lv_icmp_ne hx hb hd ht (fun hc => kt hc H locs la h1 h2 h3 h4) (fun hc => kf hc H locs la h1 h2 h3 h4)
theorem aw_if_lt (hX : XOK G X M) {x : Int32} {off : Int} (tgt : Nat) (hd : decode (mC M) pc = .ok (.ifCond .lt off, 3)) (ht : (pc : Int) + off = (tgt : Int)) (kt : x < 0 → AW G X cu su S I R L tgt ls st) (kf : ¬ x < 0 → AW G X cu su S I R L (pc + 3) ls st) : AW G X cu su S I R L pc ls (.int x :: st) := by
  obtain ⟨p, e, Rm, s, m, args, below, meth, c, Z⟩ := X
  obtain ⟨hx, hb, hml, hown, hts, hr, hlk, hnm, hrm, hG⟩ := hX
  intro H locs la h1 h2 h3 h4
  exact lv_if_lt hx hb hd ht (fun hc => kt hc H locs la h1 h2 h3 h4) (fun hc => kf hc H locs la h1 h2 h3 h4)
theorem aw_icmp_lt (hX : XOK G X M) {x y : Int32} {off : Int} (tgt : Nat) (hd : decode (mC M) pc = .ok (.if_icmp .lt off, 3)) (ht : (pc : Int) + off = (tgt : Int)) (kt : x < y → AW G X cu su S I R L tgt ls st) (kf : ¬ x < y → AW G X cu su S I R L (pc + 3) ls st) : AW G X cu su S I R L pc ls (.int y :: .int x :: st) := by
  obtain ⟨p, e, Rm, s, m, args, below, meth, c, Z⟩ := X
  obtain ⟨hx, hb, hml, hown, hts, hr, hlk, hnm, hrm, hG⟩ := hX
  intro H locs la h1 h2 h3 h4
  exact lv_icmp_lt hx hb hd ht (fun hc => kt hc H locs la h1 h2 h3 h4) (fun hc => kf hc H locs la h1 h2 h3 h4)
theorem aw_if_ge (hX : XOK G X M) {x : Int32} {off : Int} (tgt : Nat) (hd : decode (mC M) pc = .ok (.ifCond .ge off, 3)) (ht : (pc : Int) + off = (tgt : Int)) (kt : 0 ≤ x → AW G X cu su S I R L tgt ls st) (kf : ¬ 0 ≤ x → AW G X cu su S I R L (pc + 3) ls st) : AW G X cu su S I R L pc ls (.int x :: st) := by
  obtain ⟨p, e, Rm, s, m, args, below, meth, c, Z⟩ := X
  obtain ⟨hx, hb, hml, hown, hts, hr, hlk, hnm, hrm, hG⟩ := hX
  intro H locs la h1 h2 h3 h4
  exact lv_if_ge hx hb hd ht (fun hc => kt hc H locs la h1 h2 h3 h4) (fun hc => kf hc H locs la h1 h2 h3 h4)
theorem aw_icmp_ge (hX : XOK G X M) {x y : Int32} {off : Int} (tgt : Nat) (hd : decode (mC M) pc = .ok (.if_icmp .ge off, 3)) (ht : (pc : Int) + off = (tgt : Int)) (kt : y ≤ x → AW G X cu su S I R L tgt ls st) (kf : ¬ y ≤ x → AW G X cu su S I R L (pc + 3) ls st) : AW G X cu su S I R L pc ls (.int y :: .int x :: st) := by
  obtain ⟨p, e, Rm, s, m, args, below, meth, c, Z⟩ := X
  obtain ⟨hx, hb, hml, hown, hts, hr, hlk, hnm, hrm, hG⟩ := hX
  intro H locs la h1 h2 h3 h4
  exact lv_icmp_ge hx hb hd ht (fun hc => kt hc H locs la h1 h2 h3 h4) (fun hc => kf hc H locs la h1 h2 h3 h4)
theorem aw_if_gt (hX : XOK G X M) {x : Int32} {off : Int} (tgt : Nat) (hd : decode (mC M) pc = .ok (.ifCond .gt off, 3)) (ht : (pc : Int) + off = (tgt : Int)) (kt : 0 < x → AW G X cu su S I R L tgt ls st) (kf : ¬ 0 < x → AW G X cu su S I R L (pc + 3) ls st) : AW G X cu su S I R L pc ls (.int x :: st) := by
  obtain ⟨p, e, Rm, s, m, args, below, meth, c, Z⟩ := X
  obtain ⟨hx, hb, hml, hown, hts, hr, hlk, hnm, hrm, hG⟩ := hX
  intro H locs la h1 h2 h3 h4
  exact lv_if_gt hx hb hd ht (fun hc => kt hc H locs la h1 h2 h3 h4) (fun hc => kf hc H locs la h1 h2 h3 h4)
theorem aw_icmp_gt (hX : XOK G X M) {x y : Int32} {off : Int} (tgt : Nat) (hd : decode (mC M) pc = .ok (.if_icmp .gt off, 3)) (ht : (pc : Int) + off = (tgt : Int)) (kt : y < x → AW G X cu su S I R L tgt ls st) (kf : ¬ y < x → AW G X cu su S I R L (pc + 3) ls st) : AW G X cu su S I R L pc ls (.int y :: .int x :: st) := by
  obtain ⟨p, e, Rm, s, m, args, below, meth, c, Z⟩ := X
  obtain ⟨hx, hb, hml, hown, hts, hr, hlk, hnm, hrm, hG⟩ := hX
  intro H locs la h1 h2 h3 h4
  exact lv_icmp_gt hx hb hd ht (fun hc => kt hc H locs la h1 h2 h3 h4) (fun hc => kf hc H locs la h1 h2 h3 h4)
theorem aw_if_le (hX : XOK G X M) {x : Int32} {off : Int} (tgt : Nat) (hd : decode (mC M) pc = .ok (.ifCond .le off, 3)) (ht : (pc : Int) + off = (tgt : Int)) (kt : x ≤ 0 → AW G X cu su S I R L tgt ls st) (kf : ¬ x ≤ 0 → AW G X cu su S I R L (pc + 3) ls st) : AW G X cu su S I R L pc ls (.int x :: st) := by
  obtain ⟨p, e, Rm, s, m, args, below, meth, c, Z⟩ := X
  obtain ⟨hx, hb, hml, hown, hts, hr, hlk, hnm, hrm, hG⟩ := hX
  intro H locs la h1 h2 h3 h4
  exact lv_if_le hx hb hd ht (fun hc => kt hc H locs la h1 h2 h3 h4) (fun hc => kf hc H locs la h1 h2 h3 h4)
theorem aw_icmp_le (hX : XOK G X M) {x y : Int32} {off : Int} (tgt : Nat) (hd : decode (mC M) pc = .ok (.if_icmp .le off, 3)) (ht : (pc : Int) + off = (tgt : Int)) (kt : x ≤ y → AW G X cu su S I R L tgt ls st) (kf : ¬ x ≤ y → AW G X cu su S I R L (pc + 3) ls st) : AW G X cu su S I R L pc ls (.int y :: .int x :: st) := by
  obtain ⟨p, e, Rm, s, m, args, below, meth, c, Z⟩ := X
  obtain ⟨hx, hb, hml, hown, hts, hr, hlk, hnm, hrm, hG⟩ := hX
  intro H locs la h1 h2 h3 h4
  exact lv_icmp_le hx hb hd ht (fun hc => kt hc H locs la h1 h2 h3 h4) (fun hc => kf hc H locs la h1 h2 h3 h4)
theorem aw_goto (hX : XOK G X M) {off : Int} (tgt : Nat) (hd : decode (mC M) pc = .ok (.goto off, 3)) (ht : (pc : Int) + off = (tgt : Int)) (k : AW G X cu su S I R L tgt ls st) : AW G X cu su S I R L pc ls st := by
  obtain ⟨p, e, Rm, s, m, args, below, meth, c, Z⟩ := X
  obtain ⟨hx, hb, hml, hown, hts, hr, hlk, hnm, hrm, hG⟩ := hX
  intro H locs la h1 h2 h3 h4
  exact lv_goto hx hb hd ht (k H locs la h1 h2 h3 h4)
theorem aw_lookup (hX : XOK G X M) {dflt : Int} {ps : Array (Int × Int)} {len : Nat} {x : Int32} {off : Int} (tgt : Nat) (hd : decode (mC M) pc = .ok (.lookupswitch dflt ps, len)) (hp : (ps.toList.zip (ps.toList.drop 1)).all (fun (a, next) => a.1 < next.1) = true) (ho : Op.lookupswitch.offset ps.toList dflt x.toInt = off) (ht : (pc : Int) + off = (tgt : Int)) (k : AW G X cu su S I R L tgt ls st) : AW G X cu su S I R L pc ls (.int x :: st) := by
  obtain ⟨p, e, Rm, s, m, args, below, meth, c, Z⟩ := X
  obtain ⟨hx, hb, hml, hown, hts, hr, hlk, hnm, hrm, hG⟩ := hX
  intro H locs la h1 h2 h3 h4
  exact lv_lookup hx hb hd hp ho ht (k H locs la h1 h2 h3 h4)
theorem aw_tableOut (hX : XOK G X M) {dflt lo hi : Int} {offs : Array Int} {len : Nat} {x : Int32} (tgt : Nat) (hd : decode (mC M) pc = .ok (.tableswitch dflt lo hi offs, len)) (h : x.toInt < lo ∨ hi < x.toInt) (ht : (pc : Int) + dflt = (tgt : Int)) (k : AW G X cu su S I R L tgt ls st) : AW G X cu su S I R L pc ls (.int x :: st) := by
  obtain ⟨p, e, Rm, s, m, args, below, meth, c, Z⟩ := X
  obtain ⟨hx, hb, hml, hown, hts, hr, hlk, hnm, hrm, hG⟩ := hX
  intro H locs la h1 h2 h3 h4
  exact lv_tableOut hx hb hd h ht (k H locs la h1 h2 h3 h4)
theorem aw_tableIn (hX : XOK G X M) {dflt lo hi : Int} {offs : Array Int} {len : Nat} {x : Int32} {off : Int} (tgt : Nat) (hd : decode (mC M) pc = .ok (.tableswitch dflt lo hi offs, len)) (ha : ¬ x.toInt < lo) (hb2 : ¬ hi < x.toInt) (ho : offs[(x.toInt - lo).toNat]? = some off) (ht : (pc : Int) + off = (tgt : Int)) (k : AW G X cu su S I R L tgt ls st) : AW G X cu su S I R L pc ls (.int x :: st) := by
  obtain ⟨p, e, Rm, s, m, args, below, meth, c, Z⟩ := X
  obtain ⟨hx, hb, hml, hown, hts, hr, hlk, hnm, hrm, hG⟩ := hX
  intro H locs la h1 h2 h3 h4
  exact lv_tableIn hx hb hd ha hb2 ho ht (k H locs la h1 h2 h3 h4)
/-- forget what some locals hold -/
def fgt : List Value → List Value → Bool
  | [], _ => true
  | .null :: l, _ :: l2 => fgt l l2
  | v :: l, v2 :: l2 => (v == v2) && fgt l l2
  | _ :: _, [] => false
theorem AW.locals {ls2 : List Value} (h : ∀ (i : Nat) (v : Value), ls2[i]? = some v → v ≠ .null → ls[i]? = some v) (k : AW G X cu su S I R L pc ls2 st) : AW G X cu su S I R L pc ls st := by
  obtain ⟨p, e, Rm, s, m, args, below, meth, c, Z⟩ := X
  intro H locs la h1 h2 h3 h4
  exact k H locs la h1 h2 h3 ⟨h4.1, h4.2.1, fun i v hi hv => h4.2.2 i v (h i v hi hv) hv⟩
theorem AW.widen {su' : Nat} (h2 : su ≤ su') (k : AW G X cu su' S I R L pc ls st) : AW G X cu su S I R L pc ls st := by
  obtain ⟨p, e, Rm, s, m, args, below, meth, c, Z⟩ := X
  intro H locs la g1 g2 g3 g4
  exact W.widen (Nat.le_refl _) h2 (k H locs la g1 g2 g3 g4)
end RULES
end
section
/-! fields, arrays, new cells -/
def FL (own : String) (idx ci j : Nat) : Prop := ci < 8 ∧ j < cNf ci ∧ Cond.fieldLink own idx (cTb ci j).1 (cTb ci j).2.1 (cTb ci j).2.2.1 ∈ gtbl
section HEAPR
variable {G : GP} {X : CX} {M : MI} {cu su : Nat} {S : Shp} {I : Hi} {R : Hr} {L : Hl} {pc : Nat} {ls st : List Value} {idx ci j a n : Nat}
theorem wd_obj (hc : ci < 8) (hs : S[a]? = some (ci, n)) : (wd G S I R L)[a]? = some (gN G + a, .inr (ci, fvs G I R L ci a)) := by
  rw [wd_at hs, ce_obj hc]
theorem aw_getI (hX : XOK G X M) (hd : decode (mC M) pc = .ok (.getfield idx, 3)) (hf : FL (mY M).cls idx ci j) (hk : fkd ci j = 0) (hs : S[a]? = some (ci, n)) (k : AW G X cu su S I R L (pc + 3) ls (.int (I a j) :: st)) : AW G X cu su S I R L pc ls (.ref a :: st) := by
  obtain ⟨p, e, Rm, s, m, args, below, meth, c, Z⟩ := X
  obtain ⟨hx, hb, hml, hown, hts, hr, hlk, hnm, hrm, hG⟩ := hX
  intro H locs la h1 h2 h3 h4
  exact va_get (v := .int (I a j)) hx hb hts (cIn hf.1) hown hG.1 h2 a (wd_obj hf.1 hs) (vwCl_at hf.1) j hf.2.1 (hts _ hf.2.2) (fun _ h => h) (by rw [fvs_at hf.2.1]; simp only [fv, hk]) hd (k H locs la h1 h2 h3 h4)
theorem aw_getL (hX : XOK G X M) (hd : decode (mC M) pc = .ok (.getfield idx, 3)) (hf : FL (mY M).cls idx ci j) (hk : fkd ci j = 1) (hs : S[a]? = some (ci, n)) (k : AW G X cu su S I R L (pc + 3) ls (.long (L a j) :: st)) : AW G X cu su S I R L pc ls (.ref a :: st) := by
  obtain ⟨p, e, Rm, s, m, args, below, meth, c, Z⟩ := X
  obtain ⟨hx, hb, hml, hown, hts, hr, hlk, hnm, hrm, hG⟩ := hX
  intro H locs la h1 h2 h3 h4
  exact va_get (v := .long (L a j)) hx hb hts (cIn hf.1) hown hG.1 h2 a (wd_obj hf.1 hs) (vwCl_at hf.1) j hf.2.1 (hts _ hf.2.2) (fun _ h => h) (by rw [fvs_at hf.2.1]; simp only [fv, hk]) hd (k H locs la h1 h2 h3 h4)
theorem aw_getR (hX : XOK G X M) (hd : decode (mC M) pc = .ok (.getfield idx, 3)) (hf : FL (mY M).cls idx ci j) (hk : fkd ci j = 2) (hs : S[a]? = some (ci, n)) {q : Nat} (hq : R a j = some q) (k : AW G X cu su S I R L (pc + 3) ls (.ref q :: st)) : AW G X cu su S I R L pc ls (.ref a :: st) := by
  obtain ⟨p, e, Rm, s, m, args, below, meth, c, Z⟩ := X
  obtain ⟨hx, hb, hml, hown, hts, hr, hlk, hnm, hrm, hG⟩ := hX
  intro H locs la h1 h2 h3 h4
  exact va_get (v := .ref (gN G + q)) hx hb hts (cIn hf.1) hown hG.1 h2 a (wd_obj hf.1 hs) (vwCl_at hf.1) j hf.2.1 (hts _ hf.2.2) (fun _ h => h) (by rw [fvs_at hf.2.1]; simp only [fv, hk, hq]; rfl) hd (k H locs la h1 h2 h3 h4)
theorem wd_setI {x : Int32} (hc : ci < 8) (hk : fkd ci j = 0) (hs : S[a]? = some (ci, n)) : (wd G S I R L).set a (gN G + a, .inr (ci, (fvs G I R L ci a).set j (.int x))) = wd G S (u2 I a j x) R L := by
  rw [fvs_setI hk, ← wd_set (G := G) (I := I) (R := R) (L := L) (I' := u2 I a j x) hs (fun b hb => u2_row hb) (fun _ _ => rfl) (fun _ _ => rfl), ce_obj hc]
theorem wd_setL {x : Int64} (hc : ci < 8) (hk : fkd ci j = 1) (hs : S[a]? = some (ci, n)) : (wd G S I R L).set a (gN G + a, .inr (ci, (fvs G I R L ci a).set j (.long x))) = wd G S I R (u2 L a j x) := by
  rw [fvs_setL hk, ← wd_set (G := G) (I := I) (R := R) (L := L) (L' := u2 L a j x) hs (fun _ _ => rfl) (fun _ _ => rfl) (fun b hb => u2_row hb), ce_obj hc]
theorem wd_setR {x : Nat} (hc : ci < 8) (hk : fkd ci j = 2) (hs : S[a]? = some (ci, n)) : (wd G S I R L).set a (gN G + a, .inr (ci, (fvs G I R L ci a).set j (.ref (gN G + x)))) = wd G S I (u2 R a j (some x)) L := by
  rw [fvs_setR hk, ← wd_set (G := G) (I := I) (R := R) (L := L) (R' := u2 R a j (some x)) hs (fun _ _ => rfl) (fun b hb => u2_row hb) (fun _ _ => rfl), ce_obj hc]
theorem aw_putI (hX : XOK G X M) {x : Int32} (hd : decode (mC M) pc = .ok (.putfield idx, 3)) (hf : FL (mY M).cls idx ci j) (hk : fkd ci j = 0) (hfin : (cTb ci j).2.2.2 = false) (hn : narrow (cTy ci j) (.int x) = .int x) (hfit : fits (cTy ci j) (.int x) = true) (hs : S[a]? = some (ci, n)) (k : AW G X cu su S (u2 I a j x) R L (pc + 3) ls st) : AW G X cu su S I R L pc ls (.int x :: .ref a :: st) := by
  obtain ⟨p, e, Rm, s, m, args, below, meth, c, Z⟩ := X
  obtain ⟨hx, hb, hml, hown, hts, hr, hlk, hnm, hrm, hG⟩ := hX
  intro H locs la h1 h2 h3 h4
  refine va_put (v := .int x) hx hb hts (cIn hf.1) (cTy ci) (cTy_ok hf.1) (cNm_ok hf.1) hown hG.1 h2 wd_D h3 a (wd_obj hf.1 hs) (vwCl_at hf.1) j hf.2.1 (hts _ hf.2.2) (fun _ h => h) hfin (cTy_ok hf.1 j hf.2.1) hn hfit (by simp [fvs]; exact hf.2.1) hd (fun H1 locs1 g1 _ g3 => k H1 locs1 la h1 ?_ g3 h4)
  rw [wd_setI hf.1 hk hs] at g1
  exact g1
theorem aw_putL (hX : XOK G X M) {x : Int64} (hd : decode (mC M) pc = .ok (.putfield idx, 3)) (hf : FL (mY M).cls idx ci j) (hk : fkd ci j = 1) (hfin : (cTb ci j).2.2.2 = false) (hn : narrow (cTy ci j) (.long x) = .long x) (hfit : fits (cTy ci j) (.long x) = true) (hs : S[a]? = some (ci, n)) (k : AW G X cu su S I R (u2 L a j x) (pc + 3) ls st) : AW G X cu su S I R L pc ls (.long x :: .ref a :: st) := by
  obtain ⟨p, e, Rm, s, m, args, below, meth, c, Z⟩ := X
  obtain ⟨hx, hb, hml, hown, hts, hr, hlk, hnm, hrm, hG⟩ := hX
  intro H locs la h1 h2 h3 h4
  refine va_put (v := .long x) hx hb hts (cIn hf.1) (cTy ci) (cTy_ok hf.1) (cNm_ok hf.1) hown hG.1 h2 wd_D h3 a (wd_obj hf.1 hs) (vwCl_at hf.1) j hf.2.1 (hts _ hf.2.2) (fun _ h => h) hfin (cTy_ok hf.1 j hf.2.1) hn hfit (by simp [fvs]; exact hf.2.1) hd (fun H1 locs1 g1 _ g3 => k H1 locs1 la h1 ?_ g3 h4)
  rw [wd_setL hf.1 hk hs] at g1
  exact g1
theorem aw_putR (hX : XOK G X M) {x : Nat} (hd : decode (mC M) pc = .ok (.putfield idx, 3)) (hf : FL (mY M).cls idx ci j) (hk : fkd ci j = 2) (hfin : (cTb ci j).2.2.2 = false) (hn : ∀ y, narrow (cTy ci j) (.ref y) = .ref y) (hfit : ∀ y, fits (cTy ci j) (.ref y) = true) (hs : S[a]? = some (ci, n)) (k : AW G X cu su S I (u2 R a j (some x)) L (pc + 3) ls st) : AW G X cu su S I R L pc ls (.ref x :: .ref a :: st) := by
  obtain ⟨p, e, Rm, s, m, args, below, meth, c, Z⟩ := X
  obtain ⟨hx, hb, hml, hown, hts, hr, hlk, hnm, hrm, hG⟩ := hX
  intro H locs la h1 h2 h3 h4
  refine va_put (v := .ref (gN G + x)) hx hb hts (cIn hf.1) (cTy ci) (cTy_ok hf.1) (cNm_ok hf.1) hown hG.1 h2 wd_D h3 a (wd_obj hf.1 hs) (vwCl_at hf.1) j hf.2.1 (hts _ hf.2.2) (fun _ h => h) hfin (cTy_ok hf.1 j hf.2.1) (hn _) (hfit _) (by simp [fvs]; exact hf.2.1) hd (fun H1 locs1 g1 _ g3 => k H1 locs1 la h1 ?_ g3 h4)
  rw [wd_setR hf.1 hk hs] at g1
  exact g1
theorem aw_putRF (hX : XOK G X M) {x : Nat} (hd : decode (mC M) pc = .ok (.putfield idx, 3)) (hf : FL (mY M).cls idx ci j) (hk : fkd ci j = 2) (hfin : (cTb ci j).2.2.2 = true) (hin : (mY M).name = "<init>") (hdc : (cTb ci j).1 = (mY M).cls) (hn : ∀ y, narrow (cTy ci j) (.ref y) = .ref y) (hfit : ∀ y, fits (cTy ci j) (.ref y) = true) (hs : S[a]? = some (ci, n)) (k : AW G X cu su S I (u2 R a j (some x)) L (pc + 3) ls st) : AW G X cu su S I R L pc ls (.ref x :: .ref a :: st) := by
  obtain ⟨p, e, Rm, s, m, args, below, meth, c, Z⟩ := X
  obtain ⟨hx, hb, hml, hown, hts, hr, hlk, hnm, hrm, hG⟩ := hX
  intro H locs la h1 h2 h3 h4
  refine va_putF (v := .ref (gN G + x)) hx hb hts (cIn hf.1) (cTy ci) (cTy_ok hf.1) (cNm_ok hf.1) hown hG.1 h2 wd_D h3 a (wd_obj hf.1 hs) (vwCl_at hf.1) j hf.2.1 (hts _ hf.2.2) (fun _ h => h) hfin (hnm.trans hin) hdc (cTy_ok hf.1 j hf.2.1) (hn _) (hfit _) (by simp [fvs]; exact hf.2.1) hd (fun H1 locs1 g1 _ g3 => k H1 locs1 la h1 ?_ g3 h4)
  rw [wd_setR hf.1 hk hs] at g1
  exact g1
theorem wd_row {sh : Nat × Nat} (hk : sh = (8, n) ∨ sh = (9, n)) {f : Nat → Int32} (hs : S[a]? = some sh) : (wd G S I R L).set a (gN G + a, ce G (rs I a f) R L a sh) = wd G S (rs I a f) R L :=
  wd_set (G := G) (I := I) (R := R) (L := L) (I' := rs I a f) hs (fun b hb => rs_row hb) (fun _ _ => rfl) (fun _ _ => rfl)
theorem u2_rs {I : Hi} {a i : Nat} {x : Int32} : rs I a (upd (I a) i x) = u2 I a i x := by
  funext b c
  by_cases hb : b = a
  · subst hb
    by_cases hc : c = i
    · subst hc; rw [rs_s, u2_s, pk_us]
    · rw [rs_s, u2_c hc, pk_un hc]
  · rw [rs_r hb, u2_r hb]
theorem aw_iaload (hX : XOK G X M) {i : Int32} (hd : decode (mC M) pc = .ok (.iaload, 1)) (hs : S[a]? = some (8, n)) (hin : vp_in i n) (k : AW G X cu su S I R L (pc + 1) ls (.int (I a i.toNatClampNeg) :: st)) : AW G X cu su S I R L pc ls (.int i :: .ref a :: st) := by
  obtain ⟨p, e, Rm, s, m, args, below, meth, c, Z⟩ := X
  obtain ⟨hx, hb, hml, hown, hts, hr, hlk, hnm, hrm, hG⟩ := hX
  intro H locs la h1 h2 h3 h4
  exact va_iald hx hb hG.1 h2 a 0 (wd_at hs) rfl hin hd (k H locs la h1 h2 h3 h4)
theorem aw_baload (hX : XOK G X M) {i : Int32} (hd : decode (mC M) pc = .ok (.baload, 1)) (hs : S[a]? = some (9, n)) (hin : vp_in i n) (k : AW G X cu su S I R L (pc + 1) ls (.int (I a i.toNatClampNeg) :: st)) : AW G X cu su S I R L pc ls (.int i :: .ref a :: st) := by
  obtain ⟨p, e, Rm, s, m, args, below, meth, c, Z⟩ := X
  obtain ⟨hx, hb, hml, hown, hts, hr, hlk, hnm, hrm, hG⟩ := hX
  intro H locs la h1 h2 h3 h4
  exact va_zald hx hb hG.1 h2 a 1 (wd_at hs) rfl hin hd (k H locs la h1 h2 h3 h4)
theorem aw_saload (hX : XOK G X M) {i : Int32} {z : UInt32} (hd : decode (mC M) pc = .ok (.iaload, 1)) (hin : vp_in i (gL G)) (k : AW G X cu su S I R L (pc + 1) ls (.int (gX G i.toNatClampNeg) :: st)) : AW G X cu su S I R L pc ls (.int i :: .float z :: st) := by
  obtain ⟨p, e, Rm, s, m, args, below, meth, c, Z⟩ := X
  obtain ⟨hx, hb, hml, hown, hts, hr, hlk, hnm, hrm, hG⟩ := hX
  intro H locs la h1 h2 h3 h4
  obtain ⟨_, _, _, hXs, hlt, hge⟩ := hG
  exact va_sld hx hb hXs (Nat.lt_of_lt_of_le hlt hge) (by show ¬ (gN G ≤ gB G); omega) h3 hin hd (k H locs la h1 h2 h3 h4)
theorem aw_slen (hX : XOK G X M) {z : UInt32} (hd : decode (mC M) pc = .ok (.arraylength, 1)) (k : AW G X cu su S I R L (pc + 1) ls (.int (nI (gL G)) :: st)) : AW G X cu su S I R L pc ls (.float z :: st) := by
  obtain ⟨p, e, Rm, s, m, args, below, meth, c, Z⟩ := X
  obtain ⟨hx, hb, hml, hown, hts, hr, hlk, hnm, hrm, hG⟩ := hX
  intro H locs la h1 h2 h3 h4
  obtain ⟨_, _, _, hXs, hlt, hge⟩ := hG
  exact va_slen hx hb hXs (Nat.lt_of_lt_of_le hlt hge) (by show ¬ (gN G ≤ gB G); omega) h3 hd (k H locs la h1 h2 h3 h4)
theorem aw_aaload (hX : XOK G X M) {i : Int32} {q : Nat} (hd : decode (mC M) pc = .ok (.aaload, 1)) (hs : S[a]? = some (10, n)) (hin : vp_in i n) (hq : R a i.toNatClampNeg = some q) (k : AW G X cu su S I R L (pc + 1) ls (.ref q :: st)) : AW G X cu su S I R L pc ls (.int i :: .ref a :: st) := by
  obtain ⟨p, e, Rm, s, m, args, below, meth, c, Z⟩ := X
  obtain ⟨hx, hb, hml, hown, hts, hr, hlk, hnm, hrm, hG⟩ := hX
  intro H locs la h1 h2 h3 h4
  refine va_aldq (C := RX3) hx hb hG.1 h2 a 2 (wd_at hs) rfl hin hd ?_
  show W p (gl G) e Rm s m args below meth c H locs cu su Z (F0 m (pc + 1) la (va_rf ((R a i.toNatClampNeg).map (gN G + ·)) :: st.map (rv G)))
  rw [hq]
  exact k H locs la h1 h2 h3 h4
theorem aw_alen (hX : XOK G X M) (hd : decode (mC M) pc = .ok (.arraylength, 1)) (hs : S[a]? = some (8, n)) (k : AW G X cu su S I R L (pc + 1) ls (.int (nI n) :: st)) : AW G X cu su S I R L pc ls (.ref a :: st) := by
  obtain ⟨p, e, Rm, s, m, args, below, meth, c, Z⟩ := X
  obtain ⟨hx, hb, hml, hown, hts, hr, hlk, hnm, hrm, hG⟩ := hX
  intro H locs la h1 h2 h3 h4
  exact va_alen (v := nI n) hx hb hG.1 h2 a 0 (wd_at hs) rfl rfl hd (k H locs la h1 h2 h3 h4)
theorem aw_iastore (hX : XOK G X M) {i x : Int32} (hd : decode (mC M) pc = .ok (.iastore, 1)) (hs : S[a]? = some (8, n)) (hin : vp_in i n) (k : AW G X cu su S (u2 I a i.toNatClampNeg x) R L (pc + 1) ls st) : AW G X cu su S I R L pc ls (.int x :: .int i :: .ref a :: st) := by
  obtain ⟨p, e, Rm, s, m, args, below, meth, c, Z⟩ := X
  obtain ⟨hx, hb, hml, hown, hts, hr, hlk, hnm, hrm, hG⟩ := hX
  intro H locs la h1 h2 h3 h4
  refine va_iast hx hb hG.1 h2 wd_D h3 a 0 (wd_at hs) rfl hin hd (fun H1 locs1 g1 _ g3 => k H1 locs1 la h1 ?_ g3 h4)
  rw [← u2_rs, ← wd_row (Or.inl rfl) hs, ce_int, rs_sr]
  exact g1
theorem aw_bastore (hX : XOK G X M) {i x : Int32} (hd : decode (mC M) pc = .ok (.bastore, 1)) (hs : S[a]? = some (9, n)) (hin : vp_in i n) (hx2 : vp_nar .boolean x = x) (k : AW G X cu su S (u2 I a i.toNatClampNeg x) R L (pc + 1) ls st) : AW G X cu su S I R L pc ls (.int x :: .int i :: .ref a :: st) := by
  obtain ⟨p, e, Rm, s, m, args, below, meth, c, Z⟩ := X
  obtain ⟨hx, hb, hml, hown, hts, hr, hlk, hnm, hrm, hG⟩ := hX
  intro H locs la h1 h2 h3 h4
  refine va_zast hx hb hG.1 h2 wd_D h3 a 1 (wd_at hs) rfl hin hd (fun H1 locs1 g1 _ g3 => k H1 locs1 la h1 ?_ g3 h4)
  rw [hx2] at g1
  rw [← u2_rs, ← wd_row (Or.inr rfl) hs, ce_bool, rs_sr]
  exact g1
theorem u2_rsR {R : Hr} {a i x : Nat} {N : Nat} : (fun j => ((u2 R a i (some x)) a j).map (N + ·)) = va_up (fun j => (R a j).map (N + ·)) i (some (N + x)) := by
  funext j
  by_cases hj : j = i
  · subst hj; simp [u2, va_up]
  · simp [u2, va_up, hj]
theorem aw_aastore (hX : XOK G X M) {i : Int32} {x m0 : Nat} (hd : decode (mC M) pc = .ok (.aastore, 1)) (hs : S[a]? = some (10, n)) (hx2 : S[x]? = some (3, m0)) (hin : vp_in i n) (k : AW G X cu su S I (u2 R a i.toNatClampNeg (some x)) L (pc + 1) ls st) : AW G X cu su S I R L pc ls (.ref x :: .int i :: .ref a :: st) := by
  obtain ⟨p, e, Rm, s, m, args, below, meth, c, Z⟩ := X
  obtain ⟨hx, hb, hml, hown, hts, hr, hlk, hnm, hrm, hG⟩ := hX
  intro H locs la h1 h2 h3 h4
  refine va_astq (r := (RX3, TX3, 6)) hx hb hG.1 h2 wd_D h3 a 2 x 3 (wd_at hs) rfl (wd_obj (by decide) hx2) rfl hin hd (fun H1 locs1 g1 _ g3 => k H1 locs1 la h1 ?_ g3 h4)
  rw [← wd_set (G := G) (I := I) (R := R) (L := L) (R' := u2 R a i.toNatClampNeg (some x)) hs (fun _ _ => rfl) (fun b hb => u2_row hb) (fun _ _ => rfl), ce_ref, u2_rsR]
  exact g1
theorem aw_copy (hX : XOK G X M) {b n0 n1 : Nat} {sp dp cn : Int32} (hd : decode (mC M) pc = .ok (.invokestatic idx, 3)) (hl : Cond.methodLink (mY M).cls idx arraycopyName ∈ gtbl) (hna : Cond.native arraycopyName ∈ gtbl) (hst : Cond.static arraycopyName ∈ gtbl) (hin : Cond.initialized "java/lang/System" ∈ gtbl) (hs0 : S[b]? = some (8, n0)) (hs1 : S[a]? = some (8, n1))
    (g1 : ¬ sp < 0) (g2 : ¬ dp < 0) (g3 : ¬ cn < 0) (g4 : sp.toNatClampNeg + cn.toNatClampNeg ≤ n0) (g5 : dp.toNatClampNeg + cn.toNatClampNeg ≤ n1) (hfr : 1 ≤ mFr M) (hlo : (st.map fun v => v.category).sum + (nativeFrameWords "java/lang/System" "arraycopy" 5 + 11) ≤ mLo M)
    (k : AW G X cu su S (rs I a (va_cpy (I b) (I a) sp.toNatClampNeg dp.toNatClampNeg cn.toNatClampNeg)) R L (pc + 3) ls st) : AW G X cu su S I R L pc ls (.int cn :: .int dp :: .ref a :: .int sp :: .ref b :: st) := by
  obtain ⟨p, e, Rm, s, m, args, below, meth, c, Z⟩ := X
  obtain ⟨hx, hb, hml, hown, hts, hr, hlk, hnm, hrm, hG⟩ := hX
  intro H locs la h1 h2 h3 h4
  refine va_copyi hx hb h4.1.symm hown (hts _ hl) (hts _ hna) (hts _ hst) (hts _ hin) hG.1 h2 wd_D h3 b a 0 0 (wd_at hs0) (wd_at hs1) rfl rfl rfl g1 g2 g3 g4 g5 (fun _ _ => rfl) (by rw [hrm]; exact hfr) (by rw [hrm, rv_cats]; exact hlo) hd (fun H1 locs1 e1 _ e3 => k H1 locs1 la h1 ?_ e3 h4)
  rw [← wd_row (Or.inl rfl) hs1, ce_int, rs_sr]
  exact e1
end HEAPR
end
section
/-! new cells; the heap's size -/
section NEWR
variable {G : GP} {X : CX} {M : MI} {cu su : Nat} {S : Shp} {I : Hi} {R : Hr} {L : Hl} {pc : Nat} {ls st : List Value} {idx ci j a n : Nat}
theorem size_le {H : Heap} (h : va_P (gD G) vwCl (wd G S I R L) H) (hz : gN G ≤ H.size) : gN G + S.length ≤ H.size := by
  cases hs : S.length with
  | zero => exact hz
  | succ n =>
    have hn : n < S.length := by omega
    have h1 := (h n _ (wd_at (List.getElem?_eq_getElem hn))).lt
    have h1 : gN G + n < H.size := h1
    omega
/-- the heap's size, out of how many cells may be new -/
theorem size_eq {p : Program} {e : Env} {Rm : Room} {s : State} {m : MethodId} {args : Array Value} {below : List Frame} {meth : Method} {c : Code} {T : State} {locs locs' : List Loc} (hG : GOK G s) (hc : s.heap.size + cu = gN G + S.length) (hP : va_P (gD G) vwCl (wd G S I R L) T.heap) (hS : va_S (gA G) s.heap T.heap locs') (Y : Stand p (gl G) e Rm s m args below meth c T locs cu su) : T.heap.size = gN G + S.length := by
  have h1 := size_le hP (Nat.le_trans hG.2.2.2.2.2 hS.1)
  have h2 := Y.heapSize
  omega
theorem rs_lt {α : Type} {f : Nat → Nat → α} {k : Nat} {g : Nat → α} : ∀ b, b < k → rs f k g b = f b := fun _ hb => rs_row (Nat.ne_of_lt hb)
theorem W.sized {p : Program} {l : Launch} {e : Env} {Rm : Room} {s : State} {m : MethodId} {args : Array Value} {below : List Frame} {meth : Method} {c : Code} {H : Heap} {locs : List Loc} {Z : State → Prop} {g : JFrame} {z : Nat} (hz : ∀ T : State, T.heap = H → Stand p l e Rm s m args below meth c T locs cu su → H.size = z) (k : H.size = z → W p l e Rm s m args below meth c H locs cu su Z g) : W p l e Rm s m args below meth c H locs cu su Z g := fun T hT Y => k (hz T hT Y) T hT Y
theorem aw_newI (hX : XOK G X M) {x : Int32} (N : Nat) (hd : decode (mC M) pc = .ok (.newarray .int, 2)) (hac : Cond.arrayClass .int ∈ gtbl) (hn : ¬ x < 0) (hN : x.toNatClampNeg = N) (hby : N * componentBytes .int ≤ 536870912) (hc : cu + 1 ≤ mCe M) (hsl : su + N ≤ mSl M) (k : AW G X (cu + 1) (su + N) (S ++ [(8, N)]) (rs I S.length (fun _ => 0)) R L (pc + 2) ls (.ref S.length :: st)) : AW G X cu su S I R L pc ls (.int x :: st) := by
  obtain ⟨p, e, Rm, s, m, args, below, meth, c, Z⟩ := X
  obtain ⟨hx, hb, hml, hown, hts, hr, hlk, hnm, hrm, hG⟩ := hX
  intro H locs la h1 h2 h3 h4
  refine W.sized (z := gN G + S.length) (fun T hT Y => by subst hT; exact size_eq hG h1 h2 h3 Y) fun hz => ?_
  refine va_newaK (atype := .int) hx hb (hts _ hac) rfl hd rfl hn hN hby (by rw [hrm]; exact hc) (by rw [hrm]; exact hsl) hz fun H1 cA e1 z1 o1 hAr hNm => ?_
  have hcA : cA = gI G := by
    have h5 : s.vm.findClass _ = some (gI G) := (hG.1.2 0 _ rfl).2
    exact Option.some.inj (hNm.symm.trans h5)
  subst hcA
  have hk : ∀ (q : Nat), q < H.size → H1[q]? = H[q]? := fun q hq => o1 q (by omega)
  refine k H1 locs la (by simp; omega) ?_ ⟨by have := h3.1; omega, fun q g1 g2 => (hk q (Nat.lt_of_lt_of_le g1 h3.1)).trans (h3.2.1 q g1 g2), h3.2.2⟩ h4
  rw [wd_push rs_lt (fun _ _ => rfl) (fun _ _ => rfl), ce_int, rs_sr]
  refine (h2.kept fun i q hq => hk q.1 ((h2 i q hq).lt)).app fun i q hq => ?_
  have hi : i < 1 := (List.getElem?_eq_some_iff.mp hq).1
  rw [show i = 0 by omega] at hq
  cases hq
  exact e1
theorem aw_newZ (hX : XOK G X M) {x : Int32} (N : Nat) (hd : decode (mC M) pc = .ok (.newarray .boolean, 2)) (hac : Cond.arrayClass .boolean ∈ gtbl) (hn : ¬ x < 0) (hN : x.toNatClampNeg = N) (hby : N * componentBytes .boolean ≤ 536870912) (hc : cu + 1 ≤ mCe M) (hsl : su + N ≤ mSl M) (k : AW G X (cu + 1) (su + N) (S ++ [(9, N)]) (rs I S.length (fun _ => 0)) R L (pc + 2) ls (.ref S.length :: st)) : AW G X cu su S I R L pc ls (.int x :: st) := by
  obtain ⟨p, e, Rm, s, m, args, below, meth, c, Z⟩ := X
  obtain ⟨hx, hb, hml, hown, hts, hr, hlk, hnm, hrm, hG⟩ := hX
  intro H locs la h1 h2 h3 h4
  refine W.sized (z := gN G + S.length) (fun T hT Y => by subst hT; exact size_eq hG h1 h2 h3 Y) fun hz => ?_
  refine va_newaK (atype := .boolean) hx hb (hts _ hac) rfl hd rfl hn hN hby (by rw [hrm]; exact hc) (by rw [hrm]; exact hsl) hz fun H1 cA e1 z1 o1 hAr hNm => ?_
  have hcA : cA = gZ G := by
    have h5 : s.vm.findClass _ = some (gZ G) := (hG.1.2 1 _ rfl).2
    exact Option.some.inj (hNm.symm.trans h5)
  subst hcA
  have hk : ∀ (q : Nat), q < H.size → H1[q]? = H[q]? := fun q hq => o1 q (by omega)
  refine k H1 locs la (by simp; omega) ?_ ⟨by have := h3.1; omega, fun q g1 g2 => (hk q (Nat.lt_of_lt_of_le g1 h3.1)).trans (h3.2.1 q g1 g2), h3.2.2⟩ h4
  rw [wd_push rs_lt (fun _ _ => rfl) (fun _ _ => rfl), ce_bool, rs_sr]
  refine (h2.kept fun i q hq => hk q.1 ((h2 i q hq).lt)).app fun i q hq => ?_
  have hi : i < 1 := (List.getElem?_eq_some_iff.mp hq).1
  rw [show i = 0 by omega] at hq
  cases hq
  exact e1
theorem aw_newQ (hX : XOK G X M) {x : Int32} (N : Nat) (hd : decode (mC M) pc = .ok (.anewarray idx, 3)) (hcl : Cond.classLink (mY M).cls idx RX3 ∈ gtbl) (hn : ¬ x < 0) (hN : x.toNatClampNeg = N) (hby : N * 4 ≤ 536870912) (hc : cu + 1 ≤ mCe M) (hsl : su + N ≤ mSl M) (k : AW G X (cu + 1) (su + N) (S ++ [(10, N)]) I (rs R S.length (fun _ => none)) L (pc + 3) ls (.ref S.length :: st)) : AW G X cu su S I R L pc ls (.int x :: st) := by
  obtain ⟨p, e, Rm, s, m, args, below, meth, c, Z⟩ := X
  obtain ⟨hx, hb, hml, hown, hts, hr, hlk, hnm, hrm, hG⟩ := hX
  intro H locs la h1 h2 h3 h4
  subst hN
  refine W.sized (z := gN G + S.length) (fun T hT Y => by subst hT; exact size_eq hG h1 h2 h3 Y) fun hz => ?_
  refine W.anew hx hb hown (hts _ hcl) (va_AO.use hG.2.2.1) rfl hd rfl hn hby (by rw [hrm]; exact hc) (by rw [hrm]; exact hsl) fun cA kA comp f1 f2 f3 f4 => ?_
  have hcA : cA = gQ G := by
    obtain ⟨_, _, _, _, _, h5⟩ := (hG.1.2 2 _ rfl).2
    exact Option.some.inj (f1.symm.trans h5)
  subst hcA
  generalize hH1 : H.push ({ cls := gQ G, slots := Array.replicate x.toNatClampNeg .null, vm := .none } : Cell) = H1
  have z1 : H1.size = H.size + 1 := by rw [← hH1, Array.size_push]
  have e1 : H1[H.size]? = some (arrV (gQ G) x.toNatClampNeg (fun _ => .null)) := by rw [← hH1, Array.getElem?_push_size, ← arrV_new]
  have hk : ∀ q : Nat, q < H.size → H1[q]? = H[q]? := fun q hq => by rw [← hH1, Array.getElem?_push, if_neg (Nat.ne_of_lt hq)]
  rw [hz] at e1 ⊢
  refine k H1 locs la (by simp; omega) ?_ ⟨by have := h3.1; omega, fun q g1 g2 => (hk q (Nat.lt_of_lt_of_le g1 h3.1)).trans (h3.2.1 q g1 g2), h3.2.2⟩ h4
  rw [wd_push (fun _ _ => rfl) rs_lt (fun _ _ => rfl), ce_ref, rs_sr]
  refine (h2.kept fun i q hq => hk q.1 ((h2 i q hq).lt)).app fun i q hq => ?_
  have hi : i < 1 := (List.getElem?_eq_some_iff.mp hq).1
  rw [show i = 0 by omega] at hq
  cases hq
  exact e1
theorem dv_all : ((List.range 8).all fun ci => (List.range (cNf ci)).all fun j => (fkd ci j == 0 && defaultValue (cTy ci j) == .int 0) || (fkd ci j == 1 && defaultValue (cTy ci j) == .long 0) || (fkd ci j == 2 && defaultValue (cTy ci j) == .null)) = true := by decide +kernel
theorem dv_ok (hc : ci < 8) (hj : j < cNf ci) : defaultValue (cTy ci j) = fv G (rs I a (fun _ => 0)) (rs R a (fun _ => none)) (rs L a (fun _ => 0)) ci a j := by
  have h1 := List.all_eq_true.mp (List.all_eq_true.mp dv_all ci (List.mem_range.mpr hc)) j (List.mem_range.mpr hj)
  simp only [Bool.or_eq_true, Bool.and_eq_true, beq_iff_eq] at h1
  rcases h1 with (⟨h1, h2⟩ | ⟨h1, h2⟩) | ⟨h1, h2⟩
  · rw [h2]; simp only [fv, h1, rs_s]
  · rw [h2]; simp only [fv, h1, rs_s]
  · rw [h2]; simp only [fv, h1, rs_s]; rfl
theorem aw_new (hX : XOK G X M) (ci : Nat) (hd : decode (mC M) pc = .ok (.new idx, 3)) (hci : ci < 8) (hcl : Cond.classLink (mY M).cls idx (cNm ci) ∈ gtbl) (hins : Cond.instantiable (cNm ci) (cNf ci) ∈ gtbl) (hini : Cond.initialized (cNm ci) ∈ gtbl) (hc : cu + 1 ≤ mCe M) (hsl : su + cNf ci ≤ mSl M) (k : AW G X (cu + 1) (su + cNf ci) (S ++ [(ci, cNf ci)]) (rs I S.length (fun _ => 0)) (rs R S.length (fun _ => none)) (rs L S.length (fun _ => 0)) (pc + 3) ls (.ref S.length :: st)) : AW G X cu su S I R L pc ls st := by
  obtain ⟨p, e, Rm, s, m, args, below, meth, c, Z⟩ := X
  obtain ⟨hx, hb, hml, hown, hts, hr, hlk, hnm, hrm, hG⟩ := hX
  intro H locs la h1 h2 h3 h4
  refine W.sized (z := gN G + S.length) (fun T hT Y => by subst hT; exact size_eq hG h1 h2 h3 Y) fun hz => ?_
  have hKn := hG.1.1 ci _ (vwCl_at hci)
  refine W.newcK hx hb hown (hts _ hcl) (hts _ hins) (hts _ hini) rfl hd (by rw [hrm]; exact hc) (by rw [hrm]; exact hsl) hKn.2.1 hz fun H1 kC hkC e1 z1 o1 => ?_
  have hk : ∀ (q : Nat), q < H.size → H1[q]? = H[q]? := fun q hq => o1 q (by omega)
  refine k H1 locs la (by simp; omega) ?_ ⟨by have := h3.1; omega, fun q g1 g2 => (hk q (Nat.lt_of_lt_of_le g1 h3.1)).trans (h3.2.1 q g1 g2), h3.2.2⟩ h4
  rw [wd_push rs_lt rs_lt rs_lt, ce_obj hci]
  refine (h2.kept fun i q hq => hk q.1 ((h2 i q hq).lt)).app fun i q hq => ?_
  have hi : i < 1 := (List.getElem?_eq_some_iff.mp hq).1
  rw [show i = 0 by omega] at hq
  cases hq
  refine ⟨_, vwCl_at hci, (u_born (cTy ci) hts (cIn hci) hKn hkC e1 (cTy_ok hci)).to fun j hj => ?_⟩
  rw [vp_V, List.getD_eq_getElem?_getD, fvs_at hj]
  exact dv_ok hci hj
theorem aw_objInit (hX : XOK G X M) (hd : decode (mC M) pc = .ok (.invokespecial idx, 3)) (hl : Cond.methodLink (mY M).cls idx objectInit ∈ gtbl) (hin : Cond.instanceMethod objectInit ∈ gtbl) (hco : Cond.code objectInit ⟨#[0xb1]⟩ 1 none ∈ gtbl) (hfr : 1 ≤ mFr M) (hlo : (st.map fun v => v.category).sum + 12 ≤ mLo M) (k : AW G X cu su S I R L (pc + 3) ls st) : AW G X cu su S I R L pc ls (.ref a :: st) := by
  obtain ⟨p, e, Rm, s, m, args, below, meth, c, Z⟩ := X
  obtain ⟨hx, hb, hml, hown, hts, hr, hlk, hnm, hrm, hG⟩ := hX
  intro H locs la h1 h2 h3 h4
  exact W.objInit hx hb hown (hts _ hl) (hts _ hin) (hts _ hco) rfl h4.1 rfl hd (by rw [hrm]; exact hfr) (by rw [hrm]; show 2 * 0 + _ + 12 ≤ _; rw [rv_cats, Nat.mul_zero, Nat.zero_add]; exact hlo) (k H locs la h1 h2 h3 h4)
end NEWR
end
section
/-! contracts: a call's answer and the state behind it -/
def CPre (G : GP) (args : List Value) (S : Shp) (I : Hi) (R : Hr) (L : Hl) : Array Value → State → Prop := fun v U => v = (args.map (rv G)).toArray ∧ GOK G U ∧ U.heap.size = gN G + S.length ∧ va_P (gD G) vwCl (wd G S I R L) U.heap
def CPost (G : GP) (v : Option Value) (S : Shp) (I : Hi) (R : Hr) (L : Hl) : Array Value → State → Outcome → State → Prop := fun _ st oc t => oc = .returned (v.map (rv G)) ∧ va_P (gD G) vwCl (wd G S I R L) t.heap ∧ va_F (gA G) st t
def wsM (M : MI) : List Cond := .code (mY M) (mC M) (mL M) (mT M) :: gtbl
/-- method M, called with args, answers v, and leaves S' I' R' L' -/
def CD (G : GP) (M : MI) (args : List Value) (S : Shp) (I : Hi) (R : Hr) (L : Hl) (v : Option Value) (S' : Shp) (I' : Hi) (R' : Hr) (L' : Hl) : Prop := S'.length = S.length + mCe M ∧ Met (gl G) (mY M) (wsM M) (mRm M) (CPre G args S I R L) (CPost G v S' I' R' L') (mCe M) (mSl M) (gA G)
theorem CPre.blind {G : GP} {args : List Value} {S : Shp} {I : Hi} {R : Hr} {L : Hl} : FrameBlind (CPre G args S I R L) := by
  intro a U g mk h
  obtain ⟨h1, h2, h3, h4⟩ := h
  obtain ⟨k1, k2, k3, k4, k5, k6⟩ := h2
  refine ⟨h1, ⟨va_K.moved (u := U) (U := U.calling g mk a) (Vm.Alike.refl U.vm) k1, fun w hw => ?_, va_AO.moved (u := U) (U := U.calling g mk a) (Vm.Alike.refl U.vm) k3, va_X.moved (u := U) (U := U.calling g mk a) (Vm.Alike.refl U.vm) k4, k5, k6⟩, h3, h4⟩
  have h7 := k2 w hw
  have h8 := (List.mem_filter.mp hw).2
  cases w <;> first | exact va_Nw.same (u := U) (U := U.calling g mk a) rfl rfl h7 | exact absurd h8 (by simp [isNest])
theorem wsM_good {M : MI} (hc : Cond.code (mY M) (mC M) (mL M) (mT M) ∈ gtbl) : GoodIn gtbl (wsM M) := by
  intro w hw
  rcases List.mem_cons.mp hw with rfl | hw
  · exact ⟨hc, good_of_word (List.mem_filter.mp hc).2⟩
  · exact ⟨hw, good_of_word (List.mem_filter.mp hw).2⟩
/-- what a return must show -/
def XZ (G : GP) (X : CX) (M : MI) (v : Option Value) (S : Shp) (I : Hi) (R : Hr) (L : Hl) : Prop := match X with
  | (_, _, _, s, _, args, below, _, _, Z) => Z = MQ below (CPost G v S I R L) args s (mCe M) (mSl M) (gA G)
theorem CD.intro {G : GP} {M : MI} {args : List Value} {S : Shp} {I : Hi} {R : Hr} {L : Hl} {v : Option Value} {S' : Shp} {I' : Hi} {R' : Hr} {L' : Hl} (n : Nat) (hlen : S'.length = S.length + mCe M) (hy : plainName (mY M).cls = true) (hn : (el args).length + n = mL M)
    (body : ∀ X : CX, XOK G X M → XZ G X M v S' I' R' L' → AW G X 0 0 S I R L 0 (el args ++ List.replicate n .null) []) : CD G M args S I R L v S' I' R' L' := by
  refine ⟨hlen, Met.ofW (cc := mC M) (maxL := mL M) (ret := mT M) hy rfl ?_⟩
  intro p e s m as below meth c s₁ B hml hv
  obtain ⟨rfl, hG, hsz, hP⟩ := hv
  have hts := atoms_spec (ws := wsM M) B.pre
  have hX : XOK G (p, e, (headSpec (wsM M) (mRm M)).room, s, m, (args.map (rv G)).toArray, below, meth, c, MQ below (CPost G v S' I' R' L') (args.map (rv G)).toArray s (mCe M) (mSl M) (gA G)) M :=
    ⟨B.exec, B.bytes, hml, findClass_of_methodNamed B.named, fun w hw => hts w (List.mem_cons_of_mem _ hw), B.returns, B.notSynchronized, (name_of_methodNamed B.named B.method).1, rfl, hG⟩
  have hb := body _ hX rfl
  have hl := lv_entry (args.map (rv G)) (n := mL M) (by rw [el_len]; omega)
  rw [lg_entry_eq]
  refine hb s.heap [] _ (by rw [hsz]; rfl) hP va_S.rf ?_
  rw [hml]
  exact lrel.pad ⟨hl.1, hl.2.1, fun i v hi hv => hl.2.2 (i, rv G v) (by have := el_at G args 0 i v hi hv; rwa [Nat.zero_add] at this)⟩
section RET
variable {G : GP} {X : CX} {M : MI} {cu su : Nat} {S S' : Shp} {I I' : Hi} {R R' : Hr} {L L' : Hl} {pc : Nat} {ls st : List Value}
theorem aw_iret (hX : XOK G X M) {x y : Int32} (hZ : XZ G X M (some (.int y)) S' I' R' L') (hd : decode (mC M) pc = .ok (.ireturn, 1)) (ht : mT M = some .int) (hv : x = y) (hs : S = S') (hi : I = I') (hr0 : R = R') (hl : L = L') (hcu : cu = mCe M) (hsu : su ≤ mSl M) : AW G X cu su S I R L pc ls [.int x] := by
  subst hv; subst hs; subst hi; subst hr0; subst hl; subst hcu
  obtain ⟨p, e, Rm, s, m, args, below, meth, c, Z⟩ := X
  obtain ⟨hx, hb, hml, hown, hts, hr, hlk, hnm, hrm, hG⟩ := hX
  intro H locs la h1 h2 h3 h4
  have hZ : Z = _ := hZ
  subst hZ
  refine W.widen (Nat.le_refl _) hsu ?_
  exact W.iret (v := x) hx hb (hr.trans ht) (fun t ht hW => ⟨rfl, by rw [ht]; exact h2, h3.F ht⟩) h3.2.2 hd
theorem aw_zret (hX : XOK G X M) {x y : Int32} (hZ : XZ G X M (some (.int y)) S' I' R' L') (hd : decode (mC M) pc = .ok (.ireturn, 1)) (ht : mT M = some .boolean) (hb01 : y = 0 ∨ y = 1) (hv : x = y) (hs : S = S') (hi : I = I') (hr0 : R = R') (hl : L = L') (hcu : cu = mCe M) (hsu : su ≤ mSl M) : AW G X cu su S I R L pc ls [.int x] := by
  subst hv; subst hs; subst hi; subst hr0; subst hl; subst hcu
  obtain ⟨p, e, Rm, s, m, args, below, meth, c, Z⟩ := X
  obtain ⟨hx, hb, hml, hown, hts, hr, hlk, hnm, hrm, hG⟩ := hX
  intro H locs la h1 h2 h3 h4
  have hZ : Z = _ := hZ
  subst hZ
  refine W.widen (Nat.le_refl _) hsu ?_
  exact W.zret (v := x) hx hb (hr.trans ht) (by rcases hb01 with rfl | rfl <;> decide) (fun t ht hW => ⟨rfl, by rw [ht]; exact h2, h3.F ht⟩) h3.2.2 hd
theorem aw_lret (hX : XOK G X M) {x y : Int64} (hZ : XZ G X M (some (.long y)) S' I' R' L') (hd : decode (mC M) pc = .ok (.lreturn, 1)) (ht : mT M = some .long) (hv : x = y) (hs : S = S') (hi : I = I') (hr0 : R = R') (hl : L = L') (hcu : cu = mCe M) (hsu : su ≤ mSl M) : AW G X cu su S I R L pc ls [.long x] := by
  subst hv; subst hs; subst hi; subst hr0; subst hl; subst hcu
  obtain ⟨p, e, Rm, s, m, args, below, meth, c, Z⟩ := X
  obtain ⟨hx, hb, hml, hown, hts, hr, hlk, hnm, hrm, hG⟩ := hX
  intro H locs la h1 h2 h3 h4
  have hZ : Z = _ := hZ
  subst hZ
  refine W.widen (Nat.le_refl _) hsu ?_
  exact W.lret (v := x) hx hb (hr.trans ht) (fun t ht hW => ⟨rfl, by rw [ht]; exact h2, h3.F ht⟩) h3.2.2 hd
theorem aw_vret (hX : XOK G X M) (hZ : XZ G X M none S' I' R' L') (hd : decode (mC M) pc = .ok (.return_, 1)) (ht : mT M = none) (hs : S = S') (hi : I = I') (hr0 : R = R') (hl : L = L') (hcu : cu = mCe M) (hsu : su ≤ mSl M) : AW G X cu su S I R L pc ls [] := by
  subst hs; subst hi; subst hr0; subst hl; subst hcu
  obtain ⟨p, e, Rm, s, m, args, below, meth, c, Z⟩ := X
  obtain ⟨hx, hb, hml, hown, hts, hr, hlk, hnm, hrm, hG⟩ := hX
  intro H locs la h1 h2 h3 h4
  have hZ : Z = _ := hZ
  subst hZ
  refine W.widen (Nat.le_refl _) hsu ?_
  exact W.vret hx hb (hr.trans ht) (fun t ht hW => ⟨rfl, by rw [ht]; exact h2, h3.F ht⟩) h3.2.2 hd
end RET
/-! calls -/
def MF (M : MI) (n : Nat) : Prop := Cond.code (mY M) (mC M) (mL M) (mT M) ∈ gtbl ∧ Cond.initialized (mY M).cls ∈ gtbl ∧ (mY M).cls ≠ "java/lang/invoke/MethodHandle" ∧ (mY M).cls ≠ "java/lang/invoke/VarHandle" ∧ (parseMethodDescriptor (mY M).desc).map (fun d => d.parameters.length) = some n
def MV (M : MI) (n : Nat) : Prop := MF M n ∧ Cond.instanceMethod (mY M) ∈ gtbl ∧ Cond.selects (mY M).cls (mY M) (mY M) ∈ gtbl
def MS (M : MI) (n : Nat) : Prop := MF M n ∧ Cond.static (mY M) ∈ gtbl
def MN (M : MI) (n : Nat) : Prop := MF M n ∧ (mY M).name = "<init>" ∧ Cond.instanceMethod (mY M) ∈ gtbl ∧ mT M = none
/-- M can call M' with cu cells and su slots made so far -/
def rmOK (M M' : MI) (cu su : Nat) : Bool := Nat.ble (mFr M' + 1) (mFr M) && Nat.ble (8 + (mL M' + 11) + mLo M') (mLo M) && Nat.ble (cu + mCe M') (mCe M) && Nat.ble (su + mSl M') (mSl M)
theorem rmOK_spec {M M' : MI} {cu su : Nat} (h : rmOK M M' cu su = true) : (mRm M').frames + 1 ≤ (mRm M).frames ∧ 8 + (mL M' + 11) + (mRm M').locals ≤ (mRm M).locals ∧ cu + mCe M' ≤ (mRm M).cells ∧ su + mSl M' ≤ (mRm M).slots := by
  simp only [rmOK, Bool.and_eq_true] at h
  exact ⟨Nat.le_of_ble_eq_true h.1.1.1, Nat.le_of_ble_eq_true h.1.1.2, Nat.le_of_ble_eq_true h.1.2, Nat.le_of_ble_eq_true h.2⟩
theorem tl_rv (G : GP) (v : Option Value) (rest : List Value) : (v.map (rv G)).toList ++ rest.map (rv G) = (v.toList ++ rest).map (rv G) := by cases v <;> rfl
section CALL
variable {G : GP} {X : CX} {M M' : MI} {cu su : Nat} {S S' : Shp} {I I' : Hi} {R R' : Hr} {L L' : Hl} {pc idx : Nat} {ls As rest : List Value} {v : Option Value} {n a ci m0 : Nat}
/-- behind a call -/
theorem aw_back {p : Program} {e : Env} {Rm : Room} {s : State} {m : MethodId} {args : Array Value} {below : List Frame} {meth : Method} {c : Code} {Z : State → Prop} {H : Heap} {locs : List Loc} {la : Array Slot} {g : JFrame} {aa : Array Value}
    (hg : g = F0 m pc la g.stack) (h1 : s.heap.size + cu = gN G + S.length) (h3 : va_S (gA G) s.heap H locs) (h4 : lrel G la c.maxLocals ls) (hlen : S'.length = S.length + mCe M')
    (hr : va_Run p (gl G) e Rm s m args below meth c H locs cu su (mCe M') (mSl M') g (rest.map (rv G)) (CPost G v S' I' R' L' aa) (gA G))
    (k : AW G (p, e, Rm, s, m, args, below, meth, c, Z) (cu + mCe M') (su + mSl M') S' I' R' L' (pc + 3) ls (v.toList ++ rest)) : W p (gl G) e Rm s m args below meth c H locs cu su Z g := by
  intro T hT Y
  obtain ⟨v0, st₀, t, T', Lc, h0, Y', hLc, e1, e2, ⟨hv, hP, hz, hk⟩, st⟩ := hr T hT Y
  cases hv
  rw [h0] at hz hk
  have hS : va_S (gA G) s.heap T'.heap (locs ++ Lc) := by
    refine ⟨Nat.le_trans h3.1 (by rw [e1]; exact hz), fun q g1 g2 => ?_, fun q hq => ?_⟩
    · rw [e1, hk q (Nat.lt_of_lt_of_le g1 h3.1) g2]; exact h3.2.1 q g1 g2
    · rcases List.mem_append.mp hq with h | h
      · exact h3.2.2 q h
      · exact hLc q h
  obtain ⟨t2, a1, b1⟩ := k T'.heap (locs ++ Lc) la (by omega) (by rw [e1]; exact hP) hS h4 T' rfl Y'
  refine ⟨t2, st t2 ?_, b1⟩
  rw [hg, tl_rv]
  exact a1
theorem aw_pre {s U : State} {H : Heap} {locs : List Loc} (hG : GOK G s) (hz : H.size = gN G + S.length) (h2 : va_P (gD G) vwCl (wd G S I R L) H) (h3 : va_S (gA G) s.heap H locs) (hU : U.heap = H) (hW : s.WarmedH U.vm) : CPre G As S I R L (As.map (rv G)).toArray U := by
  subst hU
  refine ⟨rfl, hG.moved hW ?_ (by omega), hz, h2⟩
  exact h3.2.1 _ (Nat.lt_of_lt_of_le hG.2.2.2.2.1 hG.2.2.2.2.2) (by show ¬ (gN G ≤ gB G); have := hG.2.2.2.2.1; omega)
theorem aw_callV (hX : XOK G X M) (hm : MV M' n) (hlk : Cond.methodLink (mY M).cls idx (mY M') ∈ gtbl) (hro : rmOK M M' cu su = true) (hC : CD G M' (.ref a :: As) S I R L v S' I' R' L') (hs : S[a]? = some (ci, m0)) (hci : ci < 8) (hcn : cNm ci = (mY M').cls) (hn : As.length = n) (hcat : (rest.map fun v => v.category).sum ≤ 8) (hd : decode (mC M) pc = .ok (.invokevirtual idx, 3)) {st : List Value} (hst : st = As.reverse ++ .ref a :: rest)
    (k : AW G X (cu + mCe M') (su + mSl M') S' I' R' L' (pc + 3) ls (v.toList ++ rest)) : AW G X cu su S I R L pc ls st := by
  subst hst
  obtain ⟨p, e, Rm, s, m, args, below, meth, c, Z⟩ := X
  obtain ⟨hx, hb, hml, hown, hts, hr, hlk0, hnm, hrm, hG⟩ := hX
  intro H locs la h1 h2 h3 h4
  refine W.sized (z := gN G + S.length) (fun T hT Y => by subst hT; exact size_eq hG h1 h2 h3 Y) fun hz => ?_
  obtain ⟨r1, r2, r3, r4⟩ := rmOK_spec hro
  subst hrm
  have cw : CallW (mRm M) s args (mY M).cls (cNm ci) idx (mY M') (mC M') (mL M') (mT M') (wsM M') (mRm M') (mCe M') (mSl M') n :=
    ⟨callB_of n hts (wsM_good hm.1.1) rfl rfl rfl (hts _ hm.1.2.1) (hts _ hlk) hm.1.2.2 ⟨r1, r2⟩, hts _ hm.2.1, by rw [hcn]; exact hts _ hm.2.2⟩
  exact aw_back (aa := (Value.ref (gN G + a) :: As.map (rv G)).toArray) (by rfl) h1 h3 h4 hC.1 (va_runV (As := As.map (rv G)) (b := gN G + a) (rest := rest.map (rv G)) ⟨hx, hb, hml, hown, hts⟩ hC.2 cw ⟨CPre.blind, va_recv hG.1 h2 (vwCl_at hci) (wd_obj hci hs), fun U hU hW => aw_pre (As := .ref a :: As) hG hz h2 h3 hU hW⟩ rfl (by rw [List.length_map]; exact hn) (h4.1.trans hml) (by simp [rv]) (lv_room (by rw [rv_cats]; exact hcat)) hd ⟨r3, r4⟩) k
theorem aw_callS (hX : XOK G X M) (hm : MS M' n) (hlk : Cond.methodLink (mY M).cls idx (mY M') ∈ gtbl) (hro : rmOK M M' cu su = true) (hC : CD G M' As S I R L v S' I' R' L') (hn : As.length = n) (hcat : (rest.map fun v => v.category).sum ≤ 8) (hd : decode (mC M) pc = .ok (.invokestatic idx, 3)) {st : List Value} (hst : st = As.reverse ++ rest)
    (k : AW G X (cu + mCe M') (su + mSl M') S' I' R' L' (pc + 3) ls (v.toList ++ rest)) : AW G X cu su S I R L pc ls st := by
  subst hst
  obtain ⟨p, e, Rm, s, m, args, below, meth, c, Z⟩ := X
  obtain ⟨hx, hb, hml, hown, hts, hr, hlk0, hnm, hrm, hG⟩ := hX
  intro H locs la h1 h2 h3 h4
  refine W.sized (z := gN G + S.length) (fun T hT Y => by subst hT; exact size_eq hG h1 h2 h3 Y) fun hz => ?_
  obtain ⟨r1, r2, r3, r4⟩ := rmOK_spec hro
  subst hrm
  have cw : CallB (mRm M) s args (mY M).cls idx (mY M') (mC M') (mL M') (mT M') (wsM M') (mRm M') (mCe M') (mSl M') n ∧ (Cond.static (mY M')).before args s = true :=
    ⟨callB_of n hts (wsM_good hm.1.1) rfl rfl rfl (hts _ hm.1.2.1) (hts _ hlk) hm.1.2.2 ⟨r1, r2⟩, hts _ hm.2⟩
  exact aw_back (aa := (As.map (rv G)).toArray) (by rfl) h1 h3 h4 hC.1 (va_runS (As := As.map (rv G)) (rest := rest.map (rv G)) ⟨hx, hb, hml, hown, hts⟩ hC.2 cw ⟨CPre.blind, fun U hU hW => aw_pre hG hz h2 h3 hU hW⟩ rfl (by rw [List.length_map]; exact hn) (h4.1.trans hml) (by simp) (lv_room (by rw [rv_cats]; exact hcat)) hd ⟨r3, r4⟩) k
theorem aw_callSN (hX : XOK G X M) {host : String} (hm : MS M' n) (hlk : Cond.methodLinkNest (mY M).cls idx (mY M') host ∈ ntbl) (hro : rmOK M M' cu su = true) (hC : CD G M' As S I R L v S' I' R' L') (hn : As.length = n) (hcat : (rest.map fun v => v.category).sum ≤ 8) (hd : decode (mC M) pc = .ok (.invokestatic idx, 3)) {st : List Value} (hst : st = As.reverse ++ rest)
    (k : AW G X (cu + mCe M') (su + mSl M') S' I' R' L' (pc + 3) ls (v.toList ++ rest)) : AW G X cu su S I R L pc ls st := by
  subst hst
  obtain ⟨p, e, Rm, s, m, args, below, meth, c, Z⟩ := X
  obtain ⟨hx, hb, hml, hown, hts, hr, hlk0, hnm, hrm, hG⟩ := hX
  intro H locs la h1 h2 h3 h4
  refine W.sized (z := gN G + S.length) (fun T hT Y => by subst hT; exact size_eq hG h1 h2 h3 Y) fun hz => ?_
  obtain ⟨r1, r2, r3, r4⟩ := rmOK_spec hro
  subst hrm
  have cw : va_CN (mRm M) s args (mY M).cls idx (mY M') host (mC M') (mL M') (mT M') (wsM M') (mRm M') (mCe M') (mSl M') n :=
    va_cnB n hts (wsM_good hm.1.1) rfl rfl rfl (hG.2.1 _ hlk) (hts _ hm.1.2.1) hm.1.2.2 ⟨r1, r2⟩
  exact aw_back (aa := (As.map (rv G)).toArray) (by rfl) h1 h3 h4 hC.1 (va_runSN (As := As.map (rv G)) (rest := rest.map (rv G)) ⟨hx, hb, hml, hown, hts⟩ hC.2 ⟨cw, hts _ hm.2, trivial⟩ ⟨CPre.blind, fun U hU hW => aw_pre hG hz h2 h3 hU hW⟩ rfl (by rw [List.length_map]; exact hn) (h4.1.trans hml) (by simp) (lv_room (by rw [rv_cats]; exact hcat)) hd ⟨r3, r4⟩) k
theorem aw_callI (hX : XOK G X M) (hm : MN M' n) (hlk : Cond.methodLink (mY M).cls idx (mY M') ∈ gtbl) (hro : rmOK M M' cu su = true) (hC : CD G M' (.ref a :: As) S I R L none S' I' R' L') (hn : As.length = n) (hcat : (rest.map fun v => v.category).sum ≤ 8) (hd : decode (mC M) pc = .ok (.invokespecial idx, 3)) {st : List Value} (hst : st = As.reverse ++ .ref a :: rest)
    (k : AW G X (cu + mCe M') (su + mSl M') S' I' R' L' (pc + 3) ls rest) : AW G X cu su S I R L pc ls st := by
  subst hst
  obtain ⟨p, e, Rm, s, m, args, below, meth, c, Z⟩ := X
  obtain ⟨hx, hb, hml, hown, hts, hr, hlk0, hnm, hrm, hG⟩ := hX
  intro H locs la h1 h2 h3 h4
  refine W.sized (z := gN G + S.length) (fun T hT Y => by subst hT; exact size_eq hG h1 h2 h3 Y) fun hz => ?_
  obtain ⟨r1, r2, r3, r4⟩ := rmOK_spec hro
  subst hrm
  have cw : CallB (mRm M) s args (mY M).cls idx (mY M') (mC M') (mL M') none (wsM M') (mRm M') (mCe M') (mSl M') n ∧ (mY M').name = "<init>" ∧ (Cond.instanceMethod (mY M')).before args s = true :=
    ⟨callB_of n hts (wsM_good hm.1.1) (by rw [wsM, hm.2.2.2]) rfl rfl (hts _ hm.1.2.1) (hts _ hlk) hm.1.2.2 ⟨r1, r2⟩, hm.2.1, hts _ hm.2.2.1⟩
  exact aw_back (v := none) (aa := (Value.ref (gN G + a) :: As.map (rv G)).toArray) (by rfl) h1 h3 h4 hC.1 (va_runI (As := As.map (rv G)) (b := gN G + a) (rest := rest.map (rv G)) ⟨hx, hb, hml, hown, hts⟩ hC.2 cw ⟨CPre.blind, fun U hU hW => aw_pre (As := .ref a :: As) hG hz h2 h3 hU hW⟩ rfl (by rw [List.length_map]; exact hn) (h4.1.trans hml) (by simp [rv]) (lv_room (by rw [rv_cats]; exact hcat)) hd ⟨r3, r4⟩) k
theorem aw_callIN (hX : XOK G X M) {host : String} (hm : MN M' n) (hlk : Cond.methodLinkNest (mY M).cls idx (mY M') host ∈ ntbl) (hro : rmOK M M' cu su = true) (hC : CD G M' (.ref a :: As) S I R L none S' I' R' L') (hn : As.length = n) (hcat : (rest.map fun v => v.category).sum ≤ 8) (hd : decode (mC M) pc = .ok (.invokespecial idx, 3)) {st : List Value} (hst : st = As.reverse ++ .ref a :: rest)
    (k : AW G X (cu + mCe M') (su + mSl M') S' I' R' L' (pc + 3) ls rest) : AW G X cu su S I R L pc ls st := by
  subst hst
  obtain ⟨p, e, Rm, s, m, args, below, meth, c, Z⟩ := X
  obtain ⟨hx, hb, hml, hown, hts, hr, hlk0, hnm, hrm, hG⟩ := hX
  intro H locs la h1 h2 h3 h4
  refine W.sized (z := gN G + S.length) (fun T hT Y => by subst hT; exact size_eq hG h1 h2 h3 Y) fun hz => ?_
  obtain ⟨r1, r2, r3, r4⟩ := rmOK_spec hro
  subst hrm
  have cw : va_CN (mRm M) s args (mY M).cls idx (mY M') host (mC M') (mL M') none (wsM M') (mRm M') (mCe M') (mSl M') n :=
    va_cnB n hts (wsM_good hm.1.1) (by rw [wsM, hm.2.2.2]) rfl rfl (hG.2.1 _ hlk) (hts _ hm.1.2.1) hm.1.2.2 ⟨r1, r2⟩
  exact aw_back (v := none) (aa := (Value.ref (gN G + a) :: As.map (rv G)).toArray) (by rfl) h1 h3 h4 hC.1 (va_runIN (As := As.map (rv G)) (b := gN G + a) (rest := rest.map (rv G)) ⟨hx, hb, hml, hown, hts⟩ hC.2 ⟨cw, hm.2.1, hts _ hm.2.2.1⟩ ⟨CPre.blind, fun U hU hW => aw_pre (As := .ref a :: As) hG hz h2 h3 hU hW⟩ rfl (by rw [List.length_map]; exact hn) (h4.1.trans hml) (by simp [rv]) (lv_room (by rw [rv_cats]; exact hcat)) hd ⟨r3, r4⟩) k
end CALL
end
section
/-! methods, with their rooms; the pools' numbers as facts -/
abbrev mi_X0_init : MI := (yX0_init, cX0_init, 1, none, 1, 12, 5, 41)
abbrev mi_X0_startAnew : MI := (yX0_startAnew, cX0_startAnew, 1, none, 0, 0, 0, 0)
abbrev mi_X0_hasLeaf : MI := (yX0_hasLeaf, cX0_hasLeaf, 2, (some .boolean), 0, 0, 0, 0)
abbrev mi_X0_hasGoer : MI := (yX0_hasGoer, cX0_hasGoer, 2, (some .boolean), 0, 0, 0, 0)
abbrev mi_X0_counts : MI := (yX0_counts, cX0_counts, 3, (some .boolean), 1, 21, 0, 0)
abbrev mi_X0_goodTastes : MI := (yX0_goodTastes, cX0_goodTastes, 3, (some .int), 1, 21, 0, 0)
abbrev mi_X0_goersLetBy : MI := (yX0_goersLetBy, cX0_goersLetBy, 4, (some .int), 2, 43, 0, 0)
abbrev mi_X0_leavesThatLet : MI := (yX0_leavesThatLet, cX0_leavesThatLet, 4, (some .int), 2, 43, 0, 0)
abbrev mi_X0_leafBehind : MI := (yX0_leafBehind, cX0_leafBehind, 3, (some .int), 0, 0, 0, 0)
abbrev mi_X0_cover : MI := (yX0_cover, cX0_cover, 4, (some .int), 4, 88, 0, 0)
abbrev mi_X0_coversAll : MI := (yX0_coversAll, cX0_coversAll, 3, (some .boolean), 3, 66, 0, 0)
abbrev mi_X0_changed : MI := (yX0_changed, cX0_changed, 3, (some .int), 0, 0, 0, 0)
abbrev mi_X0_passedOn : MI := (yX0_passedOn, cX0_passedOn, 5, (some .int), 1, 22, 0, 0)
abbrev mi_X0_dayOfAllFridays : MI := (yX0_dayOfAllFridays, cX0_dayOfAllFridays, 5, (some .int), 2, 47, 0, 0)
abbrev mi_X0_dayOfFriday : MI := (yX0_dayOfFriday, cX0_dayOfFriday, 7, (some .int), 1, 21, 0, 0)
abbrev mi_X1_init : MI := (yX1_init, cX1_init, 2, none, 2, 32, 41, 250)
abbrev mi_X1_remember : MI := (yX1_remember, cX1_remember, 2, none, 2, 51, 0, 0)
abbrev mi_X1_recall : MI := (yX1_recall, cX1_recall, 2, none, 2, 51, 0, 0)
abbrev mi_X2_init : MI := (yX2_init, cX2_init, 1, none, 1, 12, 1, 64)
abbrev mi_X2_weigh : MI := (yX2_weigh, cX2_weigh, 5, none, 4, 95, 0, 0)
abbrev mi_X2_mostBehind : MI := (yX2_mostBehind, cX2_mostBehind, 7, (some .int), 3, 69, 0, 0)
abbrev mi_X2_worth : MI := (yX2_worth, cX2_worth, 7, (some .int), 2, 43, 0, 0)
abbrev mi_X2_goerAt : MI := (yX2_goerAt, cX2_goerAt, 8, (some .int), 4, 94, 0, 0)
abbrev mi_X2_lowestOfBest : MI := (yX2_lowestOfBest, cX2_lowestOfBest, 6, (some .int), 3, 69, 0, 0)
abbrev mi_X3_init : MI := (yX3_init, cX3_init, 1, none, 1, 12, 3, 18)
abbrev mi_X3_startAnew : MI := (yX3_startAnew, cX3_startAnew, 1, none, 1, 23, 0, 0)
abbrev mi_X3_become : MI := (yX3_become, cX3_become, 2, none, 1, 30, 0, 0)
abbrev mi_X3_whoAre : MI := (yX3_whoAre, cX3_whoAre, 4, (some .int), 0, 0, 0, 0)
abbrev mi_X3_sendRound : MI := (yX3_sendRound, cX3_sendRound, 3, none, 0, 0, 0, 0)
abbrev mi_X3_pass : MI := (yX3_pass, cX3_pass, 3, none, 0, 0, 0, 0)
abbrev mi_X4_init : MI := (yX4_init, cX4_init, 1, none, 1, 12, 3, 18)
abbrev mi_X4_add : MI := (yX4_add, cX4_add, 4, none, 0, 0, 0, 0)
abbrev mi_X4_allows : MI := (yX4_allows, cX4_allows, 5, (some .boolean), 2, 43, 0, 0)
abbrev mi_X5_init : MI := (yX5_init, cX5_init, 1, none, 1, 12, 1, 160)
abbrev mi_X5_readInto : MI := (yX5_readInto, cX5_readInto, 3, (some .int), 6, 127, 0, 0)
abbrev mi_X5_readItem : MI := (yX5_readItem, cX5_readItem, 3, (some .boolean), 5, 105, 0, 0)
abbrev mi_X5_readLeaf : MI := (yX5_readLeaf, cX5_readLeaf, 2, (some .boolean), 4, 84, 0, 0)
abbrev mi_X5_readGoer : MI := (yX5_readGoer, cX5_readGoer, 2, (some .boolean), 4, 84, 0, 0)
abbrev mi_X5_readTastes : MI := (yX5_readTastes, cX5_readTastes, 3, (some .boolean), 3, 62, 0, 0)
abbrev mi_X5_readSister : MI := (yX5_readSister, cX5_readSister, 3, (some .boolean), 3, 62, 0, 0)
abbrev mi_X5_readFriday : MI := (yX5_readFriday, cX5_readFriday, 3, (some .boolean), 3, 62, 0, 0)
abbrev mi_X5_readLane : MI := (yX5_readLane, cX5_readLane, 2, (some .boolean), 3, 62, 0, 0)
abbrev mi_X5_isRow : MI := (yX5_isRow, cX5_isRow, 4, (some .boolean), 1, 20, 0, 0)
abbrev mi_X5_rowBits : MI := (yX5_rowBits, cX5_rowBits, 3, (some .int), 0, 0, 0, 0)
abbrev mi_X5_isNumber : MI := (yX5_isNumber, cX5_isNumber, 3, (some .boolean), 1, 22, 0, 0)
abbrev mi_X5_number : MI := (yX5_number, cX5_number, 3, (some .int), 0, 0, 0, 0)
abbrev mi_X5_step : MI := (yX5_step, cX5_step, 1, none, 2, 42, 0, 0)
abbrev mi_X5_takeWord : MI := (yX5_takeWord, cX5_takeWord, 1, none, 1, 21, 0, 0)
abbrev mi_X5_takeNumber : MI := (yX5_takeNumber, cX5_takeNumber, 2, none, 1, 21, 0, 0)
abbrev mi_X5_isLetter : MI := (yX5_isLetter, cX5_isLetter, 2, (some .boolean), 0, 0, 0, 0)
abbrev mi_X5_isDigit : MI := (yX5_isDigit, cX5_isDigit, 2, (some .boolean), 0, 0, 0, 0)
abbrev mi_X6_init : MI := (yX6_init, cX6_init, 2, none, 3, 53, 76, 684)
abbrev mi_X6_type : MI := (yX6_type, cX6_type, 2, (some .int), 0, 0, 0, 0)
abbrev mi_X6_clear : MI := (yX6_clear, cX6_clear, 2, (some .int), 0, 0, 0, 0)
abbrev mi_X6_court : MI := (yX6_court, cX6_court, 4, (some .int), 7, 149, 0, 0)
abbrev mi_X6_leaf : MI := (yX6_leaf, cX6_leaf, 3, (some .int), 3, 66, 0, 0)
abbrev mi_X6_goer : MI := (yX6_goer, cX6_goer, 3, (some .int), 3, 66, 0, 0)
abbrev mi_X6_sister : MI := (yX6_sister, cX6_sister, 3, (some .int), 1, 22, 0, 0)
abbrev mi_X6_now : MI := (yX6_now, cX6_now, 2, (some .int), 5, 111, 0, 0)
abbrev mi_X6_comes : MI := (yX6_comes, cX6_comes, 2, (some .int), 3, 72, 0, 0)
abbrev mi_X6_says : MI := (yX6_says, cX6_says, 4, (some .int), 3, 72, 0, 0)
abbrev mi_X6_minutes : MI := (yX6_minutes, cX6_minutes, 2, (some .int), 3, 72, 0, 0)
abbrev mi_X6_undo : MI := (yX6_undo, cX6_undo, 1, (some .int), 3, 72, 0, 0)
abbrev mi_X6_fewest : MI := (yX6_fewest, cX6_fewest, 5, (some .int), 2, 43, 0, 0)
abbrev mi_X6_line : MI := (yX6_line, cX6_line, 2, (some .int), 5, 121, 0, 0)
abbrev mi_X6_sees : MI := (yX6_sees, cX6_sees, 4, (some .int), 1, 23, 0, 0)
abbrev mi_X6_forget : MI := (yX6_forget, cX6_forget, 2, (some .int), 0, 0, 0, 0)
abbrev mi_X6_had : MI := (yX6_had, cX6_had, 6, (some .int), 3, 67, 0, 0)
abbrev mi_X6_ask : MI := (yX6_ask, cX6_ask, 8, (some .int), 4, 92, 0, 0)
abbrev mi_X6_setsLetBy : MI := (yX6_setsLetBy, cX6_setsLetBy, 5, (some .int), 3, 67, 0, 0)
abbrev mi_X6_tale : MI := (yX6_tale, cX6_tale, 3, (some .int), 2, 46, 0, 0)
abbrev mi_X6_first : MI := (yX6_first, cX6_first, 5, (some .int), 2, 46, 0, 0)
abbrev mi_X6_when : MI := (yX6_when, cX6_when, 2, (some .int), 3, 71, 0, 0)
abbrev mi_X6_odds : MI := (yX6_odds, cX6_odds, 8, (some .int), 2, 46, 0, 0)
abbrev mi_X6_rate : MI := (yX6_rate, cX6_rate, 3, (some .int), 5, 108, 0, 0)
abbrev mi_X6_rateAsGoer : MI := (yX6_rateAsGoer, cX6_rateAsGoer, 2, (some .int), 1, 20, 0, 0)
abbrev mi_X6_rateAsGent : MI := (yX6_rateAsGent, cX6_rateAsGent, 2, (some .int), 2, 41, 0, 0)
abbrev mi_X6_rateAsDoctor : MI := (yX6_rateAsDoctor, cX6_rateAsDoctor, 2, (some .int), 3, 66, 0, 0)
abbrev mi_X6_rateAsSamples : MI := (yX6_rateAsSamples, cX6_rateAsSamples, 2, (some .int), 3, 62, 0, 0)
abbrev mi_X6_rateAsWife : MI := (yX6_rateAsWife, cX6_rateAsWife, 2, (some .int), 4, 87, 0, 0)
abbrev mi_X6_rateAsTall : MI := (yX6_rateAsTall, cX6_rateAsTall, 2, (some .int), 2, 41, 0, 0)
abbrev mi_X6_keep : MI := (yX6_keep, cX6_keep, 2, (some .int), 2, 51, 0, 0)
abbrev mi_X6_back : MI := (yX6_back, cX6_back, 2, (some .int), 2, 51, 0, 0)
abbrev mi_X6_count : MI := (yX6_count, cX6_count, 2, (some .int), 0, 0, 0, 0)
abbrev mi_X6_trace : MI := (yX6_trace, cX6_trace, 1, (some .long), 0, 0, 0, 0)
abbrev mi_X6_isTaste : MI := (yX6_isTaste, cX6_isTaste, 1, (some .boolean), 0, 0, 0, 0)
abbrev mi_X6_hasBit : MI := (yX6_hasBit, cX6_hasBit, 2, (some .boolean), 0, 0, 0, 0)
abbrev mi_X6_lowestBit : MI := (yX6_lowestBit, cX6_lowestBit, 2, (some .int), 1, 21, 0, 0)
abbrev mi_X6_power : MI := (yX6_power, cX6_power, 4, (some .int), 0, 0, 0, 0)
abbrev mi_X6_choices : MI := (yX6_choices, cX6_choices, 4, (some .int), 0, 0, 0, 0)
abbrev mi_X6_greatestDivisor : MI := (yX6_greatestDivisor, cX6_greatestDivisor, 6, (some .int), 1, 21, 0, 0)
abbrev mi_X7_init : MI := (yX7_init, cX7_init, 1, none, 1, 12, 18, 547)
abbrev mi_X7_in : MI := (yX7_in, cX7_in, 6, (some .boolean), 0, 0, 0, 0)
abbrev mi_X7_has : MI := (yX7_has, cX7_has, 2, (some .boolean), 0, 0, 0, 0)
abbrev mi_X7_bits : MI := (yX7_bits, cX7_bits, 3, (some .int), 0, 0, 0, 0)
abbrev mi_X7_lowest : MI := (yX7_lowest, cX7_lowest, 2, (some .int), 1, 21, 0, 0)
abbrev mi_X7_copies : MI := (yX7_copies, cX7_copies, 6, none, 0, 0, 0, 0)
abbrev mi_X7_type : MI := (yX7_type, cX7_type, 2, (some .int), 1, 25, 0, 0)
abbrev mi_X7_clear : MI := (yX7_clear, cX7_clear, 2, (some .int), 0, 0, 0, 0)
abbrev mi_X7_here : MI := (yX7_here, cX7_here, 1, (some .int), 0, 0, 0, 0)
abbrev mi_X7_isLetter : MI := (yX7_isLetter, cX7_isLetter, 1, (some .boolean), 1, 25, 0, 0)
abbrev mi_X7_isFigure : MI := (yX7_isFigure, cX7_isFigure, 1, (some .boolean), 1, 25, 0, 0)
abbrev mi_X7_step : MI := (yX7_step, cX7_step, 1, none, 3, 66, 0, 0)
abbrev mi_X7_readsFigures : MI := (yX7_readsFigures, cX7_readsFigures, 2, none, 2, 45, 0, 0)
abbrev mi_X7_number : MI := (yX7_number, cX7_number, 3, (some .boolean), 4, 86, 0, 0)
abbrev mi_X7_row : MI := (yX7_row, cX7_row, 5, (some .int), 4, 86, 0, 0)
abbrev mi_X7_isLeaf : MI := (yX7_isLeaf, cX7_isLeaf, 2, (some .boolean), 5, 110, 0, 0)
abbrev mi_X7_isGoer : MI := (yX7_isGoer, cX7_isGoer, 2, (some .boolean), 5, 110, 0, 0)
abbrev mi_X7_isSister : MI := (yX7_isSister, cX7_isSister, 2, (some .boolean), 5, 110, 0, 0)
abbrev mi_X7_isFriday : MI := (yX7_isFriday, cX7_isFriday, 2, (some .boolean), 5, 108, 0, 0)
abbrev mi_X7_isLane : MI := (yX7_isLane, cX7_isLane, 1, (some .boolean), 5, 108, 0, 0)
abbrev mi_X7_isItem : MI := (yX7_isItem, cX7_isItem, 1, (some .boolean), 6, 131, 0, 0)
abbrev mi_X7_reads : MI := (yX7_reads, cX7_reads, 2, (some .int), 7, 151, 0, 0)
abbrev mi_X7_court : MI := (yX7_court, cX7_court, 3, (some .int), 8, 172, 0, 0)
abbrev mi_X7_isTheLeaf : MI := (yX7_isTheLeaf, cX7_isTheLeaf, 2, (some .boolean), 1, 25, 0, 0)
abbrev mi_X7_isOne : MI := (yX7_isOne, cX7_isOne, 2, (some .boolean), 1, 25, 0, 0)
abbrev mi_X7_isTaste : MI := (yX7_isTaste, cX7_isTaste, 1, (some .boolean), 1, 25, 0, 0)
abbrev mi_X7_isBit : MI := (yX7_isBit, cX7_isBit, 1, (some .boolean), 1, 25, 0, 0)
abbrev mi_X7_lets : MI := (yX7_lets, cX7_lets, 3, (some .boolean), 0, 0, 0, 0)
abbrev mi_X7_letsBy : MI := (yX7_letsBy, cX7_letsBy, 4, (some .int), 1, 22, 0, 0)
abbrev mi_X7_leavesOf : MI := (yX7_leavesOf, cX7_leavesOf, 4, (some .int), 1, 22, 0, 0)
abbrev mi_X7_those : MI := (yX7_those, cX7_those, 4, (some .int), 0, 0, 0, 0)
abbrev mi_X7_cover : MI := (yX7_cover, cX7_cover, 5, (some .int), 2, 45, 0, 0)
abbrev mi_X7_leaf : MI := (yX7_leaf, cX7_leaf, 3, (some .int), 2, 46, 0, 0)
abbrev mi_X7_goer : MI := (yX7_goer, cX7_goer, 3, (some .int), 2, 46, 0, 0)
abbrev mi_X7_sister : MI := (yX7_sister, cX7_sister, 3, (some .int), 2, 45, 0, 0)
abbrev mi_X7_now : MI := (yX7_now, cX7_now, 2, (some .int), 3, 69, 0, 0)
abbrev mi_X7_notes : MI := (yX7_notes, cX7_notes, 2, none, 1, 25, 0, 0)
abbrev mi_X7_comes : MI := (yX7_comes, cX7_comes, 2, (some .int), 2, 46, 0, 0)
abbrev mi_X7_says : MI := (yX7_says, cX7_says, 4, (some .int), 2, 46, 0, 0)
abbrev mi_X7_minutes : MI := (yX7_minutes, cX7_minutes, 3, (some .int), 2, 46, 0, 0)
abbrev mi_X7_undo : MI := (yX7_undo, cX7_undo, 1, (some .int), 1, 25, 0, 0)
abbrev mi_X7_fewest : MI := (yX7_fewest, cX7_fewest, 5, (some .int), 2, 46, 0, 0)
abbrev mi_X7_nextOrder : MI := (yX7_nextOrder, cX7_nextOrder, 7, (some .boolean), 0, 0, 0, 0)
abbrev mi_X7_line : MI := (yX7_line, cX7_line, 7, (some .int), 1, 26, 0, 0)
abbrev mi_X7_sees : MI := (yX7_sees, cX7_sees, 4, (some .int), 2, 46, 0, 0)
abbrev mi_X7_forget : MI := (yX7_forget, cX7_forget, 2, (some .int), 0, 0, 0, 0)
abbrev mi_X7_canHave : MI := (yX7_canHave, cX7_canHave, 4, (some .boolean), 1, 21, 0, 0)
abbrev mi_X7_had : MI := (yX7_had, cX7_had, 6, (some .int), 2, 44, 0, 0)
abbrev mi_X7_ask : MI := (yX7_ask, cX7_ask, 8, (some .int), 3, 69, 0, 0)
abbrev mi_X7_taleOf : MI := (yX7_taleOf, cX7_taleOf, 5, (some .int), 0, 0, 0, 0)
abbrev mi_X7_isTold : MI := (yX7_isTold, cX7_isTold, 2, (some .boolean), 0, 0, 0, 0)
abbrev mi_X7_tale : MI := (yX7_tale, cX7_tale, 3, (some .int), 2, 45, 0, 0)
abbrev mi_X7_first : MI := (yX7_first, cX7_first, 5, (some .int), 2, 45, 0, 0)
abbrev mi_X7_when : MI := (yX7_when, cX7_when, 5, (some .int), 1, 25, 0, 0)
abbrev mi_X7_power : MI := (yX7_power, cX7_power, 6, (some .long), 0, 0, 0, 0)
abbrev mi_X7_odds : MI := (yX7_odds, cX7_odds, 15, (some .int), 2, 45, 0, 0)
abbrev mi_X7_asGoer : MI := (yX7_asGoer, cX7_asGoer, 2, (some .int), 1, 22, 0, 0)
abbrev mi_X7_asGent : MI := (yX7_asGent, cX7_asGent, 2, (some .int), 2, 43, 0, 0)
abbrev mi_X7_asDoctor : MI := (yX7_asDoctor, cX7_asDoctor, 2, (some .int), 2, 45, 0, 0)
abbrev mi_X7_rate : MI := (yX7_rate, cX7_rate, 3, (some .int), 3, 66, 0, 0)
abbrev mi_X7_keep : MI := (yX7_keep, cX7_keep, 2, (some .int), 2, 45, 0, 0)
abbrev mi_X7_back : MI := (yX7_back, cX7_back, 2, (some .int), 2, 45, 0, 0)
abbrev mi_X7_count : MI := (yX7_count, cX7_count, 2, (some .int), 0, 0, 0, 0)
abbrev mi_X7_trace : MI := (yX7_trace, cX7_trace, 1, (some .long), 0, 0, 0, 0)
abbrev mi_J6_bitCount_0f7a4 : MI := (yJ6_bitCount_0f7a4, cJ6_bitCount_0f7a4, 1, (some .int), 0, 0, 0, 0)
abbrev mi_J7_fill_53178 : MI := (yJ7_fill_53178, cJ7_fill_53178, 4, none, 0, 0, 0, 0)
abbrev mi_J9_max_7cf53 : MI := (yJ9_max_7cf53, cJ9_max_7cf53, 2, (some .int), 0, 0, 0, 0)
abbrev mi_J9_min_7cf53 : MI := (yJ9_min_7cf53, cJ9_min_7cf53, 2, (some .int), 0, 0, 0, 0)
abbrev mi_L_law : MI := (yL_law, cL_law, 4, (some .boolean), 11, 388, 600000, 7302250)
end
section
theorem w_ini_RL : Cond.initialized RL ∈ gtbl := gmem (List.mem_of_getElem? (i := 57) (by decide +kernel)) (by decide +kernel)
theorem w_ini_RX6 : Cond.initialized RX6 ∈ gtbl := gmem (List.mem_of_getElem? (i := 58) (by decide +kernel)) (by decide +kernel)
theorem w_ini_RX5 : Cond.initialized RX5 ∈ gtbl := gmem (List.mem_of_getElem? (i := 59) (by decide +kernel)) (by decide +kernel)
theorem w_ini_RX0 : Cond.initialized RX0 ∈ gtbl := gmem (List.mem_of_getElem? (i := 60) (by decide +kernel)) (by decide +kernel)
theorem w_ini_RX3 : Cond.initialized RX3 ∈ gtbl := gmem (List.mem_of_getElem? (i := 61) (by decide +kernel)) (by decide +kernel)
theorem w_ini_RX1 : Cond.initialized RX1 ∈ gtbl := gmem (List.mem_of_getElem? (i := 62) (by decide +kernel)) (by decide +kernel)
theorem w_ini_RX4 : Cond.initialized RX4 ∈ gtbl := gmem (List.mem_of_getElem? (i := 63) (by decide +kernel)) (by decide +kernel)
theorem w_ini_RX2 : Cond.initialized RX2 ∈ gtbl := gmem (List.mem_of_getElem? (i := 64) (by decide +kernel)) (by decide +kernel)
theorem w_ini_RX7 : Cond.initialized RX7 ∈ gtbl := gmem (List.mem_of_getElem? (i := 65) (by decide +kernel)) (by decide +kernel)
theorem w_ini_RJ7 : Cond.initialized RJ7 ∈ gtbl := gmem (List.mem_of_getElem? (i := 66) (by decide +kernel)) (by decide +kernel)
theorem w_ini_RJ6 : Cond.initialized RJ6 ∈ gtbl := gmem (List.mem_of_getElem? (i := 67) (by decide +kernel)) (by decide +kernel)
theorem w_ini_RJ10 : Cond.initialized RJ10 ∈ gtbl := gmem (List.mem_of_getElem? (i := 68) (by decide +kernel)) (by decide +kernel)
theorem w_ini_System : Cond.initialized "java/lang/System" ∈ gtbl := gmem (List.mem_of_getElem? (i := 68) (by decide +kernel)) (by decide +kernel)
theorem w_ini_RJ9 : Cond.initialized RJ9 ∈ gtbl := gmem (List.mem_of_getElem? (i := 69) (by decide +kernel)) (by decide +kernel)
theorem k_L_7 : Cond.classLink RL 7 RX6 ∈ gtbl := gmem (List.mem_of_getElem? (i := 70) (by decide +kernel)) (by decide +kernel)
theorem w_new_6 : Cond.instantiable (cNm 6) (cNf 6) ∈ gtbl := gmem (List.mem_of_getElem? (i := 71) (by decide +kernel)) (by decide +kernel)
theorem l_L_9 : Cond.methodLink RL 9 yX6_init ∈ gtbl := gmem (List.mem_of_getElem? (i := 72) (by decide +kernel)) (by decide +kernel)
theorem w_inst_X6_init : Cond.instanceMethod yX6_init ∈ gtbl := gmem (List.mem_of_getElem? (i := 73) (by decide +kernel)) (by decide +kernel)
theorem w_code_X6_init : Cond.code yX6_init cX6_init 2 none ∈ gtbl := gmem (List.mem_of_getElem? (i := 74) (by decide +kernel)) (by decide +kernel)
theorem l_X6_1 : Cond.methodLink RX6 1 objectInit ∈ gtbl := gmem (List.mem_of_getElem? (i := 75) (by decide +kernel)) (by decide +kernel)
theorem w_inst_obj : Cond.instanceMethod objectInit ∈ gtbl := gmem (List.mem_of_getElem? (i := 76) (by decide +kernel)) (by decide +kernel)
theorem w_code_obj : Cond.code objectInit ⟨#[0xb1]⟩ 1 none ∈ gtbl := gmem (List.mem_of_getElem? (i := 77) (by decide +kernel)) (by decide +kernel)
theorem k_X6_7 : Cond.classLink RX6 7 RX5 ∈ gtbl := gmem (List.mem_of_getElem? (i := 78) (by decide +kernel)) (by decide +kernel)
theorem w_new_5 : Cond.instantiable (cNm 5) (cNf 5) ∈ gtbl := gmem (List.mem_of_getElem? (i := 79) (by decide +kernel)) (by decide +kernel)
theorem l_X6_9 : Cond.methodLinkNest RX6 9 yX5_init "TruePies" ∈ ntbl := nmem (List.mem_of_getElem? (i := 80) (by decide +kernel)) (by decide +kernel)
theorem w_inst_X5_init : Cond.instanceMethod yX5_init ∈ gtbl := gmem (List.mem_of_getElem? (i := 81) (by decide +kernel)) (by decide +kernel)
theorem w_code_X5_init : Cond.code yX5_init cX5_init 1 none ∈ gtbl := gmem (List.mem_of_getElem? (i := 82) (by decide +kernel)) (by decide +kernel)
theorem l_X5_3 : Cond.methodLink RX5 3 objectInit ∈ gtbl := gmem (List.mem_of_getElem? (i := 83) (by decide +kernel)) (by decide +kernel)
theorem f_X5_9 : FL RX5 9 5 0 := ⟨by decide, by decide, gmem (List.mem_of_getElem? (i := 84) (by decide +kernel)) (by decide +kernel)⟩
theorem f_X6_70 : FL RX6 70 5 0 := ⟨by decide, by decide, gmem (List.mem_of_getElem? (i := 85) (by decide +kernel)) (by decide +kernel)⟩
theorem f_X5_15 : FL RX5 15 5 1 := ⟨by decide, by decide, gmem (List.mem_of_getElem? (i := 86) (by decide +kernel)) (by decide +kernel)⟩
theorem f_X6_66 : FL RX6 66 5 1 := ⟨by decide, by decide, gmem (List.mem_of_getElem? (i := 87) (by decide +kernel)) (by decide +kernel)⟩
theorem f_X5_19 : FL RX5 19 5 2 := ⟨by decide, by decide, gmem (List.mem_of_getElem? (i := 88) (by decide +kernel)) (by decide +kernel)⟩
theorem f_X5_22 : FL RX5 22 5 3 := ⟨by decide, by decide, gmem (List.mem_of_getElem? (i := 89) (by decide +kernel)) (by decide +kernel)⟩
theorem f_X5_25 : FL RX5 25 5 4 := ⟨by decide, by decide, gmem (List.mem_of_getElem? (i := 90) (by decide +kernel)) (by decide +kernel)⟩
theorem f_X5_28 : FL RX5 28 5 5 := ⟨by decide, by decide, gmem (List.mem_of_getElem? (i := 91) (by decide +kernel)) (by decide +kernel)⟩
theorem w_arr_int : Cond.arrayClass .int ∈ gtbl := gmem (List.mem_of_getElem? (i := 105) (by decide +kernel)) (by decide +kernel)
theorem k_X6_16 : Cond.classLink RX6 16 RX0 ∈ gtbl := gmem (List.mem_of_getElem? (i := 106) (by decide +kernel)) (by decide +kernel)
theorem w_new_0 : Cond.instantiable (cNm 0) (cNf 0) ∈ gtbl := gmem (List.mem_of_getElem? (i := 107) (by decide +kernel)) (by decide +kernel)
theorem l_X6_18 : Cond.methodLinkNest RX6 18 yX0_init "TruePies" ∈ ntbl := nmem (List.mem_of_getElem? (i := 108) (by decide +kernel)) (by decide +kernel)
theorem w_inst_X0_init : Cond.instanceMethod yX0_init ∈ gtbl := gmem (List.mem_of_getElem? (i := 109) (by decide +kernel)) (by decide +kernel)
theorem w_code_X0_init : Cond.code yX0_init cX0_init 1 none ∈ gtbl := gmem (List.mem_of_getElem? (i := 110) (by decide +kernel)) (by decide +kernel)
theorem l_X0_3 : Cond.methodLink RX0 3 objectInit ∈ gtbl := gmem (List.mem_of_getElem? (i := 111) (by decide +kernel)) (by decide +kernel)
theorem f_X0_9 : FL RX0 9 0 0 := ⟨by decide, by decide, gmem (List.mem_of_getElem? (i := 112) (by decide +kernel)) (by decide +kernel)⟩
theorem f_X5_59 : FL RX5 59 0 0 := ⟨by decide, by decide, gmem (List.mem_of_getElem? (i := 113) (by decide +kernel)) (by decide +kernel)⟩
theorem f_X6_91 : FL RX6 91 0 0 := ⟨by decide, by decide, gmem (List.mem_of_getElem? (i := 114) (by decide +kernel)) (by decide +kernel)⟩
theorem f_X0_15 : FL RX0 15 0 1 := ⟨by decide, by decide, gmem (List.mem_of_getElem? (i := 115) (by decide +kernel)) (by decide +kernel)⟩
theorem f_X5_69 : FL RX5 69 0 1 := ⟨by decide, by decide, gmem (List.mem_of_getElem? (i := 116) (by decide +kernel)) (by decide +kernel)⟩
theorem f_X6_101 : FL RX6 101 0 1 := ⟨by decide, by decide, gmem (List.mem_of_getElem? (i := 117) (by decide +kernel)) (by decide +kernel)⟩
theorem f_X0_18 : FL RX0 18 0 2 := ⟨by decide, by decide, gmem (List.mem_of_getElem? (i := 118) (by decide +kernel)) (by decide +kernel)⟩
theorem f_X5_86 : FL RX5 86 0 2 := ⟨by decide, by decide, gmem (List.mem_of_getElem? (i := 119) (by decide +kernel)) (by decide +kernel)⟩
theorem f_X0_21 : FL RX0 21 0 3 := ⟨by decide, by decide, gmem (List.mem_of_getElem? (i := 120) (by decide +kernel)) (by decide +kernel)⟩
theorem f_X5_99 : FL RX5 99 0 3 := ⟨by decide, by decide, gmem (List.mem_of_getElem? (i := 121) (by decide +kernel)) (by decide +kernel)⟩
theorem f_X0_24 : FL RX0 24 0 4 := ⟨by decide, by decide, gmem (List.mem_of_getElem? (i := 122) (by decide +kernel)) (by decide +kernel)⟩
theorem f_X5_102 : FL RX5 102 0 4 := ⟨by decide, by decide, gmem (List.mem_of_getElem? (i := 123) (by decide +kernel)) (by decide +kernel)⟩
theorem f_X0_27 : FL RX0 27 0 5 := ⟨by decide, by decide, gmem (List.mem_of_getElem? (i := 124) (by decide +kernel)) (by decide +kernel)⟩
theorem f_X5_62 : FL RX5 62 0 5 := ⟨by decide, by decide, gmem (List.mem_of_getElem? (i := 125) (by decide +kernel)) (by decide +kernel)⟩
theorem f_X6_151 : FL RX6 151 0 5 := ⟨by decide, by decide, gmem (List.mem_of_getElem? (i := 126) (by decide +kernel)) (by decide +kernel)⟩
theorem f_X0_31 : FL RX0 31 0 6 := ⟨by decide, by decide, gmem (List.mem_of_getElem? (i := 127) (by decide +kernel)) (by decide +kernel)⟩
theorem f_X5_72 : FL RX5 72 0 6 := ⟨by decide, by decide, gmem (List.mem_of_getElem? (i := 128) (by decide +kernel)) (by decide +kernel)⟩
theorem f_X6_264 : FL RX6 264 0 6 := ⟨by decide, by decide, gmem (List.mem_of_getElem? (i := 129) (by decide +kernel)) (by decide +kernel)⟩
theorem f_X0_34 : FL RX0 34 0 7 := ⟨by decide, by decide, gmem (List.mem_of_getElem? (i := 130) (by decide +kernel)) (by decide +kernel)⟩
theorem f_X5_83 : FL RX5 83 0 7 := ⟨by decide, by decide, gmem (List.mem_of_getElem? (i := 131) (by decide +kernel)) (by decide +kernel)⟩
theorem f_X6_119 : FL RX6 119 0 7 := ⟨by decide, by decide, gmem (List.mem_of_getElem? (i := 132) (by decide +kernel)) (by decide +kernel)⟩
theorem f_X0_37 : FL RX0 37 0 8 := ⟨by decide, by decide, gmem (List.mem_of_getElem? (i := 133) (by decide +kernel)) (by decide +kernel)⟩
theorem f_X5_89 : FL RX5 89 0 8 := ⟨by decide, by decide, gmem (List.mem_of_getElem? (i := 134) (by decide +kernel)) (by decide +kernel)⟩
theorem f_X6_267 : FL RX6 267 0 8 := ⟨by decide, by decide, gmem (List.mem_of_getElem? (i := 135) (by decide +kernel)) (by decide +kernel)⟩
theorem f_X0_40 : FL RX0 40 0 9 := ⟨by decide, by decide, gmem (List.mem_of_getElem? (i := 136) (by decide +kernel)) (by decide +kernel)⟩
theorem f_X5_105 : FL RX5 105 0 9 := ⟨by decide, by decide, gmem (List.mem_of_getElem? (i := 137) (by decide +kernel)) (by decide +kernel)⟩
theorem f_X6_161 : FL RX6 161 0 9 := ⟨by decide, by decide, gmem (List.mem_of_getElem? (i := 138) (by decide +kernel)) (by decide +kernel)⟩
theorem k_X6_26 : Cond.classLink RX6 26 RX3 ∈ gtbl := gmem (List.mem_of_getElem? (i := 160) (by decide +kernel)) (by decide +kernel)
theorem w_new_3 : Cond.instantiable (cNm 3) (cNf 3) ∈ gtbl := gmem (List.mem_of_getElem? (i := 161) (by decide +kernel)) (by decide +kernel)
theorem l_X6_28 : Cond.methodLinkNest RX6 28 yX3_init "TruePies" ∈ ntbl := nmem (List.mem_of_getElem? (i := 162) (by decide +kernel)) (by decide +kernel)
theorem w_inst_X3_init : Cond.instanceMethod yX3_init ∈ gtbl := gmem (List.mem_of_getElem? (i := 163) (by decide +kernel)) (by decide +kernel)
theorem w_code_X3_init : Cond.code yX3_init cX3_init 1 none ∈ gtbl := gmem (List.mem_of_getElem? (i := 164) (by decide +kernel)) (by decide +kernel)
theorem l_X3_3 : Cond.methodLink RX3 3 objectInit ∈ gtbl := gmem (List.mem_of_getElem? (i := 165) (by decide +kernel)) (by decide +kernel)
theorem f_X3_9 : FL RX3 9 3 0 := ⟨by decide, by decide, gmem (List.mem_of_getElem? (i := 166) (by decide +kernel)) (by decide +kernel)⟩
theorem f_X6_110 : FL RX6 110 3 0 := ⟨by decide, by decide, gmem (List.mem_of_getElem? (i := 167) (by decide +kernel)) (by decide +kernel)⟩
theorem f_X3_15 : FL RX3 15 3 1 := ⟨by decide, by decide, gmem (List.mem_of_getElem? (i := 168) (by decide +kernel)) (by decide +kernel)⟩
theorem f_X2_38 : FL RX2 38 3 1 := ⟨by decide, by decide, gmem (List.mem_of_getElem? (i := 169) (by decide +kernel)) (by decide +kernel)⟩
theorem f_X6_129 : FL RX6 129 3 1 := ⟨by decide, by decide, gmem (List.mem_of_getElem? (i := 170) (by decide +kernel)) (by decide +kernel)⟩
theorem f_X3_18 : FL RX3 18 3 2 := ⟨by decide, by decide, gmem (List.mem_of_getElem? (i := 171) (by decide +kernel)) (by decide +kernel)⟩
theorem f_X6_132 : FL RX6 132 3 2 := ⟨by decide, by decide, gmem (List.mem_of_getElem? (i := 172) (by decide +kernel)) (by decide +kernel)⟩
theorem f_X3_21 : FL RX3 21 3 3 := ⟨by decide, by decide, gmem (List.mem_of_getElem? (i := 173) (by decide +kernel)) (by decide +kernel)⟩
theorem f_X6_104 : FL RX6 104 3 3 := ⟨by decide, by decide, gmem (List.mem_of_getElem? (i := 174) (by decide +kernel)) (by decide +kernel)⟩
theorem f_X3_25 : FL RX3 25 3 4 := ⟨by decide, by decide, gmem (List.mem_of_getElem? (i := 175) (by decide +kernel)) (by decide +kernel)⟩
theorem f_X6_107 : FL RX6 107 3 4 := ⟨by decide, by decide, gmem (List.mem_of_getElem? (i := 176) (by decide +kernel)) (by decide +kernel)⟩
theorem f_X3_28 : FL RX3 28 3 5 := ⟨by decide, by decide, gmem (List.mem_of_getElem? (i := 177) (by decide +kernel)) (by decide +kernel)⟩
theorem f_X6_113 : FL RX6 113 3 5 := ⟨by decide, by decide, gmem (List.mem_of_getElem? (i := 178) (by decide +kernel)) (by decide +kernel)⟩
theorem k_X6_33 : Cond.classLink RX6 33 RX1 ∈ gtbl := gmem (List.mem_of_getElem? (i := 192) (by decide +kernel)) (by decide +kernel)
theorem w_new_1 : Cond.instantiable (cNm 1) (cNf 1) ∈ gtbl := gmem (List.mem_of_getElem? (i := 193) (by decide +kernel)) (by decide +kernel)
theorem l_X6_35 : Cond.methodLink RX6 35 yX1_init ∈ gtbl := gmem (List.mem_of_getElem? (i := 194) (by decide +kernel)) (by decide +kernel)
theorem w_inst_X1_init : Cond.instanceMethod yX1_init ∈ gtbl := gmem (List.mem_of_getElem? (i := 195) (by decide +kernel)) (by decide +kernel)
theorem w_code_X1_init : Cond.code yX1_init cX1_init 2 none ∈ gtbl := gmem (List.mem_of_getElem? (i := 196) (by decide +kernel)) (by decide +kernel)
theorem l_X1_3 : Cond.methodLink RX1 3 objectInit ∈ gtbl := gmem (List.mem_of_getElem? (i := 197) (by decide +kernel)) (by decide +kernel)
theorem k_X1_9 : Cond.classLink RX1 9 RX3 ∈ gtbl := gmem (List.mem_of_getElem? (i := 198) (by decide +kernel)) (by decide +kernel)
theorem l_X1_24 : Cond.methodLinkNest RX1 24 yX3_init "TruePies" ∈ ntbl := nmem (List.mem_of_getElem? (i := 200) (by decide +kernel)) (by decide +kernel)
theorem f_X1_11 : FL RX1 11 1 0 := ⟨by decide, by decide, gmem (List.mem_of_getElem? (i := 201) (by decide +kernel)) (by decide +kernel)⟩
theorem f_X1_17 : FL RX1 17 1 1 := ⟨by decide, by decide, gmem (List.mem_of_getElem? (i := 202) (by decide +kernel)) (by decide +kernel)⟩
theorem f_X6_81 : FL RX6 81 1 1 := ⟨by decide, by decide, gmem (List.mem_of_getElem? (i := 203) (by decide +kernel)) (by decide +kernel)⟩
theorem f_X1_21 : FL RX1 21 1 2 := ⟨by decide, by decide, gmem (List.mem_of_getElem? (i := 204) (by decide +kernel)) (by decide +kernel)⟩
theorem k_X6_48 : Cond.classLink RX6 48 RX4 ∈ gtbl := gmem (List.mem_of_getElem? (i := 212) (by decide +kernel)) (by decide +kernel)
theorem w_new_4 : Cond.instantiable (cNm 4) (cNf 4) ∈ gtbl := gmem (List.mem_of_getElem? (i := 213) (by decide +kernel)) (by decide +kernel)
theorem l_X6_50 : Cond.methodLinkNest RX6 50 yX4_init "TruePies" ∈ ntbl := nmem (List.mem_of_getElem? (i := 214) (by decide +kernel)) (by decide +kernel)
theorem w_inst_X4_init : Cond.instanceMethod yX4_init ∈ gtbl := gmem (List.mem_of_getElem? (i := 215) (by decide +kernel)) (by decide +kernel)
theorem w_code_X4_init : Cond.code yX4_init cX4_init 1 none ∈ gtbl := gmem (List.mem_of_getElem? (i := 216) (by decide +kernel)) (by decide +kernel)
theorem l_X4_3 : Cond.methodLink RX4 3 objectInit ∈ gtbl := gmem (List.mem_of_getElem? (i := 217) (by decide +kernel)) (by decide +kernel)
theorem f_X4_9 : FL RX4 9 4 0 := ⟨by decide, by decide, gmem (List.mem_of_getElem? (i := 218) (by decide +kernel)) (by decide +kernel)⟩
theorem f_X4_15 : FL RX4 15 4 1 := ⟨by decide, by decide, gmem (List.mem_of_getElem? (i := 219) (by decide +kernel)) (by decide +kernel)⟩
theorem f_X4_18 : FL RX4 18 4 2 := ⟨by decide, by decide, gmem (List.mem_of_getElem? (i := 220) (by decide +kernel)) (by decide +kernel)⟩
theorem f_X4_21 : FL RX4 21 4 3 := ⟨by decide, by decide, gmem (List.mem_of_getElem? (i := 221) (by decide +kernel)) (by decide +kernel)⟩
theorem f_X6_84 : FL RX6 84 4 3 := ⟨by decide, by decide, gmem (List.mem_of_getElem? (i := 222) (by decide +kernel)) (by decide +kernel)⟩
theorem w_arr_boolean : Cond.arrayClass .boolean ∈ gtbl := gmem (List.mem_of_getElem? (i := 232) (by decide +kernel)) (by decide +kernel)
theorem k_X6_55 : Cond.classLink RX6 55 RX2 ∈ gtbl := gmem (List.mem_of_getElem? (i := 233) (by decide +kernel)) (by decide +kernel)
theorem w_new_2 : Cond.instantiable (cNm 2) (cNf 2) ∈ gtbl := gmem (List.mem_of_getElem? (i := 234) (by decide +kernel)) (by decide +kernel)
theorem l_X6_57 : Cond.methodLinkNest RX6 57 yX2_init "TruePies" ∈ ntbl := nmem (List.mem_of_getElem? (i := 235) (by decide +kernel)) (by decide +kernel)
theorem w_inst_X2_init : Cond.instanceMethod yX2_init ∈ gtbl := gmem (List.mem_of_getElem? (i := 236) (by decide +kernel)) (by decide +kernel)
theorem w_code_X2_init : Cond.code yX2_init cX2_init 1 none ∈ gtbl := gmem (List.mem_of_getElem? (i := 237) (by decide +kernel)) (by decide +kernel)
theorem l_X2_3 : Cond.methodLink RX2 3 objectInit ∈ gtbl := gmem (List.mem_of_getElem? (i := 238) (by decide +kernel)) (by decide +kernel)
theorem f_X2_9 : FL RX2 9 2 0 := ⟨by decide, by decide, gmem (List.mem_of_getElem? (i := 239) (by decide +kernel)) (by decide +kernel)⟩
theorem f_X6_190 : FL RX6 190 2 0 := ⟨by decide, by decide, gmem (List.mem_of_getElem? (i := 240) (by decide +kernel)) (by decide +kernel)⟩
theorem f_X6_10 : FL RX6 10 6 0 := ⟨by decide, by decide, gmem (List.mem_of_getElem? (i := 244) (by decide +kernel)) (by decide +kernel)⟩
theorem f_X6_19 : FL RX6 19 6 1 := ⟨by decide, by decide, gmem (List.mem_of_getElem? (i := 245) (by decide +kernel)) (by decide +kernel)⟩
theorem f_X6_23 : FL RX6 23 6 2 := ⟨by decide, by decide, gmem (List.mem_of_getElem? (i := 246) (by decide +kernel)) (by decide +kernel)⟩
theorem f_X6_29 : FL RX6 29 6 3 := ⟨by decide, by decide, gmem (List.mem_of_getElem? (i := 247) (by decide +kernel)) (by decide +kernel)⟩
theorem f_X6_36 : FL RX6 36 6 4 := ⟨by decide, by decide, gmem (List.mem_of_getElem? (i := 248) (by decide +kernel)) (by decide +kernel)⟩
theorem f_X6_40 : FL RX6 40 6 5 := ⟨by decide, by decide, gmem (List.mem_of_getElem? (i := 249) (by decide +kernel)) (by decide +kernel)⟩
theorem f_X6_44 : FL RX6 44 6 6 := ⟨by decide, by decide, gmem (List.mem_of_getElem? (i := 250) (by decide +kernel)) (by decide +kernel)⟩
theorem f_X6_51 : FL RX6 51 6 7 := ⟨by decide, by decide, gmem (List.mem_of_getElem? (i := 251) (by decide +kernel)) (by decide +kernel)⟩
theorem f_X6_58 : FL RX6 58 6 8 := ⟨by decide, by decide, gmem (List.mem_of_getElem? (i := 252) (by decide +kernel)) (by decide +kernel)⟩
theorem f_X6_62 : FL RX6 62 6 9 := ⟨by decide, by decide, gmem (List.mem_of_getElem? (i := 253) (by decide +kernel)) (by decide +kernel)⟩
theorem l_L_13 : Cond.methodLink RL 13 yX6_type ∈ gtbl := gmem (List.mem_of_getElem? (i := 275) (by decide +kernel)) (by decide +kernel)
theorem w_inst_X6_type : Cond.instanceMethod yX6_type ∈ gtbl := gmem (List.mem_of_getElem? (i := 276) (by decide +kernel)) (by decide +kernel)
theorem w_sel_X6_type : Cond.selects RX6 yX6_type yX6_type ∈ gtbl := gmem (List.mem_of_getElem? (i := 277) (by decide +kernel)) (by decide +kernel)
theorem w_code_X6_type : Cond.code yX6_type cX6_type 2 (some .int) ∈ gtbl := gmem (List.mem_of_getElem? (i := 278) (by decide +kernel)) (by decide +kernel)
theorem l_L_18 : Cond.methodLink RL 18 yX6_clear ∈ gtbl := gmem (List.mem_of_getElem? (i := 279) (by decide +kernel)) (by decide +kernel)
theorem w_inst_X6_clear : Cond.instanceMethod yX6_clear ∈ gtbl := gmem (List.mem_of_getElem? (i := 280) (by decide +kernel)) (by decide +kernel)
theorem w_sel_X6_clear : Cond.selects RX6 yX6_clear yX6_clear ∈ gtbl := gmem (List.mem_of_getElem? (i := 281) (by decide +kernel)) (by decide +kernel)
theorem w_code_X6_clear : Cond.code yX6_clear cX6_clear 2 (some .int) ∈ gtbl := gmem (List.mem_of_getElem? (i := 282) (by decide +kernel)) (by decide +kernel)
theorem l_L_23 : Cond.methodLink RL 23 yX6_court ∈ gtbl := gmem (List.mem_of_getElem? (i := 283) (by decide +kernel)) (by decide +kernel)
theorem w_inst_X6_court : Cond.instanceMethod yX6_court ∈ gtbl := gmem (List.mem_of_getElem? (i := 284) (by decide +kernel)) (by decide +kernel)
theorem w_sel_X6_court : Cond.selects RX6 yX6_court yX6_court ∈ gtbl := gmem (List.mem_of_getElem? (i := 285) (by decide +kernel)) (by decide +kernel)
theorem w_code_X6_court : Cond.code yX6_court cX6_court 4 (some .int) ∈ gtbl := gmem (List.mem_of_getElem? (i := 286) (by decide +kernel)) (by decide +kernel)
theorem l_X6_74 : Cond.methodLink RX6 74 yX5_readInto ∈ gtbl := gmem (List.mem_of_getElem? (i := 287) (by decide +kernel)) (by decide +kernel)
theorem w_inst_X5_readInto : Cond.instanceMethod yX5_readInto ∈ gtbl := gmem (List.mem_of_getElem? (i := 288) (by decide +kernel)) (by decide +kernel)
theorem w_sel_X5_readInto : Cond.selects RX5 yX5_readInto yX5_readInto ∈ gtbl := gmem (List.mem_of_getElem? (i := 289) (by decide +kernel)) (by decide +kernel)
theorem w_code_X5_readInto : Cond.code yX5_readInto cX5_readInto 3 (some .int) ∈ gtbl := gmem (List.mem_of_getElem? (i := 290) (by decide +kernel)) (by decide +kernel)
theorem l_X5_32 : Cond.methodLink RX5 32 yX0_startAnew ∈ gtbl := gmem (List.mem_of_getElem? (i := 291) (by decide +kernel)) (by decide +kernel)
theorem w_inst_X0_startAnew : Cond.instanceMethod yX0_startAnew ∈ gtbl := gmem (List.mem_of_getElem? (i := 292) (by decide +kernel)) (by decide +kernel)
theorem w_sel_X0_startAnew : Cond.selects RX0 yX0_startAnew yX0_startAnew ∈ gtbl := gmem (List.mem_of_getElem? (i := 293) (by decide +kernel)) (by decide +kernel)
theorem w_code_X0_startAnew : Cond.code yX0_startAnew cX0_startAnew 1 none ∈ gtbl := gmem (List.mem_of_getElem? (i := 294) (by decide +kernel)) (by decide +kernel)
theorem l_X5_37 : Cond.methodLink RX5 37 yX5_step ∈ gtbl := gmem (List.mem_of_getElem? (i := 295) (by decide +kernel)) (by decide +kernel)
theorem w_inst_X5_step : Cond.instanceMethod yX5_step ∈ gtbl := gmem (List.mem_of_getElem? (i := 297) (by decide +kernel)) (by decide +kernel)
theorem w_code_X5_step : Cond.code yX5_step cX5_step 1 none ∈ gtbl := gmem (List.mem_of_getElem? (i := 298) (by decide +kernel)) (by decide +kernel)
theorem l_X5_111 : Cond.methodLink RX5 111 yX5_isLetter ∈ gtbl := gmem (List.mem_of_getElem? (i := 299) (by decide +kernel)) (by decide +kernel)
theorem w_inst_X5_isLetter : Cond.instanceMethod yX5_isLetter ∈ gtbl := gmem (List.mem_of_getElem? (i := 301) (by decide +kernel)) (by decide +kernel)
theorem w_code_X5_isLetter : Cond.code yX5_isLetter cX5_isLetter 2 (some .boolean) ∈ gtbl := gmem (List.mem_of_getElem? (i := 302) (by decide +kernel)) (by decide +kernel)
theorem l_X5_114 : Cond.methodLink RX5 114 yX5_takeWord ∈ gtbl := gmem (List.mem_of_getElem? (i := 303) (by decide +kernel)) (by decide +kernel)
theorem w_inst_X5_takeWord : Cond.instanceMethod yX5_takeWord ∈ gtbl := gmem (List.mem_of_getElem? (i := 305) (by decide +kernel)) (by decide +kernel)
theorem w_code_X5_takeWord : Cond.code yX5_takeWord cX5_takeWord 1 none ∈ gtbl := gmem (List.mem_of_getElem? (i := 306) (by decide +kernel)) (by decide +kernel)
theorem l_X5_117 : Cond.methodLink RX5 117 yX5_isDigit ∈ gtbl := gmem (List.mem_of_getElem? (i := 307) (by decide +kernel)) (by decide +kernel)
theorem w_inst_X5_isDigit : Cond.instanceMethod yX5_isDigit ∈ gtbl := gmem (List.mem_of_getElem? (i := 309) (by decide +kernel)) (by decide +kernel)
theorem w_code_X5_isDigit : Cond.code yX5_isDigit cX5_isDigit 2 (some .boolean) ∈ gtbl := gmem (List.mem_of_getElem? (i := 310) (by decide +kernel)) (by decide +kernel)
theorem l_X5_120 : Cond.methodLink RX5 120 yX5_takeNumber ∈ gtbl := gmem (List.mem_of_getElem? (i := 311) (by decide +kernel)) (by decide +kernel)
theorem w_inst_X5_takeNumber : Cond.instanceMethod yX5_takeNumber ∈ gtbl := gmem (List.mem_of_getElem? (i := 313) (by decide +kernel)) (by decide +kernel)
theorem w_code_X5_takeNumber : Cond.code yX5_takeNumber cX5_takeNumber 2 none ∈ gtbl := gmem (List.mem_of_getElem? (i := 314) (by decide +kernel)) (by decide +kernel)
theorem l_X5_40 : Cond.methodLink RX5 40 yX5_readItem ∈ gtbl := gmem (List.mem_of_getElem? (i := 315) (by decide +kernel)) (by decide +kernel)
theorem w_inst_X5_readItem : Cond.instanceMethod yX5_readItem ∈ gtbl := gmem (List.mem_of_getElem? (i := 317) (by decide +kernel)) (by decide +kernel)
theorem w_code_X5_readItem : Cond.code yX5_readItem cX5_readItem 3 (some .boolean) ∈ gtbl := gmem (List.mem_of_getElem? (i := 318) (by decide +kernel)) (by decide +kernel)
theorem l_X5_44 : Cond.methodLink RX5 44 yX5_readLeaf ∈ gtbl := gmem (List.mem_of_getElem? (i := 319) (by decide +kernel)) (by decide +kernel)
theorem w_inst_X5_readLeaf : Cond.instanceMethod yX5_readLeaf ∈ gtbl := gmem (List.mem_of_getElem? (i := 321) (by decide +kernel)) (by decide +kernel)
theorem w_code_X5_readLeaf : Cond.code yX5_readLeaf cX5_readLeaf 2 (some .boolean) ∈ gtbl := gmem (List.mem_of_getElem? (i := 322) (by decide +kernel)) (by decide +kernel)
theorem l_X5_65 : Cond.methodLink RX5 65 yX5_readTastes ∈ gtbl := gmem (List.mem_of_getElem? (i := 323) (by decide +kernel)) (by decide +kernel)
theorem w_inst_X5_readTastes : Cond.instanceMethod yX5_readTastes ∈ gtbl := gmem (List.mem_of_getElem? (i := 325) (by decide +kernel)) (by decide +kernel)
theorem w_code_X5_readTastes : Cond.code yX5_readTastes cX5_readTastes 3 (some .boolean) ∈ gtbl := gmem (List.mem_of_getElem? (i := 326) (by decide +kernel)) (by decide +kernel)
theorem l_X5_75 : Cond.methodLink RX5 75 yX5_isRow ∈ gtbl := gmem (List.mem_of_getElem? (i := 327) (by decide +kernel)) (by decide +kernel)
theorem w_inst_X5_isRow : Cond.instanceMethod yX5_isRow ∈ gtbl := gmem (List.mem_of_getElem? (i := 329) (by decide +kernel)) (by decide +kernel)
theorem w_code_X5_isRow : Cond.code yX5_isRow cX5_isRow 4 (some .boolean) ∈ gtbl := gmem (List.mem_of_getElem? (i := 330) (by decide +kernel)) (by decide +kernel)
theorem l_X5_108 : Cond.methodLinkNest RX5 108 yX6_isTaste "TruePies" ∈ ntbl := nmem (List.mem_of_getElem? (i := 331) (by decide +kernel)) (by decide +kernel)
theorem w_stat_X6_isTaste : Cond.static yX6_isTaste ∈ gtbl := gmem (List.mem_of_getElem? (i := 332) (by decide +kernel)) (by decide +kernel)
theorem w_code_X6_isTaste : Cond.code yX6_isTaste cX6_isTaste 1 (some .boolean) ∈ gtbl := gmem (List.mem_of_getElem? (i := 333) (by decide +kernel)) (by decide +kernel)
theorem l_X5_79 : Cond.methodLink RX5 79 yX5_rowBits ∈ gtbl := gmem (List.mem_of_getElem? (i := 334) (by decide +kernel)) (by decide +kernel)
theorem w_inst_X5_rowBits : Cond.instanceMethod yX5_rowBits ∈ gtbl := gmem (List.mem_of_getElem? (i := 336) (by decide +kernel)) (by decide +kernel)
theorem w_code_X5_rowBits : Cond.code yX5_rowBits cX5_rowBits 3 (some .int) ∈ gtbl := gmem (List.mem_of_getElem? (i := 337) (by decide +kernel)) (by decide +kernel)
theorem l_X5_47 : Cond.methodLink RX5 47 yX5_readGoer ∈ gtbl := gmem (List.mem_of_getElem? (i := 338) (by decide +kernel)) (by decide +kernel)
theorem w_inst_X5_readGoer : Cond.instanceMethod yX5_readGoer ∈ gtbl := gmem (List.mem_of_getElem? (i := 340) (by decide +kernel)) (by decide +kernel)
theorem w_code_X5_readGoer : Cond.code yX5_readGoer cX5_readGoer 2 (some .boolean) ∈ gtbl := gmem (List.mem_of_getElem? (i := 341) (by decide +kernel)) (by decide +kernel)
theorem l_X5_50 : Cond.methodLink RX5 50 yX5_readSister ∈ gtbl := gmem (List.mem_of_getElem? (i := 342) (by decide +kernel)) (by decide +kernel)
theorem w_inst_X5_readSister : Cond.instanceMethod yX5_readSister ∈ gtbl := gmem (List.mem_of_getElem? (i := 344) (by decide +kernel)) (by decide +kernel)
theorem w_code_X5_readSister : Cond.code yX5_readSister cX5_readSister 3 (some .boolean) ∈ gtbl := gmem (List.mem_of_getElem? (i := 345) (by decide +kernel)) (by decide +kernel)
theorem l_X5_53 : Cond.methodLink RX5 53 yX5_readFriday ∈ gtbl := gmem (List.mem_of_getElem? (i := 346) (by decide +kernel)) (by decide +kernel)
theorem w_inst_X5_readFriday : Cond.instanceMethod yX5_readFriday ∈ gtbl := gmem (List.mem_of_getElem? (i := 348) (by decide +kernel)) (by decide +kernel)
theorem w_code_X5_readFriday : Cond.code yX5_readFriday cX5_readFriday 3 (some .boolean) ∈ gtbl := gmem (List.mem_of_getElem? (i := 349) (by decide +kernel)) (by decide +kernel)
theorem l_X5_92 : Cond.methodLink RX5 92 yX5_isNumber ∈ gtbl := gmem (List.mem_of_getElem? (i := 350) (by decide +kernel)) (by decide +kernel)
theorem w_inst_X5_isNumber : Cond.instanceMethod yX5_isNumber ∈ gtbl := gmem (List.mem_of_getElem? (i := 352) (by decide +kernel)) (by decide +kernel)
theorem w_code_X5_isNumber : Cond.code yX5_isNumber cX5_isNumber 3 (some .boolean) ∈ gtbl := gmem (List.mem_of_getElem? (i := 353) (by decide +kernel)) (by decide +kernel)
theorem l_X5_96 : Cond.methodLink RX5 96 yX5_number ∈ gtbl := gmem (List.mem_of_getElem? (i := 354) (by decide +kernel)) (by decide +kernel)
theorem w_inst_X5_number : Cond.instanceMethod yX5_number ∈ gtbl := gmem (List.mem_of_getElem? (i := 356) (by decide +kernel)) (by decide +kernel)
theorem w_code_X5_number : Cond.code yX5_number cX5_number 3 (some .int) ∈ gtbl := gmem (List.mem_of_getElem? (i := 357) (by decide +kernel)) (by decide +kernel)
theorem l_X5_56 : Cond.methodLink RX5 56 yX5_readLane ∈ gtbl := gmem (List.mem_of_getElem? (i := 358) (by decide +kernel)) (by decide +kernel)
theorem w_inst_X5_readLane : Cond.instanceMethod yX5_readLane ∈ gtbl := gmem (List.mem_of_getElem? (i := 360) (by decide +kernel)) (by decide +kernel)
theorem w_code_X5_readLane : Cond.code yX5_readLane cX5_readLane 2 (some .boolean) ∈ gtbl := gmem (List.mem_of_getElem? (i := 361) (by decide +kernel)) (by decide +kernel)
theorem l_X6_78 : Cond.methodLink RX6 78 yX3_startAnew ∈ gtbl := gmem (List.mem_of_getElem? (i := 362) (by decide +kernel)) (by decide +kernel)
theorem w_inst_X3_startAnew : Cond.instanceMethod yX3_startAnew ∈ gtbl := gmem (List.mem_of_getElem? (i := 363) (by decide +kernel)) (by decide +kernel)
theorem w_sel_X3_startAnew : Cond.selects RX3 yX3_startAnew yX3_startAnew ∈ gtbl := gmem (List.mem_of_getElem? (i := 364) (by decide +kernel)) (by decide +kernel)
theorem w_code_X3_startAnew : Cond.code yX3_startAnew cX3_startAnew 1 none ∈ gtbl := gmem (List.mem_of_getElem? (i := 365) (by decide +kernel)) (by decide +kernel)
theorem l_X3_31 : Cond.methodLink RX3 31 yJ7_fill_53178 ∈ gtbl := gmem (List.mem_of_getElem? (i := 366) (by decide +kernel)) (by decide +kernel)
theorem w_stat_J7_fill_53178 : Cond.static yJ7_fill_53178 ∈ gtbl := gmem (List.mem_of_getElem? (i := 367) (by decide +kernel)) (by decide +kernel)
theorem w_code_J7_fill_53178 : Cond.code yJ7_fill_53178 cJ7_fill_53178 4 none ∈ gtbl := gmem (List.mem_of_getElem? (i := 368) (by decide +kernel)) (by decide +kernel)
theorem l_L_27 : Cond.methodLink RL 27 yX6_leaf ∈ gtbl := gmem (List.mem_of_getElem? (i := 369) (by decide +kernel)) (by decide +kernel)
theorem w_inst_X6_leaf : Cond.instanceMethod yX6_leaf ∈ gtbl := gmem (List.mem_of_getElem? (i := 370) (by decide +kernel)) (by decide +kernel)
theorem w_sel_X6_leaf : Cond.selects RX6 yX6_leaf yX6_leaf ∈ gtbl := gmem (List.mem_of_getElem? (i := 371) (by decide +kernel)) (by decide +kernel)
theorem w_code_X6_leaf : Cond.code yX6_leaf cX6_leaf 3 (some .int) ∈ gtbl := gmem (List.mem_of_getElem? (i := 372) (by decide +kernel)) (by decide +kernel)
theorem l_X6_87 : Cond.methodLink RX6 87 yX0_hasLeaf ∈ gtbl := gmem (List.mem_of_getElem? (i := 373) (by decide +kernel)) (by decide +kernel)
theorem w_inst_X0_hasLeaf : Cond.instanceMethod yX0_hasLeaf ∈ gtbl := gmem (List.mem_of_getElem? (i := 374) (by decide +kernel)) (by decide +kernel)
theorem w_sel_X0_hasLeaf : Cond.selects RX0 yX0_hasLeaf yX0_hasLeaf ∈ gtbl := gmem (List.mem_of_getElem? (i := 375) (by decide +kernel)) (by decide +kernel)
theorem w_code_X0_hasLeaf : Cond.code yX0_hasLeaf cX0_hasLeaf 2 (some .boolean) ∈ gtbl := gmem (List.mem_of_getElem? (i := 376) (by decide +kernel)) (by decide +kernel)
theorem l_X6_94 : Cond.methodLink RX6 94 yX0_goersLetBy ∈ gtbl := gmem (List.mem_of_getElem? (i := 377) (by decide +kernel)) (by decide +kernel)
theorem w_inst_X0_goersLetBy : Cond.instanceMethod yX0_goersLetBy ∈ gtbl := gmem (List.mem_of_getElem? (i := 378) (by decide +kernel)) (by decide +kernel)
theorem w_sel_X0_goersLetBy : Cond.selects RX0 yX0_goersLetBy yX0_goersLetBy ∈ gtbl := gmem (List.mem_of_getElem? (i := 379) (by decide +kernel)) (by decide +kernel)
theorem w_code_X0_goersLetBy : Cond.code yX0_goersLetBy cX0_goersLetBy 4 (some .int) ∈ gtbl := gmem (List.mem_of_getElem? (i := 380) (by decide +kernel)) (by decide +kernel)
theorem l_X0_54 : Cond.methodLink RX0 54 yX0_goodTastes ∈ gtbl := gmem (List.mem_of_getElem? (i := 381) (by decide +kernel)) (by decide +kernel)
theorem w_inst_X0_goodTastes : Cond.instanceMethod yX0_goodTastes ∈ gtbl := gmem (List.mem_of_getElem? (i := 382) (by decide +kernel)) (by decide +kernel)
theorem w_sel_X0_goodTastes : Cond.selects RX0 yX0_goodTastes yX0_goodTastes ∈ gtbl := gmem (List.mem_of_getElem? (i := 383) (by decide +kernel)) (by decide +kernel)
theorem w_code_X0_goodTastes : Cond.code yX0_goodTastes cX0_goodTastes 3 (some .int) ∈ gtbl := gmem (List.mem_of_getElem? (i := 384) (by decide +kernel)) (by decide +kernel)
theorem l_X0_43 : Cond.methodLink RX0 43 yX0_hasLeaf ∈ gtbl := gmem (List.mem_of_getElem? (i := 385) (by decide +kernel)) (by decide +kernel)
theorem l_X0_51 : Cond.methodLink RX0 51 yX0_hasGoer ∈ gtbl := gmem (List.mem_of_getElem? (i := 386) (by decide +kernel)) (by decide +kernel)
theorem w_inst_X0_hasGoer : Cond.instanceMethod yX0_hasGoer ∈ gtbl := gmem (List.mem_of_getElem? (i := 387) (by decide +kernel)) (by decide +kernel)
theorem w_sel_X0_hasGoer : Cond.selects RX0 yX0_hasGoer yX0_hasGoer ∈ gtbl := gmem (List.mem_of_getElem? (i := 388) (by decide +kernel)) (by decide +kernel)
theorem w_code_X0_hasGoer : Cond.code yX0_hasGoer cX0_hasGoer 2 (some .boolean) ∈ gtbl := gmem (List.mem_of_getElem? (i := 389) (by decide +kernel)) (by decide +kernel)
theorem l_L_32 : Cond.methodLink RL 32 yX6_goer ∈ gtbl := gmem (List.mem_of_getElem? (i := 390) (by decide +kernel)) (by decide +kernel)
theorem w_inst_X6_goer : Cond.instanceMethod yX6_goer ∈ gtbl := gmem (List.mem_of_getElem? (i := 391) (by decide +kernel)) (by decide +kernel)
theorem w_sel_X6_goer : Cond.selects RX6 yX6_goer yX6_goer ∈ gtbl := gmem (List.mem_of_getElem? (i := 392) (by decide +kernel)) (by decide +kernel)
theorem w_code_X6_goer : Cond.code yX6_goer cX6_goer 3 (some .int) ∈ gtbl := gmem (List.mem_of_getElem? (i := 393) (by decide +kernel)) (by decide +kernel)
theorem l_X6_98 : Cond.methodLink RX6 98 yX0_hasGoer ∈ gtbl := gmem (List.mem_of_getElem? (i := 394) (by decide +kernel)) (by decide +kernel)
theorem l_X6_116 : Cond.methodLink RX6 116 yX0_leavesThatLet ∈ gtbl := gmem (List.mem_of_getElem? (i := 395) (by decide +kernel)) (by decide +kernel)
theorem w_inst_X0_leavesThatLet : Cond.instanceMethod yX0_leavesThatLet ∈ gtbl := gmem (List.mem_of_getElem? (i := 396) (by decide +kernel)) (by decide +kernel)
theorem w_sel_X0_leavesThatLet : Cond.selects RX0 yX0_leavesThatLet yX0_leavesThatLet ∈ gtbl := gmem (List.mem_of_getElem? (i := 397) (by decide +kernel)) (by decide +kernel)
theorem w_code_X0_leavesThatLet : Cond.code yX0_leavesThatLet cX0_leavesThatLet 4 (some .int) ∈ gtbl := gmem (List.mem_of_getElem? (i := 398) (by decide +kernel)) (by decide +kernel)
theorem l_L_36 : Cond.methodLink RL 36 yX6_sister ∈ gtbl := gmem (List.mem_of_getElem? (i := 399) (by decide +kernel)) (by decide +kernel)
theorem w_inst_X6_sister : Cond.instanceMethod yX6_sister ∈ gtbl := gmem (List.mem_of_getElem? (i := 400) (by decide +kernel)) (by decide +kernel)
theorem w_sel_X6_sister : Cond.selects RX6 yX6_sister yX6_sister ∈ gtbl := gmem (List.mem_of_getElem? (i := 401) (by decide +kernel)) (by decide +kernel)
theorem w_code_X6_sister : Cond.code yX6_sister cX6_sister 3 (some .int) ∈ gtbl := gmem (List.mem_of_getElem? (i := 402) (by decide +kernel)) (by decide +kernel)
theorem l_X6_122 : Cond.methodLink RX6 122 yX6_isTaste ∈ gtbl := gmem (List.mem_of_getElem? (i := 403) (by decide +kernel)) (by decide +kernel)
theorem l_X6_125 : Cond.methodLink RX6 125 yX0_changed ∈ gtbl := gmem (List.mem_of_getElem? (i := 404) (by decide +kernel)) (by decide +kernel)
theorem w_inst_X0_changed : Cond.instanceMethod yX0_changed ∈ gtbl := gmem (List.mem_of_getElem? (i := 405) (by decide +kernel)) (by decide +kernel)
theorem w_sel_X0_changed : Cond.selects RX0 yX0_changed yX0_changed ∈ gtbl := gmem (List.mem_of_getElem? (i := 406) (by decide +kernel)) (by decide +kernel)
theorem w_code_X0_changed : Cond.code yX0_changed cX0_changed 3 (some .int) ∈ gtbl := gmem (List.mem_of_getElem? (i := 407) (by decide +kernel)) (by decide +kernel)
theorem l_L_40 : Cond.methodLink RL 40 yX6_now ∈ gtbl := gmem (List.mem_of_getElem? (i := 408) (by decide +kernel)) (by decide +kernel)
theorem w_inst_X6_now : Cond.instanceMethod yX6_now ∈ gtbl := gmem (List.mem_of_getElem? (i := 409) (by decide +kernel)) (by decide +kernel)
theorem w_sel_X6_now : Cond.selects RX6 yX6_now yX6_now ∈ gtbl := gmem (List.mem_of_getElem? (i := 410) (by decide +kernel)) (by decide +kernel)
theorem w_code_X6_now : Cond.code yX6_now cX6_now 2 (some .int) ∈ gtbl := gmem (List.mem_of_getElem? (i := 411) (by decide +kernel)) (by decide +kernel)
theorem l_X6_135 : Cond.methodLink RX6 135 yX3_whoAre ∈ gtbl := gmem (List.mem_of_getElem? (i := 412) (by decide +kernel)) (by decide +kernel)
theorem w_inst_X3_whoAre : Cond.instanceMethod yX3_whoAre ∈ gtbl := gmem (List.mem_of_getElem? (i := 413) (by decide +kernel)) (by decide +kernel)
theorem w_sel_X3_whoAre : Cond.selects RX3 yX3_whoAre yX3_whoAre ∈ gtbl := gmem (List.mem_of_getElem? (i := 414) (by decide +kernel)) (by decide +kernel)
theorem w_code_X3_whoAre : Cond.code yX3_whoAre cX3_whoAre 4 (some .int) ∈ gtbl := gmem (List.mem_of_getElem? (i := 415) (by decide +kernel)) (by decide +kernel)
theorem l_X6_138 : Cond.methodLink RX6 138 yX0_cover ∈ gtbl := gmem (List.mem_of_getElem? (i := 416) (by decide +kernel)) (by decide +kernel)
theorem w_inst_X0_cover : Cond.instanceMethod yX0_cover ∈ gtbl := gmem (List.mem_of_getElem? (i := 417) (by decide +kernel)) (by decide +kernel)
theorem w_sel_X0_cover : Cond.selects RX0 yX0_cover yX0_cover ∈ gtbl := gmem (List.mem_of_getElem? (i := 418) (by decide +kernel)) (by decide +kernel)
theorem w_code_X0_cover : Cond.code yX0_cover cX0_cover 4 (some .int) ∈ gtbl := gmem (List.mem_of_getElem? (i := 419) (by decide +kernel)) (by decide +kernel)
theorem l_X0_58 : Cond.methodLink RX0 58 yJ6_bitCount_0f7a4 ∈ gtbl := gmem (List.mem_of_getElem? (i := 420) (by decide +kernel)) (by decide +kernel)
theorem w_stat_J6_bitCount_0f7a4 : Cond.static yJ6_bitCount_0f7a4 ∈ gtbl := gmem (List.mem_of_getElem? (i := 421) (by decide +kernel)) (by decide +kernel)
theorem w_code_J6_bitCount_0f7a4 : Cond.code yJ6_bitCount_0f7a4 cJ6_bitCount_0f7a4 1 (some .int) ∈ gtbl := gmem (List.mem_of_getElem? (i := 422) (by decide +kernel)) (by decide +kernel)
theorem v_J6_265 : Cond.constant RJ6 265 (1431655765) ∈ gtbl := gmem (List.mem_of_getElem? (i := 423) (by decide +kernel)) (by decide +kernel)
theorem v_J6_266 : Cond.constant RJ6 266 (858993459) ∈ gtbl := gmem (List.mem_of_getElem? (i := 424) (by decide +kernel)) (by decide +kernel)
theorem v_J6_267 : Cond.constant RJ6 267 (252645135) ∈ gtbl := gmem (List.mem_of_getElem? (i := 425) (by decide +kernel)) (by decide +kernel)
theorem l_X0_64 : Cond.methodLink RX0 64 yX0_coversAll ∈ gtbl := gmem (List.mem_of_getElem? (i := 426) (by decide +kernel)) (by decide +kernel)
theorem w_inst_X0_coversAll : Cond.instanceMethod yX0_coversAll ∈ gtbl := gmem (List.mem_of_getElem? (i := 428) (by decide +kernel)) (by decide +kernel)
theorem w_code_X0_coversAll : Cond.code yX0_coversAll cX0_coversAll 3 (some .boolean) ∈ gtbl := gmem (List.mem_of_getElem? (i := 429) (by decide +kernel)) (by decide +kernel)
theorem l_X0_67 : Cond.methodLink RX0 67 yX0_leavesThatLet ∈ gtbl := gmem (List.mem_of_getElem? (i := 430) (by decide +kernel)) (by decide +kernel)
theorem l_L_44 : Cond.methodLink RL 44 yX6_comes ∈ gtbl := gmem (List.mem_of_getElem? (i := 431) (by decide +kernel)) (by decide +kernel)
theorem w_inst_X6_comes : Cond.instanceMethod yX6_comes ∈ gtbl := gmem (List.mem_of_getElem? (i := 432) (by decide +kernel)) (by decide +kernel)
theorem w_sel_X6_comes : Cond.selects RX6 yX6_comes yX6_comes ∈ gtbl := gmem (List.mem_of_getElem? (i := 433) (by decide +kernel)) (by decide +kernel)
theorem w_code_X6_comes : Cond.code yX6_comes cX6_comes 2 (some .int) ∈ gtbl := gmem (List.mem_of_getElem? (i := 434) (by decide +kernel)) (by decide +kernel)
theorem l_X6_142 : Cond.methodLink RX6 142 yX1_remember ∈ gtbl := gmem (List.mem_of_getElem? (i := 435) (by decide +kernel)) (by decide +kernel)
theorem w_inst_X1_remember : Cond.instanceMethod yX1_remember ∈ gtbl := gmem (List.mem_of_getElem? (i := 436) (by decide +kernel)) (by decide +kernel)
theorem w_sel_X1_remember : Cond.selects RX1 yX1_remember yX1_remember ∈ gtbl := gmem (List.mem_of_getElem? (i := 437) (by decide +kernel)) (by decide +kernel)
theorem w_code_X1_remember : Cond.code yX1_remember cX1_remember 2 none ∈ gtbl := gmem (List.mem_of_getElem? (i := 438) (by decide +kernel)) (by decide +kernel)
theorem l_X1_25 : Cond.methodLink RX1 25 yX3_become ∈ gtbl := gmem (List.mem_of_getElem? (i := 439) (by decide +kernel)) (by decide +kernel)
theorem w_inst_X3_become : Cond.instanceMethod yX3_become ∈ gtbl := gmem (List.mem_of_getElem? (i := 440) (by decide +kernel)) (by decide +kernel)
theorem w_sel_X3_become : Cond.selects RX3 yX3_become yX3_become ∈ gtbl := gmem (List.mem_of_getElem? (i := 441) (by decide +kernel)) (by decide +kernel)
theorem w_code_X3_become : Cond.code yX3_become cX3_become 2 none ∈ gtbl := gmem (List.mem_of_getElem? (i := 442) (by decide +kernel)) (by decide +kernel)
theorem l_X3_37 : Cond.methodLink RX3 37 arraycopyName ∈ gtbl := gmem (List.mem_of_getElem? (i := 443) (by decide +kernel)) (by decide +kernel)
theorem w_stat_copy : Cond.static arraycopyName ∈ gtbl := gmem (List.mem_of_getElem? (i := 444) (by decide +kernel)) (by decide +kernel)
theorem w_nat_copy : Cond.native arraycopyName ∈ gtbl := gmem (List.mem_of_getElem? (i := 445) (by decide +kernel)) (by decide +kernel)
theorem l_X1_29 : Cond.methodLink RX1 29 yJ9_min_7cf53 ∈ gtbl := gmem (List.mem_of_getElem? (i := 446) (by decide +kernel)) (by decide +kernel)
theorem w_stat_J9_min_7cf53 : Cond.static yJ9_min_7cf53 ∈ gtbl := gmem (List.mem_of_getElem? (i := 447) (by decide +kernel)) (by decide +kernel)
theorem w_code_J9_min_7cf53 : Cond.code yJ9_min_7cf53 cJ9_min_7cf53 2 (some .int) ∈ gtbl := gmem (List.mem_of_getElem? (i := 448) (by decide +kernel)) (by decide +kernel)
theorem l_X6_146 : Cond.methodLink RX6 146 yJ6_bitCount_0f7a4 ∈ gtbl := gmem (List.mem_of_getElem? (i := 449) (by decide +kernel)) (by decide +kernel)
theorem l_L_48 : Cond.methodLink RL 48 yX6_says ∈ gtbl := gmem (List.mem_of_getElem? (i := 450) (by decide +kernel)) (by decide +kernel)
theorem w_inst_X6_says : Cond.instanceMethod yX6_says ∈ gtbl := gmem (List.mem_of_getElem? (i := 451) (by decide +kernel)) (by decide +kernel)
theorem w_sel_X6_says : Cond.selects RX6 yX6_says yX6_says ∈ gtbl := gmem (List.mem_of_getElem? (i := 452) (by decide +kernel)) (by decide +kernel)
theorem w_code_X6_says : Cond.code yX6_says cX6_says 4 (some .int) ∈ gtbl := gmem (List.mem_of_getElem? (i := 453) (by decide +kernel)) (by decide +kernel)
theorem l_X6_154 : Cond.methodLink RX6 154 yX0_goodTastes ∈ gtbl := gmem (List.mem_of_getElem? (i := 454) (by decide +kernel)) (by decide +kernel)
theorem l_X6_157 : Cond.methodLink RX6 157 yX6_hasBit ∈ gtbl := gmem (List.mem_of_getElem? (i := 455) (by decide +kernel)) (by decide +kernel)
theorem w_stat_X6_hasBit : Cond.static yX6_hasBit ∈ gtbl := gmem (List.mem_of_getElem? (i := 456) (by decide +kernel)) (by decide +kernel)
theorem w_code_X6_hasBit : Cond.code yX6_hasBit cX6_hasBit 2 (some .boolean) ∈ gtbl := gmem (List.mem_of_getElem? (i := 457) (by decide +kernel)) (by decide +kernel)
theorem l_X6_164 : Cond.methodLink RX6 164 yX3_sendRound ∈ gtbl := gmem (List.mem_of_getElem? (i := 458) (by decide +kernel)) (by decide +kernel)
theorem w_inst_X3_sendRound : Cond.instanceMethod yX3_sendRound ∈ gtbl := gmem (List.mem_of_getElem? (i := 459) (by decide +kernel)) (by decide +kernel)
theorem w_sel_X3_sendRound : Cond.selects RX3 yX3_sendRound yX3_sendRound ∈ gtbl := gmem (List.mem_of_getElem? (i := 460) (by decide +kernel)) (by decide +kernel)
theorem w_code_X3_sendRound : Cond.code yX3_sendRound cX3_sendRound 3 none ∈ gtbl := gmem (List.mem_of_getElem? (i := 461) (by decide +kernel)) (by decide +kernel)
theorem l_X6_168 : Cond.methodLink RX6 168 yX0_leafBehind ∈ gtbl := gmem (List.mem_of_getElem? (i := 462) (by decide +kernel)) (by decide +kernel)
theorem w_inst_X0_leafBehind : Cond.instanceMethod yX0_leafBehind ∈ gtbl := gmem (List.mem_of_getElem? (i := 463) (by decide +kernel)) (by decide +kernel)
theorem w_sel_X0_leafBehind : Cond.selects RX0 yX0_leafBehind yX0_leafBehind ∈ gtbl := gmem (List.mem_of_getElem? (i := 464) (by decide +kernel)) (by decide +kernel)
theorem w_code_X0_leafBehind : Cond.code yX0_leafBehind cX0_leafBehind 3 (some .int) ∈ gtbl := gmem (List.mem_of_getElem? (i := 465) (by decide +kernel)) (by decide +kernel)
theorem l_X6_171 : Cond.methodLink RX6 171 yJ9_min_7cf53 ∈ gtbl := gmem (List.mem_of_getElem? (i := 466) (by decide +kernel)) (by decide +kernel)
theorem l_L_52 : Cond.methodLink RL 52 yX6_minutes ∈ gtbl := gmem (List.mem_of_getElem? (i := 467) (by decide +kernel)) (by decide +kernel)
theorem w_inst_X6_minutes : Cond.instanceMethod yX6_minutes ∈ gtbl := gmem (List.mem_of_getElem? (i := 468) (by decide +kernel)) (by decide +kernel)
theorem w_sel_X6_minutes : Cond.selects RX6 yX6_minutes yX6_minutes ∈ gtbl := gmem (List.mem_of_getElem? (i := 469) (by decide +kernel)) (by decide +kernel)
theorem w_code_X6_minutes : Cond.code yX6_minutes cX6_minutes 2 (some .int) ∈ gtbl := gmem (List.mem_of_getElem? (i := 470) (by decide +kernel)) (by decide +kernel)
theorem l_X6_176 : Cond.methodLink RX6 176 yX3_pass ∈ gtbl := gmem (List.mem_of_getElem? (i := 471) (by decide +kernel)) (by decide +kernel)
theorem w_inst_X3_pass : Cond.instanceMethod yX3_pass ∈ gtbl := gmem (List.mem_of_getElem? (i := 472) (by decide +kernel)) (by decide +kernel)
theorem w_sel_X3_pass : Cond.selects RX3 yX3_pass yX3_pass ∈ gtbl := gmem (List.mem_of_getElem? (i := 473) (by decide +kernel)) (by decide +kernel)
theorem w_code_X3_pass : Cond.code yX3_pass cX3_pass 3 none ∈ gtbl := gmem (List.mem_of_getElem? (i := 474) (by decide +kernel)) (by decide +kernel)
theorem l_L_56 : Cond.methodLink RL 56 yX6_undo ∈ gtbl := gmem (List.mem_of_getElem? (i := 475) (by decide +kernel)) (by decide +kernel)
theorem w_inst_X6_undo : Cond.instanceMethod yX6_undo ∈ gtbl := gmem (List.mem_of_getElem? (i := 476) (by decide +kernel)) (by decide +kernel)
theorem w_sel_X6_undo : Cond.selects RX6 yX6_undo yX6_undo ∈ gtbl := gmem (List.mem_of_getElem? (i := 477) (by decide +kernel)) (by decide +kernel)
theorem w_code_X6_undo : Cond.code yX6_undo cX6_undo 1 (some .int) ∈ gtbl := gmem (List.mem_of_getElem? (i := 478) (by decide +kernel)) (by decide +kernel)
theorem l_X6_180 : Cond.methodLink RX6 180 yX1_recall ∈ gtbl := gmem (List.mem_of_getElem? (i := 479) (by decide +kernel)) (by decide +kernel)
theorem w_inst_X1_recall : Cond.instanceMethod yX1_recall ∈ gtbl := gmem (List.mem_of_getElem? (i := 480) (by decide +kernel)) (by decide +kernel)
theorem w_sel_X1_recall : Cond.selects RX1 yX1_recall yX1_recall ∈ gtbl := gmem (List.mem_of_getElem? (i := 481) (by decide +kernel)) (by decide +kernel)
theorem w_code_X1_recall : Cond.code yX1_recall cX1_recall 2 none ∈ gtbl := gmem (List.mem_of_getElem? (i := 482) (by decide +kernel)) (by decide +kernel)
theorem l_L_60 : Cond.methodLink RL 60 yX6_fewest ∈ gtbl := gmem (List.mem_of_getElem? (i := 483) (by decide +kernel)) (by decide +kernel)
end
section
theorem w_inst_X6_fewest : Cond.instanceMethod yX6_fewest ∈ gtbl := gmem (List.mem_of_getElem? (i := 484) (by decide +kernel)) (by decide +kernel)
theorem w_sel_X6_fewest : Cond.selects RX6 yX6_fewest yX6_fewest ∈ gtbl := gmem (List.mem_of_getElem? (i := 485) (by decide +kernel)) (by decide +kernel)
theorem w_code_X6_fewest : Cond.code yX6_fewest cX6_fewest 5 (some .int) ∈ gtbl := gmem (List.mem_of_getElem? (i := 486) (by decide +kernel)) (by decide +kernel)
theorem l_X6_183 : Cond.methodLink RX6 183 yX6_lowestBit ∈ gtbl := gmem (List.mem_of_getElem? (i := 487) (by decide +kernel)) (by decide +kernel)
theorem w_stat_X6_lowestBit : Cond.static yX6_lowestBit ∈ gtbl := gmem (List.mem_of_getElem? (i := 488) (by decide +kernel)) (by decide +kernel)
theorem w_code_X6_lowestBit : Cond.code yX6_lowestBit cX6_lowestBit 2 (some .int) ∈ gtbl := gmem (List.mem_of_getElem? (i := 489) (by decide +kernel)) (by decide +kernel)
theorem l_L_64 : Cond.methodLink RL 64 yX6_line ∈ gtbl := gmem (List.mem_of_getElem? (i := 490) (by decide +kernel)) (by decide +kernel)
theorem w_inst_X6_line : Cond.instanceMethod yX6_line ∈ gtbl := gmem (List.mem_of_getElem? (i := 491) (by decide +kernel)) (by decide +kernel)
theorem w_sel_X6_line : Cond.selects RX6 yX6_line yX6_line ∈ gtbl := gmem (List.mem_of_getElem? (i := 492) (by decide +kernel)) (by decide +kernel)
theorem w_code_X6_line : Cond.code yX6_line cX6_line 2 (some .int) ∈ gtbl := gmem (List.mem_of_getElem? (i := 493) (by decide +kernel)) (by decide +kernel)
theorem l_X6_186 : Cond.methodLink RX6 186 yX2_weigh ∈ gtbl := gmem (List.mem_of_getElem? (i := 494) (by decide +kernel)) (by decide +kernel)
theorem w_inst_X2_weigh : Cond.instanceMethod yX2_weigh ∈ gtbl := gmem (List.mem_of_getElem? (i := 495) (by decide +kernel)) (by decide +kernel)
theorem w_sel_X2_weigh : Cond.selects RX2 yX2_weigh yX2_weigh ∈ gtbl := gmem (List.mem_of_getElem? (i := 496) (by decide +kernel)) (by decide +kernel)
theorem w_code_X2_weigh : Cond.code yX2_weigh cX2_weigh 5 none ∈ gtbl := gmem (List.mem_of_getElem? (i := 497) (by decide +kernel)) (by decide +kernel)
theorem l_X2_15 : Cond.methodLink RX2 15 yX3_whoAre ∈ gtbl := gmem (List.mem_of_getElem? (i := 498) (by decide +kernel)) (by decide +kernel)
theorem l_X2_21 : Cond.methodLink RX2 21 yX2_mostBehind ∈ gtbl := gmem (List.mem_of_getElem? (i := 499) (by decide +kernel)) (by decide +kernel)
theorem w_inst_X2_mostBehind : Cond.instanceMethod yX2_mostBehind ∈ gtbl := gmem (List.mem_of_getElem? (i := 501) (by decide +kernel)) (by decide +kernel)
theorem w_code_X2_mostBehind : Cond.code yX2_mostBehind cX2_mostBehind 7 (some .int) ∈ gtbl := gmem (List.mem_of_getElem? (i := 502) (by decide +kernel)) (by decide +kernel)
theorem l_X2_25 : Cond.methodLinkNest RX2 25 yX6_hasBit "TruePies" ∈ ntbl := nmem (List.mem_of_getElem? (i := 503) (by decide +kernel)) (by decide +kernel)
theorem l_X2_29 : Cond.methodLink RX2 29 yX2_worth ∈ gtbl := gmem (List.mem_of_getElem? (i := 504) (by decide +kernel)) (by decide +kernel)
theorem w_inst_X2_worth : Cond.instanceMethod yX2_worth ∈ gtbl := gmem (List.mem_of_getElem? (i := 506) (by decide +kernel)) (by decide +kernel)
theorem w_code_X2_worth : Cond.code yX2_worth cX2_worth 7 (some .int) ∈ gtbl := gmem (List.mem_of_getElem? (i := 507) (by decide +kernel)) (by decide +kernel)
theorem l_X2_42 : Cond.methodLink RX2 42 yJ6_bitCount_0f7a4 ∈ gtbl := gmem (List.mem_of_getElem? (i := 508) (by decide +kernel)) (by decide +kernel)
theorem l_X2_47 : Cond.methodLink RX2 47 yX0_leafBehind ∈ gtbl := gmem (List.mem_of_getElem? (i := 509) (by decide +kernel)) (by decide +kernel)
theorem l_X2_52 : Cond.methodLink RX2 52 yX0_goodTastes ∈ gtbl := gmem (List.mem_of_getElem? (i := 510) (by decide +kernel)) (by decide +kernel)
theorem l_X2_32 : Cond.methodLink RX2 32 yJ9_max_7cf53 ∈ gtbl := gmem (List.mem_of_getElem? (i := 511) (by decide +kernel)) (by decide +kernel)
theorem w_stat_J9_max_7cf53 : Cond.static yJ9_max_7cf53 ∈ gtbl := gmem (List.mem_of_getElem? (i := 512) (by decide +kernel)) (by decide +kernel)
theorem w_code_J9_max_7cf53 : Cond.code yJ9_max_7cf53 cJ9_max_7cf53 2 (some .int) ∈ gtbl := gmem (List.mem_of_getElem? (i := 513) (by decide +kernel)) (by decide +kernel)
theorem l_X6_193 : Cond.methodLink RX6 193 yX2_goerAt ∈ gtbl := gmem (List.mem_of_getElem? (i := 514) (by decide +kernel)) (by decide +kernel)
theorem w_inst_X2_goerAt : Cond.instanceMethod yX2_goerAt ∈ gtbl := gmem (List.mem_of_getElem? (i := 515) (by decide +kernel)) (by decide +kernel)
theorem w_sel_X2_goerAt : Cond.selects RX2 yX2_goerAt yX2_goerAt ∈ gtbl := gmem (List.mem_of_getElem? (i := 516) (by decide +kernel)) (by decide +kernel)
theorem w_code_X2_goerAt : Cond.code yX2_goerAt cX2_goerAt 8 (some .int) ∈ gtbl := gmem (List.mem_of_getElem? (i := 517) (by decide +kernel)) (by decide +kernel)
theorem l_X2_55 : Cond.methodLink RX2 55 yX2_lowestOfBest ∈ gtbl := gmem (List.mem_of_getElem? (i := 518) (by decide +kernel)) (by decide +kernel)
theorem w_inst_X2_lowestOfBest : Cond.instanceMethod yX2_lowestOfBest ∈ gtbl := gmem (List.mem_of_getElem? (i := 520) (by decide +kernel)) (by decide +kernel)
theorem w_code_X2_lowestOfBest : Cond.code yX2_lowestOfBest cX2_lowestOfBest 6 (some .int) ∈ gtbl := gmem (List.mem_of_getElem? (i := 521) (by decide +kernel)) (by decide +kernel)
theorem l_L_68 : Cond.methodLink RL 68 yX6_sees ∈ gtbl := gmem (List.mem_of_getElem? (i := 522) (by decide +kernel)) (by decide +kernel)
theorem w_inst_X6_sees : Cond.instanceMethod yX6_sees ∈ gtbl := gmem (List.mem_of_getElem? (i := 523) (by decide +kernel)) (by decide +kernel)
theorem w_sel_X6_sees : Cond.selects RX6 yX6_sees yX6_sees ∈ gtbl := gmem (List.mem_of_getElem? (i := 524) (by decide +kernel)) (by decide +kernel)
theorem w_code_X6_sees : Cond.code yX6_sees cX6_sees 4 (some .int) ∈ gtbl := gmem (List.mem_of_getElem? (i := 525) (by decide +kernel)) (by decide +kernel)
theorem l_X6_197 : Cond.methodLink RX6 197 yX4_add ∈ gtbl := gmem (List.mem_of_getElem? (i := 526) (by decide +kernel)) (by decide +kernel)
theorem w_inst_X4_add : Cond.instanceMethod yX4_add ∈ gtbl := gmem (List.mem_of_getElem? (i := 527) (by decide +kernel)) (by decide +kernel)
theorem w_sel_X4_add : Cond.selects RX4 yX4_add yX4_add ∈ gtbl := gmem (List.mem_of_getElem? (i := 528) (by decide +kernel)) (by decide +kernel)
theorem w_code_X4_add : Cond.code yX4_add cX4_add 4 none ∈ gtbl := gmem (List.mem_of_getElem? (i := 529) (by decide +kernel)) (by decide +kernel)
theorem l_L_73 : Cond.methodLink RL 73 yX6_forget ∈ gtbl := gmem (List.mem_of_getElem? (i := 530) (by decide +kernel)) (by decide +kernel)
theorem w_inst_X6_forget : Cond.instanceMethod yX6_forget ∈ gtbl := gmem (List.mem_of_getElem? (i := 531) (by decide +kernel)) (by decide +kernel)
theorem w_sel_X6_forget : Cond.selects RX6 yX6_forget yX6_forget ∈ gtbl := gmem (List.mem_of_getElem? (i := 532) (by decide +kernel)) (by decide +kernel)
theorem w_code_X6_forget : Cond.code yX6_forget cX6_forget 2 (some .int) ∈ gtbl := gmem (List.mem_of_getElem? (i := 533) (by decide +kernel)) (by decide +kernel)
theorem l_L_77 : Cond.methodLink RL 77 yX6_had ∈ gtbl := gmem (List.mem_of_getElem? (i := 534) (by decide +kernel)) (by decide +kernel)
theorem w_inst_X6_had : Cond.instanceMethod yX6_had ∈ gtbl := gmem (List.mem_of_getElem? (i := 535) (by decide +kernel)) (by decide +kernel)
theorem w_sel_X6_had : Cond.selects RX6 yX6_had yX6_had ∈ gtbl := gmem (List.mem_of_getElem? (i := 536) (by decide +kernel)) (by decide +kernel)
theorem w_code_X6_had : Cond.code yX6_had cX6_had 6 (some .int) ∈ gtbl := gmem (List.mem_of_getElem? (i := 537) (by decide +kernel)) (by decide +kernel)
theorem l_X6_201 : Cond.methodLink RX6 201 yX4_allows ∈ gtbl := gmem (List.mem_of_getElem? (i := 538) (by decide +kernel)) (by decide +kernel)
theorem w_inst_X4_allows : Cond.instanceMethod yX4_allows ∈ gtbl := gmem (List.mem_of_getElem? (i := 539) (by decide +kernel)) (by decide +kernel)
theorem w_sel_X4_allows : Cond.selects RX4 yX4_allows yX4_allows ∈ gtbl := gmem (List.mem_of_getElem? (i := 540) (by decide +kernel)) (by decide +kernel)
theorem w_code_X4_allows : Cond.code yX4_allows cX4_allows 5 (some .boolean) ∈ gtbl := gmem (List.mem_of_getElem? (i := 541) (by decide +kernel)) (by decide +kernel)
theorem l_X4_25 : Cond.methodLinkNest RX4 25 yX6_hasBit "TruePies" ∈ ntbl := nmem (List.mem_of_getElem? (i := 542) (by decide +kernel)) (by decide +kernel)
theorem l_X4_29 : Cond.methodLink RX4 29 yX0_counts ∈ gtbl := gmem (List.mem_of_getElem? (i := 543) (by decide +kernel)) (by decide +kernel)
theorem w_inst_X0_counts : Cond.instanceMethod yX0_counts ∈ gtbl := gmem (List.mem_of_getElem? (i := 544) (by decide +kernel)) (by decide +kernel)
theorem w_sel_X0_counts : Cond.selects RX0 yX0_counts yX0_counts ∈ gtbl := gmem (List.mem_of_getElem? (i := 545) (by decide +kernel)) (by decide +kernel)
theorem w_code_X0_counts : Cond.code yX0_counts cX0_counts 3 (some .boolean) ∈ gtbl := gmem (List.mem_of_getElem? (i := 546) (by decide +kernel)) (by decide +kernel)
theorem l_X0_47 : Cond.methodLinkNest RX0 47 yX6_hasBit "TruePies" ∈ ntbl := nmem (List.mem_of_getElem? (i := 547) (by decide +kernel)) (by decide +kernel)
theorem l_L_81 : Cond.methodLink RL 81 yX6_ask ∈ gtbl := gmem (List.mem_of_getElem? (i := 548) (by decide +kernel)) (by decide +kernel)
theorem w_inst_X6_ask : Cond.instanceMethod yX6_ask ∈ gtbl := gmem (List.mem_of_getElem? (i := 549) (by decide +kernel)) (by decide +kernel)
theorem w_sel_X6_ask : Cond.selects RX6 yX6_ask yX6_ask ∈ gtbl := gmem (List.mem_of_getElem? (i := 550) (by decide +kernel)) (by decide +kernel)
theorem w_code_X6_ask : Cond.code yX6_ask cX6_ask 8 (some .int) ∈ gtbl := gmem (List.mem_of_getElem? (i := 551) (by decide +kernel)) (by decide +kernel)
theorem l_X6_205 : Cond.methodLink RX6 205 yX6_had ∈ gtbl := gmem (List.mem_of_getElem? (i := 552) (by decide +kernel)) (by decide +kernel)
theorem l_X6_208 : Cond.methodLink RX6 208 yX6_setsLetBy ∈ gtbl := gmem (List.mem_of_getElem? (i := 553) (by decide +kernel)) (by decide +kernel)
theorem w_inst_X6_setsLetBy : Cond.instanceMethod yX6_setsLetBy ∈ gtbl := gmem (List.mem_of_getElem? (i := 555) (by decide +kernel)) (by decide +kernel)
theorem w_code_X6_setsLetBy : Cond.code yX6_setsLetBy cX6_setsLetBy 5 (some .int) ∈ gtbl := gmem (List.mem_of_getElem? (i := 556) (by decide +kernel)) (by decide +kernel)
theorem l_X6_214 : Cond.methodLink RX6 214 yX0_counts ∈ gtbl := gmem (List.mem_of_getElem? (i := 557) (by decide +kernel)) (by decide +kernel)
theorem l_X6_211 : Cond.methodLink RX6 211 yJ9_max_7cf53 ∈ gtbl := gmem (List.mem_of_getElem? (i := 558) (by decide +kernel)) (by decide +kernel)
theorem l_L_85 : Cond.methodLink RL 85 yX6_tale ∈ gtbl := gmem (List.mem_of_getElem? (i := 559) (by decide +kernel)) (by decide +kernel)
theorem w_inst_X6_tale : Cond.instanceMethod yX6_tale ∈ gtbl := gmem (List.mem_of_getElem? (i := 560) (by decide +kernel)) (by decide +kernel)
theorem w_sel_X6_tale : Cond.selects RX6 yX6_tale yX6_tale ∈ gtbl := gmem (List.mem_of_getElem? (i := 561) (by decide +kernel)) (by decide +kernel)
theorem w_code_X6_tale : Cond.code yX6_tale cX6_tale 3 (some .int) ∈ gtbl := gmem (List.mem_of_getElem? (i := 562) (by decide +kernel)) (by decide +kernel)
theorem l_X6_217 : Cond.methodLink RX6 217 yX0_passedOn ∈ gtbl := gmem (List.mem_of_getElem? (i := 563) (by decide +kernel)) (by decide +kernel)
theorem w_inst_X0_passedOn : Cond.instanceMethod yX0_passedOn ∈ gtbl := gmem (List.mem_of_getElem? (i := 564) (by decide +kernel)) (by decide +kernel)
theorem w_sel_X0_passedOn : Cond.selects RX0 yX0_passedOn yX0_passedOn ∈ gtbl := gmem (List.mem_of_getElem? (i := 565) (by decide +kernel)) (by decide +kernel)
theorem w_code_X0_passedOn : Cond.code yX0_passedOn cX0_passedOn 5 (some .int) ∈ gtbl := gmem (List.mem_of_getElem? (i := 566) (by decide +kernel)) (by decide +kernel)
theorem l_X0_70 : Cond.methodLink RX0 70 yX0_changed ∈ gtbl := gmem (List.mem_of_getElem? (i := 567) (by decide +kernel)) (by decide +kernel)
theorem l_L_89 : Cond.methodLink RL 89 yX6_first ∈ gtbl := gmem (List.mem_of_getElem? (i := 568) (by decide +kernel)) (by decide +kernel)
theorem w_inst_X6_first : Cond.instanceMethod yX6_first ∈ gtbl := gmem (List.mem_of_getElem? (i := 569) (by decide +kernel)) (by decide +kernel)
theorem w_sel_X6_first : Cond.selects RX6 yX6_first yX6_first ∈ gtbl := gmem (List.mem_of_getElem? (i := 570) (by decide +kernel)) (by decide +kernel)
theorem w_code_X6_first : Cond.code yX6_first cX6_first 5 (some .int) ∈ gtbl := gmem (List.mem_of_getElem? (i := 571) (by decide +kernel)) (by decide +kernel)
theorem l_L_93 : Cond.methodLink RL 93 yX6_when ∈ gtbl := gmem (List.mem_of_getElem? (i := 572) (by decide +kernel)) (by decide +kernel)
theorem w_inst_X6_when : Cond.instanceMethod yX6_when ∈ gtbl := gmem (List.mem_of_getElem? (i := 573) (by decide +kernel)) (by decide +kernel)
theorem w_sel_X6_when : Cond.selects RX6 yX6_when yX6_when ∈ gtbl := gmem (List.mem_of_getElem? (i := 574) (by decide +kernel)) (by decide +kernel)
theorem w_code_X6_when : Cond.code yX6_when cX6_when 2 (some .int) ∈ gtbl := gmem (List.mem_of_getElem? (i := 575) (by decide +kernel)) (by decide +kernel)
theorem l_X6_220 : Cond.methodLink RX6 220 yX0_dayOfAllFridays ∈ gtbl := gmem (List.mem_of_getElem? (i := 576) (by decide +kernel)) (by decide +kernel)
theorem w_inst_X0_dayOfAllFridays : Cond.instanceMethod yX0_dayOfAllFridays ∈ gtbl := gmem (List.mem_of_getElem? (i := 577) (by decide +kernel)) (by decide +kernel)
theorem w_sel_X0_dayOfAllFridays : Cond.selects RX0 yX0_dayOfAllFridays yX0_dayOfAllFridays ∈ gtbl := gmem (List.mem_of_getElem? (i := 578) (by decide +kernel)) (by decide +kernel)
theorem w_code_X0_dayOfAllFridays : Cond.code yX0_dayOfAllFridays cX0_dayOfAllFridays 5 (some .int) ∈ gtbl := gmem (List.mem_of_getElem? (i := 579) (by decide +kernel)) (by decide +kernel)
theorem l_X0_73 : Cond.methodLink RX0 73 yX0_dayOfFriday ∈ gtbl := gmem (List.mem_of_getElem? (i := 580) (by decide +kernel)) (by decide +kernel)
theorem w_inst_X0_dayOfFriday : Cond.instanceMethod yX0_dayOfFriday ∈ gtbl := gmem (List.mem_of_getElem? (i := 582) (by decide +kernel)) (by decide +kernel)
theorem w_code_X0_dayOfFriday : Cond.code yX0_dayOfFriday cX0_dayOfFriday 7 (some .int) ∈ gtbl := gmem (List.mem_of_getElem? (i := 583) (by decide +kernel)) (by decide +kernel)
theorem l_X0_80 : Cond.methodLink RX0 80 yJ9_max_7cf53 ∈ gtbl := gmem (List.mem_of_getElem? (i := 584) (by decide +kernel)) (by decide +kernel)
theorem l_X0_77 : Cond.methodLinkNest RX0 77 yX6_greatestDivisor "TruePies" ∈ ntbl := nmem (List.mem_of_getElem? (i := 585) (by decide +kernel)) (by decide +kernel)
theorem w_stat_X6_greatestDivisor : Cond.static yX6_greatestDivisor ∈ gtbl := gmem (List.mem_of_getElem? (i := 586) (by decide +kernel)) (by decide +kernel)
theorem w_code_X6_greatestDivisor : Cond.code yX6_greatestDivisor cX6_greatestDivisor 6 (some .int) ∈ gtbl := gmem (List.mem_of_getElem? (i := 587) (by decide +kernel)) (by decide +kernel)
theorem l_L_97 : Cond.methodLink RL 97 yX6_odds ∈ gtbl := gmem (List.mem_of_getElem? (i := 588) (by decide +kernel)) (by decide +kernel)
theorem w_inst_X6_odds : Cond.instanceMethod yX6_odds ∈ gtbl := gmem (List.mem_of_getElem? (i := 589) (by decide +kernel)) (by decide +kernel)
theorem w_sel_X6_odds : Cond.selects RX6 yX6_odds yX6_odds ∈ gtbl := gmem (List.mem_of_getElem? (i := 590) (by decide +kernel)) (by decide +kernel)
theorem w_code_X6_odds : Cond.code yX6_odds cX6_odds 8 (some .int) ∈ gtbl := gmem (List.mem_of_getElem? (i := 591) (by decide +kernel)) (by decide +kernel)
theorem l_X6_223 : Cond.methodLink RX6 223 yX6_choices ∈ gtbl := gmem (List.mem_of_getElem? (i := 592) (by decide +kernel)) (by decide +kernel)
theorem w_stat_X6_choices : Cond.static yX6_choices ∈ gtbl := gmem (List.mem_of_getElem? (i := 593) (by decide +kernel)) (by decide +kernel)
theorem w_code_X6_choices : Cond.code yX6_choices cX6_choices 4 (some .int) ∈ gtbl := gmem (List.mem_of_getElem? (i := 594) (by decide +kernel)) (by decide +kernel)
theorem l_X6_226 : Cond.methodLink RX6 226 yX6_power ∈ gtbl := gmem (List.mem_of_getElem? (i := 595) (by decide +kernel)) (by decide +kernel)
theorem w_stat_X6_power : Cond.static yX6_power ∈ gtbl := gmem (List.mem_of_getElem? (i := 596) (by decide +kernel)) (by decide +kernel)
theorem w_code_X6_power : Cond.code yX6_power cX6_power 4 (some .int) ∈ gtbl := gmem (List.mem_of_getElem? (i := 597) (by decide +kernel)) (by decide +kernel)
theorem l_X6_229 : Cond.methodLink RX6 229 yX6_greatestDivisor ∈ gtbl := gmem (List.mem_of_getElem? (i := 598) (by decide +kernel)) (by decide +kernel)
theorem l_L_102 : Cond.methodLink RL 102 yX6_rate ∈ gtbl := gmem (List.mem_of_getElem? (i := 599) (by decide +kernel)) (by decide +kernel)
theorem w_inst_X6_rate : Cond.instanceMethod yX6_rate ∈ gtbl := gmem (List.mem_of_getElem? (i := 600) (by decide +kernel)) (by decide +kernel)
theorem w_sel_X6_rate : Cond.selects RX6 yX6_rate yX6_rate ∈ gtbl := gmem (List.mem_of_getElem? (i := 601) (by decide +kernel)) (by decide +kernel)
theorem w_code_X6_rate : Cond.code yX6_rate cX6_rate 3 (some .int) ∈ gtbl := gmem (List.mem_of_getElem? (i := 602) (by decide +kernel)) (by decide +kernel)
theorem v_X6_232 : Cond.constant RX6 232 (-1000000) ∈ gtbl := gmem (List.mem_of_getElem? (i := 603) (by decide +kernel)) (by decide +kernel)
theorem l_X6_233 : Cond.methodLink RX6 233 yX6_rateAsGoer ∈ gtbl := gmem (List.mem_of_getElem? (i := 604) (by decide +kernel)) (by decide +kernel)
theorem w_inst_X6_rateAsGoer : Cond.instanceMethod yX6_rateAsGoer ∈ gtbl := gmem (List.mem_of_getElem? (i := 606) (by decide +kernel)) (by decide +kernel)
theorem w_code_X6_rateAsGoer : Cond.code yX6_rateAsGoer cX6_rateAsGoer 2 (some .int) ∈ gtbl := gmem (List.mem_of_getElem? (i := 607) (by decide +kernel)) (by decide +kernel)
theorem l_X6_236 : Cond.methodLink RX6 236 yX6_rateAsGent ∈ gtbl := gmem (List.mem_of_getElem? (i := 608) (by decide +kernel)) (by decide +kernel)
theorem w_inst_X6_rateAsGent : Cond.instanceMethod yX6_rateAsGent ∈ gtbl := gmem (List.mem_of_getElem? (i := 610) (by decide +kernel)) (by decide +kernel)
theorem w_code_X6_rateAsGent : Cond.code yX6_rateAsGent cX6_rateAsGent 2 (some .int) ∈ gtbl := gmem (List.mem_of_getElem? (i := 611) (by decide +kernel)) (by decide +kernel)
theorem v_X6_251 : Cond.constantLong RX6 251 (10) ∈ gtbl := gmem (List.mem_of_getElem? (i := 612) (by decide +kernel)) (by decide +kernel)
theorem l_X6_239 : Cond.methodLink RX6 239 yX6_rateAsDoctor ∈ gtbl := gmem (List.mem_of_getElem? (i := 613) (by decide +kernel)) (by decide +kernel)
theorem w_inst_X6_rateAsDoctor : Cond.instanceMethod yX6_rateAsDoctor ∈ gtbl := gmem (List.mem_of_getElem? (i := 615) (by decide +kernel)) (by decide +kernel)
theorem w_code_X6_rateAsDoctor : Cond.code yX6_rateAsDoctor cX6_rateAsDoctor 2 (some .int) ∈ gtbl := gmem (List.mem_of_getElem? (i := 616) (by decide +kernel)) (by decide +kernel)
theorem v_X6_253 : Cond.constantLong RX6 253 (100) ∈ gtbl := gmem (List.mem_of_getElem? (i := 617) (by decide +kernel)) (by decide +kernel)
theorem l_X6_242 : Cond.methodLink RX6 242 yX6_rateAsSamples ∈ gtbl := gmem (List.mem_of_getElem? (i := 618) (by decide +kernel)) (by decide +kernel)
theorem w_inst_X6_rateAsSamples : Cond.instanceMethod yX6_rateAsSamples ∈ gtbl := gmem (List.mem_of_getElem? (i := 620) (by decide +kernel)) (by decide +kernel)
theorem w_code_X6_rateAsSamples : Cond.code yX6_rateAsSamples cX6_rateAsSamples 2 (some .int) ∈ gtbl := gmem (List.mem_of_getElem? (i := 621) (by decide +kernel)) (by decide +kernel)
theorem v_X6_255 : Cond.constantLong RX6 255 (1000) ∈ gtbl := gmem (List.mem_of_getElem? (i := 622) (by decide +kernel)) (by decide +kernel)
theorem l_X6_245 : Cond.methodLink RX6 245 yX6_rateAsWife ∈ gtbl := gmem (List.mem_of_getElem? (i := 623) (by decide +kernel)) (by decide +kernel)
theorem w_inst_X6_rateAsWife : Cond.instanceMethod yX6_rateAsWife ∈ gtbl := gmem (List.mem_of_getElem? (i := 625) (by decide +kernel)) (by decide +kernel)
theorem w_code_X6_rateAsWife : Cond.code yX6_rateAsWife cX6_rateAsWife 2 (some .int) ∈ gtbl := gmem (List.mem_of_getElem? (i := 626) (by decide +kernel)) (by decide +kernel)
theorem v_X6_257 : Cond.constantLong RX6 257 (10000) ∈ gtbl := gmem (List.mem_of_getElem? (i := 627) (by decide +kernel)) (by decide +kernel)
theorem l_X6_248 : Cond.methodLink RX6 248 yX6_rateAsTall ∈ gtbl := gmem (List.mem_of_getElem? (i := 628) (by decide +kernel)) (by decide +kernel)
theorem w_inst_X6_rateAsTall : Cond.instanceMethod yX6_rateAsTall ∈ gtbl := gmem (List.mem_of_getElem? (i := 630) (by decide +kernel)) (by decide +kernel)
theorem w_code_X6_rateAsTall : Cond.code yX6_rateAsTall cX6_rateAsTall 2 (some .int) ∈ gtbl := gmem (List.mem_of_getElem? (i := 631) (by decide +kernel)) (by decide +kernel)
theorem v_X6_259 : Cond.constantLong RX6 259 (100000) ∈ gtbl := gmem (List.mem_of_getElem? (i := 632) (by decide +kernel)) (by decide +kernel)
theorem l_L_106 : Cond.methodLink RL 106 yX6_keep ∈ gtbl := gmem (List.mem_of_getElem? (i := 633) (by decide +kernel)) (by decide +kernel)
theorem w_inst_X6_keep : Cond.instanceMethod yX6_keep ∈ gtbl := gmem (List.mem_of_getElem? (i := 634) (by decide +kernel)) (by decide +kernel)
theorem w_sel_X6_keep : Cond.selects RX6 yX6_keep yX6_keep ∈ gtbl := gmem (List.mem_of_getElem? (i := 635) (by decide +kernel)) (by decide +kernel)
theorem w_code_X6_keep : Cond.code yX6_keep cX6_keep 2 (some .int) ∈ gtbl := gmem (List.mem_of_getElem? (i := 636) (by decide +kernel)) (by decide +kernel)
theorem l_X6_261 : Cond.methodLink RX6 261 yX3_become ∈ gtbl := gmem (List.mem_of_getElem? (i := 637) (by decide +kernel)) (by decide +kernel)
theorem l_L_110 : Cond.methodLink RL 110 yX6_back ∈ gtbl := gmem (List.mem_of_getElem? (i := 638) (by decide +kernel)) (by decide +kernel)
theorem w_inst_X6_back : Cond.instanceMethod yX6_back ∈ gtbl := gmem (List.mem_of_getElem? (i := 639) (by decide +kernel)) (by decide +kernel)
theorem w_sel_X6_back : Cond.selects RX6 yX6_back yX6_back ∈ gtbl := gmem (List.mem_of_getElem? (i := 640) (by decide +kernel)) (by decide +kernel)
theorem w_code_X6_back : Cond.code yX6_back cX6_back 2 (some .int) ∈ gtbl := gmem (List.mem_of_getElem? (i := 641) (by decide +kernel)) (by decide +kernel)
theorem l_L_114 : Cond.methodLink RL 114 yX6_count ∈ gtbl := gmem (List.mem_of_getElem? (i := 642) (by decide +kernel)) (by decide +kernel)
theorem w_inst_X6_count : Cond.instanceMethod yX6_count ∈ gtbl := gmem (List.mem_of_getElem? (i := 643) (by decide +kernel)) (by decide +kernel)
theorem w_sel_X6_count : Cond.selects RX6 yX6_count yX6_count ∈ gtbl := gmem (List.mem_of_getElem? (i := 644) (by decide +kernel)) (by decide +kernel)
theorem w_code_X6_count : Cond.code yX6_count cX6_count 2 (some .int) ∈ gtbl := gmem (List.mem_of_getElem? (i := 645) (by decide +kernel)) (by decide +kernel)
theorem l_L_118 : Cond.methodLink RL 118 yX6_trace ∈ gtbl := gmem (List.mem_of_getElem? (i := 646) (by decide +kernel)) (by decide +kernel)
theorem w_inst_X6_trace : Cond.instanceMethod yX6_trace ∈ gtbl := gmem (List.mem_of_getElem? (i := 647) (by decide +kernel)) (by decide +kernel)
theorem w_sel_X6_trace : Cond.selects RX6 yX6_trace yX6_trace ∈ gtbl := gmem (List.mem_of_getElem? (i := 648) (by decide +kernel)) (by decide +kernel)
theorem w_code_X6_trace : Cond.code yX6_trace cX6_trace 1 (some .long) ∈ gtbl := gmem (List.mem_of_getElem? (i := 649) (by decide +kernel)) (by decide +kernel)
theorem k_L_10 : Cond.classLink RL 10 RX7 ∈ gtbl := gmem (List.mem_of_getElem? (i := 650) (by decide +kernel)) (by decide +kernel)
theorem w_new_7 : Cond.instantiable (cNm 7) (cNf 7) ∈ gtbl := gmem (List.mem_of_getElem? (i := 651) (by decide +kernel)) (by decide +kernel)
theorem l_L_12 : Cond.methodLink RL 12 yX7_init ∈ gtbl := gmem (List.mem_of_getElem? (i := 652) (by decide +kernel)) (by decide +kernel)
theorem w_inst_X7_init : Cond.instanceMethod yX7_init ∈ gtbl := gmem (List.mem_of_getElem? (i := 653) (by decide +kernel)) (by decide +kernel)
theorem w_code_X7_init : Cond.code yX7_init cX7_init 1 none ∈ gtbl := gmem (List.mem_of_getElem? (i := 654) (by decide +kernel)) (by decide +kernel)
theorem l_X7_1 : Cond.methodLink RX7 1 objectInit ∈ gtbl := gmem (List.mem_of_getElem? (i := 655) (by decide +kernel)) (by decide +kernel)
theorem f_X7_164 : FL RX7 164 7 0 := ⟨by decide, by decide, gmem (List.mem_of_getElem? (i := 656) (by decide +kernel)) (by decide +kernel)⟩
theorem f_X7_7 : FL RX7 7 7 1 := ⟨by decide, by decide, gmem (List.mem_of_getElem? (i := 657) (by decide +kernel)) (by decide +kernel)⟩
theorem f_X7_167 : FL RX7 167 7 2 := ⟨by decide, by decide, gmem (List.mem_of_getElem? (i := 658) (by decide +kernel)) (by decide +kernel)⟩
theorem f_X7_13 : FL RX7 13 7 3 := ⟨by decide, by decide, gmem (List.mem_of_getElem? (i := 659) (by decide +kernel)) (by decide +kernel)⟩
theorem f_X7_170 : FL RX7 170 7 4 := ⟨by decide, by decide, gmem (List.mem_of_getElem? (i := 660) (by decide +kernel)) (by decide +kernel)⟩
theorem f_X7_16 : FL RX7 16 7 5 := ⟨by decide, by decide, gmem (List.mem_of_getElem? (i := 661) (by decide +kernel)) (by decide +kernel)⟩
theorem f_X7_173 : FL RX7 173 7 6 := ⟨by decide, by decide, gmem (List.mem_of_getElem? (i := 662) (by decide +kernel)) (by decide +kernel)⟩
theorem f_X7_19 : FL RX7 19 7 7 := ⟨by decide, by decide, gmem (List.mem_of_getElem? (i := 663) (by decide +kernel)) (by decide +kernel)⟩
theorem f_X7_22 : FL RX7 22 7 8 := ⟨by decide, by decide, gmem (List.mem_of_getElem? (i := 664) (by decide +kernel)) (by decide +kernel)⟩
theorem f_X7_25 : FL RX7 25 7 9 := ⟨by decide, by decide, gmem (List.mem_of_getElem? (i := 665) (by decide +kernel)) (by decide +kernel)⟩
theorem f_X7_29 : FL RX7 29 7 10 := ⟨by decide, by decide, gmem (List.mem_of_getElem? (i := 666) (by decide +kernel)) (by decide +kernel)⟩
theorem f_X7_32 : FL RX7 32 7 11 := ⟨by decide, by decide, gmem (List.mem_of_getElem? (i := 667) (by decide +kernel)) (by decide +kernel)⟩
theorem f_X7_180 : FL RX7 180 7 12 := ⟨by decide, by decide, gmem (List.mem_of_getElem? (i := 668) (by decide +kernel)) (by decide +kernel)⟩
theorem f_X7_35 : FL RX7 35 7 13 := ⟨by decide, by decide, gmem (List.mem_of_getElem? (i := 669) (by decide +kernel)) (by decide +kernel)⟩
theorem f_X7_38 : FL RX7 38 7 14 := ⟨by decide, by decide, gmem (List.mem_of_getElem? (i := 670) (by decide +kernel)) (by decide +kernel)⟩
theorem f_X7_42 : FL RX7 42 7 15 := ⟨by decide, by decide, gmem (List.mem_of_getElem? (i := 671) (by decide +kernel)) (by decide +kernel)⟩
theorem f_X7_183 : FL RX7 183 7 16 := ⟨by decide, by decide, gmem (List.mem_of_getElem? (i := 672) (by decide +kernel)) (by decide +kernel)⟩
theorem f_X7_259 : FL RX7 259 7 17 := ⟨by decide, by decide, gmem (List.mem_of_getElem? (i := 673) (by decide +kernel)) (by decide +kernel)⟩
theorem f_X7_45 : FL RX7 45 7 18 := ⟨by decide, by decide, gmem (List.mem_of_getElem? (i := 674) (by decide +kernel)) (by decide +kernel)⟩
theorem f_X7_79 : FL RX7 79 7 19 := ⟨by decide, by decide, gmem (List.mem_of_getElem? (i := 675) (by decide +kernel)) (by decide +kernel)⟩
theorem f_X7_82 : FL RX7 82 7 20 := ⟨by decide, by decide, gmem (List.mem_of_getElem? (i := 676) (by decide +kernel)) (by decide +kernel)⟩
theorem f_X7_97 : FL RX7 97 7 21 := ⟨by decide, by decide, gmem (List.mem_of_getElem? (i := 677) (by decide +kernel)) (by decide +kernel)⟩
theorem f_X7_103 : FL RX7 103 7 22 := ⟨by decide, by decide, gmem (List.mem_of_getElem? (i := 678) (by decide +kernel)) (by decide +kernel)⟩
theorem f_X7_100 : FL RX7 100 7 23 := ⟨by decide, by decide, gmem (List.mem_of_getElem? (i := 679) (by decide +kernel)) (by decide +kernel)⟩
theorem f_X7_121 : FL RX7 121 7 24 := ⟨by decide, by decide, gmem (List.mem_of_getElem? (i := 680) (by decide +kernel)) (by decide +kernel)⟩
theorem f_X7_48 : FL RX7 48 7 25 := ⟨by decide, by decide, gmem (List.mem_of_getElem? (i := 681) (by decide +kernel)) (by decide +kernel)⟩
theorem f_X7_128 : FL RX7 128 7 26 := ⟨by decide, by decide, gmem (List.mem_of_getElem? (i := 682) (by decide +kernel)) (by decide +kernel)⟩
theorem f_X7_51 : FL RX7 51 7 27 := ⟨by decide, by decide, gmem (List.mem_of_getElem? (i := 683) (by decide +kernel)) (by decide +kernel)⟩
theorem f_X7_131 : FL RX7 131 7 28 := ⟨by decide, by decide, gmem (List.mem_of_getElem? (i := 684) (by decide +kernel)) (by decide +kernel)⟩
theorem f_X7_54 : FL RX7 54 7 29 := ⟨by decide, by decide, gmem (List.mem_of_getElem? (i := 685) (by decide +kernel)) (by decide +kernel)⟩
theorem f_X7_134 : FL RX7 134 7 30 := ⟨by decide, by decide, gmem (List.mem_of_getElem? (i := 686) (by decide +kernel)) (by decide +kernel)⟩
theorem f_X7_57 : FL RX7 57 7 31 := ⟨by decide, by decide, gmem (List.mem_of_getElem? (i := 687) (by decide +kernel)) (by decide +kernel)⟩
theorem f_X7_60 : FL RX7 60 7 32 := ⟨by decide, by decide, gmem (List.mem_of_getElem? (i := 688) (by decide +kernel)) (by decide +kernel)⟩
theorem f_X7_140 : FL RX7 140 7 33 := ⟨by decide, by decide, gmem (List.mem_of_getElem? (i := 689) (by decide +kernel)) (by decide +kernel)⟩
theorem f_X7_63 : FL RX7 63 7 34 := ⟨by decide, by decide, gmem (List.mem_of_getElem? (i := 690) (by decide +kernel)) (by decide +kernel)⟩
theorem f_X7_66 : FL RX7 66 7 35 := ⟨by decide, by decide, gmem (List.mem_of_getElem? (i := 691) (by decide +kernel)) (by decide +kernel)⟩
theorem l_L_17 : Cond.methodLink RL 17 yX7_type ∈ gtbl := gmem (List.mem_of_getElem? (i := 765) (by decide +kernel)) (by decide +kernel)
theorem w_inst_X7_type : Cond.instanceMethod yX7_type ∈ gtbl := gmem (List.mem_of_getElem? (i := 766) (by decide +kernel)) (by decide +kernel)
theorem w_sel_X7_type : Cond.selects RX7 yX7_type yX7_type ∈ gtbl := gmem (List.mem_of_getElem? (i := 767) (by decide +kernel)) (by decide +kernel)
theorem w_code_X7_type : Cond.code yX7_type cX7_type 2 (some .int) ∈ gtbl := gmem (List.mem_of_getElem? (i := 768) (by decide +kernel)) (by decide +kernel)
theorem v_X7_73 : Cond.constantLong RX7 73 (255) ∈ gtbl := gmem (List.mem_of_getElem? (i := 769) (by decide +kernel)) (by decide +kernel)
theorem l_X7_75 : Cond.methodLink RX7 75 yX7_in ∈ gtbl := gmem (List.mem_of_getElem? (i := 770) (by decide +kernel)) (by decide +kernel)
theorem w_stat_X7_in : Cond.static yX7_in ∈ gtbl := gmem (List.mem_of_getElem? (i := 771) (by decide +kernel)) (by decide +kernel)
theorem w_code_X7_in : Cond.code yX7_in cX7_in 6 (some .boolean) ∈ gtbl := gmem (List.mem_of_getElem? (i := 772) (by decide +kernel)) (by decide +kernel)
theorem l_L_22 : Cond.methodLink RL 22 yX7_clear ∈ gtbl := gmem (List.mem_of_getElem? (i := 773) (by decide +kernel)) (by decide +kernel)
theorem w_inst_X7_clear : Cond.instanceMethod yX7_clear ∈ gtbl := gmem (List.mem_of_getElem? (i := 774) (by decide +kernel)) (by decide +kernel)
theorem w_sel_X7_clear : Cond.selects RX7 yX7_clear yX7_clear ∈ gtbl := gmem (List.mem_of_getElem? (i := 775) (by decide +kernel)) (by decide +kernel)
theorem w_code_X7_clear : Cond.code yX7_clear cX7_clear 2 (some .int) ∈ gtbl := gmem (List.mem_of_getElem? (i := 776) (by decide +kernel)) (by decide +kernel)
theorem l_L_26 : Cond.methodLink RL 26 yX7_court ∈ gtbl := gmem (List.mem_of_getElem? (i := 777) (by decide +kernel)) (by decide +kernel)
theorem w_inst_X7_court : Cond.instanceMethod yX7_court ∈ gtbl := gmem (List.mem_of_getElem? (i := 778) (by decide +kernel)) (by decide +kernel)
theorem w_sel_X7_court : Cond.selects RX7 yX7_court yX7_court ∈ gtbl := gmem (List.mem_of_getElem? (i := 779) (by decide +kernel)) (by decide +kernel)
theorem w_code_X7_court : Cond.code yX7_court cX7_court 3 (some .int) ∈ gtbl := gmem (List.mem_of_getElem? (i := 780) (by decide +kernel)) (by decide +kernel)
theorem l_X7_161 : Cond.methodLink RX7 161 yX7_reads ∈ gtbl := gmem (List.mem_of_getElem? (i := 781) (by decide +kernel)) (by decide +kernel)
theorem w_inst_X7_reads : Cond.instanceMethod yX7_reads ∈ gtbl := gmem (List.mem_of_getElem? (i := 783) (by decide +kernel)) (by decide +kernel)
theorem w_code_X7_reads : Cond.code yX7_reads cX7_reads 2 (some .int) ∈ gtbl := gmem (List.mem_of_getElem? (i := 784) (by decide +kernel)) (by decide +kernel)
theorem l_X7_116 : Cond.methodLink RX7 116 yX7_step ∈ gtbl := gmem (List.mem_of_getElem? (i := 785) (by decide +kernel)) (by decide +kernel)
theorem w_inst_X7_step : Cond.instanceMethod yX7_step ∈ gtbl := gmem (List.mem_of_getElem? (i := 787) (by decide +kernel)) (by decide +kernel)
theorem w_code_X7_step : Cond.code yX7_step cX7_step 1 none ∈ gtbl := gmem (List.mem_of_getElem? (i := 788) (by decide +kernel)) (by decide +kernel)
theorem l_X7_85 : Cond.methodLink RX7 85 yX7_here ∈ gtbl := gmem (List.mem_of_getElem? (i := 789) (by decide +kernel)) (by decide +kernel)
theorem w_inst_X7_here : Cond.instanceMethod yX7_here ∈ gtbl := gmem (List.mem_of_getElem? (i := 791) (by decide +kernel)) (by decide +kernel)
theorem w_code_X7_here : Cond.code yX7_here cX7_here 1 (some .int) ∈ gtbl := gmem (List.mem_of_getElem? (i := 792) (by decide +kernel)) (by decide +kernel)
theorem l_X7_106 : Cond.methodLink RX7 106 yX7_isLetter ∈ gtbl := gmem (List.mem_of_getElem? (i := 793) (by decide +kernel)) (by decide +kernel)
theorem w_inst_X7_isLetter : Cond.instanceMethod yX7_isLetter ∈ gtbl := gmem (List.mem_of_getElem? (i := 795) (by decide +kernel)) (by decide +kernel)
theorem w_code_X7_isLetter : Cond.code yX7_isLetter cX7_isLetter 1 (some .boolean) ∈ gtbl := gmem (List.mem_of_getElem? (i := 796) (by decide +kernel)) (by decide +kernel)
theorem v_X7_89 : Cond.constantLong RX7 89 (97) ∈ gtbl := gmem (List.mem_of_getElem? (i := 797) (by decide +kernel)) (by decide +kernel)
theorem v_X7_91 : Cond.constantLong RX7 91 (122) ∈ gtbl := gmem (List.mem_of_getElem? (i := 798) (by decide +kernel)) (by decide +kernel)
theorem l_X7_110 : Cond.methodLink RX7 110 yX7_isFigure ∈ gtbl := gmem (List.mem_of_getElem? (i := 799) (by decide +kernel)) (by decide +kernel)
theorem w_inst_X7_isFigure : Cond.instanceMethod yX7_isFigure ∈ gtbl := gmem (List.mem_of_getElem? (i := 801) (by decide +kernel)) (by decide +kernel)
theorem w_code_X7_isFigure : Cond.code yX7_isFigure cX7_isFigure 1 (some .boolean) ∈ gtbl := gmem (List.mem_of_getElem? (i := 802) (by decide +kernel)) (by decide +kernel)
theorem v_X7_93 : Cond.constantLong RX7 93 (48) ∈ gtbl := gmem (List.mem_of_getElem? (i := 803) (by decide +kernel)) (by decide +kernel)
theorem v_X7_95 : Cond.constantLong RX7 95 (57) ∈ gtbl := gmem (List.mem_of_getElem? (i := 804) (by decide +kernel)) (by decide +kernel)
theorem l_X7_113 : Cond.methodLink RX7 113 yX7_readsFigures ∈ gtbl := gmem (List.mem_of_getElem? (i := 805) (by decide +kernel)) (by decide +kernel)
theorem w_inst_X7_readsFigures : Cond.instanceMethod yX7_readsFigures ∈ gtbl := gmem (List.mem_of_getElem? (i := 807) (by decide +kernel)) (by decide +kernel)
theorem w_code_X7_readsFigures : Cond.code yX7_readsFigures cX7_readsFigures 2 none ∈ gtbl := gmem (List.mem_of_getElem? (i := 808) (by decide +kernel)) (by decide +kernel)
theorem l_X7_158 : Cond.methodLink RX7 158 yX7_isItem ∈ gtbl := gmem (List.mem_of_getElem? (i := 809) (by decide +kernel)) (by decide +kernel)
theorem w_inst_X7_isItem : Cond.instanceMethod yX7_isItem ∈ gtbl := gmem (List.mem_of_getElem? (i := 811) (by decide +kernel)) (by decide +kernel)
theorem w_code_X7_isItem : Cond.code yX7_isItem cX7_isItem 1 (some .boolean) ∈ gtbl := gmem (List.mem_of_getElem? (i := 812) (by decide +kernel)) (by decide +kernel)
theorem l_X7_143 : Cond.methodLink RX7 143 yX7_isLeaf ∈ gtbl := gmem (List.mem_of_getElem? (i := 813) (by decide +kernel)) (by decide +kernel)
theorem w_inst_X7_isLeaf : Cond.instanceMethod yX7_isLeaf ∈ gtbl := gmem (List.mem_of_getElem? (i := 815) (by decide +kernel)) (by decide +kernel)
theorem w_code_X7_isLeaf : Cond.code yX7_isLeaf cX7_isLeaf 2 (some .boolean) ∈ gtbl := gmem (List.mem_of_getElem? (i := 816) (by decide +kernel)) (by decide +kernel)
theorem l_X7_124 : Cond.methodLink RX7 124 yX7_row ∈ gtbl := gmem (List.mem_of_getElem? (i := 817) (by decide +kernel)) (by decide +kernel)
theorem w_inst_X7_row : Cond.instanceMethod yX7_row ∈ gtbl := gmem (List.mem_of_getElem? (i := 819) (by decide +kernel)) (by decide +kernel)
theorem w_code_X7_row : Cond.code yX7_row cX7_row 5 (some .int) ∈ gtbl := gmem (List.mem_of_getElem? (i := 820) (by decide +kernel)) (by decide +kernel)
theorem v_X7_119 : Cond.constantLong RX7 119 (102) ∈ gtbl := gmem (List.mem_of_getElem? (i := 821) (by decide +kernel)) (by decide +kernel)
theorem l_X7_146 : Cond.methodLink RX7 146 yX7_isGoer ∈ gtbl := gmem (List.mem_of_getElem? (i := 822) (by decide +kernel)) (by decide +kernel)
theorem w_inst_X7_isGoer : Cond.instanceMethod yX7_isGoer ∈ gtbl := gmem (List.mem_of_getElem? (i := 824) (by decide +kernel)) (by decide +kernel)
theorem w_code_X7_isGoer : Cond.code yX7_isGoer cX7_isGoer 2 (some .boolean) ∈ gtbl := gmem (List.mem_of_getElem? (i := 825) (by decide +kernel)) (by decide +kernel)
theorem l_X7_149 : Cond.methodLink RX7 149 yX7_isSister ∈ gtbl := gmem (List.mem_of_getElem? (i := 826) (by decide +kernel)) (by decide +kernel)
theorem w_inst_X7_isSister : Cond.instanceMethod yX7_isSister ∈ gtbl := gmem (List.mem_of_getElem? (i := 828) (by decide +kernel)) (by decide +kernel)
theorem w_code_X7_isSister : Cond.code yX7_isSister cX7_isSister 2 (some .boolean) ∈ gtbl := gmem (List.mem_of_getElem? (i := 829) (by decide +kernel)) (by decide +kernel)
theorem l_X7_152 : Cond.methodLink RX7 152 yX7_isFriday ∈ gtbl := gmem (List.mem_of_getElem? (i := 830) (by decide +kernel)) (by decide +kernel)
theorem w_inst_X7_isFriday : Cond.instanceMethod yX7_isFriday ∈ gtbl := gmem (List.mem_of_getElem? (i := 832) (by decide +kernel)) (by decide +kernel)
theorem w_code_X7_isFriday : Cond.code yX7_isFriday cX7_isFriday 2 (some .boolean) ∈ gtbl := gmem (List.mem_of_getElem? (i := 833) (by decide +kernel)) (by decide +kernel)
theorem l_X7_137 : Cond.methodLink RX7 137 yX7_number ∈ gtbl := gmem (List.mem_of_getElem? (i := 834) (by decide +kernel)) (by decide +kernel)
theorem w_inst_X7_number : Cond.instanceMethod yX7_number ∈ gtbl := gmem (List.mem_of_getElem? (i := 836) (by decide +kernel)) (by decide +kernel)
theorem w_code_X7_number : Cond.code yX7_number cX7_number 3 (some .boolean) ∈ gtbl := gmem (List.mem_of_getElem? (i := 837) (by decide +kernel)) (by decide +kernel)
theorem l_X7_155 : Cond.methodLink RX7 155 yX7_isLane ∈ gtbl := gmem (List.mem_of_getElem? (i := 838) (by decide +kernel)) (by decide +kernel)
theorem w_inst_X7_isLane : Cond.instanceMethod yX7_isLane ∈ gtbl := gmem (List.mem_of_getElem? (i := 840) (by decide +kernel)) (by decide +kernel)
theorem w_code_X7_isLane : Cond.code yX7_isLane cX7_isLane 1 (some .boolean) ∈ gtbl := gmem (List.mem_of_getElem? (i := 841) (by decide +kernel)) (by decide +kernel)
theorem l_X7_176 : Cond.methodLink RX7 176 yX7_copies ∈ gtbl := gmem (List.mem_of_getElem? (i := 842) (by decide +kernel)) (by decide +kernel)
theorem w_stat_X7_copies : Cond.static yX7_copies ∈ gtbl := gmem (List.mem_of_getElem? (i := 843) (by decide +kernel)) (by decide +kernel)
theorem w_code_X7_copies : Cond.code yX7_copies cX7_copies 6 none ∈ gtbl := gmem (List.mem_of_getElem? (i := 844) (by decide +kernel)) (by decide +kernel)
theorem l_L_31 : Cond.methodLink RL 31 yX7_leaf ∈ gtbl := gmem (List.mem_of_getElem? (i := 845) (by decide +kernel)) (by decide +kernel)
theorem w_inst_X7_leaf : Cond.instanceMethod yX7_leaf ∈ gtbl := gmem (List.mem_of_getElem? (i := 846) (by decide +kernel)) (by decide +kernel)
theorem w_sel_X7_leaf : Cond.selects RX7 yX7_leaf yX7_leaf ∈ gtbl := gmem (List.mem_of_getElem? (i := 847) (by decide +kernel)) (by decide +kernel)
theorem w_code_X7_leaf : Cond.code yX7_leaf cX7_leaf 3 (some .int) ∈ gtbl := gmem (List.mem_of_getElem? (i := 848) (by decide +kernel)) (by decide +kernel)
theorem l_X7_198 : Cond.methodLink RX7 198 yX7_isTheLeaf ∈ gtbl := gmem (List.mem_of_getElem? (i := 849) (by decide +kernel)) (by decide +kernel)
theorem w_inst_X7_isTheLeaf : Cond.instanceMethod yX7_isTheLeaf ∈ gtbl := gmem (List.mem_of_getElem? (i := 851) (by decide +kernel)) (by decide +kernel)
theorem w_code_X7_isTheLeaf : Cond.code yX7_isTheLeaf cX7_isTheLeaf 2 (some .boolean) ∈ gtbl := gmem (List.mem_of_getElem? (i := 852) (by decide +kernel)) (by decide +kernel)
theorem l_X7_202 : Cond.methodLink RX7 202 yX7_isBit ∈ gtbl := gmem (List.mem_of_getElem? (i := 853) (by decide +kernel)) (by decide +kernel)
theorem w_stat_X7_isBit : Cond.static yX7_isBit ∈ gtbl := gmem (List.mem_of_getElem? (i := 854) (by decide +kernel)) (by decide +kernel)
theorem w_code_X7_isBit : Cond.code yX7_isBit cX7_isBit 1 (some .boolean) ∈ gtbl := gmem (List.mem_of_getElem? (i := 855) (by decide +kernel)) (by decide +kernel)
theorem l_X7_191 : Cond.methodLink RX7 191 yX7_letsBy ∈ gtbl := gmem (List.mem_of_getElem? (i := 856) (by decide +kernel)) (by decide +kernel)
theorem w_inst_X7_letsBy : Cond.instanceMethod yX7_letsBy ∈ gtbl := gmem (List.mem_of_getElem? (i := 858) (by decide +kernel)) (by decide +kernel)
theorem w_code_X7_letsBy : Cond.code yX7_letsBy cX7_letsBy 4 (some .int) ∈ gtbl := gmem (List.mem_of_getElem? (i := 859) (by decide +kernel)) (by decide +kernel)
theorem l_X7_188 : Cond.methodLink RX7 188 yX7_lets ∈ gtbl := gmem (List.mem_of_getElem? (i := 860) (by decide +kernel)) (by decide +kernel)
theorem w_inst_X7_lets : Cond.instanceMethod yX7_lets ∈ gtbl := gmem (List.mem_of_getElem? (i := 862) (by decide +kernel)) (by decide +kernel)
theorem w_code_X7_lets : Cond.code yX7_lets cX7_lets 3 (some .boolean) ∈ gtbl := gmem (List.mem_of_getElem? (i := 863) (by decide +kernel)) (by decide +kernel)
theorem l_L_35 : Cond.methodLink RL 35 yX7_goer ∈ gtbl := gmem (List.mem_of_getElem? (i := 864) (by decide +kernel)) (by decide +kernel)
theorem w_inst_X7_goer : Cond.instanceMethod yX7_goer ∈ gtbl := gmem (List.mem_of_getElem? (i := 865) (by decide +kernel)) (by decide +kernel)
theorem w_sel_X7_goer : Cond.selects RX7 yX7_goer yX7_goer ∈ gtbl := gmem (List.mem_of_getElem? (i := 866) (by decide +kernel)) (by decide +kernel)
theorem w_code_X7_goer : Cond.code yX7_goer cX7_goer 3 (some .int) ∈ gtbl := gmem (List.mem_of_getElem? (i := 867) (by decide +kernel)) (by decide +kernel)
theorem l_X7_205 : Cond.methodLink RX7 205 yX7_isOne ∈ gtbl := gmem (List.mem_of_getElem? (i := 868) (by decide +kernel)) (by decide +kernel)
theorem w_inst_X7_isOne : Cond.instanceMethod yX7_isOne ∈ gtbl := gmem (List.mem_of_getElem? (i := 870) (by decide +kernel)) (by decide +kernel)
theorem w_code_X7_isOne : Cond.code yX7_isOne cX7_isOne 2 (some .boolean) ∈ gtbl := gmem (List.mem_of_getElem? (i := 871) (by decide +kernel)) (by decide +kernel)
theorem l_X7_208 : Cond.methodLink RX7 208 yX7_leavesOf ∈ gtbl := gmem (List.mem_of_getElem? (i := 872) (by decide +kernel)) (by decide +kernel)
theorem w_inst_X7_leavesOf : Cond.instanceMethod yX7_leavesOf ∈ gtbl := gmem (List.mem_of_getElem? (i := 874) (by decide +kernel)) (by decide +kernel)
theorem w_code_X7_leavesOf : Cond.code yX7_leavesOf cX7_leavesOf 4 (some .int) ∈ gtbl := gmem (List.mem_of_getElem? (i := 875) (by decide +kernel)) (by decide +kernel)
theorem l_L_39 : Cond.methodLink RL 39 yX7_sister ∈ gtbl := gmem (List.mem_of_getElem? (i := 876) (by decide +kernel)) (by decide +kernel)
theorem w_inst_X7_sister : Cond.instanceMethod yX7_sister ∈ gtbl := gmem (List.mem_of_getElem? (i := 877) (by decide +kernel)) (by decide +kernel)
theorem w_sel_X7_sister : Cond.selects RX7 yX7_sister yX7_sister ∈ gtbl := gmem (List.mem_of_getElem? (i := 878) (by decide +kernel)) (by decide +kernel)
theorem w_code_X7_sister : Cond.code yX7_sister cX7_sister 3 (some .int) ∈ gtbl := gmem (List.mem_of_getElem? (i := 879) (by decide +kernel)) (by decide +kernel)
theorem l_X7_211 : Cond.methodLink RX7 211 yX7_isTaste ∈ gtbl := gmem (List.mem_of_getElem? (i := 880) (by decide +kernel)) (by decide +kernel)
theorem w_stat_X7_isTaste : Cond.static yX7_isTaste ∈ gtbl := gmem (List.mem_of_getElem? (i := 881) (by decide +kernel)) (by decide +kernel)
theorem w_code_X7_isTaste : Cond.code yX7_isTaste cX7_isTaste 1 (some .boolean) ∈ gtbl := gmem (List.mem_of_getElem? (i := 882) (by decide +kernel)) (by decide +kernel)
theorem v_X7_186 : Cond.constantLong RX7 186 (5) ∈ gtbl := gmem (List.mem_of_getElem? (i := 883) (by decide +kernel)) (by decide +kernel)
theorem l_L_43 : Cond.methodLink RL 43 yX7_now ∈ gtbl := gmem (List.mem_of_getElem? (i := 884) (by decide +kernel)) (by decide +kernel)
theorem w_inst_X7_now : Cond.instanceMethod yX7_now ∈ gtbl := gmem (List.mem_of_getElem? (i := 885) (by decide +kernel)) (by decide +kernel)
theorem w_sel_X7_now : Cond.selects RX7 yX7_now yX7_now ∈ gtbl := gmem (List.mem_of_getElem? (i := 886) (by decide +kernel)) (by decide +kernel)
theorem w_code_X7_now : Cond.code yX7_now cX7_now 2 (some .int) ∈ gtbl := gmem (List.mem_of_getElem? (i := 887) (by decide +kernel)) (by decide +kernel)
theorem l_X7_214 : Cond.methodLink RX7 214 yX7_those ∈ gtbl := gmem (List.mem_of_getElem? (i := 888) (by decide +kernel)) (by decide +kernel)
theorem w_inst_X7_those : Cond.instanceMethod yX7_those ∈ gtbl := gmem (List.mem_of_getElem? (i := 890) (by decide +kernel)) (by decide +kernel)
theorem w_code_X7_those : Cond.code yX7_those cX7_those 4 (some .int) ∈ gtbl := gmem (List.mem_of_getElem? (i := 891) (by decide +kernel)) (by decide +kernel)
theorem l_X7_217 : Cond.methodLink RX7 217 yX7_cover ∈ gtbl := gmem (List.mem_of_getElem? (i := 892) (by decide +kernel)) (by decide +kernel)
theorem w_inst_X7_cover : Cond.instanceMethod yX7_cover ∈ gtbl := gmem (List.mem_of_getElem? (i := 894) (by decide +kernel)) (by decide +kernel)
theorem w_code_X7_cover : Cond.code yX7_cover cX7_cover 5 (some .int) ∈ gtbl := gmem (List.mem_of_getElem? (i := 895) (by decide +kernel)) (by decide +kernel)
theorem l_X7_69 : Cond.methodLink RX7 69 yX7_has ∈ gtbl := gmem (List.mem_of_getElem? (i := 896) (by decide +kernel)) (by decide +kernel)
theorem w_stat_X7_has : Cond.static yX7_has ∈ gtbl := gmem (List.mem_of_getElem? (i := 897) (by decide +kernel)) (by decide +kernel)
theorem w_code_X7_has : Cond.code yX7_has cX7_has 2 (some .boolean) ∈ gtbl := gmem (List.mem_of_getElem? (i := 898) (by decide +kernel)) (by decide +kernel)
theorem l_X7_195 : Cond.methodLink RX7 195 yX7_bits ∈ gtbl := gmem (List.mem_of_getElem? (i := 899) (by decide +kernel)) (by decide +kernel)
theorem w_stat_X7_bits : Cond.static yX7_bits ∈ gtbl := gmem (List.mem_of_getElem? (i := 900) (by decide +kernel)) (by decide +kernel)
theorem w_code_X7_bits : Cond.code yX7_bits cX7_bits 3 (some .int) ∈ gtbl := gmem (List.mem_of_getElem? (i := 901) (by decide +kernel)) (by decide +kernel)
theorem l_L_47 : Cond.methodLink RL 47 yX7_comes ∈ gtbl := gmem (List.mem_of_getElem? (i := 902) (by decide +kernel)) (by decide +kernel)
theorem w_inst_X7_comes : Cond.instanceMethod yX7_comes ∈ gtbl := gmem (List.mem_of_getElem? (i := 903) (by decide +kernel)) (by decide +kernel)
theorem w_sel_X7_comes : Cond.selects RX7 yX7_comes yX7_comes ∈ gtbl := gmem (List.mem_of_getElem? (i := 904) (by decide +kernel)) (by decide +kernel)
theorem w_code_X7_comes : Cond.code yX7_comes cX7_comes 2 (some .int) ∈ gtbl := gmem (List.mem_of_getElem? (i := 905) (by decide +kernel)) (by decide +kernel)
theorem l_X7_220 : Cond.methodLink RX7 220 yX7_notes ∈ gtbl := gmem (List.mem_of_getElem? (i := 906) (by decide +kernel)) (by decide +kernel)
theorem w_inst_X7_notes : Cond.instanceMethod yX7_notes ∈ gtbl := gmem (List.mem_of_getElem? (i := 908) (by decide +kernel)) (by decide +kernel)
theorem w_code_X7_notes : Cond.code yX7_notes cX7_notes 2 none ∈ gtbl := gmem (List.mem_of_getElem? (i := 909) (by decide +kernel)) (by decide +kernel)
theorem l_L_51 : Cond.methodLink RL 51 yX7_says ∈ gtbl := gmem (List.mem_of_getElem? (i := 910) (by decide +kernel)) (by decide +kernel)
theorem w_inst_X7_says : Cond.instanceMethod yX7_says ∈ gtbl := gmem (List.mem_of_getElem? (i := 911) (by decide +kernel)) (by decide +kernel)
theorem w_sel_X7_says : Cond.selects RX7 yX7_says yX7_says ∈ gtbl := gmem (List.mem_of_getElem? (i := 912) (by decide +kernel)) (by decide +kernel)
end
section
theorem w_code_X7_says : Cond.code yX7_says cX7_says 4 (some .int) ∈ gtbl := gmem (List.mem_of_getElem? (i := 913) (by decide +kernel)) (by decide +kernel)
theorem l_L_55 : Cond.methodLink RL 55 yX7_minutes ∈ gtbl := gmem (List.mem_of_getElem? (i := 914) (by decide +kernel)) (by decide +kernel)
theorem w_inst_X7_minutes : Cond.instanceMethod yX7_minutes ∈ gtbl := gmem (List.mem_of_getElem? (i := 915) (by decide +kernel)) (by decide +kernel)
theorem w_sel_X7_minutes : Cond.selects RX7 yX7_minutes yX7_minutes ∈ gtbl := gmem (List.mem_of_getElem? (i := 916) (by decide +kernel)) (by decide +kernel)
theorem w_code_X7_minutes : Cond.code yX7_minutes cX7_minutes 3 (some .int) ∈ gtbl := gmem (List.mem_of_getElem? (i := 917) (by decide +kernel)) (by decide +kernel)
theorem v_X7_223 : Cond.constantLong RX7 223 (9) ∈ gtbl := gmem (List.mem_of_getElem? (i := 918) (by decide +kernel)) (by decide +kernel)
theorem l_L_59 : Cond.methodLink RL 59 yX7_undo ∈ gtbl := gmem (List.mem_of_getElem? (i := 919) (by decide +kernel)) (by decide +kernel)
theorem w_inst_X7_undo : Cond.instanceMethod yX7_undo ∈ gtbl := gmem (List.mem_of_getElem? (i := 920) (by decide +kernel)) (by decide +kernel)
theorem w_sel_X7_undo : Cond.selects RX7 yX7_undo yX7_undo ∈ gtbl := gmem (List.mem_of_getElem? (i := 921) (by decide +kernel)) (by decide +kernel)
theorem w_code_X7_undo : Cond.code yX7_undo cX7_undo 1 (some .int) ∈ gtbl := gmem (List.mem_of_getElem? (i := 922) (by decide +kernel)) (by decide +kernel)
theorem l_L_63 : Cond.methodLink RL 63 yX7_fewest ∈ gtbl := gmem (List.mem_of_getElem? (i := 923) (by decide +kernel)) (by decide +kernel)
theorem w_inst_X7_fewest : Cond.instanceMethod yX7_fewest ∈ gtbl := gmem (List.mem_of_getElem? (i := 924) (by decide +kernel)) (by decide +kernel)
theorem w_sel_X7_fewest : Cond.selects RX7 yX7_fewest yX7_fewest ∈ gtbl := gmem (List.mem_of_getElem? (i := 925) (by decide +kernel)) (by decide +kernel)
theorem w_code_X7_fewest : Cond.code yX7_fewest cX7_fewest 5 (some .int) ∈ gtbl := gmem (List.mem_of_getElem? (i := 926) (by decide +kernel)) (by decide +kernel)
theorem l_X7_225 : Cond.methodLink RX7 225 yX7_lowest ∈ gtbl := gmem (List.mem_of_getElem? (i := 927) (by decide +kernel)) (by decide +kernel)
theorem w_stat_X7_lowest : Cond.static yX7_lowest ∈ gtbl := gmem (List.mem_of_getElem? (i := 928) (by decide +kernel)) (by decide +kernel)
theorem w_code_X7_lowest : Cond.code yX7_lowest cX7_lowest 2 (some .int) ∈ gtbl := gmem (List.mem_of_getElem? (i := 929) (by decide +kernel)) (by decide +kernel)
theorem l_L_67 : Cond.methodLink RL 67 yX7_line ∈ gtbl := gmem (List.mem_of_getElem? (i := 930) (by decide +kernel)) (by decide +kernel)
theorem w_inst_X7_line : Cond.instanceMethod yX7_line ∈ gtbl := gmem (List.mem_of_getElem? (i := 931) (by decide +kernel)) (by decide +kernel)
theorem w_sel_X7_line : Cond.selects RX7 yX7_line yX7_line ∈ gtbl := gmem (List.mem_of_getElem? (i := 932) (by decide +kernel)) (by decide +kernel)
theorem w_code_X7_line : Cond.code yX7_line cX7_line 7 (some .int) ∈ gtbl := gmem (List.mem_of_getElem? (i := 933) (by decide +kernel)) (by decide +kernel)
theorem v_X7_228 : Cond.constantLong RX7 228 (-1) ∈ gtbl := gmem (List.mem_of_getElem? (i := 934) (by decide +kernel)) (by decide +kernel)
theorem l_X7_230 : Cond.methodLink RX7 230 yX7_nextOrder ∈ gtbl := gmem (List.mem_of_getElem? (i := 935) (by decide +kernel)) (by decide +kernel)
theorem w_inst_X7_nextOrder : Cond.instanceMethod yX7_nextOrder ∈ gtbl := gmem (List.mem_of_getElem? (i := 937) (by decide +kernel)) (by decide +kernel)
theorem w_code_X7_nextOrder : Cond.code yX7_nextOrder cX7_nextOrder 7 (some .boolean) ∈ gtbl := gmem (List.mem_of_getElem? (i := 938) (by decide +kernel)) (by decide +kernel)
theorem l_L_72 : Cond.methodLink RL 72 yX7_sees ∈ gtbl := gmem (List.mem_of_getElem? (i := 939) (by decide +kernel)) (by decide +kernel)
theorem w_inst_X7_sees : Cond.instanceMethod yX7_sees ∈ gtbl := gmem (List.mem_of_getElem? (i := 940) (by decide +kernel)) (by decide +kernel)
theorem w_sel_X7_sees : Cond.selects RX7 yX7_sees yX7_sees ∈ gtbl := gmem (List.mem_of_getElem? (i := 941) (by decide +kernel)) (by decide +kernel)
theorem w_code_X7_sees : Cond.code yX7_sees cX7_sees 4 (some .int) ∈ gtbl := gmem (List.mem_of_getElem? (i := 942) (by decide +kernel)) (by decide +kernel)
theorem l_L_76 : Cond.methodLink RL 76 yX7_forget ∈ gtbl := gmem (List.mem_of_getElem? (i := 943) (by decide +kernel)) (by decide +kernel)
theorem w_inst_X7_forget : Cond.instanceMethod yX7_forget ∈ gtbl := gmem (List.mem_of_getElem? (i := 944) (by decide +kernel)) (by decide +kernel)
theorem w_sel_X7_forget : Cond.selects RX7 yX7_forget yX7_forget ∈ gtbl := gmem (List.mem_of_getElem? (i := 945) (by decide +kernel)) (by decide +kernel)
theorem w_code_X7_forget : Cond.code yX7_forget cX7_forget 2 (some .int) ∈ gtbl := gmem (List.mem_of_getElem? (i := 946) (by decide +kernel)) (by decide +kernel)
theorem l_L_80 : Cond.methodLink RL 80 yX7_had ∈ gtbl := gmem (List.mem_of_getElem? (i := 947) (by decide +kernel)) (by decide +kernel)
theorem w_inst_X7_had : Cond.instanceMethod yX7_had ∈ gtbl := gmem (List.mem_of_getElem? (i := 948) (by decide +kernel)) (by decide +kernel)
theorem w_sel_X7_had : Cond.selects RX7 yX7_had yX7_had ∈ gtbl := gmem (List.mem_of_getElem? (i := 949) (by decide +kernel)) (by decide +kernel)
theorem w_code_X7_had : Cond.code yX7_had cX7_had 6 (some .int) ∈ gtbl := gmem (List.mem_of_getElem? (i := 950) (by decide +kernel)) (by decide +kernel)
theorem v_X7_233 : Cond.constantLong RX7 233 (2) ∈ gtbl := gmem (List.mem_of_getElem? (i := 951) (by decide +kernel)) (by decide +kernel)
theorem l_X7_235 : Cond.methodLink RX7 235 yX7_canHave ∈ gtbl := gmem (List.mem_of_getElem? (i := 952) (by decide +kernel)) (by decide +kernel)
theorem w_inst_X7_canHave : Cond.instanceMethod yX7_canHave ∈ gtbl := gmem (List.mem_of_getElem? (i := 954) (by decide +kernel)) (by decide +kernel)
theorem w_code_X7_canHave : Cond.code yX7_canHave cX7_canHave 4 (some .boolean) ∈ gtbl := gmem (List.mem_of_getElem? (i := 955) (by decide +kernel)) (by decide +kernel)
theorem l_L_84 : Cond.methodLink RL 84 yX7_ask ∈ gtbl := gmem (List.mem_of_getElem? (i := 956) (by decide +kernel)) (by decide +kernel)
theorem w_inst_X7_ask : Cond.instanceMethod yX7_ask ∈ gtbl := gmem (List.mem_of_getElem? (i := 957) (by decide +kernel)) (by decide +kernel)
theorem w_sel_X7_ask : Cond.selects RX7 yX7_ask yX7_ask ∈ gtbl := gmem (List.mem_of_getElem? (i := 958) (by decide +kernel)) (by decide +kernel)
theorem w_code_X7_ask : Cond.code yX7_ask cX7_ask 8 (some .int) ∈ gtbl := gmem (List.mem_of_getElem? (i := 959) (by decide +kernel)) (by decide +kernel)
theorem l_X7_238 : Cond.methodLink RX7 238 yX7_had ∈ gtbl := gmem (List.mem_of_getElem? (i := 960) (by decide +kernel)) (by decide +kernel)
theorem l_L_88 : Cond.methodLink RL 88 yX7_tale ∈ gtbl := gmem (List.mem_of_getElem? (i := 961) (by decide +kernel)) (by decide +kernel)
theorem w_inst_X7_tale : Cond.instanceMethod yX7_tale ∈ gtbl := gmem (List.mem_of_getElem? (i := 962) (by decide +kernel)) (by decide +kernel)
theorem w_sel_X7_tale : Cond.selects RX7 yX7_tale yX7_tale ∈ gtbl := gmem (List.mem_of_getElem? (i := 963) (by decide +kernel)) (by decide +kernel)
theorem w_code_X7_tale : Cond.code yX7_tale cX7_tale 3 (some .int) ∈ gtbl := gmem (List.mem_of_getElem? (i := 964) (by decide +kernel)) (by decide +kernel)
theorem v_X7_241 : Cond.constantLong RX7 241 (99) ∈ gtbl := gmem (List.mem_of_getElem? (i := 965) (by decide +kernel)) (by decide +kernel)
theorem l_X7_243 : Cond.methodLink RX7 243 yX7_isTold ∈ gtbl := gmem (List.mem_of_getElem? (i := 966) (by decide +kernel)) (by decide +kernel)
theorem w_inst_X7_isTold : Cond.instanceMethod yX7_isTold ∈ gtbl := gmem (List.mem_of_getElem? (i := 968) (by decide +kernel)) (by decide +kernel)
theorem w_code_X7_isTold : Cond.code yX7_isTold cX7_isTold 2 (some .boolean) ∈ gtbl := gmem (List.mem_of_getElem? (i := 969) (by decide +kernel)) (by decide +kernel)
theorem l_X7_246 : Cond.methodLink RX7 246 yX7_taleOf ∈ gtbl := gmem (List.mem_of_getElem? (i := 970) (by decide +kernel)) (by decide +kernel)
theorem w_inst_X7_taleOf : Cond.instanceMethod yX7_taleOf ∈ gtbl := gmem (List.mem_of_getElem? (i := 972) (by decide +kernel)) (by decide +kernel)
theorem w_code_X7_taleOf : Cond.code yX7_taleOf cX7_taleOf 5 (some .int) ∈ gtbl := gmem (List.mem_of_getElem? (i := 973) (by decide +kernel)) (by decide +kernel)
theorem l_L_92 : Cond.methodLink RL 92 yX7_first ∈ gtbl := gmem (List.mem_of_getElem? (i := 974) (by decide +kernel)) (by decide +kernel)
theorem w_inst_X7_first : Cond.instanceMethod yX7_first ∈ gtbl := gmem (List.mem_of_getElem? (i := 975) (by decide +kernel)) (by decide +kernel)
theorem w_sel_X7_first : Cond.selects RX7 yX7_first yX7_first ∈ gtbl := gmem (List.mem_of_getElem? (i := 976) (by decide +kernel)) (by decide +kernel)
theorem w_code_X7_first : Cond.code yX7_first cX7_first 5 (some .int) ∈ gtbl := gmem (List.mem_of_getElem? (i := 977) (by decide +kernel)) (by decide +kernel)
theorem l_L_96 : Cond.methodLink RL 96 yX7_when ∈ gtbl := gmem (List.mem_of_getElem? (i := 978) (by decide +kernel)) (by decide +kernel)
theorem w_inst_X7_when : Cond.instanceMethod yX7_when ∈ gtbl := gmem (List.mem_of_getElem? (i := 979) (by decide +kernel)) (by decide +kernel)
theorem w_sel_X7_when : Cond.selects RX7 yX7_when yX7_when ∈ gtbl := gmem (List.mem_of_getElem? (i := 980) (by decide +kernel)) (by decide +kernel)
theorem w_code_X7_when : Cond.code yX7_when cX7_when 5 (some .int) ∈ gtbl := gmem (List.mem_of_getElem? (i := 981) (by decide +kernel)) (by decide +kernel)
theorem v_X7_249 : Cond.constantLong RX7 249 (30000) ∈ gtbl := gmem (List.mem_of_getElem? (i := 982) (by decide +kernel)) (by decide +kernel)
theorem l_L_101 : Cond.methodLink RL 101 yX7_odds ∈ gtbl := gmem (List.mem_of_getElem? (i := 983) (by decide +kernel)) (by decide +kernel)
theorem w_inst_X7_odds : Cond.instanceMethod yX7_odds ∈ gtbl := gmem (List.mem_of_getElem? (i := 984) (by decide +kernel)) (by decide +kernel)
theorem w_sel_X7_odds : Cond.selects RX7 yX7_odds yX7_odds ∈ gtbl := gmem (List.mem_of_getElem? (i := 985) (by decide +kernel)) (by decide +kernel)
theorem w_code_X7_odds : Cond.code yX7_odds cX7_odds 15 (some .int) ∈ gtbl := gmem (List.mem_of_getElem? (i := 986) (by decide +kernel)) (by decide +kernel)
theorem v_X7_251 : Cond.constantLong RX7 251 (10) ∈ gtbl := gmem (List.mem_of_getElem? (i := 987) (by decide +kernel)) (by decide +kernel)
theorem v_X7_253 : Cond.constantLong RX7 253 (6) ∈ gtbl := gmem (List.mem_of_getElem? (i := 988) (by decide +kernel)) (by decide +kernel)
theorem l_X7_255 : Cond.methodLink RX7 255 yX7_power ∈ gtbl := gmem (List.mem_of_getElem? (i := 989) (by decide +kernel)) (by decide +kernel)
theorem w_stat_X7_power : Cond.static yX7_power ∈ gtbl := gmem (List.mem_of_getElem? (i := 990) (by decide +kernel)) (by decide +kernel)
theorem w_code_X7_power : Cond.code yX7_power cX7_power 6 (some .long) ∈ gtbl := gmem (List.mem_of_getElem? (i := 991) (by decide +kernel)) (by decide +kernel)
theorem l_L_105 : Cond.methodLink RL 105 yX7_rate ∈ gtbl := gmem (List.mem_of_getElem? (i := 992) (by decide +kernel)) (by decide +kernel)
theorem w_inst_X7_rate : Cond.instanceMethod yX7_rate ∈ gtbl := gmem (List.mem_of_getElem? (i := 993) (by decide +kernel)) (by decide +kernel)
theorem w_sel_X7_rate : Cond.selects RX7 yX7_rate yX7_rate ∈ gtbl := gmem (List.mem_of_getElem? (i := 994) (by decide +kernel)) (by decide +kernel)
theorem w_code_X7_rate : Cond.code yX7_rate cX7_rate 3 (some .int) ∈ gtbl := gmem (List.mem_of_getElem? (i := 995) (by decide +kernel)) (by decide +kernel)
theorem v_X7_268 : Cond.constant RX7 268 (-1000000) ∈ gtbl := gmem (List.mem_of_getElem? (i := 996) (by decide +kernel)) (by decide +kernel)
theorem l_X7_263 : Cond.methodLink RX7 263 yX7_asGoer ∈ gtbl := gmem (List.mem_of_getElem? (i := 997) (by decide +kernel)) (by decide +kernel)
theorem w_inst_X7_asGoer : Cond.instanceMethod yX7_asGoer ∈ gtbl := gmem (List.mem_of_getElem? (i := 999) (by decide +kernel)) (by decide +kernel)
theorem w_code_X7_asGoer : Cond.code yX7_asGoer cX7_asGoer 2 (some .int) ∈ gtbl := gmem (List.mem_of_getElem? (i := 1000) (by decide +kernel)) (by decide +kernel)
theorem l_X7_269 : Cond.methodLink RX7 269 yX7_asGent ∈ gtbl := gmem (List.mem_of_getElem? (i := 1001) (by decide +kernel)) (by decide +kernel)
theorem w_inst_X7_asGent : Cond.instanceMethod yX7_asGent ∈ gtbl := gmem (List.mem_of_getElem? (i := 1003) (by decide +kernel)) (by decide +kernel)
theorem w_code_X7_asGent : Cond.code yX7_asGent cX7_asGent 2 (some .int) ∈ gtbl := gmem (List.mem_of_getElem? (i := 1004) (by decide +kernel)) (by decide +kernel)
theorem l_X7_272 : Cond.methodLink RX7 272 yX7_asDoctor ∈ gtbl := gmem (List.mem_of_getElem? (i := 1005) (by decide +kernel)) (by decide +kernel)
theorem w_inst_X7_asDoctor : Cond.instanceMethod yX7_asDoctor ∈ gtbl := gmem (List.mem_of_getElem? (i := 1007) (by decide +kernel)) (by decide +kernel)
theorem w_code_X7_asDoctor : Cond.code yX7_asDoctor cX7_asDoctor 2 (some .int) ∈ gtbl := gmem (List.mem_of_getElem? (i := 1008) (by decide +kernel)) (by decide +kernel)
theorem v_X7_266 : Cond.constantLong RX7 266 (100) ∈ gtbl := gmem (List.mem_of_getElem? (i := 1009) (by decide +kernel)) (by decide +kernel)
theorem v_X7_275 : Cond.constantLong RX7 275 (1000) ∈ gtbl := gmem (List.mem_of_getElem? (i := 1010) (by decide +kernel)) (by decide +kernel)
theorem v_X7_277 : Cond.constantLong RX7 277 (10000) ∈ gtbl := gmem (List.mem_of_getElem? (i := 1011) (by decide +kernel)) (by decide +kernel)
theorem v_X7_279 : Cond.constantLong RX7 279 (100000) ∈ gtbl := gmem (List.mem_of_getElem? (i := 1012) (by decide +kernel)) (by decide +kernel)
theorem l_L_109 : Cond.methodLink RL 109 yX7_keep ∈ gtbl := gmem (List.mem_of_getElem? (i := 1013) (by decide +kernel)) (by decide +kernel)
theorem w_inst_X7_keep : Cond.instanceMethod yX7_keep ∈ gtbl := gmem (List.mem_of_getElem? (i := 1014) (by decide +kernel)) (by decide +kernel)
theorem w_sel_X7_keep : Cond.selects RX7 yX7_keep yX7_keep ∈ gtbl := gmem (List.mem_of_getElem? (i := 1015) (by decide +kernel)) (by decide +kernel)
theorem w_code_X7_keep : Cond.code yX7_keep cX7_keep 2 (some .int) ∈ gtbl := gmem (List.mem_of_getElem? (i := 1016) (by decide +kernel)) (by decide +kernel)
theorem l_L_113 : Cond.methodLink RL 113 yX7_back ∈ gtbl := gmem (List.mem_of_getElem? (i := 1017) (by decide +kernel)) (by decide +kernel)
theorem w_inst_X7_back : Cond.instanceMethod yX7_back ∈ gtbl := gmem (List.mem_of_getElem? (i := 1018) (by decide +kernel)) (by decide +kernel)
theorem w_sel_X7_back : Cond.selects RX7 yX7_back yX7_back ∈ gtbl := gmem (List.mem_of_getElem? (i := 1019) (by decide +kernel)) (by decide +kernel)
theorem w_code_X7_back : Cond.code yX7_back cX7_back 2 (some .int) ∈ gtbl := gmem (List.mem_of_getElem? (i := 1020) (by decide +kernel)) (by decide +kernel)
theorem l_L_117 : Cond.methodLink RL 117 yX7_count ∈ gtbl := gmem (List.mem_of_getElem? (i := 1021) (by decide +kernel)) (by decide +kernel)
theorem w_inst_X7_count : Cond.instanceMethod yX7_count ∈ gtbl := gmem (List.mem_of_getElem? (i := 1022) (by decide +kernel)) (by decide +kernel)
theorem w_sel_X7_count : Cond.selects RX7 yX7_count yX7_count ∈ gtbl := gmem (List.mem_of_getElem? (i := 1023) (by decide +kernel)) (by decide +kernel)
theorem w_code_X7_count : Cond.code yX7_count cX7_count 2 (some .int) ∈ gtbl := gmem (List.mem_of_getElem? (i := 1024) (by decide +kernel)) (by decide +kernel)
theorem l_L_122 : Cond.methodLink RL 122 yX7_trace ∈ gtbl := gmem (List.mem_of_getElem? (i := 1025) (by decide +kernel)) (by decide +kernel)
theorem w_inst_X7_trace : Cond.instanceMethod yX7_trace ∈ gtbl := gmem (List.mem_of_getElem? (i := 1026) (by decide +kernel)) (by decide +kernel)
theorem w_sel_X7_trace : Cond.selects RX7 yX7_trace yX7_trace ∈ gtbl := gmem (List.mem_of_getElem? (i := 1027) (by decide +kernel)) (by decide +kernel)
theorem w_code_X7_trace : Cond.code yX7_trace cX7_trace 1 (some .long) ∈ gtbl := gmem (List.mem_of_getElem? (i := 1028) (by decide +kernel)) (by decide +kernel)
theorem w_sel_X5_step : Cond.selects RX5 yX5_step yX5_step ∈ gtbl := gmem (List.mem_of_getElem? (i := 0) (by decide +kernel)) (by decide +kernel)
theorem w_sel_X5_isLetter : Cond.selects RX5 yX5_isLetter yX5_isLetter ∈ gtbl := gmem (List.mem_of_getElem? (i := 1) (by decide +kernel)) (by decide +kernel)
theorem w_sel_X5_takeWord : Cond.selects RX5 yX5_takeWord yX5_takeWord ∈ gtbl := gmem (List.mem_of_getElem? (i := 2) (by decide +kernel)) (by decide +kernel)
theorem w_sel_X5_isDigit : Cond.selects RX5 yX5_isDigit yX5_isDigit ∈ gtbl := gmem (List.mem_of_getElem? (i := 3) (by decide +kernel)) (by decide +kernel)
theorem w_sel_X5_takeNumber : Cond.selects RX5 yX5_takeNumber yX5_takeNumber ∈ gtbl := gmem (List.mem_of_getElem? (i := 4) (by decide +kernel)) (by decide +kernel)
theorem w_sel_X5_readItem : Cond.selects RX5 yX5_readItem yX5_readItem ∈ gtbl := gmem (List.mem_of_getElem? (i := 5) (by decide +kernel)) (by decide +kernel)
theorem w_sel_X5_readLeaf : Cond.selects RX5 yX5_readLeaf yX5_readLeaf ∈ gtbl := gmem (List.mem_of_getElem? (i := 6) (by decide +kernel)) (by decide +kernel)
theorem w_sel_X5_readTastes : Cond.selects RX5 yX5_readTastes yX5_readTastes ∈ gtbl := gmem (List.mem_of_getElem? (i := 7) (by decide +kernel)) (by decide +kernel)
theorem w_sel_X5_isRow : Cond.selects RX5 yX5_isRow yX5_isRow ∈ gtbl := gmem (List.mem_of_getElem? (i := 8) (by decide +kernel)) (by decide +kernel)
theorem w_sel_X5_rowBits : Cond.selects RX5 yX5_rowBits yX5_rowBits ∈ gtbl := gmem (List.mem_of_getElem? (i := 9) (by decide +kernel)) (by decide +kernel)
theorem w_sel_X5_readGoer : Cond.selects RX5 yX5_readGoer yX5_readGoer ∈ gtbl := gmem (List.mem_of_getElem? (i := 10) (by decide +kernel)) (by decide +kernel)
theorem w_sel_X5_readSister : Cond.selects RX5 yX5_readSister yX5_readSister ∈ gtbl := gmem (List.mem_of_getElem? (i := 11) (by decide +kernel)) (by decide +kernel)
theorem w_sel_X5_readFriday : Cond.selects RX5 yX5_readFriday yX5_readFriday ∈ gtbl := gmem (List.mem_of_getElem? (i := 12) (by decide +kernel)) (by decide +kernel)
theorem w_sel_X5_isNumber : Cond.selects RX5 yX5_isNumber yX5_isNumber ∈ gtbl := gmem (List.mem_of_getElem? (i := 13) (by decide +kernel)) (by decide +kernel)
theorem w_sel_X5_number : Cond.selects RX5 yX5_number yX5_number ∈ gtbl := gmem (List.mem_of_getElem? (i := 14) (by decide +kernel)) (by decide +kernel)
theorem w_sel_X5_readLane : Cond.selects RX5 yX5_readLane yX5_readLane ∈ gtbl := gmem (List.mem_of_getElem? (i := 15) (by decide +kernel)) (by decide +kernel)
theorem w_sel_X0_coversAll : Cond.selects RX0 yX0_coversAll yX0_coversAll ∈ gtbl := gmem (List.mem_of_getElem? (i := 16) (by decide +kernel)) (by decide +kernel)
theorem w_sel_X2_mostBehind : Cond.selects RX2 yX2_mostBehind yX2_mostBehind ∈ gtbl := gmem (List.mem_of_getElem? (i := 17) (by decide +kernel)) (by decide +kernel)
theorem w_sel_X2_worth : Cond.selects RX2 yX2_worth yX2_worth ∈ gtbl := gmem (List.mem_of_getElem? (i := 18) (by decide +kernel)) (by decide +kernel)
theorem w_sel_X2_lowestOfBest : Cond.selects RX2 yX2_lowestOfBest yX2_lowestOfBest ∈ gtbl := gmem (List.mem_of_getElem? (i := 19) (by decide +kernel)) (by decide +kernel)
theorem w_sel_X6_setsLetBy : Cond.selects RX6 yX6_setsLetBy yX6_setsLetBy ∈ gtbl := gmem (List.mem_of_getElem? (i := 20) (by decide +kernel)) (by decide +kernel)
theorem w_sel_X0_dayOfFriday : Cond.selects RX0 yX0_dayOfFriday yX0_dayOfFriday ∈ gtbl := gmem (List.mem_of_getElem? (i := 21) (by decide +kernel)) (by decide +kernel)
theorem w_sel_X6_rateAsGoer : Cond.selects RX6 yX6_rateAsGoer yX6_rateAsGoer ∈ gtbl := gmem (List.mem_of_getElem? (i := 22) (by decide +kernel)) (by decide +kernel)
theorem w_sel_X6_rateAsGent : Cond.selects RX6 yX6_rateAsGent yX6_rateAsGent ∈ gtbl := gmem (List.mem_of_getElem? (i := 23) (by decide +kernel)) (by decide +kernel)
theorem w_sel_X6_rateAsDoctor : Cond.selects RX6 yX6_rateAsDoctor yX6_rateAsDoctor ∈ gtbl := gmem (List.mem_of_getElem? (i := 24) (by decide +kernel)) (by decide +kernel)
theorem w_sel_X6_rateAsSamples : Cond.selects RX6 yX6_rateAsSamples yX6_rateAsSamples ∈ gtbl := gmem (List.mem_of_getElem? (i := 25) (by decide +kernel)) (by decide +kernel)
theorem w_sel_X6_rateAsWife : Cond.selects RX6 yX6_rateAsWife yX6_rateAsWife ∈ gtbl := gmem (List.mem_of_getElem? (i := 26) (by decide +kernel)) (by decide +kernel)
theorem w_sel_X6_rateAsTall : Cond.selects RX6 yX6_rateAsTall yX6_rateAsTall ∈ gtbl := gmem (List.mem_of_getElem? (i := 27) (by decide +kernel)) (by decide +kernel)
theorem w_sel_X7_reads : Cond.selects RX7 yX7_reads yX7_reads ∈ gtbl := gmem (List.mem_of_getElem? (i := 28) (by decide +kernel)) (by decide +kernel)
theorem w_sel_X7_step : Cond.selects RX7 yX7_step yX7_step ∈ gtbl := gmem (List.mem_of_getElem? (i := 29) (by decide +kernel)) (by decide +kernel)
theorem w_sel_X7_here : Cond.selects RX7 yX7_here yX7_here ∈ gtbl := gmem (List.mem_of_getElem? (i := 30) (by decide +kernel)) (by decide +kernel)
theorem w_sel_X7_isLetter : Cond.selects RX7 yX7_isLetter yX7_isLetter ∈ gtbl := gmem (List.mem_of_getElem? (i := 31) (by decide +kernel)) (by decide +kernel)
theorem w_sel_X7_isFigure : Cond.selects RX7 yX7_isFigure yX7_isFigure ∈ gtbl := gmem (List.mem_of_getElem? (i := 32) (by decide +kernel)) (by decide +kernel)
theorem w_sel_X7_readsFigures : Cond.selects RX7 yX7_readsFigures yX7_readsFigures ∈ gtbl := gmem (List.mem_of_getElem? (i := 33) (by decide +kernel)) (by decide +kernel)
theorem w_sel_X7_isItem : Cond.selects RX7 yX7_isItem yX7_isItem ∈ gtbl := gmem (List.mem_of_getElem? (i := 34) (by decide +kernel)) (by decide +kernel)
theorem w_sel_X7_isLeaf : Cond.selects RX7 yX7_isLeaf yX7_isLeaf ∈ gtbl := gmem (List.mem_of_getElem? (i := 35) (by decide +kernel)) (by decide +kernel)
theorem w_sel_X7_row : Cond.selects RX7 yX7_row yX7_row ∈ gtbl := gmem (List.mem_of_getElem? (i := 36) (by decide +kernel)) (by decide +kernel)
theorem w_sel_X7_isGoer : Cond.selects RX7 yX7_isGoer yX7_isGoer ∈ gtbl := gmem (List.mem_of_getElem? (i := 37) (by decide +kernel)) (by decide +kernel)
theorem w_sel_X7_isSister : Cond.selects RX7 yX7_isSister yX7_isSister ∈ gtbl := gmem (List.mem_of_getElem? (i := 38) (by decide +kernel)) (by decide +kernel)
theorem w_sel_X7_isFriday : Cond.selects RX7 yX7_isFriday yX7_isFriday ∈ gtbl := gmem (List.mem_of_getElem? (i := 39) (by decide +kernel)) (by decide +kernel)
theorem w_sel_X7_number : Cond.selects RX7 yX7_number yX7_number ∈ gtbl := gmem (List.mem_of_getElem? (i := 40) (by decide +kernel)) (by decide +kernel)
theorem w_sel_X7_isLane : Cond.selects RX7 yX7_isLane yX7_isLane ∈ gtbl := gmem (List.mem_of_getElem? (i := 41) (by decide +kernel)) (by decide +kernel)
theorem w_sel_X7_isTheLeaf : Cond.selects RX7 yX7_isTheLeaf yX7_isTheLeaf ∈ gtbl := gmem (List.mem_of_getElem? (i := 42) (by decide +kernel)) (by decide +kernel)
theorem w_sel_X7_letsBy : Cond.selects RX7 yX7_letsBy yX7_letsBy ∈ gtbl := gmem (List.mem_of_getElem? (i := 43) (by decide +kernel)) (by decide +kernel)
theorem w_sel_X7_lets : Cond.selects RX7 yX7_lets yX7_lets ∈ gtbl := gmem (List.mem_of_getElem? (i := 44) (by decide +kernel)) (by decide +kernel)
theorem w_sel_X7_isOne : Cond.selects RX7 yX7_isOne yX7_isOne ∈ gtbl := gmem (List.mem_of_getElem? (i := 45) (by decide +kernel)) (by decide +kernel)
theorem w_sel_X7_leavesOf : Cond.selects RX7 yX7_leavesOf yX7_leavesOf ∈ gtbl := gmem (List.mem_of_getElem? (i := 46) (by decide +kernel)) (by decide +kernel)
theorem w_sel_X7_those : Cond.selects RX7 yX7_those yX7_those ∈ gtbl := gmem (List.mem_of_getElem? (i := 47) (by decide +kernel)) (by decide +kernel)
theorem w_sel_X7_cover : Cond.selects RX7 yX7_cover yX7_cover ∈ gtbl := gmem (List.mem_of_getElem? (i := 48) (by decide +kernel)) (by decide +kernel)
theorem w_sel_X7_notes : Cond.selects RX7 yX7_notes yX7_notes ∈ gtbl := gmem (List.mem_of_getElem? (i := 49) (by decide +kernel)) (by decide +kernel)
theorem w_sel_X7_nextOrder : Cond.selects RX7 yX7_nextOrder yX7_nextOrder ∈ gtbl := gmem (List.mem_of_getElem? (i := 50) (by decide +kernel)) (by decide +kernel)
theorem w_sel_X7_canHave : Cond.selects RX7 yX7_canHave yX7_canHave ∈ gtbl := gmem (List.mem_of_getElem? (i := 51) (by decide +kernel)) (by decide +kernel)
theorem w_sel_X7_isTold : Cond.selects RX7 yX7_isTold yX7_isTold ∈ gtbl := gmem (List.mem_of_getElem? (i := 52) (by decide +kernel)) (by decide +kernel)
theorem w_sel_X7_taleOf : Cond.selects RX7 yX7_taleOf yX7_taleOf ∈ gtbl := gmem (List.mem_of_getElem? (i := 53) (by decide +kernel)) (by decide +kernel)
theorem w_sel_X7_asGoer : Cond.selects RX7 yX7_asGoer yX7_asGoer ∈ gtbl := gmem (List.mem_of_getElem? (i := 54) (by decide +kernel)) (by decide +kernel)
theorem w_sel_X7_asGent : Cond.selects RX7 yX7_asGent yX7_asGent ∈ gtbl := gmem (List.mem_of_getElem? (i := 55) (by decide +kernel)) (by decide +kernel)
theorem w_sel_X7_asDoctor : Cond.selects RX7 yX7_asDoctor yX7_asDoctor ∈ gtbl := gmem (List.mem_of_getElem? (i := 56) (by decide +kernel)) (by decide +kernel)
theorem h_X0_init : MN mi_X0_init 0 := ⟨⟨w_code_X0_init, w_ini_RX0, by decide +kernel, by decide +kernel, by decide +kernel⟩, rfl, w_inst_X0_init, rfl⟩
theorem h_X0_startAnew : MV mi_X0_startAnew 0 := ⟨⟨w_code_X0_startAnew, w_ini_RX0, by decide +kernel, by decide +kernel, by decide +kernel⟩, w_inst_X0_startAnew, w_sel_X0_startAnew⟩
theorem h_X0_hasLeaf : MV mi_X0_hasLeaf 1 := ⟨⟨w_code_X0_hasLeaf, w_ini_RX0, by decide +kernel, by decide +kernel, by decide +kernel⟩, w_inst_X0_hasLeaf, w_sel_X0_hasLeaf⟩
theorem h_X0_hasGoer : MV mi_X0_hasGoer 1 := ⟨⟨w_code_X0_hasGoer, w_ini_RX0, by decide +kernel, by decide +kernel, by decide +kernel⟩, w_inst_X0_hasGoer, w_sel_X0_hasGoer⟩
theorem h_X0_counts : MV mi_X0_counts 2 := ⟨⟨w_code_X0_counts, w_ini_RX0, by decide +kernel, by decide +kernel, by decide +kernel⟩, w_inst_X0_counts, w_sel_X0_counts⟩
theorem h_X0_goodTastes : MV mi_X0_goodTastes 2 := ⟨⟨w_code_X0_goodTastes, w_ini_RX0, by decide +kernel, by decide +kernel, by decide +kernel⟩, w_inst_X0_goodTastes, w_sel_X0_goodTastes⟩
theorem h_X0_goersLetBy : MV mi_X0_goersLetBy 1 := ⟨⟨w_code_X0_goersLetBy, w_ini_RX0, by decide +kernel, by decide +kernel, by decide +kernel⟩, w_inst_X0_goersLetBy, w_sel_X0_goersLetBy⟩
theorem h_X0_leavesThatLet : MV mi_X0_leavesThatLet 1 := ⟨⟨w_code_X0_leavesThatLet, w_ini_RX0, by decide +kernel, by decide +kernel, by decide +kernel⟩, w_inst_X0_leavesThatLet, w_sel_X0_leavesThatLet⟩
theorem h_X0_leafBehind : MV mi_X0_leafBehind 2 := ⟨⟨w_code_X0_leafBehind, w_ini_RX0, by decide +kernel, by decide +kernel, by decide +kernel⟩, w_inst_X0_leafBehind, w_sel_X0_leafBehind⟩
theorem h_X0_cover : MV mi_X0_cover 0 := ⟨⟨w_code_X0_cover, w_ini_RX0, by decide +kernel, by decide +kernel, by decide +kernel⟩, w_inst_X0_cover, w_sel_X0_cover⟩
theorem h_X0_coversAll : MV mi_X0_coversAll 1 := ⟨⟨w_code_X0_coversAll, w_ini_RX0, by decide +kernel, by decide +kernel, by decide +kernel⟩, w_inst_X0_coversAll, w_sel_X0_coversAll⟩
theorem h_X0_changed : MV mi_X0_changed 2 := ⟨⟨w_code_X0_changed, w_ini_RX0, by decide +kernel, by decide +kernel, by decide +kernel⟩, w_inst_X0_changed, w_sel_X0_changed⟩
theorem h_X0_passedOn : MV mi_X0_passedOn 2 := ⟨⟨w_code_X0_passedOn, w_ini_RX0, by decide +kernel, by decide +kernel, by decide +kernel⟩, w_inst_X0_passedOn, w_sel_X0_passedOn⟩
theorem h_X0_dayOfAllFridays : MV mi_X0_dayOfAllFridays 1 := ⟨⟨w_code_X0_dayOfAllFridays, w_ini_RX0, by decide +kernel, by decide +kernel, by decide +kernel⟩, w_inst_X0_dayOfAllFridays, w_sel_X0_dayOfAllFridays⟩
theorem h_X0_dayOfFriday : MV mi_X0_dayOfFriday 3 := ⟨⟨w_code_X0_dayOfFriday, w_ini_RX0, by decide +kernel, by decide +kernel, by decide +kernel⟩, w_inst_X0_dayOfFriday, w_sel_X0_dayOfFriday⟩
theorem h_X1_init : MN mi_X1_init 0 := ⟨⟨w_code_X1_init, w_ini_RX1, by decide +kernel, by decide +kernel, by decide +kernel⟩, rfl, w_inst_X1_init, rfl⟩
theorem h_X1_remember : MV mi_X1_remember 1 := ⟨⟨w_code_X1_remember, w_ini_RX1, by decide +kernel, by decide +kernel, by decide +kernel⟩, w_inst_X1_remember, w_sel_X1_remember⟩
theorem h_X1_recall : MV mi_X1_recall 1 := ⟨⟨w_code_X1_recall, w_ini_RX1, by decide +kernel, by decide +kernel, by decide +kernel⟩, w_inst_X1_recall, w_sel_X1_recall⟩
theorem h_X2_init : MN mi_X2_init 0 := ⟨⟨w_code_X2_init, w_ini_RX2, by decide +kernel, by decide +kernel, by decide +kernel⟩, rfl, w_inst_X2_init, rfl⟩
theorem h_X2_weigh : MV mi_X2_weigh 2 := ⟨⟨w_code_X2_weigh, w_ini_RX2, by decide +kernel, by decide +kernel, by decide +kernel⟩, w_inst_X2_weigh, w_sel_X2_weigh⟩
theorem h_X2_mostBehind : MV mi_X2_mostBehind 4 := ⟨⟨w_code_X2_mostBehind, w_ini_RX2, by decide +kernel, by decide +kernel, by decide +kernel⟩, w_inst_X2_mostBehind, w_sel_X2_mostBehind⟩
theorem h_X2_worth : MV mi_X2_worth 4 := ⟨⟨w_code_X2_worth, w_ini_RX2, by decide +kernel, by decide +kernel, by decide +kernel⟩, w_inst_X2_worth, w_sel_X2_worth⟩
theorem h_X2_goerAt : MV mi_X2_goerAt 3 := ⟨⟨w_code_X2_goerAt, w_ini_RX2, by decide +kernel, by decide +kernel, by decide +kernel⟩, w_inst_X2_goerAt, w_sel_X2_goerAt⟩
theorem h_X2_lowestOfBest : MV mi_X2_lowestOfBest 4 := ⟨⟨w_code_X2_lowestOfBest, w_ini_RX2, by decide +kernel, by decide +kernel, by decide +kernel⟩, w_inst_X2_lowestOfBest, w_sel_X2_lowestOfBest⟩
theorem h_X3_init : MN mi_X3_init 0 := ⟨⟨w_code_X3_init, w_ini_RX3, by decide +kernel, by decide +kernel, by decide +kernel⟩, rfl, w_inst_X3_init, rfl⟩
theorem h_X3_startAnew : MV mi_X3_startAnew 0 := ⟨⟨w_code_X3_startAnew, w_ini_RX3, by decide +kernel, by decide +kernel, by decide +kernel⟩, w_inst_X3_startAnew, w_sel_X3_startAnew⟩
theorem h_X3_become : MV mi_X3_become 1 := ⟨⟨w_code_X3_become, w_ini_RX3, by decide +kernel, by decide +kernel, by decide +kernel⟩, w_inst_X3_become, w_sel_X3_become⟩
theorem h_X3_whoAre : MV mi_X3_whoAre 1 := ⟨⟨w_code_X3_whoAre, w_ini_RX3, by decide +kernel, by decide +kernel, by decide +kernel⟩, w_inst_X3_whoAre, w_sel_X3_whoAre⟩
theorem h_X3_sendRound : MV mi_X3_sendRound 2 := ⟨⟨w_code_X3_sendRound, w_ini_RX3, by decide +kernel, by decide +kernel, by decide +kernel⟩, w_inst_X3_sendRound, w_sel_X3_sendRound⟩
theorem h_X3_pass : MV mi_X3_pass 1 := ⟨⟨w_code_X3_pass, w_ini_RX3, by decide +kernel, by decide +kernel, by decide +kernel⟩, w_inst_X3_pass, w_sel_X3_pass⟩
theorem h_X4_init : MN mi_X4_init 0 := ⟨⟨w_code_X4_init, w_ini_RX4, by decide +kernel, by decide +kernel, by decide +kernel⟩, rfl, w_inst_X4_init, rfl⟩
theorem h_X4_add : MV mi_X4_add 3 := ⟨⟨w_code_X4_add, w_ini_RX4, by decide +kernel, by decide +kernel, by decide +kernel⟩, w_inst_X4_add, w_sel_X4_add⟩
theorem h_X4_allows : MV mi_X4_allows 2 := ⟨⟨w_code_X4_allows, w_ini_RX4, by decide +kernel, by decide +kernel, by decide +kernel⟩, w_inst_X4_allows, w_sel_X4_allows⟩
theorem h_X5_init : MN mi_X5_init 0 := ⟨⟨w_code_X5_init, w_ini_RX5, by decide +kernel, by decide +kernel, by decide +kernel⟩, rfl, w_inst_X5_init, rfl⟩
theorem h_X5_readInto : MV mi_X5_readInto 1 := ⟨⟨w_code_X5_readInto, w_ini_RX5, by decide +kernel, by decide +kernel, by decide +kernel⟩, w_inst_X5_readInto, w_sel_X5_readInto⟩
theorem h_X5_readItem : MV mi_X5_readItem 1 := ⟨⟨w_code_X5_readItem, w_ini_RX5, by decide +kernel, by decide +kernel, by decide +kernel⟩, w_inst_X5_readItem, w_sel_X5_readItem⟩
theorem h_X5_readLeaf : MV mi_X5_readLeaf 1 := ⟨⟨w_code_X5_readLeaf, w_ini_RX5, by decide +kernel, by decide +kernel, by decide +kernel⟩, w_inst_X5_readLeaf, w_sel_X5_readLeaf⟩
theorem h_X5_readGoer : MV mi_X5_readGoer 1 := ⟨⟨w_code_X5_readGoer, w_ini_RX5, by decide +kernel, by decide +kernel, by decide +kernel⟩, w_inst_X5_readGoer, w_sel_X5_readGoer⟩
theorem h_X5_readTastes : MV mi_X5_readTastes 2 := ⟨⟨w_code_X5_readTastes, w_ini_RX5, by decide +kernel, by decide +kernel, by decide +kernel⟩, w_inst_X5_readTastes, w_sel_X5_readTastes⟩
theorem h_X5_readSister : MV mi_X5_readSister 1 := ⟨⟨w_code_X5_readSister, w_ini_RX5, by decide +kernel, by decide +kernel, by decide +kernel⟩, w_inst_X5_readSister, w_sel_X5_readSister⟩
theorem h_X5_readFriday : MV mi_X5_readFriday 1 := ⟨⟨w_code_X5_readFriday, w_ini_RX5, by decide +kernel, by decide +kernel, by decide +kernel⟩, w_inst_X5_readFriday, w_sel_X5_readFriday⟩
theorem h_X5_readLane : MV mi_X5_readLane 1 := ⟨⟨w_code_X5_readLane, w_ini_RX5, by decide +kernel, by decide +kernel, by decide +kernel⟩, w_inst_X5_readLane, w_sel_X5_readLane⟩
theorem h_X5_isRow : MV mi_X5_isRow 1 := ⟨⟨w_code_X5_isRow, w_ini_RX5, by decide +kernel, by decide +kernel, by decide +kernel⟩, w_inst_X5_isRow, w_sel_X5_isRow⟩
theorem h_X5_rowBits : MV mi_X5_rowBits 0 := ⟨⟨w_code_X5_rowBits, w_ini_RX5, by decide +kernel, by decide +kernel, by decide +kernel⟩, w_inst_X5_rowBits, w_sel_X5_rowBits⟩
theorem h_X5_isNumber : MV mi_X5_isNumber 2 := ⟨⟨w_code_X5_isNumber, w_ini_RX5, by decide +kernel, by decide +kernel, by decide +kernel⟩, w_inst_X5_isNumber, w_sel_X5_isNumber⟩
theorem h_X5_number : MV mi_X5_number 0 := ⟨⟨w_code_X5_number, w_ini_RX5, by decide +kernel, by decide +kernel, by decide +kernel⟩, w_inst_X5_number, w_sel_X5_number⟩
theorem h_X5_step : MV mi_X5_step 0 := ⟨⟨w_code_X5_step, w_ini_RX5, by decide +kernel, by decide +kernel, by decide +kernel⟩, w_inst_X5_step, w_sel_X5_step⟩
theorem h_X5_takeWord : MV mi_X5_takeWord 0 := ⟨⟨w_code_X5_takeWord, w_ini_RX5, by decide +kernel, by decide +kernel, by decide +kernel⟩, w_inst_X5_takeWord, w_sel_X5_takeWord⟩
theorem h_X5_takeNumber : MV mi_X5_takeNumber 0 := ⟨⟨w_code_X5_takeNumber, w_ini_RX5, by decide +kernel, by decide +kernel, by decide +kernel⟩, w_inst_X5_takeNumber, w_sel_X5_takeNumber⟩
theorem h_X5_isLetter : MV mi_X5_isLetter 1 := ⟨⟨w_code_X5_isLetter, w_ini_RX5, by decide +kernel, by decide +kernel, by decide +kernel⟩, w_inst_X5_isLetter, w_sel_X5_isLetter⟩
theorem h_X5_isDigit : MV mi_X5_isDigit 1 := ⟨⟨w_code_X5_isDigit, w_ini_RX5, by decide +kernel, by decide +kernel, by decide +kernel⟩, w_inst_X5_isDigit, w_sel_X5_isDigit⟩
theorem h_X6_init : MN mi_X6_init 0 := ⟨⟨w_code_X6_init, w_ini_RX6, by decide +kernel, by decide +kernel, by decide +kernel⟩, rfl, w_inst_X6_init, rfl⟩
theorem h_X6_type : MV mi_X6_type 1 := ⟨⟨w_code_X6_type, w_ini_RX6, by decide +kernel, by decide +kernel, by decide +kernel⟩, w_inst_X6_type, w_sel_X6_type⟩
theorem h_X6_clear : MV mi_X6_clear 0 := ⟨⟨w_code_X6_clear, w_ini_RX6, by decide +kernel, by decide +kernel, by decide +kernel⟩, w_inst_X6_clear, w_sel_X6_clear⟩
theorem h_X6_court : MV mi_X6_court 0 := ⟨⟨w_code_X6_court, w_ini_RX6, by decide +kernel, by decide +kernel, by decide +kernel⟩, w_inst_X6_court, w_sel_X6_court⟩
theorem h_X6_leaf : MV mi_X6_leaf 2 := ⟨⟨w_code_X6_leaf, w_ini_RX6, by decide +kernel, by decide +kernel, by decide +kernel⟩, w_inst_X6_leaf, w_sel_X6_leaf⟩
theorem h_X6_goer : MV mi_X6_goer 2 := ⟨⟨w_code_X6_goer, w_ini_RX6, by decide +kernel, by decide +kernel, by decide +kernel⟩, w_inst_X6_goer, w_sel_X6_goer⟩
theorem h_X6_sister : MV mi_X6_sister 2 := ⟨⟨w_code_X6_sister, w_ini_RX6, by decide +kernel, by decide +kernel, by decide +kernel⟩, w_inst_X6_sister, w_sel_X6_sister⟩
theorem h_X6_now : MV mi_X6_now 1 := ⟨⟨w_code_X6_now, w_ini_RX6, by decide +kernel, by decide +kernel, by decide +kernel⟩, w_inst_X6_now, w_sel_X6_now⟩
theorem h_X6_comes : MV mi_X6_comes 1 := ⟨⟨w_code_X6_comes, w_ini_RX6, by decide +kernel, by decide +kernel, by decide +kernel⟩, w_inst_X6_comes, w_sel_X6_comes⟩
theorem h_X6_says : MV mi_X6_says 2 := ⟨⟨w_code_X6_says, w_ini_RX6, by decide +kernel, by decide +kernel, by decide +kernel⟩, w_inst_X6_says, w_sel_X6_says⟩
theorem h_X6_minutes : MV mi_X6_minutes 1 := ⟨⟨w_code_X6_minutes, w_ini_RX6, by decide +kernel, by decide +kernel, by decide +kernel⟩, w_inst_X6_minutes, w_sel_X6_minutes⟩
theorem h_X6_undo : MV mi_X6_undo 0 := ⟨⟨w_code_X6_undo, w_ini_RX6, by decide +kernel, by decide +kernel, by decide +kernel⟩, w_inst_X6_undo, w_sel_X6_undo⟩
theorem h_X6_fewest : MV mi_X6_fewest 2 := ⟨⟨w_code_X6_fewest, w_ini_RX6, by decide +kernel, by decide +kernel, by decide +kernel⟩, w_inst_X6_fewest, w_sel_X6_fewest⟩
theorem h_X6_line : MV mi_X6_line 1 := ⟨⟨w_code_X6_line, w_ini_RX6, by decide +kernel, by decide +kernel, by decide +kernel⟩, w_inst_X6_line, w_sel_X6_line⟩
theorem h_X6_sees : MV mi_X6_sees 3 := ⟨⟨w_code_X6_sees, w_ini_RX6, by decide +kernel, by decide +kernel, by decide +kernel⟩, w_inst_X6_sees, w_sel_X6_sees⟩
theorem h_X6_forget : MV mi_X6_forget 0 := ⟨⟨w_code_X6_forget, w_ini_RX6, by decide +kernel, by decide +kernel, by decide +kernel⟩, w_inst_X6_forget, w_sel_X6_forget⟩
theorem h_X6_had : MV mi_X6_had 1 := ⟨⟨w_code_X6_had, w_ini_RX6, by decide +kernel, by decide +kernel, by decide +kernel⟩, w_inst_X6_had, w_sel_X6_had⟩
theorem h_X6_ask : MV mi_X6_ask 1 := ⟨⟨w_code_X6_ask, w_ini_RX6, by decide +kernel, by decide +kernel, by decide +kernel⟩, w_inst_X6_ask, w_sel_X6_ask⟩
theorem h_X6_setsLetBy : MV mi_X6_setsLetBy 2 := ⟨⟨w_code_X6_setsLetBy, w_ini_RX6, by decide +kernel, by decide +kernel, by decide +kernel⟩, w_inst_X6_setsLetBy, w_sel_X6_setsLetBy⟩
theorem h_X6_tale : MV mi_X6_tale 2 := ⟨⟨w_code_X6_tale, w_ini_RX6, by decide +kernel, by decide +kernel, by decide +kernel⟩, w_inst_X6_tale, w_sel_X6_tale⟩
theorem h_X6_first : MV mi_X6_first 2 := ⟨⟨w_code_X6_first, w_ini_RX6, by decide +kernel, by decide +kernel, by decide +kernel⟩, w_inst_X6_first, w_sel_X6_first⟩
theorem h_X6_when : MV mi_X6_when 1 := ⟨⟨w_code_X6_when, w_ini_RX6, by decide +kernel, by decide +kernel, by decide +kernel⟩, w_inst_X6_when, w_sel_X6_when⟩
theorem h_X6_odds : MV mi_X6_odds 4 := ⟨⟨w_code_X6_odds, w_ini_RX6, by decide +kernel, by decide +kernel, by decide +kernel⟩, w_inst_X6_odds, w_sel_X6_odds⟩
theorem h_X6_rate : MV mi_X6_rate 2 := ⟨⟨w_code_X6_rate, w_ini_RX6, by decide +kernel, by decide +kernel, by decide +kernel⟩, w_inst_X6_rate, w_sel_X6_rate⟩
theorem h_X6_rateAsGoer : MV mi_X6_rateAsGoer 1 := ⟨⟨w_code_X6_rateAsGoer, w_ini_RX6, by decide +kernel, by decide +kernel, by decide +kernel⟩, w_inst_X6_rateAsGoer, w_sel_X6_rateAsGoer⟩
theorem h_X6_rateAsGent : MV mi_X6_rateAsGent 1 := ⟨⟨w_code_X6_rateAsGent, w_ini_RX6, by decide +kernel, by decide +kernel, by decide +kernel⟩, w_inst_X6_rateAsGent, w_sel_X6_rateAsGent⟩
theorem h_X6_rateAsDoctor : MV mi_X6_rateAsDoctor 1 := ⟨⟨w_code_X6_rateAsDoctor, w_ini_RX6, by decide +kernel, by decide +kernel, by decide +kernel⟩, w_inst_X6_rateAsDoctor, w_sel_X6_rateAsDoctor⟩
theorem h_X6_rateAsSamples : MV mi_X6_rateAsSamples 1 := ⟨⟨w_code_X6_rateAsSamples, w_ini_RX6, by decide +kernel, by decide +kernel, by decide +kernel⟩, w_inst_X6_rateAsSamples, w_sel_X6_rateAsSamples⟩
theorem h_X6_rateAsWife : MV mi_X6_rateAsWife 1 := ⟨⟨w_code_X6_rateAsWife, w_ini_RX6, by decide +kernel, by decide +kernel, by decide +kernel⟩, w_inst_X6_rateAsWife, w_sel_X6_rateAsWife⟩
theorem h_X6_rateAsTall : MV mi_X6_rateAsTall 1 := ⟨⟨w_code_X6_rateAsTall, w_ini_RX6, by decide +kernel, by decide +kernel, by decide +kernel⟩, w_inst_X6_rateAsTall, w_sel_X6_rateAsTall⟩
theorem h_X6_keep : MV mi_X6_keep 1 := ⟨⟨w_code_X6_keep, w_ini_RX6, by decide +kernel, by decide +kernel, by decide +kernel⟩, w_inst_X6_keep, w_sel_X6_keep⟩
theorem h_X6_back : MV mi_X6_back 1 := ⟨⟨w_code_X6_back, w_ini_RX6, by decide +kernel, by decide +kernel, by decide +kernel⟩, w_inst_X6_back, w_sel_X6_back⟩
theorem h_X6_count : MV mi_X6_count 1 := ⟨⟨w_code_X6_count, w_ini_RX6, by decide +kernel, by decide +kernel, by decide +kernel⟩, w_inst_X6_count, w_sel_X6_count⟩
theorem h_X6_trace : MV mi_X6_trace 0 := ⟨⟨w_code_X6_trace, w_ini_RX6, by decide +kernel, by decide +kernel, by decide +kernel⟩, w_inst_X6_trace, w_sel_X6_trace⟩
theorem h_X6_isTaste : MS mi_X6_isTaste 1 := ⟨⟨w_code_X6_isTaste, w_ini_RX6, by decide +kernel, by decide +kernel, by decide +kernel⟩, w_stat_X6_isTaste⟩
theorem h_X6_hasBit : MS mi_X6_hasBit 2 := ⟨⟨w_code_X6_hasBit, w_ini_RX6, by decide +kernel, by decide +kernel, by decide +kernel⟩, w_stat_X6_hasBit⟩
theorem h_X6_lowestBit : MS mi_X6_lowestBit 1 := ⟨⟨w_code_X6_lowestBit, w_ini_RX6, by decide +kernel, by decide +kernel, by decide +kernel⟩, w_stat_X6_lowestBit⟩
theorem h_X6_power : MS mi_X6_power 2 := ⟨⟨w_code_X6_power, w_ini_RX6, by decide +kernel, by decide +kernel, by decide +kernel⟩, w_stat_X6_power⟩
theorem h_X6_choices : MS mi_X6_choices 2 := ⟨⟨w_code_X6_choices, w_ini_RX6, by decide +kernel, by decide +kernel, by decide +kernel⟩, w_stat_X6_choices⟩
theorem h_X6_greatestDivisor : MS mi_X6_greatestDivisor 2 := ⟨⟨w_code_X6_greatestDivisor, w_ini_RX6, by decide +kernel, by decide +kernel, by decide +kernel⟩, w_stat_X6_greatestDivisor⟩
theorem h_X7_init : MN mi_X7_init 0 := ⟨⟨w_code_X7_init, w_ini_RX7, by decide +kernel, by decide +kernel, by decide +kernel⟩, rfl, w_inst_X7_init, rfl⟩
theorem h_X7_in : MS mi_X7_in 3 := ⟨⟨w_code_X7_in, w_ini_RX7, by decide +kernel, by decide +kernel, by decide +kernel⟩, w_stat_X7_in⟩
theorem h_X7_has : MS mi_X7_has 2 := ⟨⟨w_code_X7_has, w_ini_RX7, by decide +kernel, by decide +kernel, by decide +kernel⟩, w_stat_X7_has⟩
theorem h_X7_bits : MS mi_X7_bits 1 := ⟨⟨w_code_X7_bits, w_ini_RX7, by decide +kernel, by decide +kernel, by decide +kernel⟩, w_stat_X7_bits⟩
theorem h_X7_lowest : MS mi_X7_lowest 1 := ⟨⟨w_code_X7_lowest, w_ini_RX7, by decide +kernel, by decide +kernel, by decide +kernel⟩, w_stat_X7_lowest⟩
theorem h_X7_copies : MS mi_X7_copies 5 := ⟨⟨w_code_X7_copies, w_ini_RX7, by decide +kernel, by decide +kernel, by decide +kernel⟩, w_stat_X7_copies⟩
theorem h_X7_type : MV mi_X7_type 1 := ⟨⟨w_code_X7_type, w_ini_RX7, by decide +kernel, by decide +kernel, by decide +kernel⟩, w_inst_X7_type, w_sel_X7_type⟩
theorem h_X7_clear : MV mi_X7_clear 0 := ⟨⟨w_code_X7_clear, w_ini_RX7, by decide +kernel, by decide +kernel, by decide +kernel⟩, w_inst_X7_clear, w_sel_X7_clear⟩
theorem h_X7_here : MV mi_X7_here 0 := ⟨⟨w_code_X7_here, w_ini_RX7, by decide +kernel, by decide +kernel, by decide +kernel⟩, w_inst_X7_here, w_sel_X7_here⟩
theorem h_X7_isLetter : MV mi_X7_isLetter 0 := ⟨⟨w_code_X7_isLetter, w_ini_RX7, by decide +kernel, by decide +kernel, by decide +kernel⟩, w_inst_X7_isLetter, w_sel_X7_isLetter⟩
theorem h_X7_isFigure : MV mi_X7_isFigure 0 := ⟨⟨w_code_X7_isFigure, w_ini_RX7, by decide +kernel, by decide +kernel, by decide +kernel⟩, w_inst_X7_isFigure, w_sel_X7_isFigure⟩
theorem h_X7_step : MV mi_X7_step 0 := ⟨⟨w_code_X7_step, w_ini_RX7, by decide +kernel, by decide +kernel, by decide +kernel⟩, w_inst_X7_step, w_sel_X7_step⟩
theorem h_X7_readsFigures : MV mi_X7_readsFigures 0 := ⟨⟨w_code_X7_readsFigures, w_ini_RX7, by decide +kernel, by decide +kernel, by decide +kernel⟩, w_inst_X7_readsFigures, w_sel_X7_readsFigures⟩
theorem h_X7_number : MV mi_X7_number 2 := ⟨⟨w_code_X7_number, w_ini_RX7, by decide +kernel, by decide +kernel, by decide +kernel⟩, w_inst_X7_number, w_sel_X7_number⟩
theorem h_X7_row : MV mi_X7_row 2 := ⟨⟨w_code_X7_row, w_ini_RX7, by decide +kernel, by decide +kernel, by decide +kernel⟩, w_inst_X7_row, w_sel_X7_row⟩
theorem h_X7_isLeaf : MV mi_X7_isLeaf 0 := ⟨⟨w_code_X7_isLeaf, w_ini_RX7, by decide +kernel, by decide +kernel, by decide +kernel⟩, w_inst_X7_isLeaf, w_sel_X7_isLeaf⟩
theorem h_X7_isGoer : MV mi_X7_isGoer 0 := ⟨⟨w_code_X7_isGoer, w_ini_RX7, by decide +kernel, by decide +kernel, by decide +kernel⟩, w_inst_X7_isGoer, w_sel_X7_isGoer⟩
theorem h_X7_isSister : MV mi_X7_isSister 0 := ⟨⟨w_code_X7_isSister, w_ini_RX7, by decide +kernel, by decide +kernel, by decide +kernel⟩, w_inst_X7_isSister, w_sel_X7_isSister⟩
theorem h_X7_isFriday : MV mi_X7_isFriday 0 := ⟨⟨w_code_X7_isFriday, w_ini_RX7, by decide +kernel, by decide +kernel, by decide +kernel⟩, w_inst_X7_isFriday, w_sel_X7_isFriday⟩
theorem h_X7_isLane : MV mi_X7_isLane 0 := ⟨⟨w_code_X7_isLane, w_ini_RX7, by decide +kernel, by decide +kernel, by decide +kernel⟩, w_inst_X7_isLane, w_sel_X7_isLane⟩
theorem h_X7_isItem : MV mi_X7_isItem 0 := ⟨⟨w_code_X7_isItem, w_ini_RX7, by decide +kernel, by decide +kernel, by decide +kernel⟩, w_inst_X7_isItem, w_sel_X7_isItem⟩
theorem h_X7_reads : MV mi_X7_reads 0 := ⟨⟨w_code_X7_reads, w_ini_RX7, by decide +kernel, by decide +kernel, by decide +kernel⟩, w_inst_X7_reads, w_sel_X7_reads⟩
theorem h_X7_court : MV mi_X7_court 0 := ⟨⟨w_code_X7_court, w_ini_RX7, by decide +kernel, by decide +kernel, by decide +kernel⟩, w_inst_X7_court, w_sel_X7_court⟩
theorem h_X7_isTheLeaf : MV mi_X7_isTheLeaf 1 := ⟨⟨w_code_X7_isTheLeaf, w_ini_RX7, by decide +kernel, by decide +kernel, by decide +kernel⟩, w_inst_X7_isTheLeaf, w_sel_X7_isTheLeaf⟩
theorem h_X7_isOne : MV mi_X7_isOne 1 := ⟨⟨w_code_X7_isOne, w_ini_RX7, by decide +kernel, by decide +kernel, by decide +kernel⟩, w_inst_X7_isOne, w_sel_X7_isOne⟩
theorem h_X7_isTaste : MS mi_X7_isTaste 1 := ⟨⟨w_code_X7_isTaste, w_ini_RX7, by decide +kernel, by decide +kernel, by decide +kernel⟩, w_stat_X7_isTaste⟩
theorem h_X7_isBit : MS mi_X7_isBit 1 := ⟨⟨w_code_X7_isBit, w_ini_RX7, by decide +kernel, by decide +kernel, by decide +kernel⟩, w_stat_X7_isBit⟩
theorem h_X7_lets : MV mi_X7_lets 2 := ⟨⟨w_code_X7_lets, w_ini_RX7, by decide +kernel, by decide +kernel, by decide +kernel⟩, w_inst_X7_lets, w_sel_X7_lets⟩
theorem h_X7_letsBy : MV mi_X7_letsBy 1 := ⟨⟨w_code_X7_letsBy, w_ini_RX7, by decide +kernel, by decide +kernel, by decide +kernel⟩, w_inst_X7_letsBy, w_sel_X7_letsBy⟩
theorem h_X7_leavesOf : MV mi_X7_leavesOf 1 := ⟨⟨w_code_X7_leavesOf, w_ini_RX7, by decide +kernel, by decide +kernel, by decide +kernel⟩, w_inst_X7_leavesOf, w_sel_X7_leavesOf⟩
theorem h_X7_those : MV mi_X7_those 1 := ⟨⟨w_code_X7_those, w_ini_RX7, by decide +kernel, by decide +kernel, by decide +kernel⟩, w_inst_X7_those, w_sel_X7_those⟩
theorem h_X7_cover : MV mi_X7_cover 0 := ⟨⟨w_code_X7_cover, w_ini_RX7, by decide +kernel, by decide +kernel, by decide +kernel⟩, w_inst_X7_cover, w_sel_X7_cover⟩
theorem h_X7_leaf : MV mi_X7_leaf 2 := ⟨⟨w_code_X7_leaf, w_ini_RX7, by decide +kernel, by decide +kernel, by decide +kernel⟩, w_inst_X7_leaf, w_sel_X7_leaf⟩
theorem h_X7_goer : MV mi_X7_goer 2 := ⟨⟨w_code_X7_goer, w_ini_RX7, by decide +kernel, by decide +kernel, by decide +kernel⟩, w_inst_X7_goer, w_sel_X7_goer⟩
theorem h_X7_sister : MV mi_X7_sister 2 := ⟨⟨w_code_X7_sister, w_ini_RX7, by decide +kernel, by decide +kernel, by decide +kernel⟩, w_inst_X7_sister, w_sel_X7_sister⟩
theorem h_X7_now : MV mi_X7_now 1 := ⟨⟨w_code_X7_now, w_ini_RX7, by decide +kernel, by decide +kernel, by decide +kernel⟩, w_inst_X7_now, w_sel_X7_now⟩
theorem h_X7_notes : MV mi_X7_notes 0 := ⟨⟨w_code_X7_notes, w_ini_RX7, by decide +kernel, by decide +kernel, by decide +kernel⟩, w_inst_X7_notes, w_sel_X7_notes⟩
theorem h_X7_comes : MV mi_X7_comes 1 := ⟨⟨w_code_X7_comes, w_ini_RX7, by decide +kernel, by decide +kernel, by decide +kernel⟩, w_inst_X7_comes, w_sel_X7_comes⟩
theorem h_X7_says : MV mi_X7_says 2 := ⟨⟨w_code_X7_says, w_ini_RX7, by decide +kernel, by decide +kernel, by decide +kernel⟩, w_inst_X7_says, w_sel_X7_says⟩
theorem h_X7_minutes : MV mi_X7_minutes 1 := ⟨⟨w_code_X7_minutes, w_ini_RX7, by decide +kernel, by decide +kernel, by decide +kernel⟩, w_inst_X7_minutes, w_sel_X7_minutes⟩
theorem h_X7_undo : MV mi_X7_undo 0 := ⟨⟨w_code_X7_undo, w_ini_RX7, by decide +kernel, by decide +kernel, by decide +kernel⟩, w_inst_X7_undo, w_sel_X7_undo⟩
theorem h_X7_fewest : MV mi_X7_fewest 2 := ⟨⟨w_code_X7_fewest, w_ini_RX7, by decide +kernel, by decide +kernel, by decide +kernel⟩, w_inst_X7_fewest, w_sel_X7_fewest⟩
theorem h_X7_nextOrder : MV mi_X7_nextOrder 1 := ⟨⟨w_code_X7_nextOrder, w_ini_RX7, by decide +kernel, by decide +kernel, by decide +kernel⟩, w_inst_X7_nextOrder, w_sel_X7_nextOrder⟩
theorem h_X7_line : MV mi_X7_line 1 := ⟨⟨w_code_X7_line, w_ini_RX7, by decide +kernel, by decide +kernel, by decide +kernel⟩, w_inst_X7_line, w_sel_X7_line⟩
theorem h_X7_sees : MV mi_X7_sees 3 := ⟨⟨w_code_X7_sees, w_ini_RX7, by decide +kernel, by decide +kernel, by decide +kernel⟩, w_inst_X7_sees, w_sel_X7_sees⟩
theorem h_X7_forget : MV mi_X7_forget 0 := ⟨⟨w_code_X7_forget, w_ini_RX7, by decide +kernel, by decide +kernel, by decide +kernel⟩, w_inst_X7_forget, w_sel_X7_forget⟩
theorem h_X7_canHave : MV mi_X7_canHave 1 := ⟨⟨w_code_X7_canHave, w_ini_RX7, by decide +kernel, by decide +kernel, by decide +kernel⟩, w_inst_X7_canHave, w_sel_X7_canHave⟩
theorem h_X7_had : MV mi_X7_had 1 := ⟨⟨w_code_X7_had, w_ini_RX7, by decide +kernel, by decide +kernel, by decide +kernel⟩, w_inst_X7_had, w_sel_X7_had⟩
theorem h_X7_ask : MV mi_X7_ask 1 := ⟨⟨w_code_X7_ask, w_ini_RX7, by decide +kernel, by decide +kernel, by decide +kernel⟩, w_inst_X7_ask, w_sel_X7_ask⟩
theorem h_X7_taleOf : MV mi_X7_taleOf 2 := ⟨⟨w_code_X7_taleOf, w_ini_RX7, by decide +kernel, by decide +kernel, by decide +kernel⟩, w_inst_X7_taleOf, w_sel_X7_taleOf⟩
theorem h_X7_isTold : MV mi_X7_isTold 1 := ⟨⟨w_code_X7_isTold, w_ini_RX7, by decide +kernel, by decide +kernel, by decide +kernel⟩, w_inst_X7_isTold, w_sel_X7_isTold⟩
theorem h_X7_tale : MV mi_X7_tale 2 := ⟨⟨w_code_X7_tale, w_ini_RX7, by decide +kernel, by decide +kernel, by decide +kernel⟩, w_inst_X7_tale, w_sel_X7_tale⟩
theorem h_X7_first : MV mi_X7_first 2 := ⟨⟨w_code_X7_first, w_ini_RX7, by decide +kernel, by decide +kernel, by decide +kernel⟩, w_inst_X7_first, w_sel_X7_first⟩
theorem h_X7_when : MV mi_X7_when 1 := ⟨⟨w_code_X7_when, w_ini_RX7, by decide +kernel, by decide +kernel, by decide +kernel⟩, w_inst_X7_when, w_sel_X7_when⟩
theorem h_X7_power : MS mi_X7_power 2 := ⟨⟨w_code_X7_power, w_ini_RX7, by decide +kernel, by decide +kernel, by decide +kernel⟩, w_stat_X7_power⟩
theorem h_X7_odds : MV mi_X7_odds 4 := ⟨⟨w_code_X7_odds, w_ini_RX7, by decide +kernel, by decide +kernel, by decide +kernel⟩, w_inst_X7_odds, w_sel_X7_odds⟩
theorem h_X7_asGoer : MV mi_X7_asGoer 1 := ⟨⟨w_code_X7_asGoer, w_ini_RX7, by decide +kernel, by decide +kernel, by decide +kernel⟩, w_inst_X7_asGoer, w_sel_X7_asGoer⟩
theorem h_X7_asGent : MV mi_X7_asGent 1 := ⟨⟨w_code_X7_asGent, w_ini_RX7, by decide +kernel, by decide +kernel, by decide +kernel⟩, w_inst_X7_asGent, w_sel_X7_asGent⟩
theorem h_X7_asDoctor : MV mi_X7_asDoctor 1 := ⟨⟨w_code_X7_asDoctor, w_ini_RX7, by decide +kernel, by decide +kernel, by decide +kernel⟩, w_inst_X7_asDoctor, w_sel_X7_asDoctor⟩
theorem h_X7_rate : MV mi_X7_rate 2 := ⟨⟨w_code_X7_rate, w_ini_RX7, by decide +kernel, by decide +kernel, by decide +kernel⟩, w_inst_X7_rate, w_sel_X7_rate⟩
theorem h_X7_keep : MV mi_X7_keep 1 := ⟨⟨w_code_X7_keep, w_ini_RX7, by decide +kernel, by decide +kernel, by decide +kernel⟩, w_inst_X7_keep, w_sel_X7_keep⟩
theorem h_X7_back : MV mi_X7_back 1 := ⟨⟨w_code_X7_back, w_ini_RX7, by decide +kernel, by decide +kernel, by decide +kernel⟩, w_inst_X7_back, w_sel_X7_back⟩
theorem h_X7_count : MV mi_X7_count 1 := ⟨⟨w_code_X7_count, w_ini_RX7, by decide +kernel, by decide +kernel, by decide +kernel⟩, w_inst_X7_count, w_sel_X7_count⟩
theorem h_X7_trace : MV mi_X7_trace 0 := ⟨⟨w_code_X7_trace, w_ini_RX7, by decide +kernel, by decide +kernel, by decide +kernel⟩, w_inst_X7_trace, w_sel_X7_trace⟩
theorem h_J6_bitCount_0f7a4 : MS mi_J6_bitCount_0f7a4 1 := ⟨⟨w_code_J6_bitCount_0f7a4, w_ini_RJ6, by decide +kernel, by decide +kernel, by decide +kernel⟩, w_stat_J6_bitCount_0f7a4⟩
theorem h_J7_fill_53178 : MS mi_J7_fill_53178 2 := ⟨⟨w_code_J7_fill_53178, w_ini_RJ7, by decide +kernel, by decide +kernel, by decide +kernel⟩, w_stat_J7_fill_53178⟩
theorem h_J9_max_7cf53 : MS mi_J9_max_7cf53 2 := ⟨⟨w_code_J9_max_7cf53, w_ini_RJ9, by decide +kernel, by decide +kernel, by decide +kernel⟩, w_stat_J9_max_7cf53⟩
theorem h_J9_min_7cf53 : MS mi_J9_min_7cf53 2 := ⟨⟨w_code_J9_min_7cf53, w_ini_RJ9, by decide +kernel, by decide +kernel, by decide +kernel⟩, w_stat_J9_min_7cf53⟩
end
section
/-! calls by number of arguments, of methods that make no cell; arrays by natural indices -/
section AR
variable {G : GP} {X : CX} {M M' : MI} {cu su : Nat} {S S' : Shp} {I I' : Hi} {R R' : Hr} {L L' : Hl} {pc idx : Nat} {ls rest : List Value} {a ci m0 : Nat} {x1 x2 x3 x4 x5 : Value} {host : String}
theorem aw_V0i (hX : XOK G X M) {r : Int32} (hm : MV M' 0) (hlk : Cond.methodLink (mY M).cls idx (mY M') ∈ gtbl) (hd : decode (mC M) pc = .ok (.invokevirtual idx, 3)) (hs : S[a]? = some (ci, m0)) (hci : ci < 8) (hcn : cNm ci = (mY M').cls) (hc0 : mCe M' = 0) (hs0 : mSl M' = 0) (hro : rmOK M M' cu su = true) (hcat : (rest.map fun v => v.category).sum ≤ 8) (hC : CD G M' [.ref a] S I R L (some (.int r)) S' I' R' L') (k : AW G X cu su S' I' R' L' (pc + 3) ls (.int r :: rest)) : AW G X cu su S I R L pc ls (.ref a :: rest) :=
  aw_callV (As := []) hX hm hlk hro hC hs hci hcn rfl hcat hd rfl (by rw [hc0, hs0]; exact k)
theorem aw_V0l (hX : XOK G X M) {r : Int64} (hm : MV M' 0) (hlk : Cond.methodLink (mY M).cls idx (mY M') ∈ gtbl) (hd : decode (mC M) pc = .ok (.invokevirtual idx, 3)) (hs : S[a]? = some (ci, m0)) (hci : ci < 8) (hcn : cNm ci = (mY M').cls) (hc0 : mCe M' = 0) (hs0 : mSl M' = 0) (hro : rmOK M M' cu su = true) (hcat : (rest.map fun v => v.category).sum ≤ 8) (hC : CD G M' [.ref a] S I R L (some (.long r)) S' I' R' L') (k : AW G X cu su S' I' R' L' (pc + 3) ls (.long r :: rest)) : AW G X cu su S I R L pc ls (.ref a :: rest) :=
  aw_callV (As := []) hX hm hlk hro hC hs hci hcn rfl hcat hd rfl (by rw [hc0, hs0]; exact k)
theorem aw_V0v (hX : XOK G X M)  (hm : MV M' 0) (hlk : Cond.methodLink (mY M).cls idx (mY M') ∈ gtbl) (hd : decode (mC M) pc = .ok (.invokevirtual idx, 3)) (hs : S[a]? = some (ci, m0)) (hci : ci < 8) (hcn : cNm ci = (mY M').cls) (hc0 : mCe M' = 0) (hs0 : mSl M' = 0) (hro : rmOK M M' cu su = true) (hcat : (rest.map fun v => v.category).sum ≤ 8) (hC : CD G M' [.ref a] S I R L none S' I' R' L') (k : AW G X cu su S' I' R' L' (pc + 3) ls rest) : AW G X cu su S I R L pc ls (.ref a :: rest) :=
  aw_callV (As := []) hX hm hlk hro hC hs hci hcn rfl hcat hd rfl (by rw [hc0, hs0]; exact k)
theorem aw_V1i (hX : XOK G X M) {r : Int32} (hm : MV M' 1) (hlk : Cond.methodLink (mY M).cls idx (mY M') ∈ gtbl) (hd : decode (mC M) pc = .ok (.invokevirtual idx, 3)) (hs : S[a]? = some (ci, m0)) (hci : ci < 8) (hcn : cNm ci = (mY M').cls) (hc0 : mCe M' = 0) (hs0 : mSl M' = 0) (hro : rmOK M M' cu su = true) (hcat : (rest.map fun v => v.category).sum ≤ 8) (hC : CD G M' [.ref a, x1] S I R L (some (.int r)) S' I' R' L') (k : AW G X cu su S' I' R' L' (pc + 3) ls (.int r :: rest)) : AW G X cu su S I R L pc ls (x1 :: .ref a :: rest) :=
  aw_callV (As := [x1]) hX hm hlk hro hC hs hci hcn rfl hcat hd rfl (by rw [hc0, hs0]; exact k)
theorem aw_S1i (hX : XOK G X M) {r : Int32} (hm : MS M' 1) (hlk : Cond.methodLink (mY M).cls idx (mY M') ∈ gtbl) (hd : decode (mC M) pc = .ok (.invokestatic idx, 3)) (hc0 : mCe M' = 0) (hs0 : mSl M' = 0) (hro : rmOK M M' cu su = true) (hcat : (rest.map fun v => v.category).sum ≤ 8) (hC : CD G M' [x1] S I R L (some (.int r)) S' I' R' L') (k : AW G X cu su S' I' R' L' (pc + 3) ls (.int r :: rest)) : AW G X cu su S I R L pc ls (x1 :: rest) :=
  aw_callS (As := [x1]) hX hm hlk hro hC rfl hcat hd rfl (by rw [hc0, hs0]; exact k)
theorem aw_SN1i (hX : XOK G X M) {r : Int32} (hm : MS M' 1) (hlk : Cond.methodLinkNest (mY M).cls idx (mY M') host ∈ ntbl) (hd : decode (mC M) pc = .ok (.invokestatic idx, 3)) (hc0 : mCe M' = 0) (hs0 : mSl M' = 0) (hro : rmOK M M' cu su = true) (hcat : (rest.map fun v => v.category).sum ≤ 8) (hC : CD G M' [x1] S I R L (some (.int r)) S' I' R' L') (k : AW G X cu su S' I' R' L' (pc + 3) ls (.int r :: rest)) : AW G X cu su S I R L pc ls (x1 :: rest) :=
  aw_callSN (As := [x1]) hX hm hlk hro hC rfl hcat hd rfl (by rw [hc0, hs0]; exact k)
theorem aw_V1l (hX : XOK G X M) {r : Int64} (hm : MV M' 1) (hlk : Cond.methodLink (mY M).cls idx (mY M') ∈ gtbl) (hd : decode (mC M) pc = .ok (.invokevirtual idx, 3)) (hs : S[a]? = some (ci, m0)) (hci : ci < 8) (hcn : cNm ci = (mY M').cls) (hc0 : mCe M' = 0) (hs0 : mSl M' = 0) (hro : rmOK M M' cu su = true) (hcat : (rest.map fun v => v.category).sum ≤ 8) (hC : CD G M' [.ref a, x1] S I R L (some (.long r)) S' I' R' L') (k : AW G X cu su S' I' R' L' (pc + 3) ls (.long r :: rest)) : AW G X cu su S I R L pc ls (x1 :: .ref a :: rest) :=
  aw_callV (As := [x1]) hX hm hlk hro hC hs hci hcn rfl hcat hd rfl (by rw [hc0, hs0]; exact k)
theorem aw_S1l (hX : XOK G X M) {r : Int64} (hm : MS M' 1) (hlk : Cond.methodLink (mY M).cls idx (mY M') ∈ gtbl) (hd : decode (mC M) pc = .ok (.invokestatic idx, 3)) (hc0 : mCe M' = 0) (hs0 : mSl M' = 0) (hro : rmOK M M' cu su = true) (hcat : (rest.map fun v => v.category).sum ≤ 8) (hC : CD G M' [x1] S I R L (some (.long r)) S' I' R' L') (k : AW G X cu su S' I' R' L' (pc + 3) ls (.long r :: rest)) : AW G X cu su S I R L pc ls (x1 :: rest) :=
  aw_callS (As := [x1]) hX hm hlk hro hC rfl hcat hd rfl (by rw [hc0, hs0]; exact k)
theorem aw_SN1l (hX : XOK G X M) {r : Int64} (hm : MS M' 1) (hlk : Cond.methodLinkNest (mY M).cls idx (mY M') host ∈ ntbl) (hd : decode (mC M) pc = .ok (.invokestatic idx, 3)) (hc0 : mCe M' = 0) (hs0 : mSl M' = 0) (hro : rmOK M M' cu su = true) (hcat : (rest.map fun v => v.category).sum ≤ 8) (hC : CD G M' [x1] S I R L (some (.long r)) S' I' R' L') (k : AW G X cu su S' I' R' L' (pc + 3) ls (.long r :: rest)) : AW G X cu su S I R L pc ls (x1 :: rest) :=
  aw_callSN (As := [x1]) hX hm hlk hro hC rfl hcat hd rfl (by rw [hc0, hs0]; exact k)
theorem aw_V1v (hX : XOK G X M)  (hm : MV M' 1) (hlk : Cond.methodLink (mY M).cls idx (mY M') ∈ gtbl) (hd : decode (mC M) pc = .ok (.invokevirtual idx, 3)) (hs : S[a]? = some (ci, m0)) (hci : ci < 8) (hcn : cNm ci = (mY M').cls) (hc0 : mCe M' = 0) (hs0 : mSl M' = 0) (hro : rmOK M M' cu su = true) (hcat : (rest.map fun v => v.category).sum ≤ 8) (hC : CD G M' [.ref a, x1] S I R L none S' I' R' L') (k : AW G X cu su S' I' R' L' (pc + 3) ls rest) : AW G X cu su S I R L pc ls (x1 :: .ref a :: rest) :=
  aw_callV (As := [x1]) hX hm hlk hro hC hs hci hcn rfl hcat hd rfl (by rw [hc0, hs0]; exact k)
theorem aw_S1v (hX : XOK G X M)  (hm : MS M' 1) (hlk : Cond.methodLink (mY M).cls idx (mY M') ∈ gtbl) (hd : decode (mC M) pc = .ok (.invokestatic idx, 3)) (hc0 : mCe M' = 0) (hs0 : mSl M' = 0) (hro : rmOK M M' cu su = true) (hcat : (rest.map fun v => v.category).sum ≤ 8) (hC : CD G M' [x1] S I R L none S' I' R' L') (k : AW G X cu su S' I' R' L' (pc + 3) ls rest) : AW G X cu su S I R L pc ls (x1 :: rest) :=
  aw_callS (As := [x1]) hX hm hlk hro hC rfl hcat hd rfl (by rw [hc0, hs0]; exact k)
theorem aw_SN1v (hX : XOK G X M)  (hm : MS M' 1) (hlk : Cond.methodLinkNest (mY M).cls idx (mY M') host ∈ ntbl) (hd : decode (mC M) pc = .ok (.invokestatic idx, 3)) (hc0 : mCe M' = 0) (hs0 : mSl M' = 0) (hro : rmOK M M' cu su = true) (hcat : (rest.map fun v => v.category).sum ≤ 8) (hC : CD G M' [x1] S I R L none S' I' R' L') (k : AW G X cu su S' I' R' L' (pc + 3) ls rest) : AW G X cu su S I R L pc ls (x1 :: rest) :=
  aw_callSN (As := [x1]) hX hm hlk hro hC rfl hcat hd rfl (by rw [hc0, hs0]; exact k)
theorem aw_V2i (hX : XOK G X M) {r : Int32} (hm : MV M' 2) (hlk : Cond.methodLink (mY M).cls idx (mY M') ∈ gtbl) (hd : decode (mC M) pc = .ok (.invokevirtual idx, 3)) (hs : S[a]? = some (ci, m0)) (hci : ci < 8) (hcn : cNm ci = (mY M').cls) (hc0 : mCe M' = 0) (hs0 : mSl M' = 0) (hro : rmOK M M' cu su = true) (hcat : (rest.map fun v => v.category).sum ≤ 8) (hC : CD G M' [.ref a, x1, x2] S I R L (some (.int r)) S' I' R' L') (k : AW G X cu su S' I' R' L' (pc + 3) ls (.int r :: rest)) : AW G X cu su S I R L pc ls (x2 :: x1 :: .ref a :: rest) :=
  aw_callV (As := [x1, x2]) hX hm hlk hro hC hs hci hcn rfl hcat hd rfl (by rw [hc0, hs0]; exact k)
theorem aw_S2i (hX : XOK G X M) {r : Int32} (hm : MS M' 2) (hlk : Cond.methodLink (mY M).cls idx (mY M') ∈ gtbl) (hd : decode (mC M) pc = .ok (.invokestatic idx, 3)) (hc0 : mCe M' = 0) (hs0 : mSl M' = 0) (hro : rmOK M M' cu su = true) (hcat : (rest.map fun v => v.category).sum ≤ 8) (hC : CD G M' [x1, x2] S I R L (some (.int r)) S' I' R' L') (k : AW G X cu su S' I' R' L' (pc + 3) ls (.int r :: rest)) : AW G X cu su S I R L pc ls (x2 :: x1 :: rest) :=
  aw_callS (As := [x1, x2]) hX hm hlk hro hC rfl hcat hd rfl (by rw [hc0, hs0]; exact k)
theorem aw_SN2i (hX : XOK G X M) {r : Int32} (hm : MS M' 2) (hlk : Cond.methodLinkNest (mY M).cls idx (mY M') host ∈ ntbl) (hd : decode (mC M) pc = .ok (.invokestatic idx, 3)) (hc0 : mCe M' = 0) (hs0 : mSl M' = 0) (hro : rmOK M M' cu su = true) (hcat : (rest.map fun v => v.category).sum ≤ 8) (hC : CD G M' [x1, x2] S I R L (some (.int r)) S' I' R' L') (k : AW G X cu su S' I' R' L' (pc + 3) ls (.int r :: rest)) : AW G X cu su S I R L pc ls (x2 :: x1 :: rest) :=
  aw_callSN (As := [x1, x2]) hX hm hlk hro hC rfl hcat hd rfl (by rw [hc0, hs0]; exact k)
theorem aw_V2l (hX : XOK G X M) {r : Int64} (hm : MV M' 2) (hlk : Cond.methodLink (mY M).cls idx (mY M') ∈ gtbl) (hd : decode (mC M) pc = .ok (.invokevirtual idx, 3)) (hs : S[a]? = some (ci, m0)) (hci : ci < 8) (hcn : cNm ci = (mY M').cls) (hc0 : mCe M' = 0) (hs0 : mSl M' = 0) (hro : rmOK M M' cu su = true) (hcat : (rest.map fun v => v.category).sum ≤ 8) (hC : CD G M' [.ref a, x1, x2] S I R L (some (.long r)) S' I' R' L') (k : AW G X cu su S' I' R' L' (pc + 3) ls (.long r :: rest)) : AW G X cu su S I R L pc ls (x2 :: x1 :: .ref a :: rest) :=
  aw_callV (As := [x1, x2]) hX hm hlk hro hC hs hci hcn rfl hcat hd rfl (by rw [hc0, hs0]; exact k)
theorem aw_S2l (hX : XOK G X M) {r : Int64} (hm : MS M' 2) (hlk : Cond.methodLink (mY M).cls idx (mY M') ∈ gtbl) (hd : decode (mC M) pc = .ok (.invokestatic idx, 3)) (hc0 : mCe M' = 0) (hs0 : mSl M' = 0) (hro : rmOK M M' cu su = true) (hcat : (rest.map fun v => v.category).sum ≤ 8) (hC : CD G M' [x1, x2] S I R L (some (.long r)) S' I' R' L') (k : AW G X cu su S' I' R' L' (pc + 3) ls (.long r :: rest)) : AW G X cu su S I R L pc ls (x2 :: x1 :: rest) :=
  aw_callS (As := [x1, x2]) hX hm hlk hro hC rfl hcat hd rfl (by rw [hc0, hs0]; exact k)
theorem aw_SN2l (hX : XOK G X M) {r : Int64} (hm : MS M' 2) (hlk : Cond.methodLinkNest (mY M).cls idx (mY M') host ∈ ntbl) (hd : decode (mC M) pc = .ok (.invokestatic idx, 3)) (hc0 : mCe M' = 0) (hs0 : mSl M' = 0) (hro : rmOK M M' cu su = true) (hcat : (rest.map fun v => v.category).sum ≤ 8) (hC : CD G M' [x1, x2] S I R L (some (.long r)) S' I' R' L') (k : AW G X cu su S' I' R' L' (pc + 3) ls (.long r :: rest)) : AW G X cu su S I R L pc ls (x2 :: x1 :: rest) :=
  aw_callSN (As := [x1, x2]) hX hm hlk hro hC rfl hcat hd rfl (by rw [hc0, hs0]; exact k)
theorem aw_V2v (hX : XOK G X M)  (hm : MV M' 2) (hlk : Cond.methodLink (mY M).cls idx (mY M') ∈ gtbl) (hd : decode (mC M) pc = .ok (.invokevirtual idx, 3)) (hs : S[a]? = some (ci, m0)) (hci : ci < 8) (hcn : cNm ci = (mY M').cls) (hc0 : mCe M' = 0) (hs0 : mSl M' = 0) (hro : rmOK M M' cu su = true) (hcat : (rest.map fun v => v.category).sum ≤ 8) (hC : CD G M' [.ref a, x1, x2] S I R L none S' I' R' L') (k : AW G X cu su S' I' R' L' (pc + 3) ls rest) : AW G X cu su S I R L pc ls (x2 :: x1 :: .ref a :: rest) :=
  aw_callV (As := [x1, x2]) hX hm hlk hro hC hs hci hcn rfl hcat hd rfl (by rw [hc0, hs0]; exact k)
theorem aw_S2v (hX : XOK G X M)  (hm : MS M' 2) (hlk : Cond.methodLink (mY M).cls idx (mY M') ∈ gtbl) (hd : decode (mC M) pc = .ok (.invokestatic idx, 3)) (hc0 : mCe M' = 0) (hs0 : mSl M' = 0) (hro : rmOK M M' cu su = true) (hcat : (rest.map fun v => v.category).sum ≤ 8) (hC : CD G M' [x1, x2] S I R L none S' I' R' L') (k : AW G X cu su S' I' R' L' (pc + 3) ls rest) : AW G X cu su S I R L pc ls (x2 :: x1 :: rest) :=
  aw_callS (As := [x1, x2]) hX hm hlk hro hC rfl hcat hd rfl (by rw [hc0, hs0]; exact k)
theorem aw_SN2v (hX : XOK G X M)  (hm : MS M' 2) (hlk : Cond.methodLinkNest (mY M).cls idx (mY M') host ∈ ntbl) (hd : decode (mC M) pc = .ok (.invokestatic idx, 3)) (hc0 : mCe M' = 0) (hs0 : mSl M' = 0) (hro : rmOK M M' cu su = true) (hcat : (rest.map fun v => v.category).sum ≤ 8) (hC : CD G M' [x1, x2] S I R L none S' I' R' L') (k : AW G X cu su S' I' R' L' (pc + 3) ls rest) : AW G X cu su S I R L pc ls (x2 :: x1 :: rest) :=
  aw_callSN (As := [x1, x2]) hX hm hlk hro hC rfl hcat hd rfl (by rw [hc0, hs0]; exact k)
theorem aw_V3i (hX : XOK G X M) {r : Int32} (hm : MV M' 3) (hlk : Cond.methodLink (mY M).cls idx (mY M') ∈ gtbl) (hd : decode (mC M) pc = .ok (.invokevirtual idx, 3)) (hs : S[a]? = some (ci, m0)) (hci : ci < 8) (hcn : cNm ci = (mY M').cls) (hc0 : mCe M' = 0) (hs0 : mSl M' = 0) (hro : rmOK M M' cu su = true) (hcat : (rest.map fun v => v.category).sum ≤ 8) (hC : CD G M' [.ref a, x1, x2, x3] S I R L (some (.int r)) S' I' R' L') (k : AW G X cu su S' I' R' L' (pc + 3) ls (.int r :: rest)) : AW G X cu su S I R L pc ls (x3 :: x2 :: x1 :: .ref a :: rest) :=
  aw_callV (As := [x1, x2, x3]) hX hm hlk hro hC hs hci hcn rfl hcat hd rfl (by rw [hc0, hs0]; exact k)
theorem aw_S3i (hX : XOK G X M) {r : Int32} (hm : MS M' 3) (hlk : Cond.methodLink (mY M).cls idx (mY M') ∈ gtbl) (hd : decode (mC M) pc = .ok (.invokestatic idx, 3)) (hc0 : mCe M' = 0) (hs0 : mSl M' = 0) (hro : rmOK M M' cu su = true) (hcat : (rest.map fun v => v.category).sum ≤ 8) (hC : CD G M' [x1, x2, x3] S I R L (some (.int r)) S' I' R' L') (k : AW G X cu su S' I' R' L' (pc + 3) ls (.int r :: rest)) : AW G X cu su S I R L pc ls (x3 :: x2 :: x1 :: rest) :=
  aw_callS (As := [x1, x2, x3]) hX hm hlk hro hC rfl hcat hd rfl (by rw [hc0, hs0]; exact k)
theorem aw_V3l (hX : XOK G X M) {r : Int64} (hm : MV M' 3) (hlk : Cond.methodLink (mY M).cls idx (mY M') ∈ gtbl) (hd : decode (mC M) pc = .ok (.invokevirtual idx, 3)) (hs : S[a]? = some (ci, m0)) (hci : ci < 8) (hcn : cNm ci = (mY M').cls) (hc0 : mCe M' = 0) (hs0 : mSl M' = 0) (hro : rmOK M M' cu su = true) (hcat : (rest.map fun v => v.category).sum ≤ 8) (hC : CD G M' [.ref a, x1, x2, x3] S I R L (some (.long r)) S' I' R' L') (k : AW G X cu su S' I' R' L' (pc + 3) ls (.long r :: rest)) : AW G X cu su S I R L pc ls (x3 :: x2 :: x1 :: .ref a :: rest) :=
  aw_callV (As := [x1, x2, x3]) hX hm hlk hro hC hs hci hcn rfl hcat hd rfl (by rw [hc0, hs0]; exact k)
theorem aw_S3l (hX : XOK G X M) {r : Int64} (hm : MS M' 3) (hlk : Cond.methodLink (mY M).cls idx (mY M') ∈ gtbl) (hd : decode (mC M) pc = .ok (.invokestatic idx, 3)) (hc0 : mCe M' = 0) (hs0 : mSl M' = 0) (hro : rmOK M M' cu su = true) (hcat : (rest.map fun v => v.category).sum ≤ 8) (hC : CD G M' [x1, x2, x3] S I R L (some (.long r)) S' I' R' L') (k : AW G X cu su S' I' R' L' (pc + 3) ls (.long r :: rest)) : AW G X cu su S I R L pc ls (x3 :: x2 :: x1 :: rest) :=
  aw_callS (As := [x1, x2, x3]) hX hm hlk hro hC rfl hcat hd rfl (by rw [hc0, hs0]; exact k)
theorem aw_V3v (hX : XOK G X M)  (hm : MV M' 3) (hlk : Cond.methodLink (mY M).cls idx (mY M') ∈ gtbl) (hd : decode (mC M) pc = .ok (.invokevirtual idx, 3)) (hs : S[a]? = some (ci, m0)) (hci : ci < 8) (hcn : cNm ci = (mY M').cls) (hc0 : mCe M' = 0) (hs0 : mSl M' = 0) (hro : rmOK M M' cu su = true) (hcat : (rest.map fun v => v.category).sum ≤ 8) (hC : CD G M' [.ref a, x1, x2, x3] S I R L none S' I' R' L') (k : AW G X cu su S' I' R' L' (pc + 3) ls rest) : AW G X cu su S I R L pc ls (x3 :: x2 :: x1 :: .ref a :: rest) :=
  aw_callV (As := [x1, x2, x3]) hX hm hlk hro hC hs hci hcn rfl hcat hd rfl (by rw [hc0, hs0]; exact k)
theorem aw_S3v (hX : XOK G X M)  (hm : MS M' 3) (hlk : Cond.methodLink (mY M).cls idx (mY M') ∈ gtbl) (hd : decode (mC M) pc = .ok (.invokestatic idx, 3)) (hc0 : mCe M' = 0) (hs0 : mSl M' = 0) (hro : rmOK M M' cu su = true) (hcat : (rest.map fun v => v.category).sum ≤ 8) (hC : CD G M' [x1, x2, x3] S I R L none S' I' R' L') (k : AW G X cu su S' I' R' L' (pc + 3) ls rest) : AW G X cu su S I R L pc ls (x3 :: x2 :: x1 :: rest) :=
  aw_callS (As := [x1, x2, x3]) hX hm hlk hro hC rfl hcat hd rfl (by rw [hc0, hs0]; exact k)
theorem aw_V4i (hX : XOK G X M) {r : Int32} (hm : MV M' 4) (hlk : Cond.methodLink (mY M).cls idx (mY M') ∈ gtbl) (hd : decode (mC M) pc = .ok (.invokevirtual idx, 3)) (hs : S[a]? = some (ci, m0)) (hci : ci < 8) (hcn : cNm ci = (mY M').cls) (hc0 : mCe M' = 0) (hs0 : mSl M' = 0) (hro : rmOK M M' cu su = true) (hcat : (rest.map fun v => v.category).sum ≤ 8) (hC : CD G M' [.ref a, x1, x2, x3, x4] S I R L (some (.int r)) S' I' R' L') (k : AW G X cu su S' I' R' L' (pc + 3) ls (.int r :: rest)) : AW G X cu su S I R L pc ls (x4 :: x3 :: x2 :: x1 :: .ref a :: rest) :=
  aw_callV (As := [x1, x2, x3, x4]) hX hm hlk hro hC hs hci hcn rfl hcat hd rfl (by rw [hc0, hs0]; exact k)
theorem aw_S4i (hX : XOK G X M) {r : Int32} (hm : MS M' 4) (hlk : Cond.methodLink (mY M).cls idx (mY M') ∈ gtbl) (hd : decode (mC M) pc = .ok (.invokestatic idx, 3)) (hc0 : mCe M' = 0) (hs0 : mSl M' = 0) (hro : rmOK M M' cu su = true) (hcat : (rest.map fun v => v.category).sum ≤ 8) (hC : CD G M' [x1, x2, x3, x4] S I R L (some (.int r)) S' I' R' L') (k : AW G X cu su S' I' R' L' (pc + 3) ls (.int r :: rest)) : AW G X cu su S I R L pc ls (x4 :: x3 :: x2 :: x1 :: rest) :=
  aw_callS (As := [x1, x2, x3, x4]) hX hm hlk hro hC rfl hcat hd rfl (by rw [hc0, hs0]; exact k)
theorem aw_V4l (hX : XOK G X M) {r : Int64} (hm : MV M' 4) (hlk : Cond.methodLink (mY M).cls idx (mY M') ∈ gtbl) (hd : decode (mC M) pc = .ok (.invokevirtual idx, 3)) (hs : S[a]? = some (ci, m0)) (hci : ci < 8) (hcn : cNm ci = (mY M').cls) (hc0 : mCe M' = 0) (hs0 : mSl M' = 0) (hro : rmOK M M' cu su = true) (hcat : (rest.map fun v => v.category).sum ≤ 8) (hC : CD G M' [.ref a, x1, x2, x3, x4] S I R L (some (.long r)) S' I' R' L') (k : AW G X cu su S' I' R' L' (pc + 3) ls (.long r :: rest)) : AW G X cu su S I R L pc ls (x4 :: x3 :: x2 :: x1 :: .ref a :: rest) :=
  aw_callV (As := [x1, x2, x3, x4]) hX hm hlk hro hC hs hci hcn rfl hcat hd rfl (by rw [hc0, hs0]; exact k)
theorem aw_S4l (hX : XOK G X M) {r : Int64} (hm : MS M' 4) (hlk : Cond.methodLink (mY M).cls idx (mY M') ∈ gtbl) (hd : decode (mC M) pc = .ok (.invokestatic idx, 3)) (hc0 : mCe M' = 0) (hs0 : mSl M' = 0) (hro : rmOK M M' cu su = true) (hcat : (rest.map fun v => v.category).sum ≤ 8) (hC : CD G M' [x1, x2, x3, x4] S I R L (some (.long r)) S' I' R' L') (k : AW G X cu su S' I' R' L' (pc + 3) ls (.long r :: rest)) : AW G X cu su S I R L pc ls (x4 :: x3 :: x2 :: x1 :: rest) :=
  aw_callS (As := [x1, x2, x3, x4]) hX hm hlk hro hC rfl hcat hd rfl (by rw [hc0, hs0]; exact k)
theorem aw_V4v (hX : XOK G X M)  (hm : MV M' 4) (hlk : Cond.methodLink (mY M).cls idx (mY M') ∈ gtbl) (hd : decode (mC M) pc = .ok (.invokevirtual idx, 3)) (hs : S[a]? = some (ci, m0)) (hci : ci < 8) (hcn : cNm ci = (mY M').cls) (hc0 : mCe M' = 0) (hs0 : mSl M' = 0) (hro : rmOK M M' cu su = true) (hcat : (rest.map fun v => v.category).sum ≤ 8) (hC : CD G M' [.ref a, x1, x2, x3, x4] S I R L none S' I' R' L') (k : AW G X cu su S' I' R' L' (pc + 3) ls rest) : AW G X cu su S I R L pc ls (x4 :: x3 :: x2 :: x1 :: .ref a :: rest) :=
  aw_callV (As := [x1, x2, x3, x4]) hX hm hlk hro hC hs hci hcn rfl hcat hd rfl (by rw [hc0, hs0]; exact k)
theorem aw_S4v (hX : XOK G X M)  (hm : MS M' 4) (hlk : Cond.methodLink (mY M).cls idx (mY M') ∈ gtbl) (hd : decode (mC M) pc = .ok (.invokestatic idx, 3)) (hc0 : mCe M' = 0) (hs0 : mSl M' = 0) (hro : rmOK M M' cu su = true) (hcat : (rest.map fun v => v.category).sum ≤ 8) (hC : CD G M' [x1, x2, x3, x4] S I R L none S' I' R' L') (k : AW G X cu su S' I' R' L' (pc + 3) ls rest) : AW G X cu su S I R L pc ls (x4 :: x3 :: x2 :: x1 :: rest) :=
  aw_callS (As := [x1, x2, x3, x4]) hX hm hlk hro hC rfl hcat hd rfl (by rw [hc0, hs0]; exact k)
theorem aw_V5i (hX : XOK G X M) {r : Int32} (hm : MV M' 5) (hlk : Cond.methodLink (mY M).cls idx (mY M') ∈ gtbl) (hd : decode (mC M) pc = .ok (.invokevirtual idx, 3)) (hs : S[a]? = some (ci, m0)) (hci : ci < 8) (hcn : cNm ci = (mY M').cls) (hc0 : mCe M' = 0) (hs0 : mSl M' = 0) (hro : rmOK M M' cu su = true) (hcat : (rest.map fun v => v.category).sum ≤ 8) (hC : CD G M' [.ref a, x1, x2, x3, x4, x5] S I R L (some (.int r)) S' I' R' L') (k : AW G X cu su S' I' R' L' (pc + 3) ls (.int r :: rest)) : AW G X cu su S I R L pc ls (x5 :: x4 :: x3 :: x2 :: x1 :: .ref a :: rest) :=
  aw_callV (As := [x1, x2, x3, x4, x5]) hX hm hlk hro hC hs hci hcn rfl hcat hd rfl (by rw [hc0, hs0]; exact k)
theorem aw_S5i (hX : XOK G X M) {r : Int32} (hm : MS M' 5) (hlk : Cond.methodLink (mY M).cls idx (mY M') ∈ gtbl) (hd : decode (mC M) pc = .ok (.invokestatic idx, 3)) (hc0 : mCe M' = 0) (hs0 : mSl M' = 0) (hro : rmOK M M' cu su = true) (hcat : (rest.map fun v => v.category).sum ≤ 8) (hC : CD G M' [x1, x2, x3, x4, x5] S I R L (some (.int r)) S' I' R' L') (k : AW G X cu su S' I' R' L' (pc + 3) ls (.int r :: rest)) : AW G X cu su S I R L pc ls (x5 :: x4 :: x3 :: x2 :: x1 :: rest) :=
  aw_callS (As := [x1, x2, x3, x4, x5]) hX hm hlk hro hC rfl hcat hd rfl (by rw [hc0, hs0]; exact k)
theorem aw_V5l (hX : XOK G X M) {r : Int64} (hm : MV M' 5) (hlk : Cond.methodLink (mY M).cls idx (mY M') ∈ gtbl) (hd : decode (mC M) pc = .ok (.invokevirtual idx, 3)) (hs : S[a]? = some (ci, m0)) (hci : ci < 8) (hcn : cNm ci = (mY M').cls) (hc0 : mCe M' = 0) (hs0 : mSl M' = 0) (hro : rmOK M M' cu su = true) (hcat : (rest.map fun v => v.category).sum ≤ 8) (hC : CD G M' [.ref a, x1, x2, x3, x4, x5] S I R L (some (.long r)) S' I' R' L') (k : AW G X cu su S' I' R' L' (pc + 3) ls (.long r :: rest)) : AW G X cu su S I R L pc ls (x5 :: x4 :: x3 :: x2 :: x1 :: .ref a :: rest) :=
  aw_callV (As := [x1, x2, x3, x4, x5]) hX hm hlk hro hC hs hci hcn rfl hcat hd rfl (by rw [hc0, hs0]; exact k)
theorem aw_S5l (hX : XOK G X M) {r : Int64} (hm : MS M' 5) (hlk : Cond.methodLink (mY M).cls idx (mY M') ∈ gtbl) (hd : decode (mC M) pc = .ok (.invokestatic idx, 3)) (hc0 : mCe M' = 0) (hs0 : mSl M' = 0) (hro : rmOK M M' cu su = true) (hcat : (rest.map fun v => v.category).sum ≤ 8) (hC : CD G M' [x1, x2, x3, x4, x5] S I R L (some (.long r)) S' I' R' L') (k : AW G X cu su S' I' R' L' (pc + 3) ls (.long r :: rest)) : AW G X cu su S I R L pc ls (x5 :: x4 :: x3 :: x2 :: x1 :: rest) :=
  aw_callS (As := [x1, x2, x3, x4, x5]) hX hm hlk hro hC rfl hcat hd rfl (by rw [hc0, hs0]; exact k)
theorem aw_V5v (hX : XOK G X M)  (hm : MV M' 5) (hlk : Cond.methodLink (mY M).cls idx (mY M') ∈ gtbl) (hd : decode (mC M) pc = .ok (.invokevirtual idx, 3)) (hs : S[a]? = some (ci, m0)) (hci : ci < 8) (hcn : cNm ci = (mY M').cls) (hc0 : mCe M' = 0) (hs0 : mSl M' = 0) (hro : rmOK M M' cu su = true) (hcat : (rest.map fun v => v.category).sum ≤ 8) (hC : CD G M' [.ref a, x1, x2, x3, x4, x5] S I R L none S' I' R' L') (k : AW G X cu su S' I' R' L' (pc + 3) ls rest) : AW G X cu su S I R L pc ls (x5 :: x4 :: x3 :: x2 :: x1 :: .ref a :: rest) :=
  aw_callV (As := [x1, x2, x3, x4, x5]) hX hm hlk hro hC hs hci hcn rfl hcat hd rfl (by rw [hc0, hs0]; exact k)
theorem aw_S5v (hX : XOK G X M)  (hm : MS M' 5) (hlk : Cond.methodLink (mY M).cls idx (mY M') ∈ gtbl) (hd : decode (mC M) pc = .ok (.invokestatic idx, 3)) (hc0 : mCe M' = 0) (hs0 : mSl M' = 0) (hro : rmOK M M' cu su = true) (hcat : (rest.map fun v => v.category).sum ≤ 8) (hC : CD G M' [x1, x2, x3, x4, x5] S I R L none S' I' R' L') (k : AW G X cu su S' I' R' L' (pc + 3) ls rest) : AW G X cu su S I R L pc ls (x5 :: x4 :: x3 :: x2 :: x1 :: rest) :=
  aw_callS (As := [x1, x2, x3, x4, x5]) hX hm hlk hro hC rfl hcat hd rfl (by rw [hc0, hs0]; exact k)
theorem aw_ial (hX : XOK G X M) {i : Int32} {n : Nat} (k0 : Nat) (hd : decode (mC M) pc = .ok (.iaload, 1)) (hs : S[a]? = some (8, n)) (hi : i = nI k0) (hk : k0 < n) (hn : n < 2 ^ 31) (k : AW G X cu su S I R L (pc + 1) ls (.int (I a k0) :: rest)) : AW G X cu su S I R L pc ls (.int i :: .ref a :: rest) := by
  subst hi
  refine aw_iaload hX hd hs (vp_in_nI hk hn) ?_
  rw [nI_clamp (by omega)]
  exact k
theorem aw_bal (hX : XOK G X M) {i : Int32} {n : Nat} (k0 : Nat) (hd : decode (mC M) pc = .ok (.baload, 1)) (hs : S[a]? = some (9, n)) (hi : i = nI k0) (hk : k0 < n) (hn : n < 2 ^ 31) (k : AW G X cu su S I R L (pc + 1) ls (.int (I a k0) :: rest)) : AW G X cu su S I R L pc ls (.int i :: .ref a :: rest) := by
  subst hi
  refine aw_baload hX hd hs (vp_in_nI hk hn) ?_
  rw [nI_clamp (by omega)]
  exact k
theorem aw_aal (hX : XOK G X M) {i : Int32} {n q : Nat} (k0 : Nat) (hd : decode (mC M) pc = .ok (.aaload, 1)) (hs : S[a]? = some (10, n)) (hi : i = nI k0) (hk : k0 < n) (hn : n < 2 ^ 31) (hq : R a k0 = some q) (k : AW G X cu su S I R L (pc + 1) ls (.ref q :: rest)) : AW G X cu su S I R L pc ls (.int i :: .ref a :: rest) := by
  subst hi
  exact aw_aaload hX hd hs (vp_in_nI hk hn) (by rw [nI_clamp (by omega)]; exact hq) k
theorem aw_ias (hX : XOK G X M) {i x : Int32} {n : Nat} (k0 : Nat) (hd : decode (mC M) pc = .ok (.iastore, 1)) (hs : S[a]? = some (8, n)) (hi : i = nI k0) (hk : k0 < n) (hn : n < 2 ^ 31) (k : AW G X cu su S (u2 I a k0 x) R L (pc + 1) ls rest) : AW G X cu su S I R L pc ls (.int x :: .int i :: .ref a :: rest) := by
  subst hi
  refine aw_iastore hX hd hs (vp_in_nI hk hn) ?_
  rw [nI_clamp (by omega)]
  exact k
theorem aw_bas (hX : XOK G X M) {i x : Int32} {n : Nat} (k0 : Nat) (hd : decode (mC M) pc = .ok (.bastore, 1)) (hs : S[a]? = some (9, n)) (hi : i = nI k0) (hk : k0 < n) (hn : n < 2 ^ 31) (hx : vp_nar .boolean x = x) (k : AW G X cu su S (u2 I a k0 x) R L (pc + 1) ls rest) : AW G X cu su S I R L pc ls (.int x :: .int i :: .ref a :: rest) := by
  subst hi
  refine aw_bastore hX hd hs (vp_in_nI hk hn) hx ?_
  rw [nI_clamp (by omega)]
  exact k
theorem aw_aas (hX : XOK G X M) {i : Int32} {n x m1 : Nat} (k0 : Nat) (hd : decode (mC M) pc = .ok (.aastore, 1)) (hs : S[a]? = some (10, n)) (hx : S[x]? = some (3, m1)) (hi : i = nI k0) (hk : k0 < n) (hn : n < 2 ^ 31) (k : AW G X cu su S I (u2 R a k0 (some x)) L (pc + 1) ls rest) : AW G X cu su S I R L pc ls (.ref x :: .int i :: .ref a :: rest) := by
  subst hi
  refine aw_aastore hX hd hs hx (vp_in_nI hk hn) ?_
  rw [nI_clamp (by omega)]
  exact k
end AR
end
section
/-! the layout behind the two constructors: cells 0 .. 76 the class's, 77 .. 95 the model's -/
def nowsL : List Nat := [15, 21, 25, 29, 33, 37, 41, 45, 49, 53, 57, 69, 73]
def nowSh : Shp := [(3, 6), (8, 6), (8, 6), (8, 6)]
def courtSh : Shp := [(0, 10), (8, 5), (8, 6), (8, 24), (8, 3), (8, 3)]
def S0 : Shp := [(6, 10), (5, 6), (8, 160)] ++ courtSh ++ courtSh ++ nowSh ++ [(1, 3), (10, 10)] ++ nowSh ++ nowSh ++ nowSh ++ nowSh ++ nowSh ++ nowSh ++ nowSh ++ nowSh ++ nowSh ++ nowSh ++ [(10, 2), (9, 2), (4, 4), (8, 6), (8, 6), (8, 6), (2, 1), (8, 64)] ++ nowSh ++ nowSh ++ [(7, 36), (8, 5), (8, 6), (8, 24), (8, 3), (8, 3), (8, 21), (8, 210), (8, 42), (9, 2), (8, 18), (8, 160), (8, 5), (8, 6), (8, 24), (8, 3), (8, 3), (8, 6), (8, 6)]
def mRef (j : Nat) : Option Nat := match j with
  | 1 => some 78
  | 3 => some 79
  | 5 => some 80
  | 7 => some 81
  | 8 => some 82
  | 10 => some 83
  | 11 => some 84
  | 13 => some 85
  | 14 => some 86
  | 15 => some 87
  | 18 => some 88
  | 25 => some 89
  | 27 => some 90
  | 29 => some 91
  | 31 => some 92
  | 32 => some 93
  | 34 => some 94
  | 35 => some 95
  | _ => none
def pRef (c d j : Nat) : Option Nat := match j with
  | 0 => some 1
  | 1 => some c
  | 2 => some d
  | 3 => some 15
  | 4 => some 19
  | 5 => some 61
  | 6 => some 62
  | 7 => some 63
  | 8 => some 67
  | _ => none
/-- the references: c the court, d the draft -/
def R0 (c d : Nat) : Hr := fun a j =>
  if a == 0 then pRef c d j
  else if a == 77 then mRef j
  else if a == 3 || a == 9 then (if Nat.blt j 5 then some (a + 1 + j) else none)
  else if nowsL.contains a then (if Nat.blt j 3 then none else if Nat.blt j 6 then some (a + 1 + (j - 3)) else none)
  else if a == 20 then (if Nat.blt j 10 then some (21 + 4 * j) else none)
  else if a == 61 then (if Nat.blt j 2 then some (69 + 4 * j) else none)
  else if a == 63 then (if Nat.blt j 3 then some (64 + j) else none)
  else if a == 1 || a == 19 || a == 67 then (if j == 0 then some (a + 1) else none)
  else none
def isC (c : Nat) : Prop := c = 3 ∨ c = 9
def isN (n : Nat) : Prop := n ∈ nowsL
theorem csh0 {c : Nat} (h : isC c) : S0[c]? = some (0, 10) := by rcases h with rfl | rfl <;> rfl
theorem csh1 {c : Nat} (h : isC c) : S0[c + 1]? = some (8, 5) := by rcases h with rfl | rfl <;> rfl
theorem csh2 {c : Nat} (h : isC c) : S0[c + 2]? = some (8, 6) := by rcases h with rfl | rfl <;> rfl
theorem csh3 {c : Nat} (h : isC c) : S0[c + 3]? = some (8, 24) := by rcases h with rfl | rfl <;> rfl
theorem csh4 {c : Nat} (h : isC c) : S0[c + 4]? = some (8, 3) := by rcases h with rfl | rfl <;> rfl
theorem csh5 {c : Nat} (h : isC c) : S0[c + 5]? = some (8, 3) := by rcases h with rfl | rfl <;> rfl
theorem crf0 {c x y : Nat} (h : isC c) : R0 x y c 0 = some (c + 1) := by rcases h with rfl | rfl <;> rfl
theorem crf1 {c x y : Nat} (h : isC c) : R0 x y c 1 = some (c + 2) := by rcases h with rfl | rfl <;> rfl
theorem crf2 {c x y : Nat} (h : isC c) : R0 x y c 2 = some (c + 3) := by rcases h with rfl | rfl <;> rfl
theorem crf3 {c x y : Nat} (h : isC c) : R0 x y c 3 = some (c + 4) := by rcases h with rfl | rfl <;> rfl
theorem crf4 {c x y : Nat} (h : isC c) : R0 x y c 4 = some (c + 5) := by rcases h with rfl | rfl <;> rfl
theorem isN_all {P : Nat → Prop} [DecidablePred P] (h : nowsL.all (fun n => decide (P n)) = true) {n : Nat} (hn : isN n) : P n := by
  have := List.all_eq_true.mp h n hn
  simpa using this
theorem nsh0 {n : Nat} (h : isN n) : S0[n]? = some (3, 6) := isN_all (P := fun n => S0[n]? = some (3, 6)) (by decide +kernel) h
theorem nsh1 {n : Nat} (h : isN n) : S0[n + 1]? = some (8, 6) := isN_all (P := fun n => S0[n + 1]? = some (8, 6)) (by decide +kernel) h
theorem nsh2 {n : Nat} (h : isN n) : S0[n + 2]? = some (8, 6) := isN_all (P := fun n => S0[n + 2]? = some (8, 6)) (by decide +kernel) h
theorem nsh3 {n : Nat} (h : isN n) : S0[n + 3]? = some (8, 6) := isN_all (P := fun n => S0[n + 3]? = some (8, 6)) (by decide +kernel) h
theorem nrfA : nowsL.all (fun n => !(n == 0) && !(n == 77) && !(n == 3 || n == 9) && nowsL.contains n) = true := by decide +kernel
theorem nrf {n x y j : Nat} (h : isN n) : R0 x y n j = if Nat.blt j 3 then none else if Nat.blt j 6 then some (n + 1 + (j - 3)) else none := by
  have h1 := List.all_eq_true.mp nrfA n h
  simp only [Bool.and_eq_true, Bool.not_eq_true'] at h1
  simp only [R0, h1.1.1.1, h1.1.1.2, h1.1.2, h1.2]
  rfl
theorem nrf3 {n x y : Nat} (h : isN n) : R0 x y n 3 = some (n + 1) := nrf h
theorem nrf4 {n x y : Nat} (h : isN n) : R0 x y n 4 = some (n + 2) := nrf h
theorem nrf5 {n x y : Nat} (h : isN n) : R0 x y n 5 = some (n + 3) := nrf h
/-- an index within, as a test -/
def vinb (x : Int32) (n : Nat) : Bool := !(decide (x < 0)) && Nat.blt x.toNatClampNeg n
theorem vinb_in {x : Int32} {n : Nat} (h : vinb x n = true) : vp_in x n := by
  simp only [vinb, Bool.and_eq_true, Bool.not_eq_true', decide_eq_false_iff_not] at h
  rintro (h1 | h1)
  · exact h.1 h1
  · have := Nat.le_of_ble_eq_true h.2
    omega
theorem vinb_nI {k n : Nat} (h : k < n) (hn : n < 2 ^ 31) : vinb (nI k) n = true := by
  simp only [vinb, Bool.and_eq_true, Bool.not_eq_true', decide_eq_false_iff_not]
  refine ⟨nI_pos (by omega), ?_⟩
  rw [nI_clamp (by omega)]
  exact Nat.ble_eq_true_of_le h
theorem vinb_lt {x : Int32} {n : Nat} (h : vinb x n = true) : x.toNatClampNeg < n := by
  simp only [vinb, Bool.and_eq_true] at h
  exact Nat.le_of_ble_eq_true h.2
theorem bef_ok : (List.range 10).all (fun k => decide (R0 0 0 20 k = some (21 + 4 * k)) && nowsL.contains (21 + 4 * k)) = true := by decide +kernel
theorem bef_rf {x y : Nat} {i : Int32} (h : vinb i 10 = true) : R0 x y 20 i.toNatClampNeg = some (21 + 4 * i.toNatClampNeg) := by
  have h1 := List.all_eq_true.mp bef_ok _ (List.mem_range.mpr (vinb_lt h))
  simp only [Bool.and_eq_true, decide_eq_true_eq] at h1
  exact h1.1
theorem bef_N {i : Int32} (h : vinb i 10 = true) : isN (21 + 4 * i.toNatClampNeg) := by
  have h1 := List.all_eq_true.mp bef_ok _ (List.mem_range.mpr (vinb_lt h))
  simp only [Bool.and_eq_true] at h1
  exact List.mem_of_elem_eq_true h1.2
theorem img_ok : (List.range 2).all (fun k => decide (R0 0 0 61 k = some (69 + 4 * k)) && nowsL.contains (69 + 4 * k)) = true := by decide +kernel
theorem img_rf {x y : Nat} {i : Int32} (h : vinb i 2 = true) : R0 x y 61 i.toNatClampNeg = some (69 + 4 * i.toNatClampNeg) := by
  have h1 := List.all_eq_true.mp img_ok _ (List.mem_range.mpr (vinb_lt h))
  simp only [Bool.and_eq_true, decide_eq_true_eq] at h1
  exact h1.1
theorem img_N {i : Int32} (h : vinb i 2 = true) : isN (69 + 4 * i.toNatClampNeg) := by
  have h1 := List.all_eq_true.mp img_ok _ (List.mem_range.mpr (vinb_lt h))
  simp only [Bool.and_eq_true] at h1
  exact List.mem_of_elem_eq_true h1.2
/-! pieces for the walks -/
def bI (b : Bool) : Int32 := if b = true then 1 else 0
theorem bI0 {b : Bool} (h : bI b = 0) : ¬ b = true := by cases b <;> simp_all [bI]
theorem bI1 {b : Bool} (h : ¬ bI b = 0) : b = true := by cases b <;> simp_all [bI]
theorem bI01 (b : Bool) : bI b = 0 ∨ bI b = 1 := by cases b <;> simp [bI]
theorem ite_t {α : Type} {c : Prop} [Decidable c] {a b v : α} (h : (if c then a else b) = v) (hc : c) : a = v := by rwa [if_pos hc] at h
theorem ite_f {α : Type} {c : Prop} [Decidable c] {a b v : α} (h : (if c then a else b) = v) (hc : ¬ c) : b = v := by rwa [if_neg hc] at h
theorem ite_g {α : Type} {c : Prop} [Decidable c] {a : Option α} {v : α} (h : (if c then a else none) = some v) : c ∧ a = some v := by
  by_cases hc : c
  · rw [if_pos hc] at h; exact ⟨hc, h⟩
  · rw [if_neg hc] at h; cases h
theorem ite_n {α : Type} {c : Prop} [Decidable c] {a : Option α} {v : α} (h : (if c then none else a) = some v) : ¬ c ∧ a = some v := by
  by_cases hc : c
  · rw [if_pos hc] at h; cases h
  · rw [if_neg hc] at h; exact ⟨hc, h⟩
theorem bind_s {α β : Type} {o : Option α} {f : α → Option β} {v : β} (h : o.bind f = some v) : ∃ a, o = some a ∧ f a = some v := Option.bind_eq_some_iff.mp h
def locsub : List Value → List Value → Prop
  | [], _ => True
  | v :: l, w :: m => (v = .null ∨ v = w) ∧ locsub l m
  | _ :: _, [] => False
theorem locsub_spec : ∀ (l m : List Value), locsub l m → ∀ (i : Nat) (v : Value), l[i]? = some v → v ≠ .null → m[i]? = some v
  | [], _, _, _, _, h, _ => by simp at h
  | _ :: _, [], hs, _, _, _, _ => hs.elim
  | a :: l, b :: m, hs, 0, v, h, hv => by
    cases h
    rcases hs.1 with h1 | h1
    · exact absurd h1 hv
    · rw [h1]; rfl
  | a :: l, b :: m, hs, i + 1, v, h, hv => locsub_spec l m hs.2 i v h hv
section WALK
variable {G : GP} {X : CX} {M : MI} {cu su : Nat} {S : Shp} {I : Hi} {R : Hr} {L : Hl} {pc : Nat} {ls st : List Value}
theorem AW.lo {ls2 : List Value} (h : locsub ls2 ls) (k : AW G X cu su S I R L pc ls2 st) : AW G X cu su S I R L pc ls st := AW.locals (locsub_spec ls2 ls h) k
theorem aw_tcase (hX : XOK G X M) {dflt lo hi : Int} {offs : Array Int} {len : Nat} {x : Int32} (kk : Int32) {off : Int} (tgt : Nat) (hd : decode (mC M) pc = .ok (.tableswitch dflt lo hi offs, len)) (hx : x = kk) (ha : ¬ kk.toInt < lo) (hb2 : ¬ hi < kk.toInt) (ho : offs[(kk.toInt - lo).toNat]? = some off) (ht : (pc : Int) + off = (tgt : Int)) (k : AW G X cu su S I R L tgt ls st) : AW G X cu su S I R L pc ls (.int x :: st) := by
  subst hx
  exact aw_tableIn hX tgt hd ha hb2 ho ht k
theorem aw_lcase (hX : XOK G X M) {dflt : Int} {ps : Array (Int × Int)} {len : Nat} {x : Int32} (kk : Int32) {off : Int} (tgt : Nat) (hd : decode (mC M) pc = .ok (.lookupswitch dflt ps, len)) (hx : x = kk) (hp : (ps.toList.zip (ps.toList.drop 1)).all (fun (a, next) => a.1 < next.1) = true) (ho : Op.lookupswitch.offset ps.toList dflt kk.toInt = off) (ht : (pc : Int) + off = (tgt : Int)) (k : AW G X cu su S I R L tgt ls st) : AW G X cu su S I R L pc ls (.int x :: st) := by
  subst hx
  exact aw_lookup hX tgt hd hp ho ht k
end WALK
end
section
/-! stores with the new locals named; a state under another name -/
section WALKE
variable {G : GP} {X : CX} {M : MI} {cu su : Nat} {S : Shp} {I I' : Hi} {R R' : Hr} {L L' : Hl} {pc : Nat} {ls st : List Value}
theorem aw_istore_nE (hX : XOK G X M) {q : Fin 4} (i : Nat) {x : Int32} (ls' : List Value) (hd : decode (mC M) pc = .ok (.istore_n q, 1)) (hi : (q : Nat) = i) (hn : i < mL M) (ho : okl ls i = true) (hls : ls.set i (.int x) = ls') (k : AW G X cu su S I R L (pc + 1) ls' st) : AW G X cu su S I R L pc ls (.int x :: st) := aw_istore_n hX i hd hi hn ho (by rw [hls]; exact k)
theorem aw_istoreE (hX : XOK G X M) {i : Nat} {x : Int32} (ls' : List Value) (hd : decode (mC M) pc = .ok (.istore i, 2)) (hn : i < mL M) (ho : okl ls i = true) (hls : ls.set i (.int x) = ls') (k : AW G X cu su S I R L (pc + 2) ls' st) : AW G X cu su S I R L pc ls (.int x :: st) := aw_istore hX hd hn ho (by rw [hls]; exact k)
theorem aw_astore_nE (hX : XOK G X M) {q : Fin 4} (i : Nat) {x : Nat} (ls' : List Value) (hd : decode (mC M) pc = .ok (.astore_n q, 1)) (hi : (q : Nat) = i) (hn : i < mL M) (ho : okl ls i = true) (hls : ls.set i (.ref x) = ls') (k : AW G X cu su S I R L (pc + 1) ls' st) : AW G X cu su S I R L pc ls (.ref x :: st) := aw_astore_n hX i hd hi hn ho (by rw [hls]; exact k)
theorem aw_lstore_nE (hX : XOK G X M) {q : Fin 4} (i : Nat) {x : Int64} (ls' : List Value) (hd : decode (mC M) pc = .ok (.lstore_n q, 1)) (hi : (q : Nat) = i) (hn : i + 1 < mL M) (ho : okl ls i = true) (hls : (ls.set i (.long x)).set (i + 1) .null = ls') (k : AW G X cu su S I R L (pc + 1) ls' st) : AW G X cu su S I R L pc ls (.long x :: st) := aw_lstore_n hX i hd hi hn ho (by rw [hls]; exact k)
theorem aw_lstoreE (hX : XOK G X M) {i : Nat} {x : Int64} (ls' : List Value) (hd : decode (mC M) pc = .ok (.lstore i, 2)) (hn : i + 1 < mL M) (ho : okl ls i = true) (hls : (ls.set i (.long x)).set (i + 1) .null = ls') (k : AW G X cu su S I R L (pc + 2) ls' st) : AW G X cu su S I R L pc ls (.long x :: st) := aw_lstore hX hd hn ho (by rw [hls]; exact k)
theorem aw_iincE (hX : XOK G X M) {i : Nat} {n : Int} {x : Int32} (v : Int32) (ls' : List Value) (hd : decode (mC M) pc = .ok (.iinc i n, 3)) (hl : ls[i]? = some (.int x)) (hv : x + Int32.ofInt n = v) (hn : i < mL M) (ho : okl ls i = true) (hls : ls.set i (.int v) = ls') (k : AW G X cu su S I R L (pc + 3) ls' st) : AW G X cu su S I R L pc ls st := aw_iinc hX v hd hl hv hn ho (by rw [hls]; exact k)
theorem AW.iEq (h : some I = some I') (k : AW G X cu su S I' R L pc ls st) : AW G X cu su S I R L pc ls st := by cases h; exact k
theorem AW.lEq (h : some L = some L') (k : AW G X cu su S I R L' pc ls st) : AW G X cu su S I R L pc ls st := by cases h; exact k
theorem AW.rEq (h : R = R') (k : AW G X cu su S I R' L pc ls st) : AW G X cu su S I R L pc ls st := by cases h; exact k
theorem R0_c {c d e : Nat} : u2 (R0 c d) 0 1 (some e) = R0 e d := by
  funext a j
  by_cases ha : a = 0
  · subst ha
    by_cases hj : j = 1
    · subst hj; rfl
    · rw [u2_c hj]
      show pRef c d j = pRef e d j
      unfold pRef
      split <;> simp_all
  · rw [u2_r ha]
    have h0 : (a == 0) = false := by simpa using ha
    simp only [R0, h0]
    rfl
theorem R0_d {c d e : Nat} : u2 (R0 c d) 0 2 (some e) = R0 c e := by
  funext a j
  by_cases ha : a = 0
  · subst ha
    by_cases hj : j = 2
    · subst hj; rfl
    · rw [u2_c hj]
      show pRef c d j = pRef c e j
      unfold pRef
      split <;> simp_all
  · rw [u2_r ha]
    have h0 : (a == 0) = false := by simpa using ha
    simp only [R0, h0]
    rfl
end WALKE
end
