section
-- ===== PART A: goes FIRST, ahead of the names: the tables' words, and 'selects' of the private methods out of them =====
/-- a private method of a class that the tables say can be made, by its rows of tables_1 -/
def lw_okq (q : MethodName × Nat) : Prop := (q.1.cls ≠ "java/lang/invoke/MethodHandle" ∧ q.1.cls ≠ "java/lang/invoke/VarHandle") ∧ Cond.instantiable q.1.cls q.2 ∈ tables_1 ∧ Cond.privateMethod q.1 ∈ tables_1 ∧ Cond.instanceMethod q.1 ∈ tables_1
theorem lw_p0 : lw_okq (⟨"FieldMember$Types", "allAbove", "(I)I"⟩, 5) := ⟨⟨by decide +kernel, by decide +kernel⟩, List.mem_of_getElem? (i := 30) (by decide +kernel), List.mem_of_getElem? (i := 129) (by decide +kernel), List.mem_of_getElem? (i := 130) (by decide +kernel)⟩
theorem lw_p1 : lw_okq (⟨"FieldMember", "refusalOfNew", "(IIIII)I"⟩, 11) := ⟨⟨by decide +kernel, by decide +kernel⟩, List.mem_of_getElem? (i := 22) (by decide +kernel), List.mem_of_getElem? (i := 176) (by decide +kernel), List.mem_of_getElem? (i := 177) (by decide +kernel)⟩
theorem lw_p2 : lw_okq (⟨"FieldMember", "isUnknownKind", "(I)Z"⟩, 11) := ⟨⟨by decide +kernel, by decide +kernel⟩, List.mem_of_getElem? (i := 22) (by decide +kernel), List.mem_of_getElem? (i := 180) (by decide +kernel), List.mem_of_getElem? (i := 181) (by decide +kernel)⟩
theorem lw_p3 : lw_okq (⟨"FieldMember", "ownField", "(II)I"⟩, 11) := ⟨⟨by decide +kernel, by decide +kernel⟩, List.mem_of_getElem? (i := 22) (by decide +kernel), List.mem_of_getElem? (i := 200) (by decide +kernel), List.mem_of_getElem? (i := 201) (by decide +kernel)⟩
theorem lw_p4 : lw_okq (⟨"FieldMember", "breakRule", "(I)I"⟩, 11) := ⟨⟨by decide +kernel, by decide +kernel⟩, List.mem_of_getElem? (i := 22) (by decide +kernel), List.mem_of_getElem? (i := 205) (by decide +kernel), List.mem_of_getElem? (i := 206) (by decide +kernel)⟩
theorem lw_p5 : lw_okq (⟨"FieldMember", "addEntry", "(LFieldMember$Entry;)I"⟩, 11) := ⟨⟨by decide +kernel, by decide +kernel⟩, List.mem_of_getElem? (i := 22) (by decide +kernel), List.mem_of_getElem? (i := 260) (by decide +kernel), List.mem_of_getElem? (i := 261) (by decide +kernel)⟩
theorem lw_p6 : lw_okq (⟨"FieldMember", "entryAt", "(I)LFieldMember$Entry;"⟩, 11) := ⟨⟨by decide +kernel, by decide +kernel⟩, List.mem_of_getElem? (i := 22) (by decide +kernel), List.mem_of_getElem? (i := 268) (by decide +kernel), List.mem_of_getElem? (i := 269) (by decide +kernel)⟩
theorem lw_p7 : lw_okq (⟨"FieldMember", "isDeclaredTwice", "(LFieldMember$Member;)Z"⟩, 11) := ⟨⟨by decide +kernel, by decide +kernel⟩, List.mem_of_getElem? (i := 22) (by decide +kernel), List.mem_of_getElem? (i := 357) (by decide +kernel), List.mem_of_getElem? (i := 358) (by decide +kernel)⟩
theorem lw_p8 : lw_okq (⟨"FieldMember", "ruleOfMeetings", "(LFieldMember$Member;)I"⟩, 11) := ⟨⟨by decide +kernel, by decide +kernel⟩, List.mem_of_getElem? (i := 22) (by decide +kernel), List.mem_of_getElem? (i := 377) (by decide +kernel), List.mem_of_getElem? (i := 378) (by decide +kernel)⟩
theorem lw_p9 : lw_okq (⟨"FieldMember", "meets", "(LFieldMember$Member;LFieldMember$Member;)Z"⟩, 11) := ⟨⟨by decide +kernel, by decide +kernel⟩, List.mem_of_getElem? (i := 22) (by decide +kernel), List.mem_of_getElem? (i := 381) (by decide +kernel), List.mem_of_getElem? (i := 382) (by decide +kernel)⟩
theorem lw_p10 : lw_okq (⟨"FieldMember", "isStaticOfFace", "(LFieldMember$Member;)Z"⟩, 11) := ⟨⟨by decide +kernel, by decide +kernel⟩, List.mem_of_getElem? (i := 22) (by decide +kernel), List.mem_of_getElem? (i := 388) (by decide +kernel), List.mem_of_getElem? (i := 389) (by decide +kernel)⟩
theorem lw_p11 : lw_okq (⟨"FieldMember", "ruleOfMeeting", "(LFieldMember$Member;LFieldMember$Member;)I"⟩, 11) := ⟨⟨by decide +kernel, by decide +kernel⟩, List.mem_of_getElem? (i := 22) (by decide +kernel), List.mem_of_getElem? (i := 392) (by decide +kernel), List.mem_of_getElem? (i := 393) (by decide +kernel)⟩
theorem lw_p12 : lw_okq (⟨"FieldMember", "mayStandForResult", "(LFieldMember$Member;LFieldMember$Member;)Z"⟩, 11) := ⟨⟨by decide +kernel, by decide +kernel⟩, List.mem_of_getElem? (i := 22) (by decide +kernel), List.mem_of_getElem? (i := 396) (by decide +kernel), List.mem_of_getElem? (i := 397) (by decide +kernel)⟩
theorem lw_p13 : lw_okq (⟨"FieldMember", "areBelow", "(II)Z"⟩, 11) := ⟨⟨by decide +kernel, by decide +kernel⟩, List.mem_of_getElem? (i := 22) (by decide +kernel), List.mem_of_getElem? (i := 400) (by decide +kernel), List.mem_of_getElem? (i := 401) (by decide +kernel)⟩
theorem lw_p14 : lw_okq (⟨"FieldMember", "leastMet", "(LFieldMember$Member;)I"⟩, 11) := ⟨⟨by decide +kernel, by decide +kernel⟩, List.mem_of_getElem? (i := 22) (by decide +kernel), List.mem_of_getElem? (i := 407) (by decide +kernel), List.mem_of_getElem? (i := 408) (by decide +kernel)⟩
theorem lw_p15 : lw_okq (⟨"FieldMember", "fieldFoundIn", "(II)I"⟩, 11) := ⟨⟨by decide +kernel, by decide +kernel⟩, List.mem_of_getElem? (i := 22) (by decide +kernel), List.mem_of_getElem? (i := 423) (by decide +kernel), List.mem_of_getElem? (i := 424) (by decide +kernel)⟩
def lw_privs_1 : List (MethodName × Nat) := [(⟨"FieldMember$Types", "allAbove", "(I)I"⟩, 5), (⟨"FieldMember", "refusalOfNew", "(IIIII)I"⟩, 11), (⟨"FieldMember", "isUnknownKind", "(I)Z"⟩, 11), (⟨"FieldMember", "ownField", "(II)I"⟩, 11), (⟨"FieldMember", "breakRule", "(I)I"⟩, 11), (⟨"FieldMember", "addEntry", "(LFieldMember$Entry;)I"⟩, 11), (⟨"FieldMember", "entryAt", "(I)LFieldMember$Entry;"⟩, 11), (⟨"FieldMember", "isDeclaredTwice", "(LFieldMember$Member;)Z"⟩, 11), (⟨"FieldMember", "ruleOfMeetings", "(LFieldMember$Member;)I"⟩, 11), (⟨"FieldMember", "meets", "(LFieldMember$Member;LFieldMember$Member;)Z"⟩, 11), (⟨"FieldMember", "isStaticOfFace", "(LFieldMember$Member;)Z"⟩, 11), (⟨"FieldMember", "ruleOfMeeting", "(LFieldMember$Member;LFieldMember$Member;)I"⟩, 11), (⟨"FieldMember", "mayStandForResult", "(LFieldMember$Member;LFieldMember$Member;)Z"⟩, 11), (⟨"FieldMember", "areBelow", "(II)Z"⟩, 11), (⟨"FieldMember", "leastMet", "(LFieldMember$Member;)I"⟩, 11), (⟨"FieldMember", "fieldFoundIn", "(II)I"⟩, 11)]
theorem lw_r1 : ∀ q ∈ lw_privs_1, lw_okq q := List.forall_mem_cons.mpr ⟨lw_p0, List.forall_mem_cons.mpr ⟨lw_p1, List.forall_mem_cons.mpr ⟨lw_p2, List.forall_mem_cons.mpr ⟨lw_p3, List.forall_mem_cons.mpr ⟨lw_p4, List.forall_mem_cons.mpr ⟨lw_p5, List.forall_mem_cons.mpr ⟨lw_p6, List.forall_mem_cons.mpr ⟨lw_p7, List.forall_mem_cons.mpr ⟨lw_p8, List.forall_mem_cons.mpr ⟨lw_p9, List.forall_mem_cons.mpr ⟨lw_p10, List.forall_mem_cons.mpr ⟨lw_p11, List.forall_mem_cons.mpr ⟨lw_p12, List.forall_mem_cons.mpr ⟨lw_p13, List.forall_mem_cons.mpr ⟨lw_p14, List.forall_mem_cons.mpr ⟨lw_p15, fun _ h => absurd h List.not_mem_nil⟩⟩⟩⟩⟩⟩⟩⟩⟩⟩⟩⟩⟩⟩⟩⟩
theorem lw_p16 : lw_okq (⟨"FieldMember", "foundThroughParent", "(I)I"⟩, 11) := ⟨⟨by decide +kernel, by decide +kernel⟩, List.mem_of_getElem? (i := 22) (by decide +kernel), List.mem_of_getElem? (i := 428) (by decide +kernel), List.mem_of_getElem? (i := 429) (by decide +kernel)⟩
theorem lw_p17 : lw_okq (⟨"FieldMember", "markCandidates", "(II)V"⟩, 11) := ⟨⟨by decide +kernel, by decide +kernel⟩, List.mem_of_getElem? (i := 22) (by decide +kernel), List.mem_of_getElem? (i := 447) (by decide +kernel), List.mem_of_getElem? (i := 448) (by decide +kernel)⟩
theorem lw_p18 : lw_okq (⟨"FieldMember", "isReachedFrom", "(ILFieldMember$Member;)Z"⟩, 11) := ⟨⟨by decide +kernel, by decide +kernel⟩, List.mem_of_getElem? (i := 22) (by decide +kernel), List.mem_of_getElem? (i := 451) (by decide +kernel), List.mem_of_getElem? (i := 452) (by decide +kernel)⟩
theorem lw_p19 : lw_okq (⟨"FieldMember", "markFitting", "(Z)Z"⟩, 11) := ⟨⟨by decide +kernel, by decide +kernel⟩, List.mem_of_getElem? (i := 22) (by decide +kernel), List.mem_of_getElem? (i := 455) (by decide +kernel), List.mem_of_getElem? (i := 456) (by decide +kernel)⟩
theorem lw_p20 : lw_okq (⟨"FieldMember", "takesArguments", "(LFieldMember$Member;Z)Z"⟩, 11) := ⟨⟨by decide +kernel, by decide +kernel⟩, List.mem_of_getElem? (i := 22) (by decide +kernel), List.mem_of_getElem? (i := 459) (by decide +kernel), List.mem_of_getElem? (i := 460) (by decide +kernel)⟩
theorem lw_p21 : lw_okq (⟨"FieldMember", "mayTakeAsMany", "(LFieldMember$Member;Z)Z"⟩, 11) := ⟨⟨by decide +kernel, by decide +kernel⟩, List.mem_of_getElem? (i := 22) (by decide +kernel), List.mem_of_getElem? (i := 463) (by decide +kernel), List.mem_of_getElem? (i := 464) (by decide +kernel)⟩
theorem lw_p22 : lw_okq (⟨"FieldMember$Member", "isItem", "(I)Z"⟩, 9) := ⟨⟨by decide +kernel, by decide +kernel⟩, List.mem_of_getElem? (i := 308) (by decide +kernel), List.mem_of_getElem? (i := 473) (by decide +kernel), List.mem_of_getElem? (i := 474) (by decide +kernel)⟩
theorem lw_p23 : lw_okq (⟨"FieldMember", "fits", "(IIII)Z"⟩, 11) := ⟨⟨by decide +kernel, by decide +kernel⟩, List.mem_of_getElem? (i := 22) (by decide +kernel), List.mem_of_getElem? (i := 483) (by decide +kernel), List.mem_of_getElem? (i := 484) (by decide +kernel)⟩
theorem lw_p24 : lw_okq (⟨"FieldMember", "isStoodFor", "(LFieldMember$Member;)Z"⟩, 11) := ⟨⟨by decide +kernel, by decide +kernel⟩, List.mem_of_getElem? (i := 22) (by decide +kernel), List.mem_of_getElem? (i := 490) (by decide +kernel), List.mem_of_getElem? (i := 491) (by decide +kernel)⟩
theorem lw_p25 : lw_okq (⟨"FieldMember", "nearestFitting", "(Z)I"⟩, 11) := ⟨⟨by decide +kernel, by decide +kernel⟩, List.mem_of_getElem? (i := 22) (by decide +kernel), List.mem_of_getElem? (i := 494) (by decide +kernel), List.mem_of_getElem? (i := 495) (by decide +kernel)⟩
theorem lw_p26 : lw_okq (⟨"FieldMember", "isNearest", "(LFieldMember$Member;Z)Z"⟩, 11) := ⟨⟨by decide +kernel, by decide +kernel⟩, List.mem_of_getElem? (i := 22) (by decide +kernel), List.mem_of_getElem? (i := 498) (by decide +kernel), List.mem_of_getElem? (i := 499) (by decide +kernel)⟩
theorem lw_p27 : lw_okq (⟨"FieldMember", "fitsPlaceByPlace", "(LFieldMember$Member;LFieldMember$Member;Z)Z"⟩, 11) := ⟨⟨by decide +kernel, by decide +kernel⟩, List.mem_of_getElem? (i := 22) (by decide +kernel), List.mem_of_getElem? (i := 502) (by decide +kernel), List.mem_of_getElem? (i := 503) (by decide +kernel)⟩
theorem lw_p28 : lw_okq (⟨"FieldMember", "isLacking", "(ILFieldMember$Member;)Z"⟩, 11) := ⟨⟨by decide +kernel, by decide +kernel⟩, List.mem_of_getElem? (i := 22) (by decide +kernel), List.mem_of_getElem? (i := 525) (by decide +kernel), List.mem_of_getElem? (i := 526) (by decide +kernel)⟩
theorem lw_p29 : lw_okq (⟨"FieldMember", "mayFill", "(LFieldMember$Member;)Z"⟩, 11) := ⟨⟨by decide +kernel, by decide +kernel⟩, List.mem_of_getElem? (i := 22) (by decide +kernel), List.mem_of_getElem? (i := 529) (by decide +kernel), List.mem_of_getElem? (i := 530) (by decide +kernel)⟩
theorem lw_p30 : lw_okq (⟨"java/lang/Throwable", "fillInStackTrace", "(I)Ljava/lang/Throwable;"⟩, 6) := ⟨⟨by decide +kernel, by decide +kernel⟩, List.mem_of_getElem? (i := 578) (by decide +kernel), List.mem_of_getElem? (i := 576) (by decide +kernel), List.mem_of_getElem? (i := 577) (by decide +kernel)⟩
theorem lw_p31 : lw_okq (⟨"FieldMemberModel", "isType", "(I)Z"⟩, 33) := ⟨⟨by decide +kernel, by decide +kernel⟩, List.mem_of_getElem? (i := 674) (by decide +kernel), List.mem_of_getElem? (i := 792) (by decide +kernel), List.mem_of_getElem? (i := 793) (by decide +kernel)⟩
def lw_privs_2 : List (MethodName × Nat) := [(⟨"FieldMember", "foundThroughParent", "(I)I"⟩, 11), (⟨"FieldMember", "markCandidates", "(II)V"⟩, 11), (⟨"FieldMember", "isReachedFrom", "(ILFieldMember$Member;)Z"⟩, 11), (⟨"FieldMember", "markFitting", "(Z)Z"⟩, 11), (⟨"FieldMember", "takesArguments", "(LFieldMember$Member;Z)Z"⟩, 11), (⟨"FieldMember", "mayTakeAsMany", "(LFieldMember$Member;Z)Z"⟩, 11), (⟨"FieldMember$Member", "isItem", "(I)Z"⟩, 9), (⟨"FieldMember", "fits", "(IIII)Z"⟩, 11), (⟨"FieldMember", "isStoodFor", "(LFieldMember$Member;)Z"⟩, 11), (⟨"FieldMember", "nearestFitting", "(Z)I"⟩, 11), (⟨"FieldMember", "isNearest", "(LFieldMember$Member;Z)Z"⟩, 11), (⟨"FieldMember", "fitsPlaceByPlace", "(LFieldMember$Member;LFieldMember$Member;Z)Z"⟩, 11), (⟨"FieldMember", "isLacking", "(ILFieldMember$Member;)Z"⟩, 11), (⟨"FieldMember", "mayFill", "(LFieldMember$Member;)Z"⟩, 11), (⟨"java/lang/Throwable", "fillInStackTrace", "(I)Ljava/lang/Throwable;"⟩, 6), (⟨"FieldMemberModel", "isType", "(I)Z"⟩, 33)]
theorem lw_r2 : ∀ q ∈ lw_privs_2, lw_okq q := List.forall_mem_cons.mpr ⟨lw_p16, List.forall_mem_cons.mpr ⟨lw_p17, List.forall_mem_cons.mpr ⟨lw_p18, List.forall_mem_cons.mpr ⟨lw_p19, List.forall_mem_cons.mpr ⟨lw_p20, List.forall_mem_cons.mpr ⟨lw_p21, List.forall_mem_cons.mpr ⟨lw_p22, List.forall_mem_cons.mpr ⟨lw_p23, List.forall_mem_cons.mpr ⟨lw_p24, List.forall_mem_cons.mpr ⟨lw_p25, List.forall_mem_cons.mpr ⟨lw_p26, List.forall_mem_cons.mpr ⟨lw_p27, List.forall_mem_cons.mpr ⟨lw_p28, List.forall_mem_cons.mpr ⟨lw_p29, List.forall_mem_cons.mpr ⟨lw_p30, List.forall_mem_cons.mpr ⟨lw_p31, fun _ h => absurd h List.not_mem_nil⟩⟩⟩⟩⟩⟩⟩⟩⟩⟩⟩⟩⟩⟩⟩⟩
theorem lw_p32 : lw_okq (⟨"FieldMemberModel", "reckons", "(I)V"⟩, 33) := ⟨⟨by decide +kernel, by decide +kernel⟩, List.mem_of_getElem? (i := 674) (by decide +kernel), List.mem_of_getElem? (i := 796) (by decide +kernel), List.mem_of_getElem? (i := 797) (by decide +kernel)⟩
theorem lw_p33 : lw_okq (⟨"FieldMemberModel", "adds", "(II)V"⟩, 33) := ⟨⟨by decide +kernel, by decide +kernel⟩, List.mem_of_getElem? (i := 674) (by decide +kernel), List.mem_of_getElem? (i := 800) (by decide +kernel), List.mem_of_getElem? (i := 801) (by decide +kernel)⟩
theorem lw_p34 : lw_okq (⟨"FieldMemberModel", "isFace", "(I)Z"⟩, 33) := ⟨⟨by decide +kernel, by decide +kernel⟩, List.mem_of_getElem? (i := 674) (by decide +kernel), List.mem_of_getElem? (i := 808) (by decide +kernel), List.mem_of_getElem? (i := 809) (by decide +kernel)⟩
theorem lw_p35 : lw_okq (⟨"FieldMemberModel", "lies", "(II)Z"⟩, 33) := ⟨⟨by decide +kernel, by decide +kernel⟩, List.mem_of_getElem? (i := 674) (by decide +kernel), List.mem_of_getElem? (i := 816) (by decide +kernel), List.mem_of_getElem? (i := 817) (by decide +kernel)⟩
theorem lw_p36 : lw_okq (⟨"FieldMemberModel", "refusal", "(IIIII)I"⟩, 33) := ⟨⟨by decide +kernel, by decide +kernel⟩, List.mem_of_getElem? (i := 674) (by decide +kernel), List.mem_of_getElem? (i := 824) (by decide +kernel), List.mem_of_getElem? (i := 825) (by decide +kernel)⟩
theorem lw_p37 : lw_okq (⟨"FieldMemberModel", "noKind", "(I)Z"⟩, 33) := ⟨⟨by decide +kernel, by decide +kernel⟩, List.mem_of_getElem? (i := 674) (by decide +kernel), List.mem_of_getElem? (i := 828) (by decide +kernel), List.mem_of_getElem? (i := 829) (by decide +kernel)⟩
theorem lw_p38 : lw_okq (⟨"FieldMemberModel", "ruleOfField", "(IIII)I"⟩, 33) := ⟨⟨by decide +kernel, by decide +kernel⟩, List.mem_of_getElem? (i := 674) (by decide +kernel), List.mem_of_getElem? (i := 832) (by decide +kernel), List.mem_of_getElem? (i := 833) (by decide +kernel)⟩
theorem lw_p39 : lw_okq (⟨"FieldMemberModel", "fieldOf", "(II)I"⟩, 33) := ⟨⟨by decide +kernel, by decide +kernel⟩, List.mem_of_getElem? (i := 674) (by decide +kernel), List.mem_of_getElem? (i := 839) (by decide +kernel), List.mem_of_getElem? (i := 840) (by decide +kernel)⟩
theorem lw_p40 : lw_okq (⟨"FieldMemberModel", "breaks", "(I)I"⟩, 33) := ⟨⟨by decide +kernel, by decide +kernel⟩, List.mem_of_getElem? (i := 674) (by decide +kernel), List.mem_of_getElem? (i := 843) (by decide +kernel), List.mem_of_getElem? (i := 844) (by decide +kernel)⟩
theorem lw_p41 : lw_okq (⟨"FieldMemberModel", "lays", "(IIIII)V"⟩, 33) := ⟨⟨by decide +kernel, by decide +kernel⟩, List.mem_of_getElem? (i := 674) (by decide +kernel), List.mem_of_getElem? (i := 847) (by decide +kernel), List.mem_of_getElem? (i := 848) (by decide +kernel)⟩
theorem lw_p42 : lw_okq (⟨"FieldMemberModel", "isEntry", "(I)Z"⟩, 33) := ⟨⟨by decide +kernel, by decide +kernel⟩, List.mem_of_getElem? (i := 674) (by decide +kernel), List.mem_of_getElem? (i := 855) (by decide +kernel), List.mem_of_getElem? (i := 856) (by decide +kernel)⟩
theorem lw_p43 : lw_okq (⟨"FieldMemberModel", "ruleOfMember", "(IIZ)I"⟩, 33) := ⟨⟨by decide +kernel, by decide +kernel⟩, List.mem_of_getElem? (i := 674) (by decide +kernel), List.mem_of_getElem? (i := 887) (by decide +kernel), List.mem_of_getElem? (i := 888) (by decide +kernel)⟩
theorem lw_p44 : lw_okq (⟨"FieldMemberModel", "sameParts", "(II)Z"⟩, 33) := ⟨⟨by decide +kernel, by decide +kernel⟩, List.mem_of_getElem? (i := 674) (by decide +kernel), List.mem_of_getElem? (i := 899) (by decide +kernel), List.mem_of_getElem? (i := 900) (by decide +kernel)⟩
theorem lw_p45 : lw_okq (⟨"FieldMemberModel", "meets", "(II)Z"⟩, 33) := ⟨⟨by decide +kernel, by decide +kernel⟩, List.mem_of_getElem? (i := 674) (by decide +kernel), List.mem_of_getElem? (i := 903) (by decide +kernel), List.mem_of_getElem? (i := 904) (by decide +kernel)⟩
theorem lw_p46 : lw_okq (⟨"FieldMemberModel", "stands", "(I)Z"⟩, 33) := ⟨⟨by decide +kernel, by decide +kernel⟩, List.mem_of_getElem? (i := 674) (by decide +kernel), List.mem_of_getElem? (i := 907) (by decide +kernel), List.mem_of_getElem? (i := 908) (by decide +kernel)⟩
theorem lw_p47 : lw_okq (⟨"FieldMemberModel", "ruleAgainst", "(II)I"⟩, 33) := ⟨⟨by decide +kernel, by decide +kernel⟩, List.mem_of_getElem? (i := 674) (by decide +kernel), List.mem_of_getElem? (i := 911) (by decide +kernel), List.mem_of_getElem? (i := 912) (by decide +kernel)⟩
def lw_privs_3 : List (MethodName × Nat) := [(⟨"FieldMemberModel", "reckons", "(I)V"⟩, 33), (⟨"FieldMemberModel", "adds", "(II)V"⟩, 33), (⟨"FieldMemberModel", "isFace", "(I)Z"⟩, 33), (⟨"FieldMemberModel", "lies", "(II)Z"⟩, 33), (⟨"FieldMemberModel", "refusal", "(IIIII)I"⟩, 33), (⟨"FieldMemberModel", "noKind", "(I)Z"⟩, 33), (⟨"FieldMemberModel", "ruleOfField", "(IIII)I"⟩, 33), (⟨"FieldMemberModel", "fieldOf", "(II)I"⟩, 33), (⟨"FieldMemberModel", "breaks", "(I)I"⟩, 33), (⟨"FieldMemberModel", "lays", "(IIIII)V"⟩, 33), (⟨"FieldMemberModel", "isEntry", "(I)Z"⟩, 33), (⟨"FieldMemberModel", "ruleOfMember", "(IIZ)I"⟩, 33), (⟨"FieldMemberModel", "sameParts", "(II)Z"⟩, 33), (⟨"FieldMemberModel", "meets", "(II)Z"⟩, 33), (⟨"FieldMemberModel", "stands", "(I)Z"⟩, 33), (⟨"FieldMemberModel", "ruleAgainst", "(II)I"⟩, 33)]
theorem lw_r3 : ∀ q ∈ lw_privs_3, lw_okq q := List.forall_mem_cons.mpr ⟨lw_p32, List.forall_mem_cons.mpr ⟨lw_p33, List.forall_mem_cons.mpr ⟨lw_p34, List.forall_mem_cons.mpr ⟨lw_p35, List.forall_mem_cons.mpr ⟨lw_p36, List.forall_mem_cons.mpr ⟨lw_p37, List.forall_mem_cons.mpr ⟨lw_p38, List.forall_mem_cons.mpr ⟨lw_p39, List.forall_mem_cons.mpr ⟨lw_p40, List.forall_mem_cons.mpr ⟨lw_p41, List.forall_mem_cons.mpr ⟨lw_p42, List.forall_mem_cons.mpr ⟨lw_p43, List.forall_mem_cons.mpr ⟨lw_p44, List.forall_mem_cons.mpr ⟨lw_p45, List.forall_mem_cons.mpr ⟨lw_p46, List.forall_mem_cons.mpr ⟨lw_p47, fun _ h => absurd h List.not_mem_nil⟩⟩⟩⟩⟩⟩⟩⟩⟩⟩⟩⟩⟩⟩⟩⟩
theorem lw_p48 : lw_okq (⟨"FieldMemberModel", "seen", "(I)I"⟩, 33) := ⟨⟨by decide +kernel, by decide +kernel⟩, List.mem_of_getElem? (i := 674) (by decide +kernel), List.mem_of_getElem? (i := 915) (by decide +kernel), List.mem_of_getElem? (i := 916) (by decide +kernel)⟩
theorem lw_p49 : lw_okq (⟨"FieldMemberModel", "leastMet", "(I)I"⟩, 33) := ⟨⟨by decide +kernel, by decide +kernel⟩, List.mem_of_getElem? (i := 674) (by decide +kernel), List.mem_of_getElem? (i := 919) (by decide +kernel), List.mem_of_getElem? (i := 920) (by decide +kernel)⟩
theorem lw_p50 : lw_okq (⟨"FieldMemberModel", "candidates", "(II)V"⟩, 33) := ⟨⟨by decide +kernel, by decide +kernel⟩, List.mem_of_getElem? (i := 674) (by decide +kernel), List.mem_of_getElem? (i := 950) (by decide +kernel), List.mem_of_getElem? (i := 951) (by decide +kernel)⟩
theorem lw_p51 : lw_okq (⟨"FieldMemberModel", "nearest", "(Z)I"⟩, 33) := ⟨⟨by decide +kernel, by decide +kernel⟩, List.mem_of_getElem? (i := 674) (by decide +kernel), List.mem_of_getElem? (i := 954) (by decide +kernel), List.mem_of_getElem? (i := 955) (by decide +kernel)⟩
theorem lw_p52 : lw_okq (⟨"FieldMemberModel", "takes", "(IZ)Z"⟩, 33) := ⟨⟨by decide +kernel, by decide +kernel⟩, List.mem_of_getElem? (i := 674) (by decide +kernel), List.mem_of_getElem? (i := 958) (by decide +kernel), List.mem_of_getElem? (i := 959) (by decide +kernel)⟩
theorem lw_p53 : lw_okq (⟨"FieldMemberModel", "kindAt", "(IIZ)I"⟩, 33) := ⟨⟨by decide +kernel, by decide +kernel⟩, List.mem_of_getElem? (i := 674) (by decide +kernel), List.mem_of_getElem? (i := 962) (by decide +kernel), List.mem_of_getElem? (i := 963) (by decide +kernel)⟩
theorem lw_p54 : lw_okq (⟨"FieldMemberModel", "dimAt", "(IIZ)I"⟩, 33) := ⟨⟨by decide +kernel, by decide +kernel⟩, List.mem_of_getElem? (i := 674) (by decide +kernel), List.mem_of_getElem? (i := 966) (by decide +kernel), List.mem_of_getElem? (i := 967) (by decide +kernel)⟩
theorem lw_p55 : lw_okq (⟨"FieldMemberModel", "fits", "(IIII)Z"⟩, 33) := ⟨⟨by decide +kernel, by decide +kernel⟩, List.mem_of_getElem? (i := 674) (by decide +kernel), List.mem_of_getElem? (i := 970) (by decide +kernel), List.mem_of_getElem? (i := 971) (by decide +kernel)⟩
theorem lw_p56 : lw_okq (⟨"FieldMemberModel", "isNearer", "(IIZ)Z"⟩, 33) := ⟨⟨by decide +kernel, by decide +kernel⟩, List.mem_of_getElem? (i := 674) (by decide +kernel), List.mem_of_getElem? (i := 977) (by decide +kernel), List.mem_of_getElem? (i := 978) (by decide +kernel)⟩
theorem lw_p57 : lw_okq (⟨"FieldMemberModel", "isLacked", "(II)Z"⟩, 33) := ⟨⟨by decide +kernel, by decide +kernel⟩, List.mem_of_getElem? (i := 674) (by decide +kernel), List.mem_of_getElem? (i := 989) (by decide +kernel), List.mem_of_getElem? (i := 990) (by decide +kernel)⟩
theorem lw_p58 : lw_okq (⟨"FieldMemberModel", "makes", "(III)Z"⟩, 33) := ⟨⟨by decide +kernel, by decide +kernel⟩, List.mem_of_getElem? (i := 674) (by decide +kernel), List.mem_of_getElem? (i := 993) (by decide +kernel), List.mem_of_getElem? (i := 994) (by decide +kernel)⟩
def lw_privs_4 : List (MethodName × Nat) := [(⟨"FieldMemberModel", "seen", "(I)I"⟩, 33), (⟨"FieldMemberModel", "leastMet", "(I)I"⟩, 33), (⟨"FieldMemberModel", "candidates", "(II)V"⟩, 33), (⟨"FieldMemberModel", "nearest", "(Z)I"⟩, 33), (⟨"FieldMemberModel", "takes", "(IZ)Z"⟩, 33), (⟨"FieldMemberModel", "kindAt", "(IIZ)I"⟩, 33), (⟨"FieldMemberModel", "dimAt", "(IIZ)I"⟩, 33), (⟨"FieldMemberModel", "fits", "(IIII)Z"⟩, 33), (⟨"FieldMemberModel", "isNearer", "(IIZ)Z"⟩, 33), (⟨"FieldMemberModel", "isLacked", "(II)Z"⟩, 33), (⟨"FieldMemberModel", "makes", "(III)Z"⟩, 33)]
theorem lw_r4 : ∀ q ∈ lw_privs_4, lw_okq q := List.forall_mem_cons.mpr ⟨lw_p48, List.forall_mem_cons.mpr ⟨lw_p49, List.forall_mem_cons.mpr ⟨lw_p50, List.forall_mem_cons.mpr ⟨lw_p51, List.forall_mem_cons.mpr ⟨lw_p52, List.forall_mem_cons.mpr ⟨lw_p53, List.forall_mem_cons.mpr ⟨lw_p54, List.forall_mem_cons.mpr ⟨lw_p55, List.forall_mem_cons.mpr ⟨lw_p56, List.forall_mem_cons.mpr ⟨lw_p57, List.forall_mem_cons.mpr ⟨lw_p58, fun _ h => absurd h List.not_mem_nil⟩⟩⟩⟩⟩⟩⟩⟩⟩⟩⟩
def lw_privs : List (MethodName × Nat) := lw_privs_1 ++ (lw_privs_2 ++ (lw_privs_3 ++ (lw_privs_4)))
def lw_tbl : List Cond := k2_sels lw_privs ++ tables_1
theorem lw_privs_ok : ∀ q ∈ lw_privs, lw_okq q := by
  show ∀ q ∈ lw_privs_1 ++ (lw_privs_2 ++ (lw_privs_3 ++ (lw_privs_4))), lw_okq q
  exact List.forall_mem_append.mpr ⟨lw_r1, List.forall_mem_append.mpr ⟨lw_r2, List.forall_mem_append.mpr ⟨lw_r3, lw_r4⟩⟩⟩
-- ===== end of PART A; then your names; then what follows =====
end
section
def RX0 : String := "FieldMember$Constants"
def TX0 : u_T := fun k => match k with
  | _ => ("", "", "", false)
def tyX0 : Nat → FieldType := fun k => match k with
  | _ => .int
abbrev wsX00 : List Cond := u_ws RX0 TX0 0
theorem nmX0 : ∀ a, a < 0 → ∀ b, b < 0 → a ≠ b → (TX0 a).2.1 ≠ (TX0 b).2.1 := by decide +kernel
theorem tyX0_ok : ∀ k, k < 0 → parseFieldDescriptor (TX0 k).2.2.1 = some (tyX0 k) := by decide +kernel
abbrev cX0_isOfKind : ByteArray := prog_2_method_2_code
def yX0_isOfKind : MethodName := ⟨RX0, "isOfKind", "(IJ)Z"⟩
abbrev cX0_asLong : ByteArray := prog_2_method_3_code
def yX0_asLong : MethodName := ⟨RX0, "asLong", "(IJ)J"⟩
abbrev cX0_bitsOf : ByteArray := prog_2_method_4_code
def yX0_bitsOf : MethodName := ⟨RX0, "bitsOf", "(JII)J"⟩
abbrev cX0_highestBit : ByteArray := prog_2_method_5_code
def yX0_highestBit : MethodName := ⟨RX0, "highestBit", "(J)I"⟩
abbrev cX0_roundedOff : ByteArray := prog_2_method_6_code
def yX0_roundedOff : MethodName := ⟨RX0, "roundedOff", "(JI)J"⟩
def RX1 : String := "FieldMember$Entry"
def TX1 : u_T := fun k => match k with
  | _ => ("", "", "", false)
def tyX1 : Nat → FieldType := fun k => match k with
  | _ => .int
abbrev wsX10 : List Cond := u_ws RX1 TX1 0
theorem nmX1 : ∀ a, a < 0 → ∀ b, b < 0 → a ≠ b → (TX1 a).2.1 ≠ (TX1 b).2.1 := by decide +kernel
theorem tyX1_ok : ∀ k, k < 0 → parseFieldDescriptor (TX1 k).2.2.1 = some (tyX1 k) := by decide +kernel
abbrev cX1_init : ByteArray := prog_3_method_1_code
def yX1_init : MethodName := ⟨RX1, "<init>", "(IIIII)V"⟩
abbrev cX1_hasAny : ByteArray := prog_3_method_2_code
def yX1_hasAny : MethodName := ⟨RX1, "hasAny", "(I)Z"⟩
def RX2 : String := "FieldMember$Field"
def TX2 : u_T := fun k => match k with
  | 0 => ("FieldMember$Entry", "type", "I", true)
  | 1 => ("FieldMember$Entry", "name", "I", true)
  | 2 => ("FieldMember$Entry", "kind", "I", true)
  | 3 => ("FieldMember$Entry", "dims", "I", true)
  | 4 => ("FieldMember$Entry", "marks", "I", true)
  | 5 => ("FieldMember$Field", "told", "Z", false)
  | _ => ("FieldMember$Field", "constant", "J", false)
def tyX2 : Nat → FieldType := fun k => match k with
  | 0 => .int
  | 1 => .int
  | 2 => .int
  | 3 => .int
  | 4 => .int
  | 5 => .boolean
  | _ => .long
abbrev wsX20 : List Cond := u_ws RX2 TX2 7
theorem nmX2 : ∀ a, a < 7 → ∀ b, b < 7 → a ≠ b → (TX2 a).2.1 ≠ (TX2 b).2.1 := by decide +kernel
theorem tyX2_ok : ∀ k, k < 7 → parseFieldDescriptor (TX2 k).2.2.1 = some (tyX2 k) := by decide +kernel
abbrev cX2_init : ByteArray := prog_4_method_1_code
def yX2_init : MethodName := ⟨RX2, "<init>", "(IIIII)V"⟩
abbrev cX2_mayHaveConstant : ByteArray := prog_4_method_2_code
def yX2_mayHaveConstant : MethodName := ⟨RX2, "mayHaveConstant", "()Z"⟩
def RX3 : String := "FieldMember$Member"
def TX3 : u_T := fun k => match k with
  | 0 => ("FieldMember$Entry", "type", "I", true)
  | 1 => ("FieldMember$Entry", "name", "I", true)
  | 2 => ("FieldMember$Entry", "kind", "I", true)
  | 3 => ("FieldMember$Entry", "dims", "I", true)
  | 4 => ("FieldMember$Entry", "marks", "I", true)
  | 5 => ("FieldMember$Member", "body", "Z", true)
  | 6 => ("FieldMember$Member", "parameters", "LFieldMember$Row;", true)
  | 7 => ("FieldMember$Member", "varied", "Z", false)
  | _ => ("FieldMember$Member", "met", "I", false)
def tyX3 : Nat → FieldType := fun k => match k with
  | 0 => .int
  | 1 => .int
  | 2 => .int
  | 3 => .int
  | 4 => .int
  | 5 => .boolean
  | 6 => .object "FieldMember$Row"
  | 7 => .boolean
  | _ => .int
abbrev wsX30 : List Cond := u_ws RX3 TX3 9
theorem nmX3 : ∀ a, a < 9 → ∀ b, b < 9 → a ≠ b → (TX3 a).2.1 ≠ (TX3 b).2.1 := by decide +kernel
theorem tyX3_ok : ∀ k, k < 9 → parseFieldDescriptor (TX3 k).2.2.1 = some (tyX3 k) := by decide +kernel
abbrev cX3_init : ByteArray := prog_5_method_1_code
def yX3_init : MethodName := ⟨RX3, "<init>", "(IIIIIZ)V"⟩
abbrev cX3_isLike : ByteArray := prog_5_method_2_code
def yX3_isLike : MethodName := ⟨RX3, "isLike", "(LFieldMember$Member;)Z"⟩
abbrev cX3_kindAt : ByteArray := prog_5_method_3_code
def yX3_kindAt : MethodName := ⟨RX3, "kindAt", "(IZ)I"⟩
abbrev cX3_dimsAt : ByteArray := prog_5_method_4_code
def yX3_dimsAt : MethodName := ⟨RX3, "dimsAt", "(IZ)I"⟩
abbrev cX3_isItem : ByteArray := prog_5_method_5_code
def yX3_isItem : MethodName := ⟨RX3, "isItem", "(I)Z"⟩
def RX4 : String := "FieldMember$Row"
def TX4 : u_T := fun k => match k with
  | 0 => ("FieldMember$Row", "kinds", "[I", true)
  | 1 => ("FieldMember$Row", "dims", "[I", true)
  | _ => ("FieldMember$Row", "size", "I", false)
def tyX4 : Nat → FieldType := fun k => match k with
  | 0 => .array .int
  | 1 => .array .int
  | _ => .int
abbrev wsX40 : List Cond := u_ws RX4 TX4 3
theorem nmX4 : ∀ a, a < 3 → ∀ b, b < 3 → a ≠ b → (TX4 a).2.1 ≠ (TX4 b).2.1 := by decide +kernel
theorem tyX4_ok : ∀ k, k < 3 → parseFieldDescriptor (TX4 k).2.2.1 = some (tyX4 k) := by decide +kernel
abbrev cX4_init : ByteArray := prog_6_method_1_code
def yX4_init : MethodName := ⟨RX4, "<init>", "()V"⟩
abbrev cX4_isFull : ByteArray := prog_6_method_2_code
def yX4_isFull : MethodName := ⟨RX4, "isFull", "()Z"⟩
abbrev cX4_add : ByteArray := prog_6_method_3_code
def yX4_add : MethodName := ⟨RX4, "add", "(II)I"⟩
abbrev cX4_empty : ByteArray := prog_6_method_4_code
def yX4_empty : MethodName := ⟨RX4, "empty", "()V"⟩
abbrev cX4_kindAt : ByteArray := prog_6_method_5_code
def yX4_kindAt : MethodName := ⟨RX4, "kindAt", "(I)I"⟩
abbrev cX4_dimsAt : ByteArray := prog_6_method_6_code
def yX4_dimsAt : MethodName := ⟨RX4, "dimsAt", "(I)I"⟩
abbrev cX4_isSame : ByteArray := prog_6_method_7_code
def yX4_isSame : MethodName := ⟨RX4, "isSame", "(LFieldMember$Row;)Z"⟩
def RX5 : String := "FieldMember$Rules"
def TX5 : u_T := fun k => match k with
  | _ => ("", "", "", false)
def tyX5 : Nat → FieldType := fun k => match k with
  | _ => .int
abbrev wsX50 : List Cond := u_ws RX5 TX5 0
theorem nmX5 : ∀ a, a < 0 → ∀ b, b < 0 → a ≠ b → (TX5 a).2.1 ≠ (TX5 b).2.1 := by decide +kernel
theorem tyX5_ok : ∀ k, k < 0 → parseFieldDescriptor (TX5 k).2.2.1 = some (tyX5 k) := by decide +kernel
abbrev cX5_ofField : ByteArray := prog_7_method_2_code
def yX5_ofField : MethodName := ⟨RX5, "ofField", "(IIZ)I"⟩
abbrev cX5_ofFaceMember : ByteArray := prog_7_method_3_code
def yX5_ofFaceMember : MethodName := ⟨RX5, "ofFaceMember", "(IZ)I"⟩
abbrev cX5_ofClassMember : ByteArray := prog_7_method_4_code
def yX5_ofClassMember : MethodName := ⟨RX5, "ofClassMember", "(IZZ)I"⟩
abbrev cX5_ofParameter : ByteArray := prog_7_method_5_code
def yX5_ofParameter : MethodName := ⟨RX5, "ofParameter", "(IIZZ)I"⟩
abbrev cX5_faceMarks : ByteArray := prog_7_method_6_code
def yX5_faceMarks : MethodName := ⟨RX5, "faceMarks", "(I)I"⟩
abbrev cX5_sightOf : ByteArray := prog_7_method_7_code
def yX5_sightOf : MethodName := ⟨RX5, "sightOf", "(I)I"⟩
abbrev cX5_ofAnyMember : ByteArray := prog_7_method_8_code
def yX5_ofAnyMember : MethodName := ⟨RX5, "ofAnyMember", "(I)I"⟩
abbrev cX5_ofBody : ByteArray := prog_7_method_9_code
def yX5_ofBody : MethodName := ⟨RX5, "ofBody", "(ZZ)I"⟩
abbrev cX5_hasAny : ByteArray := prog_7_method_10_code
def yX5_hasAny : MethodName := ⟨RX5, "hasAny", "(II)Z"⟩
abbrev cX5_hasSeveral : ByteArray := prog_7_method_11_code
def yX5_hasSeveral : MethodName := ⟨RX5, "hasSeveral", "(II)Z"⟩
def RX6 : String := "FieldMember$Types"
def TX6 : u_T := fun k => match k with
  | 0 => ("FieldMember$Types", "sorts", "[I", true)
  | 1 => ("FieldMember$Types", "parents", "[I", true)
  | 2 => ("FieldMember$Types", "faces", "[I", true)
  | 3 => ("FieldMember$Types", "above", "[I", true)
  | _ => ("FieldMember$Types", "size", "I", false)
def tyX6 : Nat → FieldType := fun k => match k with
  | 0 => .array .int
  | 1 => .array .int
  | 2 => .array .int
  | 3 => .array .int
  | _ => .int
abbrev wsX60 : List Cond := u_ws RX6 TX6 5
theorem nmX6 : ∀ a, a < 5 → ∀ b, b < 5 → a ≠ b → (TX6 a).2.1 ≠ (TX6 b).2.1 := by decide +kernel
theorem tyX6_ok : ∀ k, k < 5 → parseFieldDescriptor (TX6 k).2.2.1 = some (tyX6 k) := by decide +kernel
abbrev cX6_init : ByteArray := prog_8_method_1_code
def yX6_init : MethodName := ⟨RX6, "<init>", "()V"⟩
abbrev cX6_has : ByteArray := prog_8_method_2_code
def yX6_has : MethodName := ⟨RX6, "has", "(I)Z"⟩
abbrev cX6_sortOf : ByteArray := prog_8_method_3_code
def yX6_sortOf : MethodName := ⟨RX6, "sortOf", "(I)I"⟩
abbrev cX6_parentOf : ByteArray := prog_8_method_4_code
def yX6_parentOf : MethodName := ⟨RX6, "parentOf", "(I)I"⟩
abbrev cX6_isFace : ByteArray := prog_8_method_5_code
def yX6_isFace : MethodName := ⟨RX6, "isFace", "(I)Z"⟩
abbrev cX6_mayBeParent : ByteArray := prog_8_method_6_code
def yX6_mayBeParent : MethodName := ⟨RX6, "mayBeParent", "(I)Z"⟩
abbrev cX6_mustLackNothing : ByteArray := prog_8_method_7_code
def yX6_mustLackNothing : MethodName := ⟨RX6, "mustLackNothing", "(I)Z"⟩
abbrev cX6_hasFace : ByteArray := prog_8_method_8_code
def yX6_hasFace : MethodName := ⟨RX6, "hasFace", "(II)Z"⟩
abbrev cX6_isBelow : ByteArray := prog_8_method_9_code
def yX6_isBelow : MethodName := ⟨RX6, "isBelow", "(II)Z"⟩
abbrev cX6_add : ByteArray := prog_8_method_10_code
def yX6_add : MethodName := ⟨RX6, "add", "(II)I"⟩
abbrev cX6_addFace : ByteArray := prog_8_method_11_code
def yX6_addFace : MethodName := ⟨RX6, "addFace", "(II)I"⟩
abbrev cX6_empty : ByteArray := prog_8_method_12_code
def yX6_empty : MethodName := ⟨RX6, "empty", "()V"⟩
abbrev cX6_allAbove : ByteArray := prog_8_method_13_code
def yX6_allAbove : MethodName := ⟨RX6, "allAbove", "(I)I"⟩
def RX7 : String := "FieldMember"
def TX7 : u_T := fun k => match k with
  | 0 => ("FieldMember", "types", "LFieldMember$Types;", true)
  | 1 => ("FieldMember", "entries", "[LFieldMember$Entry;", true)
  | 2 => ("FieldMember", "entryCount", "I", false)
  | 3 => ("FieldMember", "begun", "LFieldMember$Member;", false)
  | 4 => ("FieldMember", "arguments", "LFieldMember$Row;", true)
  | 5 => ("FieldMember", "latestWay", "I", false)
  | 6 => ("FieldMember", "brokenTimes", "[I", true)
  | 7 => ("FieldMember", "brokenInAll", "I", false)
  | 8 => ("FieldMember", "foundFields", "[I", true)
  | 9 => ("FieldMember", "candidates", "[Z", true)
  | _ => ("FieldMember", "fitting", "[Z", true)
def tyX7 : Nat → FieldType := fun k => match k with
  | 0 => .object "FieldMember$Types"
  | 1 => .array (.object "FieldMember$Entry")
  | 2 => .int
  | 3 => .object "FieldMember$Member"
  | 4 => .object "FieldMember$Row"
  | 5 => .int
  | 6 => .array .int
  | 7 => .int
  | 8 => .array .int
  | 9 => .array .boolean
  | _ => .array .boolean
abbrev wsX70 : List Cond := u_ws RX7 TX7 11
theorem nmX7 : ∀ a, a < 11 → ∀ b, b < 11 → a ≠ b → (TX7 a).2.1 ≠ (TX7 b).2.1 := by decide +kernel
theorem tyX7_ok : ∀ k, k < 11 → parseFieldDescriptor (TX7 k).2.2.1 = some (tyX7 k) := by decide +kernel
abbrev cX7_init : ByteArray := prog_1_method_1_code
def yX7_init : MethodName := ⟨RX7, "<init>", "()V"⟩
abbrev cX7_type : ByteArray := prog_1_method_2_code
def yX7_type : MethodName := ⟨RX7, "type", "(II)I"⟩
abbrev cX7_face : ByteArray := prog_1_method_3_code
def yX7_face : MethodName := ⟨RX7, "face", "(II)I"⟩
abbrev cX7_below : ByteArray := prog_1_method_4_code
def yX7_below : MethodName := ⟨RX7, "below", "(II)I"⟩
abbrev cX7_field : ByteArray := prog_1_method_5_code
def yX7_field : MethodName := ⟨RX7, "field", "(IIIII)I"⟩
abbrev cX7_constant : ByteArray := prog_1_method_6_code
def yX7_constant : MethodName := ⟨RX7, "constant", "(IJ)I"⟩
abbrev cX7_value : ByteArray := prog_1_method_7_code
def yX7_value : MethodName := ⟨RX7, "value", "(I)J"⟩
abbrev cX7_member : ByteArray := prog_1_method_8_code
def yX7_member : MethodName := ⟨RX7, "member", "(IIIIIZ)I"⟩
abbrev cX7_parameter : ByteArray := prog_1_method_9_code
def yX7_parameter : MethodName := ⟨RX7, "parameter", "(IIZ)I"⟩
abbrev cX7_end : ByteArray := prog_1_method_10_code
def yX7_end : MethodName := ⟨RX7, "end", "()I"⟩
abbrev cX7_entry : ByteArray := prog_1_method_11_code
def yX7_entry : MethodName := ⟨RX7, "entry", "(II)I"⟩
abbrev cX7_shape : ByteArray := prog_1_method_12_code
def yX7_shape : MethodName := ⟨RX7, "shape", "(II)I"⟩
abbrev cX7_parameterOf : ByteArray := prog_1_method_13_code
def yX7_parameterOf : MethodName := ⟨RX7, "parameterOf", "(IIZ)I"⟩
abbrev cX7_sought : ByteArray := prog_1_method_14_code
def yX7_sought : MethodName := ⟨RX7, "sought", "(II)I"⟩
abbrev cX7_argument : ByteArray := prog_1_method_15_code
def yX7_argument : MethodName := ⟨RX7, "argument", "(II)I"⟩
abbrev cX7_call : ByteArray := prog_1_method_16_code
def yX7_call : MethodName := ⟨RX7, "call", "(II)I"⟩
abbrev cX7_way : ByteArray := prog_1_method_17_code
def yX7_way : MethodName := ⟨RX7, "way", "()I"⟩
abbrev cX7_lacks : ByteArray := prog_1_method_18_code
def yX7_lacks : MethodName := ⟨RX7, "lacks", "(II)I"⟩
abbrev cX7_count : ByteArray := prog_1_method_19_code
def yX7_count : MethodName := ⟨RX7, "count", "(I)I"⟩
abbrev cX7_broken : ByteArray := prog_1_method_20_code
def yX7_broken : MethodName := ⟨RX7, "broken", "(I)I"⟩
abbrev cX7_clear : ByteArray := prog_1_method_21_code
def yX7_clear : MethodName := ⟨RX7, "clear", "()I"⟩
abbrev cX7_asNumber : ByteArray := prog_1_method_22_code
def yX7_asNumber : MethodName := ⟨RX7, "asNumber", "(Z)I"⟩
abbrev cX7_isName : ByteArray := prog_1_method_23_code
def yX7_isName : MethodName := ⟨RX7, "isName", "(I)Z"⟩
abbrev cX7_isUnknownKind : ByteArray := prog_1_method_24_code
def yX7_isUnknownKind : MethodName := ⟨RX7, "isUnknownKind", "(I)Z"⟩
abbrev cX7_areDims : ByteArray := prog_1_method_25_code
def yX7_areDims : MethodName := ⟨RX7, "areDims", "(I)Z"⟩
abbrev cX7_mayBeDeclared : ByteArray := prog_1_method_26_code
def yX7_mayBeDeclared : MethodName := ⟨RX7, "mayBeDeclared", "(II)Z"⟩
abbrev cX7_mayBeArgument : ByteArray := prog_1_method_27_code
def yX7_mayBeArgument : MethodName := ⟨RX7, "mayBeArgument", "(II)Z"⟩
abbrev cX7_refusalOfNew : ByteArray := prog_1_method_28_code
def yX7_refusalOfNew : MethodName := ⟨RX7, "refusalOfNew", "(IIIII)I"⟩
abbrev cX7_breakRule : ByteArray := prog_1_method_29_code
def yX7_breakRule : MethodName := ⟨RX7, "breakRule", "(I)I"⟩
abbrev cX7_entryAt : ByteArray := prog_1_method_30_code
def yX7_entryAt : MethodName := ⟨RX7, "entryAt", "(I)LFieldMember$Entry;"⟩
abbrev cX7_addEntry : ByteArray := prog_1_method_31_code
def yX7_addEntry : MethodName := ⟨RX7, "addEntry", "(LFieldMember$Entry;)I"⟩
abbrev cX7_ownField : ByteArray := prog_1_method_32_code
def yX7_ownField : MethodName := ⟨RX7, "ownField", "(II)I"⟩
abbrev cX7_isDeclaredTwice : ByteArray := prog_1_method_33_code
def yX7_isDeclaredTwice : MethodName := ⟨RX7, "isDeclaredTwice", "(LFieldMember$Member;)Z"⟩
abbrev cX7_ruleOfMeetings : ByteArray := prog_1_method_34_code
def yX7_ruleOfMeetings : MethodName := ⟨RX7, "ruleOfMeetings", "(LFieldMember$Member;)I"⟩
abbrev cX7_leastMet : ByteArray := prog_1_method_35_code
def yX7_leastMet : MethodName := ⟨RX7, "leastMet", "(LFieldMember$Member;)I"⟩
abbrev cX7_meets : ByteArray := prog_1_method_36_code
def yX7_meets : MethodName := ⟨RX7, "meets", "(LFieldMember$Member;LFieldMember$Member;)Z"⟩
abbrev cX7_isStaticOfFace : ByteArray := prog_1_method_37_code
def yX7_isStaticOfFace : MethodName := ⟨RX7, "isStaticOfFace", "(LFieldMember$Member;)Z"⟩
abbrev cX7_ruleOfMeeting : ByteArray := prog_1_method_38_code
def yX7_ruleOfMeeting : MethodName := ⟨RX7, "ruleOfMeeting", "(LFieldMember$Member;LFieldMember$Member;)I"⟩
abbrev cX7_mayStandForResult : ByteArray := prog_1_method_39_code
def yX7_mayStandForResult : MethodName := ⟨RX7, "mayStandForResult", "(LFieldMember$Member;LFieldMember$Member;)Z"⟩
abbrev cX7_areBelow : ByteArray := prog_1_method_40_code
def yX7_areBelow : MethodName := ⟨RX7, "areBelow", "(II)Z"⟩
abbrev cX7_fieldFoundIn : ByteArray := prog_1_method_41_code
def yX7_fieldFoundIn : MethodName := ⟨RX7, "fieldFoundIn", "(II)I"⟩
abbrev cX7_foundThroughParent : ByteArray := prog_1_method_42_code
def yX7_foundThroughParent : MethodName := ⟨RX7, "foundThroughParent", "(I)I"⟩
abbrev cX7_oneOfBoth : ByteArray := prog_1_method_43_code
def yX7_oneOfBoth : MethodName := ⟨RX7, "oneOfBoth", "(II)I"⟩
abbrev cX7_markCandidates : ByteArray := prog_1_method_44_code
def yX7_markCandidates : MethodName := ⟨RX7, "markCandidates", "(II)V"⟩
abbrev cX7_isReachedFrom : ByteArray := prog_1_method_45_code
def yX7_isReachedFrom : MethodName := ⟨RX7, "isReachedFrom", "(ILFieldMember$Member;)Z"⟩
abbrev cX7_markFitting : ByteArray := prog_1_method_46_code
def yX7_markFitting : MethodName := ⟨RX7, "markFitting", "(Z)Z"⟩
abbrev cX7_isStoodFor : ByteArray := prog_1_method_47_code
def yX7_isStoodFor : MethodName := ⟨RX7, "isStoodFor", "(LFieldMember$Member;)Z"⟩
abbrev cX7_takesArguments : ByteArray := prog_1_method_48_code
def yX7_takesArguments : MethodName := ⟨RX7, "takesArguments", "(LFieldMember$Member;Z)Z"⟩
abbrev cX7_mayTakeAsMany : ByteArray := prog_1_method_49_code
def yX7_mayTakeAsMany : MethodName := ⟨RX7, "mayTakeAsMany", "(LFieldMember$Member;Z)Z"⟩
abbrev cX7_nearestFitting : ByteArray := prog_1_method_50_code
def yX7_nearestFitting : MethodName := ⟨RX7, "nearestFitting", "(Z)I"⟩
abbrev cX7_isNearest : ByteArray := prog_1_method_51_code
def yX7_isNearest : MethodName := ⟨RX7, "isNearest", "(LFieldMember$Member;Z)Z"⟩
abbrev cX7_fitsPlaceByPlace : ByteArray := prog_1_method_52_code
def yX7_fitsPlaceByPlace : MethodName := ⟨RX7, "fitsPlaceByPlace", "(LFieldMember$Member;LFieldMember$Member;Z)Z"⟩
abbrev cX7_fits : ByteArray := prog_1_method_53_code
def yX7_fits : MethodName := ⟨RX7, "fits", "(IIII)Z"⟩
abbrev cX7_widens : ByteArray := prog_1_method_54_code
def yX7_widens : MethodName := ⟨RX7, "widens", "(II)Z"⟩
abbrev cX7_isLacking : ByteArray := prog_1_method_55_code
def yX7_isLacking : MethodName := ⟨RX7, "isLacking", "(ILFieldMember$Member;)Z"⟩
abbrev cX7_mayFill : ByteArray := prog_1_method_56_code
def yX7_mayFill : MethodName := ⟨RX7, "mayFill", "(LFieldMember$Member;)Z"⟩
def RX8 : String := "FieldMemberModel"
def TX8 : u_T := fun k => match k with
  | 0 => ("FieldMemberModel", "fault", "I", false)
  | 1 => ("FieldMemberModel", "types", "I", false)
  | 2 => ("FieldMemberModel", "sorts", "[I", true)
  | 3 => ("FieldMemberModel", "parents", "[I", true)
  | 4 => ("FieldMemberModel", "faces", "[I", true)
  | 5 => ("FieldMemberModel", "faceCount", "[I", true)
  | 6 => ("FieldMemberModel", "isBelow", "[Z", true)
  | 7 => ("FieldMemberModel", "entries", "I", false)
  | 8 => ("FieldMemberModel", "isMember", "[Z", true)
  | 9 => ("FieldMemberModel", "ofType", "[I", true)
  | 10 => ("FieldMemberModel", "names", "[I", true)
  | 11 => ("FieldMemberModel", "kinds", "[I", true)
  | 12 => ("FieldMemberModel", "dims", "[I", true)
  | 13 => ("FieldMemberModel", "marks", "[I", true)
  | 14 => ("FieldMemberModel", "isTold", "[Z", true)
  | 15 => ("FieldMemberModel", "told", "[J", true)
  | 16 => ("FieldMemberModel", "hasBody", "[Z", true)
  | 17 => ("FieldMemberModel", "isVaried", "[Z", true)
  | 18 => ("FieldMemberModel", "many", "[I", true)
  | 19 => ("FieldMemberModel", "partKinds", "[I", true)
  | 20 => ("FieldMemberModel", "partDims", "[I", true)
  | 21 => ("FieldMemberModel", "isBegun", "Z", false)
  | 22 => ("FieldMemberModel", "waits", "I", false)
  | 23 => ("FieldMemberModel", "argumentKinds", "[I", true)
  | 24 => ("FieldMemberModel", "argumentDims", "[I", true)
  | 25 => ("FieldMemberModel", "way", "I", false)
  | 26 => ("FieldMemberModel", "rulesBroken", "I", false)
  | 27 => ("FieldMemberModel", "broken", "[I", true)
  | 28 => ("FieldMemberModel", "met", "[I", true)
  | 29 => ("FieldMemberModel", "foundIn", "[I", true)
  | 30 => ("FieldMemberModel", "isCandidate", "[Z", true)
  | 31 => ("FieldMemberModel", "isFound", "[Z", true)
  | _ => ("FieldMemberModel", "isTaken", "[Z", true)
def tyX8 : Nat → FieldType := fun k => match k with
  | 0 => .int
  | 1 => .int
  | 2 => .array .int
  | 3 => .array .int
  | 4 => .array .int
  | 5 => .array .int
  | 6 => .array .boolean
  | 7 => .int
  | 8 => .array .boolean
  | 9 => .array .int
  | 10 => .array .int
  | 11 => .array .int
  | 12 => .array .int
  | 13 => .array .int
  | 14 => .array .boolean
  | 15 => .array .long
  | 16 => .array .boolean
  | 17 => .array .boolean
  | 18 => .array .int
  | 19 => .array .int
  | 20 => .array .int
  | 21 => .boolean
  | 22 => .int
  | 23 => .array .int
  | 24 => .array .int
  | 25 => .int
  | 26 => .int
  | 27 => .array .int
  | 28 => .array .int
  | 29 => .array .int
  | 30 => .array .boolean
  | 31 => .array .boolean
  | _ => .array .boolean
abbrev wsX80 : List Cond := u_ws RX8 TX8 33
theorem nmX8 : ∀ a, a < 33 → ∀ b, b < 33 → a ≠ b → (TX8 a).2.1 ≠ (TX8 b).2.1 := by decide +kernel
theorem tyX8_ok : ∀ k, k < 33 → parseFieldDescriptor (TX8 k).2.2.1 = some (tyX8 k) := by decide +kernel
abbrev cX8_init : ByteArray := prog_10_method_1_code
def yX8_init : MethodName := ⟨RX8, "<init>", "()V"⟩
abbrev cX8_thrown : ByteArray := prog_10_method_2_code
def yX8_thrown : MethodName := ⟨RX8, "thrown", "()I"⟩
abbrev cX8_in : ByteArray := prog_10_method_3_code
def yX8_in : MethodName := ⟨RX8, "in", "(III)Z"⟩
abbrev cX8_isType : ByteArray := prog_10_method_4_code
def yX8_isType : MethodName := ⟨RX8, "isType", "(I)Z"⟩
abbrev cX8_isFace : ByteArray := prog_10_method_5_code
def yX8_isFace : MethodName := ⟨RX8, "isFace", "(I)Z"⟩
abbrev cX8_breaks : ByteArray := prog_10_method_6_code
def yX8_breaks : MethodName := ⟨RX8, "breaks", "(I)I"⟩
abbrev cX8_bits : ByteArray := prog_10_method_7_code
def yX8_bits : MethodName := ⟨RX8, "bits", "(I)I"⟩
abbrev cX8_type : ByteArray := prog_10_method_8_code
def yX8_type : MethodName := ⟨RX8, "type", "(II)I"⟩
abbrev cX8_reckons : ByteArray := prog_10_method_9_code
def yX8_reckons : MethodName := ⟨RX8, "reckons", "(I)V"⟩
abbrev cX8_adds : ByteArray := prog_10_method_10_code
def yX8_adds : MethodName := ⟨RX8, "adds", "(II)V"⟩
abbrev cX8_face : ByteArray := prog_10_method_11_code
def yX8_face : MethodName := ⟨RX8, "face", "(II)I"⟩
abbrev cX8_lies : ByteArray := prog_10_method_12_code
def yX8_lies : MethodName := ⟨RX8, "lies", "(II)Z"⟩
abbrev cX8_below : ByteArray := prog_10_method_13_code
def yX8_below : MethodName := ⟨RX8, "below", "(II)I"⟩
abbrev cX8_noKind : ByteArray := prog_10_method_14_code
def yX8_noKind : MethodName := ⟨RX8, "noKind", "(I)Z"⟩
abbrev cX8_refusal : ByteArray := prog_10_method_15_code
def yX8_refusal : MethodName := ⟨RX8, "refusal", "(IIIII)I"⟩
abbrev cX8_field : ByteArray := prog_10_method_16_code
def yX8_field : MethodName := ⟨RX8, "field", "(IIIII)I"⟩
abbrev cX8_ruleOfField : ByteArray := prog_10_method_17_code
def yX8_ruleOfField : MethodName := ⟨RX8, "ruleOfField", "(IIII)I"⟩
abbrev cX8_fieldOf : ByteArray := prog_10_method_18_code
def yX8_fieldOf : MethodName := ⟨RX8, "fieldOf", "(II)I"⟩
abbrev cX8_lays : ByteArray := prog_10_method_19_code
def yX8_lays : MethodName := ⟨RX8, "lays", "(IIIII)V"⟩
abbrev cX8_isEntry : ByteArray := prog_10_method_20_code
def yX8_isEntry : MethodName := ⟨RX8, "isEntry", "(I)Z"⟩
abbrev cX8_constant : ByteArray := prog_10_method_21_code
def yX8_constant : MethodName := ⟨RX8, "constant", "(IJ)I"⟩
abbrev cX8_value : ByteArray := prog_10_method_22_code
def yX8_value : MethodName := ⟨RX8, "value", "(I)J"⟩
abbrev cX8_member : ByteArray := prog_10_method_23_code
def yX8_member : MethodName := ⟨RX8, "member", "(IIIIIZ)I"⟩
abbrev cX8_ruleOfMember : ByteArray := prog_10_method_24_code
def yX8_ruleOfMember : MethodName := ⟨RX8, "ruleOfMember", "(IIZ)I"⟩
abbrev cX8_parameter : ByteArray := prog_10_method_25_code
def yX8_parameter : MethodName := ⟨RX8, "parameter", "(IIZ)I"⟩
abbrev cX8_sameParts : ByteArray := prog_10_method_26_code
def yX8_sameParts : MethodName := ⟨RX8, "sameParts", "(II)Z"⟩
abbrev cX8_stands : ByteArray := prog_10_method_27_code
def yX8_stands : MethodName := ⟨RX8, "stands", "(I)Z"⟩
abbrev cX8_meets : ByteArray := prog_10_method_28_code
def yX8_meets : MethodName := ⟨RX8, "meets", "(II)Z"⟩
abbrev cX8_seen : ByteArray := prog_10_method_29_code
def yX8_seen : MethodName := ⟨RX8, "seen", "(I)I"⟩
abbrev cX8_ruleAgainst : ByteArray := prog_10_method_30_code
def yX8_ruleAgainst : MethodName := ⟨RX8, "ruleAgainst", "(II)I"⟩
abbrev cX8_end : ByteArray := prog_10_method_31_code
def yX8_end : MethodName := ⟨RX8, "end", "()I"⟩
abbrev cX8_entry : ByteArray := prog_10_method_32_code
def yX8_entry : MethodName := ⟨RX8, "entry", "(II)I"⟩
abbrev cX8_leastMet : ByteArray := prog_10_method_33_code
def yX8_leastMet : MethodName := ⟨RX8, "leastMet", "(I)I"⟩
abbrev cX8_shape : ByteArray := prog_10_method_34_code
def yX8_shape : MethodName := ⟨RX8, "shape", "(II)I"⟩
abbrev cX8_parameterOf : ByteArray := prog_10_method_35_code
def yX8_parameterOf : MethodName := ⟨RX8, "parameterOf", "(IIZ)I"⟩
abbrev cX8_both : ByteArray := prog_10_method_36_code
def yX8_both : MethodName := ⟨RX8, "both", "(II)I"⟩
abbrev cX8_sought : ByteArray := prog_10_method_37_code
def yX8_sought : MethodName := ⟨RX8, "sought", "(II)I"⟩
abbrev cX8_argument : ByteArray := prog_10_method_38_code
def yX8_argument : MethodName := ⟨RX8, "argument", "(II)I"⟩
abbrev cX8_widens : ByteArray := prog_10_method_39_code
def yX8_widens : MethodName := ⟨RX8, "widens", "(II)Z"⟩
abbrev cX8_fits : ByteArray := prog_10_method_40_code
def yX8_fits : MethodName := ⟨RX8, "fits", "(IIII)Z"⟩
abbrev cX8_candidates : ByteArray := prog_10_method_41_code
def yX8_candidates : MethodName := ⟨RX8, "candidates", "(II)V"⟩
abbrev cX8_kindAt : ByteArray := prog_10_method_42_code
def yX8_kindAt : MethodName := ⟨RX8, "kindAt", "(IIZ)I"⟩
abbrev cX8_dimAt : ByteArray := prog_10_method_43_code
def yX8_dimAt : MethodName := ⟨RX8, "dimAt", "(IIZ)I"⟩
abbrev cX8_takes : ByteArray := prog_10_method_44_code
def yX8_takes : MethodName := ⟨RX8, "takes", "(IZ)Z"⟩
abbrev cX8_isNearer : ByteArray := prog_10_method_45_code
def yX8_isNearer : MethodName := ⟨RX8, "isNearer", "(IIZ)Z"⟩
abbrev cX8_nearest : ByteArray := prog_10_method_46_code
def yX8_nearest : MethodName := ⟨RX8, "nearest", "(Z)I"⟩
abbrev cX8_call : ByteArray := prog_10_method_47_code
def yX8_call : MethodName := ⟨RX8, "call", "(II)I"⟩
abbrev cX8_way : ByteArray := prog_10_method_48_code
def yX8_way : MethodName := ⟨RX8, "way", "()I"⟩
abbrev cX8_makes : ByteArray := prog_10_method_49_code
def yX8_makes : MethodName := ⟨RX8, "makes", "(III)Z"⟩
abbrev cX8_isLacked : ByteArray := prog_10_method_50_code
def yX8_isLacked : MethodName := ⟨RX8, "isLacked", "(II)Z"⟩
abbrev cX8_lacks : ByteArray := prog_10_method_51_code
def yX8_lacks : MethodName := ⟨RX8, "lacks", "(II)I"⟩
abbrev cX8_count : ByteArray := prog_10_method_52_code
def yX8_count : MethodName := ⟨RX8, "count", "(I)I"⟩
abbrev cX8_broken : ByteArray := prog_10_method_53_code
def yX8_broken : MethodName := ⟨RX8, "broken", "(I)I"⟩
abbrev cX8_clear : ByteArray := prog_10_method_54_code
def yX8_clear : MethodName := ⟨RX8, "clear", "()I"⟩
def RJx00060 : String := "java/lang/ArrayIndexOutOfBoundsException"
def TJx00060 : u_T := fun k => match k with
  | 0 => ("java/lang/Throwable", "backtrace", "Ljava/lang/Object;", false)
  | 1 => ("java/lang/Throwable", "detailMessage", "Ljava/lang/String;", false)
  | 2 => ("java/lang/Throwable", "cause", "Ljava/lang/Throwable;", false)
  | 3 => ("java/lang/Throwable", "stackTrace", "[Ljava/lang/StackTraceElement;", false)
  | 4 => ("java/lang/Throwable", "depth", "I", false)
  | _ => ("java/lang/Throwable", "suppressedExceptions", "Ljava/util/List;", false)
def tyJx00060 : Nat → FieldType := fun k => match k with
  | 0 => .object "java/lang/Object"
  | 1 => .object "java/lang/String"
  | 2 => .object "java/lang/Throwable"
  | 3 => .array (.object "java/lang/StackTraceElement")
  | 4 => .int
  | _ => .object "java/util/List"
abbrev wsJx000600 : List Cond := u_ws RJx00060 TJx00060 6
theorem nmJx00060 : ∀ a, a < 6 → ∀ b, b < 6 → a ≠ b → (TJx00060 a).2.1 ≠ (TJx00060 b).2.1 := by decide +kernel
theorem tyJx00060_ok : ∀ k, k < 6 → parseFieldDescriptor (TJx00060 k).2.2.1 = some (tyJx00060 k) := by decide +kernel
abbrev cJx00060_init_a7421 : ByteArray := prog_11_method_2_code
def yJx00060_init_a7421 : MethodName := ⟨RJx00060, "<init>", "(Ljava/lang/String;)V"⟩
def RJx3273f : String := "java/lang/ClassCastException"
def TJx3273f : u_T := fun k => match k with
  | 0 => ("java/lang/Throwable", "backtrace", "Ljava/lang/Object;", false)
  | 1 => ("java/lang/Throwable", "detailMessage", "Ljava/lang/String;", false)
  | 2 => ("java/lang/Throwable", "cause", "Ljava/lang/Throwable;", false)
  | 3 => ("java/lang/Throwable", "stackTrace", "[Ljava/lang/StackTraceElement;", false)
  | 4 => ("java/lang/Throwable", "depth", "I", false)
  | _ => ("java/lang/Throwable", "suppressedExceptions", "Ljava/util/List;", false)
def tyJx3273f : Nat → FieldType := fun k => match k with
  | 0 => .object "java/lang/Object"
  | 1 => .object "java/lang/String"
  | 2 => .object "java/lang/Throwable"
  | 3 => .array (.object "java/lang/StackTraceElement")
  | 4 => .int
  | _ => .object "java/util/List"
abbrev wsJx3273f0 : List Cond := u_ws RJx3273f TJx3273f 6
theorem nmJx3273f : ∀ a, a < 6 → ∀ b, b < 6 → a ≠ b → (TJx3273f a).2.1 ≠ (TJx3273f b).2.1 := by decide +kernel
theorem tyJx3273f_ok : ∀ k, k < 6 → parseFieldDescriptor (TJx3273f k).2.2.1 = some (tyJx3273f k) := by decide +kernel
abbrev cJx3273f_init_a7421 : ByteArray := prog_12_method_2_code
def yJx3273f_init_a7421 : MethodName := ⟨RJx3273f, "<init>", "(Ljava/lang/String;)V"⟩
def RJxe99ae : String := "java/lang/Double"
def TJxe99ae : u_T := fun k => match k with
  | _ => ("", "", "", false)
def tyJxe99ae : Nat → FieldType := fun k => match k with
  | _ => .int
abbrev wsJxe99ae0 : List Cond := u_ws RJxe99ae TJxe99ae 0
theorem nmJxe99ae : ∀ a, a < 0 → ∀ b, b < 0 → a ≠ b → (TJxe99ae a).2.1 ≠ (TJxe99ae b).2.1 := by decide +kernel
theorem tyJxe99ae_ok : ∀ k, k < 0 → parseFieldDescriptor (TJxe99ae k).2.2.1 = some (tyJxe99ae k) := by decide +kernel
abbrev cJxe99ae_isNaN_b9ae7 : ByteArray := prog_13_method_6_code
def yJxe99ae_isNaN_b9ae7 : MethodName := ⟨RJxe99ae, "isNaN", "(D)Z"⟩
abbrev cJxe99ae_doubleToLongBits_ccdee : ByteArray := prog_13_method_23_code
def yJxe99ae_doubleToLongBits_ccdee : MethodName := ⟨RJxe99ae, "doubleToLongBits", "(D)J"⟩
def RJxf58ca : String := "java/lang/Float"
def TJxf58ca : u_T := fun k => match k with
  | _ => ("", "", "", false)
def tyJxf58ca : Nat → FieldType := fun k => match k with
  | _ => .int
abbrev wsJxf58ca0 : List Cond := u_ws RJxf58ca TJxf58ca 0
theorem nmJxf58ca : ∀ a, a < 0 → ∀ b, b < 0 → a ≠ b → (TJxf58ca a).2.1 ≠ (TJxf58ca b).2.1 := by decide +kernel
theorem tyJxf58ca_ok : ∀ k, k < 0 → parseFieldDescriptor (TJxf58ca k).2.2.1 = some (tyJxf58ca k) := by decide +kernel
abbrev cJxf58ca_isNaN_12338 : ByteArray := prog_15_method_6_code
def yJxf58ca_isNaN_12338 : MethodName := ⟨RJxf58ca, "isNaN", "(F)Z"⟩
abbrev cJxf58ca_floatToIntBits_5c35a : ByteArray := prog_15_method_24_code
def yJxf58ca_floatToIntBits_5c35a : MethodName := ⟨RJxf58ca, "floatToIntBits", "(F)I"⟩
def RJ6 : String := "java/lang/Integer"
def TJ6 : u_T := fun k => match k with
  | _ => ("", "", "", false)
def tyJ6 : Nat → FieldType := fun k => match k with
  | _ => .int
abbrev wsJ60 : List Cond := u_ws RJ6 TJ6 0
theorem nmJ6 : ∀ a, a < 0 → ∀ b, b < 0 → a ≠ b → (TJ6 a).2.1 ≠ (TJ6 b).2.1 := by decide +kernel
theorem tyJ6_ok : ∀ k, k < 0 → parseFieldDescriptor (TJ6 k).2.2.1 = some (tyJ6 k) := by decide +kernel
abbrev cJ6_bitCount_0f7a4 : ByteArray := prog_17_method_49_code
def yJ6_bitCount_0f7a4 : MethodName := ⟨RJ6, "bitCount", "(I)I"⟩
def RJ9 : String := "java/lang/Math"
def TJ9 : u_T := fun k => match k with
  | _ => ("", "", "", false)
def tyJ9 : Nat → FieldType := fun k => match k with
  | _ => .int
abbrev wsJ90 : List Cond := u_ws RJ9 TJ9 0
theorem nmJ9 : ∀ a, a < 0 → ∀ b, b < 0 → a ≠ b → (TJ9 a).2.1 ≠ (TJ9 b).2.1 := by decide +kernel
theorem tyJ9_ok : ∀ k, k < 0 → parseFieldDescriptor (TJ9 k).2.2.1 = some (tyJ9 k) := by decide +kernel
abbrev cJ9_max_7cf53 : ByteArray := prog_18_method_65_code
def yJ9_max_7cf53 : MethodName := ⟨RJ9, "max", "(II)I"⟩
def RJ0 : String := "java/lang/String"
def TJ0 : u_T := fun k => match k with
  | 0 => ("java/lang/String", "value", "[B", true)
  | _ => ("java/lang/String", "coder", "B", true)
def tyJ0 : Nat → FieldType := fun k => match k with
  | 0 => .array .byte
  | _ => .byte
abbrev wsJ00 : List Cond := u_ws RJ0 TJ0 2
theorem nmJ0 : ∀ a, a < 2 → ∀ b, b < 2 → a ≠ b → (TJ0 a).2.1 ≠ (TJ0 b).2.1 := by decide +kernel
theorem tyJ0_ok : ∀ k, k < 2 → parseFieldDescriptor (TJ0 k).2.2.1 = some (tyJ0 k) := by decide +kernel
def RL : String := "FieldMemberLaw"
abbrev cL_value : ByteArray := method_3_code
def yL_value : MethodName := ⟨RL, "value", "(LFieldMember;I[J)I"⟩
abbrev cL_parameterOf : ByteArray := method_4_code
def yL_parameterOf : MethodName := ⟨RL, "parameterOf", "(LFieldMember;IIZ[J)I"⟩
abbrev cL_law : ByteArray := code
def yL_law : MethodName := ⟨RL, "law", "([I)Z"⟩
abbrev vwCl : List vw_C := [(RJ0, TJ0, 2), (RJx00060, TJx00060, 6), (RJx3273f, TJx3273f, 6), (RX2, TX2, 7), (RX3, TX3, 9), (RX4, TX4, 3), (RX6, TX6, 5), (RX7, TX7, 11), (RX8, TX8, 33)]
end
section
-- the tables' good words, one list for all methods
def TT : List Cond := lw_tbl.filter goodWord
theorem tt_of {w : Cond} (h : w ∈ lw_tbl) (g : goodWord w = true) : w ∈ TT := List.mem_filter.mpr ⟨h, g⟩
theorem tt_t {w : Cond} {i : Nat} (h : tables_1[i]? = some w) (g : goodWord w = true) : w ∈ TT := tt_of (List.mem_append_right _ (List.mem_of_getElem? h)) g
theorem tt_s {w : Cond} {i : Nat} (h : (k2_sels lw_privs)[i]? = some w) (g : goodWord w = true) : w ∈ TT := tt_of (List.mem_append_left _ (List.mem_of_getElem? h)) g
theorem tt_good {ws : List Cond} (h : ∀ w ∈ ws, w ∈ TT) : GoodIn TT ws := fun w hw => ⟨h w hw, good_of_word (List.mem_filter.mp (h w hw)).2⟩
theorem tt_goodL {ws : List Cond} (h : ∀ w ∈ ws, w ∈ TT) : GoodIn lw_tbl ws := fun w hw => ⟨(List.mem_filter.mp (h w hw)).1, good_of_word (List.mem_filter.mp (h w hw)).2⟩
theorem tt_c {w : Cond} {ws : List Cond} (h : w ∈ TT) (t : ∀ w ∈ ws, w ∈ TT) : ∀ w' ∈ w :: ws, w' ∈ TT := fun w' h' => (List.mem_cons.mp h').elim (fun e => by rw [e]; exact h) (t w')
theorem tt_S {own : String} {idx : Nat} {y : MethodName} {c : Cond} (h1 : Cond.methodLink own idx y ∈ TT) (h2 : Cond.static y ∈ TT) (h3 : Cond.initialized y.cls ∈ TT) (h4 : c ∈ TT) : GoodIn TT (va_wsS own idx y (c :: TT)) := tt_good (tt_c h1 (tt_c h2 (tt_c h3 (tt_c h4 (fun _ h => h)))))
theorem tt_V {own C : String} {idx : Nat} {y : MethodName} {c : Cond} (h1 : Cond.methodLink own idx y ∈ TT) (h2 : Cond.instanceMethod y ∈ TT) (h3 : Cond.selects C y y ∈ TT) (h4 : Cond.initialized C ∈ TT) (h5 : c ∈ TT) : GoodIn TT (wsV own idx C y (c :: TT)) := tt_good (tt_c h1 (tt_c h2 (tt_c h3 (tt_c h4 (tt_c h5 (fun _ h => h))))))
theorem tt_I {c : Cond} (h5 : c ∈ TT) : GoodIn TT (c :: TT) := tt_good (tt_c h5 (fun _ h => h))
abbrev ww (y : MethodName) (cc : ByteArray) (n : Nat) (r : Option FieldType) : List Cond := .code y cc n r :: TT
abbrev rmD (d : Nat) : Room := { frames := d, cells := 0, slots := 0, locals := 40 * d }
abbrev rmC (d mc ms : Nat) : Room := { frames := d, cells := mc, slots := ms, locals := 40 * d }
-- the array classes, and what the tables say beside the good words
abbrev tyG (G : Nat → ClassId) : List (ClassId × FieldType) := [(G 0, .int), (G 1, .long), (G 2, .boolean), (G 3, .object "FieldMember$Entry")]
def XN (U : State) : Prop := va_Nw (.castable "FieldMember$Field" "FieldMember$Field") U ∧ va_Nw (.castable "FieldMember$Member" "FieldMember$Member") U ∧ va_Nw (.castable "FieldMember$Field" "FieldMember$Entry") U ∧ va_Nw (.castable "FieldMember$Member" "FieldMember$Entry") U ∧ va_Nc "FieldMember$Field" "FieldMember$Member" U ∧ va_Nc "FieldMember$Member" "FieldMember$Field" U ∧ va_Nw (.methodLinkNest "FieldMember" 11 ⟨"FieldMember$Types", "<init>", "()V"⟩ "FieldMember") U ∧ va_Nw (.methodLinkNest "FieldMember" 24 ⟨"FieldMember$Row", "<init>", "()V"⟩ "FieldMember") U ∧ va_Nw (.methodLinkNest "FieldMember$Member" 17 ⟨"FieldMember$Row", "<init>", "()V"⟩ "FieldMember") U ∧ va_AO "FieldMember$Entry" U
theorem XN.warm {s U : State} (hW : s.WarmedH U.vm) (h : XN s) : XN U := by
  obtain ⟨h1, h2, h3, h4, h5, h6, h7, h8, h9, h10⟩ := h
  exact ⟨h1.warmC hW, h2.warmC hW, h3.warmC hW, h4.warmC hW, h5.moved hW.alike, h6.moved hW.alike, h7.warmM hW, h8.warmM hW, h9.warmM hW, h10.moved hW.alike⟩
def KK (D : va_G) (G : Nat → ClassId) (U : State) : Prop := va_K D vwCl (tyG G) U ∧ XN U
theorem KK.warm {D : va_G} {G : Nat → ClassId} {s U : State} (hW : s.WarmedH U.vm) (h : KK D G s) : KK D G U := ⟨va_K.moved hW.alike h.1, h.2.warm hW⟩
theorem KK.call {D : va_G} {G : Nat → ClassId} {U : State} {g : JFrame} {mk : MethodId} {a : Array Value} (h : KK D G U) : KK D G (U.calling g mk a) := h
-- a start that only names the heap
abbrev roP (D : va_G) (G : Nat → ClassId) (H : Heap) (As : List Value) : Array Value → State → Prop := va_Pc As (fun U => U.heap = H ∧ KK D G U)
section RO
variable {p : Program} {l : Launch} {e : Env} {R : Room} {s : State} {m : MethodId} {args : Array Value} {below : List Frame} {meth : Method} {c : Code} {H : Heap} {locs : List Loc} {cells slots : Nat} {Q : State → Prop}
variable {cc : ByteArray} {pc : Nat} {ls : Array Slot} {rest st : List Value} {D : va_G} {G : Nat → ClassId} {y : MethodName} {bytes : ByteArray} {maxL nL n idx d : Nat} {ret : Option FieldType} {As : List Value} {own C : String} {b : Nat}
theorem ro_pre (hK : KK D G s) : PreS s H (roP D G H As) As := ⟨fun _ _ _ _ q => ⟨q.1, q.2.1, q.2.2.call⟩, fun _ hU hW => ⟨rfl, hU, hK.warm hW⟩⟩
theorem ro_Si {post : Int32 → Prop} (S : CallFix p m c cc nL s args TT own) (hM : Met l y (.code y bytes maxL ret :: TT) (rmD d) (roP D G H As) (vp_Si post) 0 0 (fun _ => False)) (g : GoodIn TT (va_wsS own idx y (.code y bytes maxL ret :: TT)))
    (hd : y.cls ≠ "java/lang/invoke/MethodHandle" ∧ y.cls ≠ "java/lang/invoke/VarHandle" ∧ (parseMethodDescriptor y.desc).map (fun d => d.parameters.length) = some n) (hR : d + 1 ≤ R.frames ∧ 8 + (maxL + 11) + 40 * d ≤ R.locals) (hK : KK D G s) (hn : As.length = n) (hsize : ls.size = nL) (hstack : st = As.reverse ++ rest) (hW : (rest.map fun v => v.category).sum ≤ 8) (hdg : decode cc pc = .ok (.invokestatic idx, 3)) (hc : cells ≤ R.cells ∧ slots ≤ R.slots)
    (kk : ∀ r : Int32, post r → W p l e R s m args below meth c H locs cells slots Q (F0 m (pc + 3) ls (.int r :: rest))) : W p l e R s m args below meth c H locs cells slots Q (F0 m pc ls st) :=
  vp_callSi (W.runS S hM (va_cwS n S.2.2.2.2 g rfl rfl rfl hd hR) (ro_pre hK) rfl hn hsize hstack (lv_room hW) hdg hc) kk
theorem ro_Sl {post : Int64 → Prop} (S : CallFix p m c cc nL s args TT own) (hM : Met l y (.code y bytes maxL ret :: TT) (rmD d) (roP D G H As) (vp_Sl post) 0 0 (fun _ => False)) (g : GoodIn TT (va_wsS own idx y (.code y bytes maxL ret :: TT)))
    (hd : y.cls ≠ "java/lang/invoke/MethodHandle" ∧ y.cls ≠ "java/lang/invoke/VarHandle" ∧ (parseMethodDescriptor y.desc).map (fun d => d.parameters.length) = some n) (hR : d + 1 ≤ R.frames ∧ 8 + (maxL + 11) + 40 * d ≤ R.locals) (hK : KK D G s) (hn : As.length = n) (hsize : ls.size = nL) (hstack : st = As.reverse ++ rest) (hW : (rest.map fun v => v.category).sum ≤ 8) (hdg : decode cc pc = .ok (.invokestatic idx, 3)) (hc : cells ≤ R.cells ∧ slots ≤ R.slots)
    (kk : ∀ r : Int64, post r → W p l e R s m args below meth c H locs cells slots Q (F0 m (pc + 3) ls (.long r :: rest))) : W p l e R s m args below meth c H locs cells slots Q (F0 m pc ls st) :=
  vp_callSl (W.runS S hM (va_cwS n S.2.2.2.2 g rfl rfl rfl hd hR) (ro_pre hK) rfl hn hsize hstack (lv_room hW) hdg hc) kk
theorem ro_Vi {post : Int32 → Prop} (S : CallFix p m c cc nL s args TT own) (hM : Met l y (.code y bytes maxL ret :: TT) (rmD d) (roP D G H (.ref b :: As)) (vp_Si post) 0 0 (fun _ => False)) (g : GoodIn TT (wsV own idx C y (.code y bytes maxL ret :: TT)))
    (hd : y.cls = C ∧ y.cls ≠ "java/lang/invoke/MethodHandle" ∧ y.cls ≠ "java/lang/invoke/VarHandle" ∧ (parseMethodDescriptor y.desc).map (fun d => d.parameters.length) = some n) (hR : d + 1 ≤ R.frames ∧ 8 + (maxL + 11) + 40 * d ≤ R.locals) (hK : KK D G s) (hrv : ∃ cellB : Cell, H[b]? = some cellB ∧ cellB.vm.isStatics = false ∧ s.vm.findClass C = some cellB.cls) (hn : As.length = n) (hsize : ls.size = nL) (hstack : st = As.reverse ++ .ref b :: rest) (hW : (rest.map fun v => v.category).sum ≤ 8) (hdg : decode cc pc = .ok (.invokevirtual idx, 3)) (hc : cells ≤ R.cells ∧ slots ≤ R.slots)
    (kk : ∀ r : Int32, post r → W p l e R s m args below meth c H locs cells slots Q (F0 m (pc + 3) ls (.int r :: rest))) : W p l e R s m args below meth c H locs cells slots Q (F0 m pc ls st) :=
  vp_callSi (W.runV S hM (cwV n S.2.2.2.2 g rfl rfl rfl hd hR) ⟨(ro_pre (As := .ref b :: As) hK).1, hrv, (ro_pre hK).2⟩ rfl hn hsize hstack (lv_room hW) hdg hc) kk
theorem ro_Vq {post : Option Nat → Prop} (S : CallFix p m c cc nL s args TT own) (hM : Met l y (.code y bytes maxL ret :: TT) (rmD d) (roP D G H (.ref b :: As)) (va_Sq post) 0 0 (fun _ => False)) (g : GoodIn TT (wsV own idx C y (.code y bytes maxL ret :: TT)))
    (hd : y.cls = C ∧ y.cls ≠ "java/lang/invoke/MethodHandle" ∧ y.cls ≠ "java/lang/invoke/VarHandle" ∧ (parseMethodDescriptor y.desc).map (fun d => d.parameters.length) = some n) (hR : d + 1 ≤ R.frames ∧ 8 + (maxL + 11) + 40 * d ≤ R.locals) (hK : KK D G s) (hrv : ∃ cellB : Cell, H[b]? = some cellB ∧ cellB.vm.isStatics = false ∧ s.vm.findClass C = some cellB.cls) (hn : As.length = n) (hsize : ls.size = nL) (hstack : st = As.reverse ++ .ref b :: rest) (hW : (rest.map fun v => v.category).sum ≤ 8) (hdg : decode cc pc = .ok (.invokevirtual idx, 3)) (hc : cells ≤ R.cells ∧ slots ≤ R.slots)
    (kk : ∀ r : Option Nat, post r → W p l e R s m args below meth c H locs cells slots Q (F0 m (pc + 3) ls (va_rf r :: rest))) : W p l e R s m args below meth c H locs cells slots Q (F0 m pc ls st) :=
  va_csq (W.runV S hM (cwV n S.2.2.2.2 g rfl rfl rfl hd hR) ⟨(ro_pre (As := .ref b :: As) hK).1, hrv, (ro_pre hK).2⟩ rfl hn hsize hstack (lv_room hW) hdg hc) kk
-- ends of a method that only reads
theorem ro_iret {v : Int32} {post : Int32 → Prop} {free : Addr → Prop} (hx : p.tables.exec = Jvm.exec) (hb : c.code = cc) (hr : meth.sig.returnType = some .int) (hH : s.heap = H) (hlocks : meth.locks = false) (hdg : decode cc pc = .ok (.ireturn, 1)) (hp : post v) : W p l e R s m args below meth c H [] cells slots (MQ below (vp_Si post) args s cells slots free) (F0 m pc ls [.int v]) :=
  W.iret hx hb hr (fun t ht _ => ⟨v, rfl, hp, ht.trans hH.symm⟩) (fun _ h => nomatch h) hdg hlocks
theorem ro_zret {v : Int32} {post : Int32 → Prop} {free : Addr → Prop} (hx : p.tables.exec = Jvm.exec) (hb : c.code = cc) (hr : meth.sig.returnType = some .boolean) (hH : s.heap = H) (hlocks : meth.locks = false) (hdg : decode cc pc = .ok (.ireturn, 1)) (hv : v = 0 ∨ v = 1) (hp : post v) : W p l e R s m args below meth c H [] cells slots (MQ below (vp_Si post) args s cells slots free) (F0 m pc ls [.int v]) :=
  W.zret hx hb hr (by rcases hv with rfl | rfl <;> rfl) (fun t ht _ => ⟨v, rfl, hp, ht.trans hH.symm⟩) (fun _ h => nomatch h) hdg hlocks
theorem ro_lret {v : Int64} {post : Int64 → Prop} {free : Addr → Prop} (hx : p.tables.exec = Jvm.exec) (hb : c.code = cc) (hr : meth.sig.returnType = some .long) (hH : s.heap = H) (hlocks : meth.locks = false) (hdg : decode cc pc = .ok (.lreturn, 1)) (hp : post v) : W p l e R s m args below meth c H [] cells slots (MQ below (vp_Sl post) args s cells slots free) (F0 m pc ls [.long v]) :=
  W.lret hx hb hr (fun t ht _ => ⟨v, rfl, hp, ht.trans hH.symm⟩) (fun _ h => nomatch h) hdg hlocks
-- array places by naturals
variable {A : Nat → Prop} {a : Nat} {tys : List (ClassId × FieldType)} {ws : va_W} {H0 : Heap} {cl : List vw_C}
theorem in_n {i : Int32} {j n : Nat} (hi : i = nI j) (hj : j < n) (hn : n < 2 ^ 31) : vp_in i n ∧ i.toNatClampNeg = j := by
  subst hi; exact ⟨vp_in_nI hj hn, nI_clamp (by omega)⟩
theorem iald_n (hx : p.tables.exec = Jvm.exec) (hb : c.code = cc) (hK : va_K D cl tys s) (hP : va_P D cl ws H) (q0 t0 : Nat) {cA : ClassId} {n : Nat} {f : Nat → Int32} (ha : ws[q0]? = some (a, .inl (cA, n, .inl f))) (ht : tys[t0]? = some (cA, .int)) {i : Int32} (j : Nat) (hi : i = nI j) (hj : j < n) (hn : n < 2 ^ 31) (hdg : decode cc pc = .ok (.iaload, 1))
    (kk : W p l e R s m args below meth c H locs cells slots Q (F0 m (pc + 1) ls (.int (f j) :: rest))) : W p l e R s m args below meth c H locs cells slots Q (F0 m pc ls (.int i :: .ref a :: rest)) :=
  va_iald hx hb hK hP q0 t0 ha ht (in_n hi hj hn).1 hdg (by rw [(in_n hi hj hn).2]; exact kk)
theorem zald_n (hx : p.tables.exec = Jvm.exec) (hb : c.code = cc) (hK : va_K D cl tys s) (hP : va_P D cl ws H) (q0 t0 : Nat) {cA : ClassId} {n : Nat} {f : Nat → Int32} (ha : ws[q0]? = some (a, .inl (cA, n, .inl f))) (ht : tys[t0]? = some (cA, .boolean)) {i : Int32} (j : Nat) (hi : i = nI j) (hj : j < n) (hn : n < 2 ^ 31) (hdg : decode cc pc = .ok (.baload, 1))
    (kk : W p l e R s m args below meth c H locs cells slots Q (F0 m (pc + 1) ls (.int (f j) :: rest))) : W p l e R s m args below meth c H locs cells slots Q (F0 m pc ls (.int i :: .ref a :: rest)) :=
  va_zald hx hb hK hP q0 t0 ha ht (in_n hi hj hn).1 hdg (by rw [(in_n hi hj hn).2]; exact kk)
theorem lald_n (hx : p.tables.exec = Jvm.exec) (hb : c.code = cc) (hK : va_K D cl tys s) (hP : va_P D cl ws H) (q0 t0 : Nat) {cA : ClassId} {n : Nat} {f : Nat → Int64} (ha : ws[q0]? = some (a, .inl (cA, n, .inr (.inl f)))) (ht : tys[t0]? = some (cA, .long)) {i : Int32} (j : Nat) (hi : i = nI j) (hj : j < n) (hn : n < 2 ^ 31) (hdg : decode cc pc = .ok (.laload, 1))
    (kk : W p l e R s m args below meth c H locs cells slots Q (F0 m (pc + 1) ls (.long (f j) :: rest))) : W p l e R s m args below meth c H locs cells slots Q (F0 m pc ls (.int i :: .ref a :: rest)) :=
  va_lald hx hb hK hP q0 t0 ha ht (in_n hi hj hn).1 hdg (by rw [(in_n hi hj hn).2]; exact kk)
theorem iast_n (hx : p.tables.exec = Jvm.exec) (hb : c.code = cc) (hK : va_K D cl tys s) (hP : va_P D cl ws H) (hD : va_D A ws) (hS : va_S A H0 H locs) (q0 t0 : Nat) {cA : ClassId} {n : Nat} {f : Nat → Int32} (ha : ws[q0]? = some (a, .inl (cA, n, .inl f))) (ht : tys[t0]? = some (cA, .int)) {i x : Int32} (j : Nat) (hi : i = nI j) (hj : j < n) (hn : n < 2 ^ 31) (hdg : decode cc pc = .ok (.iastore, 1))
    (kk : ∀ (H1 : Heap) (locs1 : List Loc), va_P D cl (ws.set q0 (a, .inl (cA, n, .inl (upd f j x)))) H1 → va_D A (ws.set q0 (a, .inl (cA, n, .inl (upd f j x)))) → va_S A H0 H1 locs1 → W p l e R s m args below meth c H1 locs1 cells slots Q (F0 m (pc + 1) ls rest)) : W p l e R s m args below meth c H locs cells slots Q (F0 m pc ls (.int x :: .int i :: .ref a :: rest)) :=
  va_iast hx hb hK hP hD hS q0 t0 ha ht (in_n hi hj hn).1 hdg (by rw [(in_n hi hj hn).2]; exact kk)
theorem zast_n (hx : p.tables.exec = Jvm.exec) (hb : c.code = cc) (hK : va_K D cl tys s) (hP : va_P D cl ws H) (hD : va_D A ws) (hS : va_S A H0 H locs) (q0 t0 : Nat) {cA : ClassId} {n : Nat} {f : Nat → Int32} (ha : ws[q0]? = some (a, .inl (cA, n, .inl f))) (ht : tys[t0]? = some (cA, .boolean)) {i x : Int32} (j : Nat) (hi : i = nI j) (hj : j < n) (hn : n < 2 ^ 31) (hv : x = 0 ∨ x = 1) (hdg : decode cc pc = .ok (.bastore, 1))
    (kk : ∀ (H1 : Heap) (locs1 : List Loc), va_P D cl (ws.set q0 (a, .inl (cA, n, .inl (upd f j x)))) H1 → va_D A (ws.set q0 (a, .inl (cA, n, .inl (upd f j x)))) → va_S A H0 H1 locs1 → W p l e R s m args below meth c H1 locs1 cells slots Q (F0 m (pc + 1) ls rest)) : W p l e R s m args below meth c H locs cells slots Q (F0 m pc ls (.int x :: .int i :: .ref a :: rest)) :=
  va_zast hx hb hK hP hD hS q0 t0 ha ht (in_n hi hj hn).1 hdg (by rw [(in_n hi hj hn).2, show vp_nar .boolean x = x by rcases hv with rfl | rfl <;> rfl]; exact kk)
theorem last_n (hx : p.tables.exec = Jvm.exec) (hb : c.code = cc) (hK : va_K D cl tys s) (hP : va_P D cl ws H) (hD : va_D A ws) (hS : va_S A H0 H locs) (q0 t0 : Nat) {cA : ClassId} {n : Nat} {f : Nat → Int64} (ha : ws[q0]? = some (a, .inl (cA, n, .inr (.inl f)))) (ht : tys[t0]? = some (cA, .long)) {i : Int32} {x : Int64} (j : Nat) (hi : i = nI j) (hj : j < n) (hn : n < 2 ^ 31) (hdg : decode cc pc = .ok (.lastore, 1))
    (kk : ∀ (H1 : Heap) (locs1 : List Loc), va_P D cl (ws.set q0 (a, .inl (cA, n, .inr (.inl (vp_updL f j x))))) H1 → va_D A (ws.set q0 (a, .inl (cA, n, .inr (.inl (vp_updL f j x))))) → va_S A H0 H1 locs1 → W p l e R s m args below meth c H1 locs1 cells slots Q (F0 m (pc + 1) ls rest)) : W p l e R s m args below meth c H locs cells slots Q (F0 m pc ls (.long x :: .int i :: .ref a :: rest)) :=
  va_last hx hb hK hP hD hS q0 t0 ha ht (in_n hi hj hn).1 hdg (by rw [(in_n hi hj hn).2]; exact kk)
end RO
-- truth as an int
def bI (p : Prop) [Decidable p] : Int32 := if p then 1 else 0
theorem bI_t {p : Prop} [Decidable p] (h : p) : bI p = 1 := if_pos h
theorem bI_f {p : Prop} [Decidable p] (h : ¬ p) : bI p = 0 := if_neg h
theorem bI_0 {p : Prop} [Decidable p] (h : bI p = 0) : ¬ p := fun hp => by rw [bI_t hp] at h; exact absurd h (by decide)
theorem bI_1 {p : Prop} [Decidable p] (h : ¬ bI p = 0) : p := Decidable.byContradiction fun hp => h (bI_f hp)
theorem bI_b {p : Prop} [Decidable p] : bI p = 0 ∨ bI p = 1 := by by_cases h : p; exact Or.inr (bI_t h); exact Or.inl (bI_f h)
theorem bI_c {p q : Prop} [Decidable p] [Decidable q] (h : p ↔ q) : bI p = bI q := by unfold bI; simp only [h]
theorem nI_3 : (3 : Int32) = nI 3 := rfl
-- small numbers
theorem n_add {x y : Int32} {a b : Nat} (hx : x = nI a) (hy : y = nI b) : x + y = nI (a + b) := by rw [hx, hy, nI_add]
theorem n_mul {x y : Int32} {a b : Nat} (hx : x = nI a) (hy : y = nI b) : x * y = nI (a * b) := by rw [hx, hy, pk_mul]
theorem n_sub {x y : Int32} {a b : Nat} (hx : x = nI a) (hy : y = nI b) (h : b ≤ a) : x - y = nI (a - b) := by rw [hx, hy, pk_sub h]
theorem n_ti {a : Nat} (h : a < 2 ^ 31) : (nI a).toInt = (a : Int) := nI_toInt h
theorem i_lt {x y : Int32} : x < y ↔ x.toInt < y.toInt := Int32.lt_iff_toInt_lt
theorem i_le {x y : Int32} : x ≤ y ↔ x.toInt ≤ y.toInt := Int32.le_iff_toInt_le
theorem i_eq {x y : Int32} : x = y ↔ x.toInt = y.toInt := Int32.toInt_inj.symm
section LP
variable {p : Program} {l : Launch} {e : Env} {R : Room} {s : State} {m : MethodId} {args : Array Value} {below : List Frame} {meth : Method} {c : Code} {H : Heap} {locs : List Loc} {cells slots : Nat} {Q : State → Prop}
/-- two roads meet with a number on the stack -/
theorem w_join {P : Int32 → Prop} (pcJ : Nat) {ls : Array Slot} {rest : List Value} {g : JFrame} (j : ∀ b : Int32, P b → W p l e R s m args below meth c H locs cells slots Q (F0 m pcJ ls (.int b :: rest))) (k : (∀ b : Int32, P b → W p l e R s m args below meth c H locs cells slots Q (F0 m pcJ ls (.int b :: rest))) → W p l e R s m args below meth c H locs cells slots Q g) : W p l e R s m args below meth c H locs cells slots Q g := k j
/-- a loop whose state is in the locals alone: k goes up to N -/
theorem w_for {N : Nat} (head : Nat) {L : Nat → Array Slot → Prop} (body : ∀ (k : Nat) (ls : Array Slot), k ≤ N → L k ls → (∀ ls' : Array Slot, k < N → L (k + 1) ls' → W p l e R s m args below meth c H locs cells slots Q (F0 m head ls' [])) → W p l e R s m args below meth c H locs cells slots Q (F0 m head ls [])) (k0 : Nat) (ls0 : Array Slot) (h0 : k0 ≤ N) (hL : L k0 ls0) : W p l e R s m args below meth c H locs cells slots Q (F0 m head ls0 []) := by
  obtain ⟨n, hn⟩ : ∃ n, n = N - k0 := ⟨_, rfl⟩
  induction n generalizing k0 ls0 with
  | zero => exact body k0 ls0 h0 hL (fun ls' h _ => absurd h (by omega))
  | succ n ih => exact body k0 ls0 h0 hL (fun ls' h h2 => ih (k0 + 1) ls' (by omega) h2 (by omega))
/-- a loop that writes -/
theorem w_forM {N : Nat} (head : Nat) {L : Nat → Array Slot → Heap → List Loc → Prop} (body : ∀ (k : Nat) (ls : Array Slot) (H : Heap) (locs : List Loc), k ≤ N → L k ls H locs → (∀ (ls' : Array Slot) (H' : Heap) (locs' : List Loc), k < N → L (k + 1) ls' H' locs' → W p l e R s m args below meth c H' locs' cells slots Q (F0 m head ls' [])) → W p l e R s m args below meth c H locs cells slots Q (F0 m head ls [])) (k0 : Nat) (ls0 : Array Slot) (H0 : Heap) (locs0 : List Loc) (h0 : k0 ≤ N) (hL : L k0 ls0 H0 locs0) : W p l e R s m args below meth c H0 locs0 cells slots Q (F0 m head ls0 []) := by
  obtain ⟨n, hn⟩ : ∃ n, n = N - k0 := ⟨_, rfl⟩
  induction n generalizing k0 ls0 H0 locs0 with
  | zero => exact body k0 ls0 H0 locs0 h0 hL (fun ls' _ _ h _ => absurd h (by omega))
  | succ n ih => exact body k0 ls0 H0 locs0 h0 hL (fun ls' H' locs' h h2 => ih (k0 + 1) ls' H' locs' (by omega) h2 (by omega))
end LP
-- places of a list, by a number
def okb (n : Nat) (t : Int32) : Bool := decide (0 ≤ t ∧ t < nI n)
abbrev okN (n : Nat) (t : Int32) : Prop := okb n t = true
theorem okN_def {n : Nat} {t : Int32} : okN n t ↔ (0 ≤ t ∧ t < nI n) := decide_eq_true_iff
theorem okN_ex {n : Nat} {t : Int32} (hn : n < 2 ^ 31) (h : okN n t) : ∃ j : Nat, j < n ∧ t = nI j := by
  have h := okN_def.mp h
  obtain ⟨j, hj, e⟩ := nI_of (x := t) (fun hq => by have h1 := h.1; simp only [i_lt, i_le, Int32.reduceToInt] at h1 hq; omega)
  subst e
  exact ⟨j, (nI_ltI hj hn).mp h.2, rfl⟩
theorem okN_nI {n j : Nat} (hn : n < 2 ^ 31) (h : j < n) : okN n (nI j) := okN_def.mpr ⟨nI_pos' (by omega), nI_lt h hn⟩
theorem okN_iff {n : Nat} {t : Int32} (hn : n < 2 ^ 30) : (0 ≤ t ∧ t ≤ nI n - 1) ↔ okN n t := by
  have h1 : (nI n - 1).toInt = (n : Int) - 1 := pk_sub_toInt (a := n) (b := 1) hn (by decide)
  rw [okN_def]
  simp only [i_le, i_lt, h1, n_ti (show n < 2 ^ 31 by omega), Int32.reduceToInt]
  omega
theorem nI_inj {a b : Nat} (ha : a < 2 ^ 31) (hb : b < 2 ^ 31) (h : nI a = nI b) : a = b := (nI_eq ha hb).mp h
/-- the first place from i on, of f places, with P -/
def fnd (P : Nat → Prop) [DecidablePred P] : Nat → Nat → Int32
  | 0, _ => -1
  | f + 1, i => if P i then nI i else fnd P f (i + 1)
theorem fnd_t {P : Nat → Prop} [DecidablePred P] {f i N : Nat} (h : i < N) (hP : P i) (hf : f = N - i) : fnd P f i = nI i := by
  subst hf; obtain ⟨z, hz⟩ : ∃ z, N - i = z + 1 := ⟨N - i - 1, by omega⟩
  rw [hz]; exact if_pos hP
theorem fnd_f {P : Nat → Prop} [DecidablePred P] {i N : Nat} (h : i < N) (hP : ¬ P i) : fnd P (N - i) i = fnd P (N - (i + 1)) (i + 1) := by
  obtain ⟨z, hz⟩ : ∃ z, N - i = z + 1 := ⟨N - i - 1, by omega⟩
  rw [hz, show N - (i + 1) = z by omega]; exact if_neg hP
theorem bI_self {x : Int32} (h : x = 0 ∨ x = 1) : x = bI (¬ x = 0) := by rcases h with rfl | rfl <;> rfl
theorem and_nn {x c : Int32} (hc : c.toBitVec.msb = false) : 0 ≤ x &&& c := by
  rw [i_le]
  have h : (x &&& c).toBitVec.msb = false := by
    rw [show (x &&& c).toBitVec = x.toBitVec &&& c.toBitVec from rfl, BitVec.msb_and, hc, Bool.and_false]
  rw [BitVec.msb_eq_toInt] at h
  have h2 : ¬ (x &&& c).toBitVec.toInt < 0 := by simpa using h
  show (0 : Int) ≤ (x &&& c).toBitVec.toInt
  omega
theorem and_le {x c : Int32} (hc : c.toBitVec.msb = false) (h : x &&& c ≤ 0) : x &&& c = 0 := by
  have := and_nn (x := x) hc; simp only [i_le, i_eq, Int32.reduceToInt] at *; omega
theorem and_nle {x c : Int32} (h : ¬ x &&& c ≤ 0) : ¬ x &&& c = 0 := fun e => h (by rw [e]; decide)
theorem and_gt {x c : Int32} (h : 0 < x &&& c) : ¬ x &&& c = 0 := fun e => by rw [e] at h; exact absurd h (by decide)
theorem and_ngt {x c : Int32} (hc : c.toBitVec.msb = false) (h : ¬ 0 < x &&& c) : x &&& c = 0 := by
  have := and_nn (x := x) hc; simp only [i_le, i_lt, i_eq, Int32.reduceToInt] at *; omega
abbrev MS : Type := Nat → Nat → Int32
/-- a table of the reference gets v at place i -/
def su (σ : MS) (k i : Nat) (v : Int32) : MS := fun a => if a = k then upd (σ k) i v else σ a
/-- the cells of the reference: its object, its arrays; the fields by their slots: a number is σ k 0, an array is σ k, the longs are τ -/
abbrev mW (G : Nat → ClassId) (mo : Nat) (ad : Nat → Nat) (σ : MS) (τ : Nat → Int64) : va_W := [(mo, .inr (8, [.int (σ 0 0), .int (σ 1 0), .ref (ad 2), .ref (ad 3), .ref (ad 4), .ref (ad 5), .ref (ad 6), .int (σ 7 0), .ref (ad 8), .ref (ad 9), .ref (ad 10), .ref (ad 11), .ref (ad 12), .ref (ad 13), .ref (ad 14), .ref (ad 15), .ref (ad 16), .ref (ad 17), .ref (ad 18), .ref (ad 19), .ref (ad 20), .int (σ 21 0), .int (σ 22 0), .ref (ad 23), .ref (ad 24), .int (σ 25 0), .int (σ 26 0), .ref (ad 27), .ref (ad 28), .ref (ad 29), .ref (ad 30), .ref (ad 31), .ref (ad 32)])), (ad 2, .inl (G 0, 12, .inl (σ 2))), (ad 3, .inl (G 0, 12, .inl (σ 3))), (ad 4, .inl (G 0, 36, .inl (σ 4))), (ad 5, .inl (G 0, 12, .inl (σ 5))), (ad 6, .inl (G 2, 144, .inl (σ 6))), (ad 8, .inl (G 2, 60, .inl (σ 8))), (ad 9, .inl (G 0, 60, .inl (σ 9))), (ad 10, .inl (G 0, 60, .inl (σ 10))), (ad 11, .inl (G 0, 60, .inl (σ 11))), (ad 12, .inl (G 0, 60, .inl (σ 12))), (ad 13, .inl (G 0, 60, .inl (σ 13))), (ad 14, .inl (G 2, 60, .inl (σ 14))), (ad 15, .inl (G 1, 60, .inr (.inl τ))), (ad 16, .inl (G 2, 60, .inl (σ 16))), (ad 17, .inl (G 2, 60, .inl (σ 17))), (ad 18, .inl (G 0, 60, .inl (σ 18))), (ad 19, .inl (G 0, 300, .inl (σ 19))), (ad 20, .inl (G 0, 300, .inl (σ 20))), (ad 23, .inl (G 0, 5, .inl (σ 23))), (ad 24, .inl (G 0, 5, .inl (σ 24))), (ad 27, .inl (G 0, 26, .inl (σ 27))), (ad 28, .inl (G 0, 60, .inl (σ 28))), (ad 29, .inl (G 0, 12, .inl (σ 29))), (ad 30, .inl (G 2, 60, .inl (σ 30))), (ad 31, .inl (G 2, 60, .inl (σ 31))), (ad 32, .inl (G 2, 60, .inl (σ 32)))]
-- what the reference's methods say, by its tables
abbrev lyP (σ : MS) (t o : Nat) : Prop := ¬ σ 6 (12 * t + o) = 0
def nokb (n : Nat) (kind : Int32) : Bool := decide (¬ kind ≤ 9 ∧ ¬ okN n (kind - 10))
abbrev noK (n : Nat) (kind : Int32) : Prop := nokb n kind = true
theorem noK_def {n : Nat} {kind : Int32} : noK n kind ↔ (¬ kind ≤ 9 ∧ ¬ okN n (kind - 10)) := decide_eq_true_iff
def aRef (σ : MS) (n : Nat) (t name kind d m : Int32) : Int32 :=
  if ¬ okN n t ∨ noK n kind then -11
  else if ¬ (0 ≤ name ∧ name ≤ 49) ∨ kind < 0 ∨ kind = 9 ∨ ¬ (0 ≤ d ∧ d ≤ 3) ∨ (kind = 0 ∧ 0 < d) ∨ ¬ (0 ≤ m ∧ m ≤ 2047) then -13
  else if ¬ σ 21 0 = 0 then -14 else if σ 7 0 = 60 then -15 else 0
def bitsF (m : Int32) : Nat → Int32
  | 0 => 0
  | k + 1 => bitsF m k + ((m >>> (nI k &&& 31)) &&& 1)
abbrev fldP (σ : MS) (t name : Int32) (e : Nat) : Prop := σ 8 e = 0 ∧ σ 9 e = t ∧ σ 10 e = name
def fld (σ : MS) (k : Nat) (t name : Int32) : Int32 := fnd (fldP σ t name) k 0
def aRF (σ : MS) (k t : Nat) (name kind m : Int32) : Int32 :=
  if ¬ m ≤ 127 then 1 else if ¬ bitsF (m &&& 7) 11 ≤ 1 then 2 else if ¬ m &&& 16 = 0 ∧ ¬ m &&& 32 = 0 then 3
  else if σ 2 t = 3 ∧ ¬ m &&& (-26) ≤ 0 then 4 else if kind = 0 then 5 else if fld σ k (nI t) name = -1 then 0 else 6
def badb (m : Int32) : Bool := decide (¬ m &&& 786 = 0 ∨ 1 < bitsF (m &&& 1160) 11 ∨ (¬ m &&& 4 = 0 ∧ ¬ m &&& 1152 = 0))
abbrev badF (m : Int32) : Prop := badb m = true
theorem badF_def {m : Int32} : badF m ↔ (¬ m &&& 786 = 0 ∨ 1 < bitsF (m &&& 1160) 11 ∨ (¬ m &&& 4 = 0 ∧ ¬ m &&& 1152 = 0)) := decide_eq_true_iff
def bareb (sort m : Int32) : Bool := decide (¬ m &&& 128 = 0 ∨ ¬ m &&& 256 = 0 ∨ (sort = 3 ∧ m &&& 1036 = 0))
abbrev bare (sort m : Int32) : Prop := bareb sort m = true
theorem bare_def {sort m : Int32} : bare sort m ↔ (¬ m &&& 128 = 0 ∨ ¬ m &&& 256 = 0 ∨ (sort = 3 ∧ m &&& 1036 = 0)) := decide_eq_true_iff
def aRM (sort m body : Int32) : Int32 :=
  if ¬ m &&& 96 = 0 then 11 else if ¬ bitsF (m &&& 7) 11 ≤ 1 then 12 else if (sort = 3 ∧ badF m) ∨ (¬ sort = 3 ∧ ¬ m &&& 1024 = 0) then 13
  else if ¬ sort = 3 ∧ ¬ m &&& 128 = 0 ∧ ¬ m &&& 796 = 0 then 14 else if ¬ sort = 3 ∧ ¬ m &&& 128 = 0 ∧ ¬ sort = 1 then 15
  else if bI (bare sort m) = body then (if body = 0 then 17 else 16) else 0
/-- the type of an entry; how many parameters it has -/
abbrev tyE (σ : MS) (e : Nat) : Nat := (σ 9 e).toNatClampNeg
abbrev mnE (σ : MS) (e : Nat) : Nat := (σ 18 e).toNatClampNeg
abbrev okE (σ : MS) (e : Nat) : Prop := σ 9 e = nI (tyE σ e) ∧ tyE σ e < 12
abbrev okM (σ : MS) (e : Nat) : Prop := σ 18 e = nI (mnE σ e) ∧ mnE σ e ≤ 5
abbrev eqP (σ : MS) (a b j : Nat) : Prop := σ 19 (5 * a + j) = σ 19 (5 * b + j) ∧ σ 20 (5 * a + j) = σ 20 (5 * b + j)
abbrev eqN (σ : MS) (a b n : Nat) : Prop := σ 18 a = σ 18 b ∧ ∀ j, j < n → eqP σ a b j
def sameb (σ : MS) (a b : Nat) : Bool := decide (eqN σ a b (mnE σ a))
abbrev sameP (σ : MS) (a b : Nat) : Prop := sameb σ a b = true
theorem sameP_def {σ : MS} {a b : Nat} : sameP σ a b ↔ eqN σ a b (mnE σ a) := decide_eq_true_iff
theorem eqN_0 {σ : MS} {a b : Nat} : bI (σ 18 a = σ 18 b) = bI (eqN σ a b 0) := bI_c ⟨fun h => ⟨h, fun j hj => absurd hj (Nat.not_lt_zero j)⟩, fun h => h.1⟩
theorem eqN_s {σ : MS} {a b k : Nat} (h : eqN σ a b k) : bI (eqP σ a b k) = bI (eqN σ a b (k + 1)) := bI_c ⟨fun q => ⟨h.1, fun j hj => by
  rcases Nat.lt_or_ge j k with h1 | h1
  · exact h.2 j h1
  · rw [show j = k by omega]; exact q⟩, fun q => q.2 k (Nat.lt_succ_self _)⟩
theorem eqN_f {σ : MS} {a b k : Nat} (hk : k ≤ mnE σ a) (h : ¬ eqN σ a b k) : bI (eqN σ a b k) = bI (sameP σ a b) := by
  rw [bI_f h, bI_f (fun q => h ⟨(sameP_def.mp q).1, fun j hj => (sameP_def.mp q).2 j (by omega)⟩)]
def stb (σ : MS) (e : Nat) : Bool := decide (¬ σ 13 e &&& 8 = 0 ∧ σ 2 (tyE σ e) = 3)
abbrev stP (σ : MS) (e : Nat) : Prop := stb σ e = true
theorem stP_def {σ : MS} {e : Nat} : stP σ e ↔ (¬ σ 13 e &&& 8 = 0 ∧ σ 2 (tyE σ e) = 3) := decide_eq_true_iff
def meetb (σ : MS) (a b : Nat) : Bool := decide (¬ σ 8 b = 0 ∧ ¬ a = b ∧ σ 13 a &&& 4 = 0 ∧ σ 13 b &&& 4 = 0 ∧ ¬ stP σ a ∧ ¬ stP σ b ∧ σ 10 a = σ 10 b ∧ ¬ σ 9 a = σ 9 b ∧ lyP σ (tyE σ a) (tyE σ b) ∧ sameP σ a b)
abbrev meetP (σ : MS) (a b : Nat) : Prop := meetb σ a b = true
theorem meetP_def {σ : MS} {a b : Nat} : meetP σ a b ↔ (¬ σ 8 b = 0 ∧ ¬ a = b ∧ σ 13 a &&& 4 = 0 ∧ σ 13 b &&& 4 = 0 ∧ ¬ stP σ a ∧ ¬ stP σ b ∧ σ 10 a = σ 10 b ∧ ¬ σ 9 a = σ 9 b ∧ lyP σ (tyE σ a) (tyE σ b) ∧ sameP σ a b) := decide_eq_true_iff
def seenF (m : Int32) : Int32 := if ¬ m &&& 1 = 0 then 3 else if ¬ m &&& 2 = 0 then 2 else if ¬ m &&& 4 = 0 then 0 else 1
/-- the type of a kind -/
abbrev tyK (x : Int32) : Nat := (x - 10).toNatClampNeg
abbrev kdO (x : Int32) : Prop := ¬ x ≤ 9 → x - 10 = nI (tyK x) ∧ tyK x < 12
def undb (σ : MS) (x y : Int32) : Bool := decide (¬ x ≤ 9 ∧ ¬ y ≤ 9 ∧ lyP σ (tyK x) (tyK y))
abbrev undP (σ : MS) (x y : Int32) : Prop := undb σ x y = true
theorem undP_def {σ : MS} {x y : Int32} : undP σ x y ↔ (¬ x ≤ 9 ∧ ¬ y ≤ 9 ∧ lyP σ (tyK x) (tyK y)) := decide_eq_true_iff
abbrev eqR (σ : MS) (a b : Nat) : Prop := σ 11 a = σ 11 b ∧ σ 12 a = σ 12 b
abbrev unR (σ : MS) (a b : Nat) : Prop := σ 12 a = 0 ∧ σ 12 b = 0 ∧ undP σ (σ 11 a) (σ 11 b)
def aRA (σ : MS) (a b : Nat) : Int32 :=
  if ¬ σ 13 b &&& 16 = 0 then 22 else if ¬ σ 13 a &&& 8 = σ 13 b &&& 8 then 23
  else if ¬ eqR σ a b ∧ ¬ unR σ a b then 24
  else if ¬ seenF (σ 13 b) ≤ seenF (σ 13 a) then 25 else 0
def bothF (a b : Int32) : Int32 := if a = -1 then b else if b = -1 ∨ a = b then a else -2
def wdb (a b : Int32) : Bool := decide (if a = 4 then 5 ≤ b ∧ b ≤ 8 else (2 ≤ a ∧ a ≤ 7) ∧ (3 ≤ b ∧ b ≤ 8) ∧ ¬ b ≤ a ∧ ¬ b = 4)
abbrev wdP (a b : Int32) : Prop := wdb a b = true
theorem wdP_def {a b : Int32} : wdP a b ↔ (if a = 4 then 5 ≤ b ∧ b ≤ 8 else (2 ≤ a ∧ a ≤ 7) ∧ (3 ≤ b ∧ b ≤ 8) ∧ ¬ b ≤ a ∧ ¬ b = 4) := decide_eq_true_iff
def fitb (σ : MS) (k d kind dim : Int32) : Bool := decide ((k = kind ∧ d = dim) ∨ (¬ (k = kind ∧ d = dim) ∧ (if k = 9 then 0 < dim ∨ ¬ kind ≤ 9 else if d = 0 ∧ dim = 0 ∧ ¬ 9 ≤ k then wdP k kind else d = dim ∧ undP σ k kind)))
abbrev fitP (σ : MS) (k d kind dim : Int32) : Prop := fitb σ k d kind dim = true
theorem fitP_def {σ : MS} {k d kind dim : Int32} : fitP σ k d kind dim ↔ ((k = kind ∧ d = dim) ∨ (¬ (k = kind ∧ d = dim) ∧ (if k = 9 then 0 < dim ∨ ¬ kind ≤ 9 else if d = 0 ∧ dim = 0 ∧ ¬ 9 ≤ k then wdP k kind else d = dim ∧ undP σ k kind))) := decide_eq_true_iff
def kindF (σ : MS) (e p : Nat) (v : Int32) : Int32 := if ¬ v = 0 ∧ ¬ p < mnE σ e then σ 19 (5 * e + (mnE σ e - 1)) else σ 19 (5 * e + p)
def dimF (σ : MS) (e p : Nat) (v : Int32) : Int32 := if ¬ v = 0 ∧ ¬ p < mnE σ e - 1 then σ 20 (5 * e + mnE σ e - 1) - 1 else σ 20 (5 * e + p)
def tkb (σ : MS) (w e : Nat) (v : Int32) (n : Nat) : Bool := decide ((if ¬ v = 0 then ¬ σ 17 e = 0 ∧ ¬ w < mnE σ e - 1 else w = mnE σ e) ∧ ∀ p, p < n → fitP σ (σ 23 p) (σ 24 p) (kindF σ e p v) (dimF σ e p v))
abbrev tkN (σ : MS) (w e : Nat) (v : Int32) (n : Nat) : Prop := tkb σ w e v n = true
theorem tkN_def {σ : MS} {w e : Nat} {v : Int32} {n : Nat} : tkN σ w e v n ↔ ((if ¬ v = 0 then ¬ σ 17 e = 0 ∧ ¬ w < mnE σ e - 1 else w = mnE σ e) ∧ ∀ p, p < n → fitP σ (σ 23 p) (σ 24 p) (kindF σ e p v) (dimF σ e p v)) := decide_eq_true_iff
theorem tkN_s {σ : MS} {w e : Nat} {v : Int32} {k : Nat} (h : tkN σ w e v k) : bI (fitP σ (σ 23 k) (σ 24 k) (kindF σ e k v) (dimF σ e k v)) = bI (tkN σ w e v (k + 1)) := by
  have h := tkN_def.mp h
  refine bI_c ⟨fun q => tkN_def.mpr ⟨h.1, fun j hj => ?_⟩, fun q => (tkN_def.mp q).2 k (Nat.lt_succ_self _)⟩
  rcases Nat.lt_or_ge j k with h1 | h1
  · exact h.2 j h1
  · rw [show j = k by omega]; exact q
theorem tkN_f {σ : MS} {w e : Nat} {v : Int32} {k n : Nat} (hk : k ≤ n) (h : ¬ tkN σ w e v k) : bI (tkN σ w e v k) = bI (tkN σ w e v n) := by
  rw [bI_f h, bI_f (fun q => h (tkN_def.mpr ⟨(tkN_def.mp q).1, fun j hj => (tkN_def.mp q).2 j (by omega)⟩))]
def nrb (σ : MS) (a b : Nat) (v : Int32) (n : Nat) : Bool := decide (∀ p, p < n → fitP σ (kindF σ a p v) (dimF σ a p v) (kindF σ b p v) (dimF σ b p v))
abbrev nrN (σ : MS) (a b : Nat) (v : Int32) (n : Nat) : Prop := nrb σ a b v n = true
theorem nrN_def {σ : MS} {a b : Nat} {v : Int32} {n : Nat} : nrN σ a b v n ↔ (∀ p, p < n → fitP σ (kindF σ a p v) (dimF σ a p v) (kindF σ b p v) (dimF σ b p v)) := decide_eq_true_iff
theorem nrN_0 {σ : MS} {a b : Nat} {v : Int32} : (1 : Int32) = bI (nrN σ a b v 0) := (bI_t (nrN_def.mpr (fun j hj => absurd hj (Nat.not_lt_zero j)))).symm
theorem nrN_s {σ : MS} {a b : Nat} {v : Int32} {k : Nat} (h : nrN σ a b v k) : bI (fitP σ (kindF σ a k v) (dimF σ a k v) (kindF σ b k v) (dimF σ b k v)) = bI (nrN σ a b v (k + 1)) := by
  have h := nrN_def.mp h
  refine bI_c ⟨fun q => nrN_def.mpr (fun j hj => ?_), fun q => (nrN_def.mp q) k (Nat.lt_succ_self _)⟩
  rcases Nat.lt_or_ge j k with h1 | h1
  · exact h j h1
  · rw [show j = k by omega]; exact q
theorem nrN_f {σ : MS} {a b : Nat} {v : Int32} {k n : Nat} (hk : k ≤ n) (h : ¬ nrN σ a b v k) : bI (nrN σ a b v k) = bI (nrN σ a b v n) := by
  rw [bI_f h, bI_f (fun q => h (nrN_def.mpr (fun j hj => (nrN_def.mp q) j (by omega))))]
/-- how many places are compared -/
def plO (σ : MS) (w a : Nat) (v : Int32) : Nat := if v = 0 then w else max w (mnE σ a)
abbrev plN (σ : MS) (w a b : Nat) (v : Int32) : Nat := plO σ (plO σ w a v) b v
theorem plO_le {σ : MS} {w a : Nat} {v : Int32} (h : w ≤ 5) (ha : mnE σ a ≤ 5) : plO σ w a v ≤ 5 := by unfold plO; split <;> omega
def mkb (σ : MS) (t e wa : Nat) : Bool := decide (¬ σ 8 e = 0 ∧ lyP σ t (tyE σ e) ∧ σ 10 e = σ 10 wa ∧ sameP σ e wa ∧ (if σ 2 (tyE σ e) = 3 then ¬ σ 13 e &&& 1024 = 0 else (¬ σ 16 e = 0 ∨ ¬ σ 13 e &&& 256 = 0) ∧ σ 13 e &&& 12 = 0))
abbrev mkP (σ : MS) (t e wa : Nat) : Prop := mkb σ t e wa = true
theorem mkP_def {σ : MS} {t e wa : Nat} : mkP σ t e wa ↔ (¬ σ 8 e = 0 ∧ lyP σ t (tyE σ e) ∧ σ 10 e = σ 10 wa ∧ sameP σ e wa ∧ (if σ 2 (tyE σ e) = 3 then ¬ σ 13 e &&& 1024 = 0 else (¬ σ 16 e = 0 ∨ ¬ σ 13 e &&& 256 = 0) ∧ σ 13 e &&& 12 = 0)) := decide_eq_true_iff
def lkb (σ : MS) (t e n : Nat) : Bool := decide (¬ σ 8 e = 0 ∧ ¬ σ 13 e &&& 128 = 0 ∧ lyP σ t (tyE σ e) ∧ ∀ o, o < n → ¬ mkP σ t o e)
abbrev lkN (σ : MS) (t e n : Nat) : Prop := lkb σ t e n = true
theorem lkN_def {σ : MS} {t e n : Nat} : lkN σ t e n ↔ (¬ σ 8 e = 0 ∧ ¬ σ 13 e &&& 128 = 0 ∧ lyP σ t (tyE σ e) ∧ ∀ o, o < n → ¬ mkP σ t o e) := decide_eq_true_iff
theorem lkN_s {σ : MS} {t e k : Nat} (h : lkN σ t e k) : bI (¬ mkP σ t k e) = bI (lkN σ t e (k + 1)) := by
  have h := lkN_def.mp h
  refine bI_c ⟨fun q => lkN_def.mpr ⟨h.1, h.2.1, h.2.2.1, fun j hj => ?_⟩, fun q => (lkN_def.mp q).2.2.2 k (Nat.lt_succ_self _)⟩
  rcases Nat.lt_or_ge j k with h1 | h1
  · exact h.2.2.2 j h1
  · rw [show j = k by omega]; exact q
theorem lkN_f {σ : MS} {t e k n : Nat} (hk : k ≤ n) (h : ¬ lkN σ t e k) : bI (lkN σ t e k) = bI (lkN σ t e n) := by
  rw [bI_f h, bI_f (fun q => h (by have q := lkN_def.mp q; exact lkN_def.mpr ⟨q.1, q.2.1, q.2.2.1, fun j hj => q.2.2.2 j (by omega)⟩))]
theorem plO_0 {σ : MS} {w a : Nat} {v : Int32} (h : v = 0) : plO σ w a v = w := if_pos h
theorem plO_1 {σ : MS} {w a : Nat} {v : Int32} (h : ¬ v = 0) (q : mnE σ a ≤ w) : plO σ w a v = w := by unfold plO; rw [if_neg h]; omega
theorem plO_2 {σ : MS} {w a : Nat} {v : Int32} (h : ¬ v = 0) (q : ¬ mnE σ a ≤ w) : plO σ w a v = mnE σ a := by unfold plO; rw [if_neg h]; omega
-- methods of the reference that write
abbrev MU : Type := MS × (Nat → Int64)
/-- a table of the reference is another -/
def st (σ : MS) (k : Nat) (f : Nat → Int32) : MS := fun a => if a = k then f else σ a
abbrev muP (D : va_G) (G : Nat → ClassId) (sz mo : Nat) (ad : Nat → Nat) (u : MU) (As : List Value) : Array Value → State → Prop := va_Pc As (fun U => U.heap.size = sz ∧ va_P D vwCl (mW G mo ad u.1 u.2) U.heap ∧ KK D G U ∧ va_D (fun _ => True) (mW G mo ad u.1 u.2))
abbrev muA (G : Nat → ClassId) (mo : Nat) (ad : Nat → Nat) (u : MU) (sz : Nat) : Nat → Prop := va_A (mW G mo ad u.1 u.2) sz
abbrev muB (D : va_G) (G : Nat → ClassId) (mo : Nat) (ad : Nat → Nat) (A : Nat → Prop) (z : MU) (t : State) : Prop := va_P D vwCl (mW G mo ad z.1 z.2) t.heap ∧ va_D A (mW G mo ad z.1 z.2)
abbrev muQi (D : va_G) (G : Nat → ClassId) (mo : Nat) (ad : Nat → Nat) (A : Nat → Prop) (ans : Int32) (v : MU) : Array Value → State → Outcome → State → Prop := va_Qi (fun r (z : MU) => r = ans ∧ z = v) (muB D G mo ad A) A
abbrev muQl (D : va_G) (G : Nat → ClassId) (mo : Nat) (ad : Nat → Nat) (A : Nat → Prop) (ans : Int64) (v : MU) : Array Value → State → Outcome → State → Prop := va_Ql (fun r (z : MU) => r = ans ∧ z = v) (muB D G mo ad A) A
abbrev muQv (D : va_G) (G : Nat → ClassId) (mo : Nat) (ad : Nat → Nat) (A : Nat → Prop) (v : MU) : Array Value → State → Outcome → State → Prop := va_Qv (fun (z : MU) => z = v) (muB D G mo ad A) A
section MUT
variable {p : Program} {l : Launch} {e : Env} {R : Room} {s : State} {m : MethodId} {args : Array Value} {below : List Frame} {meth : Method} {c : Code} {H : Heap} {locs : List Loc} {cells slots : Nat} {Q : State → Prop}
variable {cc : ByteArray} {pc : Nat} {ls : Array Slot} {rest stk : List Value} {D : va_G} {G : Nat → ClassId} {y : MethodName} {bytes : ByteArray} {maxL nL n idx d : Nat} {ret : Option FieldType} {As : List Value} {own C : String} {A : Nat → Prop} {mo : Nat} {ad : Nat → Nat} {u v : MU}
theorem mu_pre (hK : KK D G s) (hP : va_P D vwCl (mW G mo ad u.1 u.2) H) (hD : va_D A (mW G mo ad u.1 u.2)) : PreS s H (muP D G H.size mo ad u As) As :=
  ⟨fun _ _ _ _ q => ⟨q.1, q.2.1, q.2.2.1, q.2.2.2.1.call, q.2.2.2.2⟩, fun U hU hW => ⟨rfl, by rw [hU], by rw [hU]; exact hP, hK.warm hW, hD.weaken (fun _ _ _ _ => trivial)⟩⟩
theorem mu_fr (hD : va_D A (mW G mo ad u.1 u.2)) (hS : va_S A s.heap H locs) (hA : ∀ q, s.heap.size ≤ q → A q) : ∀ q, muA G mo ad u H.size q → A q := by
  intro q h
  rcases h with ⟨k, e, h⟩ | h
  · exact hD.2 k (q, e) h
  · exact hA q (Nat.le_trans hS.1 h)
theorem mu_Vi {ans : Int32} (S : CallFix p m c cc nL s args TT own) (hM : Met l y (.code y bytes maxL ret :: TT) (rmD d) (muP D G H.size mo ad u (.ref mo :: As)) (muQi D G mo ad (muA G mo ad u H.size) ans v) 0 0 (muA G mo ad u H.size)) (g : GoodIn TT (wsV own idx RX8 y (.code y bytes maxL ret :: TT)))
    (hd : y.cls = RX8 ∧ y.cls ≠ "java/lang/invoke/MethodHandle" ∧ y.cls ≠ "java/lang/invoke/VarHandle" ∧ (parseMethodDescriptor y.desc).map (fun d => d.parameters.length) = some n) (hR : d + 1 ≤ R.frames ∧ 8 + (maxL + 11) + 40 * d ≤ R.locals) (hK : KK D G s) (hP : va_P D vwCl (mW G mo ad u.1 u.2) H) (hD : va_D A (mW G mo ad u.1 u.2)) (hS : va_S A s.heap H locs) (hA : ∀ q, s.heap.size ≤ q → A q) (hn : As.length = n) (hsize : ls.size = nL) (hstack : stk = As.reverse ++ .ref mo :: rest) (hW : (rest.map fun v => v.category).sum ≤ 8) (hdg : decode cc pc = .ok (.invokevirtual idx, 3)) (hc : cells ≤ R.cells ∧ slots ≤ R.slots)
    (kk : ∀ (H : Heap) (locs : List Loc), va_P D vwCl (mW G mo ad v.1 v.2) H → va_D A (mW G mo ad v.1 v.2) → va_S A s.heap H locs → W p l e R s m args below meth c H locs cells slots Q (F0 m (pc + 3) ls (.int ans :: rest))) : W p l e R s m args below meth c H locs cells slots Q (F0 m pc ls stk) := by
  refine va_calli (va_runV S hM (cwV n S.2.2.2.2 g rfl rfl rfl hd hR) ⟨(mu_pre (As := .ref mo :: As) hK hP hD).1, va_recv hK.1 hP (ci := 8) (q0 := 0) rfl rfl, (mu_pre hK hP hD).2⟩ rfl hn hsize hstack (lv_room hW) hdg hc) hS (fun q _ h => mu_fr hD hS hA q h) (mu_fr hD hS hA) (fun r z t H1 locs1 ht hvm hw hB hz1 hk1 hS1 => ?_)
  obtain ⟨rfl, rfl⟩ := hw
  obtain ⟨hP1, hD1⟩ := hB
  rw [ht] at hP1
  exact kk H1 locs1 hP1 (hD1.weaken (fun k q _ h => mu_fr hD hS hA q.1 h)) hS1
theorem mu_Vv (S : CallFix p m c cc nL s args TT own) (hM : Met l y (.code y bytes maxL ret :: TT) (rmD d) (muP D G H.size mo ad u (.ref mo :: As)) (muQv D G mo ad (muA G mo ad u H.size) v) 0 0 (muA G mo ad u H.size)) (g : GoodIn TT (wsV own idx RX8 y (.code y bytes maxL ret :: TT)))
    (hd : y.cls = RX8 ∧ y.cls ≠ "java/lang/invoke/MethodHandle" ∧ y.cls ≠ "java/lang/invoke/VarHandle" ∧ (parseMethodDescriptor y.desc).map (fun d => d.parameters.length) = some n) (hR : d + 1 ≤ R.frames ∧ 8 + (maxL + 11) + 40 * d ≤ R.locals) (hK : KK D G s) (hP : va_P D vwCl (mW G mo ad u.1 u.2) H) (hD : va_D A (mW G mo ad u.1 u.2)) (hS : va_S A s.heap H locs) (hA : ∀ q, s.heap.size ≤ q → A q) (hn : As.length = n) (hsize : ls.size = nL) (hstack : stk = As.reverse ++ .ref mo :: rest) (hW : (rest.map fun v => v.category).sum ≤ 8) (hdg : decode cc pc = .ok (.invokevirtual idx, 3)) (hc : cells ≤ R.cells ∧ slots ≤ R.slots)
    (kk : ∀ (H : Heap) (locs : List Loc), va_P D vwCl (mW G mo ad v.1 v.2) H → va_D A (mW G mo ad v.1 v.2) → va_S A s.heap H locs → W p l e R s m args below meth c H locs cells slots Q (F0 m (pc + 3) ls rest)) : W p l e R s m args below meth c H locs cells slots Q (F0 m pc ls stk) := by
  refine va_callv (va_runV S hM (cwV n S.2.2.2.2 g rfl rfl rfl hd hR) ⟨(mu_pre (As := .ref mo :: As) hK hP hD).1, va_recv hK.1 hP (ci := 8) (q0 := 0) rfl rfl, (mu_pre hK hP hD).2⟩ rfl hn hsize hstack (lv_room hW) hdg hc) hS (fun q _ h => mu_fr hD hS hA q h) (mu_fr hD hS hA) (fun z t H1 locs1 ht hvm hw hB hz1 hk1 hS1 => ?_)
  subst hw
  obtain ⟨hP1, hD1⟩ := hB
  rw [ht] at hP1
  exact kk H1 locs1 hP1 (hD1.weaken (fun k q _ h => mu_fr hD hS hA q.1 h)) hS1
theorem mu_iret {v0 ans : Int32} {z : MU} (hx : p.tables.exec = Jvm.exec) (hb : c.code = cc) (hr : meth.sig.returnType = some .int) (hlocks : meth.locks = false) (hP : va_P D vwCl (mW G mo ad z.1 z.2) H) (hD : va_D A (mW G mo ad z.1 z.2)) (hS : va_S A s.heap H locs) (hdg : decode cc pc = .ok (.ireturn, 1)) (h1 : v0 = ans) (h2 : z = v) : W p l e R s m args below meth c H locs cells slots (MQ below (muQi D G mo ad A ans v) args s cells slots A) (F0 m pc ls [.int v0]) :=
  W.iret hx hb hr (fun t ht _ => ⟨⟨v0, z, rfl, ⟨h1, h2⟩, by rw [ht]; exact hP, hD⟩, hS.F ht⟩) hS.2.2 hdg hlocks
theorem mu_lret {v0 ans : Int64} {z : MU} (hx : p.tables.exec = Jvm.exec) (hb : c.code = cc) (hr : meth.sig.returnType = some .long) (hlocks : meth.locks = false) (hP : va_P D vwCl (mW G mo ad z.1 z.2) H) (hD : va_D A (mW G mo ad z.1 z.2)) (hS : va_S A s.heap H locs) (hdg : decode cc pc = .ok (.lreturn, 1)) (h1 : v0 = ans) (h2 : z = v) : W p l e R s m args below meth c H locs cells slots (MQ below (muQl D G mo ad A ans v) args s cells slots A) (F0 m pc ls [.long v0]) :=
  W.lret hx hb hr (fun t ht _ => ⟨⟨v0, z, rfl, ⟨h1, h2⟩, by rw [ht]; exact hP, hD⟩, hS.F ht⟩) hS.2.2 hdg hlocks
theorem mu_vret {z : MU} (hx : p.tables.exec = Jvm.exec) (hb : c.code = cc) (hr : meth.sig.returnType = none) (hlocks : meth.locks = false) (hP : va_P D vwCl (mW G mo ad z.1 z.2) H) (hD : va_D A (mW G mo ad z.1 z.2)) (hS : va_S A s.heap H locs) (hdg : decode cc pc = .ok (.return_, 1)) (h2 : z = v) : W p l e R s m args below meth c H locs cells slots (MQ below (muQv D G mo ad A v) args s cells slots A) (F0 m pc ls []) :=
  W.vret hx hb hr (fun t ht _ => ⟨⟨z, rfl, h2, by rw [ht]; exact hP, hD⟩, hS.F ht⟩) hS.2.2 hdg hlocks
end MUT
def rsF (f : Nat → Int32) (t : Nat) : Nat → Nat → Int32
  | 0 => f
  | k + 1 => upd (rsF f t k) (12 * t + k) (bI (k = t))
def addF (f : Nat → Int32) (t ab : Nat) : Nat → Nat → Int32
  | 0 => f
  | k + 1 => upd (addF f t ab k) (12 * t + k) (addF f t ab k (12 * t + k) ||| addF f t ab k (12 * ab + k))
/-- the faces' rows are added, one after the other -/
def afF (f fa : Nat → Int32) (t : Nat) : Nat → Nat → Int32
  | 0 => f
  | k + 1 => addF (afF f fa t k) t (fa (3 * t + k)).toNatClampNeg 12
def recF (f pa fc fa : Nat → Int32) (t : Nat) : Nat → Int32 := afF (if pa t = -1 then rsF f t 12 else addF (rsF f t 12) t (pa t).toNatClampNeg 12) fa t (fc t).toNatClampNeg
abbrev b01 (f : Nat → Int32) : Prop := ∀ i, f i = 0 ∨ f i = 1
theorem b01_or {x y : Int32} (hx : x = 0 ∨ x = 1) (hy : y = 0 ∨ y = 1) : x ||| y = 0 ∨ x ||| y = 1 := by rcases hx with rfl | rfl <;> rcases hy with rfl | rfl <;> decide
theorem b01_upd {f : Nat → Int32} (h : b01 f) {j : Nat} {x : Int32} (hx : x = 0 ∨ x = 1) : b01 (upd f j x) := fun i => by unfold upd; split; exact hx; exact h i
theorem b01_rs {f : Nat → Int32} (h : b01 f) (t : Nat) : ∀ k, b01 (rsF f t k)
  | 0 => h
  | k + 1 => b01_upd (b01_rs h t k) bI_b
theorem b01_add {f : Nat → Int32} (h : b01 f) (t ab : Nat) : ∀ k, b01 (addF f t ab k)
  | 0 => h
  | k + 1 => b01_upd (b01_add h t ab k) (b01_or (b01_add h t ab k _) (b01_add h t ab k _))
theorem b01_af {f fa : Nat → Int32} (h : b01 f) (t : Nat) : ∀ k, b01 (afF f fa t k)
  | 0 => h
  | k + 1 => b01_add (b01_af h t k) t _ 12
theorem b01_rec {f pa fc fa : Nat → Int32} (h : b01 f) (t : Nat) : b01 (recF f pa fc fa t) := by
  unfold recF; split
  · exact b01_af (b01_rs h t 12) t _
  · exact b01_af (b01_add (b01_rs h t 12) t _ 12) t _
/-- a place of a table is a type's number -/
abbrev okT (x : Int32) : Prop := x = nI x.toNatClampNeg ∧ x.toNatClampNeg < 12
end
section
theorem q_712 : Cond.lays "FieldMemberModel" "FieldMemberModel" "fault" "I" ∈ TT := tt_t (i := 712) (by decide +kernel) (by decide +kernel)
theorem q_714 : Cond.lays "FieldMemberModel" "FieldMemberModel" "types" "I" ∈ TT := tt_t (i := 714) (by decide +kernel) (by decide +kernel)
theorem q_716 : Cond.laysFinal "FieldMemberModel" "FieldMemberModel" "sorts" "[I" ∈ TT := tt_t (i := 716) (by decide +kernel) (by decide +kernel)
theorem q_718 : Cond.laysFinal "FieldMemberModel" "FieldMemberModel" "parents" "[I" ∈ TT := tt_t (i := 718) (by decide +kernel) (by decide +kernel)
theorem q_720 : Cond.laysFinal "FieldMemberModel" "FieldMemberModel" "faces" "[I" ∈ TT := tt_t (i := 720) (by decide +kernel) (by decide +kernel)
theorem q_722 : Cond.laysFinal "FieldMemberModel" "FieldMemberModel" "faceCount" "[I" ∈ TT := tt_t (i := 722) (by decide +kernel) (by decide +kernel)
theorem q_724 : Cond.laysFinal "FieldMemberModel" "FieldMemberModel" "isBelow" "[Z" ∈ TT := tt_t (i := 724) (by decide +kernel) (by decide +kernel)
theorem q_726 : Cond.lays "FieldMemberModel" "FieldMemberModel" "entries" "I" ∈ TT := tt_t (i := 726) (by decide +kernel) (by decide +kernel)
theorem q_728 : Cond.laysFinal "FieldMemberModel" "FieldMemberModel" "isMember" "[Z" ∈ TT := tt_t (i := 728) (by decide +kernel) (by decide +kernel)
theorem q_730 : Cond.laysFinal "FieldMemberModel" "FieldMemberModel" "ofType" "[I" ∈ TT := tt_t (i := 730) (by decide +kernel) (by decide +kernel)
theorem q_732 : Cond.laysFinal "FieldMemberModel" "FieldMemberModel" "names" "[I" ∈ TT := tt_t (i := 732) (by decide +kernel) (by decide +kernel)
theorem q_734 : Cond.laysFinal "FieldMemberModel" "FieldMemberModel" "kinds" "[I" ∈ TT := tt_t (i := 734) (by decide +kernel) (by decide +kernel)
theorem q_736 : Cond.laysFinal "FieldMemberModel" "FieldMemberModel" "dims" "[I" ∈ TT := tt_t (i := 736) (by decide +kernel) (by decide +kernel)
theorem q_738 : Cond.laysFinal "FieldMemberModel" "FieldMemberModel" "marks" "[I" ∈ TT := tt_t (i := 738) (by decide +kernel) (by decide +kernel)
theorem q_740 : Cond.laysFinal "FieldMemberModel" "FieldMemberModel" "isTold" "[Z" ∈ TT := tt_t (i := 740) (by decide +kernel) (by decide +kernel)
theorem q_742 : Cond.laysFinal "FieldMemberModel" "FieldMemberModel" "told" "[J" ∈ TT := tt_t (i := 742) (by decide +kernel) (by decide +kernel)
theorem q_744 : Cond.laysFinal "FieldMemberModel" "FieldMemberModel" "hasBody" "[Z" ∈ TT := tt_t (i := 744) (by decide +kernel) (by decide +kernel)
theorem q_746 : Cond.laysFinal "FieldMemberModel" "FieldMemberModel" "isVaried" "[Z" ∈ TT := tt_t (i := 746) (by decide +kernel) (by decide +kernel)
theorem q_748 : Cond.laysFinal "FieldMemberModel" "FieldMemberModel" "many" "[I" ∈ TT := tt_t (i := 748) (by decide +kernel) (by decide +kernel)
theorem q_750 : Cond.laysFinal "FieldMemberModel" "FieldMemberModel" "partKinds" "[I" ∈ TT := tt_t (i := 750) (by decide +kernel) (by decide +kernel)
theorem q_752 : Cond.laysFinal "FieldMemberModel" "FieldMemberModel" "partDims" "[I" ∈ TT := tt_t (i := 752) (by decide +kernel) (by decide +kernel)
theorem q_754 : Cond.lays "FieldMemberModel" "FieldMemberModel" "isBegun" "Z" ∈ TT := tt_t (i := 754) (by decide +kernel) (by decide +kernel)
theorem q_756 : Cond.lays "FieldMemberModel" "FieldMemberModel" "waits" "I" ∈ TT := tt_t (i := 756) (by decide +kernel) (by decide +kernel)
theorem q_758 : Cond.laysFinal "FieldMemberModel" "FieldMemberModel" "argumentKinds" "[I" ∈ TT := tt_t (i := 758) (by decide +kernel) (by decide +kernel)
theorem q_760 : Cond.laysFinal "FieldMemberModel" "FieldMemberModel" "argumentDims" "[I" ∈ TT := tt_t (i := 760) (by decide +kernel) (by decide +kernel)
theorem q_762 : Cond.lays "FieldMemberModel" "FieldMemberModel" "way" "I" ∈ TT := tt_t (i := 762) (by decide +kernel) (by decide +kernel)
theorem q_764 : Cond.lays "FieldMemberModel" "FieldMemberModel" "rulesBroken" "I" ∈ TT := tt_t (i := 764) (by decide +kernel) (by decide +kernel)
theorem q_766 : Cond.laysFinal "FieldMemberModel" "FieldMemberModel" "broken" "[I" ∈ TT := tt_t (i := 766) (by decide +kernel) (by decide +kernel)
theorem q_768 : Cond.laysFinal "FieldMemberModel" "FieldMemberModel" "met" "[I" ∈ TT := tt_t (i := 768) (by decide +kernel) (by decide +kernel)
theorem q_770 : Cond.laysFinal "FieldMemberModel" "FieldMemberModel" "foundIn" "[I" ∈ TT := tt_t (i := 770) (by decide +kernel) (by decide +kernel)
theorem q_772 : Cond.laysFinal "FieldMemberModel" "FieldMemberModel" "isCandidate" "[Z" ∈ TT := tt_t (i := 772) (by decide +kernel) (by decide +kernel)
theorem q_774 : Cond.laysFinal "FieldMemberModel" "FieldMemberModel" "isFound" "[Z" ∈ TT := tt_t (i := 774) (by decide +kernel) (by decide +kernel)
theorem q_776 : Cond.laysFinal "FieldMemberModel" "FieldMemberModel" "isTaken" "[Z" ∈ TT := tt_t (i := 776) (by decide +kernel) (by decide +kernel)
theorem iX8 : ∀ w ∈ wsX80, w ∈ TT := by
  have h : wsX80 = [Cond.lays "FieldMemberModel" "FieldMemberModel" "fault" "I", Cond.lays "FieldMemberModel" "FieldMemberModel" "types" "I", Cond.laysFinal "FieldMemberModel" "FieldMemberModel" "sorts" "[I", Cond.laysFinal "FieldMemberModel" "FieldMemberModel" "parents" "[I", Cond.laysFinal "FieldMemberModel" "FieldMemberModel" "faces" "[I", Cond.laysFinal "FieldMemberModel" "FieldMemberModel" "faceCount" "[I", Cond.laysFinal "FieldMemberModel" "FieldMemberModel" "isBelow" "[Z", Cond.lays "FieldMemberModel" "FieldMemberModel" "entries" "I", Cond.laysFinal "FieldMemberModel" "FieldMemberModel" "isMember" "[Z", Cond.laysFinal "FieldMemberModel" "FieldMemberModel" "ofType" "[I", Cond.laysFinal "FieldMemberModel" "FieldMemberModel" "names" "[I", Cond.laysFinal "FieldMemberModel" "FieldMemberModel" "kinds" "[I", Cond.laysFinal "FieldMemberModel" "FieldMemberModel" "dims" "[I", Cond.laysFinal "FieldMemberModel" "FieldMemberModel" "marks" "[I", Cond.laysFinal "FieldMemberModel" "FieldMemberModel" "isTold" "[Z", Cond.laysFinal "FieldMemberModel" "FieldMemberModel" "told" "[J", Cond.laysFinal "FieldMemberModel" "FieldMemberModel" "hasBody" "[Z", Cond.laysFinal "FieldMemberModel" "FieldMemberModel" "isVaried" "[Z", Cond.laysFinal "FieldMemberModel" "FieldMemberModel" "many" "[I", Cond.laysFinal "FieldMemberModel" "FieldMemberModel" "partKinds" "[I", Cond.laysFinal "FieldMemberModel" "FieldMemberModel" "partDims" "[I", Cond.lays "FieldMemberModel" "FieldMemberModel" "isBegun" "Z", Cond.lays "FieldMemberModel" "FieldMemberModel" "waits" "I", Cond.laysFinal "FieldMemberModel" "FieldMemberModel" "argumentKinds" "[I", Cond.laysFinal "FieldMemberModel" "FieldMemberModel" "argumentDims" "[I", Cond.lays "FieldMemberModel" "FieldMemberModel" "way" "I", Cond.lays "FieldMemberModel" "FieldMemberModel" "rulesBroken" "I", Cond.laysFinal "FieldMemberModel" "FieldMemberModel" "broken" "[I", Cond.laysFinal "FieldMemberModel" "FieldMemberModel" "met" "[I", Cond.laysFinal "FieldMemberModel" "FieldMemberModel" "foundIn" "[I", Cond.laysFinal "FieldMemberModel" "FieldMemberModel" "isCandidate" "[Z", Cond.laysFinal "FieldMemberModel" "FieldMemberModel" "isFound" "[Z", Cond.laysFinal "FieldMemberModel" "FieldMemberModel" "isTaken" "[Z"] := by decide +kernel
  rw [h]
  exact tt_c q_712 (tt_c q_714 (tt_c q_716 (tt_c q_718 (tt_c q_720 (tt_c q_722 (tt_c q_724 (tt_c q_726 (tt_c q_728 (tt_c q_730 (tt_c q_732 (tt_c q_734 (tt_c q_736 (tt_c q_738 (tt_c q_740 (tt_c q_742 (tt_c q_744 (tt_c q_746 (tt_c q_748 (tt_c q_750 (tt_c q_752 (tt_c q_754 (tt_c q_756 (tt_c q_758 (tt_c q_760 (tt_c q_762 (tt_c q_764 (tt_c q_766 (tt_c q_768 (tt_c q_770 (tt_c q_772 (tt_c q_774 (tt_c q_776 (fun _ h => nomatch h)))))))))))))))))))))))))))))))))
theorem dX8_thrown_0 : decode cX8_thrown 0 = .ok (.aload_n 0, 1) := by decide +kernel
theorem q_679 : Cond.fieldLink "FieldMemberModel" 90 "FieldMemberModel" "fault" "I" ∈ TT := tt_t (i := 679) (by decide +kernel) (by decide +kernel)
theorem dX8_thrown_1 : decode cX8_thrown 1 = .ok (.getfield 90, 3) := by decide +kernel
theorem dX8_thrown_4 : decode cX8_thrown 4 = .ok (.ireturn, 1) := by decide +kernel
theorem dX8_in_0 : decode cX8_in 0 = .ok (.iload_n 0, 1) := by decide +kernel
theorem dX8_in_1 : decode cX8_in 1 = .ok (.iload_n 1, 1) := by decide +kernel
theorem dX8_in_2 : decode cX8_in 2 = .ok (.if_icmp .lt 12, 3) := by decide +kernel
theorem dX8_in_14 : decode cX8_in 14 = .ok (.iconst 0, 1) := by decide +kernel
theorem dX8_in_15 : decode cX8_in 15 = .ok (.ireturn, 1) := by decide +kernel
theorem dX8_in_5 : decode cX8_in 5 = .ok (.iload_n 0, 1) := by decide +kernel
theorem dX8_in_6 : decode cX8_in 6 = .ok (.iload_n 2, 1) := by decide +kernel
theorem dX8_in_7 : decode cX8_in 7 = .ok (.if_icmp .gt 7, 3) := by decide +kernel
theorem dX8_in_10 : decode cX8_in 10 = .ok (.iconst 1, 1) := by decide +kernel
theorem dX8_in_11 : decode cX8_in 11 = .ok (.goto 4, 3) := by decide +kernel
theorem dX8_isType_0 : decode cX8_isType 0 = .ok (.iload_n 1, 1) := by decide +kernel
theorem dX8_isType_1 : decode cX8_isType 1 = .ok (.iconst 0, 1) := by decide +kernel
theorem dX8_isType_2 : decode cX8_isType 2 = .ok (.aload_n 0, 1) := by decide +kernel
theorem q_680 : Cond.fieldLink "FieldMemberModel" 94 "FieldMemberModel" "types" "I" ∈ TT := tt_t (i := 680) (by decide +kernel) (by decide +kernel)
theorem dX8_isType_3 : decode cX8_isType 3 = .ok (.getfield 94, 3) := by decide +kernel
theorem dX8_isType_6 : decode cX8_isType 6 = .ok (.iconst 1, 1) := by decide +kernel
theorem dX8_isType_7 : decode cX8_isType 7 = .ok (.isub, 1) := by decide +kernel
theorem q_788 : Cond.methodLink "FieldMemberModel" 97 ⟨"FieldMemberModel", "in", "(III)Z"⟩ ∈ TT := tt_t (i := 788) (by decide +kernel) (by decide +kernel)
theorem q_790 : Cond.code ⟨"FieldMemberModel", "in", "(III)Z"⟩ prog_10_method_3_code 3 (some .boolean) ∈ TT := tt_t (i := 790) (by decide +kernel) (by decide +kernel)
theorem q_4 : Cond.initialized "FieldMemberModel" ∈ TT := tt_t (i := 4) (by decide +kernel) (by decide +kernel)
theorem q_789 : Cond.static ⟨"FieldMemberModel", "in", "(III)Z"⟩ ∈ TT := tt_t (i := 789) (by decide +kernel) (by decide +kernel)
theorem gS_X8_X8_in : GoodIn TT (va_wsS RX8 97 yX8_in (ww yX8_in cX8_in 3 (some .boolean))) := tt_S q_788 q_789 q_4 q_790
theorem hdS_X8_in : yX8_in.cls ≠ "java/lang/invoke/MethodHandle" ∧ yX8_in.cls ≠ "java/lang/invoke/VarHandle" ∧ (parseMethodDescriptor yX8_in.desc).map (fun d => d.parameters.length) = some 3 := by decide +kernel
theorem dX8_isType_8 : decode cX8_isType 8 = .ok (.invokestatic 97, 3) := by decide +kernel
theorem dX8_isType_11 : decode cX8_isType 11 = .ok (.ireturn, 1) := by decide +kernel
theorem dX8_isFace_0 : decode cX8_isFace 0 = .ok (.aload_n 0, 1) := by decide +kernel
theorem q_681 : Cond.fieldLink "FieldMemberModel" 7 "FieldMemberModel" "sorts" "[I" ∈ TT := tt_t (i := 681) (by decide +kernel) (by decide +kernel)
theorem dX8_isFace_1 : decode cX8_isFace 1 = .ok (.getfield 7, 3) := by decide +kernel
theorem dX8_isFace_4 : decode cX8_isFace 4 = .ok (.iload_n 1, 1) := by decide +kernel
theorem dX8_isFace_5 : decode cX8_isFace 5 = .ok (.iaload, 1) := by decide +kernel
theorem dX8_isFace_6 : decode cX8_isFace 6 = .ok (.iconst 3, 1) := by decide +kernel
theorem dX8_isFace_7 : decode cX8_isFace 7 = .ok (.if_icmp .ne 7, 3) := by decide +kernel
theorem dX8_isFace_14 : decode cX8_isFace 14 = .ok (.iconst 0, 1) := by decide +kernel
theorem dX8_isFace_15 : decode cX8_isFace 15 = .ok (.ireturn, 1) := by decide +kernel
theorem dX8_isFace_10 : decode cX8_isFace 10 = .ok (.iconst 1, 1) := by decide +kernel
theorem dX8_isFace_11 : decode cX8_isFace 11 = .ok (.goto 4, 3) := by decide +kernel
theorem dX8_lies_0 : decode cX8_lies 0 = .ok (.aload_n 0, 1) := by decide +kernel
theorem q_685 : Cond.fieldLink "FieldMemberModel" 22 "FieldMemberModel" "isBelow" "[Z" ∈ TT := tt_t (i := 685) (by decide +kernel) (by decide +kernel)
theorem dX8_lies_1 : decode cX8_lies 1 = .ok (.getfield 22, 3) := by decide +kernel
theorem dX8_lies_4 : decode cX8_lies 4 = .ok (.bipush 12, 2) := by decide +kernel
theorem dX8_lies_6 : decode cX8_lies 6 = .ok (.iload_n 1, 1) := by decide +kernel
theorem dX8_lies_7 : decode cX8_lies 7 = .ok (.imul, 1) := by decide +kernel
theorem dX8_lies_8 : decode cX8_lies 8 = .ok (.iload_n 2, 1) := by decide +kernel
theorem dX8_lies_9 : decode cX8_lies 9 = .ok (.iadd, 1) := by decide +kernel
theorem dX8_lies_10 : decode cX8_lies 10 = .ok (.baload, 1) := by decide +kernel
theorem dX8_lies_11 : decode cX8_lies 11 = .ok (.ireturn, 1) := by decide +kernel
theorem dX8_noKind_0 : decode cX8_noKind 0 = .ok (.iload_n 1, 1) := by decide +kernel
theorem dX8_noKind_1 : decode cX8_noKind 1 = .ok (.bipush 9, 2) := by decide +kernel
theorem dX8_noKind_3 : decode cX8_noKind 3 = .ok (.if_icmp .le 18, 3) := by decide +kernel
theorem dX8_noKind_21 : decode cX8_noKind 21 = .ok (.iconst 0, 1) := by decide +kernel
theorem dX8_noKind_22 : decode cX8_noKind 22 = .ok (.ireturn, 1) := by decide +kernel
theorem dX8_noKind_6 : decode cX8_noKind 6 = .ok (.aload_n 0, 1) := by decide +kernel
theorem dX8_noKind_7 : decode cX8_noKind 7 = .ok (.iload_n 1, 1) := by decide +kernel
theorem dX8_noKind_8 : decode cX8_noKind 8 = .ok (.bipush 10, 2) := by decide +kernel
theorem dX8_noKind_10 : decode cX8_noKind 10 = .ok (.isub, 1) := by decide +kernel
theorem q_791 : Cond.methodLink "FieldMemberModel" 104 ⟨"FieldMemberModel", "isType", "(I)Z"⟩ ∈ TT := tt_t (i := 791) (by decide +kernel) (by decide +kernel)
theorem q_794 : Cond.code ⟨"FieldMemberModel", "isType", "(I)Z"⟩ prog_10_method_4_code 2 (some .boolean) ∈ TT := tt_t (i := 794) (by decide +kernel) (by decide +kernel)
theorem q_793 : Cond.instanceMethod ⟨"FieldMemberModel", "isType", "(I)Z"⟩ ∈ TT := tt_t (i := 793) (by decide +kernel) (by decide +kernel)
theorem qs_31 : Cond.selects "FieldMemberModel" ⟨"FieldMemberModel", "isType", "(I)Z"⟩ ⟨"FieldMemberModel", "isType", "(I)Z"⟩ ∈ TT := tt_s (i := 31) (by decide +kernel) (by decide +kernel)
theorem gV_X8_X8_isType : GoodIn TT (wsV RX8 104 RX8 yX8_isType (ww yX8_isType cX8_isType 2 (some .boolean))) := tt_V q_791 q_793 qs_31 q_4 q_794
theorem hdV_X8_isType : yX8_isType.cls = RX8 ∧ yX8_isType.cls ≠ "java/lang/invoke/MethodHandle" ∧ yX8_isType.cls ≠ "java/lang/invoke/VarHandle" ∧ (parseMethodDescriptor yX8_isType.desc).map (fun d => d.parameters.length) = some 1 := by decide +kernel
theorem dX8_noKind_11 : decode cX8_noKind 11 = .ok (.invokevirtual 104, 3) := by decide +kernel
theorem dX8_noKind_14 : decode cX8_noKind 14 = .ok (.ifCond .ne 7, 3) := by decide +kernel
theorem dX8_noKind_17 : decode cX8_noKind 17 = .ok (.iconst 1, 1) := by decide +kernel
theorem dX8_noKind_18 : decode cX8_noKind 18 = .ok (.goto 4, 3) := by decide +kernel
theorem dX8_refusal_0 : decode cX8_refusal 0 = .ok (.aload_n 0, 1) := by decide +kernel
theorem dX8_refusal_1 : decode cX8_refusal 1 = .ok (.iload_n 1, 1) := by decide +kernel
theorem dX8_refusal_2 : decode cX8_refusal 2 = .ok (.invokevirtual 104, 3) := by decide +kernel
theorem dX8_refusal_5 : decode cX8_refusal 5 = .ok (.ifCond .eq 11, 3) := by decide +kernel
theorem dX8_refusal_16 : decode cX8_refusal 16 = .ok (.bipush (-11), 2) := by decide +kernel
theorem dX8_refusal_18 : decode cX8_refusal 18 = .ok (.ireturn, 1) := by decide +kernel
theorem dX8_refusal_8 : decode cX8_refusal 8 = .ok (.aload_n 0, 1) := by decide +kernel
theorem dX8_refusal_9 : decode cX8_refusal 9 = .ok (.iload_n 3, 1) := by decide +kernel
theorem q_827 : Cond.methodLink "FieldMemberModel" 130 ⟨"FieldMemberModel", "noKind", "(I)Z"⟩ ∈ TT := tt_t (i := 827) (by decide +kernel) (by decide +kernel)
theorem q_830 : Cond.code ⟨"FieldMemberModel", "noKind", "(I)Z"⟩ prog_10_method_14_code 2 (some .boolean) ∈ TT := tt_t (i := 830) (by decide +kernel) (by decide +kernel)
theorem q_829 : Cond.instanceMethod ⟨"FieldMemberModel", "noKind", "(I)Z"⟩ ∈ TT := tt_t (i := 829) (by decide +kernel) (by decide +kernel)
theorem qs_37 : Cond.selects "FieldMemberModel" ⟨"FieldMemberModel", "noKind", "(I)Z"⟩ ⟨"FieldMemberModel", "noKind", "(I)Z"⟩ ∈ TT := tt_s (i := 37) (by decide +kernel) (by decide +kernel)
theorem gV_X8_X8_noKind : GoodIn TT (wsV RX8 130 RX8 yX8_noKind (ww yX8_noKind cX8_noKind 2 (some .boolean))) := tt_V q_827 q_829 qs_37 q_4 q_830
theorem hdV_X8_noKind : yX8_noKind.cls = RX8 ∧ yX8_noKind.cls ≠ "java/lang/invoke/MethodHandle" ∧ yX8_noKind.cls ≠ "java/lang/invoke/VarHandle" ∧ (parseMethodDescriptor yX8_noKind.desc).map (fun d => d.parameters.length) = some 1 := by decide +kernel
theorem dX8_refusal_10 : decode cX8_refusal 10 = .ok (.invokevirtual 130, 3) := by decide +kernel
theorem dX8_refusal_13 : decode cX8_refusal 13 = .ok (.ifCond .eq 6, 3) := by decide +kernel
theorem dX8_refusal_19 : decode cX8_refusal 19 = .ok (.iload_n 2, 1) := by decide +kernel
theorem dX8_refusal_20 : decode cX8_refusal 20 = .ok (.iconst 0, 1) := by decide +kernel
theorem dX8_refusal_21 : decode cX8_refusal 21 = .ok (.bipush 49, 2) := by decide +kernel
theorem dX8_refusal_23 : decode cX8_refusal 23 = .ok (.invokestatic 97, 3) := by decide +kernel
theorem dX8_refusal_26 : decode cX8_refusal 26 = .ok (.ifCond .eq 44, 3) := by decide +kernel
theorem dX8_refusal_70 : decode cX8_refusal 70 = .ok (.bipush (-13), 2) := by decide +kernel
theorem dX8_refusal_72 : decode cX8_refusal 72 = .ok (.ireturn, 1) := by decide +kernel
theorem dX8_refusal_29 : decode cX8_refusal 29 = .ok (.iload_n 3, 1) := by decide +kernel
theorem dX8_refusal_30 : decode cX8_refusal 30 = .ok (.ifCond .lt 40, 3) := by decide +kernel
theorem dX8_refusal_33 : decode cX8_refusal 33 = .ok (.iload_n 3, 1) := by decide +kernel
theorem dX8_refusal_34 : decode cX8_refusal 34 = .ok (.bipush 9, 2) := by decide +kernel
theorem dX8_refusal_36 : decode cX8_refusal 36 = .ok (.if_icmp .eq 34, 3) := by decide +kernel
theorem dX8_refusal_39 : decode cX8_refusal 39 = .ok (.iload 4, 2) := by decide +kernel
theorem dX8_refusal_41 : decode cX8_refusal 41 = .ok (.iconst 0, 1) := by decide +kernel
theorem dX8_refusal_42 : decode cX8_refusal 42 = .ok (.iconst 3, 1) := by decide +kernel
theorem dX8_refusal_43 : decode cX8_refusal 43 = .ok (.invokestatic 97, 3) := by decide +kernel
theorem dX8_refusal_46 : decode cX8_refusal 46 = .ok (.ifCond .eq 24, 3) := by decide +kernel
theorem dX8_refusal_49 : decode cX8_refusal 49 = .ok (.iload_n 3, 1) := by decide +kernel
theorem dX8_refusal_50 : decode cX8_refusal 50 = .ok (.ifCond .ne 8, 3) := by decide +kernel
theorem dX8_refusal_58 : decode cX8_refusal 58 = .ok (.iload 5, 2) := by decide +kernel
theorem dX8_refusal_60 : decode cX8_refusal 60 = .ok (.iconst 0, 1) := by decide +kernel
theorem dX8_refusal_61 : decode cX8_refusal 61 = .ok (.sipush 2047, 3) := by decide +kernel
theorem dX8_refusal_64 : decode cX8_refusal 64 = .ok (.invokestatic 97, 3) := by decide +kernel
theorem dX8_refusal_67 : decode cX8_refusal 67 = .ok (.ifCond .ne 6, 3) := by decide +kernel
theorem dX8_refusal_73 : decode cX8_refusal 73 = .ok (.aload_n 0, 1) := by decide +kernel
theorem q_700 : Cond.fieldLink "FieldMemberModel" 122 "FieldMemberModel" "isBegun" "Z" ∈ TT := tt_t (i := 700) (by decide +kernel) (by decide +kernel)
theorem dX8_refusal_74 : decode cX8_refusal 74 = .ok (.getfield 122, 3) := by decide +kernel
theorem dX8_refusal_77 : decode cX8_refusal 77 = .ok (.ifCond .eq 8, 3) := by decide +kernel
theorem dX8_refusal_85 : decode cX8_refusal 85 = .ok (.aload_n 0, 1) := by decide +kernel
theorem q_686 : Cond.fieldLink "FieldMemberModel" 119 "FieldMemberModel" "entries" "I" ∈ TT := tt_t (i := 686) (by decide +kernel) (by decide +kernel)
theorem dX8_refusal_86 : decode cX8_refusal 86 = .ok (.getfield 119, 3) := by decide +kernel
theorem dX8_refusal_89 : decode cX8_refusal 89 = .ok (.bipush 60, 2) := by decide +kernel
theorem dX8_refusal_91 : decode cX8_refusal 91 = .ok (.if_icmp .ne 8, 3) := by decide +kernel
theorem dX8_refusal_99 : decode cX8_refusal 99 = .ok (.iconst 0, 1) := by decide +kernel
theorem dX8_refusal_100 : decode cX8_refusal 100 = .ok (.ireturn, 1) := by decide +kernel
theorem dX8_refusal_94 : decode cX8_refusal 94 = .ok (.bipush (-15), 2) := by decide +kernel
theorem dX8_refusal_96 : decode cX8_refusal 96 = .ok (.goto 4, 3) := by decide +kernel
theorem dX8_refusal_80 : decode cX8_refusal 80 = .ok (.bipush (-14), 2) := by decide +kernel
theorem dX8_refusal_82 : decode cX8_refusal 82 = .ok (.goto 18, 3) := by decide +kernel
theorem dX8_refusal_53 : decode cX8_refusal 53 = .ok (.iload 4, 2) := by decide +kernel
theorem dX8_refusal_55 : decode cX8_refusal 55 = .ok (.ifCond .gt 15, 3) := by decide +kernel
theorem dX8_bits_0 : decode cX8_bits 0 = .ok (.iconst 0, 1) := by decide +kernel
theorem dX8_bits_1 : decode cX8_bits 1 = .ok (.istore_n 1, 1) := by decide +kernel
theorem dX8_bits_2 : decode cX8_bits 2 = .ok (.iconst 0, 1) := by decide +kernel
theorem dX8_bits_3 : decode cX8_bits 3 = .ok (.istore_n 2, 1) := by decide +kernel
theorem dX8_bits_4 : decode cX8_bits 4 = .ok (.iload_n 2, 1) := by decide +kernel
theorem dX8_bits_5 : decode cX8_bits 5 = .ok (.bipush 11, 2) := by decide +kernel
theorem dX8_bits_7 : decode cX8_bits 7 = .ok (.if_icmp .ge 17, 3) := by decide +kernel
theorem dX8_bits_24 : decode cX8_bits 24 = .ok (.iload_n 1, 1) := by decide +kernel
theorem dX8_bits_25 : decode cX8_bits 25 = .ok (.ireturn, 1) := by decide +kernel
theorem dX8_bits_10 : decode cX8_bits 10 = .ok (.iload_n 1, 1) := by decide +kernel
theorem dX8_bits_11 : decode cX8_bits 11 = .ok (.iload_n 0, 1) := by decide +kernel
theorem dX8_bits_12 : decode cX8_bits 12 = .ok (.iload_n 2, 1) := by decide +kernel
theorem dX8_bits_13 : decode cX8_bits 13 = .ok (.ishr, 1) := by decide +kernel
theorem dX8_bits_14 : decode cX8_bits 14 = .ok (.iconst 1, 1) := by decide +kernel
theorem dX8_bits_15 : decode cX8_bits 15 = .ok (.iand, 1) := by decide +kernel
theorem dX8_bits_16 : decode cX8_bits 16 = .ok (.iadd, 1) := by decide +kernel
theorem dX8_bits_17 : decode cX8_bits 17 = .ok (.istore_n 1, 1) := by decide +kernel
theorem dX8_bits_18 : decode cX8_bits 18 = .ok (.iinc 2 1, 3) := by decide +kernel
theorem dX8_bits_21 : decode cX8_bits 21 = .ok (.goto (-17), 3) := by decide +kernel
theorem dX8_fieldOf_0 : decode cX8_fieldOf 0 = .ok (.iconst 0, 1) := by decide +kernel
theorem dX8_fieldOf_1 : decode cX8_fieldOf 1 = .ok (.istore_n 3, 1) := by decide +kernel
theorem dX8_fieldOf_2 : decode cX8_fieldOf 2 = .ok (.iload_n 3, 1) := by decide +kernel
theorem dX8_fieldOf_3 : decode cX8_fieldOf 3 = .ok (.aload_n 0, 1) := by decide +kernel
theorem dX8_fieldOf_4 : decode cX8_fieldOf 4 = .ok (.getfield 119, 3) := by decide +kernel
theorem dX8_fieldOf_7 : decode cX8_fieldOf 7 = .ok (.if_icmp .ge 40, 3) := by decide +kernel
theorem dX8_fieldOf_47 : decode cX8_fieldOf 47 = .ok (.iconst (-1), 1) := by decide +kernel
theorem dX8_fieldOf_48 : decode cX8_fieldOf 48 = .ok (.ireturn, 1) := by decide +kernel
theorem dX8_fieldOf_10 : decode cX8_fieldOf 10 = .ok (.aload_n 0, 1) := by decide +kernel
theorem q_687 : Cond.fieldLink "FieldMemberModel" 26 "FieldMemberModel" "isMember" "[Z" ∈ TT := tt_t (i := 687) (by decide +kernel) (by decide +kernel)
theorem dX8_fieldOf_11 : decode cX8_fieldOf 11 = .ok (.getfield 26, 3) := by decide +kernel
theorem dX8_fieldOf_14 : decode cX8_fieldOf 14 = .ok (.iload_n 3, 1) := by decide +kernel
theorem dX8_fieldOf_15 : decode cX8_fieldOf 15 = .ok (.baload, 1) := by decide +kernel
theorem dX8_fieldOf_16 : decode cX8_fieldOf 16 = .ok (.ifCond .ne 25, 3) := by decide +kernel
theorem dX8_fieldOf_41 : decode cX8_fieldOf 41 = .ok (.iinc 3 1, 3) := by decide +kernel
theorem dX8_fieldOf_44 : decode cX8_fieldOf 44 = .ok (.goto (-42), 3) := by decide +kernel
theorem dX8_fieldOf_19 : decode cX8_fieldOf 19 = .ok (.aload_n 0, 1) := by decide +kernel
theorem q_688 : Cond.fieldLink "FieldMemberModel" 29 "FieldMemberModel" "ofType" "[I" ∈ TT := tt_t (i := 688) (by decide +kernel) (by decide +kernel)
theorem dX8_fieldOf_20 : decode cX8_fieldOf 20 = .ok (.getfield 29, 3) := by decide +kernel
theorem dX8_fieldOf_23 : decode cX8_fieldOf 23 = .ok (.iload_n 3, 1) := by decide +kernel
theorem dX8_fieldOf_24 : decode cX8_fieldOf 24 = .ok (.iaload, 1) := by decide +kernel
theorem dX8_fieldOf_25 : decode cX8_fieldOf 25 = .ok (.iload_n 1, 1) := by decide +kernel
theorem dX8_fieldOf_26 : decode cX8_fieldOf 26 = .ok (.if_icmp .ne 15, 3) := by decide +kernel
theorem dX8_fieldOf_29 : decode cX8_fieldOf 29 = .ok (.aload_n 0, 1) := by decide +kernel
theorem q_689 : Cond.fieldLink "FieldMemberModel" 32 "FieldMemberModel" "names" "[I" ∈ TT := tt_t (i := 689) (by decide +kernel) (by decide +kernel)
theorem dX8_fieldOf_30 : decode cX8_fieldOf 30 = .ok (.getfield 32, 3) := by decide +kernel
theorem dX8_fieldOf_33 : decode cX8_fieldOf 33 = .ok (.iload_n 3, 1) := by decide +kernel
theorem dX8_fieldOf_34 : decode cX8_fieldOf 34 = .ok (.iaload, 1) := by decide +kernel
theorem dX8_fieldOf_35 : decode cX8_fieldOf 35 = .ok (.iload_n 2, 1) := by decide +kernel
theorem dX8_fieldOf_36 : decode cX8_fieldOf 36 = .ok (.if_icmp .ne 5, 3) := by decide +kernel
theorem dX8_fieldOf_39 : decode cX8_fieldOf 39 = .ok (.iload_n 3, 1) := by decide +kernel
theorem dX8_fieldOf_40 : decode cX8_fieldOf 40 = .ok (.ireturn, 1) := by decide +kernel
theorem dX8_ruleOfField_0 : decode cX8_ruleOfField 0 = .ok (.iload 4, 2) := by decide +kernel
theorem dX8_ruleOfField_2 : decode cX8_ruleOfField 2 = .ok (.bipush 127, 2) := by decide +kernel
theorem dX8_ruleOfField_4 : decode cX8_ruleOfField 4 = .ok (.if_icmp .le 5, 3) := by decide +kernel
theorem dX8_ruleOfField_9 : decode cX8_ruleOfField 9 = .ok (.iload 4, 2) := by decide +kernel
theorem dX8_ruleOfField_11 : decode cX8_ruleOfField 11 = .ok (.bipush 7, 2) := by decide +kernel
theorem dX8_ruleOfField_13 : decode cX8_ruleOfField 13 = .ok (.iand, 1) := by decide +kernel
theorem q_835 : Cond.methodLink "FieldMemberModel" 149 ⟨"FieldMemberModel", "bits", "(I)I"⟩ ∈ TT := tt_t (i := 835) (by decide +kernel) (by decide +kernel)
theorem q_837 : Cond.code ⟨"FieldMemberModel", "bits", "(I)I"⟩ prog_10_method_7_code 3 (some .int) ∈ TT := tt_t (i := 837) (by decide +kernel) (by decide +kernel)
theorem q_836 : Cond.static ⟨"FieldMemberModel", "bits", "(I)I"⟩ ∈ TT := tt_t (i := 836) (by decide +kernel) (by decide +kernel)
theorem gS_X8_X8_bits : GoodIn TT (va_wsS RX8 149 yX8_bits (ww yX8_bits cX8_bits 3 (some .int))) := tt_S q_835 q_836 q_4 q_837
theorem hdS_X8_bits : yX8_bits.cls ≠ "java/lang/invoke/MethodHandle" ∧ yX8_bits.cls ≠ "java/lang/invoke/VarHandle" ∧ (parseMethodDescriptor yX8_bits.desc).map (fun d => d.parameters.length) = some 1 := by decide +kernel
theorem dX8_ruleOfField_14 : decode cX8_ruleOfField 14 = .ok (.invokestatic 149, 3) := by decide +kernel
theorem dX8_ruleOfField_17 : decode cX8_ruleOfField 17 = .ok (.iconst 1, 1) := by decide +kernel
theorem dX8_ruleOfField_18 : decode cX8_ruleOfField 18 = .ok (.if_icmp .le 5, 3) := by decide +kernel
theorem dX8_ruleOfField_23 : decode cX8_ruleOfField 23 = .ok (.iload 4, 2) := by decide +kernel
theorem dX8_ruleOfField_25 : decode cX8_ruleOfField 25 = .ok (.bipush 16, 2) := by decide +kernel
theorem dX8_ruleOfField_27 : decode cX8_ruleOfField 27 = .ok (.iand, 1) := by decide +kernel
theorem dX8_ruleOfField_28 : decode cX8_ruleOfField 28 = .ok (.ifCond .le 13, 3) := by decide +kernel
theorem dX8_ruleOfField_41 : decode cX8_ruleOfField 41 = .ok (.aload_n 0, 1) := by decide +kernel
theorem dX8_ruleOfField_42 : decode cX8_ruleOfField 42 = .ok (.iload_n 1, 1) := by decide +kernel
theorem q_807 : Cond.methodLink "FieldMemberModel" 116 ⟨"FieldMemberModel", "isFace", "(I)Z"⟩ ∈ TT := tt_t (i := 807) (by decide +kernel) (by decide +kernel)
theorem q_810 : Cond.code ⟨"FieldMemberModel", "isFace", "(I)Z"⟩ prog_10_method_5_code 2 (some .boolean) ∈ TT := tt_t (i := 810) (by decide +kernel) (by decide +kernel)
theorem q_809 : Cond.instanceMethod ⟨"FieldMemberModel", "isFace", "(I)Z"⟩ ∈ TT := tt_t (i := 809) (by decide +kernel) (by decide +kernel)
theorem qs_34 : Cond.selects "FieldMemberModel" ⟨"FieldMemberModel", "isFace", "(I)Z"⟩ ⟨"FieldMemberModel", "isFace", "(I)Z"⟩ ∈ TT := tt_s (i := 34) (by decide +kernel) (by decide +kernel)
theorem gV_X8_X8_isFace : GoodIn TT (wsV RX8 116 RX8 yX8_isFace (ww yX8_isFace cX8_isFace 2 (some .boolean))) := tt_V q_807 q_809 qs_34 q_4 q_810
theorem hdV_X8_isFace : yX8_isFace.cls = RX8 ∧ yX8_isFace.cls ≠ "java/lang/invoke/MethodHandle" ∧ yX8_isFace.cls ≠ "java/lang/invoke/VarHandle" ∧ (parseMethodDescriptor yX8_isFace.desc).map (fun d => d.parameters.length) = some 1 := by decide +kernel
theorem dX8_ruleOfField_43 : decode cX8_ruleOfField 43 = .ok (.invokevirtual 116, 3) := by decide +kernel
theorem dX8_ruleOfField_46 : decode cX8_ruleOfField 46 = .ok (.ifCond .eq 13, 3) := by decide +kernel
theorem dX8_ruleOfField_59 : decode cX8_ruleOfField 59 = .ok (.iload_n 3, 1) := by decide +kernel
theorem dX8_ruleOfField_60 : decode cX8_ruleOfField 60 = .ok (.ifCond .ne 7, 3) := by decide +kernel
theorem dX8_ruleOfField_67 : decode cX8_ruleOfField 67 = .ok (.aload_n 0, 1) := by decide +kernel
theorem dX8_ruleOfField_68 : decode cX8_ruleOfField 68 = .ok (.iload_n 1, 1) := by decide +kernel
theorem dX8_ruleOfField_69 : decode cX8_ruleOfField 69 = .ok (.iload_n 2, 1) := by decide +kernel
theorem q_838 : Cond.methodLink "FieldMemberModel" 152 ⟨"FieldMemberModel", "fieldOf", "(II)I"⟩ ∈ TT := tt_t (i := 838) (by decide +kernel) (by decide +kernel)
theorem q_841 : Cond.code ⟨"FieldMemberModel", "fieldOf", "(II)I"⟩ prog_10_method_18_code 4 (some .int) ∈ TT := tt_t (i := 841) (by decide +kernel) (by decide +kernel)
theorem q_840 : Cond.instanceMethod ⟨"FieldMemberModel", "fieldOf", "(II)I"⟩ ∈ TT := tt_t (i := 840) (by decide +kernel) (by decide +kernel)
theorem qs_39 : Cond.selects "FieldMemberModel" ⟨"FieldMemberModel", "fieldOf", "(II)I"⟩ ⟨"FieldMemberModel", "fieldOf", "(II)I"⟩ ∈ TT := tt_s (i := 39) (by decide +kernel) (by decide +kernel)
theorem gV_X8_X8_fieldOf : GoodIn TT (wsV RX8 152 RX8 yX8_fieldOf (ww yX8_fieldOf cX8_fieldOf 4 (some .int))) := tt_V q_838 q_840 qs_39 q_4 q_841
theorem hdV_X8_fieldOf : yX8_fieldOf.cls = RX8 ∧ yX8_fieldOf.cls ≠ "java/lang/invoke/MethodHandle" ∧ yX8_fieldOf.cls ≠ "java/lang/invoke/VarHandle" ∧ (parseMethodDescriptor yX8_fieldOf.desc).map (fun d => d.parameters.length) = some 2 := by decide +kernel
theorem dX8_ruleOfField_70 : decode cX8_ruleOfField 70 = .ok (.invokevirtual 152, 3) := by decide +kernel
theorem dX8_ruleOfField_73 : decode cX8_ruleOfField 73 = .ok (.iconst (-1), 1) := by decide +kernel
theorem dX8_ruleOfField_74 : decode cX8_ruleOfField 74 = .ok (.if_icmp .ne 7, 3) := by decide +kernel
theorem dX8_ruleOfField_81 : decode cX8_ruleOfField 81 = .ok (.bipush 6, 2) := by decide +kernel
theorem dX8_ruleOfField_83 : decode cX8_ruleOfField 83 = .ok (.ireturn, 1) := by decide +kernel
theorem dX8_ruleOfField_77 : decode cX8_ruleOfField 77 = .ok (.iconst 0, 1) := by decide +kernel
theorem dX8_ruleOfField_78 : decode cX8_ruleOfField 78 = .ok (.goto 5, 3) := by decide +kernel
theorem dX8_ruleOfField_63 : decode cX8_ruleOfField 63 = .ok (.iconst 5, 1) := by decide +kernel
theorem dX8_ruleOfField_64 : decode cX8_ruleOfField 64 = .ok (.goto 19, 3) := by decide +kernel
theorem dX8_ruleOfField_49 : decode cX8_ruleOfField 49 = .ok (.iload 4, 2) := by decide +kernel
theorem dX8_ruleOfField_51 : decode cX8_ruleOfField 51 = .ok (.bipush (-26), 2) := by decide +kernel
theorem dX8_ruleOfField_53 : decode cX8_ruleOfField 53 = .ok (.iand, 1) := by decide +kernel
theorem dX8_ruleOfField_54 : decode cX8_ruleOfField 54 = .ok (.ifCond .le 5, 3) := by decide +kernel
theorem dX8_ruleOfField_57 : decode cX8_ruleOfField 57 = .ok (.iconst 4, 1) := by decide +kernel
theorem dX8_ruleOfField_58 : decode cX8_ruleOfField 58 = .ok (.ireturn, 1) := by decide +kernel
theorem dX8_ruleOfField_31 : decode cX8_ruleOfField 31 = .ok (.iload 4, 2) := by decide +kernel
theorem dX8_ruleOfField_33 : decode cX8_ruleOfField 33 = .ok (.bipush 32, 2) := by decide +kernel
theorem dX8_ruleOfField_35 : decode cX8_ruleOfField 35 = .ok (.iand, 1) := by decide +kernel
theorem dX8_ruleOfField_36 : decode cX8_ruleOfField 36 = .ok (.ifCond .le 5, 3) := by decide +kernel
theorem dX8_ruleOfField_39 : decode cX8_ruleOfField 39 = .ok (.iconst 3, 1) := by decide +kernel
theorem dX8_ruleOfField_40 : decode cX8_ruleOfField 40 = .ok (.ireturn, 1) := by decide +kernel
theorem dX8_ruleOfField_21 : decode cX8_ruleOfField 21 = .ok (.iconst 2, 1) := by decide +kernel
theorem dX8_ruleOfField_22 : decode cX8_ruleOfField 22 = .ok (.ireturn, 1) := by decide +kernel
theorem dX8_ruleOfField_7 : decode cX8_ruleOfField 7 = .ok (.iconst 1, 1) := by decide +kernel
theorem dX8_ruleOfField_8 : decode cX8_ruleOfField 8 = .ok (.ireturn, 1) := by decide +kernel
theorem dX8_isEntry_0 : decode cX8_isEntry 0 = .ok (.iload_n 1, 1) := by decide +kernel
theorem dX8_isEntry_1 : decode cX8_isEntry 1 = .ok (.iconst 0, 1) := by decide +kernel
theorem dX8_isEntry_2 : decode cX8_isEntry 2 = .ok (.aload_n 0, 1) := by decide +kernel
theorem dX8_isEntry_3 : decode cX8_isEntry 3 = .ok (.getfield 119, 3) := by decide +kernel
theorem dX8_isEntry_6 : decode cX8_isEntry 6 = .ok (.iconst 1, 1) := by decide +kernel
theorem dX8_isEntry_7 : decode cX8_isEntry 7 = .ok (.isub, 1) := by decide +kernel
theorem dX8_isEntry_8 : decode cX8_isEntry 8 = .ok (.invokestatic 97, 3) := by decide +kernel
theorem dX8_isEntry_11 : decode cX8_isEntry 11 = .ok (.ireturn, 1) := by decide +kernel
set_option maxHeartbeats 4000000 in
set_option maxRecDepth 100000 in
theorem m_thrown (l : Launch) (D : va_G) (G : Nat → ClassId) (H : Heap) (mo : Nat) (ad : Nat → Nat) (σ : MS) (τ : Nat → Int64) (hP : va_P D vwCl (mW G mo ad σ τ) H)  : Met l yX8_thrown (ww yX8_thrown cX8_thrown 1 (some .int)) (rmD 0) (roP D G H [.ref mo]) (vp_Si (fun r => r = σ 0 0)) 0 0 (fun _ => False) := by
  refine Met.ofW (cc := cX8_thrown) (maxL := 1) (ret := (some .int)) (by decide) rfl ?_
  intro p e s m args below meth c s₁ B hml hv
  obtain ⟨rfl, hH, hK⟩ := hv
  have hx := B.exec
  have hb := B.bytes
  have hr := B.returns
  have hts : ∀ w ∈ TT, w.before _ s = true := fun w h => atoms_spec (ws := ww yX8_thrown cX8_thrown 1 (some .int)) B.pre w (List.mem_cons_of_mem _ h)
  have hown : s.vm.findClass RX8 = some m.cls := findClass_of_methodNamed B.named
  have hlocks := B.notSynchronized
  rw [hH]
  have hl := lv_entry ([.ref mo]) (n := 1) (Nat.le_of_ble_eq_true rfl)
  rw [lg_entry_eq]
  generalize (lg_sl ([.ref mo]) ++ List.replicate (1 - (lg_sl ([.ref mo])).length) Slot.unset).toArray = ls at hl ⊢
  have hl : lv_has ls 1 [(0, .ref mo)] := hl
  refine lv_aload_n hx hb dX8_thrown_0 rfl (lv_at hl 0 rfl) ?_
  refine va_get (D := D) (ci := 8) (v := .int (σ 0 0)) (C := RX8) (T := TX8) (N := 33) hx hb hts iX8 hown hK.1 hP 0 rfl rfl 0 (by decide) (hts _ q_679) (fun _ h9 => h9) rfl dX8_thrown_1 ?_
  exact ro_iret (v := σ 0 0) hx hb hr hH hlocks dX8_thrown_4 (rfl)
set_option maxHeartbeats 4000000 in
set_option maxRecDepth 100000 in
theorem m_in (l : Launch) (D : va_G) (G : Nat → ClassId) (H : Heap) (v : Int32) (lo : Int32) (hi : Int32) : Met l yX8_in (ww yX8_in cX8_in 3 (some .boolean)) (rmD 0) (roP D G H [.int v, .int lo, .int hi]) (vp_Si (fun r => r = bI (lo ≤ v ∧ v ≤ hi))) 0 0 (fun _ => False) := by
  refine Met.ofW (cc := cX8_in) (maxL := 3) (ret := (some .boolean)) (by decide) rfl ?_
  intro p e s m args below meth c s₁ B hml hv
  obtain ⟨rfl, hH, hK⟩ := hv
  have hx := B.exec
  have hb := B.bytes
  have hr := B.returns
  have hts : ∀ w ∈ TT, w.before _ s = true := fun w h => atoms_spec (ws := ww yX8_in cX8_in 3 (some .boolean)) B.pre w (List.mem_cons_of_mem _ h)
  have hown : s.vm.findClass RX8 = some m.cls := findClass_of_methodNamed B.named
  have hlocks := B.notSynchronized
  rw [hH]
  have hl := lv_entry ([.int v, .int lo, .int hi]) (n := 3) (Nat.le_of_ble_eq_true rfl)
  rw [lg_entry_eq]
  generalize (lg_sl ([.int v, .int lo, .int hi]) ++ List.replicate (3 - (lg_sl ([.int v, .int lo, .int hi])).length) Slot.unset).toArray = ls at hl ⊢
  have hl : lv_has ls 3 [(0, .int v), (1, .int lo), (2, .int hi)] := hl
  refine lv_iload_n hx hb dX8_in_0 rfl (lv_at hl 0 rfl) ?_
  refine lv_iload_n hx hb dX8_in_1 rfl (lv_at hl 1 rfl) ?_
  refine lv_icmp_lt (tgt := 14) hx hb dX8_in_2 (by decide) (fun c1 => ?_) (fun c1 => ?_)
  · -- 2 taken
    refine lv_iconst (v := 0) hx hb dX8_in_14 (by decide) ?_
    exact ro_zret (v := 0) hx hb hr hH hlocks dX8_in_15 (Or.inl rfl) ((bI_f (by simp only [i_le, i_lt, i_eq, Int32.reduceToInt] at c1 ⊢; omega)).symm)
  · -- 2 not
    refine lv_iload_n hx hb dX8_in_5 rfl (lv_at hl 0 rfl) ?_
    refine lv_iload_n hx hb dX8_in_6 rfl (lv_at hl 2 rfl) ?_
    refine lv_icmp_gt (tgt := 14) hx hb dX8_in_7 (by decide) (fun c2 => ?_) (fun c2 => ?_)
    · -- 7 taken
      refine lv_iconst (v := 0) hx hb dX8_in_14 (by decide) ?_
      exact ro_zret (v := 0) hx hb hr hH hlocks dX8_in_15 (Or.inl rfl) ((bI_f (by simp only [i_le, i_lt, i_eq, Int32.reduceToInt] at c1 c2 ⊢; omega)).symm)
    · -- 7 not
      refine lv_iconst (v := 1) hx hb dX8_in_10 (by decide) ?_
      refine lv_goto (tgt := 15) hx hb dX8_in_11 (by decide) ?_
      exact ro_zret (v := 1) hx hb hr hH hlocks dX8_in_15 (Or.inr rfl) ((bI_t (by simp only [i_le, i_lt, i_eq, Int32.reduceToInt] at c1 c2 ⊢; omega)).symm)
set_option maxHeartbeats 4000000 in
set_option maxRecDepth 100000 in
theorem m_isType (l : Launch) (D : va_G) (G : Nat → ClassId) (H : Heap) (mo : Nat) (ad : Nat → Nat) (σ : MS) (τ : Nat → Int64) (hP : va_P D vwCl (mW G mo ad σ τ) H) (n : Nat) (h1 : σ 1 0 = nI n) (hn : n ≤ 12) (t : Int32) : Met l yX8_isType (ww yX8_isType cX8_isType 2 (some .boolean)) (rmD 1) (roP D G H [.ref mo, .int t]) (vp_Si (fun r => r = bI (okN n t))) 0 0 (fun _ => False) := by
  refine Met.ofW (cc := cX8_isType) (maxL := 2) (ret := (some .boolean)) (by decide) rfl ?_
  intro p e s m args below meth c s₁ B hml hv
  obtain ⟨rfl, hH, hK⟩ := hv
  have hx := B.exec
  have hb := B.bytes
  have hr := B.returns
  have hts : ∀ w ∈ TT, w.before _ s = true := fun w h => atoms_spec (ws := ww yX8_isType cX8_isType 2 (some .boolean)) B.pre w (List.mem_cons_of_mem _ h)
  have hown : s.vm.findClass RX8 = some m.cls := findClass_of_methodNamed B.named
  have hlocks := B.notSynchronized
  rw [hH]
  have hl := lv_entry ([.ref mo, .int t]) (n := 2) (Nat.le_of_ble_eq_true rfl)
  rw [lg_entry_eq]
  generalize (lg_sl ([.ref mo, .int t]) ++ List.replicate (2 - (lg_sl ([.ref mo, .int t])).length) Slot.unset).toArray = ls at hl ⊢
  have hl : lv_has ls 2 [(0, .ref mo), (1, .int t)] := hl
  refine lv_iload_n hx hb dX8_isType_0 rfl (lv_at hl 1 rfl) ?_
  refine lv_iconst (v := 0) hx hb dX8_isType_1 (by decide) ?_
  refine lv_aload_n hx hb dX8_isType_2 rfl (lv_at hl 0 rfl) ?_
  refine va_get (D := D) (ci := 8) (v := .int (σ 1 0)) (C := RX8) (T := TX8) (N := 33) hx hb hts iX8 hown hK.1 hP 0 rfl rfl 1 (by decide) (hts _ q_680) (fun _ h9 => h9) rfl dX8_isType_3 ?_
  refine lv_iconst (v := 1) hx hb dX8_isType_6 (by decide) ?_
  refine lv_isub hx hb dX8_isType_7 ?_
  refine ro_Si (D := D) (G := G) (As := [.int t, .int 0, .int ((σ 1 0) - 1)]) (rest := []) ⟨hx, hb, hml, hown, hts⟩ (m_in l D G _ t 0 ((σ 1 0) - 1)) gS_X8_X8_in hdS_X8_in ⟨Nat.le_of_ble_eq_true rfl, Nat.le_of_ble_eq_true rfl⟩ hK rfl hl.1 rfl (Nat.le_of_ble_eq_true rfl) dX8_isType_8 ⟨Nat.le_of_ble_eq_true rfl, Nat.le_of_ble_eq_true rfl⟩ (fun r1 e_r1 => ?_)
  subst e_r1
  exact ro_zret (v := bI (0 ≤ t ∧ t ≤ (σ 1 0) - 1)) hx hb hr hH hlocks dX8_isType_11 bI_b (by rw [h1]; exact bI_c (okN_iff (by omega)))
set_option maxHeartbeats 4000000 in
set_option maxRecDepth 100000 in
theorem m_isFace (l : Launch) (D : va_G) (G : Nat → ClassId) (H : Heap) (mo : Nat) (ad : Nat → Nat) (σ : MS) (τ : Nat → Int64) (hP : va_P D vwCl (mW G mo ad σ τ) H) (t : Nat) (ht : t < 12) : Met l yX8_isFace (ww yX8_isFace cX8_isFace 2 (some .boolean)) (rmD 0) (roP D G H [.ref mo, .int (nI t)]) (vp_Si (fun r => r = bI (σ 2 t = 3))) 0 0 (fun _ => False) := by
  refine Met.ofW (cc := cX8_isFace) (maxL := 2) (ret := (some .boolean)) (by decide) rfl ?_
  intro p e s m args below meth c s₁ B hml hv
  obtain ⟨rfl, hH, hK⟩ := hv
  have hx := B.exec
  have hb := B.bytes
  have hr := B.returns
  have hts : ∀ w ∈ TT, w.before _ s = true := fun w h => atoms_spec (ws := ww yX8_isFace cX8_isFace 2 (some .boolean)) B.pre w (List.mem_cons_of_mem _ h)
  have hown : s.vm.findClass RX8 = some m.cls := findClass_of_methodNamed B.named
  have hlocks := B.notSynchronized
  rw [hH]
  have hl := lv_entry ([.ref mo, .int (nI t)]) (n := 2) (Nat.le_of_ble_eq_true rfl)
  rw [lg_entry_eq]
  generalize (lg_sl ([.ref mo, .int (nI t)]) ++ List.replicate (2 - (lg_sl ([.ref mo, .int (nI t)])).length) Slot.unset).toArray = ls at hl ⊢
  have hl : lv_has ls 2 [(0, .ref mo), (1, .int (nI t))] := hl
  refine lv_aload_n hx hb dX8_isFace_0 rfl (lv_at hl 0 rfl) ?_
  refine va_get (D := D) (ci := 8) (v := .ref ((ad 2))) (C := RX8) (T := TX8) (N := 33) hx hb hts iX8 hown hK.1 hP 0 rfl rfl 2 (by decide) (hts _ q_681) (fun _ h9 => h9) rfl dX8_isFace_1 ?_
  refine lv_iload_n hx hb dX8_isFace_4 rfl (lv_at hl 1 rfl) ?_
  refine iald_n (f := σ 2) hx hb hK.1 hP 1 0 rfl rfl (t) rfl (by omega) (by decide) dX8_isFace_5 ?_
  refine lv_iconst (v := 3) hx hb dX8_isFace_6 (by decide) ?_
  refine lv_icmp_ne (tgt := 14) hx hb dX8_isFace_7 (by decide) (fun c1 => ?_) (fun c1 => ?_)
  · -- 7 taken
    refine lv_iconst (v := 0) hx hb dX8_isFace_14 (by decide) ?_
    exact ro_zret (v := 0) hx hb hr hH hlocks dX8_isFace_15 (Or.inl rfl) ((bI_f c1).symm)
  · -- 7 not
    refine lv_iconst (v := 1) hx hb dX8_isFace_10 (by decide) ?_
    refine lv_goto (tgt := 15) hx hb dX8_isFace_11 (by decide) ?_
    exact ro_zret (v := 1) hx hb hr hH hlocks dX8_isFace_15 (Or.inr rfl) ((bI_t c1).symm)
set_option maxHeartbeats 4000000 in
set_option maxRecDepth 100000 in
theorem m_lies (l : Launch) (D : va_G) (G : Nat → ClassId) (H : Heap) (mo : Nat) (ad : Nat → Nat) (σ : MS) (τ : Nat → Int64) (hP : va_P D vwCl (mW G mo ad σ τ) H) (t o : Nat) (ht : t < 12) (ho : o < 12) (hb6 : ∀ i, σ 6 i = 0 ∨ σ 6 i = 1) : Met l yX8_lies (ww yX8_lies cX8_lies 3 (some .boolean)) (rmD 0) (roP D G H [.ref mo, .int (nI t), .int (nI o)]) (vp_Si (fun r => r = bI (lyP σ t o))) 0 0 (fun _ => False) := by
  refine Met.ofW (cc := cX8_lies) (maxL := 3) (ret := (some .boolean)) (by decide) rfl ?_
  intro p e s m args below meth c s₁ B hml hv
  obtain ⟨rfl, hH, hK⟩ := hv
  have hx := B.exec
  have hb := B.bytes
  have hr := B.returns
  have hts : ∀ w ∈ TT, w.before _ s = true := fun w h => atoms_spec (ws := ww yX8_lies cX8_lies 3 (some .boolean)) B.pre w (List.mem_cons_of_mem _ h)
  have hown : s.vm.findClass RX8 = some m.cls := findClass_of_methodNamed B.named
  have hlocks := B.notSynchronized
  rw [hH]
  have hl := lv_entry ([.ref mo, .int (nI t), .int (nI o)]) (n := 3) (Nat.le_of_ble_eq_true rfl)
  rw [lg_entry_eq]
  generalize (lg_sl ([.ref mo, .int (nI t), .int (nI o)]) ++ List.replicate (3 - (lg_sl ([.ref mo, .int (nI t), .int (nI o)])).length) Slot.unset).toArray = ls at hl ⊢
  have hl : lv_has ls 3 [(0, .ref mo), (1, .int (nI t)), (2, .int (nI o))] := hl
  refine lv_aload_n hx hb dX8_lies_0 rfl (lv_at hl 0 rfl) ?_
  refine va_get (D := D) (ci := 8) (v := .ref ((ad 6))) (C := RX8) (T := TX8) (N := 33) hx hb hts iX8 hown hK.1 hP 0 rfl rfl 6 (by decide) (hts _ q_685) (fun _ h9 => h9) rfl dX8_lies_1 ?_
  refine lv_bipush (v := 12) hx hb dX8_lies_4 (by decide) ?_
  refine lv_iload_n hx hb dX8_lies_6 rfl (lv_at hl 1 rfl) ?_
  refine lv_imul hx hb dX8_lies_7 ?_
  refine lv_iload_n hx hb dX8_lies_8 rfl (lv_at hl 2 rfl) ?_
  refine lv_iadd hx hb dX8_lies_9 ?_
  refine zald_n (f := σ 6) hx hb hK.1 hP 5 2 rfl rfl (((12 * t) + o)) (n_add (a := (12 * t)) (b := o) (n_mul (a := 12) (b := t) (rfl : (12 : Int32) = nI 12) rfl) rfl) (by omega) (by decide) dX8_lies_10 ?_
  exact ro_zret (v := σ 6 (((12 * t) + o))) hx hb hr hH hlocks dX8_lies_11 (hb6 _) (bI_self (hb6 _))
set_option maxHeartbeats 4000000 in
set_option maxRecDepth 100000 in
theorem m_noKind (l : Launch) (D : va_G) (G : Nat → ClassId) (H : Heap) (mo : Nat) (ad : Nat → Nat) (σ : MS) (τ : Nat → Int64) (hP : va_P D vwCl (mW G mo ad σ τ) H) (n : Nat) (h1 : σ 1 0 = nI n) (hn : n ≤ 12) (kind : Int32) : Met l yX8_noKind (ww yX8_noKind cX8_noKind 2 (some .boolean)) (rmD 2) (roP D G H [.ref mo, .int kind]) (vp_Si (fun r => r = bI (noK n kind))) 0 0 (fun _ => False) := by
  refine Met.ofW (cc := cX8_noKind) (maxL := 2) (ret := (some .boolean)) (by decide) rfl ?_
  intro p e s m args below meth c s₁ B hml hv
  obtain ⟨rfl, hH, hK⟩ := hv
  have hx := B.exec
  have hb := B.bytes
  have hr := B.returns
  have hts : ∀ w ∈ TT, w.before _ s = true := fun w h => atoms_spec (ws := ww yX8_noKind cX8_noKind 2 (some .boolean)) B.pre w (List.mem_cons_of_mem _ h)
  have hown : s.vm.findClass RX8 = some m.cls := findClass_of_methodNamed B.named
  have hlocks := B.notSynchronized
  rw [hH]
  have hl := lv_entry ([.ref mo, .int kind]) (n := 2) (Nat.le_of_ble_eq_true rfl)
  rw [lg_entry_eq]
  generalize (lg_sl ([.ref mo, .int kind]) ++ List.replicate (2 - (lg_sl ([.ref mo, .int kind])).length) Slot.unset).toArray = ls at hl ⊢
  have hl : lv_has ls 2 [(0, .ref mo), (1, .int kind)] := hl
  refine lv_iload_n hx hb dX8_noKind_0 rfl (lv_at hl 1 rfl) ?_
  refine lv_bipush (v := 9) hx hb dX8_noKind_1 (by decide) ?_
  refine lv_icmp_le (tgt := 21) hx hb dX8_noKind_3 (by decide) (fun c1 => ?_) (fun c1 => ?_)
  · -- 3 taken
    refine lv_iconst (v := 0) hx hb dX8_noKind_21 (by decide) ?_
    exact ro_zret (v := 0) hx hb hr hH hlocks dX8_noKind_22 (Or.inl rfl) ((bI_f (by rw [noK_def]; simp only [eq_true c1, not_true, not_false_iff, true_and, and_true, false_and, and_false])).symm)
  · -- 3 not
    refine lv_aload_n hx hb dX8_noKind_6 rfl (lv_at hl 0 rfl) ?_
    refine lv_iload_n hx hb dX8_noKind_7 rfl (lv_at hl 1 rfl) ?_
    refine lv_bipush (v := 10) hx hb dX8_noKind_8 (by decide) ?_
    refine lv_isub hx hb dX8_noKind_10 ?_
    refine ro_Vi (D := D) (G := G) (As := [.int (kind - 10)]) (rest := []) ⟨hx, hb, hml, hown, hts⟩ (m_isType l D G _ mo ad _ _ hP n h1 hn (kind - 10)) gV_X8_X8_isType hdV_X8_isType ⟨Nat.le_of_ble_eq_true rfl, Nat.le_of_ble_eq_true rfl⟩ hK (va_recv hK.1 hP (ci := 8) (q0 := 0) rfl rfl) rfl hl.1 rfl (Nat.le_of_ble_eq_true rfl) dX8_noKind_11 ⟨Nat.le_of_ble_eq_true rfl, Nat.le_of_ble_eq_true rfl⟩ (fun r2 e_r2 => ?_)
    subst e_r2
    refine lv_if_ne (tgt := 21) hx hb dX8_noKind_14 (by decide) (fun c3 => ?_) (fun c3 => ?_)
    · -- 14 taken
      have c3 := bI_1 c3
      refine lv_iconst (v := 0) hx hb dX8_noKind_21 (by decide) ?_
      exact ro_zret (v := 0) hx hb hr hH hlocks dX8_noKind_22 (Or.inl rfl) ((bI_f (by rw [noK_def]; simp only [eq_false c1, eq_true c3, not_true, not_false_iff, true_and, and_true, false_and, and_false])).symm)
    · -- 14 not
      have c3 := bI_0 c3
      refine lv_iconst (v := 1) hx hb dX8_noKind_17 (by decide) ?_
      refine lv_goto (tgt := 22) hx hb dX8_noKind_18 (by decide) ?_
      exact ro_zret (v := 1) hx hb hr hH hlocks dX8_noKind_22 (Or.inr rfl) ((bI_t (by rw [noK_def]; simp only [eq_false c1, eq_false c3, not_true, not_false_iff, true_and, and_true, false_and, and_false])).symm)
set_option maxHeartbeats 4000000 in
set_option maxRecDepth 100000 in
theorem m_refusal (l : Launch) (D : va_G) (G : Nat → ClassId) (H : Heap) (mo : Nat) (ad : Nat → Nat) (σ : MS) (τ : Nat → Int64) (hP : va_P D vwCl (mW G mo ad σ τ) H) (n : Nat) (h1 : σ 1 0 = nI n) (hn : n ≤ 12) (t : Int32) (name : Int32) (kind : Int32) (dd : Int32) (mm : Int32) : Met l yX8_refusal (ww yX8_refusal cX8_refusal 6 (some .int)) (rmD 3) (roP D G H [.ref mo, .int t, .int name, .int kind, .int dd, .int mm]) (vp_Si (fun r => r = aRef σ n t name kind dd mm)) 0 0 (fun _ => False) := by
  refine Met.ofW (cc := cX8_refusal) (maxL := 6) (ret := (some .int)) (by decide) rfl ?_
  intro p e s m args below meth c s₁ B hml hv
  obtain ⟨rfl, hH, hK⟩ := hv
  have hx := B.exec
  have hb := B.bytes
  have hr := B.returns
  have hts : ∀ w ∈ TT, w.before _ s = true := fun w h => atoms_spec (ws := ww yX8_refusal cX8_refusal 6 (some .int)) B.pre w (List.mem_cons_of_mem _ h)
  have hown : s.vm.findClass RX8 = some m.cls := findClass_of_methodNamed B.named
  have hlocks := B.notSynchronized
  rw [hH]
  have hl := lv_entry ([.ref mo, .int t, .int name, .int kind, .int dd, .int mm]) (n := 6) (Nat.le_of_ble_eq_true rfl)
  rw [lg_entry_eq]
  generalize (lg_sl ([.ref mo, .int t, .int name, .int kind, .int dd, .int mm]) ++ List.replicate (6 - (lg_sl ([.ref mo, .int t, .int name, .int kind, .int dd, .int mm])).length) Slot.unset).toArray = ls at hl ⊢
  have hl : lv_has ls 6 [(0, .ref mo), (1, .int t), (2, .int name), (3, .int kind), (4, .int dd), (5, .int mm)] := hl
  refine lv_aload_n hx hb dX8_refusal_0 rfl (lv_at hl 0 rfl) ?_
  refine lv_iload_n hx hb dX8_refusal_1 rfl (lv_at hl 1 rfl) ?_
  refine ro_Vi (D := D) (G := G) (As := [.int t]) (rest := []) ⟨hx, hb, hml, hown, hts⟩ (m_isType l D G _ mo ad _ _ hP n h1 hn t) gV_X8_X8_isType hdV_X8_isType ⟨Nat.le_of_ble_eq_true rfl, Nat.le_of_ble_eq_true rfl⟩ hK (va_recv hK.1 hP (ci := 8) (q0 := 0) rfl rfl) rfl hl.1 rfl (Nat.le_of_ble_eq_true rfl) dX8_refusal_2 ⟨Nat.le_of_ble_eq_true rfl, Nat.le_of_ble_eq_true rfl⟩ (fun r1 e_r1 => ?_)
  subst e_r1
  refine lv_if_eq (tgt := 16) hx hb dX8_refusal_5 (by decide) (fun c2 => ?_) (fun c2 => ?_)
  · -- 5 taken
    have c2 := bI_0 c2
    refine lv_bipush (v := -11) hx hb dX8_refusal_16 (by decide) ?_
    exact ro_iret (v := (-11)) hx hb hr hH hlocks dX8_refusal_18 (by unfold aRef; simp only [eq_false c2, not_true, not_false_iff, not_true_eq_false, not_false_eq_true, true_or, or_true, false_or, or_false, or_self, and_self, true_and, and_true, false_and, and_false, if_true, if_false])
  · -- 5 not
    have c2 := bI_1 c2
    refine lv_aload_n hx hb dX8_refusal_8 rfl (lv_at hl 0 rfl) ?_
    refine lv_iload_n hx hb dX8_refusal_9 rfl (lv_at hl 3 rfl) ?_
    refine ro_Vi (D := D) (G := G) (As := [.int kind]) (rest := []) ⟨hx, hb, hml, hown, hts⟩ (m_noKind l D G _ mo ad _ _ hP n h1 hn kind) gV_X8_X8_noKind hdV_X8_noKind ⟨Nat.le_of_ble_eq_true rfl, Nat.le_of_ble_eq_true rfl⟩ hK (va_recv hK.1 hP (ci := 8) (q0 := 0) rfl rfl) rfl hl.1 rfl (Nat.le_of_ble_eq_true rfl) dX8_refusal_10 ⟨Nat.le_of_ble_eq_true rfl, Nat.le_of_ble_eq_true rfl⟩ (fun r3 e_r3 => ?_)
    subst e_r3
    refine lv_if_eq (tgt := 19) hx hb dX8_refusal_13 (by decide) (fun c4 => ?_) (fun c4 => ?_)
    · -- 13 taken
      have c4 := bI_0 c4
      refine lv_iload_n hx hb dX8_refusal_19 rfl (lv_at hl 2 rfl) ?_
      refine lv_iconst (v := 0) hx hb dX8_refusal_20 (by decide) ?_
      refine lv_bipush (v := 49) hx hb dX8_refusal_21 (by decide) ?_
      refine ro_Si (D := D) (G := G) (As := [.int name, .int 0, .int 49]) (rest := []) ⟨hx, hb, hml, hown, hts⟩ (m_in l D G _ name 0 49) gS_X8_X8_in hdS_X8_in ⟨Nat.le_of_ble_eq_true rfl, Nat.le_of_ble_eq_true rfl⟩ hK rfl hl.1 rfl (Nat.le_of_ble_eq_true rfl) dX8_refusal_23 ⟨Nat.le_of_ble_eq_true rfl, Nat.le_of_ble_eq_true rfl⟩ (fun r5 e_r5 => ?_)
      subst e_r5
      refine lv_if_eq (tgt := 70) hx hb dX8_refusal_26 (by decide) (fun c6 => ?_) (fun c6 => ?_)
      · -- 26 taken
        have c6 := bI_0 c6
        refine lv_bipush (v := -13) hx hb dX8_refusal_70 (by decide) ?_
        exact ro_iret (v := (-13)) hx hb hr hH hlocks dX8_refusal_72 (by unfold aRef; simp only [eq_true c2, eq_false c4, eq_false c6, not_true, not_false_iff, not_true_eq_false, not_false_eq_true, true_or, or_true, false_or, or_false, or_self, and_self, true_and, and_true, false_and, and_false, if_true, if_false])
      · -- 26 not
        have c6 := bI_1 c6
        refine lv_iload_n hx hb dX8_refusal_29 rfl (lv_at hl 3 rfl) ?_
        refine lv_if_lt (tgt := 70) hx hb dX8_refusal_30 (by decide) (fun c7 => ?_) (fun c7 => ?_)
        · -- 30 taken
          refine lv_bipush (v := -13) hx hb dX8_refusal_70 (by decide) ?_
          exact ro_iret (v := (-13)) hx hb hr hH hlocks dX8_refusal_72 (by unfold aRef; simp only [eq_true c2, eq_false c4, eq_true c6, eq_true c7, not_true, not_false_iff, not_true_eq_false, not_false_eq_true, true_or, or_true, false_or, or_false, or_self, and_self, true_and, and_true, false_and, and_false, if_true, if_false])
        · -- 30 not
          refine lv_iload_n hx hb dX8_refusal_33 rfl (lv_at hl 3 rfl) ?_
          refine lv_bipush (v := 9) hx hb dX8_refusal_34 (by decide) ?_
          refine lv_icmp_eq (tgt := 70) hx hb dX8_refusal_36 (by decide) (fun c8 => ?_) (fun c8 => ?_)
          · -- 36 taken
            refine lv_bipush (v := -13) hx hb dX8_refusal_70 (by decide) ?_
            exact ro_iret (v := (-13)) hx hb hr hH hlocks dX8_refusal_72 (by unfold aRef; simp only [eq_true c2, eq_false c4, eq_true c6, eq_false c7, eq_true c8, not_true, not_false_iff, not_true_eq_false, not_false_eq_true, true_or, or_true, false_or, or_false, or_self, and_self, true_and, and_true, false_and, and_false, if_true, if_false])
          · -- 36 not
            refine lv_iload hx hb dX8_refusal_39 (lv_at hl 4 rfl) ?_
            refine lv_iconst (v := 0) hx hb dX8_refusal_41 (by decide) ?_
            refine lv_iconst (v := 3) hx hb dX8_refusal_42 (by decide) ?_
            refine ro_Si (D := D) (G := G) (As := [.int dd, .int 0, .int 3]) (rest := []) ⟨hx, hb, hml, hown, hts⟩ (m_in l D G _ dd 0 3) gS_X8_X8_in hdS_X8_in ⟨Nat.le_of_ble_eq_true rfl, Nat.le_of_ble_eq_true rfl⟩ hK rfl hl.1 rfl (Nat.le_of_ble_eq_true rfl) dX8_refusal_43 ⟨Nat.le_of_ble_eq_true rfl, Nat.le_of_ble_eq_true rfl⟩ (fun r9 e_r9 => ?_)
            subst e_r9
            refine lv_if_eq (tgt := 70) hx hb dX8_refusal_46 (by decide) (fun c10 => ?_) (fun c10 => ?_)
            · -- 46 taken
              have c10 := bI_0 c10
              refine lv_bipush (v := -13) hx hb dX8_refusal_70 (by decide) ?_
              exact ro_iret (v := (-13)) hx hb hr hH hlocks dX8_refusal_72 (by unfold aRef; simp only [eq_true c2, eq_false c4, eq_true c6, eq_false c7, eq_false c8, eq_false c10, not_true, not_false_iff, not_true_eq_false, not_false_eq_true, true_or, or_true, false_or, or_false, or_self, and_self, true_and, and_true, false_and, and_false, if_true, if_false])
            · -- 46 not
              have c10 := bI_1 c10
              refine lv_iload_n hx hb dX8_refusal_49 rfl (lv_at hl 3 rfl) ?_
              refine lv_if_ne (tgt := 58) hx hb dX8_refusal_50 (by decide) (fun c11 => ?_) (fun c11 => ?_)
              · -- 50 taken
                refine lv_iload hx hb dX8_refusal_58 (lv_at hl 5 rfl) ?_
                refine lv_iconst (v := 0) hx hb dX8_refusal_60 (by decide) ?_
                refine lv_sipush (v := 2047) hx hb dX8_refusal_61 (by decide) ?_
                refine ro_Si (D := D) (G := G) (As := [.int mm, .int 0, .int 2047]) (rest := []) ⟨hx, hb, hml, hown, hts⟩ (m_in l D G _ mm 0 2047) gS_X8_X8_in hdS_X8_in ⟨Nat.le_of_ble_eq_true rfl, Nat.le_of_ble_eq_true rfl⟩ hK rfl hl.1 rfl (Nat.le_of_ble_eq_true rfl) dX8_refusal_64 ⟨Nat.le_of_ble_eq_true rfl, Nat.le_of_ble_eq_true rfl⟩ (fun r12 e_r12 => ?_)
                subst e_r12
                refine lv_if_ne (tgt := 73) hx hb dX8_refusal_67 (by decide) (fun c13 => ?_) (fun c13 => ?_)
                · -- 67 taken
                  have c13 := bI_1 c13
                  refine lv_aload_n hx hb dX8_refusal_73 rfl (lv_at hl 0 rfl) ?_
                  refine va_get (D := D) (ci := 8) (v := .int (σ 21 0)) (C := RX8) (T := TX8) (N := 33) hx hb hts iX8 hown hK.1 hP 0 rfl rfl 21 (by decide) (hts _ q_700) (fun _ h9 => h9) rfl dX8_refusal_74 ?_
                  refine lv_if_eq (tgt := 85) hx hb dX8_refusal_77 (by decide) (fun c14 => ?_) (fun c14 => ?_)
                  · -- 77 taken
                    refine lv_aload_n hx hb dX8_refusal_85 rfl (lv_at hl 0 rfl) ?_
                    refine va_get (D := D) (ci := 8) (v := .int (σ 7 0)) (C := RX8) (T := TX8) (N := 33) hx hb hts iX8 hown hK.1 hP 0 rfl rfl 7 (by decide) (hts _ q_686) (fun _ h9 => h9) rfl dX8_refusal_86 ?_
                    refine lv_bipush (v := 60) hx hb dX8_refusal_89 (by decide) ?_
                    refine lv_icmp_ne (tgt := 99) hx hb dX8_refusal_91 (by decide) (fun c15 => ?_) (fun c15 => ?_)
                    · -- 91 taken
                      refine lv_iconst (v := 0) hx hb dX8_refusal_99 (by decide) ?_
                      exact ro_iret (v := 0) hx hb hr hH hlocks dX8_refusal_100 (by unfold aRef; simp only [eq_true c2, eq_false c4, eq_true c6, eq_false c7, eq_false c8, eq_true c10, eq_false c11, eq_true c13, eq_true c14, eq_false c15, not_true, not_false_iff, not_true_eq_false, not_false_eq_true, true_or, or_true, false_or, or_false, or_self, and_self, true_and, and_true, false_and, and_false, if_true, if_false])
                    · -- 91 not
                      refine lv_bipush (v := -15) hx hb dX8_refusal_94 (by decide) ?_
                      refine lv_goto (tgt := 100) hx hb dX8_refusal_96 (by decide) ?_
                      exact ro_iret (v := (-15)) hx hb hr hH hlocks dX8_refusal_100 (by unfold aRef; simp only [eq_true c2, eq_false c4, eq_true c6, eq_false c7, eq_false c8, eq_true c10, eq_false c11, eq_true c13, eq_true c14, eq_true c15, not_true, not_false_iff, not_true_eq_false, not_false_eq_true, true_or, or_true, false_or, or_false, or_self, and_self, true_and, and_true, false_and, and_false, if_true, if_false])
                  · -- 77 not
                    refine lv_bipush (v := -14) hx hb dX8_refusal_80 (by decide) ?_
                    refine lv_goto (tgt := 100) hx hb dX8_refusal_82 (by decide) ?_
                    exact ro_iret (v := (-14)) hx hb hr hH hlocks dX8_refusal_100 (by unfold aRef; simp only [eq_true c2, eq_false c4, eq_true c6, eq_false c7, eq_false c8, eq_true c10, eq_false c11, eq_true c13, eq_false c14, not_true, not_false_iff, not_true_eq_false, not_false_eq_true, true_or, or_true, false_or, or_false, or_self, and_self, true_and, and_true, false_and, and_false, if_true, if_false])
                · -- 67 not
                  have c13 := bI_0 c13
                  refine lv_bipush (v := -13) hx hb dX8_refusal_70 (by decide) ?_
                  exact ro_iret (v := (-13)) hx hb hr hH hlocks dX8_refusal_72 (by unfold aRef; simp only [eq_true c2, eq_false c4, eq_true c6, eq_false c7, eq_false c8, eq_true c10, eq_false c11, eq_false c13, not_true, not_false_iff, not_true_eq_false, not_false_eq_true, true_or, or_true, false_or, or_false, or_self, and_self, true_and, and_true, false_and, and_false, if_true, if_false])
              · -- 50 not
                refine lv_iload hx hb dX8_refusal_53 (lv_at hl 4 rfl) ?_
                refine lv_if_gt (tgt := 70) hx hb dX8_refusal_55 (by decide) (fun c16 => ?_) (fun c16 => ?_)
                · -- 55 taken
                  refine lv_bipush (v := -13) hx hb dX8_refusal_70 (by decide) ?_
                  exact ro_iret (v := (-13)) hx hb hr hH hlocks dX8_refusal_72 (by unfold aRef; simp only [eq_true c2, eq_false c4, eq_true c6, eq_false c7, eq_false c8, eq_true c10, eq_true c11, eq_true c16, not_true, not_false_iff, not_true_eq_false, not_false_eq_true, true_or, or_true, false_or, or_false, or_self, and_self, true_and, and_true, false_and, and_false, if_true, if_false])
                · -- 55 not
                  refine lv_iload hx hb dX8_refusal_58 (lv_at hl 5 rfl) ?_
                  refine lv_iconst (v := 0) hx hb dX8_refusal_60 (by decide) ?_
                  refine lv_sipush (v := 2047) hx hb dX8_refusal_61 (by decide) ?_
                  refine ro_Si (D := D) (G := G) (As := [.int mm, .int 0, .int 2047]) (rest := []) ⟨hx, hb, hml, hown, hts⟩ (m_in l D G _ mm 0 2047) gS_X8_X8_in hdS_X8_in ⟨Nat.le_of_ble_eq_true rfl, Nat.le_of_ble_eq_true rfl⟩ hK rfl hl.1 rfl (Nat.le_of_ble_eq_true rfl) dX8_refusal_64 ⟨Nat.le_of_ble_eq_true rfl, Nat.le_of_ble_eq_true rfl⟩ (fun r17 e_r17 => ?_)
                  subst e_r17
                  refine lv_if_ne (tgt := 73) hx hb dX8_refusal_67 (by decide) (fun c18 => ?_) (fun c18 => ?_)
                  · -- 67 taken
                    have c18 := bI_1 c18
                    refine lv_aload_n hx hb dX8_refusal_73 rfl (lv_at hl 0 rfl) ?_
                    refine va_get (D := D) (ci := 8) (v := .int (σ 21 0)) (C := RX8) (T := TX8) (N := 33) hx hb hts iX8 hown hK.1 hP 0 rfl rfl 21 (by decide) (hts _ q_700) (fun _ h9 => h9) rfl dX8_refusal_74 ?_
                    refine lv_if_eq (tgt := 85) hx hb dX8_refusal_77 (by decide) (fun c19 => ?_) (fun c19 => ?_)
                    · -- 77 taken
                      refine lv_aload_n hx hb dX8_refusal_85 rfl (lv_at hl 0 rfl) ?_
                      refine va_get (D := D) (ci := 8) (v := .int (σ 7 0)) (C := RX8) (T := TX8) (N := 33) hx hb hts iX8 hown hK.1 hP 0 rfl rfl 7 (by decide) (hts _ q_686) (fun _ h9 => h9) rfl dX8_refusal_86 ?_
                      refine lv_bipush (v := 60) hx hb dX8_refusal_89 (by decide) ?_
                      refine lv_icmp_ne (tgt := 99) hx hb dX8_refusal_91 (by decide) (fun c20 => ?_) (fun c20 => ?_)
                      · -- 91 taken
                        refine lv_iconst (v := 0) hx hb dX8_refusal_99 (by decide) ?_
                        exact ro_iret (v := 0) hx hb hr hH hlocks dX8_refusal_100 (by unfold aRef; simp only [eq_true c2, eq_false c4, eq_true c6, eq_false c7, eq_false c8, eq_true c10, eq_true c11, eq_false c16, eq_true c18, eq_true c19, eq_false c20, not_true, not_false_iff, not_true_eq_false, not_false_eq_true, true_or, or_true, false_or, or_false, or_self, and_self, true_and, and_true, false_and, and_false, if_true, if_false])
                      · -- 91 not
                        refine lv_bipush (v := -15) hx hb dX8_refusal_94 (by decide) ?_
                        refine lv_goto (tgt := 100) hx hb dX8_refusal_96 (by decide) ?_
                        exact ro_iret (v := (-15)) hx hb hr hH hlocks dX8_refusal_100 (by unfold aRef; simp only [eq_true c2, eq_false c4, eq_true c6, eq_false c7, eq_false c8, eq_true c10, eq_true c11, eq_false c16, eq_true c18, eq_true c19, eq_true c20, not_true, not_false_iff, not_true_eq_false, not_false_eq_true, true_or, or_true, false_or, or_false, or_self, and_self, true_and, and_true, false_and, and_false, if_true, if_false])
                    · -- 77 not
                      refine lv_bipush (v := -14) hx hb dX8_refusal_80 (by decide) ?_
                      refine lv_goto (tgt := 100) hx hb dX8_refusal_82 (by decide) ?_
                      exact ro_iret (v := (-14)) hx hb hr hH hlocks dX8_refusal_100 (by unfold aRef; simp only [eq_true c2, eq_false c4, eq_true c6, eq_false c7, eq_false c8, eq_true c10, eq_true c11, eq_false c16, eq_true c18, eq_false c19, not_true, not_false_iff, not_true_eq_false, not_false_eq_true, true_or, or_true, false_or, or_false, or_self, and_self, true_and, and_true, false_and, and_false, if_true, if_false])
                  · -- 67 not
                    have c18 := bI_0 c18
                    refine lv_bipush (v := -13) hx hb dX8_refusal_70 (by decide) ?_
                    exact ro_iret (v := (-13)) hx hb hr hH hlocks dX8_refusal_72 (by unfold aRef; simp only [eq_true c2, eq_false c4, eq_true c6, eq_false c7, eq_false c8, eq_true c10, eq_true c11, eq_false c16, eq_false c18, not_true, not_false_iff, not_true_eq_false, not_false_eq_true, true_or, or_true, false_or, or_false, or_self, and_self, true_and, and_true, false_and, and_false, if_true, if_false])
    · -- 13 not
      have c4 := bI_1 c4
      refine lv_bipush (v := -11) hx hb dX8_refusal_16 (by decide) ?_
      exact ro_iret (v := (-11)) hx hb hr hH hlocks dX8_refusal_18 (by unfold aRef; simp only [eq_true c2, eq_true c4, not_true, not_false_iff, not_true_eq_false, not_false_eq_true, true_or, or_true, false_or, or_false, or_self, and_self, true_and, and_true, false_and, and_false, if_true, if_false])
set_option maxHeartbeats 4000000 in
set_option maxRecDepth 100000 in
theorem m_bits (l : Launch) (D : va_G) (G : Nat → ClassId) (H : Heap) (x : Int32) : Met l yX8_bits (ww yX8_bits cX8_bits 3 (some .int)) (rmD 0) (roP D G H [.int x]) (vp_Si (fun r => r = bitsF x 11)) 0 0 (fun _ => False) := by
  refine Met.ofW (cc := cX8_bits) (maxL := 3) (ret := (some .int)) (by decide) rfl ?_
  intro p e s m args below meth c s₁ B hml hv
  obtain ⟨rfl, hH, hK⟩ := hv
  have hx := B.exec
  have hb := B.bytes
  have hr := B.returns
  have hts : ∀ w ∈ TT, w.before _ s = true := fun w h => atoms_spec (ws := ww yX8_bits cX8_bits 3 (some .int)) B.pre w (List.mem_cons_of_mem _ h)
  have hown : s.vm.findClass RX8 = some m.cls := findClass_of_methodNamed B.named
  have hlocks := B.notSynchronized
  rw [hH]
  have hl := lv_entry ([.int x]) (n := 3) (Nat.le_of_ble_eq_true rfl)
  rw [lg_entry_eq]
  generalize (lg_sl ([.int x]) ++ List.replicate (3 - (lg_sl ([.int x])).length) Slot.unset).toArray = ls at hl ⊢
  have hl : lv_has ls 3 [(0, .int x)] := hl
  refine lv_iconst (v := 0) hx hb dX8_bits_0 (by decide) ?_
  refine lv_istore_n (lv' := [(1, .int 0), (0, .int x)]) hx hb dX8_bits_1 rfl hl (by decide) rfl (fun ls hl => ?_)
  refine lv_iconst (v := 0) hx hb dX8_bits_2 (by decide) ?_
  refine lv_istore_n (lv' := [(2, .int 0), (1, .int 0), (0, .int x)]) hx hb dX8_bits_3 rfl hl (by decide) rfl (fun ls hl => ?_)
  refine w_for (N := 11) 4 (L := fun k9 ls => lv_has ls 3 [(2, .int (nI k9)), (1, .int (bitsF x k9)), (0, .int x)]) (fun k ls hk hL ih => ?_) 0 ls (Nat.zero_le _) (hl)
  have hl := hL
  have hl : lv_has ls 3 [(2, .int (nI k)), (1, .int (bitsF x k)), (0, .int x)] := hl
  refine lv_iload_n hx hb dX8_bits_4 rfl (lv_at hl 0 rfl) ?_
  refine lv_bipush (v := 11) hx hb dX8_bits_5 (by decide) ?_
  refine lv_icmp_ge (tgt := 24) hx hb dX8_bits_7 (by decide) (fun c1 => ?_) (fun c1 => ?_)
  · -- 7 taken
    refine lv_iload_n hx hb dX8_bits_24 rfl (lv_at hl 1 rfl) ?_
    exact ro_iret (v := bitsF x k) hx hb hr hH hlocks dX8_bits_25 (by rw [show k = 11 by simp only [i_le, n_ti (show k < 2 ^ 31 by omega), Int32.reduceToInt] at c1; omega])
  · -- 7 not
    have hk2 : k < 11 := by simp only [i_le, n_ti (show k < 2 ^ 31 by omega), Int32.reduceToInt] at c1; omega
    refine lv_iload_n hx hb dX8_bits_10 rfl (lv_at hl 1 rfl) ?_
    refine lv_iload_n hx hb dX8_bits_11 rfl (lv_at hl 2 rfl) ?_
    refine lv_iload_n hx hb dX8_bits_12 rfl (lv_at hl 0 rfl) ?_
    refine lv_ishr hx hb dX8_bits_13 ?_
    refine lv_iconst (v := 1) hx hb dX8_bits_14 (by decide) ?_
    refine lv_iand hx hb dX8_bits_15 ?_
    refine lv_iadd hx hb dX8_bits_16 ?_
    refine lv_istore_n (lv' := [(1, .int ((bitsF x k) + ((x >>> ((nI k) &&& 31)) &&& 1))), (2, .int (nI k)), (0, .int x)]) hx hb dX8_bits_17 rfl hl (by decide) rfl (fun ls hl => ?_)
    refine lv_iinc (v := nI (k + 1)) (lv' := [(2, .int (nI (k + 1))), (1, .int ((bitsF x k) + ((x >>> ((nI k) &&& 31)) &&& 1))), (0, .int x)]) hx hb dX8_bits_18 hl (k := 1) rfl (nI_1 _) (by decide) rfl (fun ls hl => ?_)
    refine lv_goto (tgt := 4) hx hb dX8_bits_21 (by decide) ?_
    exact ih _ (by omega) (lv_sub hl [0, 1, 2] rfl)
set_option maxHeartbeats 4000000 in
set_option maxRecDepth 100000 in
theorem m_fieldOf (l : Launch) (D : va_G) (G : Nat → ClassId) (H : Heap) (mo : Nat) (ad : Nat → Nat) (σ : MS) (τ : Nat → Int64) (hP : va_P D vwCl (mW G mo ad σ τ) H) (k : Nat) (h7 : σ 7 0 = nI k) (hk60 : k ≤ 60) (t : Int32) (name : Int32) : Met l yX8_fieldOf (ww yX8_fieldOf cX8_fieldOf 4 (some .int)) (rmD 0) (roP D G H [.ref mo, .int t, .int name]) (vp_Si (fun r => r = fld σ k t name)) 0 0 (fun _ => False) := by
  refine Met.ofW (cc := cX8_fieldOf) (maxL := 4) (ret := (some .int)) (by decide) rfl ?_
  intro p e s m args below meth c s₁ B hml hv
  obtain ⟨rfl, hH, hK⟩ := hv
  have hx := B.exec
  have hb := B.bytes
  have hr := B.returns
  have hts : ∀ w ∈ TT, w.before _ s = true := fun w h => atoms_spec (ws := ww yX8_fieldOf cX8_fieldOf 4 (some .int)) B.pre w (List.mem_cons_of_mem _ h)
  have hown : s.vm.findClass RX8 = some m.cls := findClass_of_methodNamed B.named
  have hlocks := B.notSynchronized
  rw [hH]
  have hl := lv_entry ([.ref mo, .int t, .int name]) (n := 4) (Nat.le_of_ble_eq_true rfl)
  rw [lg_entry_eq]
  generalize (lg_sl ([.ref mo, .int t, .int name]) ++ List.replicate (4 - (lg_sl ([.ref mo, .int t, .int name])).length) Slot.unset).toArray = ls at hl ⊢
  have hl : lv_has ls 4 [(0, .ref mo), (1, .int t), (2, .int name)] := hl
  refine lv_iconst (v := 0) hx hb dX8_fieldOf_0 (by decide) ?_
  refine lv_istore_n (lv' := [(3, .int 0), (0, .ref mo), (1, .int t), (2, .int name)]) hx hb dX8_fieldOf_1 rfl hl (by decide) rfl (fun ls hl => ?_)
  refine w_for (N := k) 2 (L := fun k9 ls => lv_has ls 4 [(3, .int (nI k9)), (0, .ref mo), (1, .int t), (2, .int name)] ∧ fnd (fldP σ t name) k 0 = fnd (fldP σ t name) (k - k9) k9) (fun k9 ls hk hL ih => ?_) 0 ls (Nat.zero_le _) ⟨hl, by rw [Nat.sub_zero]⟩
  obtain ⟨hl, hi⟩ := hL
  have hl : lv_has ls 4 [(3, .int (nI k9)), (0, .ref mo), (1, .int t), (2, .int name)] := hl
  refine lv_iload_n hx hb dX8_fieldOf_2 rfl (lv_at hl 0 rfl) ?_
  refine lv_aload_n hx hb dX8_fieldOf_3 rfl (lv_at hl 1 rfl) ?_
  refine va_get (D := D) (ci := 8) (v := .int (σ 7 0)) (C := RX8) (T := TX8) (N := 33) hx hb hts iX8 hown hK.1 hP 0 rfl rfl 7 (by decide) (hts _ q_686) (fun _ h9 => h9) rfl dX8_fieldOf_4 ?_
  refine lv_icmp_ge (tgt := 47) hx hb dX8_fieldOf_7 (by decide) (fun c1 => ?_) (fun c1 => ?_)
  · -- 7 taken
    have hke : k9 = k := by simp only [i_le, h7, n_ti (show k9 < 2 ^ 31 by omega), n_ti (show k < 2 ^ 31 by omega), Int32.reduceToInt] at c1; omega
    refine lv_iconst (v := -1) hx hb dX8_fieldOf_47 (by decide) ?_
    exact ro_iret (v := (-1)) hx hb hr hH hlocks dX8_fieldOf_48 (by unfold fld; rw [hi, hke, Nat.sub_self]; rfl)
  · -- 7 not
    have hkl : k9 < k := by simp only [i_le, h7, n_ti (show k9 < 2 ^ 31 by omega), n_ti (show k < 2 ^ 31 by omega), Int32.reduceToInt] at c1; omega
    refine lv_aload_n hx hb dX8_fieldOf_10 rfl (lv_at hl 1 rfl) ?_
    refine va_get (D := D) (ci := 8) (v := .ref ((ad 8))) (C := RX8) (T := TX8) (N := 33) hx hb hts iX8 hown hK.1 hP 0 rfl rfl 8 (by decide) (hts _ q_687) (fun _ h9 => h9) rfl dX8_fieldOf_11 ?_
    refine lv_iload_n hx hb dX8_fieldOf_14 rfl (lv_at hl 0 rfl) ?_
    refine zald_n (f := σ 8) hx hb hK.1 hP 6 2 rfl rfl (k9) rfl (by omega) (by decide) dX8_fieldOf_15 ?_
    refine lv_if_ne (tgt := 41) hx hb dX8_fieldOf_16 (by decide) (fun c2 => ?_) (fun c2 => ?_)
    · -- 16 taken
      refine lv_iinc (v := nI (k9 + 1)) (lv' := [(3, .int (nI (k9 + 1))), (0, .ref mo), (1, .int t), (2, .int name)]) hx hb dX8_fieldOf_41 hl (k := 0) rfl (nI_1 _) (by decide) rfl (fun ls hl => ?_)
      refine lv_goto (tgt := 2) hx hb dX8_fieldOf_44 (by decide) ?_
      have hi := hi.trans (fnd_f hkl (fun h9 => absurd h9.1 c2))
      exact ih _ (by omega) ⟨lv_sub hl [0, 1, 2, 3] rfl, hi⟩
    · -- 16 not
      refine lv_aload_n hx hb dX8_fieldOf_19 rfl (lv_at hl 1 rfl) ?_
      refine va_get (D := D) (ci := 8) (v := .ref ((ad 9))) (C := RX8) (T := TX8) (N := 33) hx hb hts iX8 hown hK.1 hP 0 rfl rfl 9 (by decide) (hts _ q_688) (fun _ h9 => h9) rfl dX8_fieldOf_20 ?_
      refine lv_iload_n hx hb dX8_fieldOf_23 rfl (lv_at hl 0 rfl) ?_
      refine iald_n (f := σ 9) hx hb hK.1 hP 7 0 rfl rfl (k9) rfl (by omega) (by decide) dX8_fieldOf_24 ?_
      refine lv_iload_n hx hb dX8_fieldOf_25 rfl (lv_at hl 2 rfl) ?_
      refine lv_icmp_ne (tgt := 41) hx hb dX8_fieldOf_26 (by decide) (fun c3 => ?_) (fun c3 => ?_)
      · -- 26 taken
        refine lv_iinc (v := nI (k9 + 1)) (lv' := [(3, .int (nI (k9 + 1))), (0, .ref mo), (1, .int t), (2, .int name)]) hx hb dX8_fieldOf_41 hl (k := 0) rfl (nI_1 _) (by decide) rfl (fun ls hl => ?_)
        refine lv_goto (tgt := 2) hx hb dX8_fieldOf_44 (by decide) ?_
        have hi := hi.trans (fnd_f hkl (fun h9 => absurd h9.2.1 c3))
        exact ih _ (by omega) ⟨lv_sub hl [0, 1, 2, 3] rfl, hi⟩
      · -- 26 not
        refine lv_aload_n hx hb dX8_fieldOf_29 rfl (lv_at hl 1 rfl) ?_
        refine va_get (D := D) (ci := 8) (v := .ref ((ad 10))) (C := RX8) (T := TX8) (N := 33) hx hb hts iX8 hown hK.1 hP 0 rfl rfl 10 (by decide) (hts _ q_689) (fun _ h9 => h9) rfl dX8_fieldOf_30 ?_
        refine lv_iload_n hx hb dX8_fieldOf_33 rfl (lv_at hl 0 rfl) ?_
        refine iald_n (f := σ 10) hx hb hK.1 hP 8 0 rfl rfl (k9) rfl (by omega) (by decide) dX8_fieldOf_34 ?_
        refine lv_iload_n hx hb dX8_fieldOf_35 rfl (lv_at hl 3 rfl) ?_
        refine lv_icmp_ne (tgt := 41) hx hb dX8_fieldOf_36 (by decide) (fun c4 => ?_) (fun c4 => ?_)
        · -- 36 taken
          refine lv_iinc (v := nI (k9 + 1)) (lv' := [(3, .int (nI (k9 + 1))), (0, .ref mo), (1, .int t), (2, .int name)]) hx hb dX8_fieldOf_41 hl (k := 0) rfl (nI_1 _) (by decide) rfl (fun ls hl => ?_)
          refine lv_goto (tgt := 2) hx hb dX8_fieldOf_44 (by decide) ?_
          have hi := hi.trans (fnd_f hkl (fun h9 => absurd h9.2.2 c4))
          exact ih _ (by omega) ⟨lv_sub hl [0, 1, 2, 3] rfl, hi⟩
        · -- 36 not
          refine lv_iload_n hx hb dX8_fieldOf_39 rfl (lv_at hl 0 rfl) ?_
          exact ro_iret (v := nI k9) hx hb hr hH hlocks dX8_fieldOf_40 (by unfold fld; rw [hi]; exact (fnd_t hkl ⟨c2, c3, c4⟩ rfl).symm)
set_option maxHeartbeats 4000000 in
set_option maxRecDepth 100000 in
theorem m_ruleOfField (l : Launch) (D : va_G) (G : Nat → ClassId) (H : Heap) (mo : Nat) (ad : Nat → Nat) (σ : MS) (τ : Nat → Int64) (hP : va_P D vwCl (mW G mo ad σ τ) H) (k : Nat) (h7 : σ 7 0 = nI k) (hk60 : k ≤ 60) (t : Nat) (ht : t < 12) (name : Int32) (kind : Int32) (mm : Int32) : Met l yX8_ruleOfField (ww yX8_ruleOfField cX8_ruleOfField 5 (some .int)) (rmD 1) (roP D G H [.ref mo, .int (nI t), .int name, .int kind, .int mm]) (vp_Si (fun r => r = aRF σ k t name kind mm)) 0 0 (fun _ => False) := by
  refine Met.ofW (cc := cX8_ruleOfField) (maxL := 5) (ret := (some .int)) (by decide) rfl ?_
  intro p e s m args below meth c s₁ B hml hv
  obtain ⟨rfl, hH, hK⟩ := hv
  have hx := B.exec
  have hb := B.bytes
  have hr := B.returns
  have hts : ∀ w ∈ TT, w.before _ s = true := fun w h => atoms_spec (ws := ww yX8_ruleOfField cX8_ruleOfField 5 (some .int)) B.pre w (List.mem_cons_of_mem _ h)
  have hown : s.vm.findClass RX8 = some m.cls := findClass_of_methodNamed B.named
  have hlocks := B.notSynchronized
  rw [hH]
  have hl := lv_entry ([.ref mo, .int (nI t), .int name, .int kind, .int mm]) (n := 5) (Nat.le_of_ble_eq_true rfl)
  rw [lg_entry_eq]
  generalize (lg_sl ([.ref mo, .int (nI t), .int name, .int kind, .int mm]) ++ List.replicate (5 - (lg_sl ([.ref mo, .int (nI t), .int name, .int kind, .int mm])).length) Slot.unset).toArray = ls at hl ⊢
  have hl : lv_has ls 5 [(0, .ref mo), (1, .int (nI t)), (2, .int name), (3, .int kind), (4, .int mm)] := hl
  refine lv_iload hx hb dX8_ruleOfField_0 (lv_at hl 4 rfl) ?_
  refine lv_bipush (v := 127) hx hb dX8_ruleOfField_2 (by decide) ?_
  refine lv_icmp_le (tgt := 9) hx hb dX8_ruleOfField_4 (by decide) (fun c1 => ?_) (fun c1 => ?_)
  · -- 4 taken
    refine lv_iload hx hb dX8_ruleOfField_9 (lv_at hl 4 rfl) ?_
    refine lv_bipush (v := 7) hx hb dX8_ruleOfField_11 (by decide) ?_
    refine lv_iand hx hb dX8_ruleOfField_13 ?_
    refine ro_Si (D := D) (G := G) (As := [.int (mm &&& 7)]) (rest := []) ⟨hx, hb, hml, hown, hts⟩ (m_bits l D G _ (mm &&& 7)) gS_X8_X8_bits hdS_X8_bits ⟨Nat.le_of_ble_eq_true rfl, Nat.le_of_ble_eq_true rfl⟩ hK rfl hl.1 rfl (Nat.le_of_ble_eq_true rfl) dX8_ruleOfField_14 ⟨Nat.le_of_ble_eq_true rfl, Nat.le_of_ble_eq_true rfl⟩ (fun r2 e_r2 => ?_)
    subst e_r2
    refine lv_iconst (v := 1) hx hb dX8_ruleOfField_17 (by decide) ?_
    refine lv_icmp_le (tgt := 23) hx hb dX8_ruleOfField_18 (by decide) (fun c3 => ?_) (fun c3 => ?_)
    · -- 18 taken
      refine lv_iload hx hb dX8_ruleOfField_23 (lv_at hl 4 rfl) ?_
      refine lv_bipush (v := 16) hx hb dX8_ruleOfField_25 (by decide) ?_
      refine lv_iand hx hb dX8_ruleOfField_27 ?_
      refine lv_if_le (tgt := 41) hx hb dX8_ruleOfField_28 (by decide) (fun c4 => ?_) (fun c4 => ?_)
      · -- 28 taken
        have c4 := and_le (by decide) c4
        refine lv_aload_n hx hb dX8_ruleOfField_41 rfl (lv_at hl 0 rfl) ?_
        refine lv_iload_n hx hb dX8_ruleOfField_42 rfl (lv_at hl 1 rfl) ?_
        refine ro_Vi (D := D) (G := G) (As := [.int (nI t)]) (rest := []) ⟨hx, hb, hml, hown, hts⟩ (m_isFace l D G _ mo ad _ _ hP (t) (by omega)) gV_X8_X8_isFace hdV_X8_isFace ⟨Nat.le_of_ble_eq_true rfl, Nat.le_of_ble_eq_true rfl⟩ hK (va_recv hK.1 hP (ci := 8) (q0 := 0) rfl rfl) rfl hl.1 rfl (Nat.le_of_ble_eq_true rfl) dX8_ruleOfField_43 ⟨Nat.le_of_ble_eq_true rfl, Nat.le_of_ble_eq_true rfl⟩ (fun r5 e_r5 => ?_)
        subst e_r5
        refine lv_if_eq (tgt := 59) hx hb dX8_ruleOfField_46 (by decide) (fun c6 => ?_) (fun c6 => ?_)
        · -- 46 taken
          have c6 := bI_0 c6
          refine lv_iload_n hx hb dX8_ruleOfField_59 rfl (lv_at hl 3 rfl) ?_
          refine lv_if_ne (tgt := 67) hx hb dX8_ruleOfField_60 (by decide) (fun c7 => ?_) (fun c7 => ?_)
          · -- 60 taken
            refine lv_aload_n hx hb dX8_ruleOfField_67 rfl (lv_at hl 0 rfl) ?_
            refine lv_iload_n hx hb dX8_ruleOfField_68 rfl (lv_at hl 1 rfl) ?_
            refine lv_iload_n hx hb dX8_ruleOfField_69 rfl (lv_at hl 2 rfl) ?_
            refine ro_Vi (D := D) (G := G) (As := [.int (nI t), .int name]) (rest := []) ⟨hx, hb, hml, hown, hts⟩ (m_fieldOf l D G _ mo ad _ _ hP k h7 hk60 (nI t) name) gV_X8_X8_fieldOf hdV_X8_fieldOf ⟨Nat.le_of_ble_eq_true rfl, Nat.le_of_ble_eq_true rfl⟩ hK (va_recv hK.1 hP (ci := 8) (q0 := 0) rfl rfl) rfl hl.1 rfl (Nat.le_of_ble_eq_true rfl) dX8_ruleOfField_70 ⟨Nat.le_of_ble_eq_true rfl, Nat.le_of_ble_eq_true rfl⟩ (fun r8 e_r8 => ?_)
            subst e_r8
            refine lv_iconst (v := -1) hx hb dX8_ruleOfField_73 (by decide) ?_
            refine lv_icmp_ne (tgt := 81) hx hb dX8_ruleOfField_74 (by decide) (fun c9 => ?_) (fun c9 => ?_)
            · -- 74 taken
              refine lv_bipush (v := 6) hx hb dX8_ruleOfField_81 (by decide) ?_
              exact ro_iret (v := 6) hx hb hr hH hlocks dX8_ruleOfField_83 (by unfold aRF; simp only [eq_true c1, eq_true c3, eq_true c4, eq_false c6, eq_false c7, eq_false c9, not_true, not_false_iff, not_true_eq_false, not_false_eq_true, true_or, or_true, false_or, or_false, or_self, and_self, true_and, and_true, false_and, and_false, if_true, if_false])
            · -- 74 not
              refine lv_iconst (v := 0) hx hb dX8_ruleOfField_77 (by decide) ?_
              refine lv_goto (tgt := 83) hx hb dX8_ruleOfField_78 (by decide) ?_
              exact ro_iret (v := 0) hx hb hr hH hlocks dX8_ruleOfField_83 (by unfold aRF; simp only [eq_true c1, eq_true c3, eq_true c4, eq_false c6, eq_false c7, eq_true c9, not_true, not_false_iff, not_true_eq_false, not_false_eq_true, true_or, or_true, false_or, or_false, or_self, and_self, true_and, and_true, false_and, and_false, if_true, if_false])
          · -- 60 not
            refine lv_iconst (v := 5) hx hb dX8_ruleOfField_63 (by decide) ?_
            refine lv_goto (tgt := 83) hx hb dX8_ruleOfField_64 (by decide) ?_
            exact ro_iret (v := 5) hx hb hr hH hlocks dX8_ruleOfField_83 (by unfold aRF; simp only [eq_true c1, eq_true c3, eq_true c4, eq_false c6, eq_true c7, not_true, not_false_iff, not_true_eq_false, not_false_eq_true, true_or, or_true, false_or, or_false, or_self, and_self, true_and, and_true, false_and, and_false, if_true, if_false])
        · -- 46 not
          have c6 := bI_1 c6
          refine lv_iload hx hb dX8_ruleOfField_49 (lv_at hl 4 rfl) ?_
          refine lv_bipush (v := -26) hx hb dX8_ruleOfField_51 (by decide) ?_
          refine lv_iand hx hb dX8_ruleOfField_53 ?_
          refine lv_if_le (tgt := 59) hx hb dX8_ruleOfField_54 (by decide) (fun c10 => ?_) (fun c10 => ?_)
          · -- 54 taken
            refine lv_iload_n hx hb dX8_ruleOfField_59 rfl (lv_at hl 3 rfl) ?_
            refine lv_if_ne (tgt := 67) hx hb dX8_ruleOfField_60 (by decide) (fun c11 => ?_) (fun c11 => ?_)
            · -- 60 taken
              refine lv_aload_n hx hb dX8_ruleOfField_67 rfl (lv_at hl 0 rfl) ?_
              refine lv_iload_n hx hb dX8_ruleOfField_68 rfl (lv_at hl 1 rfl) ?_
              refine lv_iload_n hx hb dX8_ruleOfField_69 rfl (lv_at hl 2 rfl) ?_
              refine ro_Vi (D := D) (G := G) (As := [.int (nI t), .int name]) (rest := []) ⟨hx, hb, hml, hown, hts⟩ (m_fieldOf l D G _ mo ad _ _ hP k h7 hk60 (nI t) name) gV_X8_X8_fieldOf hdV_X8_fieldOf ⟨Nat.le_of_ble_eq_true rfl, Nat.le_of_ble_eq_true rfl⟩ hK (va_recv hK.1 hP (ci := 8) (q0 := 0) rfl rfl) rfl hl.1 rfl (Nat.le_of_ble_eq_true rfl) dX8_ruleOfField_70 ⟨Nat.le_of_ble_eq_true rfl, Nat.le_of_ble_eq_true rfl⟩ (fun r12 e_r12 => ?_)
              subst e_r12
              refine lv_iconst (v := -1) hx hb dX8_ruleOfField_73 (by decide) ?_
              refine lv_icmp_ne (tgt := 81) hx hb dX8_ruleOfField_74 (by decide) (fun c13 => ?_) (fun c13 => ?_)
              · -- 74 taken
                refine lv_bipush (v := 6) hx hb dX8_ruleOfField_81 (by decide) ?_
                exact ro_iret (v := 6) hx hb hr hH hlocks dX8_ruleOfField_83 (by unfold aRF; simp only [eq_true c1, eq_true c3, eq_true c4, eq_true c6, eq_true c10, eq_false c11, eq_false c13, not_true, not_false_iff, not_true_eq_false, not_false_eq_true, true_or, or_true, false_or, or_false, or_self, and_self, true_and, and_true, false_and, and_false, if_true, if_false])
              · -- 74 not
                refine lv_iconst (v := 0) hx hb dX8_ruleOfField_77 (by decide) ?_
                refine lv_goto (tgt := 83) hx hb dX8_ruleOfField_78 (by decide) ?_
                exact ro_iret (v := 0) hx hb hr hH hlocks dX8_ruleOfField_83 (by unfold aRF; simp only [eq_true c1, eq_true c3, eq_true c4, eq_true c6, eq_true c10, eq_false c11, eq_true c13, not_true, not_false_iff, not_true_eq_false, not_false_eq_true, true_or, or_true, false_or, or_false, or_self, and_self, true_and, and_true, false_and, and_false, if_true, if_false])
            · -- 60 not
              refine lv_iconst (v := 5) hx hb dX8_ruleOfField_63 (by decide) ?_
              refine lv_goto (tgt := 83) hx hb dX8_ruleOfField_64 (by decide) ?_
              exact ro_iret (v := 5) hx hb hr hH hlocks dX8_ruleOfField_83 (by unfold aRF; simp only [eq_true c1, eq_true c3, eq_true c4, eq_true c6, eq_true c10, eq_true c11, not_true, not_false_iff, not_true_eq_false, not_false_eq_true, true_or, or_true, false_or, or_false, or_self, and_self, true_and, and_true, false_and, and_false, if_true, if_false])
          · -- 54 not
            refine lv_iconst (v := 4) hx hb dX8_ruleOfField_57 (by decide) ?_
            exact ro_iret (v := 4) hx hb hr hH hlocks dX8_ruleOfField_58 (by unfold aRF; simp only [eq_true c1, eq_true c3, eq_true c4, eq_true c6, eq_false c10, not_true, not_false_iff, not_true_eq_false, not_false_eq_true, true_or, or_true, false_or, or_false, or_self, and_self, true_and, and_true, false_and, and_false, if_true, if_false])
      · -- 28 not
        have c4 := and_nle c4
        refine lv_iload hx hb dX8_ruleOfField_31 (lv_at hl 4 rfl) ?_
        refine lv_bipush (v := 32) hx hb dX8_ruleOfField_33 (by decide) ?_
        refine lv_iand hx hb dX8_ruleOfField_35 ?_
        refine lv_if_le (tgt := 41) hx hb dX8_ruleOfField_36 (by decide) (fun c14 => ?_) (fun c14 => ?_)
        · -- 36 taken
          have c14 := and_le (by decide) c14
          refine lv_aload_n hx hb dX8_ruleOfField_41 rfl (lv_at hl 0 rfl) ?_
          refine lv_iload_n hx hb dX8_ruleOfField_42 rfl (lv_at hl 1 rfl) ?_
          refine ro_Vi (D := D) (G := G) (As := [.int (nI t)]) (rest := []) ⟨hx, hb, hml, hown, hts⟩ (m_isFace l D G _ mo ad _ _ hP (t) (by omega)) gV_X8_X8_isFace hdV_X8_isFace ⟨Nat.le_of_ble_eq_true rfl, Nat.le_of_ble_eq_true rfl⟩ hK (va_recv hK.1 hP (ci := 8) (q0 := 0) rfl rfl) rfl hl.1 rfl (Nat.le_of_ble_eq_true rfl) dX8_ruleOfField_43 ⟨Nat.le_of_ble_eq_true rfl, Nat.le_of_ble_eq_true rfl⟩ (fun r15 e_r15 => ?_)
          subst e_r15
          refine lv_if_eq (tgt := 59) hx hb dX8_ruleOfField_46 (by decide) (fun c16 => ?_) (fun c16 => ?_)
          · -- 46 taken
            have c16 := bI_0 c16
            refine lv_iload_n hx hb dX8_ruleOfField_59 rfl (lv_at hl 3 rfl) ?_
            refine lv_if_ne (tgt := 67) hx hb dX8_ruleOfField_60 (by decide) (fun c17 => ?_) (fun c17 => ?_)
            · -- 60 taken
              refine lv_aload_n hx hb dX8_ruleOfField_67 rfl (lv_at hl 0 rfl) ?_
              refine lv_iload_n hx hb dX8_ruleOfField_68 rfl (lv_at hl 1 rfl) ?_
              refine lv_iload_n hx hb dX8_ruleOfField_69 rfl (lv_at hl 2 rfl) ?_
              refine ro_Vi (D := D) (G := G) (As := [.int (nI t), .int name]) (rest := []) ⟨hx, hb, hml, hown, hts⟩ (m_fieldOf l D G _ mo ad _ _ hP k h7 hk60 (nI t) name) gV_X8_X8_fieldOf hdV_X8_fieldOf ⟨Nat.le_of_ble_eq_true rfl, Nat.le_of_ble_eq_true rfl⟩ hK (va_recv hK.1 hP (ci := 8) (q0 := 0) rfl rfl) rfl hl.1 rfl (Nat.le_of_ble_eq_true rfl) dX8_ruleOfField_70 ⟨Nat.le_of_ble_eq_true rfl, Nat.le_of_ble_eq_true rfl⟩ (fun r18 e_r18 => ?_)
              subst e_r18
              refine lv_iconst (v := -1) hx hb dX8_ruleOfField_73 (by decide) ?_
              refine lv_icmp_ne (tgt := 81) hx hb dX8_ruleOfField_74 (by decide) (fun c19 => ?_) (fun c19 => ?_)
              · -- 74 taken
                refine lv_bipush (v := 6) hx hb dX8_ruleOfField_81 (by decide) ?_
                exact ro_iret (v := 6) hx hb hr hH hlocks dX8_ruleOfField_83 (by unfold aRF; simp only [eq_true c1, eq_true c3, eq_false c4, eq_true c14, eq_false c16, eq_false c17, eq_false c19, not_true, not_false_iff, not_true_eq_false, not_false_eq_true, true_or, or_true, false_or, or_false, or_self, and_self, true_and, and_true, false_and, and_false, if_true, if_false])
              · -- 74 not
                refine lv_iconst (v := 0) hx hb dX8_ruleOfField_77 (by decide) ?_
                refine lv_goto (tgt := 83) hx hb dX8_ruleOfField_78 (by decide) ?_
                exact ro_iret (v := 0) hx hb hr hH hlocks dX8_ruleOfField_83 (by unfold aRF; simp only [eq_true c1, eq_true c3, eq_false c4, eq_true c14, eq_false c16, eq_false c17, eq_true c19, not_true, not_false_iff, not_true_eq_false, not_false_eq_true, true_or, or_true, false_or, or_false, or_self, and_self, true_and, and_true, false_and, and_false, if_true, if_false])
            · -- 60 not
              refine lv_iconst (v := 5) hx hb dX8_ruleOfField_63 (by decide) ?_
              refine lv_goto (tgt := 83) hx hb dX8_ruleOfField_64 (by decide) ?_
              exact ro_iret (v := 5) hx hb hr hH hlocks dX8_ruleOfField_83 (by unfold aRF; simp only [eq_true c1, eq_true c3, eq_false c4, eq_true c14, eq_false c16, eq_true c17, not_true, not_false_iff, not_true_eq_false, not_false_eq_true, true_or, or_true, false_or, or_false, or_self, and_self, true_and, and_true, false_and, and_false, if_true, if_false])
          · -- 46 not
            have c16 := bI_1 c16
            refine lv_iload hx hb dX8_ruleOfField_49 (lv_at hl 4 rfl) ?_
            refine lv_bipush (v := -26) hx hb dX8_ruleOfField_51 (by decide) ?_
            refine lv_iand hx hb dX8_ruleOfField_53 ?_
            refine lv_if_le (tgt := 59) hx hb dX8_ruleOfField_54 (by decide) (fun c20 => ?_) (fun c20 => ?_)
            · -- 54 taken
              refine lv_iload_n hx hb dX8_ruleOfField_59 rfl (lv_at hl 3 rfl) ?_
              refine lv_if_ne (tgt := 67) hx hb dX8_ruleOfField_60 (by decide) (fun c21 => ?_) (fun c21 => ?_)
              · -- 60 taken
                refine lv_aload_n hx hb dX8_ruleOfField_67 rfl (lv_at hl 0 rfl) ?_
                refine lv_iload_n hx hb dX8_ruleOfField_68 rfl (lv_at hl 1 rfl) ?_
                refine lv_iload_n hx hb dX8_ruleOfField_69 rfl (lv_at hl 2 rfl) ?_
                refine ro_Vi (D := D) (G := G) (As := [.int (nI t), .int name]) (rest := []) ⟨hx, hb, hml, hown, hts⟩ (m_fieldOf l D G _ mo ad _ _ hP k h7 hk60 (nI t) name) gV_X8_X8_fieldOf hdV_X8_fieldOf ⟨Nat.le_of_ble_eq_true rfl, Nat.le_of_ble_eq_true rfl⟩ hK (va_recv hK.1 hP (ci := 8) (q0 := 0) rfl rfl) rfl hl.1 rfl (Nat.le_of_ble_eq_true rfl) dX8_ruleOfField_70 ⟨Nat.le_of_ble_eq_true rfl, Nat.le_of_ble_eq_true rfl⟩ (fun r22 e_r22 => ?_)
                subst e_r22
                refine lv_iconst (v := -1) hx hb dX8_ruleOfField_73 (by decide) ?_
                refine lv_icmp_ne (tgt := 81) hx hb dX8_ruleOfField_74 (by decide) (fun c23 => ?_) (fun c23 => ?_)
                · -- 74 taken
                  refine lv_bipush (v := 6) hx hb dX8_ruleOfField_81 (by decide) ?_
                  exact ro_iret (v := 6) hx hb hr hH hlocks dX8_ruleOfField_83 (by unfold aRF; simp only [eq_true c1, eq_true c3, eq_false c4, eq_true c14, eq_true c16, eq_true c20, eq_false c21, eq_false c23, not_true, not_false_iff, not_true_eq_false, not_false_eq_true, true_or, or_true, false_or, or_false, or_self, and_self, true_and, and_true, false_and, and_false, if_true, if_false])
                · -- 74 not
                  refine lv_iconst (v := 0) hx hb dX8_ruleOfField_77 (by decide) ?_
                  refine lv_goto (tgt := 83) hx hb dX8_ruleOfField_78 (by decide) ?_
                  exact ro_iret (v := 0) hx hb hr hH hlocks dX8_ruleOfField_83 (by unfold aRF; simp only [eq_true c1, eq_true c3, eq_false c4, eq_true c14, eq_true c16, eq_true c20, eq_false c21, eq_true c23, not_true, not_false_iff, not_true_eq_false, not_false_eq_true, true_or, or_true, false_or, or_false, or_self, and_self, true_and, and_true, false_and, and_false, if_true, if_false])
              · -- 60 not
                refine lv_iconst (v := 5) hx hb dX8_ruleOfField_63 (by decide) ?_
                refine lv_goto (tgt := 83) hx hb dX8_ruleOfField_64 (by decide) ?_
                exact ro_iret (v := 5) hx hb hr hH hlocks dX8_ruleOfField_83 (by unfold aRF; simp only [eq_true c1, eq_true c3, eq_false c4, eq_true c14, eq_true c16, eq_true c20, eq_true c21, not_true, not_false_iff, not_true_eq_false, not_false_eq_true, true_or, or_true, false_or, or_false, or_self, and_self, true_and, and_true, false_and, and_false, if_true, if_false])
            · -- 54 not
              refine lv_iconst (v := 4) hx hb dX8_ruleOfField_57 (by decide) ?_
              exact ro_iret (v := 4) hx hb hr hH hlocks dX8_ruleOfField_58 (by unfold aRF; simp only [eq_true c1, eq_true c3, eq_false c4, eq_true c14, eq_true c16, eq_false c20, not_true, not_false_iff, not_true_eq_false, not_false_eq_true, true_or, or_true, false_or, or_false, or_self, and_self, true_and, and_true, false_and, and_false, if_true, if_false])
        · -- 36 not
          have c14 := and_nle c14
          refine lv_iconst (v := 3) hx hb dX8_ruleOfField_39 (by decide) ?_
          exact ro_iret (v := 3) hx hb hr hH hlocks dX8_ruleOfField_40 (by unfold aRF; simp only [eq_true c1, eq_true c3, eq_false c4, eq_false c14, not_true, not_false_iff, not_true_eq_false, not_false_eq_true, true_or, or_true, false_or, or_false, or_self, and_self, true_and, and_true, false_and, and_false, if_true, if_false])
    · -- 18 not
      refine lv_iconst (v := 2) hx hb dX8_ruleOfField_21 (by decide) ?_
      exact ro_iret (v := 2) hx hb hr hH hlocks dX8_ruleOfField_22 (by unfold aRF; simp only [eq_true c1, eq_false c3, not_true, not_false_iff, not_true_eq_false, not_false_eq_true, true_or, or_true, false_or, or_false, or_self, and_self, true_and, and_true, false_and, and_false, if_true, if_false])
  · -- 4 not
    refine lv_iconst (v := 1) hx hb dX8_ruleOfField_7 (by decide) ?_
    exact ro_iret (v := 1) hx hb hr hH hlocks dX8_ruleOfField_8 (by unfold aRF; simp only [eq_false c1, not_true, not_false_iff, not_true_eq_false, not_false_eq_true, true_or, or_true, false_or, or_false, or_self, and_self, true_and, and_true, false_and, and_false, if_true, if_false])
set_option maxHeartbeats 4000000 in
set_option maxRecDepth 100000 in
theorem m_isEntry (l : Launch) (D : va_G) (G : Nat → ClassId) (H : Heap) (mo : Nat) (ad : Nat → Nat) (σ : MS) (τ : Nat → Int64) (hP : va_P D vwCl (mW G mo ad σ τ) H) (k : Nat) (h7 : σ 7 0 = nI k) (hk60 : k ≤ 60) (en : Int32) : Met l yX8_isEntry (ww yX8_isEntry cX8_isEntry 2 (some .boolean)) (rmD 1) (roP D G H [.ref mo, .int en]) (vp_Si (fun r => r = bI (okN k en))) 0 0 (fun _ => False) := by
  refine Met.ofW (cc := cX8_isEntry) (maxL := 2) (ret := (some .boolean)) (by decide) rfl ?_
  intro p e s m args below meth c s₁ B hml hv
  obtain ⟨rfl, hH, hK⟩ := hv
  have hx := B.exec
  have hb := B.bytes
  have hr := B.returns
  have hts : ∀ w ∈ TT, w.before _ s = true := fun w h => atoms_spec (ws := ww yX8_isEntry cX8_isEntry 2 (some .boolean)) B.pre w (List.mem_cons_of_mem _ h)
  have hown : s.vm.findClass RX8 = some m.cls := findClass_of_methodNamed B.named
  have hlocks := B.notSynchronized
  rw [hH]
  have hl := lv_entry ([.ref mo, .int en]) (n := 2) (Nat.le_of_ble_eq_true rfl)
  rw [lg_entry_eq]
  generalize (lg_sl ([.ref mo, .int en]) ++ List.replicate (2 - (lg_sl ([.ref mo, .int en])).length) Slot.unset).toArray = ls at hl ⊢
  have hl : lv_has ls 2 [(0, .ref mo), (1, .int en)] := hl
  refine lv_iload_n hx hb dX8_isEntry_0 rfl (lv_at hl 1 rfl) ?_
  refine lv_iconst (v := 0) hx hb dX8_isEntry_1 (by decide) ?_
  refine lv_aload_n hx hb dX8_isEntry_2 rfl (lv_at hl 0 rfl) ?_
  refine va_get (D := D) (ci := 8) (v := .int (σ 7 0)) (C := RX8) (T := TX8) (N := 33) hx hb hts iX8 hown hK.1 hP 0 rfl rfl 7 (by decide) (hts _ q_686) (fun _ h9 => h9) rfl dX8_isEntry_3 ?_
  refine lv_iconst (v := 1) hx hb dX8_isEntry_6 (by decide) ?_
  refine lv_isub hx hb dX8_isEntry_7 ?_
  refine ro_Si (D := D) (G := G) (As := [.int en, .int 0, .int ((σ 7 0) - 1)]) (rest := []) ⟨hx, hb, hml, hown, hts⟩ (m_in l D G _ en 0 ((σ 7 0) - 1)) gS_X8_X8_in hdS_X8_in ⟨Nat.le_of_ble_eq_true rfl, Nat.le_of_ble_eq_true rfl⟩ hK rfl hl.1 rfl (Nat.le_of_ble_eq_true rfl) dX8_isEntry_8 ⟨Nat.le_of_ble_eq_true rfl, Nat.le_of_ble_eq_true rfl⟩ (fun r1 e_r1 => ?_)
  subst e_r1
  exact ro_zret (v := bI (0 ≤ en ∧ en ≤ (σ 7 0) - 1)) hx hb hr hH hlocks dX8_isEntry_11 bI_b (by rw [h7]; exact bI_c (okN_iff (by omega)))
end
section
theorem dX8_ruleOfMember_0 : decode cX8_ruleOfMember 0 = .ok (.aload_n 0, 1) := by decide +kernel
theorem dX8_ruleOfMember_1 : decode cX8_ruleOfMember 1 = .ok (.iload_n 1, 1) := by decide +kernel
theorem dX8_ruleOfMember_2 : decode cX8_ruleOfMember 2 = .ok (.invokevirtual 116, 3) := by decide +kernel
theorem dX8_ruleOfMember_5 : decode cX8_ruleOfMember 5 = .ok (.istore 4, 2) := by decide +kernel
theorem dX8_ruleOfMember_7 : decode cX8_ruleOfMember 7 = .ok (.iload_n 2, 1) := by decide +kernel
theorem dX8_ruleOfMember_8 : decode cX8_ruleOfMember 8 = .ok (.bipush 96, 2) := by decide +kernel
theorem dX8_ruleOfMember_10 : decode cX8_ruleOfMember 10 = .ok (.iand, 1) := by decide +kernel
theorem dX8_ruleOfMember_11 : decode cX8_ruleOfMember 11 = .ok (.ifCond .le 6, 3) := by decide +kernel
theorem dX8_ruleOfMember_17 : decode cX8_ruleOfMember 17 = .ok (.iload_n 2, 1) := by decide +kernel
theorem dX8_ruleOfMember_18 : decode cX8_ruleOfMember 18 = .ok (.bipush 7, 2) := by decide +kernel
theorem dX8_ruleOfMember_20 : decode cX8_ruleOfMember 20 = .ok (.iand, 1) := by decide +kernel
theorem dX8_ruleOfMember_21 : decode cX8_ruleOfMember 21 = .ok (.invokestatic 149, 3) := by decide +kernel
theorem dX8_ruleOfMember_24 : decode cX8_ruleOfMember 24 = .ok (.iconst 1, 1) := by decide +kernel
theorem dX8_ruleOfMember_25 : decode cX8_ruleOfMember 25 = .ok (.if_icmp .le 6, 3) := by decide +kernel
theorem dX8_ruleOfMember_70 : decode cX8_ruleOfMember 70 = .ok (.istore 5, 2) := by decide +kernel
theorem dX8_ruleOfMember_72 : decode cX8_ruleOfMember 72 = .ok (.iload 4, 2) := by decide +kernel
theorem dX8_ruleOfMember_74 : decode cX8_ruleOfMember 74 = .ok (.ifCond .eq 11, 3) := by decide +kernel
theorem dX8_ruleOfMember_85 : decode cX8_ruleOfMember 85 = .ok (.iload_n 2, 1) := by decide +kernel
theorem dX8_ruleOfMember_86 : decode cX8_ruleOfMember 86 = .ok (.sipush 1024, 3) := by decide +kernel
theorem dX8_ruleOfMember_89 : decode cX8_ruleOfMember 89 = .ok (.iand, 1) := by decide +kernel
theorem dX8_ruleOfMember_90 : decode cX8_ruleOfMember 90 = .ok (.ifCond .le 6, 3) := by decide +kernel
theorem dX8_ruleOfMember_109 : decode cX8_ruleOfMember 109 = .ok (.istore 6, 2) := by decide +kernel
theorem dX8_ruleOfMember_111 : decode cX8_ruleOfMember 111 = .ok (.iload 4, 2) := by decide +kernel
theorem dX8_ruleOfMember_113 : decode cX8_ruleOfMember 113 = .ok (.ifCond .ne 19, 3) := by decide +kernel
theorem dX8_ruleOfMember_116 : decode cX8_ruleOfMember 116 = .ok (.iload 6, 2) := by decide +kernel
theorem dX8_ruleOfMember_118 : decode cX8_ruleOfMember 118 = .ok (.ifCond .eq 14, 3) := by decide +kernel
theorem dX8_ruleOfMember_132 : decode cX8_ruleOfMember 132 = .ok (.iload 4, 2) := by decide +kernel
theorem dX8_ruleOfMember_134 : decode cX8_ruleOfMember 134 = .ok (.ifCond .ne 21, 3) := by decide +kernel
theorem dX8_ruleOfMember_137 : decode cX8_ruleOfMember 137 = .ok (.iload 6, 2) := by decide +kernel
theorem dX8_ruleOfMember_139 : decode cX8_ruleOfMember 139 = .ok (.ifCond .eq 16, 3) := by decide +kernel
theorem dX8_ruleOfMember_186 : decode cX8_ruleOfMember 186 = .ok (.istore 7, 2) := by decide +kernel
theorem dX8_ruleOfMember_188 : decode cX8_ruleOfMember 188 = .ok (.iload 7, 2) := by decide +kernel
theorem dX8_ruleOfMember_190 : decode cX8_ruleOfMember 190 = .ok (.iload_n 3, 1) := by decide +kernel
theorem dX8_ruleOfMember_191 : decode cX8_ruleOfMember 191 = .ok (.if_icmp .ne 17, 3) := by decide +kernel
theorem dX8_ruleOfMember_208 : decode cX8_ruleOfMember 208 = .ok (.iconst 0, 1) := by decide +kernel
theorem dX8_ruleOfMember_209 : decode cX8_ruleOfMember 209 = .ok (.ireturn, 1) := by decide +kernel
theorem dX8_ruleOfMember_194 : decode cX8_ruleOfMember 194 = .ok (.iload_n 3, 1) := by decide +kernel
theorem dX8_ruleOfMember_195 : decode cX8_ruleOfMember 195 = .ok (.ifCond .eq 8, 3) := by decide +kernel
theorem dX8_ruleOfMember_203 : decode cX8_ruleOfMember 203 = .ok (.bipush 17, 2) := by decide +kernel
theorem dX8_ruleOfMember_205 : decode cX8_ruleOfMember 205 = .ok (.goto 4, 3) := by decide +kernel
theorem dX8_ruleOfMember_198 : decode cX8_ruleOfMember 198 = .ok (.bipush 16, 2) := by decide +kernel
theorem dX8_ruleOfMember_200 : decode cX8_ruleOfMember 200 = .ok (.goto 9, 3) := by decide +kernel
theorem dX8_ruleOfMember_155 : decode cX8_ruleOfMember 155 = .ok (.iload 6, 2) := by decide +kernel
theorem dX8_ruleOfMember_157 : decode cX8_ruleOfMember 157 = .ok (.ifCond .ne 24, 3) := by decide +kernel
theorem dX8_ruleOfMember_160 : decode cX8_ruleOfMember 160 = .ok (.iload_n 2, 1) := by decide +kernel
theorem dX8_ruleOfMember_161 : decode cX8_ruleOfMember 161 = .ok (.sipush 256, 3) := by decide +kernel
theorem dX8_ruleOfMember_164 : decode cX8_ruleOfMember 164 = .ok (.iand, 1) := by decide +kernel
theorem dX8_ruleOfMember_165 : decode cX8_ruleOfMember 165 = .ok (.ifCond .gt 16, 3) := by decide +kernel
theorem dX8_ruleOfMember_181 : decode cX8_ruleOfMember 181 = .ok (.iconst 1, 1) := by decide +kernel
theorem dX8_ruleOfMember_182 : decode cX8_ruleOfMember 182 = .ok (.goto 4, 3) := by decide +kernel
theorem dX8_ruleOfMember_168 : decode cX8_ruleOfMember 168 = .ok (.iload 4, 2) := by decide +kernel
theorem dX8_ruleOfMember_170 : decode cX8_ruleOfMember 170 = .ok (.ifCond .eq 15, 3) := by decide +kernel
theorem dX8_ruleOfMember_185 : decode cX8_ruleOfMember 185 = .ok (.iconst 0, 1) := by decide +kernel
theorem dX8_ruleOfMember_121 : decode cX8_ruleOfMember 121 = .ok (.iload_n 2, 1) := by decide +kernel
theorem dX8_ruleOfMember_122 : decode cX8_ruleOfMember 122 = .ok (.sipush 796, 3) := by decide +kernel
theorem dX8_ruleOfMember_125 : decode cX8_ruleOfMember 125 = .ok (.iand, 1) := by decide +kernel
theorem dX8_ruleOfMember_126 : decode cX8_ruleOfMember 126 = .ok (.ifCond .le 6, 3) := by decide +kernel
theorem dX8_ruleOfMember_142 : decode cX8_ruleOfMember 142 = .ok (.aload_n 0, 1) := by decide +kernel
theorem dX8_ruleOfMember_143 : decode cX8_ruleOfMember 143 = .ok (.getfield 7, 3) := by decide +kernel
theorem dX8_ruleOfMember_146 : decode cX8_ruleOfMember 146 = .ok (.iload_n 1, 1) := by decide +kernel
theorem dX8_ruleOfMember_147 : decode cX8_ruleOfMember 147 = .ok (.iaload, 1) := by decide +kernel
theorem dX8_ruleOfMember_148 : decode cX8_ruleOfMember 148 = .ok (.iconst 1, 1) := by decide +kernel
theorem dX8_ruleOfMember_149 : decode cX8_ruleOfMember 149 = .ok (.if_icmp .eq 6, 3) := by decide +kernel
theorem dX8_ruleOfMember_152 : decode cX8_ruleOfMember 152 = .ok (.bipush 15, 2) := by decide +kernel
theorem dX8_ruleOfMember_154 : decode cX8_ruleOfMember 154 = .ok (.ireturn, 1) := by decide +kernel
theorem dX8_ruleOfMember_129 : decode cX8_ruleOfMember 129 = .ok (.bipush 14, 2) := by decide +kernel
theorem dX8_ruleOfMember_131 : decode cX8_ruleOfMember 131 = .ok (.ireturn, 1) := by decide +kernel
theorem dX8_ruleOfMember_96 : decode cX8_ruleOfMember 96 = .ok (.iload_n 2, 1) := by decide +kernel
theorem dX8_ruleOfMember_97 : decode cX8_ruleOfMember 97 = .ok (.sipush 128, 3) := by decide +kernel
theorem dX8_ruleOfMember_100 : decode cX8_ruleOfMember 100 = .ok (.iand, 1) := by decide +kernel
theorem dX8_ruleOfMember_101 : decode cX8_ruleOfMember 101 = .ok (.ifCond .le 7, 3) := by decide +kernel
theorem dX8_ruleOfMember_108 : decode cX8_ruleOfMember 108 = .ok (.iconst 0, 1) := by decide +kernel
theorem dX8_ruleOfMember_104 : decode cX8_ruleOfMember 104 = .ok (.iconst 1, 1) := by decide +kernel
theorem dX8_ruleOfMember_105 : decode cX8_ruleOfMember 105 = .ok (.goto 4, 3) := by decide +kernel
theorem dX8_ruleOfMember_93 : decode cX8_ruleOfMember 93 = .ok (.bipush 13, 2) := by decide +kernel
theorem dX8_ruleOfMember_95 : decode cX8_ruleOfMember 95 = .ok (.ireturn, 1) := by decide +kernel
theorem dX8_ruleOfMember_77 : decode cX8_ruleOfMember 77 = .ok (.iload 5, 2) := by decide +kernel
theorem dX8_ruleOfMember_79 : decode cX8_ruleOfMember 79 = .ok (.ifCond .eq 17, 3) := by decide +kernel
theorem dX8_ruleOfMember_173 : decode cX8_ruleOfMember 173 = .ok (.iload_n 2, 1) := by decide +kernel
theorem dX8_ruleOfMember_174 : decode cX8_ruleOfMember 174 = .ok (.sipush 1036, 3) := by decide +kernel
theorem dX8_ruleOfMember_177 : decode cX8_ruleOfMember 177 = .ok (.iand, 1) := by decide +kernel
theorem dX8_ruleOfMember_178 : decode cX8_ruleOfMember 178 = .ok (.ifCond .ne 7, 3) := by decide +kernel
theorem dX8_ruleOfMember_82 : decode cX8_ruleOfMember 82 = .ok (.goto 11, 3) := by decide +kernel
theorem dX8_ruleOfMember_31 : decode cX8_ruleOfMember 31 = .ok (.iload_n 2, 1) := by decide +kernel
theorem dX8_ruleOfMember_32 : decode cX8_ruleOfMember 32 = .ok (.sipush 786, 3) := by decide +kernel
theorem dX8_ruleOfMember_35 : decode cX8_ruleOfMember 35 = .ok (.iand, 1) := by decide +kernel
theorem dX8_ruleOfMember_36 : decode cX8_ruleOfMember 36 = .ok (.ifCond .gt 29, 3) := by decide +kernel
theorem dX8_ruleOfMember_65 : decode cX8_ruleOfMember 65 = .ok (.iconst 1, 1) := by decide +kernel
theorem dX8_ruleOfMember_66 : decode cX8_ruleOfMember 66 = .ok (.goto 4, 3) := by decide +kernel
theorem dX8_ruleOfMember_39 : decode cX8_ruleOfMember 39 = .ok (.iload_n 2, 1) := by decide +kernel
theorem dX8_ruleOfMember_40 : decode cX8_ruleOfMember 40 = .ok (.sipush 1160, 3) := by decide +kernel
theorem dX8_ruleOfMember_43 : decode cX8_ruleOfMember 43 = .ok (.iand, 1) := by decide +kernel
theorem dX8_ruleOfMember_44 : decode cX8_ruleOfMember 44 = .ok (.invokestatic 149, 3) := by decide +kernel
theorem dX8_ruleOfMember_47 : decode cX8_ruleOfMember 47 = .ok (.iconst 1, 1) := by decide +kernel
theorem dX8_ruleOfMember_48 : decode cX8_ruleOfMember 48 = .ok (.if_icmp .gt 17, 3) := by decide +kernel
theorem dX8_ruleOfMember_51 : decode cX8_ruleOfMember 51 = .ok (.iload_n 2, 1) := by decide +kernel
theorem dX8_ruleOfMember_52 : decode cX8_ruleOfMember 52 = .ok (.iconst 4, 1) := by decide +kernel
theorem dX8_ruleOfMember_53 : decode cX8_ruleOfMember 53 = .ok (.iand, 1) := by decide +kernel
theorem dX8_ruleOfMember_54 : decode cX8_ruleOfMember 54 = .ok (.ifCond .le 15, 3) := by decide +kernel
theorem dX8_ruleOfMember_69 : decode cX8_ruleOfMember 69 = .ok (.iconst 0, 1) := by decide +kernel
theorem dX8_ruleOfMember_57 : decode cX8_ruleOfMember 57 = .ok (.iload_n 2, 1) := by decide +kernel
theorem dX8_ruleOfMember_58 : decode cX8_ruleOfMember 58 = .ok (.sipush 1152, 3) := by decide +kernel
theorem dX8_ruleOfMember_61 : decode cX8_ruleOfMember 61 = .ok (.iand, 1) := by decide +kernel
theorem dX8_ruleOfMember_62 : decode cX8_ruleOfMember 62 = .ok (.ifCond .le 7, 3) := by decide +kernel
theorem dX8_ruleOfMember_28 : decode cX8_ruleOfMember 28 = .ok (.bipush 12, 2) := by decide +kernel
theorem dX8_ruleOfMember_30 : decode cX8_ruleOfMember 30 = .ok (.ireturn, 1) := by decide +kernel
theorem dX8_ruleOfMember_14 : decode cX8_ruleOfMember 14 = .ok (.bipush 11, 2) := by decide +kernel
theorem dX8_ruleOfMember_16 : decode cX8_ruleOfMember 16 = .ok (.ireturn, 1) := by decide +kernel
theorem dX8_sameParts_20 : decode cX8_sameParts 20 = .ok (.istore_n 3, 1) := by decide +kernel
theorem dX8_sameParts_21 : decode cX8_sameParts 21 = .ok (.iconst 0, 1) := by decide +kernel
theorem dX8_sameParts_22 : decode cX8_sameParts 22 = .ok (.istore 4, 2) := by decide +kernel
theorem dX8_sameParts_24 : decode cX8_sameParts 24 = .ok (.iload_n 3, 1) := by decide +kernel
theorem dX8_sameParts_25 : decode cX8_sameParts 25 = .ok (.ifCond .eq 76, 3) := by decide +kernel
theorem dX8_sameParts_101 : decode cX8_sameParts 101 = .ok (.iload_n 3, 1) := by decide +kernel
theorem dX8_sameParts_102 : decode cX8_sameParts 102 = .ok (.ireturn, 1) := by decide +kernel
theorem dX8_sameParts_28 : decode cX8_sameParts 28 = .ok (.iload 4, 2) := by decide +kernel
theorem dX8_sameParts_30 : decode cX8_sameParts 30 = .ok (.aload_n 0, 1) := by decide +kernel
theorem q_697 : Cond.fieldLink "FieldMemberModel" 57 "FieldMemberModel" "many" "[I" ∈ TT := tt_t (i := 697) (by decide +kernel) (by decide +kernel)
theorem dX8_sameParts_31 : decode cX8_sameParts 31 = .ok (.getfield 57, 3) := by decide +kernel
theorem dX8_sameParts_34 : decode cX8_sameParts 34 = .ok (.iload_n 1, 1) := by decide +kernel
theorem dX8_sameParts_35 : decode cX8_sameParts 35 = .ok (.iaload, 1) := by decide +kernel
theorem dX8_sameParts_36 : decode cX8_sameParts 36 = .ok (.if_icmp .ge 65, 3) := by decide +kernel
theorem dX8_sameParts_94 : decode cX8_sameParts 94 = .ok (.istore_n 3, 1) := by decide +kernel
theorem dX8_sameParts_95 : decode cX8_sameParts 95 = .ok (.iinc 4 1, 3) := by decide +kernel
theorem dX8_sameParts_98 : decode cX8_sameParts 98 = .ok (.goto (-74), 3) := by decide +kernel
theorem dX8_sameParts_39 : decode cX8_sameParts 39 = .ok (.aload_n 0, 1) := by decide +kernel
theorem q_698 : Cond.fieldLink "FieldMemberModel" 60 "FieldMemberModel" "partKinds" "[I" ∈ TT := tt_t (i := 698) (by decide +kernel) (by decide +kernel)
theorem dX8_sameParts_40 : decode cX8_sameParts 40 = .ok (.getfield 60, 3) := by decide +kernel
theorem dX8_sameParts_43 : decode cX8_sameParts 43 = .ok (.iconst 5, 1) := by decide +kernel
theorem dX8_sameParts_44 : decode cX8_sameParts 44 = .ok (.iload_n 1, 1) := by decide +kernel
theorem dX8_sameParts_45 : decode cX8_sameParts 45 = .ok (.imul, 1) := by decide +kernel
theorem dX8_sameParts_46 : decode cX8_sameParts 46 = .ok (.iload 4, 2) := by decide +kernel
theorem dX8_sameParts_48 : decode cX8_sameParts 48 = .ok (.iadd, 1) := by decide +kernel
theorem dX8_sameParts_49 : decode cX8_sameParts 49 = .ok (.iaload, 1) := by decide +kernel
theorem dX8_sameParts_50 : decode cX8_sameParts 50 = .ok (.aload_n 0, 1) := by decide +kernel
theorem dX8_sameParts_51 : decode cX8_sameParts 51 = .ok (.getfield 60, 3) := by decide +kernel
theorem dX8_sameParts_54 : decode cX8_sameParts 54 = .ok (.iconst 5, 1) := by decide +kernel
theorem dX8_sameParts_55 : decode cX8_sameParts 55 = .ok (.iload_n 2, 1) := by decide +kernel
theorem dX8_sameParts_56 : decode cX8_sameParts 56 = .ok (.imul, 1) := by decide +kernel
theorem dX8_sameParts_57 : decode cX8_sameParts 57 = .ok (.iload 4, 2) := by decide +kernel
theorem dX8_sameParts_59 : decode cX8_sameParts 59 = .ok (.iadd, 1) := by decide +kernel
theorem dX8_sameParts_60 : decode cX8_sameParts 60 = .ok (.iaload, 1) := by decide +kernel
theorem dX8_sameParts_61 : decode cX8_sameParts 61 = .ok (.if_icmp .ne 32, 3) := by decide +kernel
theorem dX8_sameParts_93 : decode cX8_sameParts 93 = .ok (.iconst 0, 1) := by decide +kernel
theorem dX8_sameParts_64 : decode cX8_sameParts 64 = .ok (.aload_n 0, 1) := by decide +kernel
theorem q_699 : Cond.fieldLink "FieldMemberModel" 63 "FieldMemberModel" "partDims" "[I" ∈ TT := tt_t (i := 699) (by decide +kernel) (by decide +kernel)
theorem dX8_sameParts_65 : decode cX8_sameParts 65 = .ok (.getfield 63, 3) := by decide +kernel
theorem dX8_sameParts_68 : decode cX8_sameParts 68 = .ok (.iconst 5, 1) := by decide +kernel
theorem dX8_sameParts_69 : decode cX8_sameParts 69 = .ok (.iload_n 1, 1) := by decide +kernel
theorem dX8_sameParts_70 : decode cX8_sameParts 70 = .ok (.imul, 1) := by decide +kernel
theorem dX8_sameParts_71 : decode cX8_sameParts 71 = .ok (.iload 4, 2) := by decide +kernel
theorem dX8_sameParts_73 : decode cX8_sameParts 73 = .ok (.iadd, 1) := by decide +kernel
theorem dX8_sameParts_74 : decode cX8_sameParts 74 = .ok (.iaload, 1) := by decide +kernel
theorem dX8_sameParts_75 : decode cX8_sameParts 75 = .ok (.aload_n 0, 1) := by decide +kernel
theorem dX8_sameParts_76 : decode cX8_sameParts 76 = .ok (.getfield 63, 3) := by decide +kernel
theorem dX8_sameParts_79 : decode cX8_sameParts 79 = .ok (.iconst 5, 1) := by decide +kernel
theorem dX8_sameParts_80 : decode cX8_sameParts 80 = .ok (.iload_n 2, 1) := by decide +kernel
theorem dX8_sameParts_81 : decode cX8_sameParts 81 = .ok (.imul, 1) := by decide +kernel
theorem dX8_sameParts_82 : decode cX8_sameParts 82 = .ok (.iload 4, 2) := by decide +kernel
theorem dX8_sameParts_84 : decode cX8_sameParts 84 = .ok (.iadd, 1) := by decide +kernel
theorem dX8_sameParts_85 : decode cX8_sameParts 85 = .ok (.iaload, 1) := by decide +kernel
theorem dX8_sameParts_86 : decode cX8_sameParts 86 = .ok (.if_icmp .ne 7, 3) := by decide +kernel
theorem dX8_sameParts_89 : decode cX8_sameParts 89 = .ok (.iconst 1, 1) := by decide +kernel
theorem dX8_sameParts_90 : decode cX8_sameParts 90 = .ok (.goto 4, 3) := by decide +kernel
theorem dX8_sameParts_0 : decode cX8_sameParts 0 = .ok (.aload_n 0, 1) := by decide +kernel
theorem dX8_sameParts_1 : decode cX8_sameParts 1 = .ok (.getfield 57, 3) := by decide +kernel
theorem dX8_sameParts_4 : decode cX8_sameParts 4 = .ok (.iload_n 1, 1) := by decide +kernel
theorem dX8_sameParts_5 : decode cX8_sameParts 5 = .ok (.iaload, 1) := by decide +kernel
theorem dX8_sameParts_6 : decode cX8_sameParts 6 = .ok (.aload_n 0, 1) := by decide +kernel
theorem dX8_sameParts_7 : decode cX8_sameParts 7 = .ok (.getfield 57, 3) := by decide +kernel
theorem dX8_sameParts_10 : decode cX8_sameParts 10 = .ok (.iload_n 2, 1) := by decide +kernel
theorem dX8_sameParts_11 : decode cX8_sameParts 11 = .ok (.iaload, 1) := by decide +kernel
theorem dX8_sameParts_12 : decode cX8_sameParts 12 = .ok (.if_icmp .ne 7, 3) := by decide +kernel
theorem dX8_sameParts_19 : decode cX8_sameParts 19 = .ok (.iconst 0, 1) := by decide +kernel
theorem dX8_sameParts_15 : decode cX8_sameParts 15 = .ok (.iconst 1, 1) := by decide +kernel
theorem dX8_sameParts_16 : decode cX8_sameParts 16 = .ok (.goto 4, 3) := by decide +kernel
theorem dX8_stands_0 : decode cX8_stands 0 = .ok (.aload_n 0, 1) := by decide +kernel
theorem q_692 : Cond.fieldLink "FieldMemberModel" 41 "FieldMemberModel" "marks" "[I" ∈ TT := tt_t (i := 692) (by decide +kernel) (by decide +kernel)
theorem dX8_stands_1 : decode cX8_stands 1 = .ok (.getfield 41, 3) := by decide +kernel
theorem dX8_stands_4 : decode cX8_stands 4 = .ok (.iload_n 1, 1) := by decide +kernel
theorem dX8_stands_5 : decode cX8_stands 5 = .ok (.iaload, 1) := by decide +kernel
theorem dX8_stands_6 : decode cX8_stands 6 = .ok (.bipush 8, 2) := by decide +kernel
theorem dX8_stands_8 : decode cX8_stands 8 = .ok (.iand, 1) := by decide +kernel
theorem dX8_stands_9 : decode cX8_stands 9 = .ok (.ifCond .le 20, 3) := by decide +kernel
theorem dX8_stands_29 : decode cX8_stands 29 = .ok (.iconst 0, 1) := by decide +kernel
theorem dX8_stands_30 : decode cX8_stands 30 = .ok (.ireturn, 1) := by decide +kernel
theorem dX8_stands_12 : decode cX8_stands 12 = .ok (.aload_n 0, 1) := by decide +kernel
theorem dX8_stands_13 : decode cX8_stands 13 = .ok (.aload_n 0, 1) := by decide +kernel
theorem dX8_stands_14 : decode cX8_stands 14 = .ok (.getfield 29, 3) := by decide +kernel
theorem dX8_stands_17 : decode cX8_stands 17 = .ok (.iload_n 1, 1) := by decide +kernel
theorem dX8_stands_18 : decode cX8_stands 18 = .ok (.iaload, 1) := by decide +kernel
theorem dX8_stands_19 : decode cX8_stands 19 = .ok (.invokevirtual 116, 3) := by decide +kernel
theorem dX8_stands_22 : decode cX8_stands 22 = .ok (.ifCond .eq 7, 3) := by decide +kernel
theorem dX8_stands_25 : decode cX8_stands 25 = .ok (.iconst 1, 1) := by decide +kernel
theorem dX8_stands_26 : decode cX8_stands 26 = .ok (.goto 4, 3) := by decide +kernel
theorem dX8_meets_0 : decode cX8_meets 0 = .ok (.aload_n 0, 1) := by decide +kernel
theorem dX8_meets_1 : decode cX8_meets 1 = .ok (.getfield 26, 3) := by decide +kernel
theorem dX8_meets_4 : decode cX8_meets 4 = .ok (.iload_n 2, 1) := by decide +kernel
theorem dX8_meets_5 : decode cX8_meets 5 = .ok (.baload, 1) := by decide +kernel
theorem dX8_meets_6 : decode cX8_meets 6 = .ok (.ifCond .eq 46, 3) := by decide +kernel
theorem dX8_meets_52 : decode cX8_meets 52 = .ok (.iconst 0, 1) := by decide +kernel
theorem dX8_meets_53 : decode cX8_meets 53 = .ok (.ireturn, 1) := by decide +kernel
theorem dX8_meets_9 : decode cX8_meets 9 = .ok (.iload_n 1, 1) := by decide +kernel
theorem dX8_meets_10 : decode cX8_meets 10 = .ok (.iload_n 2, 1) := by decide +kernel
theorem dX8_meets_11 : decode cX8_meets 11 = .ok (.if_icmp .eq 41, 3) := by decide +kernel
theorem dX8_meets_14 : decode cX8_meets 14 = .ok (.aload_n 0, 1) := by decide +kernel
theorem dX8_meets_15 : decode cX8_meets 15 = .ok (.getfield 41, 3) := by decide +kernel
theorem dX8_meets_18 : decode cX8_meets 18 = .ok (.iload_n 1, 1) := by decide +kernel
theorem dX8_meets_19 : decode cX8_meets 19 = .ok (.iaload, 1) := by decide +kernel
theorem dX8_meets_20 : decode cX8_meets 20 = .ok (.iconst 4, 1) := by decide +kernel
theorem dX8_meets_21 : decode cX8_meets 21 = .ok (.iand, 1) := by decide +kernel
theorem dX8_meets_22 : decode cX8_meets 22 = .ok (.ifCond .gt 30, 3) := by decide +kernel
theorem dX8_meets_25 : decode cX8_meets 25 = .ok (.aload_n 0, 1) := by decide +kernel
theorem dX8_meets_26 : decode cX8_meets 26 = .ok (.getfield 41, 3) := by decide +kernel
theorem dX8_meets_29 : decode cX8_meets 29 = .ok (.iload_n 2, 1) := by decide +kernel
theorem dX8_meets_30 : decode cX8_meets 30 = .ok (.iaload, 1) := by decide +kernel
theorem dX8_meets_31 : decode cX8_meets 31 = .ok (.iconst 4, 1) := by decide +kernel
theorem dX8_meets_32 : decode cX8_meets 32 = .ok (.iand, 1) := by decide +kernel
theorem dX8_meets_33 : decode cX8_meets 33 = .ok (.ifCond .gt 19, 3) := by decide +kernel
theorem dX8_meets_36 : decode cX8_meets 36 = .ok (.aload_n 0, 1) := by decide +kernel
theorem dX8_meets_37 : decode cX8_meets 37 = .ok (.iload_n 1, 1) := by decide +kernel
theorem q_906 : Cond.methodLink "FieldMemberModel" 175 ⟨"FieldMemberModel", "stands", "(I)Z"⟩ ∈ TT := tt_t (i := 906) (by decide +kernel) (by decide +kernel)
theorem q_909 : Cond.code ⟨"FieldMemberModel", "stands", "(I)Z"⟩ prog_10_method_27_code 2 (some .boolean) ∈ TT := tt_t (i := 909) (by decide +kernel) (by decide +kernel)
theorem q_908 : Cond.instanceMethod ⟨"FieldMemberModel", "stands", "(I)Z"⟩ ∈ TT := tt_t (i := 908) (by decide +kernel) (by decide +kernel)
theorem qs_46 : Cond.selects "FieldMemberModel" ⟨"FieldMemberModel", "stands", "(I)Z"⟩ ⟨"FieldMemberModel", "stands", "(I)Z"⟩ ∈ TT := tt_s (i := 46) (by decide +kernel) (by decide +kernel)
theorem gV_X8_X8_stands : GoodIn TT (wsV RX8 175 RX8 yX8_stands (ww yX8_stands cX8_stands 2 (some .boolean))) := tt_V q_906 q_908 qs_46 q_4 q_909
theorem hdV_X8_stands : yX8_stands.cls = RX8 ∧ yX8_stands.cls ≠ "java/lang/invoke/MethodHandle" ∧ yX8_stands.cls ≠ "java/lang/invoke/VarHandle" ∧ (parseMethodDescriptor yX8_stands.desc).map (fun d => d.parameters.length) = some 1 := by decide +kernel
theorem dX8_meets_38 : decode cX8_meets 38 = .ok (.invokevirtual 175, 3) := by decide +kernel
theorem dX8_meets_41 : decode cX8_meets 41 = .ok (.ifCond .ne 11, 3) := by decide +kernel
theorem dX8_meets_44 : decode cX8_meets 44 = .ok (.aload_n 0, 1) := by decide +kernel
theorem dX8_meets_45 : decode cX8_meets 45 = .ok (.iload_n 2, 1) := by decide +kernel
theorem dX8_meets_46 : decode cX8_meets 46 = .ok (.invokevirtual 175, 3) := by decide +kernel
theorem dX8_meets_49 : decode cX8_meets 49 = .ok (.ifCond .eq 5, 3) := by decide +kernel
theorem dX8_meets_54 : decode cX8_meets 54 = .ok (.aload_n 0, 1) := by decide +kernel
theorem dX8_meets_55 : decode cX8_meets 55 = .ok (.getfield 32, 3) := by decide +kernel
theorem dX8_meets_58 : decode cX8_meets 58 = .ok (.iload_n 1, 1) := by decide +kernel
theorem dX8_meets_59 : decode cX8_meets 59 = .ok (.iaload, 1) := by decide +kernel
theorem dX8_meets_60 : decode cX8_meets 60 = .ok (.aload_n 0, 1) := by decide +kernel
theorem dX8_meets_61 : decode cX8_meets 61 = .ok (.getfield 32, 3) := by decide +kernel
theorem dX8_meets_64 : decode cX8_meets 64 = .ok (.iload_n 2, 1) := by decide +kernel
theorem dX8_meets_65 : decode cX8_meets 65 = .ok (.iaload, 1) := by decide +kernel
theorem dX8_meets_66 : decode cX8_meets 66 = .ok (.if_icmp .ne 50, 3) := by decide +kernel
theorem dX8_meets_116 : decode cX8_meets 116 = .ok (.iconst 0, 1) := by decide +kernel
theorem dX8_meets_117 : decode cX8_meets 117 = .ok (.ireturn, 1) := by decide +kernel
theorem dX8_meets_69 : decode cX8_meets 69 = .ok (.aload_n 0, 1) := by decide +kernel
theorem dX8_meets_70 : decode cX8_meets 70 = .ok (.getfield 29, 3) := by decide +kernel
theorem dX8_meets_73 : decode cX8_meets 73 = .ok (.iload_n 1, 1) := by decide +kernel
theorem dX8_meets_74 : decode cX8_meets 74 = .ok (.iaload, 1) := by decide +kernel
theorem dX8_meets_75 : decode cX8_meets 75 = .ok (.aload_n 0, 1) := by decide +kernel
theorem dX8_meets_76 : decode cX8_meets 76 = .ok (.getfield 29, 3) := by decide +kernel
theorem dX8_meets_79 : decode cX8_meets 79 = .ok (.iload_n 2, 1) := by decide +kernel
theorem dX8_meets_80 : decode cX8_meets 80 = .ok (.iaload, 1) := by decide +kernel
theorem dX8_meets_81 : decode cX8_meets 81 = .ok (.if_icmp .eq 35, 3) := by decide +kernel
theorem dX8_meets_84 : decode cX8_meets 84 = .ok (.aload_n 0, 1) := by decide +kernel
theorem dX8_meets_85 : decode cX8_meets 85 = .ok (.aload_n 0, 1) := by decide +kernel
theorem dX8_meets_86 : decode cX8_meets 86 = .ok (.getfield 29, 3) := by decide +kernel
theorem dX8_meets_89 : decode cX8_meets 89 = .ok (.iload_n 1, 1) := by decide +kernel
theorem dX8_meets_90 : decode cX8_meets 90 = .ok (.iaload, 1) := by decide +kernel
theorem dX8_meets_91 : decode cX8_meets 91 = .ok (.aload_n 0, 1) := by decide +kernel
theorem dX8_meets_92 : decode cX8_meets 92 = .ok (.getfield 29, 3) := by decide +kernel
theorem dX8_meets_95 : decode cX8_meets 95 = .ok (.iload_n 2, 1) := by decide +kernel
theorem dX8_meets_96 : decode cX8_meets 96 = .ok (.iaload, 1) := by decide +kernel
theorem q_815 : Cond.methodLink "FieldMemberModel" 126 ⟨"FieldMemberModel", "lies", "(II)Z"⟩ ∈ TT := tt_t (i := 815) (by decide +kernel) (by decide +kernel)
theorem q_818 : Cond.code ⟨"FieldMemberModel", "lies", "(II)Z"⟩ prog_10_method_12_code 3 (some .boolean) ∈ TT := tt_t (i := 818) (by decide +kernel) (by decide +kernel)
theorem q_817 : Cond.instanceMethod ⟨"FieldMemberModel", "lies", "(II)Z"⟩ ∈ TT := tt_t (i := 817) (by decide +kernel) (by decide +kernel)
theorem qs_35 : Cond.selects "FieldMemberModel" ⟨"FieldMemberModel", "lies", "(II)Z"⟩ ⟨"FieldMemberModel", "lies", "(II)Z"⟩ ∈ TT := tt_s (i := 35) (by decide +kernel) (by decide +kernel)
theorem gV_X8_X8_lies : GoodIn TT (wsV RX8 126 RX8 yX8_lies (ww yX8_lies cX8_lies 3 (some .boolean))) := tt_V q_815 q_817 qs_35 q_4 q_818
theorem hdV_X8_lies : yX8_lies.cls = RX8 ∧ yX8_lies.cls ≠ "java/lang/invoke/MethodHandle" ∧ yX8_lies.cls ≠ "java/lang/invoke/VarHandle" ∧ (parseMethodDescriptor yX8_lies.desc).map (fun d => d.parameters.length) = some 2 := by decide +kernel
theorem dX8_meets_97 : decode cX8_meets 97 = .ok (.invokevirtual 126, 3) := by decide +kernel
theorem dX8_meets_100 : decode cX8_meets 100 = .ok (.ifCond .eq 16, 3) := by decide +kernel
theorem dX8_meets_103 : decode cX8_meets 103 = .ok (.aload_n 0, 1) := by decide +kernel
theorem dX8_meets_104 : decode cX8_meets 104 = .ok (.iload_n 1, 1) := by decide +kernel
theorem dX8_meets_105 : decode cX8_meets 105 = .ok (.iload_n 2, 1) := by decide +kernel
theorem q_898 : Cond.methodLink "FieldMemberModel" 178 ⟨"FieldMemberModel", "sameParts", "(II)Z"⟩ ∈ TT := tt_t (i := 898) (by decide +kernel) (by decide +kernel)
theorem q_901 : Cond.code ⟨"FieldMemberModel", "sameParts", "(II)Z"⟩ prog_10_method_26_code 5 (some .boolean) ∈ TT := tt_t (i := 901) (by decide +kernel) (by decide +kernel)
theorem q_900 : Cond.instanceMethod ⟨"FieldMemberModel", "sameParts", "(II)Z"⟩ ∈ TT := tt_t (i := 900) (by decide +kernel) (by decide +kernel)
theorem qs_44 : Cond.selects "FieldMemberModel" ⟨"FieldMemberModel", "sameParts", "(II)Z"⟩ ⟨"FieldMemberModel", "sameParts", "(II)Z"⟩ ∈ TT := tt_s (i := 44) (by decide +kernel) (by decide +kernel)
theorem gV_X8_X8_sameParts : GoodIn TT (wsV RX8 178 RX8 yX8_sameParts (ww yX8_sameParts cX8_sameParts 5 (some .boolean))) := tt_V q_898 q_900 qs_44 q_4 q_901
theorem hdV_X8_sameParts : yX8_sameParts.cls = RX8 ∧ yX8_sameParts.cls ≠ "java/lang/invoke/MethodHandle" ∧ yX8_sameParts.cls ≠ "java/lang/invoke/VarHandle" ∧ (parseMethodDescriptor yX8_sameParts.desc).map (fun d => d.parameters.length) = some 2 := by decide +kernel
theorem dX8_meets_106 : decode cX8_meets 106 = .ok (.invokevirtual 178, 3) := by decide +kernel
theorem dX8_meets_109 : decode cX8_meets 109 = .ok (.ifCond .eq 7, 3) := by decide +kernel
theorem dX8_meets_112 : decode cX8_meets 112 = .ok (.iconst 1, 1) := by decide +kernel
theorem dX8_meets_113 : decode cX8_meets 113 = .ok (.goto 4, 3) := by decide +kernel
theorem dX8_seen_0 : decode cX8_seen 0 = .ok (.aload_n 0, 1) := by decide +kernel
theorem dX8_seen_1 : decode cX8_seen 1 = .ok (.getfield 41, 3) := by decide +kernel
theorem dX8_seen_4 : decode cX8_seen 4 = .ok (.iload_n 1, 1) := by decide +kernel
theorem dX8_seen_5 : decode cX8_seen 5 = .ok (.iaload, 1) := by decide +kernel
theorem dX8_seen_6 : decode cX8_seen 6 = .ok (.iconst 1, 1) := by decide +kernel
theorem dX8_seen_7 : decode cX8_seen 7 = .ok (.iand, 1) := by decide +kernel
theorem dX8_seen_8 : decode cX8_seen 8 = .ok (.ifCond .le 7, 3) := by decide +kernel
theorem dX8_seen_15 : decode cX8_seen 15 = .ok (.aload_n 0, 1) := by decide +kernel
theorem dX8_seen_16 : decode cX8_seen 16 = .ok (.getfield 41, 3) := by decide +kernel
theorem dX8_seen_19 : decode cX8_seen 19 = .ok (.iload_n 1, 1) := by decide +kernel
theorem dX8_seen_20 : decode cX8_seen 20 = .ok (.iaload, 1) := by decide +kernel
theorem dX8_seen_21 : decode cX8_seen 21 = .ok (.iconst 2, 1) := by decide +kernel
theorem dX8_seen_22 : decode cX8_seen 22 = .ok (.iand, 1) := by decide +kernel
theorem dX8_seen_23 : decode cX8_seen 23 = .ok (.ifCond .le 7, 3) := by decide +kernel
theorem dX8_seen_30 : decode cX8_seen 30 = .ok (.aload_n 0, 1) := by decide +kernel
theorem dX8_seen_31 : decode cX8_seen 31 = .ok (.getfield 41, 3) := by decide +kernel
theorem dX8_seen_34 : decode cX8_seen 34 = .ok (.iload_n 1, 1) := by decide +kernel
theorem dX8_seen_35 : decode cX8_seen 35 = .ok (.iaload, 1) := by decide +kernel
theorem dX8_seen_36 : decode cX8_seen 36 = .ok (.iconst 4, 1) := by decide +kernel
theorem dX8_seen_37 : decode cX8_seen 37 = .ok (.iand, 1) := by decide +kernel
theorem dX8_seen_38 : decode cX8_seen 38 = .ok (.ifCond .le 7, 3) := by decide +kernel
theorem dX8_seen_45 : decode cX8_seen 45 = .ok (.iconst 1, 1) := by decide +kernel
theorem dX8_seen_46 : decode cX8_seen 46 = .ok (.ireturn, 1) := by decide +kernel
theorem dX8_seen_41 : decode cX8_seen 41 = .ok (.iconst 0, 1) := by decide +kernel
theorem dX8_seen_42 : decode cX8_seen 42 = .ok (.goto 4, 3) := by decide +kernel
theorem dX8_seen_26 : decode cX8_seen 26 = .ok (.iconst 2, 1) := by decide +kernel
theorem dX8_seen_27 : decode cX8_seen 27 = .ok (.goto 19, 3) := by decide +kernel
theorem dX8_seen_11 : decode cX8_seen 11 = .ok (.iconst 3, 1) := by decide +kernel
theorem dX8_seen_12 : decode cX8_seen 12 = .ok (.goto 34, 3) := by decide +kernel
theorem dX8_ruleAgainst_0 : decode cX8_ruleAgainst 0 = .ok (.aload_n 0, 1) := by decide +kernel
theorem dX8_ruleAgainst_1 : decode cX8_ruleAgainst 1 = .ok (.getfield 41, 3) := by decide +kernel
theorem dX8_ruleAgainst_4 : decode cX8_ruleAgainst 4 = .ok (.iload_n 2, 1) := by decide +kernel
theorem dX8_ruleAgainst_5 : decode cX8_ruleAgainst 5 = .ok (.iaload, 1) := by decide +kernel
theorem dX8_ruleAgainst_6 : decode cX8_ruleAgainst 6 = .ok (.bipush 16, 2) := by decide +kernel
theorem dX8_ruleAgainst_8 : decode cX8_ruleAgainst 8 = .ok (.iand, 1) := by decide +kernel
theorem dX8_ruleAgainst_9 : decode cX8_ruleAgainst 9 = .ok (.ifCond .le 6, 3) := by decide +kernel
theorem dX8_ruleAgainst_15 : decode cX8_ruleAgainst 15 = .ok (.aload_n 0, 1) := by decide +kernel
theorem dX8_ruleAgainst_16 : decode cX8_ruleAgainst 16 = .ok (.getfield 41, 3) := by decide +kernel
theorem dX8_ruleAgainst_19 : decode cX8_ruleAgainst 19 = .ok (.iload_n 1, 1) := by decide +kernel
theorem dX8_ruleAgainst_20 : decode cX8_ruleAgainst 20 = .ok (.iaload, 1) := by decide +kernel
theorem dX8_ruleAgainst_21 : decode cX8_ruleAgainst 21 = .ok (.bipush 8, 2) := by decide +kernel
theorem dX8_ruleAgainst_23 : decode cX8_ruleAgainst 23 = .ok (.iand, 1) := by decide +kernel
theorem dX8_ruleAgainst_24 : decode cX8_ruleAgainst 24 = .ok (.aload_n 0, 1) := by decide +kernel
theorem dX8_ruleAgainst_25 : decode cX8_ruleAgainst 25 = .ok (.getfield 41, 3) := by decide +kernel
theorem dX8_ruleAgainst_28 : decode cX8_ruleAgainst 28 = .ok (.iload_n 2, 1) := by decide +kernel
theorem dX8_ruleAgainst_29 : decode cX8_ruleAgainst 29 = .ok (.iaload, 1) := by decide +kernel
theorem dX8_ruleAgainst_30 : decode cX8_ruleAgainst 30 = .ok (.bipush 8, 2) := by decide +kernel
theorem dX8_ruleAgainst_32 : decode cX8_ruleAgainst 32 = .ok (.iand, 1) := by decide +kernel
theorem dX8_ruleAgainst_33 : decode cX8_ruleAgainst 33 = .ok (.if_icmp .eq 6, 3) := by decide +kernel
theorem dX8_ruleAgainst_74 : decode cX8_ruleAgainst 74 = .ok (.istore_n 3, 1) := by decide +kernel
theorem dX8_ruleAgainst_145 : decode cX8_ruleAgainst 145 = .ok (.istore 4, 2) := by decide +kernel
theorem dX8_ruleAgainst_147 : decode cX8_ruleAgainst 147 = .ok (.iload_n 3, 1) := by decide +kernel
theorem dX8_ruleAgainst_148 : decode cX8_ruleAgainst 148 = .ok (.ifCond .ne 11, 3) := by decide +kernel
theorem dX8_ruleAgainst_159 : decode cX8_ruleAgainst 159 = .ok (.aload_n 0, 1) := by decide +kernel
theorem dX8_ruleAgainst_160 : decode cX8_ruleAgainst 160 = .ok (.iload_n 1, 1) := by decide +kernel
theorem q_914 : Cond.methodLink "FieldMemberModel" 181 ⟨"FieldMemberModel", "seen", "(I)I"⟩ ∈ TT := tt_t (i := 914) (by decide +kernel) (by decide +kernel)
theorem q_917 : Cond.code ⟨"FieldMemberModel", "seen", "(I)I"⟩ prog_10_method_29_code 2 (some .int) ∈ TT := tt_t (i := 917) (by decide +kernel) (by decide +kernel)
theorem q_916 : Cond.instanceMethod ⟨"FieldMemberModel", "seen", "(I)I"⟩ ∈ TT := tt_t (i := 916) (by decide +kernel) (by decide +kernel)
theorem qs_48 : Cond.selects "FieldMemberModel" ⟨"FieldMemberModel", "seen", "(I)I"⟩ ⟨"FieldMemberModel", "seen", "(I)I"⟩ ∈ TT := tt_s (i := 48) (by decide +kernel) (by decide +kernel)
theorem gV_X8_X8_seen : GoodIn TT (wsV RX8 181 RX8 yX8_seen (ww yX8_seen cX8_seen 2 (some .int))) := tt_V q_914 q_916 qs_48 q_4 q_917
theorem hdV_X8_seen : yX8_seen.cls = RX8 ∧ yX8_seen.cls ≠ "java/lang/invoke/MethodHandle" ∧ yX8_seen.cls ≠ "java/lang/invoke/VarHandle" ∧ (parseMethodDescriptor yX8_seen.desc).map (fun d => d.parameters.length) = some 1 := by decide +kernel
theorem dX8_ruleAgainst_161 : decode cX8_ruleAgainst 161 = .ok (.invokevirtual 181, 3) := by decide +kernel
theorem dX8_ruleAgainst_164 : decode cX8_ruleAgainst 164 = .ok (.aload_n 0, 1) := by decide +kernel
theorem dX8_ruleAgainst_165 : decode cX8_ruleAgainst 165 = .ok (.iload_n 2, 1) := by decide +kernel
theorem dX8_ruleAgainst_166 : decode cX8_ruleAgainst 166 = .ok (.invokevirtual 181, 3) := by decide +kernel
theorem dX8_ruleAgainst_169 : decode cX8_ruleAgainst 169 = .ok (.if_icmp .ge 8, 3) := by decide +kernel
theorem dX8_ruleAgainst_177 : decode cX8_ruleAgainst 177 = .ok (.iconst 0, 1) := by decide +kernel
theorem dX8_ruleAgainst_178 : decode cX8_ruleAgainst 178 = .ok (.ireturn, 1) := by decide +kernel
theorem dX8_ruleAgainst_172 : decode cX8_ruleAgainst 172 = .ok (.bipush 25, 2) := by decide +kernel
theorem dX8_ruleAgainst_174 : decode cX8_ruleAgainst 174 = .ok (.goto 4, 3) := by decide +kernel
theorem dX8_ruleAgainst_151 : decode cX8_ruleAgainst 151 = .ok (.iload 4, 2) := by decide +kernel
theorem dX8_ruleAgainst_153 : decode cX8_ruleAgainst 153 = .ok (.ifCond .ne 6, 3) := by decide +kernel
theorem dX8_ruleAgainst_156 : decode cX8_ruleAgainst 156 = .ok (.bipush 24, 2) := by decide +kernel
theorem dX8_ruleAgainst_158 : decode cX8_ruleAgainst 158 = .ok (.ireturn, 1) := by decide +kernel
theorem dX8_ruleAgainst_75 : decode cX8_ruleAgainst 75 = .ok (.aload_n 0, 1) := by decide +kernel
theorem q_691 : Cond.fieldLink "FieldMemberModel" 38 "FieldMemberModel" "dims" "[I" ∈ TT := tt_t (i := 691) (by decide +kernel) (by decide +kernel)
theorem dX8_ruleAgainst_76 : decode cX8_ruleAgainst 76 = .ok (.getfield 38, 3) := by decide +kernel
theorem dX8_ruleAgainst_79 : decode cX8_ruleAgainst 79 = .ok (.iload_n 1, 1) := by decide +kernel
theorem dX8_ruleAgainst_80 : decode cX8_ruleAgainst 80 = .ok (.iaload, 1) := by decide +kernel
theorem dX8_ruleAgainst_81 : decode cX8_ruleAgainst 81 = .ok (.ifCond .ne 63, 3) := by decide +kernel
theorem dX8_ruleAgainst_144 : decode cX8_ruleAgainst 144 = .ok (.iconst 0, 1) := by decide +kernel
theorem dX8_ruleAgainst_84 : decode cX8_ruleAgainst 84 = .ok (.aload_n 0, 1) := by decide +kernel
theorem dX8_ruleAgainst_85 : decode cX8_ruleAgainst 85 = .ok (.getfield 38, 3) := by decide +kernel
theorem dX8_ruleAgainst_88 : decode cX8_ruleAgainst 88 = .ok (.iload_n 2, 1) := by decide +kernel
theorem dX8_ruleAgainst_89 : decode cX8_ruleAgainst 89 = .ok (.iaload, 1) := by decide +kernel
theorem dX8_ruleAgainst_90 : decode cX8_ruleAgainst 90 = .ok (.ifCond .ne 54, 3) := by decide +kernel
theorem dX8_ruleAgainst_93 : decode cX8_ruleAgainst 93 = .ok (.aload_n 0, 1) := by decide +kernel
theorem q_690 : Cond.fieldLink "FieldMemberModel" 35 "FieldMemberModel" "kinds" "[I" ∈ TT := tt_t (i := 690) (by decide +kernel) (by decide +kernel)
theorem dX8_ruleAgainst_94 : decode cX8_ruleAgainst 94 = .ok (.getfield 35, 3) := by decide +kernel
theorem dX8_ruleAgainst_97 : decode cX8_ruleAgainst 97 = .ok (.iload_n 1, 1) := by decide +kernel
theorem dX8_ruleAgainst_98 : decode cX8_ruleAgainst 98 = .ok (.iaload, 1) := by decide +kernel
theorem dX8_ruleAgainst_99 : decode cX8_ruleAgainst 99 = .ok (.bipush 9, 2) := by decide +kernel
theorem dX8_ruleAgainst_101 : decode cX8_ruleAgainst 101 = .ok (.if_icmp .le 43, 3) := by decide +kernel
theorem dX8_ruleAgainst_104 : decode cX8_ruleAgainst 104 = .ok (.aload_n 0, 1) := by decide +kernel
theorem dX8_ruleAgainst_105 : decode cX8_ruleAgainst 105 = .ok (.getfield 35, 3) := by decide +kernel
theorem dX8_ruleAgainst_108 : decode cX8_ruleAgainst 108 = .ok (.iload_n 2, 1) := by decide +kernel
theorem dX8_ruleAgainst_109 : decode cX8_ruleAgainst 109 = .ok (.iaload, 1) := by decide +kernel
theorem dX8_ruleAgainst_110 : decode cX8_ruleAgainst 110 = .ok (.bipush 9, 2) := by decide +kernel
theorem dX8_ruleAgainst_112 : decode cX8_ruleAgainst 112 = .ok (.if_icmp .le 32, 3) := by decide +kernel
theorem dX8_ruleAgainst_115 : decode cX8_ruleAgainst 115 = .ok (.aload_n 0, 1) := by decide +kernel
theorem dX8_ruleAgainst_116 : decode cX8_ruleAgainst 116 = .ok (.aload_n 0, 1) := by decide +kernel
theorem dX8_ruleAgainst_117 : decode cX8_ruleAgainst 117 = .ok (.getfield 35, 3) := by decide +kernel
theorem dX8_ruleAgainst_120 : decode cX8_ruleAgainst 120 = .ok (.iload_n 1, 1) := by decide +kernel
theorem dX8_ruleAgainst_121 : decode cX8_ruleAgainst 121 = .ok (.iaload, 1) := by decide +kernel
theorem dX8_ruleAgainst_122 : decode cX8_ruleAgainst 122 = .ok (.bipush 10, 2) := by decide +kernel
theorem dX8_ruleAgainst_124 : decode cX8_ruleAgainst 124 = .ok (.isub, 1) := by decide +kernel
theorem dX8_ruleAgainst_125 : decode cX8_ruleAgainst 125 = .ok (.aload_n 0, 1) := by decide +kernel
theorem dX8_ruleAgainst_126 : decode cX8_ruleAgainst 126 = .ok (.getfield 35, 3) := by decide +kernel
theorem dX8_ruleAgainst_129 : decode cX8_ruleAgainst 129 = .ok (.iload_n 2, 1) := by decide +kernel
theorem dX8_ruleAgainst_130 : decode cX8_ruleAgainst 130 = .ok (.iaload, 1) := by decide +kernel
theorem dX8_ruleAgainst_131 : decode cX8_ruleAgainst 131 = .ok (.bipush 10, 2) := by decide +kernel
theorem dX8_ruleAgainst_133 : decode cX8_ruleAgainst 133 = .ok (.isub, 1) := by decide +kernel
theorem dX8_ruleAgainst_134 : decode cX8_ruleAgainst 134 = .ok (.invokevirtual 126, 3) := by decide +kernel
theorem dX8_ruleAgainst_137 : decode cX8_ruleAgainst 137 = .ok (.ifCond .eq 7, 3) := by decide +kernel
theorem dX8_ruleAgainst_140 : decode cX8_ruleAgainst 140 = .ok (.iconst 1, 1) := by decide +kernel
theorem dX8_ruleAgainst_141 : decode cX8_ruleAgainst 141 = .ok (.goto 4, 3) := by decide +kernel
theorem dX8_ruleAgainst_39 : decode cX8_ruleAgainst 39 = .ok (.aload_n 0, 1) := by decide +kernel
theorem dX8_ruleAgainst_40 : decode cX8_ruleAgainst 40 = .ok (.getfield 35, 3) := by decide +kernel
theorem dX8_ruleAgainst_43 : decode cX8_ruleAgainst 43 = .ok (.iload_n 1, 1) := by decide +kernel
theorem dX8_ruleAgainst_44 : decode cX8_ruleAgainst 44 = .ok (.iaload, 1) := by decide +kernel
theorem dX8_ruleAgainst_45 : decode cX8_ruleAgainst 45 = .ok (.aload_n 0, 1) := by decide +kernel
theorem dX8_ruleAgainst_46 : decode cX8_ruleAgainst 46 = .ok (.getfield 35, 3) := by decide +kernel
theorem dX8_ruleAgainst_49 : decode cX8_ruleAgainst 49 = .ok (.iload_n 2, 1) := by decide +kernel
theorem dX8_ruleAgainst_50 : decode cX8_ruleAgainst 50 = .ok (.iaload, 1) := by decide +kernel
theorem dX8_ruleAgainst_51 : decode cX8_ruleAgainst 51 = .ok (.if_icmp .ne 22, 3) := by decide +kernel
theorem dX8_ruleAgainst_73 : decode cX8_ruleAgainst 73 = .ok (.iconst 0, 1) := by decide +kernel
theorem dX8_ruleAgainst_54 : decode cX8_ruleAgainst 54 = .ok (.aload_n 0, 1) := by decide +kernel
theorem dX8_ruleAgainst_55 : decode cX8_ruleAgainst 55 = .ok (.getfield 38, 3) := by decide +kernel
theorem dX8_ruleAgainst_58 : decode cX8_ruleAgainst 58 = .ok (.iload_n 1, 1) := by decide +kernel
theorem dX8_ruleAgainst_59 : decode cX8_ruleAgainst 59 = .ok (.iaload, 1) := by decide +kernel
theorem dX8_ruleAgainst_60 : decode cX8_ruleAgainst 60 = .ok (.aload_n 0, 1) := by decide +kernel
theorem dX8_ruleAgainst_61 : decode cX8_ruleAgainst 61 = .ok (.getfield 38, 3) := by decide +kernel
theorem dX8_ruleAgainst_64 : decode cX8_ruleAgainst 64 = .ok (.iload_n 2, 1) := by decide +kernel
theorem dX8_ruleAgainst_65 : decode cX8_ruleAgainst 65 = .ok (.iaload, 1) := by decide +kernel
theorem dX8_ruleAgainst_66 : decode cX8_ruleAgainst 66 = .ok (.if_icmp .ne 7, 3) := by decide +kernel
theorem dX8_ruleAgainst_69 : decode cX8_ruleAgainst 69 = .ok (.iconst 1, 1) := by decide +kernel
theorem dX8_ruleAgainst_70 : decode cX8_ruleAgainst 70 = .ok (.goto 4, 3) := by decide +kernel
theorem dX8_ruleAgainst_36 : decode cX8_ruleAgainst 36 = .ok (.bipush 23, 2) := by decide +kernel
theorem dX8_ruleAgainst_38 : decode cX8_ruleAgainst 38 = .ok (.ireturn, 1) := by decide +kernel
theorem dX8_ruleAgainst_12 : decode cX8_ruleAgainst 12 = .ok (.bipush 22, 2) := by decide +kernel
theorem dX8_ruleAgainst_14 : decode cX8_ruleAgainst 14 = .ok (.ireturn, 1) := by decide +kernel
theorem dX8_leastMet_0 : decode cX8_leastMet 0 = .ok (.iconst 0, 1) := by decide +kernel
theorem dX8_leastMet_1 : decode cX8_leastMet 1 = .ok (.istore_n 2, 1) := by decide +kernel
theorem dX8_leastMet_2 : decode cX8_leastMet 2 = .ok (.iload_n 2, 1) := by decide +kernel
theorem dX8_leastMet_3 : decode cX8_leastMet 3 = .ok (.aload_n 0, 1) := by decide +kernel
theorem dX8_leastMet_4 : decode cX8_leastMet 4 = .ok (.getfield 119, 3) := by decide +kernel
theorem dX8_leastMet_7 : decode cX8_leastMet 7 = .ok (.if_icmp .ge 20, 3) := by decide +kernel
theorem dX8_leastMet_27 : decode cX8_leastMet 27 = .ok (.iconst (-1), 1) := by decide +kernel
theorem dX8_leastMet_28 : decode cX8_leastMet 28 = .ok (.ireturn, 1) := by decide +kernel
theorem dX8_leastMet_10 : decode cX8_leastMet 10 = .ok (.aload_n 0, 1) := by decide +kernel
theorem dX8_leastMet_11 : decode cX8_leastMet 11 = .ok (.iload_n 1, 1) := by decide +kernel
theorem dX8_leastMet_12 : decode cX8_leastMet 12 = .ok (.iload_n 2, 1) := by decide +kernel
theorem q_902 : Cond.methodLink "FieldMemberModel" 184 ⟨"FieldMemberModel", "meets", "(II)Z"⟩ ∈ TT := tt_t (i := 902) (by decide +kernel) (by decide +kernel)
theorem q_905 : Cond.code ⟨"FieldMemberModel", "meets", "(II)Z"⟩ prog_10_method_28_code 3 (some .boolean) ∈ TT := tt_t (i := 905) (by decide +kernel) (by decide +kernel)
theorem q_904 : Cond.instanceMethod ⟨"FieldMemberModel", "meets", "(II)Z"⟩ ∈ TT := tt_t (i := 904) (by decide +kernel) (by decide +kernel)
theorem qs_45 : Cond.selects "FieldMemberModel" ⟨"FieldMemberModel", "meets", "(II)Z"⟩ ⟨"FieldMemberModel", "meets", "(II)Z"⟩ ∈ TT := tt_s (i := 45) (by decide +kernel) (by decide +kernel)
theorem gV_X8_X8_meets : GoodIn TT (wsV RX8 184 RX8 yX8_meets (ww yX8_meets cX8_meets 3 (some .boolean))) := tt_V q_902 q_904 qs_45 q_4 q_905
theorem hdV_X8_meets : yX8_meets.cls = RX8 ∧ yX8_meets.cls ≠ "java/lang/invoke/MethodHandle" ∧ yX8_meets.cls ≠ "java/lang/invoke/VarHandle" ∧ (parseMethodDescriptor yX8_meets.desc).map (fun d => d.parameters.length) = some 2 := by decide +kernel
theorem dX8_leastMet_13 : decode cX8_leastMet 13 = .ok (.invokevirtual 184, 3) := by decide +kernel
theorem dX8_leastMet_16 : decode cX8_leastMet 16 = .ok (.ifCond .eq 5, 3) := by decide +kernel
theorem dX8_leastMet_21 : decode cX8_leastMet 21 = .ok (.iinc 2 1, 3) := by decide +kernel
theorem dX8_leastMet_24 : decode cX8_leastMet 24 = .ok (.goto (-22), 3) := by decide +kernel
theorem dX8_leastMet_19 : decode cX8_leastMet 19 = .ok (.iload_n 2, 1) := by decide +kernel
theorem dX8_leastMet_20 : decode cX8_leastMet 20 = .ok (.ireturn, 1) := by decide +kernel
theorem dX8_both_0 : decode cX8_both 0 = .ok (.iload_n 0, 1) := by decide +kernel
theorem dX8_both_1 : decode cX8_both 1 = .ok (.iconst (-1), 1) := by decide +kernel
theorem dX8_both_2 : decode cX8_both 2 = .ok (.if_icmp .ne 7, 3) := by decide +kernel
theorem dX8_both_9 : decode cX8_both 9 = .ok (.iload_n 1, 1) := by decide +kernel
theorem dX8_both_10 : decode cX8_both 10 = .ok (.iconst (-1), 1) := by decide +kernel
theorem dX8_both_11 : decode cX8_both 11 = .ok (.if_icmp .eq 8, 3) := by decide +kernel
theorem dX8_both_19 : decode cX8_both 19 = .ok (.iload_n 0, 1) := by decide +kernel
theorem dX8_both_20 : decode cX8_both 20 = .ok (.goto 5, 3) := by decide +kernel
theorem dX8_both_25 : decode cX8_both 25 = .ok (.ireturn, 1) := by decide +kernel
theorem dX8_both_14 : decode cX8_both 14 = .ok (.iload_n 0, 1) := by decide +kernel
theorem dX8_both_15 : decode cX8_both 15 = .ok (.iload_n 1, 1) := by decide +kernel
theorem dX8_both_16 : decode cX8_both 16 = .ok (.if_icmp .ne 7, 3) := by decide +kernel
theorem dX8_both_23 : decode cX8_both 23 = .ok (.bipush (-2), 2) := by decide +kernel
theorem dX8_both_5 : decode cX8_both 5 = .ok (.iload_n 1, 1) := by decide +kernel
theorem dX8_both_6 : decode cX8_both 6 = .ok (.goto 19, 3) := by decide +kernel
theorem dX8_widens_0 : decode cX8_widens 0 = .ok (.iload_n 0, 1) := by decide +kernel
theorem dX8_widens_1 : decode cX8_widens 1 = .ok (.iconst 4, 1) := by decide +kernel
theorem dX8_widens_2 : decode cX8_widens 2 = .ok (.if_icmp .ne 11, 3) := by decide +kernel
theorem dX8_widens_13 : decode cX8_widens 13 = .ok (.iload_n 0, 1) := by decide +kernel
theorem dX8_widens_14 : decode cX8_widens 14 = .ok (.iconst 2, 1) := by decide +kernel
theorem dX8_widens_15 : decode cX8_widens 15 = .ok (.bipush 7, 2) := by decide +kernel
theorem dX8_widens_17 : decode cX8_widens 17 = .ok (.invokestatic 97, 3) := by decide +kernel
theorem dX8_widens_20 : decode cX8_widens 20 = .ok (.ifCond .eq 27, 3) := by decide +kernel
theorem dX8_widens_47 : decode cX8_widens 47 = .ok (.iconst 0, 1) := by decide +kernel
theorem dX8_widens_48 : decode cX8_widens 48 = .ok (.ireturn, 1) := by decide +kernel
theorem dX8_widens_23 : decode cX8_widens 23 = .ok (.iload_n 1, 1) := by decide +kernel
theorem dX8_widens_24 : decode cX8_widens 24 = .ok (.iconst 3, 1) := by decide +kernel
theorem dX8_widens_25 : decode cX8_widens 25 = .ok (.bipush 8, 2) := by decide +kernel
theorem dX8_widens_27 : decode cX8_widens 27 = .ok (.invokestatic 97, 3) := by decide +kernel
theorem dX8_widens_30 : decode cX8_widens 30 = .ok (.ifCond .eq 17, 3) := by decide +kernel
theorem dX8_widens_33 : decode cX8_widens 33 = .ok (.iload_n 1, 1) := by decide +kernel
theorem dX8_widens_34 : decode cX8_widens 34 = .ok (.iload_n 0, 1) := by decide +kernel
theorem dX8_widens_35 : decode cX8_widens 35 = .ok (.if_icmp .le 12, 3) := by decide +kernel
theorem dX8_widens_38 : decode cX8_widens 38 = .ok (.iload_n 1, 1) := by decide +kernel
theorem dX8_widens_39 : decode cX8_widens 39 = .ok (.iconst 4, 1) := by decide +kernel
theorem dX8_widens_40 : decode cX8_widens 40 = .ok (.if_icmp .eq 7, 3) := by decide +kernel
theorem dX8_widens_43 : decode cX8_widens 43 = .ok (.iconst 1, 1) := by decide +kernel
theorem dX8_widens_44 : decode cX8_widens 44 = .ok (.goto 4, 3) := by decide +kernel
theorem dX8_widens_5 : decode cX8_widens 5 = .ok (.iload_n 1, 1) := by decide +kernel
theorem dX8_widens_6 : decode cX8_widens 6 = .ok (.iconst 5, 1) := by decide +kernel
theorem dX8_widens_7 : decode cX8_widens 7 = .ok (.bipush 8, 2) := by decide +kernel
theorem dX8_widens_9 : decode cX8_widens 9 = .ok (.invokestatic 97, 3) := by decide +kernel
theorem dX8_widens_12 : decode cX8_widens 12 = .ok (.ireturn, 1) := by decide +kernel
theorem dX8_fits_0 : decode cX8_fits 0 = .ok (.iload_n 1, 1) := by decide +kernel
theorem dX8_fits_1 : decode cX8_fits 1 = .ok (.iload_n 3, 1) := by decide +kernel
theorem dX8_fits_2 : decode cX8_fits 2 = .ok (.if_icmp .ne 11, 3) := by decide +kernel
theorem dX8_fits_13 : decode cX8_fits 13 = .ok (.iload_n 1, 1) := by decide +kernel
theorem dX8_fits_14 : decode cX8_fits 14 = .ok (.bipush 9, 2) := by decide +kernel
theorem dX8_fits_16 : decode cX8_fits 16 = .ok (.if_icmp .ne 20, 3) := by decide +kernel
theorem dX8_fits_36 : decode cX8_fits 36 = .ok (.iload_n 2, 1) := by decide +kernel
theorem dX8_fits_37 : decode cX8_fits 37 = .ok (.ifCond .ne 20, 3) := by decide +kernel
theorem dX8_fits_57 : decode cX8_fits 57 = .ok (.iload_n 2, 1) := by decide +kernel
theorem dX8_fits_58 : decode cX8_fits 58 = .ok (.iload 4, 2) := by decide +kernel
theorem dX8_fits_60 : decode cX8_fits 60 = .ok (.if_icmp .ne 34, 3) := by decide +kernel
theorem dX8_fits_94 : decode cX8_fits 94 = .ok (.iconst 0, 1) := by decide +kernel
theorem dX8_fits_95 : decode cX8_fits 95 = .ok (.ireturn, 1) := by decide +kernel
theorem dX8_fits_63 : decode cX8_fits 63 = .ok (.iload_n 1, 1) := by decide +kernel
theorem dX8_fits_64 : decode cX8_fits 64 = .ok (.bipush 9, 2) := by decide +kernel
theorem dX8_fits_66 : decode cX8_fits 66 = .ok (.if_icmp .le 28, 3) := by decide +kernel
theorem dX8_fits_69 : decode cX8_fits 69 = .ok (.iload_n 3, 1) := by decide +kernel
theorem dX8_fits_70 : decode cX8_fits 70 = .ok (.bipush 9, 2) := by decide +kernel
theorem dX8_fits_72 : decode cX8_fits 72 = .ok (.if_icmp .le 22, 3) := by decide +kernel
theorem dX8_fits_75 : decode cX8_fits 75 = .ok (.aload_n 0, 1) := by decide +kernel
theorem dX8_fits_76 : decode cX8_fits 76 = .ok (.iload_n 1, 1) := by decide +kernel
theorem dX8_fits_77 : decode cX8_fits 77 = .ok (.bipush 10, 2) := by decide +kernel
theorem dX8_fits_79 : decode cX8_fits 79 = .ok (.isub, 1) := by decide +kernel
theorem dX8_fits_80 : decode cX8_fits 80 = .ok (.iload_n 3, 1) := by decide +kernel
theorem dX8_fits_81 : decode cX8_fits 81 = .ok (.bipush 10, 2) := by decide +kernel
theorem dX8_fits_83 : decode cX8_fits 83 = .ok (.isub, 1) := by decide +kernel
theorem dX8_fits_84 : decode cX8_fits 84 = .ok (.invokevirtual 126, 3) := by decide +kernel
theorem dX8_fits_87 : decode cX8_fits 87 = .ok (.ifCond .eq 7, 3) := by decide +kernel
theorem dX8_fits_90 : decode cX8_fits 90 = .ok (.iconst 1, 1) := by decide +kernel
theorem dX8_fits_91 : decode cX8_fits 91 = .ok (.goto 4, 3) := by decide +kernel
theorem dX8_fits_40 : decode cX8_fits 40 = .ok (.iload 4, 2) := by decide +kernel
theorem dX8_fits_42 : decode cX8_fits 42 = .ok (.ifCond .ne 15, 3) := by decide +kernel
theorem dX8_fits_45 : decode cX8_fits 45 = .ok (.iload_n 1, 1) := by decide +kernel
theorem dX8_fits_46 : decode cX8_fits 46 = .ok (.bipush 9, 2) := by decide +kernel
theorem dX8_fits_48 : decode cX8_fits 48 = .ok (.if_icmp .ge 9, 3) := by decide +kernel
theorem dX8_fits_51 : decode cX8_fits 51 = .ok (.iload_n 1, 1) := by decide +kernel
theorem dX8_fits_52 : decode cX8_fits 52 = .ok (.iload_n 3, 1) := by decide +kernel
theorem q_973 : Cond.methodLink "FieldMemberModel" 199 ⟨"FieldMemberModel", "widens", "(II)Z"⟩ ∈ TT := tt_t (i := 973) (by decide +kernel) (by decide +kernel)
theorem q_975 : Cond.code ⟨"FieldMemberModel", "widens", "(II)Z"⟩ prog_10_method_39_code 2 (some .boolean) ∈ TT := tt_t (i := 975) (by decide +kernel) (by decide +kernel)
theorem q_974 : Cond.static ⟨"FieldMemberModel", "widens", "(II)Z"⟩ ∈ TT := tt_t (i := 974) (by decide +kernel) (by decide +kernel)
theorem gS_X8_X8_widens : GoodIn TT (va_wsS RX8 199 yX8_widens (ww yX8_widens cX8_widens 2 (some .boolean))) := tt_S q_973 q_974 q_4 q_975
theorem hdS_X8_widens : yX8_widens.cls ≠ "java/lang/invoke/MethodHandle" ∧ yX8_widens.cls ≠ "java/lang/invoke/VarHandle" ∧ (parseMethodDescriptor yX8_widens.desc).map (fun d => d.parameters.length) = some 2 := by decide +kernel
theorem dX8_fits_53 : decode cX8_fits 53 = .ok (.invokestatic 199, 3) := by decide +kernel
theorem dX8_fits_56 : decode cX8_fits 56 = .ok (.ireturn, 1) := by decide +kernel
theorem dX8_fits_19 : decode cX8_fits 19 = .ok (.iload 4, 2) := by decide +kernel
theorem dX8_fits_21 : decode cX8_fits 21 = .ok (.ifCond .gt 9, 3) := by decide +kernel
theorem dX8_fits_30 : decode cX8_fits 30 = .ok (.iconst 1, 1) := by decide +kernel
theorem dX8_fits_31 : decode cX8_fits 31 = .ok (.goto 4, 3) := by decide +kernel
theorem dX8_fits_35 : decode cX8_fits 35 = .ok (.ireturn, 1) := by decide +kernel
theorem dX8_fits_24 : decode cX8_fits 24 = .ok (.iload_n 3, 1) := by decide +kernel
theorem dX8_fits_25 : decode cX8_fits 25 = .ok (.bipush 9, 2) := by decide +kernel
theorem dX8_fits_27 : decode cX8_fits 27 = .ok (.if_icmp .le 7, 3) := by decide +kernel
theorem dX8_fits_34 : decode cX8_fits 34 = .ok (.iconst 0, 1) := by decide +kernel
theorem dX8_fits_5 : decode cX8_fits 5 = .ok (.iload_n 2, 1) := by decide +kernel
theorem dX8_fits_6 : decode cX8_fits 6 = .ok (.iload 4, 2) := by decide +kernel
theorem dX8_fits_8 : decode cX8_fits 8 = .ok (.if_icmp .ne 5, 3) := by decide +kernel
theorem dX8_fits_11 : decode cX8_fits 11 = .ok (.iconst 1, 1) := by decide +kernel
theorem dX8_fits_12 : decode cX8_fits 12 = .ok (.ireturn, 1) := by decide +kernel
set_option maxHeartbeats 4000000 in
set_option maxRecDepth 100000 in
theorem m_ruleOfMember (l : Launch) (D : va_G) (G : Nat → ClassId) (H : Heap) (mo : Nat) (ad : Nat → Nat) (σ : MS) (τ : Nat → Int64) (hP : va_P D vwCl (mW G mo ad σ τ) H) (t : Nat) (ht : t < 12) (mm : Int32) (bd : Int32) : Met l yX8_ruleOfMember (ww yX8_ruleOfMember cX8_ruleOfMember 8 (some .int)) (rmD 1) (roP D G H [.ref mo, .int (nI t), .int mm, .int bd]) (vp_Si (fun r => r = aRM (σ 2 t) mm bd)) 0 0 (fun _ => False) := by
  refine Met.ofW (cc := cX8_ruleOfMember) (maxL := 8) (ret := (some .int)) (by decide) rfl ?_
  intro p e s m args below meth c s₁ B hml hv
  obtain ⟨rfl, hH, hK⟩ := hv
  have hx := B.exec
  have hb := B.bytes
  have hr := B.returns
  have hts : ∀ w ∈ TT, w.before _ s = true := fun w h => atoms_spec (ws := ww yX8_ruleOfMember cX8_ruleOfMember 8 (some .int)) B.pre w (List.mem_cons_of_mem _ h)
  have hown : s.vm.findClass RX8 = some m.cls := findClass_of_methodNamed B.named
  have hlocks := B.notSynchronized
  rw [hH]
  have hl := lv_entry ([.ref mo, .int (nI t), .int mm, .int bd]) (n := 8) (Nat.le_of_ble_eq_true rfl)
  rw [lg_entry_eq]
  generalize (lg_sl ([.ref mo, .int (nI t), .int mm, .int bd]) ++ List.replicate (8 - (lg_sl ([.ref mo, .int (nI t), .int mm, .int bd])).length) Slot.unset).toArray = ls at hl ⊢
  have hl : lv_has ls 8 [(0, .ref mo), (1, .int (nI t)), (2, .int mm), (3, .int bd)] := hl
  refine lv_aload_n hx hb dX8_ruleOfMember_0 rfl (lv_at hl 0 rfl) ?_
  refine lv_iload_n hx hb dX8_ruleOfMember_1 rfl (lv_at hl 1 rfl) ?_
  refine ro_Vi (D := D) (G := G) (As := [.int (nI t)]) (rest := []) ⟨hx, hb, hml, hown, hts⟩ (m_isFace l D G _ mo ad _ _ hP (t) (by omega)) gV_X8_X8_isFace hdV_X8_isFace ⟨Nat.le_of_ble_eq_true rfl, Nat.le_of_ble_eq_true rfl⟩ hK (va_recv hK.1 hP (ci := 8) (q0 := 0) rfl rfl) rfl hl.1 rfl (Nat.le_of_ble_eq_true rfl) dX8_ruleOfMember_2 ⟨Nat.le_of_ble_eq_true rfl, Nat.le_of_ble_eq_true rfl⟩ (fun r1 e_r1 => ?_)
  subst e_r1
  refine lv_istore (lv' := [(4, .int (bI (σ 2 (t) = 3))), (0, .ref mo), (1, .int (nI t)), (2, .int mm), (3, .int bd)]) hx hb dX8_ruleOfMember_5 hl (by decide) rfl (fun ls hl => ?_)
  refine lv_iload_n hx hb dX8_ruleOfMember_7 rfl (lv_at hl 3 rfl) ?_
  refine lv_bipush (v := 96) hx hb dX8_ruleOfMember_8 (by decide) ?_
  refine lv_iand hx hb dX8_ruleOfMember_10 ?_
  refine lv_if_le (tgt := 17) hx hb dX8_ruleOfMember_11 (by decide) (fun c2 => ?_) (fun c2 => ?_)
  · -- 11 taken
    have c2 := and_le (by decide) c2
    refine lv_iload_n hx hb dX8_ruleOfMember_17 rfl (lv_at hl 3 rfl) ?_
    refine lv_bipush (v := 7) hx hb dX8_ruleOfMember_18 (by decide) ?_
    refine lv_iand hx hb dX8_ruleOfMember_20 ?_
    refine ro_Si (D := D) (G := G) (As := [.int (mm &&& 7)]) (rest := []) ⟨hx, hb, hml, hown, hts⟩ (m_bits l D G _ (mm &&& 7)) gS_X8_X8_bits hdS_X8_bits ⟨Nat.le_of_ble_eq_true rfl, Nat.le_of_ble_eq_true rfl⟩ hK rfl hl.1 rfl (Nat.le_of_ble_eq_true rfl) dX8_ruleOfMember_21 ⟨Nat.le_of_ble_eq_true rfl, Nat.le_of_ble_eq_true rfl⟩ (fun r3 e_r3 => ?_)
    subst e_r3
    refine lv_iconst (v := 1) hx hb dX8_ruleOfMember_24 (by decide) ?_
    refine lv_icmp_le (tgt := 31) hx hb dX8_ruleOfMember_25 (by decide) (fun c4 => ?_) (fun c4 => ?_)
    · -- 25 taken
      refine w_join (P := fun b9 => b9 = bI (badF mm)) 70 (ls := ls) (rest := []) (fun b6 e_b6 => ?_) (fun J5 => ?_)
      · -- behind the meeting at 70
        subst e_b6
        refine lv_istore (lv' := [(5, .int (bI (badF mm))), (4, .int (bI (σ 2 (t) = 3))), (0, .ref mo), (1, .int (nI t)), (2, .int mm), (3, .int bd)]) hx hb dX8_ruleOfMember_70 hl (by decide) rfl (fun ls hl => ?_)
        refine lv_iload hx hb dX8_ruleOfMember_72 (lv_at hl 1 rfl) ?_
        refine lv_if_eq (tgt := 85) hx hb dX8_ruleOfMember_74 (by decide) (fun c7 => ?_) (fun c7 => ?_)
        · -- 74 taken
          have c7 := bI_0 c7
          refine lv_iload_n hx hb dX8_ruleOfMember_85 rfl (lv_at hl 4 rfl) ?_
          refine lv_sipush (v := 1024) hx hb dX8_ruleOfMember_86 (by decide) ?_
          refine lv_iand hx hb dX8_ruleOfMember_89 ?_
          refine lv_if_le (tgt := 96) hx hb dX8_ruleOfMember_90 (by decide) (fun c8 => ?_) (fun c8 => ?_)
          · -- 90 taken
            have c8 := and_le (by decide) c8
            refine w_join (P := fun b9 => b9 = bI (¬ mm &&& 128 = 0)) 109 (ls := ls) (rest := []) (fun b10 e_b10 => ?_) (fun J9 => ?_)
            · -- behind the meeting at 109
              subst e_b10
              refine lv_istore (lv' := [(6, .int (bI (¬ mm &&& 128 = 0))), (5, .int (bI (badF mm))), (4, .int (bI (σ 2 (t) = 3))), (0, .ref mo), (1, .int (nI t)), (2, .int mm), (3, .int bd)]) hx hb dX8_ruleOfMember_109 hl (by decide) rfl (fun ls hl => ?_)
              refine lv_iload hx hb dX8_ruleOfMember_111 (lv_at hl 2 rfl) ?_
              refine lv_if_ne (tgt := 132) hx hb dX8_ruleOfMember_113 (by decide) (fun hh => absurd (bI_1 hh) c7) (fun hh => ?_)
              refine lv_iload hx hb dX8_ruleOfMember_116 (lv_at hl 0 rfl) ?_
              refine lv_if_eq (tgt := 132) hx hb dX8_ruleOfMember_118 (by decide) (fun c12 => ?_) (fun c12 => ?_)
              · -- 118 taken
                have c12 := bI_0 c12
                refine lv_iload hx hb dX8_ruleOfMember_132 (lv_at hl 2 rfl) ?_
                refine lv_if_ne (tgt := 155) hx hb dX8_ruleOfMember_134 (by decide) (fun hh => absurd (bI_1 hh) c7) (fun hh => ?_)
                refine lv_iload hx hb dX8_ruleOfMember_137 (lv_at hl 0 rfl) ?_
                refine lv_if_eq (tgt := 155) hx hb dX8_ruleOfMember_139 (by decide) (fun hh => ?_) (fun hh => absurd (bI_1 hh) c12)
                refine w_join (P := fun b9 => b9 = bI (bare (σ 2 t) mm)) 186 (ls := ls) (rest := []) (fun b16 e_b16 => ?_) (fun J15 => ?_)
                · -- behind the meeting at 186
                  subst e_b16
                  refine lv_istore (lv' := [(7, .int (bI (bare (σ 2 t) mm))), (6, .int (bI (¬ mm &&& 128 = 0))), (5, .int (bI (badF mm))), (4, .int (bI (σ 2 (t) = 3))), (0, .ref mo), (1, .int (nI t)), (2, .int mm), (3, .int bd)]) hx hb dX8_ruleOfMember_186 hl (by decide) rfl (fun ls hl => ?_)
                  refine lv_iload hx hb dX8_ruleOfMember_188 (lv_at hl 0 rfl) ?_
                  refine lv_iload_n hx hb dX8_ruleOfMember_190 rfl (lv_at hl 7 rfl) ?_
                  refine lv_icmp_ne (tgt := 208) hx hb dX8_ruleOfMember_191 (by decide) (fun c17 => ?_) (fun c17 => ?_)
                  · -- 191 taken
                    refine lv_iconst (v := 0) hx hb dX8_ruleOfMember_208 (by decide) ?_
                    exact ro_iret (v := 0) hx hb hr hH hlocks dX8_ruleOfMember_209 (by unfold aRM; simp only [eq_true c2, eq_true c4, eq_false c7, eq_true c8, eq_false c12, eq_false c17, not_true, not_false_iff, not_true_eq_false, not_false_eq_true, true_or, or_true, false_or, or_false, or_self, and_self, true_and, and_true, false_and, and_false, if_true, if_false])
                  · -- 191 not
                    refine lv_iload_n hx hb dX8_ruleOfMember_194 rfl (lv_at hl 7 rfl) ?_
                    refine lv_if_eq (tgt := 203) hx hb dX8_ruleOfMember_195 (by decide) (fun c18 => ?_) (fun c18 => ?_)
                    · -- 195 taken
                      refine lv_bipush (v := 17) hx hb dX8_ruleOfMember_203 (by decide) ?_
                      refine lv_goto (tgt := 209) hx hb dX8_ruleOfMember_205 (by decide) ?_
                      exact ro_iret (v := 17) hx hb hr hH hlocks dX8_ruleOfMember_209 (by unfold aRM; simp only [eq_true c2, eq_true c4, eq_false c7, eq_true c8, eq_false c12, eq_true c17, eq_true c18, not_true, not_false_iff, not_true_eq_false, not_false_eq_true, true_or, or_true, false_or, or_false, or_self, and_self, true_and, and_true, false_and, and_false, if_true, if_false])
                    · -- 195 not
                      refine lv_bipush (v := 16) hx hb dX8_ruleOfMember_198 (by decide) ?_
                      refine lv_goto (tgt := 209) hx hb dX8_ruleOfMember_200 (by decide) ?_
                      exact ro_iret (v := 16) hx hb hr hH hlocks dX8_ruleOfMember_209 (by unfold aRM; simp only [eq_true c2, eq_true c4, eq_false c7, eq_true c8, eq_false c12, eq_true c17, eq_false c18, not_true, not_false_iff, not_true_eq_false, not_false_eq_true, true_or, or_true, false_or, or_false, or_self, and_self, true_and, and_true, false_and, and_false, if_true, if_false])
                · -- up to the meeting at 186
                  refine lv_iload hx hb dX8_ruleOfMember_155 (lv_at hl 0 rfl) ?_
                  refine lv_if_ne (tgt := 181) hx hb dX8_ruleOfMember_157 (by decide) (fun hh => absurd (bI_1 hh) c12) (fun hh => ?_)
                  refine lv_iload_n hx hb dX8_ruleOfMember_160 rfl (lv_at hl 5 rfl) ?_
                  refine lv_sipush (v := 256) hx hb dX8_ruleOfMember_161 (by decide) ?_
                  refine lv_iand hx hb dX8_ruleOfMember_164 ?_
                  refine lv_if_gt (tgt := 181) hx hb dX8_ruleOfMember_165 (by decide) (fun c20 => ?_) (fun c20 => ?_)
                  · -- 165 taken
                    have c20 := and_gt c20
                    refine lv_iconst (v := 1) hx hb dX8_ruleOfMember_181 (by decide) ?_
                    refine lv_goto (tgt := 186) hx hb dX8_ruleOfMember_182 (by decide) ?_
                    exact J15 1 ((bI_t (by rw [bare_def]; simp only [eq_true c2, eq_true c4, eq_false c7, eq_true c8, eq_false c12, eq_false c20, not_true, not_false_iff, not_true_eq_false, not_false_eq_true, true_or, or_true, false_or, or_false, or_self, and_self, true_and, and_true, false_and, and_false, if_true, if_false])).symm)
                  · -- 165 not
                    have c20 := and_ngt (by decide) c20
                    refine lv_iload hx hb dX8_ruleOfMember_168 (lv_at hl 2 rfl) ?_
                    refine lv_if_eq (tgt := 185) hx hb dX8_ruleOfMember_170 (by decide) (fun hh => ?_) (fun hh => absurd (bI_1 hh) c7)
                    refine lv_iconst (v := 0) hx hb dX8_ruleOfMember_185 (by decide) ?_
                    exact J15 0 ((bI_f (by rw [bare_def]; simp only [eq_true c2, eq_true c4, eq_false c7, eq_true c8, eq_false c12, eq_true c20, not_true, not_false_iff, not_true_eq_false, not_false_eq_true, true_or, or_true, false_or, or_false, or_self, and_self, true_and, and_true, false_and, and_false, if_true, if_false])).symm)
              · -- 118 not
                have c12 := bI_1 c12
                refine lv_iload_n hx hb dX8_ruleOfMember_121 rfl (lv_at hl 5 rfl) ?_
                refine lv_sipush (v := 796) hx hb dX8_ruleOfMember_122 (by decide) ?_
                refine lv_iand hx hb dX8_ruleOfMember_125 ?_
                refine lv_if_le (tgt := 132) hx hb dX8_ruleOfMember_126 (by decide) (fun c22 => ?_) (fun c22 => ?_)
                · -- 126 taken
                  have c22 := and_le (by decide) c22
                  refine lv_iload hx hb dX8_ruleOfMember_132 (lv_at hl 2 rfl) ?_
                  refine lv_if_ne (tgt := 155) hx hb dX8_ruleOfMember_134 (by decide) (fun hh => absurd (bI_1 hh) c7) (fun hh => ?_)
                  refine lv_iload hx hb dX8_ruleOfMember_137 (lv_at hl 0 rfl) ?_
                  refine lv_if_eq (tgt := 155) hx hb dX8_ruleOfMember_139 (by decide) (fun hh => absurd c12 (bI_0 hh)) (fun hh => ?_)
                  refine lv_aload_n hx hb dX8_ruleOfMember_142 rfl (lv_at hl 3 rfl) ?_
                  refine va_get (D := D) (ci := 8) (v := .ref ((ad 2))) (C := RX8) (T := TX8) (N := 33) hx hb hts iX8 hown hK.1 hP 0 rfl rfl 2 (by decide) (hts _ q_681) (fun _ h9 => h9) rfl dX8_ruleOfMember_143 ?_
                  refine lv_iload_n hx hb dX8_ruleOfMember_146 rfl (lv_at hl 4 rfl) ?_
                  refine iald_n (f := σ 2) hx hb hK.1 hP 1 0 rfl rfl (t) rfl (by omega) (by decide) dX8_ruleOfMember_147 ?_
                  refine lv_iconst (v := 1) hx hb dX8_ruleOfMember_148 (by decide) ?_
                  refine lv_icmp_eq (tgt := 155) hx hb dX8_ruleOfMember_149 (by decide) (fun c25 => ?_) (fun c25 => ?_)
                  · -- 149 taken
                    refine w_join (P := fun b9 => b9 = bI (bare (σ 2 t) mm)) 186 (ls := ls) (rest := []) (fun b27 e_b27 => ?_) (fun J26 => ?_)
                    · -- behind the meeting at 186
                      subst e_b27
                      refine lv_istore (lv' := [(7, .int (bI (bare (σ 2 t) mm))), (6, .int (bI (¬ mm &&& 128 = 0))), (5, .int (bI (badF mm))), (4, .int (bI (σ 2 (t) = 3))), (0, .ref mo), (1, .int (nI t)), (2, .int mm), (3, .int bd)]) hx hb dX8_ruleOfMember_186 hl (by decide) rfl (fun ls hl => ?_)
                      refine lv_iload hx hb dX8_ruleOfMember_188 (lv_at hl 0 rfl) ?_
                      refine lv_iload_n hx hb dX8_ruleOfMember_190 rfl (lv_at hl 7 rfl) ?_
                      refine lv_icmp_ne (tgt := 208) hx hb dX8_ruleOfMember_191 (by decide) (fun c28 => ?_) (fun c28 => ?_)
                      · -- 191 taken
                        refine lv_iconst (v := 0) hx hb dX8_ruleOfMember_208 (by decide) ?_
                        exact ro_iret (v := 0) hx hb hr hH hlocks dX8_ruleOfMember_209 (by unfold aRM; simp only [eq_true c2, eq_true c4, eq_false c7, eq_true c8, eq_true c12, eq_true c22, eq_true c25, eq_false c28, not_true, not_false_iff, not_true_eq_false, not_false_eq_true, true_or, or_true, false_or, or_false, or_self, and_self, true_and, and_true, false_and, and_false, if_true, if_false])
                      · -- 191 not
                        refine lv_iload_n hx hb dX8_ruleOfMember_194 rfl (lv_at hl 7 rfl) ?_
                        refine lv_if_eq (tgt := 203) hx hb dX8_ruleOfMember_195 (by decide) (fun c29 => ?_) (fun c29 => ?_)
                        · -- 195 taken
                          refine lv_bipush (v := 17) hx hb dX8_ruleOfMember_203 (by decide) ?_
                          refine lv_goto (tgt := 209) hx hb dX8_ruleOfMember_205 (by decide) ?_
                          exact ro_iret (v := 17) hx hb hr hH hlocks dX8_ruleOfMember_209 (by unfold aRM; simp only [eq_true c2, eq_true c4, eq_false c7, eq_true c8, eq_true c12, eq_true c22, eq_true c25, eq_true c28, eq_true c29, not_true, not_false_iff, not_true_eq_false, not_false_eq_true, true_or, or_true, false_or, or_false, or_self, and_self, true_and, and_true, false_and, and_false, if_true, if_false])
                        · -- 195 not
                          refine lv_bipush (v := 16) hx hb dX8_ruleOfMember_198 (by decide) ?_
                          refine lv_goto (tgt := 209) hx hb dX8_ruleOfMember_200 (by decide) ?_
                          exact ro_iret (v := 16) hx hb hr hH hlocks dX8_ruleOfMember_209 (by unfold aRM; simp only [eq_true c2, eq_true c4, eq_false c7, eq_true c8, eq_true c12, eq_true c22, eq_true c25, eq_true c28, eq_false c29, not_true, not_false_iff, not_true_eq_false, not_false_eq_true, true_or, or_true, false_or, or_false, or_self, and_self, true_and, and_true, false_and, and_false, if_true, if_false])
                    · -- up to the meeting at 186
                      refine lv_iload hx hb dX8_ruleOfMember_155 (lv_at hl 0 rfl) ?_
                      refine lv_if_ne (tgt := 181) hx hb dX8_ruleOfMember_157 (by decide) (fun hh => ?_) (fun hh => absurd c12 (bI_0 hh))
                      refine lv_iconst (v := 1) hx hb dX8_ruleOfMember_181 (by decide) ?_
                      refine lv_goto (tgt := 186) hx hb dX8_ruleOfMember_182 (by decide) ?_
                      exact J26 1 ((bI_t (by rw [bare_def]; simp only [eq_true c2, eq_true c4, eq_false c7, eq_true c8, eq_true c12, eq_true c22, eq_true c25, not_true, not_false_iff, not_true_eq_false, not_false_eq_true, true_or, or_true, false_or, or_false, or_self, and_self, true_and, and_true, false_and, and_false, if_true, if_false])).symm)
                  · -- 149 not
                    refine lv_bipush (v := 15) hx hb dX8_ruleOfMember_152 (by decide) ?_
                    exact ro_iret (v := 15) hx hb hr hH hlocks dX8_ruleOfMember_154 (by unfold aRM; simp only [eq_true c2, eq_true c4, eq_false c7, eq_true c8, eq_true c12, eq_true c22, eq_false c25, not_true, not_false_iff, not_true_eq_false, not_false_eq_true, true_or, or_true, false_or, or_false, or_self, and_self, true_and, and_true, false_and, and_false, if_true, if_false])
                · -- 126 not
                  have c22 := and_nle c22
                  refine lv_bipush (v := 14) hx hb dX8_ruleOfMember_129 (by decide) ?_
                  exact ro_iret (v := 14) hx hb hr hH hlocks dX8_ruleOfMember_131 (by unfold aRM; simp only [eq_true c2, eq_true c4, eq_false c7, eq_true c8, eq_true c12, eq_false c22, not_true, not_false_iff, not_true_eq_false, not_false_eq_true, true_or, or_true, false_or, or_false, or_self, and_self, true_and, and_true, false_and, and_false, if_true, if_false])
            · -- up to the meeting at 109
              refine lv_iload_n hx hb dX8_ruleOfMember_96 rfl (lv_at hl 4 rfl) ?_
              refine lv_sipush (v := 128) hx hb dX8_ruleOfMember_97 (by decide) ?_
              refine lv_iand hx hb dX8_ruleOfMember_100 ?_
              refine lv_if_le (tgt := 108) hx hb dX8_ruleOfMember_101 (by decide) (fun c31 => ?_) (fun c31 => ?_)
              · -- 101 taken
                have c31 := and_le (by decide) c31
                refine lv_iconst (v := 0) hx hb dX8_ruleOfMember_108 (by decide) ?_
                exact J9 0 ((bI_f (by simp only [eq_true c2, eq_true c4, eq_false c7, eq_true c8, eq_true c31, not_true, not_false_iff, not_true_eq_false, not_false_eq_true, true_or, or_true, false_or, or_false, or_self, and_self, true_and, and_true, false_and, and_false, if_true, if_false])).symm)
              · -- 101 not
                have c31 := and_nle c31
                refine lv_iconst (v := 1) hx hb dX8_ruleOfMember_104 (by decide) ?_
                refine lv_goto (tgt := 109) hx hb dX8_ruleOfMember_105 (by decide) ?_
                exact J9 1 ((bI_t (by simp only [eq_true c2, eq_true c4, eq_false c7, eq_true c8, eq_false c31, not_true, not_false_iff, not_true_eq_false, not_false_eq_true, true_or, or_true, false_or, or_false, or_self, and_self, true_and, and_true, false_and, and_false, if_true, if_false])).symm)
          · -- 90 not
            have c8 := and_nle c8
            refine lv_bipush (v := 13) hx hb dX8_ruleOfMember_93 (by decide) ?_
            exact ro_iret (v := 13) hx hb hr hH hlocks dX8_ruleOfMember_95 (by unfold aRM; simp only [eq_true c2, eq_true c4, eq_false c7, eq_false c8, not_true, not_false_iff, not_true_eq_false, not_false_eq_true, true_or, or_true, false_or, or_false, or_self, and_self, true_and, and_true, false_and, and_false, if_true, if_false])
        · -- 74 not
          have c7 := bI_1 c7
          refine lv_iload hx hb dX8_ruleOfMember_77 (lv_at hl 0 rfl) ?_
          refine lv_if_eq (tgt := 96) hx hb dX8_ruleOfMember_79 (by decide) (fun c32 => ?_) (fun c32 => ?_)
          · -- 79 taken
            have c32 := bI_0 c32
            refine w_join (P := fun b9 => b9 = bI (¬ mm &&& 128 = 0)) 109 (ls := ls) (rest := []) (fun b34 e_b34 => ?_) (fun J33 => ?_)
            · -- behind the meeting at 109
              subst e_b34
              refine lv_istore (lv' := [(6, .int (bI (¬ mm &&& 128 = 0))), (5, .int (bI (badF mm))), (4, .int (bI (σ 2 (t) = 3))), (0, .ref mo), (1, .int (nI t)), (2, .int mm), (3, .int bd)]) hx hb dX8_ruleOfMember_109 hl (by decide) rfl (fun ls hl => ?_)
              refine lv_iload hx hb dX8_ruleOfMember_111 (lv_at hl 2 rfl) ?_
              refine lv_if_ne (tgt := 132) hx hb dX8_ruleOfMember_113 (by decide) (fun hh => ?_) (fun hh => absurd c7 (bI_0 hh))
              refine lv_iload hx hb dX8_ruleOfMember_132 (lv_at hl 2 rfl) ?_
              refine lv_if_ne (tgt := 155) hx hb dX8_ruleOfMember_134 (by decide) (fun hh => ?_) (fun hh => absurd c7 (bI_0 hh))
              refine w_join (P := fun b9 => b9 = bI (bare (σ 2 t) mm)) 186 (ls := ls) (rest := []) (fun b38 e_b38 => ?_) (fun J37 => ?_)
              · -- behind the meeting at 186
                subst e_b38
                refine lv_istore (lv' := [(7, .int (bI (bare (σ 2 t) mm))), (6, .int (bI (¬ mm &&& 128 = 0))), (5, .int (bI (badF mm))), (4, .int (bI (σ 2 (t) = 3))), (0, .ref mo), (1, .int (nI t)), (2, .int mm), (3, .int bd)]) hx hb dX8_ruleOfMember_186 hl (by decide) rfl (fun ls hl => ?_)
                refine lv_iload hx hb dX8_ruleOfMember_188 (lv_at hl 0 rfl) ?_
                refine lv_iload_n hx hb dX8_ruleOfMember_190 rfl (lv_at hl 7 rfl) ?_
                refine lv_icmp_ne (tgt := 208) hx hb dX8_ruleOfMember_191 (by decide) (fun c39 => ?_) (fun c39 => ?_)
                · -- 191 taken
                  refine lv_iconst (v := 0) hx hb dX8_ruleOfMember_208 (by decide) ?_
                  exact ro_iret (v := 0) hx hb hr hH hlocks dX8_ruleOfMember_209 (by unfold aRM; simp only [eq_true c2, eq_true c4, eq_true c7, eq_false c32, eq_false c39, not_true, not_false_iff, not_true_eq_false, not_false_eq_true, true_or, or_true, false_or, or_false, or_self, and_self, true_and, and_true, false_and, and_false, if_true, if_false])
                · -- 191 not
                  refine lv_iload_n hx hb dX8_ruleOfMember_194 rfl (lv_at hl 7 rfl) ?_
                  refine lv_if_eq (tgt := 203) hx hb dX8_ruleOfMember_195 (by decide) (fun c40 => ?_) (fun c40 => ?_)
                  · -- 195 taken
                    refine lv_bipush (v := 17) hx hb dX8_ruleOfMember_203 (by decide) ?_
                    refine lv_goto (tgt := 209) hx hb dX8_ruleOfMember_205 (by decide) ?_
                    exact ro_iret (v := 17) hx hb hr hH hlocks dX8_ruleOfMember_209 (by unfold aRM; simp only [eq_true c2, eq_true c4, eq_true c7, eq_false c32, eq_true c39, eq_true c40, not_true, not_false_iff, not_true_eq_false, not_false_eq_true, true_or, or_true, false_or, or_false, or_self, and_self, true_and, and_true, false_and, and_false, if_true, if_false])
                  · -- 195 not
                    refine lv_bipush (v := 16) hx hb dX8_ruleOfMember_198 (by decide) ?_
                    refine lv_goto (tgt := 209) hx hb dX8_ruleOfMember_200 (by decide) ?_
                    exact ro_iret (v := 16) hx hb hr hH hlocks dX8_ruleOfMember_209 (by unfold aRM; simp only [eq_true c2, eq_true c4, eq_true c7, eq_false c32, eq_true c39, eq_false c40, not_true, not_false_iff, not_true_eq_false, not_false_eq_true, true_or, or_true, false_or, or_false, or_self, and_self, true_and, and_true, false_and, and_false, if_true, if_false])
              · -- up to the meeting at 186
                refine lv_iload hx hb dX8_ruleOfMember_155 (lv_at hl 0 rfl) ?_
                refine lv_if_ne (tgt := 181) hx hb dX8_ruleOfMember_157 (by decide) (fun c41 => ?_) (fun c41 => ?_)
                · -- 157 taken
                  have c41 := bI_1 c41
                  refine lv_iconst (v := 1) hx hb dX8_ruleOfMember_181 (by decide) ?_
                  refine lv_goto (tgt := 186) hx hb dX8_ruleOfMember_182 (by decide) ?_
                  exact J37 1 ((bI_t (by rw [bare_def]; simp only [eq_true c2, eq_true c4, eq_true c7, eq_false c32, eq_true c41, not_true, not_false_iff, not_true_eq_false, not_false_eq_true, true_or, or_true, false_or, or_false, or_self, and_self, true_and, and_true, false_and, and_false, if_true, if_false])).symm)
                · -- 157 not
                  have c41 := bI_0 c41
                  refine lv_iload_n hx hb dX8_ruleOfMember_160 rfl (lv_at hl 5 rfl) ?_
                  refine lv_sipush (v := 256) hx hb dX8_ruleOfMember_161 (by decide) ?_
                  refine lv_iand hx hb dX8_ruleOfMember_164 ?_
                  refine lv_if_gt (tgt := 181) hx hb dX8_ruleOfMember_165 (by decide) (fun c42 => ?_) (fun c42 => ?_)
                  · -- 165 taken
                    have c42 := and_gt c42
                    refine lv_iconst (v := 1) hx hb dX8_ruleOfMember_181 (by decide) ?_
                    refine lv_goto (tgt := 186) hx hb dX8_ruleOfMember_182 (by decide) ?_
                    exact J37 1 ((bI_t (by rw [bare_def]; simp only [eq_true c2, eq_true c4, eq_true c7, eq_false c32, eq_false c41, eq_false c42, not_true, not_false_iff, not_true_eq_false, not_false_eq_true, true_or, or_true, false_or, or_false, or_self, and_self, true_and, and_true, false_and, and_false, if_true, if_false])).symm)
                  · -- 165 not
                    have c42 := and_ngt (by decide) c42
                    refine lv_iload hx hb dX8_ruleOfMember_168 (lv_at hl 2 rfl) ?_
                    refine lv_if_eq (tgt := 185) hx hb dX8_ruleOfMember_170 (by decide) (fun hh => absurd c7 (bI_0 hh)) (fun hh => ?_)
                    refine lv_iload_n hx hb dX8_ruleOfMember_173 rfl (lv_at hl 5 rfl) ?_
                    refine lv_sipush (v := 1036) hx hb dX8_ruleOfMember_174 (by decide) ?_
                    refine lv_iand hx hb dX8_ruleOfMember_177 ?_
                    refine lv_if_ne (tgt := 185) hx hb dX8_ruleOfMember_178 (by decide) (fun c44 => ?_) (fun c44 => ?_)
                    · -- 178 taken
                      refine lv_iconst (v := 0) hx hb dX8_ruleOfMember_185 (by decide) ?_
                      exact J37 0 ((bI_f (by rw [bare_def]; simp only [eq_true c2, eq_true c4, eq_true c7, eq_false c32, eq_false c41, eq_true c42, eq_false c44, not_true, not_false_iff, not_true_eq_false, not_false_eq_true, true_or, or_true, false_or, or_false, or_self, and_self, true_and, and_true, false_and, and_false, if_true, if_false])).symm)
                    · -- 178 not
                      refine lv_iconst (v := 1) hx hb dX8_ruleOfMember_181 (by decide) ?_
                      refine lv_goto (tgt := 186) hx hb dX8_ruleOfMember_182 (by decide) ?_
                      exact J37 1 ((bI_t (by rw [bare_def]; simp only [eq_true c2, eq_true c4, eq_true c7, eq_false c32, eq_false c41, eq_true c42, eq_true c44, not_true, not_false_iff, not_true_eq_false, not_false_eq_true, true_or, or_true, false_or, or_false, or_self, and_self, true_and, and_true, false_and, and_false, if_true, if_false])).symm)
            · -- up to the meeting at 109
              refine lv_iload_n hx hb dX8_ruleOfMember_96 rfl (lv_at hl 4 rfl) ?_
              refine lv_sipush (v := 128) hx hb dX8_ruleOfMember_97 (by decide) ?_
              refine lv_iand hx hb dX8_ruleOfMember_100 ?_
              refine lv_if_le (tgt := 108) hx hb dX8_ruleOfMember_101 (by decide) (fun c45 => ?_) (fun c45 => ?_)
              · -- 101 taken
                have c45 := and_le (by decide) c45
                refine lv_iconst (v := 0) hx hb dX8_ruleOfMember_108 (by decide) ?_
                exact J33 0 ((bI_f (by simp only [eq_true c2, eq_true c4, eq_true c7, eq_false c32, eq_true c45, not_true, not_false_iff, not_true_eq_false, not_false_eq_true, true_or, or_true, false_or, or_false, or_self, and_self, true_and, and_true, false_and, and_false, if_true, if_false])).symm)
              · -- 101 not
                have c45 := and_nle c45
                refine lv_iconst (v := 1) hx hb dX8_ruleOfMember_104 (by decide) ?_
                refine lv_goto (tgt := 109) hx hb dX8_ruleOfMember_105 (by decide) ?_
                exact J33 1 ((bI_t (by simp only [eq_true c2, eq_true c4, eq_true c7, eq_false c32, eq_false c45, not_true, not_false_iff, not_true_eq_false, not_false_eq_true, true_or, or_true, false_or, or_false, or_self, and_self, true_and, and_true, false_and, and_false, if_true, if_false])).symm)
          · -- 79 not
            have c32 := bI_1 c32
            refine lv_goto (tgt := 93) hx hb dX8_ruleOfMember_82 (by decide) ?_
            refine lv_bipush (v := 13) hx hb dX8_ruleOfMember_93 (by decide) ?_
            exact ro_iret (v := 13) hx hb hr hH hlocks dX8_ruleOfMember_95 (by unfold aRM; simp only [eq_true c2, eq_true c4, eq_true c7, eq_true c32, not_true, not_false_iff, not_true_eq_false, not_false_eq_true, true_or, or_true, false_or, or_false, or_self, and_self, true_and, and_true, false_and, and_false, if_true, if_false])
      · -- up to the meeting at 70
        refine lv_iload_n hx hb dX8_ruleOfMember_31 rfl (lv_at hl 3 rfl) ?_
        refine lv_sipush (v := 786) hx hb dX8_ruleOfMember_32 (by decide) ?_
        refine lv_iand hx hb dX8_ruleOfMember_35 ?_
        refine lv_if_gt (tgt := 65) hx hb dX8_ruleOfMember_36 (by decide) (fun c46 => ?_) (fun c46 => ?_)
        · -- 36 taken
          have c46 := and_gt c46
          refine lv_iconst (v := 1) hx hb dX8_ruleOfMember_65 (by decide) ?_
          refine lv_goto (tgt := 70) hx hb dX8_ruleOfMember_66 (by decide) ?_
          exact J5 1 ((bI_t (by rw [badF_def]; simp only [eq_true c2, eq_true c4, eq_false c46, not_true, not_false_iff, not_true_eq_false, not_false_eq_true, true_or, or_true, false_or, or_false, or_self, and_self, true_and, and_true, false_and, and_false, if_true, if_false])).symm)
        · -- 36 not
          have c46 := and_ngt (by decide) c46
          refine lv_iload_n hx hb dX8_ruleOfMember_39 rfl (lv_at hl 3 rfl) ?_
          refine lv_sipush (v := 1160) hx hb dX8_ruleOfMember_40 (by decide) ?_
          refine lv_iand hx hb dX8_ruleOfMember_43 ?_
          refine ro_Si (D := D) (G := G) (As := [.int (mm &&& 1160)]) (rest := []) ⟨hx, hb, hml, hown, hts⟩ (m_bits l D G _ (mm &&& 1160)) gS_X8_X8_bits hdS_X8_bits ⟨Nat.le_of_ble_eq_true rfl, Nat.le_of_ble_eq_true rfl⟩ hK rfl hl.1 rfl (Nat.le_of_ble_eq_true rfl) dX8_ruleOfMember_44 ⟨Nat.le_of_ble_eq_true rfl, Nat.le_of_ble_eq_true rfl⟩ (fun r47 e_r47 => ?_)
          subst e_r47
          refine lv_iconst (v := 1) hx hb dX8_ruleOfMember_47 (by decide) ?_
          refine lv_icmp_gt (tgt := 65) hx hb dX8_ruleOfMember_48 (by decide) (fun c48 => ?_) (fun c48 => ?_)
          · -- 48 taken
            refine lv_iconst (v := 1) hx hb dX8_ruleOfMember_65 (by decide) ?_
            refine lv_goto (tgt := 70) hx hb dX8_ruleOfMember_66 (by decide) ?_
            exact J5 1 ((bI_t (by rw [badF_def]; simp only [eq_true c2, eq_true c4, eq_true c46, eq_true c48, not_true, not_false_iff, not_true_eq_false, not_false_eq_true, true_or, or_true, false_or, or_false, or_self, and_self, true_and, and_true, false_and, and_false, if_true, if_false])).symm)
          · -- 48 not
            refine lv_iload_n hx hb dX8_ruleOfMember_51 rfl (lv_at hl 3 rfl) ?_
            refine lv_iconst (v := 4) hx hb dX8_ruleOfMember_52 (by decide) ?_
            refine lv_iand hx hb dX8_ruleOfMember_53 ?_
            refine lv_if_le (tgt := 69) hx hb dX8_ruleOfMember_54 (by decide) (fun c49 => ?_) (fun c49 => ?_)
            · -- 54 taken
              have c49 := and_le (by decide) c49
              refine lv_iconst (v := 0) hx hb dX8_ruleOfMember_69 (by decide) ?_
              exact J5 0 ((bI_f (by rw [badF_def]; simp only [eq_true c2, eq_true c4, eq_true c46, eq_false c48, eq_true c49, not_true, not_false_iff, not_true_eq_false, not_false_eq_true, true_or, or_true, false_or, or_false, or_self, and_self, true_and, and_true, false_and, and_false, if_true, if_false])).symm)
            · -- 54 not
              have c49 := and_nle c49
              refine lv_iload_n hx hb dX8_ruleOfMember_57 rfl (lv_at hl 3 rfl) ?_
              refine lv_sipush (v := 1152) hx hb dX8_ruleOfMember_58 (by decide) ?_
              refine lv_iand hx hb dX8_ruleOfMember_61 ?_
              refine lv_if_le (tgt := 69) hx hb dX8_ruleOfMember_62 (by decide) (fun c50 => ?_) (fun c50 => ?_)
              · -- 62 taken
                have c50 := and_le (by decide) c50
                refine lv_iconst (v := 0) hx hb dX8_ruleOfMember_69 (by decide) ?_
                exact J5 0 ((bI_f (by rw [badF_def]; simp only [eq_true c2, eq_true c4, eq_true c46, eq_false c48, eq_false c49, eq_true c50, not_true, not_false_iff, not_true_eq_false, not_false_eq_true, true_or, or_true, false_or, or_false, or_self, and_self, true_and, and_true, false_and, and_false, if_true, if_false])).symm)
              · -- 62 not
                have c50 := and_nle c50
                refine lv_iconst (v := 1) hx hb dX8_ruleOfMember_65 (by decide) ?_
                refine lv_goto (tgt := 70) hx hb dX8_ruleOfMember_66 (by decide) ?_
                exact J5 1 ((bI_t (by rw [badF_def]; simp only [eq_true c2, eq_true c4, eq_true c46, eq_false c48, eq_false c49, eq_false c50, not_true, not_false_iff, not_true_eq_false, not_false_eq_true, true_or, or_true, false_or, or_false, or_self, and_self, true_and, and_true, false_and, and_false, if_true, if_false])).symm)
    · -- 25 not
      refine lv_bipush (v := 12) hx hb dX8_ruleOfMember_28 (by decide) ?_
      exact ro_iret (v := 12) hx hb hr hH hlocks dX8_ruleOfMember_30 (by unfold aRM; simp only [eq_true c2, eq_false c4, not_true, not_false_iff, not_true_eq_false, not_false_eq_true, true_or, or_true, false_or, or_false, or_self, and_self, true_and, and_true, false_and, and_false, if_true, if_false])
  · -- 11 not
    have c2 := and_nle c2
    refine lv_bipush (v := 11) hx hb dX8_ruleOfMember_14 (by decide) ?_
    exact ro_iret (v := 11) hx hb hr hH hlocks dX8_ruleOfMember_16 (by unfold aRM; simp only [eq_false c2, not_true, not_false_iff, not_true_eq_false, not_false_eq_true, true_or, or_true, false_or, or_false, or_self, and_self, true_and, and_true, false_and, and_false, if_true, if_false])
set_option maxHeartbeats 4000000 in
set_option maxRecDepth 100000 in
theorem m_sameParts (l : Launch) (D : va_G) (G : Nat → ClassId) (H : Heap) (mo : Nat) (ad : Nat → Nat) (σ : MS) (τ : Nat → Int64) (hP : va_P D vwCl (mW G mo ad σ τ) H) (a b : Nat) (ha : a < 60) (hb0 : b < 60) (hma : okM σ a) : Met l yX8_sameParts (ww yX8_sameParts cX8_sameParts 5 (some .boolean)) (rmD 0) (roP D G H [.ref mo, .int (nI a), .int (nI b)]) (vp_Si (fun r => r = bI (sameP σ a b))) 0 0 (fun _ => False) := by
  refine Met.ofW (cc := cX8_sameParts) (maxL := 5) (ret := (some .boolean)) (by decide) rfl ?_
  intro p e s m args below meth c s₁ B hml hv
  obtain ⟨rfl, hH, hK⟩ := hv
  have hx := B.exec
  have hb := B.bytes
  have hr := B.returns
  have hts : ∀ w ∈ TT, w.before _ s = true := fun w h => atoms_spec (ws := ww yX8_sameParts cX8_sameParts 5 (some .boolean)) B.pre w (List.mem_cons_of_mem _ h)
  have hown : s.vm.findClass RX8 = some m.cls := findClass_of_methodNamed B.named
  have hlocks := B.notSynchronized
  rw [hH]
  have hl := lv_entry ([.ref mo, .int (nI a), .int (nI b)]) (n := 5) (Nat.le_of_ble_eq_true rfl)
  rw [lg_entry_eq]
  generalize (lg_sl ([.ref mo, .int (nI a), .int (nI b)]) ++ List.replicate (5 - (lg_sl ([.ref mo, .int (nI a), .int (nI b)])).length) Slot.unset).toArray = ls at hl ⊢
  have hl : lv_has ls 5 [(0, .ref mo), (1, .int (nI a)), (2, .int (nI b))] := hl
  refine w_join (P := fun b9 => b9 = bI (σ 18 a = σ 18 b)) 20 (ls := ls) (rest := []) (fun b2 e_b2 => ?_) (fun J1 => ?_)
  · -- behind the meeting at 20
    subst e_b2
    refine lv_istore_n (lv' := [(3, .int (bI (σ 18 a = σ 18 b))), (0, .ref mo), (1, .int (nI a)), (2, .int (nI b))]) hx hb dX8_sameParts_20 rfl hl (by decide) rfl (fun ls hl => ?_)
    refine lv_iconst (v := 0) hx hb dX8_sameParts_21 (by decide) ?_
    refine lv_istore (lv' := [(4, .int 0), (3, .int (bI (σ 18 a = σ 18 b))), (0, .ref mo), (1, .int (nI a)), (2, .int (nI b))]) hx hb dX8_sameParts_22 hl (by decide) rfl (fun ls hl => ?_)
    refine w_for (N := mnE σ a) 24 (L := fun k9 ls => lv_has ls 5 [(4, .int (nI k9)), (3, .int (bI (eqN σ a b k9))), (0, .ref mo), (1, .int (nI a)), (2, .int (nI b))]) (fun k9 ls hk hL ih => ?_) 0 ls (Nat.zero_le _) (by rw [eqN_0] at hl; exact hl)
    have hl := hL
    have hl : lv_has ls 5 [(4, .int (nI k9)), (3, .int (bI (eqN σ a b k9))), (0, .ref mo), (1, .int (nI a)), (2, .int (nI b))] := hl
    refine lv_iload_n hx hb dX8_sameParts_24 rfl (lv_at hl 1 rfl) ?_
    refine lv_if_eq (tgt := 101) hx hb dX8_sameParts_25 (by decide) (fun c3 => ?_) (fun c3 => ?_)
    · -- 25 taken
      have c3 := bI_0 c3
      refine lv_iload_n hx hb dX8_sameParts_101 rfl (lv_at hl 1 rfl) ?_
      exact ro_zret (v := bI (eqN σ a b k9)) hx hb hr hH hlocks dX8_sameParts_102 bI_b (eqN_f (by omega) c3)
    · -- 25 not
      have c3 := bI_1 c3
      refine lv_iload hx hb dX8_sameParts_28 (lv_at hl 0 rfl) ?_
      refine lv_aload_n hx hb dX8_sameParts_30 rfl (lv_at hl 2 rfl) ?_
      refine va_get (D := D) (ci := 8) (v := .ref ((ad 18))) (C := RX8) (T := TX8) (N := 33) hx hb hts iX8 hown hK.1 hP 0 rfl rfl 18 (by decide) (hts _ q_697) (fun _ h9 => h9) rfl dX8_sameParts_31 ?_
      refine lv_iload_n hx hb dX8_sameParts_34 rfl (lv_at hl 3 rfl) ?_
      refine iald_n (f := σ 18) hx hb hK.1 hP 16 0 rfl rfl (a) rfl (by omega) (by decide) dX8_sameParts_35 ?_
      refine lv_icmp_ge (tgt := 101) hx hb dX8_sameParts_36 (by decide) (fun c4 => ?_) (fun c4 => ?_)
      · -- 36 taken
        have c4 : (mnE σ a) ≤ k9 := (nI_leI (a := (mnE σ a)) (b := k9) (by omega) (by omega)).mp (by have h8 := c4; rw [hma.1] at h8; exact h8)
        refine lv_iload_n hx hb dX8_sameParts_101 rfl (lv_at hl 1 rfl) ?_
        exact ro_zret (v := bI (eqN σ a b k9)) hx hb hr hH hlocks dX8_sameParts_102 bI_b (by rw [show k9 = mnE σ a by omega]; exact bI_c sameP_def.symm)
      · -- 36 not
        have c4 : ¬ (mnE σ a) ≤ k9 := fun h9 => c4 (by rw [hma.1]; exact (nI_leI (a := (mnE σ a)) (b := k9) (by omega) (by omega)).mpr h9)
        refine w_join (P := fun b9 => b9 = bI (eqP σ a b k9)) 94 (ls := ls) (rest := []) (fun b6 e_b6 => ?_) (fun J5 => ?_)
        · -- behind the meeting at 94
          subst e_b6
          refine lv_istore_n (lv' := [(3, .int (bI (eqP σ a b k9))), (4, .int (nI k9)), (0, .ref mo), (1, .int (nI a)), (2, .int (nI b))]) hx hb dX8_sameParts_94 rfl hl (by decide) rfl (fun ls hl => ?_)
          refine lv_iinc (v := nI (k9 + 1)) (lv' := [(4, .int (nI (k9 + 1))), (3, .int (bI (eqP σ a b k9))), (0, .ref mo), (1, .int (nI a)), (2, .int (nI b))]) hx hb dX8_sameParts_95 hl (k := 1) rfl (nI_1 _) (by decide) rfl (fun ls hl => ?_)
          refine lv_goto (tgt := 24) hx hb dX8_sameParts_98 (by decide) ?_
          rw [eqN_s c3] at hl
          exact ih _ (by omega) (lv_sub hl [0, 1, 2, 3, 4] rfl)
        · -- up to the meeting at 94
          refine lv_aload_n hx hb dX8_sameParts_39 rfl (lv_at hl 2 rfl) ?_
          refine va_get (D := D) (ci := 8) (v := .ref ((ad 19))) (C := RX8) (T := TX8) (N := 33) hx hb hts iX8 hown hK.1 hP 0 rfl rfl 19 (by decide) (hts _ q_698) (fun _ h9 => h9) rfl dX8_sameParts_40 ?_
          refine lv_iconst (v := 5) hx hb dX8_sameParts_43 (by decide) ?_
          refine lv_iload_n hx hb dX8_sameParts_44 rfl (lv_at hl 3 rfl) ?_
          refine lv_imul hx hb dX8_sameParts_45 ?_
          refine lv_iload hx hb dX8_sameParts_46 (lv_at hl 0 rfl) ?_
          refine lv_iadd hx hb dX8_sameParts_48 ?_
          refine iald_n (f := σ 19) hx hb hK.1 hP 17 0 rfl rfl (((5 * a) + k9)) (n_add (a := (5 * a)) (b := k9) (n_mul (a := 5) (b := a) (rfl : (5 : Int32) = nI 5) rfl) rfl) (by omega) (by decide) dX8_sameParts_49 ?_
          refine lv_aload_n hx hb dX8_sameParts_50 rfl (lv_at hl 2 rfl) ?_
          refine va_get (D := D) (ci := 8) (v := .ref ((ad 19))) (C := RX8) (T := TX8) (N := 33) hx hb hts iX8 hown hK.1 hP 0 rfl rfl 19 (by decide) (hts _ q_698) (fun _ h9 => h9) rfl dX8_sameParts_51 ?_
          refine lv_iconst (v := 5) hx hb dX8_sameParts_54 (by decide) ?_
          refine lv_iload_n hx hb dX8_sameParts_55 rfl (lv_at hl 4 rfl) ?_
          refine lv_imul hx hb dX8_sameParts_56 ?_
          refine lv_iload hx hb dX8_sameParts_57 (lv_at hl 0 rfl) ?_
          refine lv_iadd hx hb dX8_sameParts_59 ?_
          refine iald_n (f := σ 19) hx hb hK.1 hP 17 0 rfl rfl (((5 * b) + k9)) (n_add (a := (5 * b)) (b := k9) (n_mul (a := 5) (b := b) (rfl : (5 : Int32) = nI 5) rfl) rfl) (by omega) (by decide) dX8_sameParts_60 ?_
          refine lv_icmp_ne (tgt := 93) hx hb dX8_sameParts_61 (by decide) (fun c7 => ?_) (fun c7 => ?_)
          · -- 61 taken
            refine lv_iconst (v := 0) hx hb dX8_sameParts_93 (by decide) ?_
            exact J5 0 ((bI_f (by unfold eqP; simp only [eq_true c3, eq_false c4, eq_false c7, not_true, not_false_iff, not_true_eq_false, not_false_eq_true, true_or, or_true, false_or, or_false, or_self, and_self, true_and, and_true, false_and, and_false, if_true, if_false])).symm)
          · -- 61 not
            refine lv_aload_n hx hb dX8_sameParts_64 rfl (lv_at hl 2 rfl) ?_
            refine va_get (D := D) (ci := 8) (v := .ref ((ad 20))) (C := RX8) (T := TX8) (N := 33) hx hb hts iX8 hown hK.1 hP 0 rfl rfl 20 (by decide) (hts _ q_699) (fun _ h9 => h9) rfl dX8_sameParts_65 ?_
            refine lv_iconst (v := 5) hx hb dX8_sameParts_68 (by decide) ?_
            refine lv_iload_n hx hb dX8_sameParts_69 rfl (lv_at hl 3 rfl) ?_
            refine lv_imul hx hb dX8_sameParts_70 ?_
            refine lv_iload hx hb dX8_sameParts_71 (lv_at hl 0 rfl) ?_
            refine lv_iadd hx hb dX8_sameParts_73 ?_
            refine iald_n (f := σ 20) hx hb hK.1 hP 18 0 rfl rfl (((5 * a) + k9)) (n_add (a := (5 * a)) (b := k9) (n_mul (a := 5) (b := a) (rfl : (5 : Int32) = nI 5) rfl) rfl) (by omega) (by decide) dX8_sameParts_74 ?_
            refine lv_aload_n hx hb dX8_sameParts_75 rfl (lv_at hl 2 rfl) ?_
            refine va_get (D := D) (ci := 8) (v := .ref ((ad 20))) (C := RX8) (T := TX8) (N := 33) hx hb hts iX8 hown hK.1 hP 0 rfl rfl 20 (by decide) (hts _ q_699) (fun _ h9 => h9) rfl dX8_sameParts_76 ?_
            refine lv_iconst (v := 5) hx hb dX8_sameParts_79 (by decide) ?_
            refine lv_iload_n hx hb dX8_sameParts_80 rfl (lv_at hl 4 rfl) ?_
            refine lv_imul hx hb dX8_sameParts_81 ?_
            refine lv_iload hx hb dX8_sameParts_82 (lv_at hl 0 rfl) ?_
            refine lv_iadd hx hb dX8_sameParts_84 ?_
            refine iald_n (f := σ 20) hx hb hK.1 hP 18 0 rfl rfl (((5 * b) + k9)) (n_add (a := (5 * b)) (b := k9) (n_mul (a := 5) (b := b) (rfl : (5 : Int32) = nI 5) rfl) rfl) (by omega) (by decide) dX8_sameParts_85 ?_
            refine lv_icmp_ne (tgt := 93) hx hb dX8_sameParts_86 (by decide) (fun c8 => ?_) (fun c8 => ?_)
            · -- 86 taken
              refine lv_iconst (v := 0) hx hb dX8_sameParts_93 (by decide) ?_
              exact J5 0 ((bI_f (by unfold eqP; simp only [eq_true c3, eq_false c4, eq_true c7, eq_false c8, not_true, not_false_iff, not_true_eq_false, not_false_eq_true, true_or, or_true, false_or, or_false, or_self, and_self, true_and, and_true, false_and, and_false, if_true, if_false])).symm)
            · -- 86 not
              refine lv_iconst (v := 1) hx hb dX8_sameParts_89 (by decide) ?_
              refine lv_goto (tgt := 94) hx hb dX8_sameParts_90 (by decide) ?_
              exact J5 1 ((bI_t (by unfold eqP; simp only [eq_true c3, eq_false c4, eq_true c7, eq_true c8, not_true, not_false_iff, not_true_eq_false, not_false_eq_true, true_or, or_true, false_or, or_false, or_self, and_self, true_and, and_true, false_and, and_false, if_true, if_false])).symm)
  · -- up to the meeting at 20
    refine lv_aload_n hx hb dX8_sameParts_0 rfl (lv_at hl 0 rfl) ?_
    refine va_get (D := D) (ci := 8) (v := .ref ((ad 18))) (C := RX8) (T := TX8) (N := 33) hx hb hts iX8 hown hK.1 hP 0 rfl rfl 18 (by decide) (hts _ q_697) (fun _ h9 => h9) rfl dX8_sameParts_1 ?_
    refine lv_iload_n hx hb dX8_sameParts_4 rfl (lv_at hl 1 rfl) ?_
    refine iald_n (f := σ 18) hx hb hK.1 hP 16 0 rfl rfl (a) rfl (by omega) (by decide) dX8_sameParts_5 ?_
    refine lv_aload_n hx hb dX8_sameParts_6 rfl (lv_at hl 0 rfl) ?_
    refine va_get (D := D) (ci := 8) (v := .ref ((ad 18))) (C := RX8) (T := TX8) (N := 33) hx hb hts iX8 hown hK.1 hP 0 rfl rfl 18 (by decide) (hts _ q_697) (fun _ h9 => h9) rfl dX8_sameParts_7 ?_
    refine lv_iload_n hx hb dX8_sameParts_10 rfl (lv_at hl 2 rfl) ?_
    refine iald_n (f := σ 18) hx hb hK.1 hP 16 0 rfl rfl (b) rfl (by omega) (by decide) dX8_sameParts_11 ?_
    refine lv_icmp_ne (tgt := 19) hx hb dX8_sameParts_12 (by decide) (fun c9 => ?_) (fun c9 => ?_)
    · -- 12 taken
      refine lv_iconst (v := 0) hx hb dX8_sameParts_19 (by decide) ?_
      exact J1 0 ((bI_f c9).symm)
    · -- 12 not
      refine lv_iconst (v := 1) hx hb dX8_sameParts_15 (by decide) ?_
      refine lv_goto (tgt := 20) hx hb dX8_sameParts_16 (by decide) ?_
      exact J1 1 ((bI_t c9).symm)
set_option maxHeartbeats 4000000 in
set_option maxRecDepth 100000 in
theorem m_stands (l : Launch) (D : va_G) (G : Nat → ClassId) (H : Heap) (mo : Nat) (ad : Nat → Nat) (σ : MS) (τ : Nat → Int64) (hP : va_P D vwCl (mW G mo ad σ τ) H) (en : Nat) (he : en < 60) (ho : okE σ en) : Met l yX8_stands (ww yX8_stands cX8_stands 2 (some .boolean)) (rmD 1) (roP D G H [.ref mo, .int (nI en)]) (vp_Si (fun r => r = bI (stP σ en))) 0 0 (fun _ => False) := by
  refine Met.ofW (cc := cX8_stands) (maxL := 2) (ret := (some .boolean)) (by decide) rfl ?_
  intro p e s m args below meth c s₁ B hml hv
  obtain ⟨rfl, hH, hK⟩ := hv
  have hx := B.exec
  have hb := B.bytes
  have hr := B.returns
  have hts : ∀ w ∈ TT, w.before _ s = true := fun w h => atoms_spec (ws := ww yX8_stands cX8_stands 2 (some .boolean)) B.pre w (List.mem_cons_of_mem _ h)
  have hown : s.vm.findClass RX8 = some m.cls := findClass_of_methodNamed B.named
  have hlocks := B.notSynchronized
  rw [hH]
  have hl := lv_entry ([.ref mo, .int (nI en)]) (n := 2) (Nat.le_of_ble_eq_true rfl)
  rw [lg_entry_eq]
  generalize (lg_sl ([.ref mo, .int (nI en)]) ++ List.replicate (2 - (lg_sl ([.ref mo, .int (nI en)])).length) Slot.unset).toArray = ls at hl ⊢
  have hl : lv_has ls 2 [(0, .ref mo), (1, .int (nI en))] := hl
  refine lv_aload_n hx hb dX8_stands_0 rfl (lv_at hl 0 rfl) ?_
  refine va_get (D := D) (ci := 8) (v := .ref ((ad 13))) (C := RX8) (T := TX8) (N := 33) hx hb hts iX8 hown hK.1 hP 0 rfl rfl 13 (by decide) (hts _ q_692) (fun _ h9 => h9) rfl dX8_stands_1 ?_
  refine lv_iload_n hx hb dX8_stands_4 rfl (lv_at hl 1 rfl) ?_
  refine iald_n (f := σ 13) hx hb hK.1 hP 11 0 rfl rfl (en) rfl (by omega) (by decide) dX8_stands_5 ?_
  refine lv_bipush (v := 8) hx hb dX8_stands_6 (by decide) ?_
  refine lv_iand hx hb dX8_stands_8 ?_
  refine lv_if_le (tgt := 29) hx hb dX8_stands_9 (by decide) (fun c1 => ?_) (fun c1 => ?_)
  · -- 9 taken
    have c1 := and_le (by decide) c1
    refine lv_iconst (v := 0) hx hb dX8_stands_29 (by decide) ?_
    exact ro_zret (v := 0) hx hb hr hH hlocks dX8_stands_30 (Or.inl rfl) ((bI_f (by rw [stP_def]; simp only [eq_true c1, not_true, not_false_iff, not_true_eq_false, not_false_eq_true, true_or, or_true, false_or, or_false, or_self, and_self, true_and, and_true, false_and, and_false, if_true, if_false])).symm)
  · -- 9 not
    have c1 := and_nle c1
    refine lv_aload_n hx hb dX8_stands_12 rfl (lv_at hl 0 rfl) ?_
    refine lv_aload_n hx hb dX8_stands_13 rfl (lv_at hl 0 rfl) ?_
    refine va_get (D := D) (ci := 8) (v := .ref ((ad 9))) (C := RX8) (T := TX8) (N := 33) hx hb hts iX8 hown hK.1 hP 0 rfl rfl 9 (by decide) (hts _ q_688) (fun _ h9 => h9) rfl dX8_stands_14 ?_
    refine lv_iload_n hx hb dX8_stands_17 rfl (lv_at hl 1 rfl) ?_
    refine iald_n (f := σ 9) hx hb hK.1 hP 7 0 rfl rfl (en) rfl (by omega) (by decide) dX8_stands_18 ?_
    refine W.eq (g2 := F0 m 19 ls [.int (nI (tyE σ en)), .ref mo]) (congrArg (fun z9 => F0 m 19 ls [.int z9, .ref mo]) ho.1) ?_
    refine ro_Vi (D := D) (G := G) (As := [.int (nI (tyE σ en))]) (rest := []) ⟨hx, hb, hml, hown, hts⟩ (m_isFace l D G _ mo ad _ _ hP ((tyE σ en)) (by omega)) gV_X8_X8_isFace hdV_X8_isFace ⟨Nat.le_of_ble_eq_true rfl, Nat.le_of_ble_eq_true rfl⟩ hK (va_recv hK.1 hP (ci := 8) (q0 := 0) rfl rfl) rfl hl.1 rfl (Nat.le_of_ble_eq_true rfl) dX8_stands_19 ⟨Nat.le_of_ble_eq_true rfl, Nat.le_of_ble_eq_true rfl⟩ (fun r2 e_r2 => ?_)
    subst e_r2
    refine lv_if_eq (tgt := 29) hx hb dX8_stands_22 (by decide) (fun c3 => ?_) (fun c3 => ?_)
    · -- 22 taken
      have c3 := bI_0 c3
      refine lv_iconst (v := 0) hx hb dX8_stands_29 (by decide) ?_
      exact ro_zret (v := 0) hx hb hr hH hlocks dX8_stands_30 (Or.inl rfl) ((bI_f (by rw [stP_def]; simp only [eq_false c1, eq_false c3, not_true, not_false_iff, not_true_eq_false, not_false_eq_true, true_or, or_true, false_or, or_false, or_self, and_self, true_and, and_true, false_and, and_false, if_true, if_false])).symm)
    · -- 22 not
      have c3 := bI_1 c3
      refine lv_iconst (v := 1) hx hb dX8_stands_25 (by decide) ?_
      refine lv_goto (tgt := 30) hx hb dX8_stands_26 (by decide) ?_
      exact ro_zret (v := 1) hx hb hr hH hlocks dX8_stands_30 (Or.inr rfl) ((bI_t (by rw [stP_def]; simp only [eq_false c1, eq_true c3, not_true, not_false_iff, not_true_eq_false, not_false_eq_true, true_or, or_true, false_or, or_false, or_self, and_self, true_and, and_true, false_and, and_false, if_true, if_false])).symm)
set_option maxHeartbeats 4000000 in
set_option maxRecDepth 100000 in
theorem m_meets (l : Launch) (D : va_G) (G : Nat → ClassId) (H : Heap) (mo : Nat) (ad : Nat → Nat) (σ : MS) (τ : Nat → Int64) (hP : va_P D vwCl (mW G mo ad σ τ) H) (a b : Nat) (ha : a < 60) (hb0 : b < 60) (hea : okE σ a) (heb : okE σ b) (hma : okM σ a) (hb6 : ∀ i, σ 6 i = 0 ∨ σ 6 i = 1) : Met l yX8_meets (ww yX8_meets cX8_meets 3 (some .boolean)) (rmD 2) (roP D G H [.ref mo, .int (nI a), .int (nI b)]) (vp_Si (fun r => r = bI (meetP σ a b))) 0 0 (fun _ => False) := by
  refine Met.ofW (cc := cX8_meets) (maxL := 3) (ret := (some .boolean)) (by decide) rfl ?_
  intro p e s m args below meth c s₁ B hml hv
  obtain ⟨rfl, hH, hK⟩ := hv
  have hx := B.exec
  have hb := B.bytes
  have hr := B.returns
  have hts : ∀ w ∈ TT, w.before _ s = true := fun w h => atoms_spec (ws := ww yX8_meets cX8_meets 3 (some .boolean)) B.pre w (List.mem_cons_of_mem _ h)
  have hown : s.vm.findClass RX8 = some m.cls := findClass_of_methodNamed B.named
  have hlocks := B.notSynchronized
  rw [hH]
  have hl := lv_entry ([.ref mo, .int (nI a), .int (nI b)]) (n := 3) (Nat.le_of_ble_eq_true rfl)
  rw [lg_entry_eq]
  generalize (lg_sl ([.ref mo, .int (nI a), .int (nI b)]) ++ List.replicate (3 - (lg_sl ([.ref mo, .int (nI a), .int (nI b)])).length) Slot.unset).toArray = ls at hl ⊢
  have hl : lv_has ls 3 [(0, .ref mo), (1, .int (nI a)), (2, .int (nI b))] := hl
  refine lv_aload_n hx hb dX8_meets_0 rfl (lv_at hl 0 rfl) ?_
  refine va_get (D := D) (ci := 8) (v := .ref ((ad 8))) (C := RX8) (T := TX8) (N := 33) hx hb hts iX8 hown hK.1 hP 0 rfl rfl 8 (by decide) (hts _ q_687) (fun _ h9 => h9) rfl dX8_meets_1 ?_
  refine lv_iload_n hx hb dX8_meets_4 rfl (lv_at hl 2 rfl) ?_
  refine zald_n (f := σ 8) hx hb hK.1 hP 6 2 rfl rfl (b) rfl (by omega) (by decide) dX8_meets_5 ?_
  refine lv_if_eq (tgt := 52) hx hb dX8_meets_6 (by decide) (fun c1 => ?_) (fun c1 => ?_)
  · -- 6 taken
    refine lv_iconst (v := 0) hx hb dX8_meets_52 (by decide) ?_
    exact ro_zret (v := 0) hx hb hr hH hlocks dX8_meets_53 (Or.inl rfl) ((bI_f (by rw [meetP_def]; simp only [eq_true c1, not_true, not_false_iff, not_true_eq_false, not_false_eq_true, true_or, or_true, false_or, or_false, or_self, and_self, true_and, and_true, false_and, and_false, if_true, if_false])).symm)
  · -- 6 not
    refine lv_iload_n hx hb dX8_meets_9 rfl (lv_at hl 1 rfl) ?_
    refine lv_iload_n hx hb dX8_meets_10 rfl (lv_at hl 2 rfl) ?_
    refine lv_icmp_eq (tgt := 52) hx hb dX8_meets_11 (by decide) (fun c2 => ?_) (fun c2 => ?_)
    · -- 11 taken
      have c2 := nI_inj (by omega) (by omega) c2
      refine lv_iconst (v := 0) hx hb dX8_meets_52 (by decide) ?_
      exact ro_zret (v := 0) hx hb hr hH hlocks dX8_meets_53 (Or.inl rfl) ((bI_f (by rw [meetP_def]; simp only [eq_false c1, eq_true c2, not_true, not_false_iff, not_true_eq_false, not_false_eq_true, true_or, or_true, false_or, or_false, or_self, and_self, true_and, and_true, false_and, and_false, if_true, if_false])).symm)
    · -- 11 not
      have c2 : ¬ a = b := fun h9 => c2 (by rw [h9])
      refine lv_aload_n hx hb dX8_meets_14 rfl (lv_at hl 0 rfl) ?_
      refine va_get (D := D) (ci := 8) (v := .ref ((ad 13))) (C := RX8) (T := TX8) (N := 33) hx hb hts iX8 hown hK.1 hP 0 rfl rfl 13 (by decide) (hts _ q_692) (fun _ h9 => h9) rfl dX8_meets_15 ?_
      refine lv_iload_n hx hb dX8_meets_18 rfl (lv_at hl 1 rfl) ?_
      refine iald_n (f := σ 13) hx hb hK.1 hP 11 0 rfl rfl (a) rfl (by omega) (by decide) dX8_meets_19 ?_
      refine lv_iconst (v := 4) hx hb dX8_meets_20 (by decide) ?_
      refine lv_iand hx hb dX8_meets_21 ?_
      refine lv_if_gt (tgt := 52) hx hb dX8_meets_22 (by decide) (fun c3 => ?_) (fun c3 => ?_)
      · -- 22 taken
        have c3 := and_gt c3
        refine lv_iconst (v := 0) hx hb dX8_meets_52 (by decide) ?_
        exact ro_zret (v := 0) hx hb hr hH hlocks dX8_meets_53 (Or.inl rfl) ((bI_f (by rw [meetP_def]; simp only [eq_false c1, eq_false c2, eq_false c3, not_true, not_false_iff, not_true_eq_false, not_false_eq_true, true_or, or_true, false_or, or_false, or_self, and_self, true_and, and_true, false_and, and_false, if_true, if_false])).symm)
      · -- 22 not
        have c3 := and_ngt (by decide) c3
        refine lv_aload_n hx hb dX8_meets_25 rfl (lv_at hl 0 rfl) ?_
        refine va_get (D := D) (ci := 8) (v := .ref ((ad 13))) (C := RX8) (T := TX8) (N := 33) hx hb hts iX8 hown hK.1 hP 0 rfl rfl 13 (by decide) (hts _ q_692) (fun _ h9 => h9) rfl dX8_meets_26 ?_
        refine lv_iload_n hx hb dX8_meets_29 rfl (lv_at hl 2 rfl) ?_
        refine iald_n (f := σ 13) hx hb hK.1 hP 11 0 rfl rfl (b) rfl (by omega) (by decide) dX8_meets_30 ?_
        refine lv_iconst (v := 4) hx hb dX8_meets_31 (by decide) ?_
        refine lv_iand hx hb dX8_meets_32 ?_
        refine lv_if_gt (tgt := 52) hx hb dX8_meets_33 (by decide) (fun c4 => ?_) (fun c4 => ?_)
        · -- 33 taken
          have c4 := and_gt c4
          refine lv_iconst (v := 0) hx hb dX8_meets_52 (by decide) ?_
          exact ro_zret (v := 0) hx hb hr hH hlocks dX8_meets_53 (Or.inl rfl) ((bI_f (by rw [meetP_def]; simp only [eq_false c1, eq_false c2, eq_true c3, eq_false c4, not_true, not_false_iff, not_true_eq_false, not_false_eq_true, true_or, or_true, false_or, or_false, or_self, and_self, true_and, and_true, false_and, and_false, if_true, if_false])).symm)
        · -- 33 not
          have c4 := and_ngt (by decide) c4
          refine lv_aload_n hx hb dX8_meets_36 rfl (lv_at hl 0 rfl) ?_
          refine lv_iload_n hx hb dX8_meets_37 rfl (lv_at hl 1 rfl) ?_
          refine ro_Vi (D := D) (G := G) (As := [.int (nI a)]) (rest := []) ⟨hx, hb, hml, hown, hts⟩ (m_stands l D G _ mo ad _ _ hP (a) (by omega) hea) gV_X8_X8_stands hdV_X8_stands ⟨Nat.le_of_ble_eq_true rfl, Nat.le_of_ble_eq_true rfl⟩ hK (va_recv hK.1 hP (ci := 8) (q0 := 0) rfl rfl) rfl hl.1 rfl (Nat.le_of_ble_eq_true rfl) dX8_meets_38 ⟨Nat.le_of_ble_eq_true rfl, Nat.le_of_ble_eq_true rfl⟩ (fun r5 e_r5 => ?_)
          subst e_r5
          refine lv_if_ne (tgt := 52) hx hb dX8_meets_41 (by decide) (fun c6 => ?_) (fun c6 => ?_)
          · -- 41 taken
            have c6 := bI_1 c6
            refine lv_iconst (v := 0) hx hb dX8_meets_52 (by decide) ?_
            exact ro_zret (v := 0) hx hb hr hH hlocks dX8_meets_53 (Or.inl rfl) ((bI_f (by rw [meetP_def]; simp only [eq_false c1, eq_false c2, eq_true c3, eq_true c4, eq_true c6, not_true, not_false_iff, not_true_eq_false, not_false_eq_true, true_or, or_true, false_or, or_false, or_self, and_self, true_and, and_true, false_and, and_false, if_true, if_false])).symm)
          · -- 41 not
            have c6 := bI_0 c6
            refine lv_aload_n hx hb dX8_meets_44 rfl (lv_at hl 0 rfl) ?_
            refine lv_iload_n hx hb dX8_meets_45 rfl (lv_at hl 2 rfl) ?_
            refine ro_Vi (D := D) (G := G) (As := [.int (nI b)]) (rest := []) ⟨hx, hb, hml, hown, hts⟩ (m_stands l D G _ mo ad _ _ hP (b) (by omega) heb) gV_X8_X8_stands hdV_X8_stands ⟨Nat.le_of_ble_eq_true rfl, Nat.le_of_ble_eq_true rfl⟩ hK (va_recv hK.1 hP (ci := 8) (q0 := 0) rfl rfl) rfl hl.1 rfl (Nat.le_of_ble_eq_true rfl) dX8_meets_46 ⟨Nat.le_of_ble_eq_true rfl, Nat.le_of_ble_eq_true rfl⟩ (fun r7 e_r7 => ?_)
            subst e_r7
            refine lv_if_eq (tgt := 54) hx hb dX8_meets_49 (by decide) (fun c8 => ?_) (fun c8 => ?_)
            · -- 49 taken
              have c8 := bI_0 c8
              refine lv_aload_n hx hb dX8_meets_54 rfl (lv_at hl 0 rfl) ?_
              refine va_get (D := D) (ci := 8) (v := .ref ((ad 10))) (C := RX8) (T := TX8) (N := 33) hx hb hts iX8 hown hK.1 hP 0 rfl rfl 10 (by decide) (hts _ q_689) (fun _ h9 => h9) rfl dX8_meets_55 ?_
              refine lv_iload_n hx hb dX8_meets_58 rfl (lv_at hl 1 rfl) ?_
              refine iald_n (f := σ 10) hx hb hK.1 hP 8 0 rfl rfl (a) rfl (by omega) (by decide) dX8_meets_59 ?_
              refine lv_aload_n hx hb dX8_meets_60 rfl (lv_at hl 0 rfl) ?_
              refine va_get (D := D) (ci := 8) (v := .ref ((ad 10))) (C := RX8) (T := TX8) (N := 33) hx hb hts iX8 hown hK.1 hP 0 rfl rfl 10 (by decide) (hts _ q_689) (fun _ h9 => h9) rfl dX8_meets_61 ?_
              refine lv_iload_n hx hb dX8_meets_64 rfl (lv_at hl 2 rfl) ?_
              refine iald_n (f := σ 10) hx hb hK.1 hP 8 0 rfl rfl (b) rfl (by omega) (by decide) dX8_meets_65 ?_
              refine lv_icmp_ne (tgt := 116) hx hb dX8_meets_66 (by decide) (fun c9 => ?_) (fun c9 => ?_)
              · -- 66 taken
                refine lv_iconst (v := 0) hx hb dX8_meets_116 (by decide) ?_
                exact ro_zret (v := 0) hx hb hr hH hlocks dX8_meets_117 (Or.inl rfl) ((bI_f (by rw [meetP_def]; simp only [eq_false c1, eq_false c2, eq_true c3, eq_true c4, eq_false c6, eq_false c8, eq_false c9, not_true, not_false_iff, not_true_eq_false, not_false_eq_true, true_or, or_true, false_or, or_false, or_self, and_self, true_and, and_true, false_and, and_false, if_true, if_false])).symm)
              · -- 66 not
                refine lv_aload_n hx hb dX8_meets_69 rfl (lv_at hl 0 rfl) ?_
                refine va_get (D := D) (ci := 8) (v := .ref ((ad 9))) (C := RX8) (T := TX8) (N := 33) hx hb hts iX8 hown hK.1 hP 0 rfl rfl 9 (by decide) (hts _ q_688) (fun _ h9 => h9) rfl dX8_meets_70 ?_
                refine lv_iload_n hx hb dX8_meets_73 rfl (lv_at hl 1 rfl) ?_
                refine iald_n (f := σ 9) hx hb hK.1 hP 7 0 rfl rfl (a) rfl (by omega) (by decide) dX8_meets_74 ?_
                refine lv_aload_n hx hb dX8_meets_75 rfl (lv_at hl 0 rfl) ?_
                refine va_get (D := D) (ci := 8) (v := .ref ((ad 9))) (C := RX8) (T := TX8) (N := 33) hx hb hts iX8 hown hK.1 hP 0 rfl rfl 9 (by decide) (hts _ q_688) (fun _ h9 => h9) rfl dX8_meets_76 ?_
                refine lv_iload_n hx hb dX8_meets_79 rfl (lv_at hl 2 rfl) ?_
                refine iald_n (f := σ 9) hx hb hK.1 hP 7 0 rfl rfl (b) rfl (by omega) (by decide) dX8_meets_80 ?_
                refine lv_icmp_eq (tgt := 116) hx hb dX8_meets_81 (by decide) (fun c10 => ?_) (fun c10 => ?_)
                · -- 81 taken
                  refine lv_iconst (v := 0) hx hb dX8_meets_116 (by decide) ?_
                  exact ro_zret (v := 0) hx hb hr hH hlocks dX8_meets_117 (Or.inl rfl) ((bI_f (by rw [meetP_def]; simp only [eq_false c1, eq_false c2, eq_true c3, eq_true c4, eq_false c6, eq_false c8, eq_true c9, eq_true c10, not_true, not_false_iff, not_true_eq_false, not_false_eq_true, true_or, or_true, false_or, or_false, or_self, and_self, true_and, and_true, false_and, and_false, if_true, if_false])).symm)
                · -- 81 not
                  refine lv_aload_n hx hb dX8_meets_84 rfl (lv_at hl 0 rfl) ?_
                  refine lv_aload_n hx hb dX8_meets_85 rfl (lv_at hl 0 rfl) ?_
                  refine va_get (D := D) (ci := 8) (v := .ref ((ad 9))) (C := RX8) (T := TX8) (N := 33) hx hb hts iX8 hown hK.1 hP 0 rfl rfl 9 (by decide) (hts _ q_688) (fun _ h9 => h9) rfl dX8_meets_86 ?_
                  refine lv_iload_n hx hb dX8_meets_89 rfl (lv_at hl 1 rfl) ?_
                  refine iald_n (f := σ 9) hx hb hK.1 hP 7 0 rfl rfl (a) rfl (by omega) (by decide) dX8_meets_90 ?_
                  refine lv_aload_n hx hb dX8_meets_91 rfl (lv_at hl 0 rfl) ?_
                  refine va_get (D := D) (ci := 8) (v := .ref ((ad 9))) (C := RX8) (T := TX8) (N := 33) hx hb hts iX8 hown hK.1 hP 0 rfl rfl 9 (by decide) (hts _ q_688) (fun _ h9 => h9) rfl dX8_meets_92 ?_
                  refine lv_iload_n hx hb dX8_meets_95 rfl (lv_at hl 2 rfl) ?_
                  refine iald_n (f := σ 9) hx hb hK.1 hP 7 0 rfl rfl (b) rfl (by omega) (by decide) dX8_meets_96 ?_
                  refine W.eq (g2 := F0 m 97 ls [.int (σ 9 b), .int (nI (tyE σ a)), .ref mo]) (congrArg (fun z9 => F0 m 97 ls [.int (σ 9 b), .int z9, .ref mo]) hea.1) ?_
                  refine W.eq (g2 := F0 m 97 ls [.int (nI (tyE σ b)), .int (nI (tyE σ a)), .ref mo]) (congrArg (fun z9 => F0 m 97 ls [.int z9, .int (nI (tyE σ a)), .ref mo]) heb.1) ?_
                  refine ro_Vi (D := D) (G := G) (As := [.int (nI (tyE σ a)), .int (nI (tyE σ b))]) (rest := []) ⟨hx, hb, hml, hown, hts⟩ (m_lies l D G _ mo ad _ _ hP ((tyE σ a)) ((tyE σ b)) (by omega) (by omega) hb6) gV_X8_X8_lies hdV_X8_lies ⟨Nat.le_of_ble_eq_true rfl, Nat.le_of_ble_eq_true rfl⟩ hK (va_recv hK.1 hP (ci := 8) (q0 := 0) rfl rfl) rfl hl.1 rfl (Nat.le_of_ble_eq_true rfl) dX8_meets_97 ⟨Nat.le_of_ble_eq_true rfl, Nat.le_of_ble_eq_true rfl⟩ (fun r11 e_r11 => ?_)
                  subst e_r11
                  refine lv_if_eq (tgt := 116) hx hb dX8_meets_100 (by decide) (fun c12 => ?_) (fun c12 => ?_)
                  · -- 100 taken
                    have c12 := bI_0 c12
                    refine lv_iconst (v := 0) hx hb dX8_meets_116 (by decide) ?_
                    exact ro_zret (v := 0) hx hb hr hH hlocks dX8_meets_117 (Or.inl rfl) ((bI_f (by rw [meetP_def]; simp only [eq_false c1, eq_false c2, eq_true c3, eq_true c4, eq_false c6, eq_false c8, eq_true c9, eq_false c10, eq_false c12, not_true, not_false_iff, not_true_eq_false, not_false_eq_true, true_or, or_true, false_or, or_false, or_self, and_self, true_and, and_true, false_and, and_false, if_true, if_false])).symm)
                  · -- 100 not
                    have c12 := bI_1 c12
                    refine lv_aload_n hx hb dX8_meets_103 rfl (lv_at hl 0 rfl) ?_
                    refine lv_iload_n hx hb dX8_meets_104 rfl (lv_at hl 1 rfl) ?_
                    refine lv_iload_n hx hb dX8_meets_105 rfl (lv_at hl 2 rfl) ?_
                    refine ro_Vi (D := D) (G := G) (As := [.int (nI a), .int (nI b)]) (rest := []) ⟨hx, hb, hml, hown, hts⟩ (m_sameParts l D G _ mo ad _ _ hP (a) (b) (by omega) (by omega) hma) gV_X8_X8_sameParts hdV_X8_sameParts ⟨Nat.le_of_ble_eq_true rfl, Nat.le_of_ble_eq_true rfl⟩ hK (va_recv hK.1 hP (ci := 8) (q0 := 0) rfl rfl) rfl hl.1 rfl (Nat.le_of_ble_eq_true rfl) dX8_meets_106 ⟨Nat.le_of_ble_eq_true rfl, Nat.le_of_ble_eq_true rfl⟩ (fun r13 e_r13 => ?_)
                    subst e_r13
                    refine lv_if_eq (tgt := 116) hx hb dX8_meets_109 (by decide) (fun c14 => ?_) (fun c14 => ?_)
                    · -- 109 taken
                      have c14 := bI_0 c14
                      refine lv_iconst (v := 0) hx hb dX8_meets_116 (by decide) ?_
                      exact ro_zret (v := 0) hx hb hr hH hlocks dX8_meets_117 (Or.inl rfl) ((bI_f (by rw [meetP_def]; simp only [eq_false c1, eq_false c2, eq_true c3, eq_true c4, eq_false c6, eq_false c8, eq_true c9, eq_false c10, eq_true c12, eq_false c14, not_true, not_false_iff, not_true_eq_false, not_false_eq_true, true_or, or_true, false_or, or_false, or_self, and_self, true_and, and_true, false_and, and_false, if_true, if_false])).symm)
                    · -- 109 not
                      have c14 := bI_1 c14
                      refine lv_iconst (v := 1) hx hb dX8_meets_112 (by decide) ?_
                      refine lv_goto (tgt := 117) hx hb dX8_meets_113 (by decide) ?_
                      exact ro_zret (v := 1) hx hb hr hH hlocks dX8_meets_117 (Or.inr rfl) ((bI_t (by rw [meetP_def]; simp only [eq_false c1, eq_false c2, eq_true c3, eq_true c4, eq_false c6, eq_false c8, eq_true c9, eq_false c10, eq_true c12, eq_true c14, not_true, not_false_iff, not_true_eq_false, not_false_eq_true, true_or, or_true, false_or, or_false, or_self, and_self, true_and, and_true, false_and, and_false, if_true, if_false])).symm)
            · -- 49 not
              have c8 := bI_1 c8
              refine lv_iconst (v := 0) hx hb dX8_meets_52 (by decide) ?_
              exact ro_zret (v := 0) hx hb hr hH hlocks dX8_meets_53 (Or.inl rfl) ((bI_f (by rw [meetP_def]; simp only [eq_false c1, eq_false c2, eq_true c3, eq_true c4, eq_false c6, eq_true c8, not_true, not_false_iff, not_true_eq_false, not_false_eq_true, true_or, or_true, false_or, or_false, or_self, and_self, true_and, and_true, false_and, and_false, if_true, if_false])).symm)
set_option maxHeartbeats 4000000 in
set_option maxRecDepth 100000 in
theorem m_seen (l : Launch) (D : va_G) (G : Nat → ClassId) (H : Heap) (mo : Nat) (ad : Nat → Nat) (σ : MS) (τ : Nat → Int64) (hP : va_P D vwCl (mW G mo ad σ τ) H) (en : Nat) (he : en < 60) : Met l yX8_seen (ww yX8_seen cX8_seen 2 (some .int)) (rmD 0) (roP D G H [.ref mo, .int (nI en)]) (vp_Si (fun r => r = seenF (σ 13 en))) 0 0 (fun _ => False) := by
  refine Met.ofW (cc := cX8_seen) (maxL := 2) (ret := (some .int)) (by decide) rfl ?_
  intro p e s m args below meth c s₁ B hml hv
  obtain ⟨rfl, hH, hK⟩ := hv
  have hx := B.exec
  have hb := B.bytes
  have hr := B.returns
  have hts : ∀ w ∈ TT, w.before _ s = true := fun w h => atoms_spec (ws := ww yX8_seen cX8_seen 2 (some .int)) B.pre w (List.mem_cons_of_mem _ h)
  have hown : s.vm.findClass RX8 = some m.cls := findClass_of_methodNamed B.named
  have hlocks := B.notSynchronized
  rw [hH]
  have hl := lv_entry ([.ref mo, .int (nI en)]) (n := 2) (Nat.le_of_ble_eq_true rfl)
  rw [lg_entry_eq]
  generalize (lg_sl ([.ref mo, .int (nI en)]) ++ List.replicate (2 - (lg_sl ([.ref mo, .int (nI en)])).length) Slot.unset).toArray = ls at hl ⊢
  have hl : lv_has ls 2 [(0, .ref mo), (1, .int (nI en))] := hl
  refine lv_aload_n hx hb dX8_seen_0 rfl (lv_at hl 0 rfl) ?_
  refine va_get (D := D) (ci := 8) (v := .ref ((ad 13))) (C := RX8) (T := TX8) (N := 33) hx hb hts iX8 hown hK.1 hP 0 rfl rfl 13 (by decide) (hts _ q_692) (fun _ h9 => h9) rfl dX8_seen_1 ?_
  refine lv_iload_n hx hb dX8_seen_4 rfl (lv_at hl 1 rfl) ?_
  refine iald_n (f := σ 13) hx hb hK.1 hP 11 0 rfl rfl (en) rfl (by omega) (by decide) dX8_seen_5 ?_
  refine lv_iconst (v := 1) hx hb dX8_seen_6 (by decide) ?_
  refine lv_iand hx hb dX8_seen_7 ?_
  refine lv_if_le (tgt := 15) hx hb dX8_seen_8 (by decide) (fun c1 => ?_) (fun c1 => ?_)
  · -- 8 taken
    have c1 := and_le (by decide) c1
    refine lv_aload_n hx hb dX8_seen_15 rfl (lv_at hl 0 rfl) ?_
    refine va_get (D := D) (ci := 8) (v := .ref ((ad 13))) (C := RX8) (T := TX8) (N := 33) hx hb hts iX8 hown hK.1 hP 0 rfl rfl 13 (by decide) (hts _ q_692) (fun _ h9 => h9) rfl dX8_seen_16 ?_
    refine lv_iload_n hx hb dX8_seen_19 rfl (lv_at hl 1 rfl) ?_
    refine iald_n (f := σ 13) hx hb hK.1 hP 11 0 rfl rfl (en) rfl (by omega) (by decide) dX8_seen_20 ?_
    refine lv_iconst (v := 2) hx hb dX8_seen_21 (by decide) ?_
    refine lv_iand hx hb dX8_seen_22 ?_
    refine lv_if_le (tgt := 30) hx hb dX8_seen_23 (by decide) (fun c2 => ?_) (fun c2 => ?_)
    · -- 23 taken
      have c2 := and_le (by decide) c2
      refine lv_aload_n hx hb dX8_seen_30 rfl (lv_at hl 0 rfl) ?_
      refine va_get (D := D) (ci := 8) (v := .ref ((ad 13))) (C := RX8) (T := TX8) (N := 33) hx hb hts iX8 hown hK.1 hP 0 rfl rfl 13 (by decide) (hts _ q_692) (fun _ h9 => h9) rfl dX8_seen_31 ?_
      refine lv_iload_n hx hb dX8_seen_34 rfl (lv_at hl 1 rfl) ?_
      refine iald_n (f := σ 13) hx hb hK.1 hP 11 0 rfl rfl (en) rfl (by omega) (by decide) dX8_seen_35 ?_
      refine lv_iconst (v := 4) hx hb dX8_seen_36 (by decide) ?_
      refine lv_iand hx hb dX8_seen_37 ?_
      refine lv_if_le (tgt := 45) hx hb dX8_seen_38 (by decide) (fun c3 => ?_) (fun c3 => ?_)
      · -- 38 taken
        have c3 := and_le (by decide) c3
        refine lv_iconst (v := 1) hx hb dX8_seen_45 (by decide) ?_
        exact ro_iret (v := 1) hx hb hr hH hlocks dX8_seen_46 (by unfold seenF; simp only [eq_true c1, eq_true c2, eq_true c3, not_true, not_false_iff, not_true_eq_false, not_false_eq_true, true_or, or_true, false_or, or_false, or_self, and_self, true_and, and_true, false_and, and_false, if_true, if_false])
      · -- 38 not
        have c3 := and_nle c3
        refine lv_iconst (v := 0) hx hb dX8_seen_41 (by decide) ?_
        refine lv_goto (tgt := 46) hx hb dX8_seen_42 (by decide) ?_
        exact ro_iret (v := 0) hx hb hr hH hlocks dX8_seen_46 (by unfold seenF; simp only [eq_true c1, eq_true c2, eq_false c3, not_true, not_false_iff, not_true_eq_false, not_false_eq_true, true_or, or_true, false_or, or_false, or_self, and_self, true_and, and_true, false_and, and_false, if_true, if_false])
    · -- 23 not
      have c2 := and_nle c2
      refine lv_iconst (v := 2) hx hb dX8_seen_26 (by decide) ?_
      refine lv_goto (tgt := 46) hx hb dX8_seen_27 (by decide) ?_
      exact ro_iret (v := 2) hx hb hr hH hlocks dX8_seen_46 (by unfold seenF; simp only [eq_true c1, eq_false c2, not_true, not_false_iff, not_true_eq_false, not_false_eq_true, true_or, or_true, false_or, or_false, or_self, and_self, true_and, and_true, false_and, and_false, if_true, if_false])
  · -- 8 not
    have c1 := and_nle c1
    refine lv_iconst (v := 3) hx hb dX8_seen_11 (by decide) ?_
    refine lv_goto (tgt := 46) hx hb dX8_seen_12 (by decide) ?_
    exact ro_iret (v := 3) hx hb hr hH hlocks dX8_seen_46 (by unfold seenF; simp only [eq_false c1, not_true, not_false_iff, not_true_eq_false, not_false_eq_true, true_or, or_true, false_or, or_false, or_self, and_self, true_and, and_true, false_and, and_false, if_true, if_false])
set_option maxHeartbeats 4000000 in
set_option maxRecDepth 100000 in
theorem m_ruleAgainst (l : Launch) (D : va_G) (G : Nat → ClassId) (H : Heap) (mo : Nat) (ad : Nat → Nat) (σ : MS) (τ : Nat → Int64) (hP : va_P D vwCl (mW G mo ad σ τ) H) (a b : Nat) (ha : a < 60) (hb0 : b < 60) (hka : kdO (σ 11 a)) (hkb : kdO (σ 11 b)) (hb6 : ∀ i, σ 6 i = 0 ∨ σ 6 i = 1) : Met l yX8_ruleAgainst (ww yX8_ruleAgainst cX8_ruleAgainst 5 (some .int)) (rmD 1) (roP D G H [.ref mo, .int (nI a), .int (nI b)]) (vp_Si (fun r => r = aRA σ a b)) 0 0 (fun _ => False) := by
  refine Met.ofW (cc := cX8_ruleAgainst) (maxL := 5) (ret := (some .int)) (by decide) rfl ?_
  intro p e s m args below meth c s₁ B hml hv
  obtain ⟨rfl, hH, hK⟩ := hv
  have hx := B.exec
  have hb := B.bytes
  have hr := B.returns
  have hts : ∀ w ∈ TT, w.before _ s = true := fun w h => atoms_spec (ws := ww yX8_ruleAgainst cX8_ruleAgainst 5 (some .int)) B.pre w (List.mem_cons_of_mem _ h)
  have hown : s.vm.findClass RX8 = some m.cls := findClass_of_methodNamed B.named
  have hlocks := B.notSynchronized
  rw [hH]
  have hl := lv_entry ([.ref mo, .int (nI a), .int (nI b)]) (n := 5) (Nat.le_of_ble_eq_true rfl)
  rw [lg_entry_eq]
  generalize (lg_sl ([.ref mo, .int (nI a), .int (nI b)]) ++ List.replicate (5 - (lg_sl ([.ref mo, .int (nI a), .int (nI b)])).length) Slot.unset).toArray = ls at hl ⊢
  have hl : lv_has ls 5 [(0, .ref mo), (1, .int (nI a)), (2, .int (nI b))] := hl
  refine lv_aload_n hx hb dX8_ruleAgainst_0 rfl (lv_at hl 0 rfl) ?_
  refine va_get (D := D) (ci := 8) (v := .ref ((ad 13))) (C := RX8) (T := TX8) (N := 33) hx hb hts iX8 hown hK.1 hP 0 rfl rfl 13 (by decide) (hts _ q_692) (fun _ h9 => h9) rfl dX8_ruleAgainst_1 ?_
  refine lv_iload_n hx hb dX8_ruleAgainst_4 rfl (lv_at hl 2 rfl) ?_
  refine iald_n (f := σ 13) hx hb hK.1 hP 11 0 rfl rfl (b) rfl (by omega) (by decide) dX8_ruleAgainst_5 ?_
  refine lv_bipush (v := 16) hx hb dX8_ruleAgainst_6 (by decide) ?_
  refine lv_iand hx hb dX8_ruleAgainst_8 ?_
  refine lv_if_le (tgt := 15) hx hb dX8_ruleAgainst_9 (by decide) (fun c1 => ?_) (fun c1 => ?_)
  · -- 9 taken
    have c1 := and_le (by decide) c1
    refine lv_aload_n hx hb dX8_ruleAgainst_15 rfl (lv_at hl 0 rfl) ?_
    refine va_get (D := D) (ci := 8) (v := .ref ((ad 13))) (C := RX8) (T := TX8) (N := 33) hx hb hts iX8 hown hK.1 hP 0 rfl rfl 13 (by decide) (hts _ q_692) (fun _ h9 => h9) rfl dX8_ruleAgainst_16 ?_
    refine lv_iload_n hx hb dX8_ruleAgainst_19 rfl (lv_at hl 1 rfl) ?_
    refine iald_n (f := σ 13) hx hb hK.1 hP 11 0 rfl rfl (a) rfl (by omega) (by decide) dX8_ruleAgainst_20 ?_
    refine lv_bipush (v := 8) hx hb dX8_ruleAgainst_21 (by decide) ?_
    refine lv_iand hx hb dX8_ruleAgainst_23 ?_
    refine lv_aload_n hx hb dX8_ruleAgainst_24 rfl (lv_at hl 0 rfl) ?_
    refine va_get (D := D) (ci := 8) (v := .ref ((ad 13))) (C := RX8) (T := TX8) (N := 33) hx hb hts iX8 hown hK.1 hP 0 rfl rfl 13 (by decide) (hts _ q_692) (fun _ h9 => h9) rfl dX8_ruleAgainst_25 ?_
    refine lv_iload_n hx hb dX8_ruleAgainst_28 rfl (lv_at hl 2 rfl) ?_
    refine iald_n (f := σ 13) hx hb hK.1 hP 11 0 rfl rfl (b) rfl (by omega) (by decide) dX8_ruleAgainst_29 ?_
    refine lv_bipush (v := 8) hx hb dX8_ruleAgainst_30 (by decide) ?_
    refine lv_iand hx hb dX8_ruleAgainst_32 ?_
    refine lv_icmp_eq (tgt := 39) hx hb dX8_ruleAgainst_33 (by decide) (fun c2 => ?_) (fun c2 => ?_)
    · -- 33 taken
      refine w_join (P := fun b9 => b9 = bI (eqR σ a b)) 74 (ls := ls) (rest := []) (fun b4 e_b4 => ?_) (fun J3 => ?_)
      · -- behind the meeting at 74
        subst e_b4
        refine lv_istore_n (lv' := [(3, .int (bI (eqR σ a b))), (0, .ref mo), (1, .int (nI a)), (2, .int (nI b))]) hx hb dX8_ruleAgainst_74 rfl hl (by decide) rfl (fun ls hl => ?_)
        refine w_join (P := fun b9 => b9 = bI (unR σ a b)) 145 (ls := ls) (rest := []) (fun b6 e_b6 => ?_) (fun J5 => ?_)
        · -- behind the meeting at 145
          subst e_b6
          refine lv_istore (lv' := [(4, .int (bI (unR σ a b))), (3, .int (bI (eqR σ a b))), (0, .ref mo), (1, .int (nI a)), (2, .int (nI b))]) hx hb dX8_ruleAgainst_145 hl (by decide) rfl (fun ls hl => ?_)
          refine lv_iload_n hx hb dX8_ruleAgainst_147 rfl (lv_at hl 1 rfl) ?_
          refine lv_if_ne (tgt := 159) hx hb dX8_ruleAgainst_148 (by decide) (fun c7 => ?_) (fun c7 => ?_)
          · -- 148 taken
            have c7 := bI_1 c7
            refine lv_aload_n hx hb dX8_ruleAgainst_159 rfl (lv_at hl 2 rfl) ?_
            refine lv_iload_n hx hb dX8_ruleAgainst_160 rfl (lv_at hl 3 rfl) ?_
            refine ro_Vi (D := D) (G := G) (As := [.int (nI a)]) (rest := []) ⟨hx, hb, hml, hown, hts⟩ (m_seen l D G _ mo ad _ _ hP (a) (by omega)) gV_X8_X8_seen hdV_X8_seen ⟨Nat.le_of_ble_eq_true rfl, Nat.le_of_ble_eq_true rfl⟩ hK (va_recv hK.1 hP (ci := 8) (q0 := 0) rfl rfl) rfl hl.1 rfl (Nat.le_of_ble_eq_true rfl) dX8_ruleAgainst_161 ⟨Nat.le_of_ble_eq_true rfl, Nat.le_of_ble_eq_true rfl⟩ (fun r8 e_r8 => ?_)
            subst e_r8
            refine lv_aload_n hx hb dX8_ruleAgainst_164 rfl (lv_at hl 2 rfl) ?_
            refine lv_iload_n hx hb dX8_ruleAgainst_165 rfl (lv_at hl 4 rfl) ?_
            refine ro_Vi (D := D) (G := G) (As := [.int (nI b)]) (rest := [.int (seenF (σ 13 a))]) ⟨hx, hb, hml, hown, hts⟩ (m_seen l D G _ mo ad _ _ hP (b) (by omega)) gV_X8_X8_seen hdV_X8_seen ⟨Nat.le_of_ble_eq_true rfl, Nat.le_of_ble_eq_true rfl⟩ hK (va_recv hK.1 hP (ci := 8) (q0 := 0) rfl rfl) rfl hl.1 rfl (Nat.le_of_ble_eq_true rfl) dX8_ruleAgainst_166 ⟨Nat.le_of_ble_eq_true rfl, Nat.le_of_ble_eq_true rfl⟩ (fun r9 e_r9 => ?_)
            subst e_r9
            refine lv_icmp_ge (tgt := 177) hx hb dX8_ruleAgainst_169 (by decide) (fun c10 => ?_) (fun c10 => ?_)
            · -- 169 taken
              refine lv_iconst (v := 0) hx hb dX8_ruleAgainst_177 (by decide) ?_
              exact ro_iret (v := 0) hx hb hr hH hlocks dX8_ruleAgainst_178 (by unfold aRA; simp only [eq_true c1, eq_true c2, eq_true c7, eq_true c10, not_true, not_false_iff, not_true_eq_false, not_false_eq_true, true_or, or_true, false_or, or_false, or_self, and_self, true_and, and_true, false_and, and_false, if_true, if_false])
            · -- 169 not
              refine lv_bipush (v := 25) hx hb dX8_ruleAgainst_172 (by decide) ?_
              refine lv_goto (tgt := 178) hx hb dX8_ruleAgainst_174 (by decide) ?_
              exact ro_iret (v := 25) hx hb hr hH hlocks dX8_ruleAgainst_178 (by unfold aRA; simp only [eq_true c1, eq_true c2, eq_true c7, eq_false c10, not_true, not_false_iff, not_true_eq_false, not_false_eq_true, true_or, or_true, false_or, or_false, or_self, and_self, true_and, and_true, false_and, and_false, if_true, if_false])
          · -- 148 not
            have c7 := bI_0 c7
            refine lv_iload hx hb dX8_ruleAgainst_151 (lv_at hl 0 rfl) ?_
            refine lv_if_ne (tgt := 159) hx hb dX8_ruleAgainst_153 (by decide) (fun c11 => ?_) (fun c11 => ?_)
            · -- 153 taken
              have c11 := bI_1 c11
              refine lv_aload_n hx hb dX8_ruleAgainst_159 rfl (lv_at hl 2 rfl) ?_
              refine lv_iload_n hx hb dX8_ruleAgainst_160 rfl (lv_at hl 3 rfl) ?_
              refine ro_Vi (D := D) (G := G) (As := [.int (nI a)]) (rest := []) ⟨hx, hb, hml, hown, hts⟩ (m_seen l D G _ mo ad _ _ hP (a) (by omega)) gV_X8_X8_seen hdV_X8_seen ⟨Nat.le_of_ble_eq_true rfl, Nat.le_of_ble_eq_true rfl⟩ hK (va_recv hK.1 hP (ci := 8) (q0 := 0) rfl rfl) rfl hl.1 rfl (Nat.le_of_ble_eq_true rfl) dX8_ruleAgainst_161 ⟨Nat.le_of_ble_eq_true rfl, Nat.le_of_ble_eq_true rfl⟩ (fun r12 e_r12 => ?_)
              subst e_r12
              refine lv_aload_n hx hb dX8_ruleAgainst_164 rfl (lv_at hl 2 rfl) ?_
              refine lv_iload_n hx hb dX8_ruleAgainst_165 rfl (lv_at hl 4 rfl) ?_
              refine ro_Vi (D := D) (G := G) (As := [.int (nI b)]) (rest := [.int (seenF (σ 13 a))]) ⟨hx, hb, hml, hown, hts⟩ (m_seen l D G _ mo ad _ _ hP (b) (by omega)) gV_X8_X8_seen hdV_X8_seen ⟨Nat.le_of_ble_eq_true rfl, Nat.le_of_ble_eq_true rfl⟩ hK (va_recv hK.1 hP (ci := 8) (q0 := 0) rfl rfl) rfl hl.1 rfl (Nat.le_of_ble_eq_true rfl) dX8_ruleAgainst_166 ⟨Nat.le_of_ble_eq_true rfl, Nat.le_of_ble_eq_true rfl⟩ (fun r13 e_r13 => ?_)
              subst e_r13
              refine lv_icmp_ge (tgt := 177) hx hb dX8_ruleAgainst_169 (by decide) (fun c14 => ?_) (fun c14 => ?_)
              · -- 169 taken
                refine lv_iconst (v := 0) hx hb dX8_ruleAgainst_177 (by decide) ?_
                exact ro_iret (v := 0) hx hb hr hH hlocks dX8_ruleAgainst_178 (by unfold aRA; simp only [eq_true c1, eq_true c2, eq_false c7, eq_true c11, eq_true c14, not_true, not_false_iff, not_true_eq_false, not_false_eq_true, true_or, or_true, false_or, or_false, or_self, and_self, true_and, and_true, false_and, and_false, if_true, if_false])
              · -- 169 not
                refine lv_bipush (v := 25) hx hb dX8_ruleAgainst_172 (by decide) ?_
                refine lv_goto (tgt := 178) hx hb dX8_ruleAgainst_174 (by decide) ?_
                exact ro_iret (v := 25) hx hb hr hH hlocks dX8_ruleAgainst_178 (by unfold aRA; simp only [eq_true c1, eq_true c2, eq_false c7, eq_true c11, eq_false c14, not_true, not_false_iff, not_true_eq_false, not_false_eq_true, true_or, or_true, false_or, or_false, or_self, and_self, true_and, and_true, false_and, and_false, if_true, if_false])
            · -- 153 not
              have c11 := bI_0 c11
              refine lv_bipush (v := 24) hx hb dX8_ruleAgainst_156 (by decide) ?_
              exact ro_iret (v := 24) hx hb hr hH hlocks dX8_ruleAgainst_158 (by unfold aRA; simp only [eq_true c1, eq_true c2, eq_false c7, eq_false c11, not_true, not_false_iff, not_true_eq_false, not_false_eq_true, true_or, or_true, false_or, or_false, or_self, and_self, true_and, and_true, false_and, and_false, if_true, if_false])
        · -- up to the meeting at 145
          refine lv_aload_n hx hb dX8_ruleAgainst_75 rfl (lv_at hl 1 rfl) ?_
          refine va_get (D := D) (ci := 8) (v := .ref ((ad 12))) (C := RX8) (T := TX8) (N := 33) hx hb hts iX8 hown hK.1 hP 0 rfl rfl 12 (by decide) (hts _ q_691) (fun _ h9 => h9) rfl dX8_ruleAgainst_76 ?_
          refine lv_iload_n hx hb dX8_ruleAgainst_79 rfl (lv_at hl 2 rfl) ?_
          refine iald_n (f := σ 12) hx hb hK.1 hP 10 0 rfl rfl (a) rfl (by omega) (by decide) dX8_ruleAgainst_80 ?_
          refine lv_if_ne (tgt := 144) hx hb dX8_ruleAgainst_81 (by decide) (fun c15 => ?_) (fun c15 => ?_)
          · -- 81 taken
            refine lv_iconst (v := 0) hx hb dX8_ruleAgainst_144 (by decide) ?_
            exact J5 0 ((bI_f (by unfold unR; simp only [undP_def, eq_true c1, eq_true c2, eq_false c15, not_true, not_false_iff, not_true_eq_false, not_false_eq_true, true_or, or_true, false_or, or_false, or_self, and_self, true_and, and_true, false_and, and_false, if_true, if_false])).symm)
          · -- 81 not
            refine lv_aload_n hx hb dX8_ruleAgainst_84 rfl (lv_at hl 1 rfl) ?_
            refine va_get (D := D) (ci := 8) (v := .ref ((ad 12))) (C := RX8) (T := TX8) (N := 33) hx hb hts iX8 hown hK.1 hP 0 rfl rfl 12 (by decide) (hts _ q_691) (fun _ h9 => h9) rfl dX8_ruleAgainst_85 ?_
            refine lv_iload_n hx hb dX8_ruleAgainst_88 rfl (lv_at hl 3 rfl) ?_
            refine iald_n (f := σ 12) hx hb hK.1 hP 10 0 rfl rfl (b) rfl (by omega) (by decide) dX8_ruleAgainst_89 ?_
            refine lv_if_ne (tgt := 144) hx hb dX8_ruleAgainst_90 (by decide) (fun c16 => ?_) (fun c16 => ?_)
            · -- 90 taken
              refine lv_iconst (v := 0) hx hb dX8_ruleAgainst_144 (by decide) ?_
              exact J5 0 ((bI_f (by unfold unR; simp only [undP_def, eq_true c1, eq_true c2, eq_true c15, eq_false c16, not_true, not_false_iff, not_true_eq_false, not_false_eq_true, true_or, or_true, false_or, or_false, or_self, and_self, true_and, and_true, false_and, and_false, if_true, if_false])).symm)
            · -- 90 not
              refine lv_aload_n hx hb dX8_ruleAgainst_93 rfl (lv_at hl 1 rfl) ?_
              refine va_get (D := D) (ci := 8) (v := .ref ((ad 11))) (C := RX8) (T := TX8) (N := 33) hx hb hts iX8 hown hK.1 hP 0 rfl rfl 11 (by decide) (hts _ q_690) (fun _ h9 => h9) rfl dX8_ruleAgainst_94 ?_
              refine lv_iload_n hx hb dX8_ruleAgainst_97 rfl (lv_at hl 2 rfl) ?_
              refine iald_n (f := σ 11) hx hb hK.1 hP 9 0 rfl rfl (a) rfl (by omega) (by decide) dX8_ruleAgainst_98 ?_
              refine lv_bipush (v := 9) hx hb dX8_ruleAgainst_99 (by decide) ?_
              refine lv_icmp_le (tgt := 144) hx hb dX8_ruleAgainst_101 (by decide) (fun c17 => ?_) (fun c17 => ?_)
              · -- 101 taken
                refine lv_iconst (v := 0) hx hb dX8_ruleAgainst_144 (by decide) ?_
                exact J5 0 ((bI_f (by unfold unR; simp only [undP_def, eq_true c1, eq_true c2, eq_true c15, eq_true c16, eq_true c17, not_true, not_false_iff, not_true_eq_false, not_false_eq_true, true_or, or_true, false_or, or_false, or_self, and_self, true_and, and_true, false_and, and_false, if_true, if_false])).symm)
              · -- 101 not
                have c17_k := (hka c17).2
                refine lv_aload_n hx hb dX8_ruleAgainst_104 rfl (lv_at hl 1 rfl) ?_
                refine va_get (D := D) (ci := 8) (v := .ref ((ad 11))) (C := RX8) (T := TX8) (N := 33) hx hb hts iX8 hown hK.1 hP 0 rfl rfl 11 (by decide) (hts _ q_690) (fun _ h9 => h9) rfl dX8_ruleAgainst_105 ?_
                refine lv_iload_n hx hb dX8_ruleAgainst_108 rfl (lv_at hl 3 rfl) ?_
                refine iald_n (f := σ 11) hx hb hK.1 hP 9 0 rfl rfl (b) rfl (by omega) (by decide) dX8_ruleAgainst_109 ?_
                refine lv_bipush (v := 9) hx hb dX8_ruleAgainst_110 (by decide) ?_
                refine lv_icmp_le (tgt := 144) hx hb dX8_ruleAgainst_112 (by decide) (fun c18 => ?_) (fun c18 => ?_)
                · -- 112 taken
                  refine lv_iconst (v := 0) hx hb dX8_ruleAgainst_144 (by decide) ?_
                  exact J5 0 ((bI_f (by unfold unR; simp only [undP_def, eq_true c1, eq_true c2, eq_true c15, eq_true c16, eq_false c17, eq_true c18, not_true, not_false_iff, not_true_eq_false, not_false_eq_true, true_or, or_true, false_or, or_false, or_self, and_self, true_and, and_true, false_and, and_false, if_true, if_false])).symm)
                · -- 112 not
                  have c18_k := (hkb c18).2
                  refine lv_aload_n hx hb dX8_ruleAgainst_115 rfl (lv_at hl 1 rfl) ?_
                  refine lv_aload_n hx hb dX8_ruleAgainst_116 rfl (lv_at hl 1 rfl) ?_
                  refine va_get (D := D) (ci := 8) (v := .ref ((ad 11))) (C := RX8) (T := TX8) (N := 33) hx hb hts iX8 hown hK.1 hP 0 rfl rfl 11 (by decide) (hts _ q_690) (fun _ h9 => h9) rfl dX8_ruleAgainst_117 ?_
                  refine lv_iload_n hx hb dX8_ruleAgainst_120 rfl (lv_at hl 2 rfl) ?_
                  refine iald_n (f := σ 11) hx hb hK.1 hP 9 0 rfl rfl (a) rfl (by omega) (by decide) dX8_ruleAgainst_121 ?_
                  refine lv_bipush (v := 10) hx hb dX8_ruleAgainst_122 (by decide) ?_
                  refine lv_isub hx hb dX8_ruleAgainst_124 ?_
                  refine lv_aload_n hx hb dX8_ruleAgainst_125 rfl (lv_at hl 1 rfl) ?_
                  refine va_get (D := D) (ci := 8) (v := .ref ((ad 11))) (C := RX8) (T := TX8) (N := 33) hx hb hts iX8 hown hK.1 hP 0 rfl rfl 11 (by decide) (hts _ q_690) (fun _ h9 => h9) rfl dX8_ruleAgainst_126 ?_
                  refine lv_iload_n hx hb dX8_ruleAgainst_129 rfl (lv_at hl 3 rfl) ?_
                  refine iald_n (f := σ 11) hx hb hK.1 hP 9 0 rfl rfl (b) rfl (by omega) (by decide) dX8_ruleAgainst_130 ?_
                  refine lv_bipush (v := 10) hx hb dX8_ruleAgainst_131 (by decide) ?_
                  refine lv_isub hx hb dX8_ruleAgainst_133 ?_
                  refine W.eq (g2 := F0 m 134 ls [.int ((σ 11 b) - 10), .int (nI (tyK (σ 11 a))), .ref mo]) (congrArg (fun z9 => F0 m 134 ls [.int ((σ 11 b) - 10), .int z9, .ref mo]) (hka c17).1) ?_
                  refine W.eq (g2 := F0 m 134 ls [.int (nI (tyK (σ 11 b))), .int (nI (tyK (σ 11 a))), .ref mo]) (congrArg (fun z9 => F0 m 134 ls [.int z9, .int (nI (tyK (σ 11 a))), .ref mo]) (hkb c18).1) ?_
                  refine ro_Vi (D := D) (G := G) (As := [.int (nI (tyK (σ 11 a))), .int (nI (tyK (σ 11 b)))]) (rest := []) ⟨hx, hb, hml, hown, hts⟩ (m_lies l D G _ mo ad _ _ hP ((tyK (σ 11 a))) ((tyK (σ 11 b))) (by omega) (by omega) hb6) gV_X8_X8_lies hdV_X8_lies ⟨Nat.le_of_ble_eq_true rfl, Nat.le_of_ble_eq_true rfl⟩ hK (va_recv hK.1 hP (ci := 8) (q0 := 0) rfl rfl) rfl hl.1 rfl (Nat.le_of_ble_eq_true rfl) dX8_ruleAgainst_134 ⟨Nat.le_of_ble_eq_true rfl, Nat.le_of_ble_eq_true rfl⟩ (fun r19 e_r19 => ?_)
                  subst e_r19
                  refine lv_if_eq (tgt := 144) hx hb dX8_ruleAgainst_137 (by decide) (fun c20 => ?_) (fun c20 => ?_)
                  · -- 137 taken
                    have c20 := bI_0 c20
                    refine lv_iconst (v := 0) hx hb dX8_ruleAgainst_144 (by decide) ?_
                    exact J5 0 ((bI_f (by unfold unR; simp only [undP_def, eq_true c1, eq_true c2, eq_true c15, eq_true c16, eq_false c17, eq_false c18, eq_false c20, not_true, not_false_iff, not_true_eq_false, not_false_eq_true, true_or, or_true, false_or, or_false, or_self, and_self, true_and, and_true, false_and, and_false, if_true, if_false])).symm)
                  · -- 137 not
                    have c20 := bI_1 c20
                    refine lv_iconst (v := 1) hx hb dX8_ruleAgainst_140 (by decide) ?_
                    refine lv_goto (tgt := 145) hx hb dX8_ruleAgainst_141 (by decide) ?_
                    exact J5 1 ((bI_t (by unfold unR; simp only [undP_def, eq_true c1, eq_true c2, eq_true c15, eq_true c16, eq_false c17, eq_false c18, eq_true c20, not_true, not_false_iff, not_true_eq_false, not_false_eq_true, true_or, or_true, false_or, or_false, or_self, and_self, true_and, and_true, false_and, and_false, if_true, if_false])).symm)
      · -- up to the meeting at 74
        refine lv_aload_n hx hb dX8_ruleAgainst_39 rfl (lv_at hl 0 rfl) ?_
        refine va_get (D := D) (ci := 8) (v := .ref ((ad 11))) (C := RX8) (T := TX8) (N := 33) hx hb hts iX8 hown hK.1 hP 0 rfl rfl 11 (by decide) (hts _ q_690) (fun _ h9 => h9) rfl dX8_ruleAgainst_40 ?_
        refine lv_iload_n hx hb dX8_ruleAgainst_43 rfl (lv_at hl 1 rfl) ?_
        refine iald_n (f := σ 11) hx hb hK.1 hP 9 0 rfl rfl (a) rfl (by omega) (by decide) dX8_ruleAgainst_44 ?_
        refine lv_aload_n hx hb dX8_ruleAgainst_45 rfl (lv_at hl 0 rfl) ?_
        refine va_get (D := D) (ci := 8) (v := .ref ((ad 11))) (C := RX8) (T := TX8) (N := 33) hx hb hts iX8 hown hK.1 hP 0 rfl rfl 11 (by decide) (hts _ q_690) (fun _ h9 => h9) rfl dX8_ruleAgainst_46 ?_
        refine lv_iload_n hx hb dX8_ruleAgainst_49 rfl (lv_at hl 2 rfl) ?_
        refine iald_n (f := σ 11) hx hb hK.1 hP 9 0 rfl rfl (b) rfl (by omega) (by decide) dX8_ruleAgainst_50 ?_
        refine lv_icmp_ne (tgt := 73) hx hb dX8_ruleAgainst_51 (by decide) (fun c21 => ?_) (fun c21 => ?_)
        · -- 51 taken
          refine lv_iconst (v := 0) hx hb dX8_ruleAgainst_73 (by decide) ?_
          exact J3 0 ((bI_f (by unfold eqR; simp only [eq_true c1, eq_true c2, eq_false c21, not_true, not_false_iff, not_true_eq_false, not_false_eq_true, true_or, or_true, false_or, or_false, or_self, and_self, true_and, and_true, false_and, and_false, if_true, if_false])).symm)
        · -- 51 not
          refine lv_aload_n hx hb dX8_ruleAgainst_54 rfl (lv_at hl 0 rfl) ?_
          refine va_get (D := D) (ci := 8) (v := .ref ((ad 12))) (C := RX8) (T := TX8) (N := 33) hx hb hts iX8 hown hK.1 hP 0 rfl rfl 12 (by decide) (hts _ q_691) (fun _ h9 => h9) rfl dX8_ruleAgainst_55 ?_
          refine lv_iload_n hx hb dX8_ruleAgainst_58 rfl (lv_at hl 1 rfl) ?_
          refine iald_n (f := σ 12) hx hb hK.1 hP 10 0 rfl rfl (a) rfl (by omega) (by decide) dX8_ruleAgainst_59 ?_
          refine lv_aload_n hx hb dX8_ruleAgainst_60 rfl (lv_at hl 0 rfl) ?_
          refine va_get (D := D) (ci := 8) (v := .ref ((ad 12))) (C := RX8) (T := TX8) (N := 33) hx hb hts iX8 hown hK.1 hP 0 rfl rfl 12 (by decide) (hts _ q_691) (fun _ h9 => h9) rfl dX8_ruleAgainst_61 ?_
          refine lv_iload_n hx hb dX8_ruleAgainst_64 rfl (lv_at hl 2 rfl) ?_
          refine iald_n (f := σ 12) hx hb hK.1 hP 10 0 rfl rfl (b) rfl (by omega) (by decide) dX8_ruleAgainst_65 ?_
          refine lv_icmp_ne (tgt := 73) hx hb dX8_ruleAgainst_66 (by decide) (fun c22 => ?_) (fun c22 => ?_)
          · -- 66 taken
            refine lv_iconst (v := 0) hx hb dX8_ruleAgainst_73 (by decide) ?_
            exact J3 0 ((bI_f (by unfold eqR; simp only [eq_true c1, eq_true c2, eq_true c21, eq_false c22, not_true, not_false_iff, not_true_eq_false, not_false_eq_true, true_or, or_true, false_or, or_false, or_self, and_self, true_and, and_true, false_and, and_false, if_true, if_false])).symm)
          · -- 66 not
            refine lv_iconst (v := 1) hx hb dX8_ruleAgainst_69 (by decide) ?_
            refine lv_goto (tgt := 74) hx hb dX8_ruleAgainst_70 (by decide) ?_
            exact J3 1 ((bI_t (by unfold eqR; simp only [eq_true c1, eq_true c2, eq_true c21, eq_true c22, not_true, not_false_iff, not_true_eq_false, not_false_eq_true, true_or, or_true, false_or, or_false, or_self, and_self, true_and, and_true, false_and, and_false, if_true, if_false])).symm)
    · -- 33 not
      refine lv_bipush (v := 23) hx hb dX8_ruleAgainst_36 (by decide) ?_
      exact ro_iret (v := 23) hx hb hr hH hlocks dX8_ruleAgainst_38 (by unfold aRA; simp only [eq_true c1, eq_false c2, not_true, not_false_iff, not_true_eq_false, not_false_eq_true, true_or, or_true, false_or, or_false, or_self, and_self, true_and, and_true, false_and, and_false, if_true, if_false])
  · -- 9 not
    have c1 := and_nle c1
    refine lv_bipush (v := 22) hx hb dX8_ruleAgainst_12 (by decide) ?_
    exact ro_iret (v := 22) hx hb hr hH hlocks dX8_ruleAgainst_14 (by unfold aRA; simp only [eq_false c1, not_true, not_false_iff, not_true_eq_false, not_false_eq_true, true_or, or_true, false_or, or_false, or_self, and_self, true_and, and_true, false_and, and_false, if_true, if_false])
set_option maxHeartbeats 4000000 in
set_option maxRecDepth 100000 in
theorem m_leastMet (l : Launch) (D : va_G) (G : Nat → ClassId) (H : Heap) (mo : Nat) (ad : Nat → Nat) (σ : MS) (τ : Nat → Int64) (hP : va_P D vwCl (mW G mo ad σ τ) H) (k : Nat) (h7 : σ 7 0 = nI k) (hk60 : k ≤ 60) (a : Nat) (ha : a < 60) (hea : okE σ a) (hma : okM σ a) (heo : ∀ i, i < k → okE σ i) (hb6 : ∀ i, σ 6 i = 0 ∨ σ 6 i = 1) : Met l yX8_leastMet (ww yX8_leastMet cX8_leastMet 3 (some .int)) (rmD 3) (roP D G H [.ref mo, .int (nI a)]) (vp_Si (fun r => r = fnd (fun b => meetP σ a b) k 0)) 0 0 (fun _ => False) := by
  refine Met.ofW (cc := cX8_leastMet) (maxL := 3) (ret := (some .int)) (by decide) rfl ?_
  intro p e s m args below meth c s₁ B hml hv
  obtain ⟨rfl, hH, hK⟩ := hv
  have hx := B.exec
  have hb := B.bytes
  have hr := B.returns
  have hts : ∀ w ∈ TT, w.before _ s = true := fun w h => atoms_spec (ws := ww yX8_leastMet cX8_leastMet 3 (some .int)) B.pre w (List.mem_cons_of_mem _ h)
  have hown : s.vm.findClass RX8 = some m.cls := findClass_of_methodNamed B.named
  have hlocks := B.notSynchronized
  rw [hH]
  have hl := lv_entry ([.ref mo, .int (nI a)]) (n := 3) (Nat.le_of_ble_eq_true rfl)
  rw [lg_entry_eq]
  generalize (lg_sl ([.ref mo, .int (nI a)]) ++ List.replicate (3 - (lg_sl ([.ref mo, .int (nI a)])).length) Slot.unset).toArray = ls at hl ⊢
  have hl : lv_has ls 3 [(0, .ref mo), (1, .int (nI a))] := hl
  refine lv_iconst (v := 0) hx hb dX8_leastMet_0 (by decide) ?_
  refine lv_istore_n (lv' := [(2, .int 0), (0, .ref mo), (1, .int (nI a))]) hx hb dX8_leastMet_1 rfl hl (by decide) rfl (fun ls hl => ?_)
  refine w_for (N := k) 2 (L := fun k9 ls => lv_has ls 3 [(2, .int (nI k9)), (0, .ref mo), (1, .int (nI a))] ∧ fnd (fun b => meetP σ a b) k 0 = fnd (fun b => meetP σ a b) (k - k9) k9) (fun k9 ls hk hL ih => ?_) 0 ls (Nat.zero_le _) ⟨hl, by rw [Nat.sub_zero]⟩
  obtain ⟨hl, hi⟩ := hL
  have hl : lv_has ls 3 [(2, .int (nI k9)), (0, .ref mo), (1, .int (nI a))] := hl
  refine lv_iload_n hx hb dX8_leastMet_2 rfl (lv_at hl 0 rfl) ?_
  refine lv_aload_n hx hb dX8_leastMet_3 rfl (lv_at hl 1 rfl) ?_
  refine va_get (D := D) (ci := 8) (v := .int (σ 7 0)) (C := RX8) (T := TX8) (N := 33) hx hb hts iX8 hown hK.1 hP 0 rfl rfl 7 (by decide) (hts _ q_686) (fun _ h9 => h9) rfl dX8_leastMet_4 ?_
  refine lv_icmp_ge (tgt := 27) hx hb dX8_leastMet_7 (by decide) (fun c1 => ?_) (fun c1 => ?_)
  · -- 7 taken
    have c1 : k ≤ k9 := (nI_leI (a := k) (b := k9) (by omega) (by omega)).mp (by have h8 := c1; rw [h7] at h8; exact h8)
    refine lv_iconst (v := -1) hx hb dX8_leastMet_27 (by decide) ?_
    exact ro_iret (v := (-1)) hx hb hr hH hlocks dX8_leastMet_28 (by rw [hi, show k9 = k by omega, Nat.sub_self]; rfl)
  · -- 7 not
    have c1 : ¬ k ≤ k9 := fun h9 => c1 (by rw [h7]; exact (nI_leI (a := k) (b := k9) (by omega) (by omega)).mpr h9)
    refine lv_aload_n hx hb dX8_leastMet_10 rfl (lv_at hl 1 rfl) ?_
    refine lv_iload_n hx hb dX8_leastMet_11 rfl (lv_at hl 2 rfl) ?_
    refine lv_iload_n hx hb dX8_leastMet_12 rfl (lv_at hl 0 rfl) ?_
    refine ro_Vi (D := D) (G := G) (As := [.int (nI a), .int (nI k9)]) (rest := []) ⟨hx, hb, hml, hown, hts⟩ (m_meets l D G _ mo ad _ _ hP (a) (k9) (by omega) (by omega) hea (heo k9 (by omega)) hma hb6) gV_X8_X8_meets hdV_X8_meets ⟨Nat.le_of_ble_eq_true rfl, Nat.le_of_ble_eq_true rfl⟩ hK (va_recv hK.1 hP (ci := 8) (q0 := 0) rfl rfl) rfl hl.1 rfl (Nat.le_of_ble_eq_true rfl) dX8_leastMet_13 ⟨Nat.le_of_ble_eq_true rfl, Nat.le_of_ble_eq_true rfl⟩ (fun r2 e_r2 => ?_)
    subst e_r2
    refine lv_if_eq (tgt := 21) hx hb dX8_leastMet_16 (by decide) (fun c3 => ?_) (fun c3 => ?_)
    · -- 16 taken
      have c3 := bI_0 c3
      refine lv_iinc (v := nI (k9 + 1)) (lv' := [(2, .int (nI (k9 + 1))), (0, .ref mo), (1, .int (nI a))]) hx hb dX8_leastMet_21 hl (k := 0) rfl (nI_1 _) (by decide) rfl (fun ls hl => ?_)
      refine lv_goto (tgt := 2) hx hb dX8_leastMet_24 (by decide) ?_
      have hi := hi.trans (fnd_f (by omega) c3)
      exact ih _ (by omega) ⟨lv_sub hl [0, 1, 2] rfl, hi⟩
    · -- 16 not
      have c3 := bI_1 c3
      refine lv_iload_n hx hb dX8_leastMet_19 rfl (lv_at hl 0 rfl) ?_
      exact ro_iret (v := nI k9) hx hb hr hH hlocks dX8_leastMet_20 (by rw [hi]; exact (fnd_t (by omega) c3 rfl).symm)
set_option maxHeartbeats 4000000 in
set_option maxRecDepth 100000 in
theorem m_both (l : Launch) (D : va_G) (G : Nat → ClassId) (H : Heap) (x : Int32) (y : Int32) : Met l yX8_both (ww yX8_both cX8_both 2 (some .int)) (rmD 0) (roP D G H [.int x, .int y]) (vp_Si (fun r => r = bothF x y)) 0 0 (fun _ => False) := by
  refine Met.ofW (cc := cX8_both) (maxL := 2) (ret := (some .int)) (by decide) rfl ?_
  intro p e s m args below meth c s₁ B hml hv
  obtain ⟨rfl, hH, hK⟩ := hv
  have hx := B.exec
  have hb := B.bytes
  have hr := B.returns
  have hts : ∀ w ∈ TT, w.before _ s = true := fun w h => atoms_spec (ws := ww yX8_both cX8_both 2 (some .int)) B.pre w (List.mem_cons_of_mem _ h)
  have hown : s.vm.findClass RX8 = some m.cls := findClass_of_methodNamed B.named
  have hlocks := B.notSynchronized
  rw [hH]
  have hl := lv_entry ([.int x, .int y]) (n := 2) (Nat.le_of_ble_eq_true rfl)
  rw [lg_entry_eq]
  generalize (lg_sl ([.int x, .int y]) ++ List.replicate (2 - (lg_sl ([.int x, .int y])).length) Slot.unset).toArray = ls at hl ⊢
  have hl : lv_has ls 2 [(0, .int x), (1, .int y)] := hl
  refine lv_iload_n hx hb dX8_both_0 rfl (lv_at hl 0 rfl) ?_
  refine lv_iconst (v := -1) hx hb dX8_both_1 (by decide) ?_
  refine lv_icmp_ne (tgt := 9) hx hb dX8_both_2 (by decide) (fun c1 => ?_) (fun c1 => ?_)
  · -- 2 taken
    refine lv_iload_n hx hb dX8_both_9 rfl (lv_at hl 1 rfl) ?_
    refine lv_iconst (v := -1) hx hb dX8_both_10 (by decide) ?_
    refine lv_icmp_eq (tgt := 19) hx hb dX8_both_11 (by decide) (fun c2 => ?_) (fun c2 => ?_)
    · -- 11 taken
      refine lv_iload_n hx hb dX8_both_19 rfl (lv_at hl 0 rfl) ?_
      refine lv_goto (tgt := 25) hx hb dX8_both_20 (by decide) ?_
      exact ro_iret (v := x) hx hb hr hH hlocks dX8_both_25 (by unfold bothF; simp only [eq_false c1, eq_true c2, not_true, not_false_iff, not_true_eq_false, not_false_eq_true, true_or, or_true, false_or, or_false, or_self, and_self, true_and, and_true, false_and, and_false, if_true, if_false])
    · -- 11 not
      refine lv_iload_n hx hb dX8_both_14 rfl (lv_at hl 0 rfl) ?_
      refine lv_iload_n hx hb dX8_both_15 rfl (lv_at hl 1 rfl) ?_
      refine lv_icmp_ne (tgt := 23) hx hb dX8_both_16 (by decide) (fun c3 => ?_) (fun c3 => ?_)
      · -- 16 taken
        refine lv_bipush (v := -2) hx hb dX8_both_23 (by decide) ?_
        exact ro_iret (v := (-2)) hx hb hr hH hlocks dX8_both_25 (by unfold bothF; simp only [eq_false c1, eq_false c2, eq_false c3, not_true, not_false_iff, not_true_eq_false, not_false_eq_true, true_or, or_true, false_or, or_false, or_self, and_self, true_and, and_true, false_and, and_false, if_true, if_false])
      · -- 16 not
        refine lv_iload_n hx hb dX8_both_19 rfl (lv_at hl 0 rfl) ?_
        refine lv_goto (tgt := 25) hx hb dX8_both_20 (by decide) ?_
        exact ro_iret (v := x) hx hb hr hH hlocks dX8_both_25 (by unfold bothF; simp only [eq_false c1, eq_false c2, eq_true c3, not_true, not_false_iff, not_true_eq_false, not_false_eq_true, true_or, or_true, false_or, or_false, or_self, and_self, true_and, and_true, false_and, and_false, if_true, if_false])
  · -- 2 not
    refine lv_iload_n hx hb dX8_both_5 rfl (lv_at hl 1 rfl) ?_
    refine lv_goto (tgt := 25) hx hb dX8_both_6 (by decide) ?_
    exact ro_iret (v := y) hx hb hr hH hlocks dX8_both_25 (by unfold bothF; simp only [eq_true c1, not_true, not_false_iff, not_true_eq_false, not_false_eq_true, true_or, or_true, false_or, or_false, or_self, and_self, true_and, and_true, false_and, and_false, if_true, if_false])
set_option maxHeartbeats 4000000 in
set_option maxRecDepth 100000 in
theorem m_widens (l : Launch) (D : va_G) (G : Nat → ClassId) (H : Heap) (x : Int32) (y : Int32) : Met l yX8_widens (ww yX8_widens cX8_widens 2 (some .boolean)) (rmD 1) (roP D G H [.int x, .int y]) (vp_Si (fun r => r = bI (wdP x y))) 0 0 (fun _ => False) := by
  refine Met.ofW (cc := cX8_widens) (maxL := 2) (ret := (some .boolean)) (by decide) rfl ?_
  intro p e s m args below meth c s₁ B hml hv
  obtain ⟨rfl, hH, hK⟩ := hv
  have hx := B.exec
  have hb := B.bytes
  have hr := B.returns
  have hts : ∀ w ∈ TT, w.before _ s = true := fun w h => atoms_spec (ws := ww yX8_widens cX8_widens 2 (some .boolean)) B.pre w (List.mem_cons_of_mem _ h)
  have hown : s.vm.findClass RX8 = some m.cls := findClass_of_methodNamed B.named
  have hlocks := B.notSynchronized
  rw [hH]
  have hl := lv_entry ([.int x, .int y]) (n := 2) (Nat.le_of_ble_eq_true rfl)
  rw [lg_entry_eq]
  generalize (lg_sl ([.int x, .int y]) ++ List.replicate (2 - (lg_sl ([.int x, .int y])).length) Slot.unset).toArray = ls at hl ⊢
  have hl : lv_has ls 2 [(0, .int x), (1, .int y)] := hl
  refine lv_iload_n hx hb dX8_widens_0 rfl (lv_at hl 0 rfl) ?_
  refine lv_iconst (v := 4) hx hb dX8_widens_1 (by decide) ?_
  refine lv_icmp_ne (tgt := 13) hx hb dX8_widens_2 (by decide) (fun c1 => ?_) (fun c1 => ?_)
  · -- 2 taken
    refine lv_iload_n hx hb dX8_widens_13 rfl (lv_at hl 0 rfl) ?_
    refine lv_iconst (v := 2) hx hb dX8_widens_14 (by decide) ?_
    refine lv_bipush (v := 7) hx hb dX8_widens_15 (by decide) ?_
    refine ro_Si (D := D) (G := G) (As := [.int x, .int 2, .int 7]) (rest := []) ⟨hx, hb, hml, hown, hts⟩ (m_in l D G _ x 2 7) gS_X8_X8_in hdS_X8_in ⟨Nat.le_of_ble_eq_true rfl, Nat.le_of_ble_eq_true rfl⟩ hK rfl hl.1 rfl (Nat.le_of_ble_eq_true rfl) dX8_widens_17 ⟨Nat.le_of_ble_eq_true rfl, Nat.le_of_ble_eq_true rfl⟩ (fun r2 e_r2 => ?_)
    subst e_r2
    refine lv_if_eq (tgt := 47) hx hb dX8_widens_20 (by decide) (fun c3 => ?_) (fun c3 => ?_)
    · -- 20 taken
      have c3 := bI_0 c3
      refine lv_iconst (v := 0) hx hb dX8_widens_47 (by decide) ?_
      exact ro_zret (v := 0) hx hb hr hH hlocks dX8_widens_48 (Or.inl rfl) ((bI_f (by rw [wdP_def]; simp only [eq_false c1, eq_false c3, not_true, not_false_iff, not_true_eq_false, not_false_eq_true, true_or, or_true, false_or, or_false, or_self, and_self, true_and, and_true, false_and, and_false, if_true, if_false])).symm)
    · -- 20 not
      have c3 := bI_1 c3
      refine lv_iload_n hx hb dX8_widens_23 rfl (lv_at hl 1 rfl) ?_
      refine lv_iconst (v := 3) hx hb dX8_widens_24 (by decide) ?_
      refine lv_bipush (v := 8) hx hb dX8_widens_25 (by decide) ?_
      refine ro_Si (D := D) (G := G) (As := [.int y, .int 3, .int 8]) (rest := []) ⟨hx, hb, hml, hown, hts⟩ (m_in l D G _ y 3 8) gS_X8_X8_in hdS_X8_in ⟨Nat.le_of_ble_eq_true rfl, Nat.le_of_ble_eq_true rfl⟩ hK rfl hl.1 rfl (Nat.le_of_ble_eq_true rfl) dX8_widens_27 ⟨Nat.le_of_ble_eq_true rfl, Nat.le_of_ble_eq_true rfl⟩ (fun r4 e_r4 => ?_)
      subst e_r4
      refine lv_if_eq (tgt := 47) hx hb dX8_widens_30 (by decide) (fun c5 => ?_) (fun c5 => ?_)
      · -- 30 taken
        have c5 := bI_0 c5
        refine lv_iconst (v := 0) hx hb dX8_widens_47 (by decide) ?_
        exact ro_zret (v := 0) hx hb hr hH hlocks dX8_widens_48 (Or.inl rfl) ((bI_f (by rw [wdP_def]; simp only [eq_false c1, eq_true c3, eq_false c5, not_true, not_false_iff, not_true_eq_false, not_false_eq_true, true_or, or_true, false_or, or_false, or_self, and_self, true_and, and_true, false_and, and_false, if_true, if_false])).symm)
      · -- 30 not
        have c5 := bI_1 c5
        refine lv_iload_n hx hb dX8_widens_33 rfl (lv_at hl 1 rfl) ?_
        refine lv_iload_n hx hb dX8_widens_34 rfl (lv_at hl 0 rfl) ?_
        refine lv_icmp_le (tgt := 47) hx hb dX8_widens_35 (by decide) (fun c6 => ?_) (fun c6 => ?_)
        · -- 35 taken
          refine lv_iconst (v := 0) hx hb dX8_widens_47 (by decide) ?_
          exact ro_zret (v := 0) hx hb hr hH hlocks dX8_widens_48 (Or.inl rfl) ((bI_f (by rw [wdP_def]; simp only [eq_false c1, eq_true c3, eq_true c5, eq_true c6, not_true, not_false_iff, not_true_eq_false, not_false_eq_true, true_or, or_true, false_or, or_false, or_self, and_self, true_and, and_true, false_and, and_false, if_true, if_false])).symm)
        · -- 35 not
          refine lv_iload_n hx hb dX8_widens_38 rfl (lv_at hl 1 rfl) ?_
          refine lv_iconst (v := 4) hx hb dX8_widens_39 (by decide) ?_
          refine lv_icmp_eq (tgt := 47) hx hb dX8_widens_40 (by decide) (fun c7 => ?_) (fun c7 => ?_)
          · -- 40 taken
            refine lv_iconst (v := 0) hx hb dX8_widens_47 (by decide) ?_
            exact ro_zret (v := 0) hx hb hr hH hlocks dX8_widens_48 (Or.inl rfl) ((bI_f (by rw [wdP_def]; simp only [eq_false c1, eq_true c3, eq_true c5, eq_false c6, eq_true c7, not_true, not_false_iff, not_true_eq_false, not_false_eq_true, true_or, or_true, false_or, or_false, or_self, and_self, true_and, and_true, false_and, and_false, if_true, if_false])).symm)
          · -- 40 not
            refine lv_iconst (v := 1) hx hb dX8_widens_43 (by decide) ?_
            refine lv_goto (tgt := 48) hx hb dX8_widens_44 (by decide) ?_
            exact ro_zret (v := 1) hx hb hr hH hlocks dX8_widens_48 (Or.inr rfl) ((bI_t (by rw [wdP_def]; simp only [eq_false c1, eq_true c3, eq_true c5, eq_false c6, eq_false c7, not_true, not_false_iff, not_true_eq_false, not_false_eq_true, true_or, or_true, false_or, or_false, or_self, and_self, true_and, and_true, false_and, and_false, if_true, if_false])).symm)
  · -- 2 not
    refine lv_iload_n hx hb dX8_widens_5 rfl (lv_at hl 1 rfl) ?_
    refine lv_iconst (v := 5) hx hb dX8_widens_6 (by decide) ?_
    refine lv_bipush (v := 8) hx hb dX8_widens_7 (by decide) ?_
    refine ro_Si (D := D) (G := G) (As := [.int y, .int 5, .int 8]) (rest := []) ⟨hx, hb, hml, hown, hts⟩ (m_in l D G _ y 5 8) gS_X8_X8_in hdS_X8_in ⟨Nat.le_of_ble_eq_true rfl, Nat.le_of_ble_eq_true rfl⟩ hK rfl hl.1 rfl (Nat.le_of_ble_eq_true rfl) dX8_widens_9 ⟨Nat.le_of_ble_eq_true rfl, Nat.le_of_ble_eq_true rfl⟩ (fun r8 e_r8 => ?_)
    subst e_r8
    exact ro_zret (v := bI (5 ≤ y ∧ y ≤ 8)) hx hb hr hH hlocks dX8_widens_12 bI_b (bI_c (by rw [wdP_def]; simp only [eq_true c1, not_true, not_false_iff, not_true_eq_false, not_false_eq_true, true_or, or_true, false_or, or_false, or_self, and_self, true_and, and_true, false_and, and_false, if_true, if_false]))
set_option maxHeartbeats 4000000 in
set_option maxRecDepth 100000 in
theorem m_fits (l : Launch) (D : va_G) (G : Nat → ClassId) (H : Heap) (mo : Nat) (ad : Nat → Nat) (σ : MS) (τ : Nat → Int64) (hP : va_P D vwCl (mW G mo ad σ τ) H) (x1 : Int32) (d1 : Int32) (x2 : Int32) (d2 : Int32) (hk1 : kdO x1) (hk2 : kdO x2) (hb6 : ∀ i, σ 6 i = 0 ∨ σ 6 i = 1) : Met l yX8_fits (ww yX8_fits cX8_fits 5 (some .boolean)) (rmD 2) (roP D G H [.ref mo, .int x1, .int d1, .int x2, .int d2]) (vp_Si (fun r => r = bI (fitP σ x1 d1 x2 d2))) 0 0 (fun _ => False) := by
  refine Met.ofW (cc := cX8_fits) (maxL := 5) (ret := (some .boolean)) (by decide) rfl ?_
  intro p e s m args below meth c s₁ B hml hv
  obtain ⟨rfl, hH, hK⟩ := hv
  have hx := B.exec
  have hb := B.bytes
  have hr := B.returns
  have hts : ∀ w ∈ TT, w.before _ s = true := fun w h => atoms_spec (ws := ww yX8_fits cX8_fits 5 (some .boolean)) B.pre w (List.mem_cons_of_mem _ h)
  have hown : s.vm.findClass RX8 = some m.cls := findClass_of_methodNamed B.named
  have hlocks := B.notSynchronized
  rw [hH]
  have hl := lv_entry ([.ref mo, .int x1, .int d1, .int x2, .int d2]) (n := 5) (Nat.le_of_ble_eq_true rfl)
  rw [lg_entry_eq]
  generalize (lg_sl ([.ref mo, .int x1, .int d1, .int x2, .int d2]) ++ List.replicate (5 - (lg_sl ([.ref mo, .int x1, .int d1, .int x2, .int d2])).length) Slot.unset).toArray = ls at hl ⊢
  have hl : lv_has ls 5 [(0, .ref mo), (1, .int x1), (2, .int d1), (3, .int x2), (4, .int d2)] := hl
  refine lv_iload_n hx hb dX8_fits_0 rfl (lv_at hl 1 rfl) ?_
  refine lv_iload_n hx hb dX8_fits_1 rfl (lv_at hl 3 rfl) ?_
  refine lv_icmp_ne (tgt := 13) hx hb dX8_fits_2 (by decide) (fun c1 => ?_) (fun c1 => ?_)
  · -- 2 taken
    refine lv_iload_n hx hb dX8_fits_13 rfl (lv_at hl 1 rfl) ?_
    refine lv_bipush (v := 9) hx hb dX8_fits_14 (by decide) ?_
    refine lv_icmp_ne (tgt := 36) hx hb dX8_fits_16 (by decide) (fun c2 => ?_) (fun c2 => ?_)
    · -- 16 taken
      refine lv_iload_n hx hb dX8_fits_36 rfl (lv_at hl 2 rfl) ?_
      refine lv_if_ne (tgt := 57) hx hb dX8_fits_37 (by decide) (fun c3 => ?_) (fun c3 => ?_)
      · -- 37 taken
        refine lv_iload_n hx hb dX8_fits_57 rfl (lv_at hl 2 rfl) ?_
        refine lv_iload hx hb dX8_fits_58 (lv_at hl 4 rfl) ?_
        refine lv_icmp_ne (tgt := 94) hx hb dX8_fits_60 (by decide) (fun c4 => ?_) (fun c4 => ?_)
        · -- 60 taken
          refine lv_iconst (v := 0) hx hb dX8_fits_94 (by decide) ?_
          exact ro_zret (v := 0) hx hb hr hH hlocks dX8_fits_95 (Or.inl rfl) ((bI_f (by rw [fitP_def]; simp only [undP_def, eq_false c1, eq_false c2, eq_false c3, eq_false c4, not_true, not_false_iff, not_true_eq_false, not_false_eq_true, true_or, or_true, false_or, or_false, or_self, and_self, true_and, and_true, false_and, and_false, if_true, if_false])).symm)
        · -- 60 not
          refine lv_iload_n hx hb dX8_fits_63 rfl (lv_at hl 1 rfl) ?_
          refine lv_bipush (v := 9) hx hb dX8_fits_64 (by decide) ?_
          refine lv_icmp_le (tgt := 94) hx hb dX8_fits_66 (by decide) (fun c5 => ?_) (fun c5 => ?_)
          · -- 66 taken
            refine lv_iconst (v := 0) hx hb dX8_fits_94 (by decide) ?_
            exact ro_zret (v := 0) hx hb hr hH hlocks dX8_fits_95 (Or.inl rfl) ((bI_f (by rw [fitP_def]; simp only [undP_def, eq_false c1, eq_false c2, eq_false c3, eq_true c4, eq_true c5, not_true, not_false_iff, not_true_eq_false, not_false_eq_true, true_or, or_true, false_or, or_false, or_self, and_self, true_and, and_true, false_and, and_false, if_true, if_false])).symm)
          · -- 66 not
            have c5_k := (hk1 c5).2
            refine lv_iload_n hx hb dX8_fits_69 rfl (lv_at hl 3 rfl) ?_
            refine lv_bipush (v := 9) hx hb dX8_fits_70 (by decide) ?_
            refine lv_icmp_le (tgt := 94) hx hb dX8_fits_72 (by decide) (fun c6 => ?_) (fun c6 => ?_)
            · -- 72 taken
              refine lv_iconst (v := 0) hx hb dX8_fits_94 (by decide) ?_
              exact ro_zret (v := 0) hx hb hr hH hlocks dX8_fits_95 (Or.inl rfl) ((bI_f (by rw [fitP_def]; simp only [undP_def, eq_false c1, eq_false c2, eq_false c3, eq_true c4, eq_false c5, eq_true c6, not_true, not_false_iff, not_true_eq_false, not_false_eq_true, true_or, or_true, false_or, or_false, or_self, and_self, true_and, and_true, false_and, and_false, if_true, if_false])).symm)
            · -- 72 not
              have c6_k := (hk2 c6).2
              refine lv_aload_n hx hb dX8_fits_75 rfl (lv_at hl 0 rfl) ?_
              refine lv_iload_n hx hb dX8_fits_76 rfl (lv_at hl 1 rfl) ?_
              refine lv_bipush (v := 10) hx hb dX8_fits_77 (by decide) ?_
              refine lv_isub hx hb dX8_fits_79 ?_
              refine lv_iload_n hx hb dX8_fits_80 rfl (lv_at hl 3 rfl) ?_
              refine lv_bipush (v := 10) hx hb dX8_fits_81 (by decide) ?_
              refine lv_isub hx hb dX8_fits_83 ?_
              refine W.eq (g2 := F0 m 84 ls [.int (x2 - 10), .int (nI (tyK (x1))), .ref mo]) (congrArg (fun z9 => F0 m 84 ls [.int (x2 - 10), .int z9, .ref mo]) (hk1 c5).1) ?_
              refine W.eq (g2 := F0 m 84 ls [.int (nI (tyK (x2))), .int (nI (tyK (x1))), .ref mo]) (congrArg (fun z9 => F0 m 84 ls [.int z9, .int (nI (tyK (x1))), .ref mo]) (hk2 c6).1) ?_
              refine ro_Vi (D := D) (G := G) (As := [.int (nI (tyK (x1))), .int (nI (tyK (x2)))]) (rest := []) ⟨hx, hb, hml, hown, hts⟩ (m_lies l D G _ mo ad _ _ hP ((tyK (x1))) ((tyK (x2))) (by omega) (by omega) hb6) gV_X8_X8_lies hdV_X8_lies ⟨Nat.le_of_ble_eq_true rfl, Nat.le_of_ble_eq_true rfl⟩ hK (va_recv hK.1 hP (ci := 8) (q0 := 0) rfl rfl) rfl hl.1 rfl (Nat.le_of_ble_eq_true rfl) dX8_fits_84 ⟨Nat.le_of_ble_eq_true rfl, Nat.le_of_ble_eq_true rfl⟩ (fun r7 e_r7 => ?_)
              subst e_r7
              refine lv_if_eq (tgt := 94) hx hb dX8_fits_87 (by decide) (fun c8 => ?_) (fun c8 => ?_)
              · -- 87 taken
                have c8 := bI_0 c8
                refine lv_iconst (v := 0) hx hb dX8_fits_94 (by decide) ?_
                exact ro_zret (v := 0) hx hb hr hH hlocks dX8_fits_95 (Or.inl rfl) ((bI_f (by rw [fitP_def]; simp only [undP_def, eq_false c1, eq_false c2, eq_false c3, eq_true c4, eq_false c5, eq_false c6, eq_false c8, not_true, not_false_iff, not_true_eq_false, not_false_eq_true, true_or, or_true, false_or, or_false, or_self, and_self, true_and, and_true, false_and, and_false, if_true, if_false])).symm)
              · -- 87 not
                have c8 := bI_1 c8
                refine lv_iconst (v := 1) hx hb dX8_fits_90 (by decide) ?_
                refine lv_goto (tgt := 95) hx hb dX8_fits_91 (by decide) ?_
                exact ro_zret (v := 1) hx hb hr hH hlocks dX8_fits_95 (Or.inr rfl) ((bI_t (by rw [fitP_def]; simp only [undP_def, eq_false c1, eq_false c2, eq_false c3, eq_true c4, eq_false c5, eq_false c6, eq_true c8, not_true, not_false_iff, not_true_eq_false, not_false_eq_true, true_or, or_true, false_or, or_false, or_self, and_self, true_and, and_true, false_and, and_false, if_true, if_false])).symm)
      · -- 37 not
        refine lv_iload hx hb dX8_fits_40 (lv_at hl 4 rfl) ?_
        refine lv_if_ne (tgt := 57) hx hb dX8_fits_42 (by decide) (fun c9 => ?_) (fun c9 => ?_)
        · -- 42 taken
          refine lv_iload_n hx hb dX8_fits_57 rfl (lv_at hl 2 rfl) ?_
          refine lv_iload hx hb dX8_fits_58 (lv_at hl 4 rfl) ?_
          refine lv_icmp_ne (tgt := 94) hx hb dX8_fits_60 (by decide) (fun c10 => ?_) (fun c10 => ?_)
          · -- 60 taken
            refine lv_iconst (v := 0) hx hb dX8_fits_94 (by decide) ?_
            exact ro_zret (v := 0) hx hb hr hH hlocks dX8_fits_95 (Or.inl rfl) ((bI_f (by rw [fitP_def]; simp only [undP_def, eq_false c1, eq_false c2, eq_true c3, eq_false c9, eq_false c10, not_true, not_false_iff, not_true_eq_false, not_false_eq_true, true_or, or_true, false_or, or_false, or_self, and_self, true_and, and_true, false_and, and_false, if_true, if_false])).symm)
          · -- 60 not
            refine lv_iload_n hx hb dX8_fits_63 rfl (lv_at hl 1 rfl) ?_
            refine lv_bipush (v := 9) hx hb dX8_fits_64 (by decide) ?_
            refine lv_icmp_le (tgt := 94) hx hb dX8_fits_66 (by decide) (fun c11 => ?_) (fun c11 => ?_)
            · -- 66 taken
              refine lv_iconst (v := 0) hx hb dX8_fits_94 (by decide) ?_
              exact ro_zret (v := 0) hx hb hr hH hlocks dX8_fits_95 (Or.inl rfl) ((bI_f (by rw [fitP_def]; simp only [undP_def, eq_false c1, eq_false c2, eq_true c3, eq_false c9, eq_true c10, eq_true c11, not_true, not_false_iff, not_true_eq_false, not_false_eq_true, true_or, or_true, false_or, or_false, or_self, and_self, true_and, and_true, false_and, and_false, if_true, if_false])).symm)
            · -- 66 not
              have c11_k := (hk1 c11).2
              refine lv_iload_n hx hb dX8_fits_69 rfl (lv_at hl 3 rfl) ?_
              refine lv_bipush (v := 9) hx hb dX8_fits_70 (by decide) ?_
              refine lv_icmp_le (tgt := 94) hx hb dX8_fits_72 (by decide) (fun c12 => ?_) (fun c12 => ?_)
              · -- 72 taken
                refine lv_iconst (v := 0) hx hb dX8_fits_94 (by decide) ?_
                exact ro_zret (v := 0) hx hb hr hH hlocks dX8_fits_95 (Or.inl rfl) ((bI_f (by rw [fitP_def]; simp only [undP_def, eq_false c1, eq_false c2, eq_true c3, eq_false c9, eq_true c10, eq_false c11, eq_true c12, not_true, not_false_iff, not_true_eq_false, not_false_eq_true, true_or, or_true, false_or, or_false, or_self, and_self, true_and, and_true, false_and, and_false, if_true, if_false])).symm)
              · -- 72 not
                have c12_k := (hk2 c12).2
                refine lv_aload_n hx hb dX8_fits_75 rfl (lv_at hl 0 rfl) ?_
                refine lv_iload_n hx hb dX8_fits_76 rfl (lv_at hl 1 rfl) ?_
                refine lv_bipush (v := 10) hx hb dX8_fits_77 (by decide) ?_
                refine lv_isub hx hb dX8_fits_79 ?_
                refine lv_iload_n hx hb dX8_fits_80 rfl (lv_at hl 3 rfl) ?_
                refine lv_bipush (v := 10) hx hb dX8_fits_81 (by decide) ?_
                refine lv_isub hx hb dX8_fits_83 ?_
                refine W.eq (g2 := F0 m 84 ls [.int (x2 - 10), .int (nI (tyK (x1))), .ref mo]) (congrArg (fun z9 => F0 m 84 ls [.int (x2 - 10), .int z9, .ref mo]) (hk1 c11).1) ?_
                refine W.eq (g2 := F0 m 84 ls [.int (nI (tyK (x2))), .int (nI (tyK (x1))), .ref mo]) (congrArg (fun z9 => F0 m 84 ls [.int z9, .int (nI (tyK (x1))), .ref mo]) (hk2 c12).1) ?_
                refine ro_Vi (D := D) (G := G) (As := [.int (nI (tyK (x1))), .int (nI (tyK (x2)))]) (rest := []) ⟨hx, hb, hml, hown, hts⟩ (m_lies l D G _ mo ad _ _ hP ((tyK (x1))) ((tyK (x2))) (by omega) (by omega) hb6) gV_X8_X8_lies hdV_X8_lies ⟨Nat.le_of_ble_eq_true rfl, Nat.le_of_ble_eq_true rfl⟩ hK (va_recv hK.1 hP (ci := 8) (q0 := 0) rfl rfl) rfl hl.1 rfl (Nat.le_of_ble_eq_true rfl) dX8_fits_84 ⟨Nat.le_of_ble_eq_true rfl, Nat.le_of_ble_eq_true rfl⟩ (fun r13 e_r13 => ?_)
                subst e_r13
                refine lv_if_eq (tgt := 94) hx hb dX8_fits_87 (by decide) (fun c14 => ?_) (fun c14 => ?_)
                · -- 87 taken
                  have c14 := bI_0 c14
                  refine lv_iconst (v := 0) hx hb dX8_fits_94 (by decide) ?_
                  exact ro_zret (v := 0) hx hb hr hH hlocks dX8_fits_95 (Or.inl rfl) ((bI_f (by rw [fitP_def]; simp only [undP_def, eq_false c1, eq_false c2, eq_true c3, eq_false c9, eq_true c10, eq_false c11, eq_false c12, eq_false c14, not_true, not_false_iff, not_true_eq_false, not_false_eq_true, true_or, or_true, false_or, or_false, or_self, and_self, true_and, and_true, false_and, and_false, if_true, if_false])).symm)
                · -- 87 not
                  have c14 := bI_1 c14
                  refine lv_iconst (v := 1) hx hb dX8_fits_90 (by decide) ?_
                  refine lv_goto (tgt := 95) hx hb dX8_fits_91 (by decide) ?_
                  exact ro_zret (v := 1) hx hb hr hH hlocks dX8_fits_95 (Or.inr rfl) ((bI_t (by rw [fitP_def]; simp only [undP_def, eq_false c1, eq_false c2, eq_true c3, eq_false c9, eq_true c10, eq_false c11, eq_false c12, eq_true c14, not_true, not_false_iff, not_true_eq_false, not_false_eq_true, true_or, or_true, false_or, or_false, or_self, and_self, true_and, and_true, false_and, and_false, if_true, if_false])).symm)
        · -- 42 not
          refine lv_iload_n hx hb dX8_fits_45 rfl (lv_at hl 1 rfl) ?_
          refine lv_bipush (v := 9) hx hb dX8_fits_46 (by decide) ?_
          refine lv_icmp_ge (tgt := 57) hx hb dX8_fits_48 (by decide) (fun c15 => ?_) (fun c15 => ?_)
          · -- 48 taken
            refine lv_iload_n hx hb dX8_fits_57 rfl (lv_at hl 2 rfl) ?_
            refine lv_iload hx hb dX8_fits_58 (lv_at hl 4 rfl) ?_
            refine lv_icmp_ne (tgt := 94) hx hb dX8_fits_60 (by decide) (fun c16 => ?_) (fun c16 => ?_)
            · -- 60 taken
              refine lv_iconst (v := 0) hx hb dX8_fits_94 (by decide) ?_
              exact ro_zret (v := 0) hx hb hr hH hlocks dX8_fits_95 (Or.inl rfl) ((bI_f (by rw [fitP_def]; simp only [undP_def, eq_false c1, eq_false c2, eq_true c3, eq_true c9, eq_true c15, eq_false c16, not_true, not_false_iff, not_true_eq_false, not_false_eq_true, true_or, or_true, false_or, or_false, or_self, and_self, true_and, and_true, false_and, and_false, if_true, if_false])).symm)
            · -- 60 not
              refine lv_iload_n hx hb dX8_fits_63 rfl (lv_at hl 1 rfl) ?_
              refine lv_bipush (v := 9) hx hb dX8_fits_64 (by decide) ?_
              refine lv_icmp_le (tgt := 94) hx hb dX8_fits_66 (by decide) (fun c17 => ?_) (fun c17 => ?_)
              · -- 66 taken
                refine lv_iconst (v := 0) hx hb dX8_fits_94 (by decide) ?_
                exact ro_zret (v := 0) hx hb hr hH hlocks dX8_fits_95 (Or.inl rfl) ((bI_f (by rw [fitP_def]; simp only [undP_def, eq_false c1, eq_false c2, eq_true c3, eq_true c9, eq_true c15, eq_true c16, eq_true c17, not_true, not_false_iff, not_true_eq_false, not_false_eq_true, true_or, or_true, false_or, or_false, or_self, and_self, true_and, and_true, false_and, and_false, if_true, if_false])).symm)
              · -- 66 not
                have c17_k := (hk1 c17).2
                refine lv_iload_n hx hb dX8_fits_69 rfl (lv_at hl 3 rfl) ?_
                refine lv_bipush (v := 9) hx hb dX8_fits_70 (by decide) ?_
                refine lv_icmp_le (tgt := 94) hx hb dX8_fits_72 (by decide) (fun c18 => ?_) (fun c18 => ?_)
                · -- 72 taken
                  refine lv_iconst (v := 0) hx hb dX8_fits_94 (by decide) ?_
                  exact ro_zret (v := 0) hx hb hr hH hlocks dX8_fits_95 (Or.inl rfl) ((bI_f (by rw [fitP_def]; simp only [undP_def, eq_false c1, eq_false c2, eq_true c3, eq_true c9, eq_true c15, eq_true c16, eq_false c17, eq_true c18, not_true, not_false_iff, not_true_eq_false, not_false_eq_true, true_or, or_true, false_or, or_false, or_self, and_self, true_and, and_true, false_and, and_false, if_true, if_false])).symm)
                · -- 72 not
                  have c18_k := (hk2 c18).2
                  refine lv_aload_n hx hb dX8_fits_75 rfl (lv_at hl 0 rfl) ?_
                  refine lv_iload_n hx hb dX8_fits_76 rfl (lv_at hl 1 rfl) ?_
                  refine lv_bipush (v := 10) hx hb dX8_fits_77 (by decide) ?_
                  refine lv_isub hx hb dX8_fits_79 ?_
                  refine lv_iload_n hx hb dX8_fits_80 rfl (lv_at hl 3 rfl) ?_
                  refine lv_bipush (v := 10) hx hb dX8_fits_81 (by decide) ?_
                  refine lv_isub hx hb dX8_fits_83 ?_
                  refine W.eq (g2 := F0 m 84 ls [.int (x2 - 10), .int (nI (tyK (x1))), .ref mo]) (congrArg (fun z9 => F0 m 84 ls [.int (x2 - 10), .int z9, .ref mo]) (hk1 c17).1) ?_
                  refine W.eq (g2 := F0 m 84 ls [.int (nI (tyK (x2))), .int (nI (tyK (x1))), .ref mo]) (congrArg (fun z9 => F0 m 84 ls [.int z9, .int (nI (tyK (x1))), .ref mo]) (hk2 c18).1) ?_
                  refine ro_Vi (D := D) (G := G) (As := [.int (nI (tyK (x1))), .int (nI (tyK (x2)))]) (rest := []) ⟨hx, hb, hml, hown, hts⟩ (m_lies l D G _ mo ad _ _ hP ((tyK (x1))) ((tyK (x2))) (by omega) (by omega) hb6) gV_X8_X8_lies hdV_X8_lies ⟨Nat.le_of_ble_eq_true rfl, Nat.le_of_ble_eq_true rfl⟩ hK (va_recv hK.1 hP (ci := 8) (q0 := 0) rfl rfl) rfl hl.1 rfl (Nat.le_of_ble_eq_true rfl) dX8_fits_84 ⟨Nat.le_of_ble_eq_true rfl, Nat.le_of_ble_eq_true rfl⟩ (fun r19 e_r19 => ?_)
                  subst e_r19
                  refine lv_if_eq (tgt := 94) hx hb dX8_fits_87 (by decide) (fun c20 => ?_) (fun c20 => ?_)
                  · -- 87 taken
                    have c20 := bI_0 c20
                    refine lv_iconst (v := 0) hx hb dX8_fits_94 (by decide) ?_
                    exact ro_zret (v := 0) hx hb hr hH hlocks dX8_fits_95 (Or.inl rfl) ((bI_f (by rw [fitP_def]; simp only [undP_def, eq_false c1, eq_false c2, eq_true c3, eq_true c9, eq_true c15, eq_true c16, eq_false c17, eq_false c18, eq_false c20, not_true, not_false_iff, not_true_eq_false, not_false_eq_true, true_or, or_true, false_or, or_false, or_self, and_self, true_and, and_true, false_and, and_false, if_true, if_false])).symm)
                  · -- 87 not
                    have c20 := bI_1 c20
                    refine lv_iconst (v := 1) hx hb dX8_fits_90 (by decide) ?_
                    refine lv_goto (tgt := 95) hx hb dX8_fits_91 (by decide) ?_
                    exact ro_zret (v := 1) hx hb hr hH hlocks dX8_fits_95 (Or.inr rfl) ((bI_t (by rw [fitP_def]; simp only [undP_def, eq_false c1, eq_false c2, eq_true c3, eq_true c9, eq_true c15, eq_true c16, eq_false c17, eq_false c18, eq_true c20, not_true, not_false_iff, not_true_eq_false, not_false_eq_true, true_or, or_true, false_or, or_false, or_self, and_self, true_and, and_true, false_and, and_false, if_true, if_false])).symm)
          · -- 48 not
            refine lv_iload_n hx hb dX8_fits_51 rfl (lv_at hl 1 rfl) ?_
            refine lv_iload_n hx hb dX8_fits_52 rfl (lv_at hl 3 rfl) ?_
            refine ro_Si (D := D) (G := G) (As := [.int x1, .int x2]) (rest := []) ⟨hx, hb, hml, hown, hts⟩ (m_widens l D G _ x1 x2) gS_X8_X8_widens hdS_X8_widens ⟨Nat.le_of_ble_eq_true rfl, Nat.le_of_ble_eq_true rfl⟩ hK rfl hl.1 rfl (Nat.le_of_ble_eq_true rfl) dX8_fits_53 ⟨Nat.le_of_ble_eq_true rfl, Nat.le_of_ble_eq_true rfl⟩ (fun r21 e_r21 => ?_)
            subst e_r21
            exact ro_zret (v := bI (wdP x1 x2)) hx hb hr hH hlocks dX8_fits_56 bI_b (bI_c (by rw [fitP_def]; simp only [eq_false c1, eq_false c2, eq_true c3, eq_true c9, eq_false c15, not_true, not_false_iff, not_true_eq_false, not_false_eq_true, true_or, or_true, false_or, or_false, or_self, and_self, true_and, and_true, false_and, and_false, if_true, if_false]))
    · -- 16 not
      refine lv_iload hx hb dX8_fits_19 (lv_at hl 4 rfl) ?_
      refine lv_if_gt (tgt := 30) hx hb dX8_fits_21 (by decide) (fun c22 => ?_) (fun c22 => ?_)
      · -- 21 taken
        refine lv_iconst (v := 1) hx hb dX8_fits_30 (by decide) ?_
        refine lv_goto (tgt := 35) hx hb dX8_fits_31 (by decide) ?_
        exact ro_zret (v := 1) hx hb hr hH hlocks dX8_fits_35 (Or.inr rfl) ((bI_t (by rw [fitP_def]; simp only [undP_def, eq_false c1, eq_true c2, eq_true c22, not_true, not_false_iff, not_true_eq_false, not_false_eq_true, true_or, or_true, false_or, or_false, or_self, and_self, true_and, and_true, false_and, and_false, if_true, if_false])).symm)
      · -- 21 not
        refine lv_iload_n hx hb dX8_fits_24 rfl (lv_at hl 3 rfl) ?_
        refine lv_bipush (v := 9) hx hb dX8_fits_25 (by decide) ?_
        refine lv_icmp_le (tgt := 34) hx hb dX8_fits_27 (by decide) (fun c23 => ?_) (fun c23 => ?_)
        · -- 27 taken
          refine lv_iconst (v := 0) hx hb dX8_fits_34 (by decide) ?_
          exact ro_zret (v := 0) hx hb hr hH hlocks dX8_fits_35 (Or.inl rfl) ((bI_f (by rw [fitP_def]; simp only [undP_def, eq_false c1, eq_true c2, eq_false c22, eq_true c23, not_true, not_false_iff, not_true_eq_false, not_false_eq_true, true_or, or_true, false_or, or_false, or_self, and_self, true_and, and_true, false_and, and_false, if_true, if_false])).symm)
        · -- 27 not
          have c23_k := (hk2 c23).2
          refine lv_iconst (v := 1) hx hb dX8_fits_30 (by decide) ?_
          refine lv_goto (tgt := 35) hx hb dX8_fits_31 (by decide) ?_
          exact ro_zret (v := 1) hx hb hr hH hlocks dX8_fits_35 (Or.inr rfl) ((bI_t (by rw [fitP_def]; simp only [undP_def, eq_false c1, eq_true c2, eq_false c22, eq_false c23, not_true, not_false_iff, not_true_eq_false, not_false_eq_true, true_or, or_true, false_or, or_false, or_self, and_self, true_and, and_true, false_and, and_false, if_true, if_false])).symm)
  · -- 2 not
    refine lv_iload_n hx hb dX8_fits_5 rfl (lv_at hl 2 rfl) ?_
    refine lv_iload hx hb dX8_fits_6 (lv_at hl 4 rfl) ?_
    refine lv_icmp_ne (tgt := 13) hx hb dX8_fits_8 (by decide) (fun c24 => ?_) (fun c24 => ?_)
    · -- 8 taken
      refine lv_iload_n hx hb dX8_fits_13 rfl (lv_at hl 1 rfl) ?_
      refine lv_bipush (v := 9) hx hb dX8_fits_14 (by decide) ?_
      refine lv_icmp_ne (tgt := 36) hx hb dX8_fits_16 (by decide) (fun c25 => ?_) (fun c25 => ?_)
      · -- 16 taken
        refine lv_iload_n hx hb dX8_fits_36 rfl (lv_at hl 2 rfl) ?_
        refine lv_if_ne (tgt := 57) hx hb dX8_fits_37 (by decide) (fun c26 => ?_) (fun c26 => ?_)
        · -- 37 taken
          refine lv_iload_n hx hb dX8_fits_57 rfl (lv_at hl 2 rfl) ?_
          refine lv_iload hx hb dX8_fits_58 (lv_at hl 4 rfl) ?_
          refine lv_icmp_ne (tgt := 94) hx hb dX8_fits_60 (by decide) (fun hh => ?_) (fun hh => absurd hh c24)
          refine lv_iconst (v := 0) hx hb dX8_fits_94 (by decide) ?_
          exact ro_zret (v := 0) hx hb hr hH hlocks dX8_fits_95 (Or.inl rfl) ((bI_f (by rw [fitP_def]; simp only [undP_def, eq_true c1, eq_false c24, eq_false c25, eq_false c26, not_true, not_false_iff, not_true_eq_false, not_false_eq_true, true_or, or_true, false_or, or_false, or_self, and_self, true_and, and_true, false_and, and_false, if_true, if_false])).symm)
        · -- 37 not
          refine lv_iload hx hb dX8_fits_40 (lv_at hl 4 rfl) ?_
          refine lv_if_ne (tgt := 57) hx hb dX8_fits_42 (by decide) (fun c28 => ?_) (fun c28 => ?_)
          · -- 42 taken
            refine lv_iload_n hx hb dX8_fits_57 rfl (lv_at hl 2 rfl) ?_
            refine lv_iload hx hb dX8_fits_58 (lv_at hl 4 rfl) ?_
            refine lv_icmp_ne (tgt := 94) hx hb dX8_fits_60 (by decide) (fun hh => ?_) (fun hh => absurd hh c24)
            refine lv_iconst (v := 0) hx hb dX8_fits_94 (by decide) ?_
            exact ro_zret (v := 0) hx hb hr hH hlocks dX8_fits_95 (Or.inl rfl) ((bI_f (by rw [fitP_def]; simp only [undP_def, eq_true c1, eq_false c24, eq_false c25, eq_true c26, eq_false c28, not_true, not_false_iff, not_true_eq_false, not_false_eq_true, true_or, or_true, false_or, or_false, or_self, and_self, true_and, and_true, false_and, and_false, if_true, if_false])).symm)
          · -- 42 not
            refine lv_iload_n hx hb dX8_fits_45 rfl (lv_at hl 1 rfl) ?_
            refine lv_bipush (v := 9) hx hb dX8_fits_46 (by decide) ?_
            refine lv_icmp_ge (tgt := 57) hx hb dX8_fits_48 (by decide) (fun c30 => ?_) (fun c30 => ?_)
            · -- 48 taken
              refine lv_iload_n hx hb dX8_fits_57 rfl (lv_at hl 2 rfl) ?_
              refine lv_iload hx hb dX8_fits_58 (lv_at hl 4 rfl) ?_
              refine lv_icmp_ne (tgt := 94) hx hb dX8_fits_60 (by decide) (fun hh => ?_) (fun hh => absurd hh c24)
              refine lv_iconst (v := 0) hx hb dX8_fits_94 (by decide) ?_
              exact ro_zret (v := 0) hx hb hr hH hlocks dX8_fits_95 (Or.inl rfl) ((bI_f (by rw [fitP_def]; simp only [undP_def, eq_true c1, eq_false c24, eq_false c25, eq_true c26, eq_true c28, eq_true c30, not_true, not_false_iff, not_true_eq_false, not_false_eq_true, true_or, or_true, false_or, or_false, or_self, and_self, true_and, and_true, false_and, and_false, if_true, if_false])).symm)
            · -- 48 not
              refine lv_iload_n hx hb dX8_fits_51 rfl (lv_at hl 1 rfl) ?_
              refine lv_iload_n hx hb dX8_fits_52 rfl (lv_at hl 3 rfl) ?_
              refine ro_Si (D := D) (G := G) (As := [.int x1, .int x2]) (rest := []) ⟨hx, hb, hml, hown, hts⟩ (m_widens l D G _ x1 x2) gS_X8_X8_widens hdS_X8_widens ⟨Nat.le_of_ble_eq_true rfl, Nat.le_of_ble_eq_true rfl⟩ hK rfl hl.1 rfl (Nat.le_of_ble_eq_true rfl) dX8_fits_53 ⟨Nat.le_of_ble_eq_true rfl, Nat.le_of_ble_eq_true rfl⟩ (fun r32 e_r32 => ?_)
              subst e_r32
              exact ro_zret (v := bI (wdP x1 x2)) hx hb hr hH hlocks dX8_fits_56 bI_b (bI_c (by rw [fitP_def]; simp only [eq_true c1, eq_false c24, eq_false c25, eq_true c26, eq_true c28, eq_false c30, not_true, not_false_iff, not_true_eq_false, not_false_eq_true, true_or, or_true, false_or, or_false, or_self, and_self, true_and, and_true, false_and, and_false, if_true, if_false]))
      · -- 16 not
        refine lv_iload hx hb dX8_fits_19 (lv_at hl 4 rfl) ?_
        refine lv_if_gt (tgt := 30) hx hb dX8_fits_21 (by decide) (fun c33 => ?_) (fun c33 => ?_)
        · -- 21 taken
          refine lv_iconst (v := 1) hx hb dX8_fits_30 (by decide) ?_
          refine lv_goto (tgt := 35) hx hb dX8_fits_31 (by decide) ?_
          exact ro_zret (v := 1) hx hb hr hH hlocks dX8_fits_35 (Or.inr rfl) ((bI_t (by rw [fitP_def]; simp only [undP_def, eq_true c1, eq_false c24, eq_true c25, eq_true c33, not_true, not_false_iff, not_true_eq_false, not_false_eq_true, true_or, or_true, false_or, or_false, or_self, and_self, true_and, and_true, false_and, and_false, if_true, if_false])).symm)
        · -- 21 not
          refine lv_iload_n hx hb dX8_fits_24 rfl (lv_at hl 3 rfl) ?_
          refine lv_bipush (v := 9) hx hb dX8_fits_25 (by decide) ?_
          refine lv_icmp_le (tgt := 34) hx hb dX8_fits_27 (by decide) (fun c34 => ?_) (fun c34 => ?_)
          · -- 27 taken
            refine lv_iconst (v := 0) hx hb dX8_fits_34 (by decide) ?_
            exact ro_zret (v := 0) hx hb hr hH hlocks dX8_fits_35 (Or.inl rfl) ((bI_f (by rw [fitP_def]; simp only [undP_def, eq_true c1, eq_false c24, eq_true c25, eq_false c33, eq_true c34, not_true, not_false_iff, not_true_eq_false, not_false_eq_true, true_or, or_true, false_or, or_false, or_self, and_self, true_and, and_true, false_and, and_false, if_true, if_false])).symm)
          · -- 27 not
            have c34_k := (hk2 c34).2
            refine lv_iconst (v := 1) hx hb dX8_fits_30 (by decide) ?_
            refine lv_goto (tgt := 35) hx hb dX8_fits_31 (by decide) ?_
            exact ro_zret (v := 1) hx hb hr hH hlocks dX8_fits_35 (Or.inr rfl) ((bI_t (by rw [fitP_def]; simp only [undP_def, eq_true c1, eq_false c24, eq_true c25, eq_false c33, eq_false c34, not_true, not_false_iff, not_true_eq_false, not_false_eq_true, true_or, or_true, false_or, or_false, or_self, and_self, true_and, and_true, false_and, and_false, if_true, if_false])).symm)
    · -- 8 not
      refine lv_iconst (v := 1) hx hb dX8_fits_11 (by decide) ?_
      exact ro_zret (v := 1) hx hb hr hH hlocks dX8_fits_12 (Or.inr rfl) ((bI_t (by rw [fitP_def]; simp only [undP_def, eq_true c1, eq_true c24, not_true, not_false_iff, not_true_eq_false, not_false_eq_true, true_or, or_true, false_or, or_false, or_self, and_self, true_and, and_true, false_and, and_false, if_true, if_false])).symm)
end
section
theorem dX8_kindAt_0 : decode cX8_kindAt 0 = .ok (.aload_n 0, 1) := by decide +kernel
theorem dX8_kindAt_1 : decode cX8_kindAt 1 = .ok (.getfield 60, 3) := by decide +kernel
theorem dX8_kindAt_4 : decode cX8_kindAt 4 = .ok (.iconst 5, 1) := by decide +kernel
theorem dX8_kindAt_5 : decode cX8_kindAt 5 = .ok (.iload_n 1, 1) := by decide +kernel
theorem dX8_kindAt_6 : decode cX8_kindAt 6 = .ok (.imul, 1) := by decide +kernel
theorem dX8_kindAt_7 : decode cX8_kindAt 7 = .ok (.iload_n 3, 1) := by decide +kernel
theorem dX8_kindAt_8 : decode cX8_kindAt 8 = .ok (.ifCond .eq 24, 3) := by decide +kernel
theorem dX8_kindAt_32 : decode cX8_kindAt 32 = .ok (.iload_n 2, 1) := by decide +kernel
theorem dX8_kindAt_33 : decode cX8_kindAt 33 = .ok (.iadd, 1) := by decide +kernel
theorem dX8_kindAt_34 : decode cX8_kindAt 34 = .ok (.iaload, 1) := by decide +kernel
theorem dX8_kindAt_35 : decode cX8_kindAt 35 = .ok (.ireturn, 1) := by decide +kernel
theorem dX8_kindAt_11 : decode cX8_kindAt 11 = .ok (.iload_n 2, 1) := by decide +kernel
theorem dX8_kindAt_12 : decode cX8_kindAt 12 = .ok (.aload_n 0, 1) := by decide +kernel
theorem dX8_kindAt_13 : decode cX8_kindAt 13 = .ok (.getfield 57, 3) := by decide +kernel
theorem dX8_kindAt_16 : decode cX8_kindAt 16 = .ok (.iload_n 1, 1) := by decide +kernel
theorem dX8_kindAt_17 : decode cX8_kindAt 17 = .ok (.iaload, 1) := by decide +kernel
theorem dX8_kindAt_18 : decode cX8_kindAt 18 = .ok (.if_icmp .lt 14, 3) := by decide +kernel
theorem dX8_kindAt_21 : decode cX8_kindAt 21 = .ok (.aload_n 0, 1) := by decide +kernel
theorem dX8_kindAt_22 : decode cX8_kindAt 22 = .ok (.getfield 57, 3) := by decide +kernel
theorem dX8_kindAt_25 : decode cX8_kindAt 25 = .ok (.iload_n 1, 1) := by decide +kernel
theorem dX8_kindAt_26 : decode cX8_kindAt 26 = .ok (.iaload, 1) := by decide +kernel
theorem dX8_kindAt_27 : decode cX8_kindAt 27 = .ok (.iconst 1, 1) := by decide +kernel
theorem dX8_kindAt_28 : decode cX8_kindAt 28 = .ok (.isub, 1) := by decide +kernel
theorem dX8_kindAt_29 : decode cX8_kindAt 29 = .ok (.goto 4, 3) := by decide +kernel
theorem dX8_dimAt_0 : decode cX8_dimAt 0 = .ok (.iload_n 3, 1) := by decide +kernel
theorem dX8_dimAt_1 : decode cX8_dimAt 1 = .ok (.ifCond .eq 37, 3) := by decide +kernel
theorem dX8_dimAt_38 : decode cX8_dimAt 38 = .ok (.aload_n 0, 1) := by decide +kernel
theorem dX8_dimAt_39 : decode cX8_dimAt 39 = .ok (.getfield 63, 3) := by decide +kernel
theorem dX8_dimAt_42 : decode cX8_dimAt 42 = .ok (.iconst 5, 1) := by decide +kernel
theorem dX8_dimAt_43 : decode cX8_dimAt 43 = .ok (.iload_n 1, 1) := by decide +kernel
theorem dX8_dimAt_44 : decode cX8_dimAt 44 = .ok (.imul, 1) := by decide +kernel
theorem dX8_dimAt_45 : decode cX8_dimAt 45 = .ok (.iload_n 2, 1) := by decide +kernel
theorem dX8_dimAt_46 : decode cX8_dimAt 46 = .ok (.iadd, 1) := by decide +kernel
theorem dX8_dimAt_47 : decode cX8_dimAt 47 = .ok (.iaload, 1) := by decide +kernel
theorem dX8_dimAt_48 : decode cX8_dimAt 48 = .ok (.ireturn, 1) := by decide +kernel
theorem dX8_dimAt_4 : decode cX8_dimAt 4 = .ok (.iload_n 2, 1) := by decide +kernel
theorem dX8_dimAt_5 : decode cX8_dimAt 5 = .ok (.aload_n 0, 1) := by decide +kernel
theorem dX8_dimAt_6 : decode cX8_dimAt 6 = .ok (.getfield 57, 3) := by decide +kernel
theorem dX8_dimAt_9 : decode cX8_dimAt 9 = .ok (.iload_n 1, 1) := by decide +kernel
theorem dX8_dimAt_10 : decode cX8_dimAt 10 = .ok (.iaload, 1) := by decide +kernel
theorem dX8_dimAt_11 : decode cX8_dimAt 11 = .ok (.iconst 1, 1) := by decide +kernel
theorem dX8_dimAt_12 : decode cX8_dimAt 12 = .ok (.isub, 1) := by decide +kernel
theorem dX8_dimAt_13 : decode cX8_dimAt 13 = .ok (.if_icmp .lt 25, 3) := by decide +kernel
theorem dX8_dimAt_16 : decode cX8_dimAt 16 = .ok (.aload_n 0, 1) := by decide +kernel
theorem dX8_dimAt_17 : decode cX8_dimAt 17 = .ok (.getfield 63, 3) := by decide +kernel
theorem dX8_dimAt_20 : decode cX8_dimAt 20 = .ok (.iconst 5, 1) := by decide +kernel
theorem dX8_dimAt_21 : decode cX8_dimAt 21 = .ok (.iload_n 1, 1) := by decide +kernel
theorem dX8_dimAt_22 : decode cX8_dimAt 22 = .ok (.imul, 1) := by decide +kernel
theorem dX8_dimAt_23 : decode cX8_dimAt 23 = .ok (.aload_n 0, 1) := by decide +kernel
theorem dX8_dimAt_24 : decode cX8_dimAt 24 = .ok (.getfield 57, 3) := by decide +kernel
theorem dX8_dimAt_27 : decode cX8_dimAt 27 = .ok (.iload_n 1, 1) := by decide +kernel
theorem dX8_dimAt_28 : decode cX8_dimAt 28 = .ok (.iaload, 1) := by decide +kernel
theorem dX8_dimAt_29 : decode cX8_dimAt 29 = .ok (.iadd, 1) := by decide +kernel
theorem dX8_dimAt_30 : decode cX8_dimAt 30 = .ok (.iconst 1, 1) := by decide +kernel
theorem dX8_dimAt_31 : decode cX8_dimAt 31 = .ok (.isub, 1) := by decide +kernel
theorem dX8_dimAt_32 : decode cX8_dimAt 32 = .ok (.iaload, 1) := by decide +kernel
theorem dX8_dimAt_33 : decode cX8_dimAt 33 = .ok (.iconst 1, 1) := by decide +kernel
theorem dX8_dimAt_34 : decode cX8_dimAt 34 = .ok (.isub, 1) := by decide +kernel
theorem dX8_dimAt_35 : decode cX8_dimAt 35 = .ok (.goto 13, 3) := by decide +kernel
theorem dX8_takes_54 : decode cX8_takes 54 = .ok (.istore_n 3, 1) := by decide +kernel
theorem dX8_takes_55 : decode cX8_takes 55 = .ok (.iconst 0, 1) := by decide +kernel
theorem dX8_takes_56 : decode cX8_takes 56 = .ok (.istore 4, 2) := by decide +kernel
theorem dX8_takes_58 : decode cX8_takes 58 = .ok (.iload_n 3, 1) := by decide +kernel
theorem dX8_takes_59 : decode cX8_takes 59 = .ok (.ifCond .eq 53, 3) := by decide +kernel
theorem dX8_takes_112 : decode cX8_takes 112 = .ok (.iload_n 3, 1) := by decide +kernel
theorem dX8_takes_113 : decode cX8_takes 113 = .ok (.ireturn, 1) := by decide +kernel
theorem dX8_takes_62 : decode cX8_takes 62 = .ok (.iload 4, 2) := by decide +kernel
theorem dX8_takes_64 : decode cX8_takes 64 = .ok (.aload_n 0, 1) := by decide +kernel
theorem q_701 : Cond.fieldLink "FieldMemberModel" 196 "FieldMemberModel" "waits" "I" ∈ TT := tt_t (i := 701) (by decide +kernel) (by decide +kernel)
theorem dX8_takes_65 : decode cX8_takes 65 = .ok (.getfield 196, 3) := by decide +kernel
theorem dX8_takes_68 : decode cX8_takes 68 = .ok (.if_icmp .ge 44, 3) := by decide +kernel
theorem dX8_takes_71 : decode cX8_takes 71 = .ok (.aload_n 0, 1) := by decide +kernel
theorem dX8_takes_72 : decode cX8_takes 72 = .ok (.aload_n 0, 1) := by decide +kernel
theorem q_702 : Cond.fieldLink "FieldMemberModel" 66 "FieldMemberModel" "argumentKinds" "[I" ∈ TT := tt_t (i := 702) (by decide +kernel) (by decide +kernel)
theorem dX8_takes_73 : decode cX8_takes 73 = .ok (.getfield 66, 3) := by decide +kernel
theorem dX8_takes_76 : decode cX8_takes 76 = .ok (.iload 4, 2) := by decide +kernel
theorem dX8_takes_78 : decode cX8_takes 78 = .ok (.iaload, 1) := by decide +kernel
theorem dX8_takes_79 : decode cX8_takes 79 = .ok (.aload_n 0, 1) := by decide +kernel
theorem q_703 : Cond.fieldLink "FieldMemberModel" 69 "FieldMemberModel" "argumentDims" "[I" ∈ TT := tt_t (i := 703) (by decide +kernel) (by decide +kernel)
theorem dX8_takes_80 : decode cX8_takes 80 = .ok (.getfield 69, 3) := by decide +kernel
theorem dX8_takes_83 : decode cX8_takes 83 = .ok (.iload 4, 2) := by decide +kernel
theorem dX8_takes_85 : decode cX8_takes 85 = .ok (.iaload, 1) := by decide +kernel
theorem dX8_takes_86 : decode cX8_takes 86 = .ok (.aload_n 0, 1) := by decide +kernel
theorem dX8_takes_87 : decode cX8_takes 87 = .ok (.iload_n 1, 1) := by decide +kernel
theorem dX8_takes_88 : decode cX8_takes 88 = .ok (.iload 4, 2) := by decide +kernel
theorem dX8_takes_90 : decode cX8_takes 90 = .ok (.iload_n 2, 1) := by decide +kernel
theorem q_961 : Cond.methodLink "FieldMemberModel" 202 ⟨"FieldMemberModel", "kindAt", "(IIZ)I"⟩ ∈ TT := tt_t (i := 961) (by decide +kernel) (by decide +kernel)
theorem q_964 : Cond.code ⟨"FieldMemberModel", "kindAt", "(IIZ)I"⟩ prog_10_method_42_code 4 (some .int) ∈ TT := tt_t (i := 964) (by decide +kernel) (by decide +kernel)
theorem q_963 : Cond.instanceMethod ⟨"FieldMemberModel", "kindAt", "(IIZ)I"⟩ ∈ TT := tt_t (i := 963) (by decide +kernel) (by decide +kernel)
theorem qs_53 : Cond.selects "FieldMemberModel" ⟨"FieldMemberModel", "kindAt", "(IIZ)I"⟩ ⟨"FieldMemberModel", "kindAt", "(IIZ)I"⟩ ∈ TT := tt_s (i := 53) (by decide +kernel) (by decide +kernel)
theorem gV_X8_X8_kindAt : GoodIn TT (wsV RX8 202 RX8 yX8_kindAt (ww yX8_kindAt cX8_kindAt 4 (some .int))) := tt_V q_961 q_963 qs_53 q_4 q_964
theorem hdV_X8_kindAt : yX8_kindAt.cls = RX8 ∧ yX8_kindAt.cls ≠ "java/lang/invoke/MethodHandle" ∧ yX8_kindAt.cls ≠ "java/lang/invoke/VarHandle" ∧ (parseMethodDescriptor yX8_kindAt.desc).map (fun d => d.parameters.length) = some 3 := by decide +kernel
theorem dX8_takes_91 : decode cX8_takes 91 = .ok (.invokevirtual 202, 3) := by decide +kernel
theorem dX8_takes_94 : decode cX8_takes 94 = .ok (.aload_n 0, 1) := by decide +kernel
theorem dX8_takes_95 : decode cX8_takes 95 = .ok (.iload_n 1, 1) := by decide +kernel
theorem dX8_takes_96 : decode cX8_takes 96 = .ok (.iload 4, 2) := by decide +kernel
theorem dX8_takes_98 : decode cX8_takes 98 = .ok (.iload_n 2, 1) := by decide +kernel
theorem q_965 : Cond.methodLink "FieldMemberModel" 205 ⟨"FieldMemberModel", "dimAt", "(IIZ)I"⟩ ∈ TT := tt_t (i := 965) (by decide +kernel) (by decide +kernel)
theorem q_968 : Cond.code ⟨"FieldMemberModel", "dimAt", "(IIZ)I"⟩ prog_10_method_43_code 4 (some .int) ∈ TT := tt_t (i := 968) (by decide +kernel) (by decide +kernel)
theorem q_967 : Cond.instanceMethod ⟨"FieldMemberModel", "dimAt", "(IIZ)I"⟩ ∈ TT := tt_t (i := 967) (by decide +kernel) (by decide +kernel)
theorem qs_54 : Cond.selects "FieldMemberModel" ⟨"FieldMemberModel", "dimAt", "(IIZ)I"⟩ ⟨"FieldMemberModel", "dimAt", "(IIZ)I"⟩ ∈ TT := tt_s (i := 54) (by decide +kernel) (by decide +kernel)
theorem gV_X8_X8_dimAt : GoodIn TT (wsV RX8 205 RX8 yX8_dimAt (ww yX8_dimAt cX8_dimAt 4 (some .int))) := tt_V q_965 q_967 qs_54 q_4 q_968
theorem hdV_X8_dimAt : yX8_dimAt.cls = RX8 ∧ yX8_dimAt.cls ≠ "java/lang/invoke/MethodHandle" ∧ yX8_dimAt.cls ≠ "java/lang/invoke/VarHandle" ∧ (parseMethodDescriptor yX8_dimAt.desc).map (fun d => d.parameters.length) = some 3 := by decide +kernel
theorem dX8_takes_99 : decode cX8_takes 99 = .ok (.invokevirtual 205, 3) := by decide +kernel
theorem q_969 : Cond.methodLink "FieldMemberModel" 208 ⟨"FieldMemberModel", "fits", "(IIII)Z"⟩ ∈ TT := tt_t (i := 969) (by decide +kernel) (by decide +kernel)
theorem q_972 : Cond.code ⟨"FieldMemberModel", "fits", "(IIII)Z"⟩ prog_10_method_40_code 5 (some .boolean) ∈ TT := tt_t (i := 972) (by decide +kernel) (by decide +kernel)
theorem q_971 : Cond.instanceMethod ⟨"FieldMemberModel", "fits", "(IIII)Z"⟩ ∈ TT := tt_t (i := 971) (by decide +kernel) (by decide +kernel)
theorem qs_55 : Cond.selects "FieldMemberModel" ⟨"FieldMemberModel", "fits", "(IIII)Z"⟩ ⟨"FieldMemberModel", "fits", "(IIII)Z"⟩ ∈ TT := tt_s (i := 55) (by decide +kernel) (by decide +kernel)
theorem gV_X8_X8_fits : GoodIn TT (wsV RX8 208 RX8 yX8_fits (ww yX8_fits cX8_fits 5 (some .boolean))) := tt_V q_969 q_971 qs_55 q_4 q_972
theorem hdV_X8_fits : yX8_fits.cls = RX8 ∧ yX8_fits.cls ≠ "java/lang/invoke/MethodHandle" ∧ yX8_fits.cls ≠ "java/lang/invoke/VarHandle" ∧ (parseMethodDescriptor yX8_fits.desc).map (fun d => d.parameters.length) = some 4 := by decide +kernel
theorem dX8_takes_102 : decode cX8_takes 102 = .ok (.invokevirtual 208, 3) := by decide +kernel
theorem dX8_takes_105 : decode cX8_takes 105 = .ok (.istore_n 3, 1) := by decide +kernel
theorem dX8_takes_106 : decode cX8_takes 106 = .ok (.iinc 4 1, 3) := by decide +kernel
theorem dX8_takes_109 : decode cX8_takes 109 = .ok (.goto (-51), 3) := by decide +kernel
theorem dX8_takes_0 : decode cX8_takes 0 = .ok (.iload_n 2, 1) := by decide +kernel
theorem dX8_takes_1 : decode cX8_takes 1 = .ok (.ifCond .eq 35, 3) := by decide +kernel
theorem dX8_takes_36 : decode cX8_takes 36 = .ok (.aload_n 0, 1) := by decide +kernel
theorem dX8_takes_37 : decode cX8_takes 37 = .ok (.getfield 196, 3) := by decide +kernel
theorem dX8_takes_40 : decode cX8_takes 40 = .ok (.aload_n 0, 1) := by decide +kernel
theorem dX8_takes_41 : decode cX8_takes 41 = .ok (.getfield 57, 3) := by decide +kernel
theorem dX8_takes_44 : decode cX8_takes 44 = .ok (.iload_n 1, 1) := by decide +kernel
theorem dX8_takes_45 : decode cX8_takes 45 = .ok (.iaload, 1) := by decide +kernel
theorem dX8_takes_46 : decode cX8_takes 46 = .ok (.if_icmp .ne 7, 3) := by decide +kernel
theorem dX8_takes_53 : decode cX8_takes 53 = .ok (.iconst 0, 1) := by decide +kernel
theorem dX8_takes_49 : decode cX8_takes 49 = .ok (.iconst 1, 1) := by decide +kernel
theorem dX8_takes_50 : decode cX8_takes 50 = .ok (.goto 4, 3) := by decide +kernel
theorem dX8_takes_4 : decode cX8_takes 4 = .ok (.aload_n 0, 1) := by decide +kernel
theorem q_696 : Cond.fieldLink "FieldMemberModel" 54 "FieldMemberModel" "isVaried" "[Z" ∈ TT := tt_t (i := 696) (by decide +kernel) (by decide +kernel)
theorem dX8_takes_5 : decode cX8_takes 5 = .ok (.getfield 54, 3) := by decide +kernel
theorem dX8_takes_8 : decode cX8_takes 8 = .ok (.iload_n 1, 1) := by decide +kernel
theorem dX8_takes_9 : decode cX8_takes 9 = .ok (.baload, 1) := by decide +kernel
theorem dX8_takes_10 : decode cX8_takes 10 = .ok (.ifCond .eq 22, 3) := by decide +kernel
theorem dX8_takes_32 : decode cX8_takes 32 = .ok (.iconst 0, 1) := by decide +kernel
theorem dX8_takes_33 : decode cX8_takes 33 = .ok (.goto 21, 3) := by decide +kernel
theorem dX8_takes_13 : decode cX8_takes 13 = .ok (.aload_n 0, 1) := by decide +kernel
theorem dX8_takes_14 : decode cX8_takes 14 = .ok (.getfield 196, 3) := by decide +kernel
theorem dX8_takes_17 : decode cX8_takes 17 = .ok (.aload_n 0, 1) := by decide +kernel
theorem dX8_takes_18 : decode cX8_takes 18 = .ok (.getfield 57, 3) := by decide +kernel
theorem dX8_takes_21 : decode cX8_takes 21 = .ok (.iload_n 1, 1) := by decide +kernel
theorem dX8_takes_22 : decode cX8_takes 22 = .ok (.iaload, 1) := by decide +kernel
theorem dX8_takes_23 : decode cX8_takes 23 = .ok (.iconst 1, 1) := by decide +kernel
theorem dX8_takes_24 : decode cX8_takes 24 = .ok (.isub, 1) := by decide +kernel
theorem dX8_takes_25 : decode cX8_takes 25 = .ok (.if_icmp .lt 7, 3) := by decide +kernel
theorem dX8_takes_28 : decode cX8_takes 28 = .ok (.iconst 1, 1) := by decide +kernel
theorem dX8_takes_29 : decode cX8_takes 29 = .ok (.goto 25, 3) := by decide +kernel
theorem dX8_isNearer_0 : decode cX8_isNearer 0 = .ok (.aload_n 0, 1) := by decide +kernel
theorem dX8_isNearer_1 : decode cX8_isNearer 1 = .ok (.getfield 196, 3) := by decide +kernel
theorem dX8_isNearer_4 : decode cX8_isNearer 4 = .ok (.istore 4, 2) := by decide +kernel
theorem dX8_isNearer_32 : decode cX8_isNearer 32 = .ok (.istore 4, 2) := by decide +kernel
theorem dX8_isNearer_60 : decode cX8_isNearer 60 = .ok (.istore 4, 2) := by decide +kernel
theorem dX8_isNearer_62 : decode cX8_isNearer 62 = .ok (.iconst 1, 1) := by decide +kernel
theorem dX8_isNearer_63 : decode cX8_isNearer 63 = .ok (.istore 5, 2) := by decide +kernel
theorem dX8_isNearer_65 : decode cX8_isNearer 65 = .ok (.iconst 0, 1) := by decide +kernel
theorem dX8_isNearer_66 : decode cX8_isNearer 66 = .ok (.istore 6, 2) := by decide +kernel
theorem dX8_isNearer_68 : decode cX8_isNearer 68 = .ok (.iload 5, 2) := by decide +kernel
theorem dX8_isNearer_70 : decode cX8_isNearer 70 = .ok (.ifCond .eq 54, 3) := by decide +kernel
theorem dX8_isNearer_124 : decode cX8_isNearer 124 = .ok (.iload 5, 2) := by decide +kernel
theorem dX8_isNearer_126 : decode cX8_isNearer 126 = .ok (.ireturn, 1) := by decide +kernel
theorem dX8_isNearer_73 : decode cX8_isNearer 73 = .ok (.iload 6, 2) := by decide +kernel
theorem dX8_isNearer_75 : decode cX8_isNearer 75 = .ok (.iload 4, 2) := by decide +kernel
theorem dX8_isNearer_77 : decode cX8_isNearer 77 = .ok (.if_icmp .ge 47, 3) := by decide +kernel
theorem dX8_isNearer_80 : decode cX8_isNearer 80 = .ok (.aload_n 0, 1) := by decide +kernel
theorem dX8_isNearer_81 : decode cX8_isNearer 81 = .ok (.aload_n 0, 1) := by decide +kernel
theorem dX8_isNearer_82 : decode cX8_isNearer 82 = .ok (.iload_n 1, 1) := by decide +kernel
theorem dX8_isNearer_83 : decode cX8_isNearer 83 = .ok (.iload 6, 2) := by decide +kernel
theorem dX8_isNearer_85 : decode cX8_isNearer 85 = .ok (.iload_n 3, 1) := by decide +kernel
theorem dX8_isNearer_86 : decode cX8_isNearer 86 = .ok (.invokevirtual 202, 3) := by decide +kernel
theorem dX8_isNearer_89 : decode cX8_isNearer 89 = .ok (.aload_n 0, 1) := by decide +kernel
theorem dX8_isNearer_90 : decode cX8_isNearer 90 = .ok (.iload_n 1, 1) := by decide +kernel
theorem dX8_isNearer_91 : decode cX8_isNearer 91 = .ok (.iload 6, 2) := by decide +kernel
theorem dX8_isNearer_93 : decode cX8_isNearer 93 = .ok (.iload_n 3, 1) := by decide +kernel
theorem dX8_isNearer_94 : decode cX8_isNearer 94 = .ok (.invokevirtual 205, 3) := by decide +kernel
theorem dX8_isNearer_97 : decode cX8_isNearer 97 = .ok (.aload_n 0, 1) := by decide +kernel
theorem dX8_isNearer_98 : decode cX8_isNearer 98 = .ok (.iload_n 2, 1) := by decide +kernel
theorem dX8_isNearer_99 : decode cX8_isNearer 99 = .ok (.iload 6, 2) := by decide +kernel
theorem dX8_isNearer_101 : decode cX8_isNearer 101 = .ok (.iload_n 3, 1) := by decide +kernel
theorem dX8_isNearer_102 : decode cX8_isNearer 102 = .ok (.invokevirtual 202, 3) := by decide +kernel
theorem dX8_isNearer_105 : decode cX8_isNearer 105 = .ok (.aload_n 0, 1) := by decide +kernel
theorem dX8_isNearer_106 : decode cX8_isNearer 106 = .ok (.iload_n 2, 1) := by decide +kernel
theorem dX8_isNearer_107 : decode cX8_isNearer 107 = .ok (.iload 6, 2) := by decide +kernel
theorem dX8_isNearer_109 : decode cX8_isNearer 109 = .ok (.iload_n 3, 1) := by decide +kernel
theorem dX8_isNearer_110 : decode cX8_isNearer 110 = .ok (.invokevirtual 205, 3) := by decide +kernel
theorem dX8_isNearer_113 : decode cX8_isNearer 113 = .ok (.invokevirtual 208, 3) := by decide +kernel
theorem dX8_isNearer_116 : decode cX8_isNearer 116 = .ok (.istore 5, 2) := by decide +kernel
theorem dX8_isNearer_118 : decode cX8_isNearer 118 = .ok (.iinc 6 1, 3) := by decide +kernel
theorem dX8_isNearer_121 : decode cX8_isNearer 121 = .ok (.goto (-53), 3) := by decide +kernel
theorem dX8_isNearer_34 : decode cX8_isNearer 34 = .ok (.iload_n 3, 1) := by decide +kernel
theorem dX8_isNearer_35 : decode cX8_isNearer 35 = .ok (.ifCond .eq 23, 3) := by decide +kernel
theorem dX8_isNearer_58 : decode cX8_isNearer 58 = .ok (.iload 4, 2) := by decide +kernel
theorem dX8_isNearer_38 : decode cX8_isNearer 38 = .ok (.aload_n 0, 1) := by decide +kernel
theorem dX8_isNearer_39 : decode cX8_isNearer 39 = .ok (.getfield 57, 3) := by decide +kernel
theorem dX8_isNearer_42 : decode cX8_isNearer 42 = .ok (.iload_n 2, 1) := by decide +kernel
theorem dX8_isNearer_43 : decode cX8_isNearer 43 = .ok (.iaload, 1) := by decide +kernel
theorem dX8_isNearer_44 : decode cX8_isNearer 44 = .ok (.iload 4, 2) := by decide +kernel
theorem dX8_isNearer_46 : decode cX8_isNearer 46 = .ok (.if_icmp .le 12, 3) := by decide +kernel
theorem dX8_isNearer_49 : decode cX8_isNearer 49 = .ok (.aload_n 0, 1) := by decide +kernel
theorem dX8_isNearer_50 : decode cX8_isNearer 50 = .ok (.getfield 57, 3) := by decide +kernel
theorem dX8_isNearer_53 : decode cX8_isNearer 53 = .ok (.iload_n 2, 1) := by decide +kernel
theorem dX8_isNearer_54 : decode cX8_isNearer 54 = .ok (.iaload, 1) := by decide +kernel
theorem dX8_isNearer_55 : decode cX8_isNearer 55 = .ok (.goto 5, 3) := by decide +kernel
theorem dX8_isNearer_6 : decode cX8_isNearer 6 = .ok (.iload_n 3, 1) := by decide +kernel
theorem dX8_isNearer_7 : decode cX8_isNearer 7 = .ok (.ifCond .eq 23, 3) := by decide +kernel
theorem dX8_isNearer_30 : decode cX8_isNearer 30 = .ok (.iload 4, 2) := by decide +kernel
theorem dX8_isNearer_10 : decode cX8_isNearer 10 = .ok (.aload_n 0, 1) := by decide +kernel
theorem dX8_isNearer_11 : decode cX8_isNearer 11 = .ok (.getfield 57, 3) := by decide +kernel
theorem dX8_isNearer_14 : decode cX8_isNearer 14 = .ok (.iload_n 1, 1) := by decide +kernel
theorem dX8_isNearer_15 : decode cX8_isNearer 15 = .ok (.iaload, 1) := by decide +kernel
theorem dX8_isNearer_16 : decode cX8_isNearer 16 = .ok (.iload 4, 2) := by decide +kernel
theorem dX8_isNearer_18 : decode cX8_isNearer 18 = .ok (.if_icmp .le 12, 3) := by decide +kernel
theorem dX8_isNearer_21 : decode cX8_isNearer 21 = .ok (.aload_n 0, 1) := by decide +kernel
theorem dX8_isNearer_22 : decode cX8_isNearer 22 = .ok (.getfield 57, 3) := by decide +kernel
theorem dX8_isNearer_25 : decode cX8_isNearer 25 = .ok (.iload_n 1, 1) := by decide +kernel
theorem dX8_isNearer_26 : decode cX8_isNearer 26 = .ok (.iaload, 1) := by decide +kernel
theorem dX8_isNearer_27 : decode cX8_isNearer 27 = .ok (.goto 5, 3) := by decide +kernel
theorem dX8_makes_0 : decode cX8_makes 0 = .ok (.aload_n 0, 1) := by decide +kernel
theorem dX8_makes_1 : decode cX8_makes 1 = .ok (.getfield 26, 3) := by decide +kernel
theorem dX8_makes_4 : decode cX8_makes 4 = .ok (.iload_n 2, 1) := by decide +kernel
theorem dX8_makes_5 : decode cX8_makes 5 = .ok (.baload, 1) := by decide +kernel
theorem dX8_makes_6 : decode cX8_makes 6 = .ok (.ifCond .eq 41, 3) := by decide +kernel
theorem dX8_makes_47 : decode cX8_makes 47 = .ok (.iconst 0, 1) := by decide +kernel
theorem dX8_makes_48 : decode cX8_makes 48 = .ok (.ireturn, 1) := by decide +kernel
theorem dX8_makes_9 : decode cX8_makes 9 = .ok (.aload_n 0, 1) := by decide +kernel
theorem dX8_makes_10 : decode cX8_makes 10 = .ok (.iload_n 1, 1) := by decide +kernel
theorem dX8_makes_11 : decode cX8_makes 11 = .ok (.aload_n 0, 1) := by decide +kernel
theorem dX8_makes_12 : decode cX8_makes 12 = .ok (.getfield 29, 3) := by decide +kernel
theorem dX8_makes_15 : decode cX8_makes 15 = .ok (.iload_n 2, 1) := by decide +kernel
theorem dX8_makes_16 : decode cX8_makes 16 = .ok (.iaload, 1) := by decide +kernel
theorem dX8_makes_17 : decode cX8_makes 17 = .ok (.invokevirtual 126, 3) := by decide +kernel
theorem dX8_makes_20 : decode cX8_makes 20 = .ok (.ifCond .eq 27, 3) := by decide +kernel
theorem dX8_makes_23 : decode cX8_makes 23 = .ok (.aload_n 0, 1) := by decide +kernel
theorem dX8_makes_24 : decode cX8_makes 24 = .ok (.getfield 32, 3) := by decide +kernel
theorem dX8_makes_27 : decode cX8_makes 27 = .ok (.iload_n 2, 1) := by decide +kernel
theorem dX8_makes_28 : decode cX8_makes 28 = .ok (.iaload, 1) := by decide +kernel
theorem dX8_makes_29 : decode cX8_makes 29 = .ok (.aload_n 0, 1) := by decide +kernel
theorem dX8_makes_30 : decode cX8_makes 30 = .ok (.getfield 32, 3) := by decide +kernel
theorem dX8_makes_33 : decode cX8_makes 33 = .ok (.iload_n 3, 1) := by decide +kernel
theorem dX8_makes_34 : decode cX8_makes 34 = .ok (.iaload, 1) := by decide +kernel
theorem dX8_makes_35 : decode cX8_makes 35 = .ok (.if_icmp .ne 12, 3) := by decide +kernel
theorem dX8_makes_38 : decode cX8_makes 38 = .ok (.aload_n 0, 1) := by decide +kernel
theorem dX8_makes_39 : decode cX8_makes 39 = .ok (.iload_n 2, 1) := by decide +kernel
theorem dX8_makes_40 : decode cX8_makes 40 = .ok (.iload_n 3, 1) := by decide +kernel
theorem dX8_makes_41 : decode cX8_makes 41 = .ok (.invokevirtual 178, 3) := by decide +kernel
theorem dX8_makes_44 : decode cX8_makes 44 = .ok (.ifCond .ne 5, 3) := by decide +kernel
theorem dX8_makes_49 : decode cX8_makes 49 = .ok (.aload_n 0, 1) := by decide +kernel
theorem dX8_makes_50 : decode cX8_makes 50 = .ok (.aload_n 0, 1) := by decide +kernel
theorem dX8_makes_51 : decode cX8_makes 51 = .ok (.getfield 29, 3) := by decide +kernel
theorem dX8_makes_54 : decode cX8_makes 54 = .ok (.iload_n 2, 1) := by decide +kernel
theorem dX8_makes_55 : decode cX8_makes 55 = .ok (.iaload, 1) := by decide +kernel
theorem dX8_makes_56 : decode cX8_makes 56 = .ok (.invokevirtual 116, 3) := by decide +kernel
theorem dX8_makes_59 : decode cX8_makes 59 = .ok (.ifCond .eq 22, 3) := by decide +kernel
theorem dX8_makes_81 : decode cX8_makes 81 = .ok (.aload_n 0, 1) := by decide +kernel
theorem q_695 : Cond.fieldLink "FieldMemberModel" 51 "FieldMemberModel" "hasBody" "[Z" ∈ TT := tt_t (i := 695) (by decide +kernel) (by decide +kernel)
theorem dX8_makes_82 : decode cX8_makes 82 = .ok (.getfield 51, 3) := by decide +kernel
theorem dX8_makes_85 : decode cX8_makes 85 = .ok (.iload_n 2, 1) := by decide +kernel
theorem dX8_makes_86 : decode cX8_makes 86 = .ok (.baload, 1) := by decide +kernel
theorem dX8_makes_87 : decode cX8_makes 87 = .ok (.ifCond .ne 16, 3) := by decide +kernel
theorem dX8_makes_103 : decode cX8_makes 103 = .ok (.aload_n 0, 1) := by decide +kernel
theorem dX8_makes_104 : decode cX8_makes 104 = .ok (.getfield 41, 3) := by decide +kernel
theorem dX8_makes_107 : decode cX8_makes 107 = .ok (.iload_n 2, 1) := by decide +kernel
theorem dX8_makes_108 : decode cX8_makes 108 = .ok (.iaload, 1) := by decide +kernel
theorem dX8_makes_109 : decode cX8_makes 109 = .ok (.bipush 12, 2) := by decide +kernel
theorem dX8_makes_111 : decode cX8_makes 111 = .ok (.iand, 1) := by decide +kernel
theorem dX8_makes_112 : decode cX8_makes 112 = .ok (.ifCond .ne 7, 3) := by decide +kernel
theorem dX8_makes_119 : decode cX8_makes 119 = .ok (.iconst 0, 1) := by decide +kernel
theorem dX8_makes_120 : decode cX8_makes 120 = .ok (.ireturn, 1) := by decide +kernel
theorem dX8_makes_115 : decode cX8_makes 115 = .ok (.iconst 1, 1) := by decide +kernel
theorem dX8_makes_116 : decode cX8_makes 116 = .ok (.goto 4, 3) := by decide +kernel
theorem dX8_makes_90 : decode cX8_makes 90 = .ok (.aload_n 0, 1) := by decide +kernel
theorem dX8_makes_91 : decode cX8_makes 91 = .ok (.getfield 41, 3) := by decide +kernel
theorem dX8_makes_94 : decode cX8_makes 94 = .ok (.iload_n 2, 1) := by decide +kernel
theorem dX8_makes_95 : decode cX8_makes 95 = .ok (.iaload, 1) := by decide +kernel
theorem dX8_makes_96 : decode cX8_makes 96 = .ok (.sipush 256, 3) := by decide +kernel
theorem dX8_makes_99 : decode cX8_makes 99 = .ok (.iand, 1) := by decide +kernel
theorem dX8_makes_100 : decode cX8_makes 100 = .ok (.ifCond .le 19, 3) := by decide +kernel
theorem dX8_makes_62 : decode cX8_makes 62 = .ok (.aload_n 0, 1) := by decide +kernel
theorem dX8_makes_63 : decode cX8_makes 63 = .ok (.getfield 41, 3) := by decide +kernel
theorem dX8_makes_66 : decode cX8_makes 66 = .ok (.iload_n 2, 1) := by decide +kernel
theorem dX8_makes_67 : decode cX8_makes 67 = .ok (.iaload, 1) := by decide +kernel
theorem dX8_makes_68 : decode cX8_makes 68 = .ok (.sipush 1024, 3) := by decide +kernel
theorem dX8_makes_71 : decode cX8_makes 71 = .ok (.iand, 1) := by decide +kernel
theorem dX8_makes_72 : decode cX8_makes 72 = .ok (.ifCond .le 7, 3) := by decide +kernel
theorem dX8_makes_79 : decode cX8_makes 79 = .ok (.iconst 0, 1) := by decide +kernel
theorem dX8_makes_80 : decode cX8_makes 80 = .ok (.ireturn, 1) := by decide +kernel
theorem dX8_makes_75 : decode cX8_makes 75 = .ok (.iconst 1, 1) := by decide +kernel
theorem dX8_makes_76 : decode cX8_makes 76 = .ok (.goto 4, 3) := by decide +kernel
theorem dX8_isLacked_41 : decode cX8_isLacked 41 = .ok (.istore_n 3, 1) := by decide +kernel
theorem dX8_isLacked_42 : decode cX8_isLacked 42 = .ok (.iconst 0, 1) := by decide +kernel
theorem dX8_isLacked_43 : decode cX8_isLacked 43 = .ok (.istore 4, 2) := by decide +kernel
theorem dX8_isLacked_45 : decode cX8_isLacked 45 = .ok (.iload 4, 2) := by decide +kernel
theorem dX8_isLacked_47 : decode cX8_isLacked 47 = .ok (.aload_n 0, 1) := by decide +kernel
theorem dX8_isLacked_48 : decode cX8_isLacked 48 = .ok (.getfield 119, 3) := by decide +kernel
theorem dX8_isLacked_51 : decode cX8_isLacked 51 = .ok (.if_icmp .ge 30, 3) := by decide +kernel
theorem dX8_isLacked_81 : decode cX8_isLacked 81 = .ok (.iload_n 3, 1) := by decide +kernel
theorem dX8_isLacked_82 : decode cX8_isLacked 82 = .ok (.ireturn, 1) := by decide +kernel
theorem dX8_isLacked_54 : decode cX8_isLacked 54 = .ok (.iload_n 3, 1) := by decide +kernel
theorem dX8_isLacked_55 : decode cX8_isLacked 55 = .ok (.ifCond .eq 26, 3) := by decide +kernel
theorem dX8_isLacked_74 : decode cX8_isLacked 74 = .ok (.istore_n 3, 1) := by decide +kernel
theorem dX8_isLacked_75 : decode cX8_isLacked 75 = .ok (.iinc 4 1, 3) := by decide +kernel
theorem dX8_isLacked_78 : decode cX8_isLacked 78 = .ok (.goto (-33), 3) := by decide +kernel
theorem dX8_isLacked_58 : decode cX8_isLacked 58 = .ok (.aload_n 0, 1) := by decide +kernel
theorem dX8_isLacked_59 : decode cX8_isLacked 59 = .ok (.iload_n 1, 1) := by decide +kernel
theorem dX8_isLacked_60 : decode cX8_isLacked 60 = .ok (.iload 4, 2) := by decide +kernel
theorem dX8_isLacked_62 : decode cX8_isLacked 62 = .ok (.iload_n 2, 1) := by decide +kernel
theorem q_992 : Cond.methodLink "FieldMemberModel" 230 ⟨"FieldMemberModel", "makes", "(III)Z"⟩ ∈ TT := tt_t (i := 992) (by decide +kernel) (by decide +kernel)
theorem q_995 : Cond.code ⟨"FieldMemberModel", "makes", "(III)Z"⟩ prog_10_method_49_code 4 (some .boolean) ∈ TT := tt_t (i := 995) (by decide +kernel) (by decide +kernel)
theorem q_994 : Cond.instanceMethod ⟨"FieldMemberModel", "makes", "(III)Z"⟩ ∈ TT := tt_t (i := 994) (by decide +kernel) (by decide +kernel)
theorem qs_58 : Cond.selects "FieldMemberModel" ⟨"FieldMemberModel", "makes", "(III)Z"⟩ ⟨"FieldMemberModel", "makes", "(III)Z"⟩ ∈ TT := tt_s (i := 58) (by decide +kernel) (by decide +kernel)
theorem gV_X8_X8_makes : GoodIn TT (wsV RX8 230 RX8 yX8_makes (ww yX8_makes cX8_makes 4 (some .boolean))) := tt_V q_992 q_994 qs_58 q_4 q_995
theorem hdV_X8_makes : yX8_makes.cls = RX8 ∧ yX8_makes.cls ≠ "java/lang/invoke/MethodHandle" ∧ yX8_makes.cls ≠ "java/lang/invoke/VarHandle" ∧ (parseMethodDescriptor yX8_makes.desc).map (fun d => d.parameters.length) = some 3 := by decide +kernel
theorem dX8_isLacked_63 : decode cX8_isLacked 63 = .ok (.invokevirtual 230, 3) := by decide +kernel
theorem dX8_isLacked_66 : decode cX8_isLacked 66 = .ok (.ifCond .ne 7, 3) := by decide +kernel
theorem dX8_isLacked_73 : decode cX8_isLacked 73 = .ok (.iconst 0, 1) := by decide +kernel
theorem dX8_isLacked_69 : decode cX8_isLacked 69 = .ok (.iconst 1, 1) := by decide +kernel
theorem dX8_isLacked_70 : decode cX8_isLacked 70 = .ok (.goto 4, 3) := by decide +kernel
theorem dX8_isLacked_0 : decode cX8_isLacked 0 = .ok (.aload_n 0, 1) := by decide +kernel
theorem dX8_isLacked_1 : decode cX8_isLacked 1 = .ok (.getfield 26, 3) := by decide +kernel
theorem dX8_isLacked_4 : decode cX8_isLacked 4 = .ok (.iload_n 2, 1) := by decide +kernel
theorem dX8_isLacked_5 : decode cX8_isLacked 5 = .ok (.baload, 1) := by decide +kernel
theorem dX8_isLacked_6 : decode cX8_isLacked 6 = .ok (.ifCond .eq 34, 3) := by decide +kernel
theorem dX8_isLacked_40 : decode cX8_isLacked 40 = .ok (.iconst 0, 1) := by decide +kernel
theorem dX8_isLacked_9 : decode cX8_isLacked 9 = .ok (.aload_n 0, 1) := by decide +kernel
theorem dX8_isLacked_10 : decode cX8_isLacked 10 = .ok (.getfield 41, 3) := by decide +kernel
theorem dX8_isLacked_13 : decode cX8_isLacked 13 = .ok (.iload_n 2, 1) := by decide +kernel
theorem dX8_isLacked_14 : decode cX8_isLacked 14 = .ok (.iaload, 1) := by decide +kernel
theorem dX8_isLacked_15 : decode cX8_isLacked 15 = .ok (.sipush 128, 3) := by decide +kernel
theorem dX8_isLacked_18 : decode cX8_isLacked 18 = .ok (.iand, 1) := by decide +kernel
theorem dX8_isLacked_19 : decode cX8_isLacked 19 = .ok (.ifCond .le 21, 3) := by decide +kernel
theorem dX8_isLacked_22 : decode cX8_isLacked 22 = .ok (.aload_n 0, 1) := by decide +kernel
theorem dX8_isLacked_23 : decode cX8_isLacked 23 = .ok (.iload_n 1, 1) := by decide +kernel
theorem dX8_isLacked_24 : decode cX8_isLacked 24 = .ok (.aload_n 0, 1) := by decide +kernel
theorem dX8_isLacked_25 : decode cX8_isLacked 25 = .ok (.getfield 29, 3) := by decide +kernel
theorem dX8_isLacked_28 : decode cX8_isLacked 28 = .ok (.iload_n 2, 1) := by decide +kernel
theorem dX8_isLacked_29 : decode cX8_isLacked 29 = .ok (.iaload, 1) := by decide +kernel
theorem dX8_isLacked_30 : decode cX8_isLacked 30 = .ok (.invokevirtual 126, 3) := by decide +kernel
theorem dX8_isLacked_33 : decode cX8_isLacked 33 = .ok (.ifCond .eq 7, 3) := by decide +kernel
theorem dX8_isLacked_36 : decode cX8_isLacked 36 = .ok (.iconst 1, 1) := by decide +kernel
theorem dX8_isLacked_37 : decode cX8_isLacked 37 = .ok (.goto 4, 3) := by decide +kernel
set_option maxHeartbeats 4000000 in
set_option maxRecDepth 100000 in
theorem m_kindAt (l : Launch) (D : va_G) (G : Nat → ClassId) (H : Heap) (mo : Nat) (ad : Nat → Nat) (σ : MS) (τ : Nat → Int64) (hP : va_P D vwCl (mW G mo ad σ τ) H) (en pp : Nat) (he : en < 60) (hm : okM σ en) (vr : Int32) (hv : ¬ vr = 0 → 1 ≤ mnE σ en) (hp : vr = 0 → pp < 5) (hpb : pp < 100) : Met l yX8_kindAt (ww yX8_kindAt cX8_kindAt 4 (some .int)) (rmD 0) (roP D G H [.ref mo, .int (nI en), .int (nI pp), .int vr]) (vp_Si (fun r => r = kindF σ en pp vr)) 0 0 (fun _ => False) := by
  refine Met.ofW (cc := cX8_kindAt) (maxL := 4) (ret := (some .int)) (by decide) rfl ?_
  intro p e s m args below meth c s₁ B hml hv
  obtain ⟨rfl, hH, hK⟩ := hv
  have hx := B.exec
  have hb := B.bytes
  have hr := B.returns
  have hts : ∀ w ∈ TT, w.before _ s = true := fun w h => atoms_spec (ws := ww yX8_kindAt cX8_kindAt 4 (some .int)) B.pre w (List.mem_cons_of_mem _ h)
  have hown : s.vm.findClass RX8 = some m.cls := findClass_of_methodNamed B.named
  have hlocks := B.notSynchronized
  rw [hH]
  have hl := lv_entry ([.ref mo, .int (nI en), .int (nI pp), .int vr]) (n := 4) (Nat.le_of_ble_eq_true rfl)
  rw [lg_entry_eq]
  generalize (lg_sl ([.ref mo, .int (nI en), .int (nI pp), .int vr]) ++ List.replicate (4 - (lg_sl ([.ref mo, .int (nI en), .int (nI pp), .int vr])).length) Slot.unset).toArray = ls at hl ⊢
  have hl : lv_has ls 4 [(0, .ref mo), (1, .int (nI en)), (2, .int (nI pp)), (3, .int vr)] := hl
  refine lv_aload_n hx hb dX8_kindAt_0 rfl (lv_at hl 0 rfl) ?_
  refine va_get (D := D) (ci := 8) (v := .ref ((ad 19))) (C := RX8) (T := TX8) (N := 33) hx hb hts iX8 hown hK.1 hP 0 rfl rfl 19 (by decide) (hts _ q_698) (fun _ h9 => h9) rfl dX8_kindAt_1 ?_
  refine lv_iconst (v := 5) hx hb dX8_kindAt_4 (by decide) ?_
  refine lv_iload_n hx hb dX8_kindAt_5 rfl (lv_at hl 1 rfl) ?_
  refine lv_imul hx hb dX8_kindAt_6 ?_
  refine lv_iload_n hx hb dX8_kindAt_7 rfl (lv_at hl 3 rfl) ?_
  refine lv_if_eq (tgt := 32) hx hb dX8_kindAt_8 (by decide) (fun c1 => ?_) (fun c1 => ?_)
  · -- 8 taken
    have hp1 := hp c1
    refine lv_iload_n hx hb dX8_kindAt_32 rfl (lv_at hl 2 rfl) ?_
    refine lv_iadd hx hb dX8_kindAt_33 ?_
    refine iald_n (f := σ 19) hx hb hK.1 hP 17 0 rfl rfl (((5 * en) + pp)) (n_add (a := (5 * en)) (b := pp) (n_mul (a := 5) (b := en) (rfl : (5 : Int32) = nI 5) rfl) rfl) (by omega) (by decide) dX8_kindAt_34 ?_
    exact ro_iret (v := σ 19 (((5 * en) + pp))) hx hb hr hH hlocks dX8_kindAt_35 (by unfold kindF; simp only [eq_true c1, not_true, not_false_iff, not_true_eq_false, not_false_eq_true, true_or, or_true, false_or, or_false, or_self, and_self, true_and, and_true, false_and, and_false, if_true, if_false])
  · -- 8 not
    have hv1 := hv c1
    refine lv_iload_n hx hb dX8_kindAt_11 rfl (lv_at hl 2 rfl) ?_
    refine lv_aload_n hx hb dX8_kindAt_12 rfl (lv_at hl 0 rfl) ?_
    refine va_get (D := D) (ci := 8) (v := .ref ((ad 18))) (C := RX8) (T := TX8) (N := 33) hx hb hts iX8 hown hK.1 hP 0 rfl rfl 18 (by decide) (hts _ q_697) (fun _ h9 => h9) rfl dX8_kindAt_13 ?_
    refine lv_iload_n hx hb dX8_kindAt_16 rfl (lv_at hl 1 rfl) ?_
    refine iald_n (f := σ 18) hx hb hK.1 hP 16 0 rfl rfl (en) rfl (by omega) (by decide) dX8_kindAt_17 ?_
    refine lv_icmp_lt (tgt := 32) hx hb dX8_kindAt_18 (by decide) (fun c2 => ?_) (fun c2 => ?_)
    · -- 18 taken
      have c2 : pp < (mnE σ en) := (nI_ltI (a := pp) (b := (mnE σ en)) (by omega) (by omega)).mp (by have h8 := c2; rw [hm.1] at h8; exact h8)
      refine lv_iload_n hx hb dX8_kindAt_32 rfl (lv_at hl 2 rfl) ?_
      refine lv_iadd hx hb dX8_kindAt_33 ?_
      refine iald_n (f := σ 19) hx hb hK.1 hP 17 0 rfl rfl (((5 * en) + pp)) (n_add (a := (5 * en)) (b := pp) (n_mul (a := 5) (b := en) (rfl : (5 : Int32) = nI 5) rfl) rfl) (by omega) (by decide) dX8_kindAt_34 ?_
      exact ro_iret (v := σ 19 (((5 * en) + pp))) hx hb hr hH hlocks dX8_kindAt_35 (by unfold kindF; simp only [eq_false c1, eq_true c2, not_true, not_false_iff, not_true_eq_false, not_false_eq_true, true_or, or_true, false_or, or_false, or_self, and_self, true_and, and_true, false_and, and_false, if_true, if_false])
    · -- 18 not
      have c2 : ¬ pp < (mnE σ en) := fun h9 => c2 (by rw [hm.1]; exact (nI_ltI (a := pp) (b := (mnE σ en)) (by omega) (by omega)).mpr h9)
      refine lv_aload_n hx hb dX8_kindAt_21 rfl (lv_at hl 0 rfl) ?_
      refine va_get (D := D) (ci := 8) (v := .ref ((ad 18))) (C := RX8) (T := TX8) (N := 33) hx hb hts iX8 hown hK.1 hP 0 rfl rfl 18 (by decide) (hts _ q_697) (fun _ h9 => h9) rfl dX8_kindAt_22 ?_
      refine lv_iload_n hx hb dX8_kindAt_25 rfl (lv_at hl 1 rfl) ?_
      refine iald_n (f := σ 18) hx hb hK.1 hP 16 0 rfl rfl (en) rfl (by omega) (by decide) dX8_kindAt_26 ?_
      refine lv_iconst (v := 1) hx hb dX8_kindAt_27 (by decide) ?_
      refine lv_isub hx hb dX8_kindAt_28 ?_
      refine lv_goto (tgt := 33) hx hb dX8_kindAt_29 (by decide) ?_
      refine lv_iadd hx hb dX8_kindAt_33 ?_
      refine iald_n (f := σ 19) hx hb hK.1 hP 17 0 rfl rfl (((5 * en) + ((mnE σ en) - 1))) (n_add (a := (5 * en)) (b := ((mnE σ en) - 1)) (n_mul (a := 5) (b := en) (rfl : (5 : Int32) = nI 5) rfl) (n_sub (a := (mnE σ en)) (b := 1) hm.1 (rfl : (1 : Int32) = nI 1) (by omega))) (by omega) (by decide) dX8_kindAt_34 ?_
      exact ro_iret (v := σ 19 (((5 * en) + ((mnE σ en) - 1)))) hx hb hr hH hlocks dX8_kindAt_35 (by unfold kindF; simp only [eq_false c1, eq_false c2, not_true, not_false_iff, not_true_eq_false, not_false_eq_true, true_or, or_true, false_or, or_false, or_self, and_self, true_and, and_true, false_and, and_false, if_true, if_false])
set_option maxHeartbeats 4000000 in
set_option maxRecDepth 100000 in
theorem m_dimAt (l : Launch) (D : va_G) (G : Nat → ClassId) (H : Heap) (mo : Nat) (ad : Nat → Nat) (σ : MS) (τ : Nat → Int64) (hP : va_P D vwCl (mW G mo ad σ τ) H) (en pp : Nat) (he : en < 60) (hm : okM σ en) (vr : Int32) (hv : ¬ vr = 0 → 1 ≤ mnE σ en) (hp : vr = 0 → pp < 5) (hpb : pp < 100) : Met l yX8_dimAt (ww yX8_dimAt cX8_dimAt 4 (some .int)) (rmD 0) (roP D G H [.ref mo, .int (nI en), .int (nI pp), .int vr]) (vp_Si (fun r => r = dimF σ en pp vr)) 0 0 (fun _ => False) := by
  refine Met.ofW (cc := cX8_dimAt) (maxL := 4) (ret := (some .int)) (by decide) rfl ?_
  intro p e s m args below meth c s₁ B hml hv
  obtain ⟨rfl, hH, hK⟩ := hv
  have hx := B.exec
  have hb := B.bytes
  have hr := B.returns
  have hts : ∀ w ∈ TT, w.before _ s = true := fun w h => atoms_spec (ws := ww yX8_dimAt cX8_dimAt 4 (some .int)) B.pre w (List.mem_cons_of_mem _ h)
  have hown : s.vm.findClass RX8 = some m.cls := findClass_of_methodNamed B.named
  have hlocks := B.notSynchronized
  rw [hH]
  have hl := lv_entry ([.ref mo, .int (nI en), .int (nI pp), .int vr]) (n := 4) (Nat.le_of_ble_eq_true rfl)
  rw [lg_entry_eq]
  generalize (lg_sl ([.ref mo, .int (nI en), .int (nI pp), .int vr]) ++ List.replicate (4 - (lg_sl ([.ref mo, .int (nI en), .int (nI pp), .int vr])).length) Slot.unset).toArray = ls at hl ⊢
  have hl : lv_has ls 4 [(0, .ref mo), (1, .int (nI en)), (2, .int (nI pp)), (3, .int vr)] := hl
  refine lv_iload_n hx hb dX8_dimAt_0 rfl (lv_at hl 3 rfl) ?_
  refine lv_if_eq (tgt := 38) hx hb dX8_dimAt_1 (by decide) (fun c1 => ?_) (fun c1 => ?_)
  · -- 1 taken
    have hp1 := hp c1
    refine lv_aload_n hx hb dX8_dimAt_38 rfl (lv_at hl 0 rfl) ?_
    refine va_get (D := D) (ci := 8) (v := .ref ((ad 20))) (C := RX8) (T := TX8) (N := 33) hx hb hts iX8 hown hK.1 hP 0 rfl rfl 20 (by decide) (hts _ q_699) (fun _ h9 => h9) rfl dX8_dimAt_39 ?_
    refine lv_iconst (v := 5) hx hb dX8_dimAt_42 (by decide) ?_
    refine lv_iload_n hx hb dX8_dimAt_43 rfl (lv_at hl 1 rfl) ?_
    refine lv_imul hx hb dX8_dimAt_44 ?_
    refine lv_iload_n hx hb dX8_dimAt_45 rfl (lv_at hl 2 rfl) ?_
    refine lv_iadd hx hb dX8_dimAt_46 ?_
    refine iald_n (f := σ 20) hx hb hK.1 hP 18 0 rfl rfl (((5 * en) + pp)) (n_add (a := (5 * en)) (b := pp) (n_mul (a := 5) (b := en) (rfl : (5 : Int32) = nI 5) rfl) rfl) (by omega) (by decide) dX8_dimAt_47 ?_
    exact ro_iret (v := σ 20 (((5 * en) + pp))) hx hb hr hH hlocks dX8_dimAt_48 (by unfold dimF; simp only [eq_true c1, not_true, not_false_iff, not_true_eq_false, not_false_eq_true, true_or, or_true, false_or, or_false, or_self, and_self, true_and, and_true, false_and, and_false, if_true, if_false])
  · -- 1 not
    have hv1 := hv c1
    refine lv_iload_n hx hb dX8_dimAt_4 rfl (lv_at hl 2 rfl) ?_
    refine lv_aload_n hx hb dX8_dimAt_5 rfl (lv_at hl 0 rfl) ?_
    refine va_get (D := D) (ci := 8) (v := .ref ((ad 18))) (C := RX8) (T := TX8) (N := 33) hx hb hts iX8 hown hK.1 hP 0 rfl rfl 18 (by decide) (hts _ q_697) (fun _ h9 => h9) rfl dX8_dimAt_6 ?_
    refine lv_iload_n hx hb dX8_dimAt_9 rfl (lv_at hl 1 rfl) ?_
    refine iald_n (f := σ 18) hx hb hK.1 hP 16 0 rfl rfl (en) rfl (by omega) (by decide) dX8_dimAt_10 ?_
    refine lv_iconst (v := 1) hx hb dX8_dimAt_11 (by decide) ?_
    refine lv_isub hx hb dX8_dimAt_12 ?_
    refine lv_icmp_lt (tgt := 38) hx hb dX8_dimAt_13 (by decide) (fun c2 => ?_) (fun c2 => ?_)
    · -- 13 taken
      have c2 : pp < ((mnE σ en) - 1) := (nI_ltI (a := pp) (b := ((mnE σ en) - 1)) (by omega) (by omega)).mp (by have h8 := c2; rw [(n_sub (a := (mnE σ en)) (b := 1) hm.1 (rfl : (1 : Int32) = nI 1) (by omega))] at h8; exact h8)
      refine lv_aload_n hx hb dX8_dimAt_38 rfl (lv_at hl 0 rfl) ?_
      refine va_get (D := D) (ci := 8) (v := .ref ((ad 20))) (C := RX8) (T := TX8) (N := 33) hx hb hts iX8 hown hK.1 hP 0 rfl rfl 20 (by decide) (hts _ q_699) (fun _ h9 => h9) rfl dX8_dimAt_39 ?_
      refine lv_iconst (v := 5) hx hb dX8_dimAt_42 (by decide) ?_
      refine lv_iload_n hx hb dX8_dimAt_43 rfl (lv_at hl 1 rfl) ?_
      refine lv_imul hx hb dX8_dimAt_44 ?_
      refine lv_iload_n hx hb dX8_dimAt_45 rfl (lv_at hl 2 rfl) ?_
      refine lv_iadd hx hb dX8_dimAt_46 ?_
      refine iald_n (f := σ 20) hx hb hK.1 hP 18 0 rfl rfl (((5 * en) + pp)) (n_add (a := (5 * en)) (b := pp) (n_mul (a := 5) (b := en) (rfl : (5 : Int32) = nI 5) rfl) rfl) (by omega) (by decide) dX8_dimAt_47 ?_
      exact ro_iret (v := σ 20 (((5 * en) + pp))) hx hb hr hH hlocks dX8_dimAt_48 (by unfold dimF; simp only [eq_false c1, eq_true c2, not_true, not_false_iff, not_true_eq_false, not_false_eq_true, true_or, or_true, false_or, or_false, or_self, and_self, true_and, and_true, false_and, and_false, if_true, if_false])
    · -- 13 not
      have c2 : ¬ pp < ((mnE σ en) - 1) := fun h9 => c2 (by rw [(n_sub (a := (mnE σ en)) (b := 1) hm.1 (rfl : (1 : Int32) = nI 1) (by omega))]; exact (nI_ltI (a := pp) (b := ((mnE σ en) - 1)) (by omega) (by omega)).mpr h9)
      refine lv_aload_n hx hb dX8_dimAt_16 rfl (lv_at hl 0 rfl) ?_
      refine va_get (D := D) (ci := 8) (v := .ref ((ad 20))) (C := RX8) (T := TX8) (N := 33) hx hb hts iX8 hown hK.1 hP 0 rfl rfl 20 (by decide) (hts _ q_699) (fun _ h9 => h9) rfl dX8_dimAt_17 ?_
      refine lv_iconst (v := 5) hx hb dX8_dimAt_20 (by decide) ?_
      refine lv_iload_n hx hb dX8_dimAt_21 rfl (lv_at hl 1 rfl) ?_
      refine lv_imul hx hb dX8_dimAt_22 ?_
      refine lv_aload_n hx hb dX8_dimAt_23 rfl (lv_at hl 0 rfl) ?_
      refine va_get (D := D) (ci := 8) (v := .ref ((ad 18))) (C := RX8) (T := TX8) (N := 33) hx hb hts iX8 hown hK.1 hP 0 rfl rfl 18 (by decide) (hts _ q_697) (fun _ h9 => h9) rfl dX8_dimAt_24 ?_
      refine lv_iload_n hx hb dX8_dimAt_27 rfl (lv_at hl 1 rfl) ?_
      refine iald_n (f := σ 18) hx hb hK.1 hP 16 0 rfl rfl (en) rfl (by omega) (by decide) dX8_dimAt_28 ?_
      refine lv_iadd hx hb dX8_dimAt_29 ?_
      refine lv_iconst (v := 1) hx hb dX8_dimAt_30 (by decide) ?_
      refine lv_isub hx hb dX8_dimAt_31 ?_
      refine iald_n (f := σ 20) hx hb hK.1 hP 18 0 rfl rfl ((((5 * en) + (mnE σ en)) - 1)) (n_sub (a := ((5 * en) + (mnE σ en))) (b := 1) (n_add (a := (5 * en)) (b := (mnE σ en)) (n_mul (a := 5) (b := en) (rfl : (5 : Int32) = nI 5) rfl) hm.1) (rfl : (1 : Int32) = nI 1) (by omega)) (by omega) (by decide) dX8_dimAt_32 ?_
      refine lv_iconst (v := 1) hx hb dX8_dimAt_33 (by decide) ?_
      refine lv_isub hx hb dX8_dimAt_34 ?_
      refine lv_goto (tgt := 48) hx hb dX8_dimAt_35 (by decide) ?_
      exact ro_iret (v := (σ 20 ((((5 * en) + (mnE σ en)) - 1))) - 1) hx hb hr hH hlocks dX8_dimAt_48 (by unfold dimF; simp only [eq_false c1, eq_false c2, not_true, not_false_iff, not_true_eq_false, not_false_eq_true, true_or, or_true, false_or, or_false, or_self, and_self, true_and, and_true, false_and, and_false, if_true, if_false])
set_option maxHeartbeats 4000000 in
set_option maxRecDepth 100000 in
theorem m_takes (l : Launch) (D : va_G) (G : Nat → ClassId) (H : Heap) (mo : Nat) (ad : Nat → Nat) (σ : MS) (τ : Nat → Int64) (hP : va_P D vwCl (mW G mo ad σ τ) H) (w0 : Nat) (h22 : σ 22 0 = nI w0) (hw : w0 ≤ 5) (en : Nat) (he : en < 60) (hm : okM σ en) (vr : Int32) (hvr : ¬ σ 17 en = 0 → 1 ≤ mnE σ en) (hkg : ∀ q, q < w0 → kdO (σ 23 q)) (hkf : ∀ q, q < w0 → kdO (kindF σ en q vr)) (hb6 : ∀ i, σ 6 i = 0 ∨ σ 6 i = 1) : Met l yX8_takes (ww yX8_takes cX8_takes 5 (some .boolean)) (rmD 3) (roP D G H [.ref mo, .int (nI en), .int vr]) (vp_Si (fun r => r = bI (tkN σ w0 en vr w0))) 0 0 (fun _ => False) := by
  refine Met.ofW (cc := cX8_takes) (maxL := 5) (ret := (some .boolean)) (by decide) rfl ?_
  intro p e s m args below meth c s₁ B hml hv
  obtain ⟨rfl, hH, hK⟩ := hv
  have hx := B.exec
  have hb := B.bytes
  have hr := B.returns
  have hts : ∀ w ∈ TT, w.before _ s = true := fun w h => atoms_spec (ws := ww yX8_takes cX8_takes 5 (some .boolean)) B.pre w (List.mem_cons_of_mem _ h)
  have hown : s.vm.findClass RX8 = some m.cls := findClass_of_methodNamed B.named
  have hlocks := B.notSynchronized
  rw [hH]
  have hl := lv_entry ([.ref mo, .int (nI en), .int vr]) (n := 5) (Nat.le_of_ble_eq_true rfl)
  rw [lg_entry_eq]
  generalize (lg_sl ([.ref mo, .int (nI en), .int vr]) ++ List.replicate (5 - (lg_sl ([.ref mo, .int (nI en), .int vr])).length) Slot.unset).toArray = ls at hl ⊢
  have hl : lv_has ls 5 [(0, .ref mo), (1, .int (nI en)), (2, .int vr)] := hl
  refine w_join (P := fun b9 => b9 = bI (tkN σ w0 en vr 0)) 54 (ls := ls) (rest := []) (fun b2 e_b2 => ?_) (fun J1 => ?_)
  · -- behind the meeting at 54
    subst e_b2
    refine lv_istore_n (lv' := [(3, .int (bI (tkN σ w0 en vr 0))), (0, .ref mo), (1, .int (nI en)), (2, .int vr)]) hx hb dX8_takes_54 rfl hl (by decide) rfl (fun ls hl => ?_)
    refine lv_iconst (v := 0) hx hb dX8_takes_55 (by decide) ?_
    refine lv_istore (lv' := [(4, .int 0), (3, .int (bI (tkN σ w0 en vr 0))), (0, .ref mo), (1, .int (nI en)), (2, .int vr)]) hx hb dX8_takes_56 hl (by decide) rfl (fun ls hl => ?_)
    refine w_for (N := w0) 58 (L := fun k9 ls => lv_has ls 5 [(4, .int (nI k9)), (3, .int (bI (tkN σ w0 en vr k9))), (0, .ref mo), (1, .int (nI en)), (2, .int vr)]) (fun k9 ls hk hL ih => ?_) 0 ls (Nat.zero_le _) (hl)
    have hl := hL
    have hl : lv_has ls 5 [(4, .int (nI k9)), (3, .int (bI (tkN σ w0 en vr k9))), (0, .ref mo), (1, .int (nI en)), (2, .int vr)] := hl
    refine lv_iload_n hx hb dX8_takes_58 rfl (lv_at hl 1 rfl) ?_
    refine lv_if_eq (tgt := 112) hx hb dX8_takes_59 (by decide) (fun c3 => ?_) (fun c3 => ?_)
    · -- 59 taken
      have c3 := bI_0 c3
      refine lv_iload_n hx hb dX8_takes_112 rfl (lv_at hl 1 rfl) ?_
      exact ro_zret (v := bI (tkN σ w0 en vr k9)) hx hb hr hH hlocks dX8_takes_113 bI_b (tkN_f (by omega) c3)
    · -- 59 not
      have c3 := bI_1 c3
      refine lv_iload hx hb dX8_takes_62 (lv_at hl 0 rfl) ?_
      refine lv_aload_n hx hb dX8_takes_64 rfl (lv_at hl 2 rfl) ?_
      refine va_get (D := D) (ci := 8) (v := .int (σ 22 0)) (C := RX8) (T := TX8) (N := 33) hx hb hts iX8 hown hK.1 hP 0 rfl rfl 22 (by decide) (hts _ q_701) (fun _ h9 => h9) rfl dX8_takes_65 ?_
      refine lv_icmp_ge (tgt := 112) hx hb dX8_takes_68 (by decide) (fun c4 => ?_) (fun c4 => ?_)
      · -- 68 taken
        have c4 : w0 ≤ k9 := (nI_leI (a := w0) (b := k9) (by omega) (by omega)).mp (by have h8 := c4; rw [h22] at h8; exact h8)
        refine lv_iload_n hx hb dX8_takes_112 rfl (lv_at hl 1 rfl) ?_
        exact ro_zret (v := bI (tkN σ w0 en vr k9)) hx hb hr hH hlocks dX8_takes_113 bI_b (by rw [show k9 = w0 by omega])
      · -- 68 not
        have c4 : ¬ w0 ≤ k9 := fun h9 => c4 (by rw [h22]; exact (nI_leI (a := w0) (b := k9) (by omega) (by omega)).mpr h9)
        refine lv_aload_n hx hb dX8_takes_71 rfl (lv_at hl 2 rfl) ?_
        refine lv_aload_n hx hb dX8_takes_72 rfl (lv_at hl 2 rfl) ?_
        refine va_get (D := D) (ci := 8) (v := .ref ((ad 23))) (C := RX8) (T := TX8) (N := 33) hx hb hts iX8 hown hK.1 hP 0 rfl rfl 23 (by decide) (hts _ q_702) (fun _ h9 => h9) rfl dX8_takes_73 ?_
        refine lv_iload hx hb dX8_takes_76 (lv_at hl 0 rfl) ?_
        refine iald_n (f := σ 23) hx hb hK.1 hP 19 0 rfl rfl (k9) rfl (by omega) (by decide) dX8_takes_78 ?_
        refine lv_aload_n hx hb dX8_takes_79 rfl (lv_at hl 2 rfl) ?_
        refine va_get (D := D) (ci := 8) (v := .ref ((ad 24))) (C := RX8) (T := TX8) (N := 33) hx hb hts iX8 hown hK.1 hP 0 rfl rfl 24 (by decide) (hts _ q_703) (fun _ h9 => h9) rfl dX8_takes_80 ?_
        refine lv_iload hx hb dX8_takes_83 (lv_at hl 0 rfl) ?_
        refine iald_n (f := σ 24) hx hb hK.1 hP 20 0 rfl rfl (k9) rfl (by omega) (by decide) dX8_takes_85 ?_
        refine lv_aload_n hx hb dX8_takes_86 rfl (lv_at hl 2 rfl) ?_
        refine lv_iload_n hx hb dX8_takes_87 rfl (lv_at hl 3 rfl) ?_
        refine lv_iload hx hb dX8_takes_88 (lv_at hl 0 rfl) ?_
        refine lv_iload_n hx hb dX8_takes_90 rfl (lv_at hl 4 rfl) ?_
        refine ro_Vi (D := D) (G := G) (As := [.int (nI en), .int (nI k9), .int vr]) (rest := [.int (σ 24 k9), .int (σ 23 k9), .ref mo]) ⟨hx, hb, hml, hown, hts⟩ (m_kindAt l D G _ mo ad _ _ hP (en) (k9) (by omega) hm vr (fun h9 => hvr (by have h8 := (tkN_def.mp c3).1; rw [if_pos h9] at h8; exact h8.1)) (fun h9 => by omega) (by omega)) gV_X8_X8_kindAt hdV_X8_kindAt ⟨Nat.le_of_ble_eq_true rfl, Nat.le_of_ble_eq_true rfl⟩ hK (va_recv hK.1 hP (ci := 8) (q0 := 0) rfl rfl) rfl hl.1 rfl (Nat.le_of_ble_eq_true rfl) dX8_takes_91 ⟨Nat.le_of_ble_eq_true rfl, Nat.le_of_ble_eq_true rfl⟩ (fun r5 e_r5 => ?_)
        subst e_r5
        refine lv_aload_n hx hb dX8_takes_94 rfl (lv_at hl 2 rfl) ?_
        refine lv_iload_n hx hb dX8_takes_95 rfl (lv_at hl 3 rfl) ?_
        refine lv_iload hx hb dX8_takes_96 (lv_at hl 0 rfl) ?_
        refine lv_iload_n hx hb dX8_takes_98 rfl (lv_at hl 4 rfl) ?_
        refine ro_Vi (D := D) (G := G) (As := [.int (nI en), .int (nI k9), .int vr]) (rest := [.int (kindF σ en k9 vr), .int (σ 24 k9), .int (σ 23 k9), .ref mo]) ⟨hx, hb, hml, hown, hts⟩ (m_dimAt l D G _ mo ad _ _ hP (en) (k9) (by omega) hm vr (fun h9 => hvr (by have h8 := (tkN_def.mp c3).1; rw [if_pos h9] at h8; exact h8.1)) (fun h9 => by omega) (by omega)) gV_X8_X8_dimAt hdV_X8_dimAt ⟨Nat.le_of_ble_eq_true rfl, Nat.le_of_ble_eq_true rfl⟩ hK (va_recv hK.1 hP (ci := 8) (q0 := 0) rfl rfl) rfl hl.1 rfl (Nat.le_of_ble_eq_true rfl) dX8_takes_99 ⟨Nat.le_of_ble_eq_true rfl, Nat.le_of_ble_eq_true rfl⟩ (fun r6 e_r6 => ?_)
        subst e_r6
        refine ro_Vi (D := D) (G := G) (As := [.int (σ 23 k9), .int (σ 24 k9), .int (kindF σ en k9 vr), .int (dimF σ en k9 vr)]) (rest := []) ⟨hx, hb, hml, hown, hts⟩ (m_fits l D G _ mo ad _ _ hP (σ 23 k9) (σ 24 k9) (kindF σ en k9 vr) (dimF σ en k9 vr) (hkg _ (by omega)) (hkf _ (by omega)) hb6) gV_X8_X8_fits hdV_X8_fits ⟨Nat.le_of_ble_eq_true rfl, Nat.le_of_ble_eq_true rfl⟩ hK (va_recv hK.1 hP (ci := 8) (q0 := 0) rfl rfl) rfl hl.1 rfl (Nat.le_of_ble_eq_true rfl) dX8_takes_102 ⟨Nat.le_of_ble_eq_true rfl, Nat.le_of_ble_eq_true rfl⟩ (fun r7 e_r7 => ?_)
        subst e_r7
        refine lv_istore_n (lv' := [(3, .int (bI (fitP σ (σ 23 k9) (σ 24 k9) (kindF σ en k9 vr) (dimF σ en k9 vr)))), (4, .int (nI k9)), (0, .ref mo), (1, .int (nI en)), (2, .int vr)]) hx hb dX8_takes_105 rfl hl (by decide) rfl (fun ls hl => ?_)
        refine lv_iinc (v := nI (k9 + 1)) (lv' := [(4, .int (nI (k9 + 1))), (3, .int (bI (fitP σ (σ 23 k9) (σ 24 k9) (kindF σ en k9 vr) (dimF σ en k9 vr)))), (0, .ref mo), (1, .int (nI en)), (2, .int vr)]) hx hb dX8_takes_106 hl (k := 1) rfl (nI_1 _) (by decide) rfl (fun ls hl => ?_)
        refine lv_goto (tgt := 58) hx hb dX8_takes_109 (by decide) ?_
        rw [tkN_s c3] at hl
        exact ih _ (by omega) (lv_sub hl [0, 1, 2, 3, 4] rfl)
  · -- up to the meeting at 54
    refine lv_iload_n hx hb dX8_takes_0 rfl (lv_at hl 2 rfl) ?_
    refine lv_if_eq (tgt := 36) hx hb dX8_takes_1 (by decide) (fun c8 => ?_) (fun c8 => ?_)
    · -- 1 taken
      refine lv_aload_n hx hb dX8_takes_36 rfl (lv_at hl 0 rfl) ?_
      refine va_get (D := D) (ci := 8) (v := .int (σ 22 0)) (C := RX8) (T := TX8) (N := 33) hx hb hts iX8 hown hK.1 hP 0 rfl rfl 22 (by decide) (hts _ q_701) (fun _ h9 => h9) rfl dX8_takes_37 ?_
      refine lv_aload_n hx hb dX8_takes_40 rfl (lv_at hl 0 rfl) ?_
      refine va_get (D := D) (ci := 8) (v := .ref ((ad 18))) (C := RX8) (T := TX8) (N := 33) hx hb hts iX8 hown hK.1 hP 0 rfl rfl 18 (by decide) (hts _ q_697) (fun _ h9 => h9) rfl dX8_takes_41 ?_
      refine lv_iload_n hx hb dX8_takes_44 rfl (lv_at hl 1 rfl) ?_
      refine iald_n (f := σ 18) hx hb hK.1 hP 16 0 rfl rfl (en) rfl (by omega) (by decide) dX8_takes_45 ?_
      refine lv_icmp_ne (tgt := 53) hx hb dX8_takes_46 (by decide) (fun c9 => ?_) (fun c9 => ?_)
      · -- 46 taken
        have c9 : ¬ w0 = (mnE σ en) := fun h9 => c9 (by first | (rw [h22, hm.1, h9]; done) | (rw [h22, hm.1, h9]; rfl))
        refine lv_iconst (v := 0) hx hb dX8_takes_53 (by decide) ?_
        exact J1 0 ((bI_f (by rw [tkN_def]; simp only [eq_true c8, eq_false c9, not_true, not_false_iff, not_true_eq_false, not_false_eq_true, true_or, or_true, false_or, or_false, or_self, and_self, true_and, and_true, false_and, and_false, if_true, if_false, Nat.not_lt_zero, false_implies, implies_true, forall_const])).symm)
      · -- 46 not
        have c9 : w0 = (mnE σ en) := nI_inj (by omega) (by omega) (by have h8 := c9; rw [h22, hm.1] at h8; exact h8)
        refine lv_iconst (v := 1) hx hb dX8_takes_49 (by decide) ?_
        refine lv_goto (tgt := 54) hx hb dX8_takes_50 (by decide) ?_
        exact J1 1 ((bI_t (by rw [tkN_def]; simp only [eq_true c8, eq_true c9, not_true, not_false_iff, not_true_eq_false, not_false_eq_true, true_or, or_true, false_or, or_false, or_self, and_self, true_and, and_true, false_and, and_false, if_true, if_false, Nat.not_lt_zero, false_implies, implies_true, forall_const])).symm)
    · -- 1 not
      refine lv_aload_n hx hb dX8_takes_4 rfl (lv_at hl 0 rfl) ?_
      refine va_get (D := D) (ci := 8) (v := .ref ((ad 17))) (C := RX8) (T := TX8) (N := 33) hx hb hts iX8 hown hK.1 hP 0 rfl rfl 17 (by decide) (hts _ q_696) (fun _ h9 => h9) rfl dX8_takes_5 ?_
      refine lv_iload_n hx hb dX8_takes_8 rfl (lv_at hl 1 rfl) ?_
      refine zald_n (f := σ 17) hx hb hK.1 hP 15 2 rfl rfl (en) rfl (by omega) (by decide) dX8_takes_9 ?_
      refine lv_if_eq (tgt := 32) hx hb dX8_takes_10 (by decide) (fun c10 => ?_) (fun c10 => ?_)
      · -- 10 taken
        refine lv_iconst (v := 0) hx hb dX8_takes_32 (by decide) ?_
        refine lv_goto (tgt := 54) hx hb dX8_takes_33 (by decide) ?_
        exact J1 0 ((bI_f (by rw [tkN_def]; simp only [eq_false c8, eq_true c10, not_true, not_false_iff, not_true_eq_false, not_false_eq_true, true_or, or_true, false_or, or_false, or_self, and_self, true_and, and_true, false_and, and_false, if_true, if_false, Nat.not_lt_zero, false_implies, implies_true, forall_const])).symm)
      · -- 10 not
        have hv1 := hvr c10
        refine lv_aload_n hx hb dX8_takes_13 rfl (lv_at hl 0 rfl) ?_
        refine va_get (D := D) (ci := 8) (v := .int (σ 22 0)) (C := RX8) (T := TX8) (N := 33) hx hb hts iX8 hown hK.1 hP 0 rfl rfl 22 (by decide) (hts _ q_701) (fun _ h9 => h9) rfl dX8_takes_14 ?_
        refine lv_aload_n hx hb dX8_takes_17 rfl (lv_at hl 0 rfl) ?_
        refine va_get (D := D) (ci := 8) (v := .ref ((ad 18))) (C := RX8) (T := TX8) (N := 33) hx hb hts iX8 hown hK.1 hP 0 rfl rfl 18 (by decide) (hts _ q_697) (fun _ h9 => h9) rfl dX8_takes_18 ?_
        refine lv_iload_n hx hb dX8_takes_21 rfl (lv_at hl 1 rfl) ?_
        refine iald_n (f := σ 18) hx hb hK.1 hP 16 0 rfl rfl (en) rfl (by omega) (by decide) dX8_takes_22 ?_
        refine lv_iconst (v := 1) hx hb dX8_takes_23 (by decide) ?_
        refine lv_isub hx hb dX8_takes_24 ?_
        refine lv_icmp_lt (tgt := 32) hx hb dX8_takes_25 (by decide) (fun c11 => ?_) (fun c11 => ?_)
        · -- 25 taken
          have c11 : w0 < ((mnE σ en) - 1) := (nI_ltI (a := w0) (b := ((mnE σ en) - 1)) (by omega) (by omega)).mp (by have h8 := c11; rw [h22, (n_sub (a := (mnE σ en)) (b := 1) hm.1 (rfl : (1 : Int32) = nI 1) (by omega))] at h8; exact h8)
          refine lv_iconst (v := 0) hx hb dX8_takes_32 (by decide) ?_
          refine lv_goto (tgt := 54) hx hb dX8_takes_33 (by decide) ?_
          exact J1 0 ((bI_f (by rw [tkN_def]; simp only [eq_false c8, eq_false c10, eq_true c11, not_true, not_false_iff, not_true_eq_false, not_false_eq_true, true_or, or_true, false_or, or_false, or_self, and_self, true_and, and_true, false_and, and_false, if_true, if_false, Nat.not_lt_zero, false_implies, implies_true, forall_const])).symm)
        · -- 25 not
          have c11 : ¬ w0 < ((mnE σ en) - 1) := fun h9 => c11 (by rw [h22, (n_sub (a := (mnE σ en)) (b := 1) hm.1 (rfl : (1 : Int32) = nI 1) (by omega))]; exact (nI_ltI (a := w0) (b := ((mnE σ en) - 1)) (by omega) (by omega)).mpr h9)
          refine lv_iconst (v := 1) hx hb dX8_takes_28 (by decide) ?_
          refine lv_goto (tgt := 54) hx hb dX8_takes_29 (by decide) ?_
          exact J1 1 ((bI_t (by rw [tkN_def]; simp only [eq_false c8, eq_false c10, eq_false c11, not_true, not_false_iff, not_true_eq_false, not_false_eq_true, true_or, or_true, false_or, or_false, or_self, and_self, true_and, and_true, false_and, and_false, if_true, if_false, Nat.not_lt_zero, false_implies, implies_true, forall_const])).symm)
set_option maxHeartbeats 4000000 in
set_option maxRecDepth 100000 in
theorem m_isNearer (l : Launch) (D : va_G) (G : Nat → ClassId) (H : Heap) (mo : Nat) (ad : Nat → Nat) (σ : MS) (τ : Nat → Int64) (hP : va_P D vwCl (mW G mo ad σ τ) H) (w0 : Nat) (h22 : σ 22 0 = nI w0) (hw : w0 ≤ 5) (a b : Nat) (ha : a < 60) (hb0 : b < 60) (hma : okM σ a) (hmb : okM σ b) (vr : Int32) (hva : ¬ vr = 0 → 1 ≤ mnE σ a) (hvb : ¬ vr = 0 → 1 ≤ mnE σ b) (hkfa : ∀ q, q < plN σ w0 a b vr → kdO (kindF σ a q vr)) (hkfb : ∀ q, q < plN σ w0 a b vr → kdO (kindF σ b q vr)) (hb6 : ∀ i, σ 6 i = 0 ∨ σ 6 i = 1) : Met l yX8_isNearer (ww yX8_isNearer cX8_isNearer 7 (some .boolean)) (rmD 3) (roP D G H [.ref mo, .int (nI a), .int (nI b), .int vr]) (vp_Si (fun r => r = bI (nrN σ a b vr (plN σ w0 a b vr)))) 0 0 (fun _ => False) := by
  refine Met.ofW (cc := cX8_isNearer) (maxL := 7) (ret := (some .boolean)) (by decide) rfl ?_
  intro p e s m args below meth c s₁ B hml hv
  obtain ⟨rfl, hH, hK⟩ := hv
  have hx := B.exec
  have hb := B.bytes
  have hr := B.returns
  have hts : ∀ w ∈ TT, w.before _ s = true := fun w h => atoms_spec (ws := ww yX8_isNearer cX8_isNearer 7 (some .boolean)) B.pre w (List.mem_cons_of_mem _ h)
  have hown : s.vm.findClass RX8 = some m.cls := findClass_of_methodNamed B.named
  have hlocks := B.notSynchronized
  rw [hH]
  have hp7 := plO_le (σ := σ) (v := vr) hw hma.2
  have hp8 := plO_le (σ := σ) (v := vr) hp7 hmb.2
  have hp9 : plN σ w0 a b vr = plO σ (plO σ w0 a vr) b vr := rfl
  have hl := lv_entry ([.ref mo, .int (nI a), .int (nI b), .int vr]) (n := 7) (Nat.le_of_ble_eq_true rfl)
  rw [lg_entry_eq]
  generalize (lg_sl ([.ref mo, .int (nI a), .int (nI b), .int vr]) ++ List.replicate (7 - (lg_sl ([.ref mo, .int (nI a), .int (nI b), .int vr])).length) Slot.unset).toArray = ls at hl ⊢
  have hl : lv_has ls 7 [(0, .ref mo), (1, .int (nI a)), (2, .int (nI b)), (3, .int vr)] := hl
  refine lv_aload_n hx hb dX8_isNearer_0 rfl (lv_at hl 0 rfl) ?_
  refine va_get (D := D) (ci := 8) (v := .int (σ 22 0)) (C := RX8) (T := TX8) (N := 33) hx hb hts iX8 hown hK.1 hP 0 rfl rfl 22 (by decide) (hts _ q_701) (fun _ h9 => h9) rfl dX8_isNearer_1 ?_
  refine lv_istore (lv' := [(4, .int (σ 22 0)), (0, .ref mo), (1, .int (nI a)), (2, .int (nI b)), (3, .int vr)]) hx hb dX8_isNearer_4 hl (by decide) rfl (fun ls hl => ?_)
  refine w_join (P := fun b9 => b9 = nI (plO σ w0 a vr)) 32 (ls := ls) (rest := []) (fun b2 e_b2 => ?_) (fun J1 => ?_)
  · -- behind the meeting at 32
    subst e_b2
    refine lv_istore (lv' := [(4, .int (nI (plO σ w0 a vr))), (0, .ref mo), (1, .int (nI a)), (2, .int (nI b)), (3, .int vr)]) hx hb dX8_isNearer_32 hl (by decide) rfl (fun ls hl => ?_)
    refine w_join (P := fun b9 => b9 = nI (plO σ (plO σ w0 a vr) b vr)) 60 (ls := ls) (rest := []) (fun b4 e_b4 => ?_) (fun J3 => ?_)
    · -- behind the meeting at 60
      subst e_b4
      refine lv_istore (lv' := [(4, .int (nI (plO σ (plO σ w0 a vr) b vr))), (0, .ref mo), (1, .int (nI a)), (2, .int (nI b)), (3, .int vr)]) hx hb dX8_isNearer_60 hl (by decide) rfl (fun ls hl => ?_)
      refine lv_iconst (v := 1) hx hb dX8_isNearer_62 (by decide) ?_
      refine lv_istore (lv' := [(5, .int 1), (4, .int (nI (plO σ (plO σ w0 a vr) b vr))), (0, .ref mo), (1, .int (nI a)), (2, .int (nI b)), (3, .int vr)]) hx hb dX8_isNearer_63 hl (by decide) rfl (fun ls hl => ?_)
      refine lv_iconst (v := 0) hx hb dX8_isNearer_65 (by decide) ?_
      refine lv_istore (lv' := [(6, .int 0), (5, .int 1), (4, .int (nI (plO σ (plO σ w0 a vr) b vr))), (0, .ref mo), (1, .int (nI a)), (2, .int (nI b)), (3, .int vr)]) hx hb dX8_isNearer_66 hl (by decide) rfl (fun ls hl => ?_)
      refine w_for (N := plN σ w0 a b vr) 68 (L := fun k9 ls => lv_has ls 7 [(6, .int (nI k9)), (5, .int (bI (nrN σ a b vr k9))), (4, .int (nI (plO σ (plO σ w0 a vr) b vr))), (0, .ref mo), (1, .int (nI a)), (2, .int (nI b)), (3, .int vr)]) (fun k9 ls hk hL ih => ?_) 0 ls (Nat.zero_le _) (by rw [nrN_0 (σ := σ) (a := a) (b := b) (v := vr)] at hl; exact hl)
      have hl := hL
      have hl : lv_has ls 7 [(6, .int (nI k9)), (5, .int (bI (nrN σ a b vr k9))), (4, .int (nI (plO σ (plO σ w0 a vr) b vr))), (0, .ref mo), (1, .int (nI a)), (2, .int (nI b)), (3, .int vr)] := hl
      refine lv_iload hx hb dX8_isNearer_68 (lv_at hl 1 rfl) ?_
      refine lv_if_eq (tgt := 124) hx hb dX8_isNearer_70 (by decide) (fun c5 => ?_) (fun c5 => ?_)
      · -- 70 taken
        have c5 := bI_0 c5
        refine lv_iload hx hb dX8_isNearer_124 (lv_at hl 1 rfl) ?_
        exact ro_zret (v := bI (nrN σ a b vr k9)) hx hb hr hH hlocks dX8_isNearer_126 bI_b (nrN_f (by omega) c5)
      · -- 70 not
        have c5 := bI_1 c5
        refine lv_iload hx hb dX8_isNearer_73 (lv_at hl 0 rfl) ?_
        refine lv_iload hx hb dX8_isNearer_75 (lv_at hl 2 rfl) ?_
        refine lv_icmp_ge (tgt := 124) hx hb dX8_isNearer_77 (by decide) (fun c6 => ?_) (fun c6 => ?_)
        · -- 77 taken
          have c6 : (plO σ (plO σ w0 a vr) b vr) ≤ k9 := (nI_leI (a := (plO σ (plO σ w0 a vr) b vr)) (b := k9) (by omega) (by omega)).mp (by have h8 := c6; exact h8)
          refine lv_iload hx hb dX8_isNearer_124 (lv_at hl 1 rfl) ?_
          exact ro_zret (v := bI (nrN σ a b vr k9)) hx hb hr hH hlocks dX8_isNearer_126 bI_b (by rw [show k9 = plN σ w0 a b vr by omega])
        · -- 77 not
          have c6 : ¬ (plO σ (plO σ w0 a vr) b vr) ≤ k9 := fun h9 => c6 (by exact (nI_leI (a := (plO σ (plO σ w0 a vr) b vr)) (b := k9) (by omega) (by omega)).mpr h9)
          refine lv_aload_n hx hb dX8_isNearer_80 rfl (lv_at hl 3 rfl) ?_
          refine lv_aload_n hx hb dX8_isNearer_81 rfl (lv_at hl 3 rfl) ?_
          refine lv_iload_n hx hb dX8_isNearer_82 rfl (lv_at hl 4 rfl) ?_
          refine lv_iload hx hb dX8_isNearer_83 (lv_at hl 0 rfl) ?_
          refine lv_iload_n hx hb dX8_isNearer_85 rfl (lv_at hl 6 rfl) ?_
          refine ro_Vi (D := D) (G := G) (As := [.int (nI a), .int (nI k9), .int vr]) (rest := [.ref mo]) ⟨hx, hb, hml, hown, hts⟩ (m_kindAt l D G _ mo ad _ _ hP (a) (k9) (by omega) hma vr hva (fun h9 => by omega) (by omega)) gV_X8_X8_kindAt hdV_X8_kindAt ⟨Nat.le_of_ble_eq_true rfl, Nat.le_of_ble_eq_true rfl⟩ hK (va_recv hK.1 hP (ci := 8) (q0 := 0) rfl rfl) rfl hl.1 rfl (Nat.le_of_ble_eq_true rfl) dX8_isNearer_86 ⟨Nat.le_of_ble_eq_true rfl, Nat.le_of_ble_eq_true rfl⟩ (fun r7 e_r7 => ?_)
          subst e_r7
          refine lv_aload_n hx hb dX8_isNearer_89 rfl (lv_at hl 3 rfl) ?_
          refine lv_iload_n hx hb dX8_isNearer_90 rfl (lv_at hl 4 rfl) ?_
          refine lv_iload hx hb dX8_isNearer_91 (lv_at hl 0 rfl) ?_
          refine lv_iload_n hx hb dX8_isNearer_93 rfl (lv_at hl 6 rfl) ?_
          refine ro_Vi (D := D) (G := G) (As := [.int (nI a), .int (nI k9), .int vr]) (rest := [.int (kindF σ a k9 vr), .ref mo]) ⟨hx, hb, hml, hown, hts⟩ (m_dimAt l D G _ mo ad _ _ hP (a) (k9) (by omega) hma vr hva (fun h9 => by omega) (by omega)) gV_X8_X8_dimAt hdV_X8_dimAt ⟨Nat.le_of_ble_eq_true rfl, Nat.le_of_ble_eq_true rfl⟩ hK (va_recv hK.1 hP (ci := 8) (q0 := 0) rfl rfl) rfl hl.1 rfl (Nat.le_of_ble_eq_true rfl) dX8_isNearer_94 ⟨Nat.le_of_ble_eq_true rfl, Nat.le_of_ble_eq_true rfl⟩ (fun r8 e_r8 => ?_)
          subst e_r8
          refine lv_aload_n hx hb dX8_isNearer_97 rfl (lv_at hl 3 rfl) ?_
          refine lv_iload_n hx hb dX8_isNearer_98 rfl (lv_at hl 5 rfl) ?_
          refine lv_iload hx hb dX8_isNearer_99 (lv_at hl 0 rfl) ?_
          refine lv_iload_n hx hb dX8_isNearer_101 rfl (lv_at hl 6 rfl) ?_
          refine ro_Vi (D := D) (G := G) (As := [.int (nI b), .int (nI k9), .int vr]) (rest := [.int (dimF σ a k9 vr), .int (kindF σ a k9 vr), .ref mo]) ⟨hx, hb, hml, hown, hts⟩ (m_kindAt l D G _ mo ad _ _ hP (b) (k9) (by omega) hmb vr hvb (fun h9 => by omega) (by omega)) gV_X8_X8_kindAt hdV_X8_kindAt ⟨Nat.le_of_ble_eq_true rfl, Nat.le_of_ble_eq_true rfl⟩ hK (va_recv hK.1 hP (ci := 8) (q0 := 0) rfl rfl) rfl hl.1 rfl (Nat.le_of_ble_eq_true rfl) dX8_isNearer_102 ⟨Nat.le_of_ble_eq_true rfl, Nat.le_of_ble_eq_true rfl⟩ (fun r9 e_r9 => ?_)
          subst e_r9
          refine lv_aload_n hx hb dX8_isNearer_105 rfl (lv_at hl 3 rfl) ?_
          refine lv_iload_n hx hb dX8_isNearer_106 rfl (lv_at hl 5 rfl) ?_
          refine lv_iload hx hb dX8_isNearer_107 (lv_at hl 0 rfl) ?_
          refine lv_iload_n hx hb dX8_isNearer_109 rfl (lv_at hl 6 rfl) ?_
          refine ro_Vi (D := D) (G := G) (As := [.int (nI b), .int (nI k9), .int vr]) (rest := [.int (kindF σ b k9 vr), .int (dimF σ a k9 vr), .int (kindF σ a k9 vr), .ref mo]) ⟨hx, hb, hml, hown, hts⟩ (m_dimAt l D G _ mo ad _ _ hP (b) (k9) (by omega) hmb vr hvb (fun h9 => by omega) (by omega)) gV_X8_X8_dimAt hdV_X8_dimAt ⟨Nat.le_of_ble_eq_true rfl, Nat.le_of_ble_eq_true rfl⟩ hK (va_recv hK.1 hP (ci := 8) (q0 := 0) rfl rfl) rfl hl.1 rfl (Nat.le_of_ble_eq_true rfl) dX8_isNearer_110 ⟨Nat.le_of_ble_eq_true rfl, Nat.le_of_ble_eq_true rfl⟩ (fun r10 e_r10 => ?_)
          subst e_r10
          refine ro_Vi (D := D) (G := G) (As := [.int (kindF σ a k9 vr), .int (dimF σ a k9 vr), .int (kindF σ b k9 vr), .int (dimF σ b k9 vr)]) (rest := []) ⟨hx, hb, hml, hown, hts⟩ (m_fits l D G _ mo ad _ _ hP (kindF σ a k9 vr) (dimF σ a k9 vr) (kindF σ b k9 vr) (dimF σ b k9 vr) (hkfa _ (by omega)) (hkfb _ (by omega)) hb6) gV_X8_X8_fits hdV_X8_fits ⟨Nat.le_of_ble_eq_true rfl, Nat.le_of_ble_eq_true rfl⟩ hK (va_recv hK.1 hP (ci := 8) (q0 := 0) rfl rfl) rfl hl.1 rfl (Nat.le_of_ble_eq_true rfl) dX8_isNearer_113 ⟨Nat.le_of_ble_eq_true rfl, Nat.le_of_ble_eq_true rfl⟩ (fun r11 e_r11 => ?_)
          subst e_r11
          refine lv_istore (lv' := [(5, .int (bI (fitP σ (kindF σ a k9 vr) (dimF σ a k9 vr) (kindF σ b k9 vr) (dimF σ b k9 vr)))), (6, .int (nI k9)), (4, .int (nI (plO σ (plO σ w0 a vr) b vr))), (0, .ref mo), (1, .int (nI a)), (2, .int (nI b)), (3, .int vr)]) hx hb dX8_isNearer_116 hl (by decide) rfl (fun ls hl => ?_)
          refine lv_iinc (v := nI (k9 + 1)) (lv' := [(6, .int (nI (k9 + 1))), (5, .int (bI (fitP σ (kindF σ a k9 vr) (dimF σ a k9 vr) (kindF σ b k9 vr) (dimF σ b k9 vr)))), (4, .int (nI (plO σ (plO σ w0 a vr) b vr))), (0, .ref mo), (1, .int (nI a)), (2, .int (nI b)), (3, .int vr)]) hx hb dX8_isNearer_118 hl (k := 1) rfl (nI_1 _) (by decide) rfl (fun ls hl => ?_)
          refine lv_goto (tgt := 68) hx hb dX8_isNearer_121 (by decide) ?_
          rw [nrN_s c5] at hl
          exact ih _ (by omega) (lv_sub hl [0, 1, 2, 3, 4, 5, 6] rfl)
    · -- up to the meeting at 60
      refine lv_iload_n hx hb dX8_isNearer_34 rfl (lv_at hl 4 rfl) ?_
      refine lv_if_eq (tgt := 58) hx hb dX8_isNearer_35 (by decide) (fun c12 => ?_) (fun c12 => ?_)
      · -- 35 taken
        refine lv_iload hx hb dX8_isNearer_58 (lv_at hl 0 rfl) ?_
        exact J3 (nI (plO σ w0 a vr)) (by exact congrArg nI (plO_0 c12).symm)
      · -- 35 not
        refine lv_aload_n hx hb dX8_isNearer_38 rfl (lv_at hl 1 rfl) ?_
        refine va_get (D := D) (ci := 8) (v := .ref ((ad 18))) (C := RX8) (T := TX8) (N := 33) hx hb hts iX8 hown hK.1 hP 0 rfl rfl 18 (by decide) (hts _ q_697) (fun _ h9 => h9) rfl dX8_isNearer_39 ?_
        refine lv_iload_n hx hb dX8_isNearer_42 rfl (lv_at hl 3 rfl) ?_
        refine iald_n (f := σ 18) hx hb hK.1 hP 16 0 rfl rfl (b) rfl (by omega) (by decide) dX8_isNearer_43 ?_
        refine lv_iload hx hb dX8_isNearer_44 (lv_at hl 0 rfl) ?_
        refine lv_icmp_le (tgt := 58) hx hb dX8_isNearer_46 (by decide) (fun c13 => ?_) (fun c13 => ?_)
        · -- 46 taken
          have c13 : (mnE σ b) ≤ (plO σ w0 a vr) := (nI_leI (a := (mnE σ b)) (b := (plO σ w0 a vr)) (by omega) (by omega)).mp (by have h8 := c13; rw [hmb.1] at h8; exact h8)
          refine lv_iload hx hb dX8_isNearer_58 (lv_at hl 0 rfl) ?_
          exact J3 (nI (plO σ w0 a vr)) (by exact congrArg nI (plO_1 c12 c13).symm)
        · -- 46 not
          have c13 : ¬ (mnE σ b) ≤ (plO σ w0 a vr) := fun h9 => c13 (by rw [hmb.1]; exact (nI_leI (a := (mnE σ b)) (b := (plO σ w0 a vr)) (by omega) (by omega)).mpr h9)
          refine lv_aload_n hx hb dX8_isNearer_49 rfl (lv_at hl 1 rfl) ?_
          refine va_get (D := D) (ci := 8) (v := .ref ((ad 18))) (C := RX8) (T := TX8) (N := 33) hx hb hts iX8 hown hK.1 hP 0 rfl rfl 18 (by decide) (hts _ q_697) (fun _ h9 => h9) rfl dX8_isNearer_50 ?_
          refine lv_iload_n hx hb dX8_isNearer_53 rfl (lv_at hl 3 rfl) ?_
          refine iald_n (f := σ 18) hx hb hK.1 hP 16 0 rfl rfl (b) rfl (by omega) (by decide) dX8_isNearer_54 ?_
          refine lv_goto (tgt := 60) hx hb dX8_isNearer_55 (by decide) ?_
          exact J3 (σ 18 b) (by rw [hmb.1]; exact congrArg nI (plO_2 c12 c13).symm)
  · -- up to the meeting at 32
    refine lv_iload_n hx hb dX8_isNearer_6 rfl (lv_at hl 4 rfl) ?_
    refine lv_if_eq (tgt := 30) hx hb dX8_isNearer_7 (by decide) (fun c14 => ?_) (fun c14 => ?_)
    · -- 7 taken
      refine lv_iload hx hb dX8_isNearer_30 (lv_at hl 0 rfl) ?_
      exact J1 (σ 22 0) (by rw [h22]; exact congrArg nI (plO_0 c14).symm)
    · -- 7 not
      refine lv_aload_n hx hb dX8_isNearer_10 rfl (lv_at hl 1 rfl) ?_
      refine va_get (D := D) (ci := 8) (v := .ref ((ad 18))) (C := RX8) (T := TX8) (N := 33) hx hb hts iX8 hown hK.1 hP 0 rfl rfl 18 (by decide) (hts _ q_697) (fun _ h9 => h9) rfl dX8_isNearer_11 ?_
      refine lv_iload_n hx hb dX8_isNearer_14 rfl (lv_at hl 2 rfl) ?_
      refine iald_n (f := σ 18) hx hb hK.1 hP 16 0 rfl rfl (a) rfl (by omega) (by decide) dX8_isNearer_15 ?_
      refine lv_iload hx hb dX8_isNearer_16 (lv_at hl 0 rfl) ?_
      refine lv_icmp_le (tgt := 30) hx hb dX8_isNearer_18 (by decide) (fun c15 => ?_) (fun c15 => ?_)
      · -- 18 taken
        have c15 : (mnE σ a) ≤ w0 := (nI_leI (a := (mnE σ a)) (b := w0) (by omega) (by omega)).mp (by have h8 := c15; rw [hma.1, h22] at h8; exact h8)
        refine lv_iload hx hb dX8_isNearer_30 (lv_at hl 0 rfl) ?_
        exact J1 (σ 22 0) (by rw [h22]; exact congrArg nI (plO_1 c14 c15).symm)
      · -- 18 not
        have c15 : ¬ (mnE σ a) ≤ w0 := fun h9 => c15 (by rw [hma.1, h22]; exact (nI_leI (a := (mnE σ a)) (b := w0) (by omega) (by omega)).mpr h9)
        refine lv_aload_n hx hb dX8_isNearer_21 rfl (lv_at hl 1 rfl) ?_
        refine va_get (D := D) (ci := 8) (v := .ref ((ad 18))) (C := RX8) (T := TX8) (N := 33) hx hb hts iX8 hown hK.1 hP 0 rfl rfl 18 (by decide) (hts _ q_697) (fun _ h9 => h9) rfl dX8_isNearer_22 ?_
        refine lv_iload_n hx hb dX8_isNearer_25 rfl (lv_at hl 2 rfl) ?_
        refine iald_n (f := σ 18) hx hb hK.1 hP 16 0 rfl rfl (a) rfl (by omega) (by decide) dX8_isNearer_26 ?_
        refine lv_goto (tgt := 32) hx hb dX8_isNearer_27 (by decide) ?_
        exact J1 (σ 18 a) (by rw [hma.1]; exact congrArg nI (plO_2 c14 c15).symm)
set_option maxHeartbeats 4000000 in
set_option maxRecDepth 100000 in
theorem m_makes (l : Launch) (D : va_G) (G : Nat → ClassId) (H : Heap) (mo : Nat) (ad : Nat → Nat) (σ : MS) (τ : Nat → Int64) (hP : va_P D vwCl (mW G mo ad σ τ) H) (t en wa : Nat) (ht : t < 12) (he : en < 60) (hwa : wa < 60) (hee : okE σ en) (hm : okM σ en) (hb6 : ∀ i, σ 6 i = 0 ∨ σ 6 i = 1) : Met l yX8_makes (ww yX8_makes cX8_makes 4 (some .boolean)) (rmD 1) (roP D G H [.ref mo, .int (nI t), .int (nI en), .int (nI wa)]) (vp_Si (fun r => r = bI (mkP σ t en wa))) 0 0 (fun _ => False) := by
  refine Met.ofW (cc := cX8_makes) (maxL := 4) (ret := (some .boolean)) (by decide) rfl ?_
  intro p e s m args below meth c s₁ B hml hv
  obtain ⟨rfl, hH, hK⟩ := hv
  have hx := B.exec
  have hb := B.bytes
  have hr := B.returns
  have hts : ∀ w ∈ TT, w.before _ s = true := fun w h => atoms_spec (ws := ww yX8_makes cX8_makes 4 (some .boolean)) B.pre w (List.mem_cons_of_mem _ h)
  have hown : s.vm.findClass RX8 = some m.cls := findClass_of_methodNamed B.named
  have hlocks := B.notSynchronized
  rw [hH]
  have hl := lv_entry ([.ref mo, .int (nI t), .int (nI en), .int (nI wa)]) (n := 4) (Nat.le_of_ble_eq_true rfl)
  rw [lg_entry_eq]
  generalize (lg_sl ([.ref mo, .int (nI t), .int (nI en), .int (nI wa)]) ++ List.replicate (4 - (lg_sl ([.ref mo, .int (nI t), .int (nI en), .int (nI wa)])).length) Slot.unset).toArray = ls at hl ⊢
  have hl : lv_has ls 4 [(0, .ref mo), (1, .int (nI t)), (2, .int (nI en)), (3, .int (nI wa))] := hl
  refine lv_aload_n hx hb dX8_makes_0 rfl (lv_at hl 0 rfl) ?_
  refine va_get (D := D) (ci := 8) (v := .ref ((ad 8))) (C := RX8) (T := TX8) (N := 33) hx hb hts iX8 hown hK.1 hP 0 rfl rfl 8 (by decide) (hts _ q_687) (fun _ h9 => h9) rfl dX8_makes_1 ?_
  refine lv_iload_n hx hb dX8_makes_4 rfl (lv_at hl 2 rfl) ?_
  refine zald_n (f := σ 8) hx hb hK.1 hP 6 2 rfl rfl (en) rfl (by omega) (by decide) dX8_makes_5 ?_
  refine lv_if_eq (tgt := 47) hx hb dX8_makes_6 (by decide) (fun c1 => ?_) (fun c1 => ?_)
  · -- 6 taken
    refine lv_iconst (v := 0) hx hb dX8_makes_47 (by decide) ?_
    exact ro_zret (v := 0) hx hb hr hH hlocks dX8_makes_48 (Or.inl rfl) ((bI_f (by rw [mkP_def]; simp only [eq_true c1, not_true, not_false_iff, not_true_eq_false, not_false_eq_true, true_or, or_true, false_or, or_false, or_self, and_self, true_and, and_true, false_and, and_false, if_true, if_false])).symm)
  · -- 6 not
    refine lv_aload_n hx hb dX8_makes_9 rfl (lv_at hl 0 rfl) ?_
    refine lv_iload_n hx hb dX8_makes_10 rfl (lv_at hl 1 rfl) ?_
    refine lv_aload_n hx hb dX8_makes_11 rfl (lv_at hl 0 rfl) ?_
    refine va_get (D := D) (ci := 8) (v := .ref ((ad 9))) (C := RX8) (T := TX8) (N := 33) hx hb hts iX8 hown hK.1 hP 0 rfl rfl 9 (by decide) (hts _ q_688) (fun _ h9 => h9) rfl dX8_makes_12 ?_
    refine lv_iload_n hx hb dX8_makes_15 rfl (lv_at hl 2 rfl) ?_
    refine iald_n (f := σ 9) hx hb hK.1 hP 7 0 rfl rfl (en) rfl (by omega) (by decide) dX8_makes_16 ?_
    refine W.eq (g2 := F0 m 17 ls [.int (nI (tyE σ en)), .int (nI t), .ref mo]) (congrArg (fun z9 => F0 m 17 ls [.int z9, .int (nI t), .ref mo]) hee.1) ?_
    refine ro_Vi (D := D) (G := G) (As := [.int (nI t), .int (nI (tyE σ en))]) (rest := []) ⟨hx, hb, hml, hown, hts⟩ (m_lies l D G _ mo ad _ _ hP (t) ((tyE σ en)) (by omega) (by omega) hb6) gV_X8_X8_lies hdV_X8_lies ⟨Nat.le_of_ble_eq_true rfl, Nat.le_of_ble_eq_true rfl⟩ hK (va_recv hK.1 hP (ci := 8) (q0 := 0) rfl rfl) rfl hl.1 rfl (Nat.le_of_ble_eq_true rfl) dX8_makes_17 ⟨Nat.le_of_ble_eq_true rfl, Nat.le_of_ble_eq_true rfl⟩ (fun r2 e_r2 => ?_)
    subst e_r2
    refine lv_if_eq (tgt := 47) hx hb dX8_makes_20 (by decide) (fun c3 => ?_) (fun c3 => ?_)
    · -- 20 taken
      have c3 := bI_0 c3
      refine lv_iconst (v := 0) hx hb dX8_makes_47 (by decide) ?_
      exact ro_zret (v := 0) hx hb hr hH hlocks dX8_makes_48 (Or.inl rfl) ((bI_f (by rw [mkP_def]; simp only [eq_false c1, eq_false c3, not_true, not_false_iff, not_true_eq_false, not_false_eq_true, true_or, or_true, false_or, or_false, or_self, and_self, true_and, and_true, false_and, and_false, if_true, if_false])).symm)
    · -- 20 not
      have c3 := bI_1 c3
      refine lv_aload_n hx hb dX8_makes_23 rfl (lv_at hl 0 rfl) ?_
      refine va_get (D := D) (ci := 8) (v := .ref ((ad 10))) (C := RX8) (T := TX8) (N := 33) hx hb hts iX8 hown hK.1 hP 0 rfl rfl 10 (by decide) (hts _ q_689) (fun _ h9 => h9) rfl dX8_makes_24 ?_
      refine lv_iload_n hx hb dX8_makes_27 rfl (lv_at hl 2 rfl) ?_
      refine iald_n (f := σ 10) hx hb hK.1 hP 8 0 rfl rfl (en) rfl (by omega) (by decide) dX8_makes_28 ?_
      refine lv_aload_n hx hb dX8_makes_29 rfl (lv_at hl 0 rfl) ?_
      refine va_get (D := D) (ci := 8) (v := .ref ((ad 10))) (C := RX8) (T := TX8) (N := 33) hx hb hts iX8 hown hK.1 hP 0 rfl rfl 10 (by decide) (hts _ q_689) (fun _ h9 => h9) rfl dX8_makes_30 ?_
      refine lv_iload_n hx hb dX8_makes_33 rfl (lv_at hl 3 rfl) ?_
      refine iald_n (f := σ 10) hx hb hK.1 hP 8 0 rfl rfl (wa) rfl (by omega) (by decide) dX8_makes_34 ?_
      refine lv_icmp_ne (tgt := 47) hx hb dX8_makes_35 (by decide) (fun c4 => ?_) (fun c4 => ?_)
      · -- 35 taken
        refine lv_iconst (v := 0) hx hb dX8_makes_47 (by decide) ?_
        exact ro_zret (v := 0) hx hb hr hH hlocks dX8_makes_48 (Or.inl rfl) ((bI_f (by rw [mkP_def]; simp only [eq_false c1, eq_true c3, eq_false c4, not_true, not_false_iff, not_true_eq_false, not_false_eq_true, true_or, or_true, false_or, or_false, or_self, and_self, true_and, and_true, false_and, and_false, if_true, if_false])).symm)
      · -- 35 not
        refine lv_aload_n hx hb dX8_makes_38 rfl (lv_at hl 0 rfl) ?_
        refine lv_iload_n hx hb dX8_makes_39 rfl (lv_at hl 2 rfl) ?_
        refine lv_iload_n hx hb dX8_makes_40 rfl (lv_at hl 3 rfl) ?_
        refine ro_Vi (D := D) (G := G) (As := [.int (nI en), .int (nI wa)]) (rest := []) ⟨hx, hb, hml, hown, hts⟩ (m_sameParts l D G _ mo ad _ _ hP (en) (wa) (by omega) (by omega) hm) gV_X8_X8_sameParts hdV_X8_sameParts ⟨Nat.le_of_ble_eq_true rfl, Nat.le_of_ble_eq_true rfl⟩ hK (va_recv hK.1 hP (ci := 8) (q0 := 0) rfl rfl) rfl hl.1 rfl (Nat.le_of_ble_eq_true rfl) dX8_makes_41 ⟨Nat.le_of_ble_eq_true rfl, Nat.le_of_ble_eq_true rfl⟩ (fun r5 e_r5 => ?_)
        subst e_r5
        refine lv_if_ne (tgt := 49) hx hb dX8_makes_44 (by decide) (fun c6 => ?_) (fun c6 => ?_)
        · -- 44 taken
          have c6 := bI_1 c6
          refine lv_aload_n hx hb dX8_makes_49 rfl (lv_at hl 0 rfl) ?_
          refine lv_aload_n hx hb dX8_makes_50 rfl (lv_at hl 0 rfl) ?_
          refine va_get (D := D) (ci := 8) (v := .ref ((ad 9))) (C := RX8) (T := TX8) (N := 33) hx hb hts iX8 hown hK.1 hP 0 rfl rfl 9 (by decide) (hts _ q_688) (fun _ h9 => h9) rfl dX8_makes_51 ?_
          refine lv_iload_n hx hb dX8_makes_54 rfl (lv_at hl 2 rfl) ?_
          refine iald_n (f := σ 9) hx hb hK.1 hP 7 0 rfl rfl (en) rfl (by omega) (by decide) dX8_makes_55 ?_
          refine W.eq (g2 := F0 m 56 ls [.int (nI (tyE σ en)), .ref mo]) (congrArg (fun z9 => F0 m 56 ls [.int z9, .ref mo]) hee.1) ?_
          refine ro_Vi (D := D) (G := G) (As := [.int (nI (tyE σ en))]) (rest := []) ⟨hx, hb, hml, hown, hts⟩ (m_isFace l D G _ mo ad _ _ hP ((tyE σ en)) (by omega)) gV_X8_X8_isFace hdV_X8_isFace ⟨Nat.le_of_ble_eq_true rfl, Nat.le_of_ble_eq_true rfl⟩ hK (va_recv hK.1 hP (ci := 8) (q0 := 0) rfl rfl) rfl hl.1 rfl (Nat.le_of_ble_eq_true rfl) dX8_makes_56 ⟨Nat.le_of_ble_eq_true rfl, Nat.le_of_ble_eq_true rfl⟩ (fun r7 e_r7 => ?_)
          subst e_r7
          refine lv_if_eq (tgt := 81) hx hb dX8_makes_59 (by decide) (fun c8 => ?_) (fun c8 => ?_)
          · -- 59 taken
            have c8 := bI_0 c8
            refine lv_aload_n hx hb dX8_makes_81 rfl (lv_at hl 0 rfl) ?_
            refine va_get (D := D) (ci := 8) (v := .ref ((ad 16))) (C := RX8) (T := TX8) (N := 33) hx hb hts iX8 hown hK.1 hP 0 rfl rfl 16 (by decide) (hts _ q_695) (fun _ h9 => h9) rfl dX8_makes_82 ?_
            refine lv_iload_n hx hb dX8_makes_85 rfl (lv_at hl 2 rfl) ?_
            refine zald_n (f := σ 16) hx hb hK.1 hP 14 2 rfl rfl (en) rfl (by omega) (by decide) dX8_makes_86 ?_
            refine lv_if_ne (tgt := 103) hx hb dX8_makes_87 (by decide) (fun c9 => ?_) (fun c9 => ?_)
            · -- 87 taken
              refine lv_aload_n hx hb dX8_makes_103 rfl (lv_at hl 0 rfl) ?_
              refine va_get (D := D) (ci := 8) (v := .ref ((ad 13))) (C := RX8) (T := TX8) (N := 33) hx hb hts iX8 hown hK.1 hP 0 rfl rfl 13 (by decide) (hts _ q_692) (fun _ h9 => h9) rfl dX8_makes_104 ?_
              refine lv_iload_n hx hb dX8_makes_107 rfl (lv_at hl 2 rfl) ?_
              refine iald_n (f := σ 13) hx hb hK.1 hP 11 0 rfl rfl (en) rfl (by omega) (by decide) dX8_makes_108 ?_
              refine lv_bipush (v := 12) hx hb dX8_makes_109 (by decide) ?_
              refine lv_iand hx hb dX8_makes_111 ?_
              refine lv_if_ne (tgt := 119) hx hb dX8_makes_112 (by decide) (fun c10 => ?_) (fun c10 => ?_)
              · -- 112 taken
                refine lv_iconst (v := 0) hx hb dX8_makes_119 (by decide) ?_
                exact ro_zret (v := 0) hx hb hr hH hlocks dX8_makes_120 (Or.inl rfl) ((bI_f (by rw [mkP_def]; simp only [eq_false c1, eq_true c3, eq_true c4, eq_true c6, eq_false c8, eq_false c9, eq_false c10, not_true, not_false_iff, not_true_eq_false, not_false_eq_true, true_or, or_true, false_or, or_false, or_self, and_self, true_and, and_true, false_and, and_false, if_true, if_false])).symm)
              · -- 112 not
                refine lv_iconst (v := 1) hx hb dX8_makes_115 (by decide) ?_
                refine lv_goto (tgt := 120) hx hb dX8_makes_116 (by decide) ?_
                exact ro_zret (v := 1) hx hb hr hH hlocks dX8_makes_120 (Or.inr rfl) ((bI_t (by rw [mkP_def]; simp only [eq_false c1, eq_true c3, eq_true c4, eq_true c6, eq_false c8, eq_false c9, eq_true c10, not_true, not_false_iff, not_true_eq_false, not_false_eq_true, true_or, or_true, false_or, or_false, or_self, and_self, true_and, and_true, false_and, and_false, if_true, if_false])).symm)
            · -- 87 not
              refine lv_aload_n hx hb dX8_makes_90 rfl (lv_at hl 0 rfl) ?_
              refine va_get (D := D) (ci := 8) (v := .ref ((ad 13))) (C := RX8) (T := TX8) (N := 33) hx hb hts iX8 hown hK.1 hP 0 rfl rfl 13 (by decide) (hts _ q_692) (fun _ h9 => h9) rfl dX8_makes_91 ?_
              refine lv_iload_n hx hb dX8_makes_94 rfl (lv_at hl 2 rfl) ?_
              refine iald_n (f := σ 13) hx hb hK.1 hP 11 0 rfl rfl (en) rfl (by omega) (by decide) dX8_makes_95 ?_
              refine lv_sipush (v := 256) hx hb dX8_makes_96 (by decide) ?_
              refine lv_iand hx hb dX8_makes_99 ?_
              refine lv_if_le (tgt := 119) hx hb dX8_makes_100 (by decide) (fun c11 => ?_) (fun c11 => ?_)
              · -- 100 taken
                have c11 := and_le (by decide) c11
                refine lv_iconst (v := 0) hx hb dX8_makes_119 (by decide) ?_
                exact ro_zret (v := 0) hx hb hr hH hlocks dX8_makes_120 (Or.inl rfl) ((bI_f (by rw [mkP_def]; simp only [eq_false c1, eq_true c3, eq_true c4, eq_true c6, eq_false c8, eq_true c9, eq_true c11, not_true, not_false_iff, not_true_eq_false, not_false_eq_true, true_or, or_true, false_or, or_false, or_self, and_self, true_and, and_true, false_and, and_false, if_true, if_false])).symm)
              · -- 100 not
                have c11 := and_nle c11
                refine lv_aload_n hx hb dX8_makes_103 rfl (lv_at hl 0 rfl) ?_
                refine va_get (D := D) (ci := 8) (v := .ref ((ad 13))) (C := RX8) (T := TX8) (N := 33) hx hb hts iX8 hown hK.1 hP 0 rfl rfl 13 (by decide) (hts _ q_692) (fun _ h9 => h9) rfl dX8_makes_104 ?_
                refine lv_iload_n hx hb dX8_makes_107 rfl (lv_at hl 2 rfl) ?_
                refine iald_n (f := σ 13) hx hb hK.1 hP 11 0 rfl rfl (en) rfl (by omega) (by decide) dX8_makes_108 ?_
                refine lv_bipush (v := 12) hx hb dX8_makes_109 (by decide) ?_
                refine lv_iand hx hb dX8_makes_111 ?_
                refine lv_if_ne (tgt := 119) hx hb dX8_makes_112 (by decide) (fun c12 => ?_) (fun c12 => ?_)
                · -- 112 taken
                  refine lv_iconst (v := 0) hx hb dX8_makes_119 (by decide) ?_
                  exact ro_zret (v := 0) hx hb hr hH hlocks dX8_makes_120 (Or.inl rfl) ((bI_f (by rw [mkP_def]; simp only [eq_false c1, eq_true c3, eq_true c4, eq_true c6, eq_false c8, eq_true c9, eq_false c11, eq_false c12, not_true, not_false_iff, not_true_eq_false, not_false_eq_true, true_or, or_true, false_or, or_false, or_self, and_self, true_and, and_true, false_and, and_false, if_true, if_false])).symm)
                · -- 112 not
                  refine lv_iconst (v := 1) hx hb dX8_makes_115 (by decide) ?_
                  refine lv_goto (tgt := 120) hx hb dX8_makes_116 (by decide) ?_
                  exact ro_zret (v := 1) hx hb hr hH hlocks dX8_makes_120 (Or.inr rfl) ((bI_t (by rw [mkP_def]; simp only [eq_false c1, eq_true c3, eq_true c4, eq_true c6, eq_false c8, eq_true c9, eq_false c11, eq_true c12, not_true, not_false_iff, not_true_eq_false, not_false_eq_true, true_or, or_true, false_or, or_false, or_self, and_self, true_and, and_true, false_and, and_false, if_true, if_false])).symm)
          · -- 59 not
            have c8 := bI_1 c8
            refine lv_aload_n hx hb dX8_makes_62 rfl (lv_at hl 0 rfl) ?_
            refine va_get (D := D) (ci := 8) (v := .ref ((ad 13))) (C := RX8) (T := TX8) (N := 33) hx hb hts iX8 hown hK.1 hP 0 rfl rfl 13 (by decide) (hts _ q_692) (fun _ h9 => h9) rfl dX8_makes_63 ?_
            refine lv_iload_n hx hb dX8_makes_66 rfl (lv_at hl 2 rfl) ?_
            refine iald_n (f := σ 13) hx hb hK.1 hP 11 0 rfl rfl (en) rfl (by omega) (by decide) dX8_makes_67 ?_
            refine lv_sipush (v := 1024) hx hb dX8_makes_68 (by decide) ?_
            refine lv_iand hx hb dX8_makes_71 ?_
            refine lv_if_le (tgt := 79) hx hb dX8_makes_72 (by decide) (fun c13 => ?_) (fun c13 => ?_)
            · -- 72 taken
              have c13 := and_le (by decide) c13
              refine lv_iconst (v := 0) hx hb dX8_makes_79 (by decide) ?_
              exact ro_zret (v := 0) hx hb hr hH hlocks dX8_makes_80 (Or.inl rfl) ((bI_f (by rw [mkP_def]; simp only [eq_false c1, eq_true c3, eq_true c4, eq_true c6, eq_true c8, eq_true c13, not_true, not_false_iff, not_true_eq_false, not_false_eq_true, true_or, or_true, false_or, or_false, or_self, and_self, true_and, and_true, false_and, and_false, if_true, if_false])).symm)
            · -- 72 not
              have c13 := and_nle c13
              refine lv_iconst (v := 1) hx hb dX8_makes_75 (by decide) ?_
              refine lv_goto (tgt := 80) hx hb dX8_makes_76 (by decide) ?_
              exact ro_zret (v := 1) hx hb hr hH hlocks dX8_makes_80 (Or.inr rfl) ((bI_t (by rw [mkP_def]; simp only [eq_false c1, eq_true c3, eq_true c4, eq_true c6, eq_true c8, eq_false c13, not_true, not_false_iff, not_true_eq_false, not_false_eq_true, true_or, or_true, false_or, or_false, or_self, and_self, true_and, and_true, false_and, and_false, if_true, if_false])).symm)
        · -- 44 not
          have c6 := bI_0 c6
          refine lv_iconst (v := 0) hx hb dX8_makes_47 (by decide) ?_
          exact ro_zret (v := 0) hx hb hr hH hlocks dX8_makes_48 (Or.inl rfl) ((bI_f (by rw [mkP_def]; simp only [eq_false c1, eq_true c3, eq_true c4, eq_false c6, not_true, not_false_iff, not_true_eq_false, not_false_eq_true, true_or, or_true, false_or, or_false, or_self, and_self, true_and, and_true, false_and, and_false, if_true, if_false])).symm)
set_option maxHeartbeats 4000000 in
set_option maxRecDepth 100000 in
theorem m_isLacked (l : Launch) (D : va_G) (G : Nat → ClassId) (H : Heap) (mo : Nat) (ad : Nat → Nat) (σ : MS) (τ : Nat → Int64) (hP : va_P D vwCl (mW G mo ad σ τ) H) (k : Nat) (h7 : σ 7 0 = nI k) (hk60 : k ≤ 60) (t en : Nat) (ht : t < 12) (he : en < 60) (hee : okE σ en) (heo : ∀ i, i < k → okE σ i) (hmo : ∀ i, i < k → okM σ i) (hb6 : ∀ i, σ 6 i = 0 ∨ σ 6 i = 1) : Met l yX8_isLacked (ww yX8_isLacked cX8_isLacked 5 (some .boolean)) (rmD 2) (roP D G H [.ref mo, .int (nI t), .int (nI en)]) (vp_Si (fun r => r = bI (lkN σ t en k))) 0 0 (fun _ => False) := by
  refine Met.ofW (cc := cX8_isLacked) (maxL := 5) (ret := (some .boolean)) (by decide) rfl ?_
  intro p e s m args below meth c s₁ B hml hv
  obtain ⟨rfl, hH, hK⟩ := hv
  have hx := B.exec
  have hb := B.bytes
  have hr := B.returns
  have hts : ∀ w ∈ TT, w.before _ s = true := fun w h => atoms_spec (ws := ww yX8_isLacked cX8_isLacked 5 (some .boolean)) B.pre w (List.mem_cons_of_mem _ h)
  have hown : s.vm.findClass RX8 = some m.cls := findClass_of_methodNamed B.named
  have hlocks := B.notSynchronized
  rw [hH]
  have hl := lv_entry ([.ref mo, .int (nI t), .int (nI en)]) (n := 5) (Nat.le_of_ble_eq_true rfl)
  rw [lg_entry_eq]
  generalize (lg_sl ([.ref mo, .int (nI t), .int (nI en)]) ++ List.replicate (5 - (lg_sl ([.ref mo, .int (nI t), .int (nI en)])).length) Slot.unset).toArray = ls at hl ⊢
  have hl : lv_has ls 5 [(0, .ref mo), (1, .int (nI t)), (2, .int (nI en))] := hl
  refine w_join (P := fun b9 => b9 = bI (lkN σ t en 0)) 41 (ls := ls) (rest := []) (fun b2 e_b2 => ?_) (fun J1 => ?_)
  · -- behind the meeting at 41
    subst e_b2
    refine lv_istore_n (lv' := [(3, .int (bI (lkN σ t en 0))), (0, .ref mo), (1, .int (nI t)), (2, .int (nI en))]) hx hb dX8_isLacked_41 rfl hl (by decide) rfl (fun ls hl => ?_)
    refine lv_iconst (v := 0) hx hb dX8_isLacked_42 (by decide) ?_
    refine lv_istore (lv' := [(4, .int 0), (3, .int (bI (lkN σ t en 0))), (0, .ref mo), (1, .int (nI t)), (2, .int (nI en))]) hx hb dX8_isLacked_43 hl (by decide) rfl (fun ls hl => ?_)
    refine w_for (N := k) 45 (L := fun k9 ls => lv_has ls 5 [(4, .int (nI k9)), (3, .int (bI (lkN σ t en k9))), (0, .ref mo), (1, .int (nI t)), (2, .int (nI en))]) (fun k9 ls hk hL ih => ?_) 0 ls (Nat.zero_le _) (hl)
    have hl := hL
    have hl : lv_has ls 5 [(4, .int (nI k9)), (3, .int (bI (lkN σ t en k9))), (0, .ref mo), (1, .int (nI t)), (2, .int (nI en))] := hl
    refine lv_iload hx hb dX8_isLacked_45 (lv_at hl 0 rfl) ?_
    refine lv_aload_n hx hb dX8_isLacked_47 rfl (lv_at hl 2 rfl) ?_
    refine va_get (D := D) (ci := 8) (v := .int (σ 7 0)) (C := RX8) (T := TX8) (N := 33) hx hb hts iX8 hown hK.1 hP 0 rfl rfl 7 (by decide) (hts _ q_686) (fun _ h9 => h9) rfl dX8_isLacked_48 ?_
    refine lv_icmp_ge (tgt := 81) hx hb dX8_isLacked_51 (by decide) (fun c3 => ?_) (fun c3 => ?_)
    · -- 51 taken
      have c3 : k ≤ k9 := (nI_leI (a := k) (b := k9) (by omega) (by omega)).mp (by have h8 := c3; rw [h7] at h8; exact h8)
      refine lv_iload_n hx hb dX8_isLacked_81 rfl (lv_at hl 1 rfl) ?_
      exact ro_zret (v := bI (lkN σ t en k9)) hx hb hr hH hlocks dX8_isLacked_82 bI_b (by rw [show k9 = k by omega])
    · -- 51 not
      have c3 : ¬ k ≤ k9 := fun h9 => c3 (by rw [h7]; exact (nI_leI (a := k) (b := k9) (by omega) (by omega)).mpr h9)
      refine lv_iload_n hx hb dX8_isLacked_54 rfl (lv_at hl 1 rfl) ?_
      refine lv_if_eq (tgt := 81) hx hb dX8_isLacked_55 (by decide) (fun c4 => ?_) (fun c4 => ?_)
      · -- 55 taken
        have c4 := bI_0 c4
        refine lv_iload_n hx hb dX8_isLacked_81 rfl (lv_at hl 1 rfl) ?_
        exact ro_zret (v := bI (lkN σ t en k9)) hx hb hr hH hlocks dX8_isLacked_82 bI_b (lkN_f (by omega) c4)
      · -- 55 not
        have c4 := bI_1 c4
        refine w_join (P := fun b9 => b9 = bI (¬ mkP σ t k9 en)) 74 (ls := ls) (rest := []) (fun b6 e_b6 => ?_) (fun J5 => ?_)
        · -- behind the meeting at 74
          subst e_b6
          refine lv_istore_n (lv' := [(3, .int (bI (¬ mkP σ t k9 en))), (4, .int (nI k9)), (0, .ref mo), (1, .int (nI t)), (2, .int (nI en))]) hx hb dX8_isLacked_74 rfl hl (by decide) rfl (fun ls hl => ?_)
          refine lv_iinc (v := nI (k9 + 1)) (lv' := [(4, .int (nI (k9 + 1))), (3, .int (bI (¬ mkP σ t k9 en))), (0, .ref mo), (1, .int (nI t)), (2, .int (nI en))]) hx hb dX8_isLacked_75 hl (k := 1) rfl (nI_1 _) (by decide) rfl (fun ls hl => ?_)
          refine lv_goto (tgt := 45) hx hb dX8_isLacked_78 (by decide) ?_
          rw [lkN_s c4] at hl
          exact ih _ (by omega) (lv_sub hl [0, 1, 2, 3, 4] rfl)
        · -- up to the meeting at 74
          refine lv_aload_n hx hb dX8_isLacked_58 rfl (lv_at hl 2 rfl) ?_
          refine lv_iload_n hx hb dX8_isLacked_59 rfl (lv_at hl 3 rfl) ?_
          refine lv_iload hx hb dX8_isLacked_60 (lv_at hl 0 rfl) ?_
          refine lv_iload_n hx hb dX8_isLacked_62 rfl (lv_at hl 4 rfl) ?_
          refine ro_Vi (D := D) (G := G) (As := [.int (nI t), .int (nI k9), .int (nI en)]) (rest := []) ⟨hx, hb, hml, hown, hts⟩ (m_makes l D G _ mo ad _ _ hP (t) (k9) (en) (by omega) (by omega) (by omega) (heo k9 (by omega)) (hmo k9 (by omega)) hb6) gV_X8_X8_makes hdV_X8_makes ⟨Nat.le_of_ble_eq_true rfl, Nat.le_of_ble_eq_true rfl⟩ hK (va_recv hK.1 hP (ci := 8) (q0 := 0) rfl rfl) rfl hl.1 rfl (Nat.le_of_ble_eq_true rfl) dX8_isLacked_63 ⟨Nat.le_of_ble_eq_true rfl, Nat.le_of_ble_eq_true rfl⟩ (fun r7 e_r7 => ?_)
          subst e_r7
          refine lv_if_ne (tgt := 73) hx hb dX8_isLacked_66 (by decide) (fun c8 => ?_) (fun c8 => ?_)
          · -- 66 taken
            have c8 := bI_1 c8
            refine lv_iconst (v := 0) hx hb dX8_isLacked_73 (by decide) ?_
            exact J5 0 ((bI_f (by simp only [eq_true c8, not_true, not_false_iff, not_true_eq_false, not_false_eq_true, true_or, or_true, false_or, or_false, or_self, and_self, true_and, and_true, false_and, and_false, if_true, if_false])).symm)
          · -- 66 not
            have c8 := bI_0 c8
            refine lv_iconst (v := 1) hx hb dX8_isLacked_69 (by decide) ?_
            refine lv_goto (tgt := 74) hx hb dX8_isLacked_70 (by decide) ?_
            exact J5 1 ((bI_t (by simp only [eq_false c8, not_true, not_false_iff, not_true_eq_false, not_false_eq_true, true_or, or_true, false_or, or_false, or_self, and_self, true_and, and_true, false_and, and_false, if_true, if_false])).symm)
  · -- up to the meeting at 41
    refine lv_aload_n hx hb dX8_isLacked_0 rfl (lv_at hl 0 rfl) ?_
    refine va_get (D := D) (ci := 8) (v := .ref ((ad 8))) (C := RX8) (T := TX8) (N := 33) hx hb hts iX8 hown hK.1 hP 0 rfl rfl 8 (by decide) (hts _ q_687) (fun _ h9 => h9) rfl dX8_isLacked_1 ?_
    refine lv_iload_n hx hb dX8_isLacked_4 rfl (lv_at hl 2 rfl) ?_
    refine zald_n (f := σ 8) hx hb hK.1 hP 6 2 rfl rfl (en) rfl (by omega) (by decide) dX8_isLacked_5 ?_
    refine lv_if_eq (tgt := 40) hx hb dX8_isLacked_6 (by decide) (fun c9 => ?_) (fun c9 => ?_)
    · -- 6 taken
      refine lv_iconst (v := 0) hx hb dX8_isLacked_40 (by decide) ?_
      exact J1 0 ((bI_f (by rw [lkN_def]; simp only [eq_true c9, not_true, not_false_iff, not_true_eq_false, not_false_eq_true, true_or, or_true, false_or, or_false, or_self, and_self, true_and, and_true, false_and, and_false, if_true, if_false, Nat.not_lt_zero, false_implies, implies_true, forall_const])).symm)
    · -- 6 not
      refine lv_aload_n hx hb dX8_isLacked_9 rfl (lv_at hl 0 rfl) ?_
      refine va_get (D := D) (ci := 8) (v := .ref ((ad 13))) (C := RX8) (T := TX8) (N := 33) hx hb hts iX8 hown hK.1 hP 0 rfl rfl 13 (by decide) (hts _ q_692) (fun _ h9 => h9) rfl dX8_isLacked_10 ?_
      refine lv_iload_n hx hb dX8_isLacked_13 rfl (lv_at hl 2 rfl) ?_
      refine iald_n (f := σ 13) hx hb hK.1 hP 11 0 rfl rfl (en) rfl (by omega) (by decide) dX8_isLacked_14 ?_
      refine lv_sipush (v := 128) hx hb dX8_isLacked_15 (by decide) ?_
      refine lv_iand hx hb dX8_isLacked_18 ?_
      refine lv_if_le (tgt := 40) hx hb dX8_isLacked_19 (by decide) (fun c10 => ?_) (fun c10 => ?_)
      · -- 19 taken
        have c10 := and_le (by decide) c10
        refine lv_iconst (v := 0) hx hb dX8_isLacked_40 (by decide) ?_
        exact J1 0 ((bI_f (by rw [lkN_def]; simp only [eq_false c9, eq_true c10, not_true, not_false_iff, not_true_eq_false, not_false_eq_true, true_or, or_true, false_or, or_false, or_self, and_self, true_and, and_true, false_and, and_false, if_true, if_false, Nat.not_lt_zero, false_implies, implies_true, forall_const])).symm)
      · -- 19 not
        have c10 := and_nle c10
        refine lv_aload_n hx hb dX8_isLacked_22 rfl (lv_at hl 0 rfl) ?_
        refine lv_iload_n hx hb dX8_isLacked_23 rfl (lv_at hl 1 rfl) ?_
        refine lv_aload_n hx hb dX8_isLacked_24 rfl (lv_at hl 0 rfl) ?_
        refine va_get (D := D) (ci := 8) (v := .ref ((ad 9))) (C := RX8) (T := TX8) (N := 33) hx hb hts iX8 hown hK.1 hP 0 rfl rfl 9 (by decide) (hts _ q_688) (fun _ h9 => h9) rfl dX8_isLacked_25 ?_
        refine lv_iload_n hx hb dX8_isLacked_28 rfl (lv_at hl 2 rfl) ?_
        refine iald_n (f := σ 9) hx hb hK.1 hP 7 0 rfl rfl (en) rfl (by omega) (by decide) dX8_isLacked_29 ?_
        refine W.eq (g2 := F0 m 30 ls [.int (nI (tyE σ en)), .int (nI t), .ref mo]) (congrArg (fun z9 => F0 m 30 ls [.int z9, .int (nI t), .ref mo]) hee.1) ?_
        refine ro_Vi (D := D) (G := G) (As := [.int (nI t), .int (nI (tyE σ en))]) (rest := []) ⟨hx, hb, hml, hown, hts⟩ (m_lies l D G _ mo ad _ _ hP (t) ((tyE σ en)) (by omega) (by omega) hb6) gV_X8_X8_lies hdV_X8_lies ⟨Nat.le_of_ble_eq_true rfl, Nat.le_of_ble_eq_true rfl⟩ hK (va_recv hK.1 hP (ci := 8) (q0 := 0) rfl rfl) rfl hl.1 rfl (Nat.le_of_ble_eq_true rfl) dX8_isLacked_30 ⟨Nat.le_of_ble_eq_true rfl, Nat.le_of_ble_eq_true rfl⟩ (fun r11 e_r11 => ?_)
        subst e_r11
        refine lv_if_eq (tgt := 40) hx hb dX8_isLacked_33 (by decide) (fun c12 => ?_) (fun c12 => ?_)
        · -- 33 taken
          have c12 := bI_0 c12
          refine lv_iconst (v := 0) hx hb dX8_isLacked_40 (by decide) ?_
          exact J1 0 ((bI_f (by rw [lkN_def]; simp only [eq_false c9, eq_false c10, eq_false c12, not_true, not_false_iff, not_true_eq_false, not_false_eq_true, true_or, or_true, false_or, or_false, or_self, and_self, true_and, and_true, false_and, and_false, if_true, if_false, Nat.not_lt_zero, false_implies, implies_true, forall_const])).symm)
        · -- 33 not
          have c12 := bI_1 c12
          refine lv_iconst (v := 1) hx hb dX8_isLacked_36 (by decide) ?_
          refine lv_goto (tgt := 41) hx hb dX8_isLacked_37 (by decide) ?_
          exact J1 1 ((bI_t (by rw [lkN_def]; simp only [eq_false c9, eq_false c10, eq_true c12, not_true, not_false_iff, not_true_eq_false, not_false_eq_true, true_or, or_true, false_or, or_false, or_self, and_self, true_and, and_true, false_and, and_false, if_true, if_false, Nat.not_lt_zero, false_implies, implies_true, forall_const])).symm)
end
section
-- what the reference's methods leave: the answer and the tables
theorem okT_n {x : Int32} {j : Nat} (h : x = nI j) (hj : j < 12) : okT x := by subst h; rw [okT, nI_clamp (by omega)]; exact ⟨rfl, hj⟩
abbrev brS (σ : MS) (r : Nat) : MS := su (su σ 27 r (σ 27 r + 1)) 26 0 (σ 26 0 + 1)
def oType (σ : MS) (τ : Nat → Int64) (n : Nat) (sort parent : Int32) : Int32 × MU :=
  if ¬ (0 ≤ sort ∧ sort ≤ 3) then (-13, su σ 0 0 0, τ)
  else if ¬ parent = -1 ∧ (sort = 3 ∨ ¬ okN n parent ∨ ¬ σ 2 parent.toNatClampNeg ≤ 1) then (-11, su σ 0 0 0, τ)
  else if n = 12 then (-15, su σ 0 0 0, τ)
  else (nI n, st (su (su (su (su (su σ 0 0 0) 2 n sort) 3 n parent) 5 n 0) 1 0 (nI (n + 1))) 6 (recF (σ 6) (upd (σ 3) n parent) (upd (σ 5) n 0) (σ 4) n), τ)
/-- every place holds -1 or a type's number -/
abbrev okPa (σ : MS) (t : Nat) : Prop := ¬ σ 3 t = -1 → okT (σ 3 t)
abbrev okC (x : Int32) : Prop := x = nI x.toNatClampNeg ∧ x.toNatClampNeg ≤ 3
abbrev okFa (σ : MS) (t : Nat) : Prop := okC (σ 5 t) ∧ ∀ k, k < (σ 5 t).toNatClampNeg → okT (σ 4 (3 * t + k))
/-- the rows of the types from t on are reckoned anew -/
def reF (f pa fc fa : Nat → Int32) (t : Nat) : Nat → Nat → Int32
  | 0 => f
  | k + 1 => recF (reF f pa fc fa t k) pa fc fa (t + k)
abbrev hasF (σ : MS) (t : Nat) (f : Int32) (n : Nat) : Prop := ∃ k, k < n ∧ σ 4 (3 * t + k) = f
abbrev okR (x : Int32) : Prop := x = nI x.toNatClampNeg ∧ x.toNatClampNeg < 26
theorem okR_n : ∀ j : Fin 26, okR (nI j.val) := by decide
theorem aRF_ok {σ : MS} {k t : Nat} {name kind m : Int32} : okR (aRF σ k t name kind m) := by
  unfold aRF; repeat' split
  all_goals first | exact okR_n 0 | exact okR_n 1 | exact okR_n 2 | exact okR_n 3 | exact okR_n 4 | exact okR_n 5 | exact okR_n 6
theorem aRM_ok {sort m body : Int32} : okR (aRM sort m body) := by
  unfold aRM; repeat' split
  all_goals first | exact okR_n 0 | exact okR_n 11 | exact okR_n 12 | exact okR_n 13 | exact okR_n 14 | exact okR_n 15 | exact okR_n 16 | exact okR_n 17
theorem aRA_ok {σ : MS} {a b : Nat} : okR (aRA σ a b) := by
  unfold aRA; repeat' split
  all_goals first | exact okR_n 0 | exact okR_n 22 | exact okR_n 23 | exact okR_n 24 | exact okR_n 25
theorem aRef_ok {σ : MS} {n : Nat} {t name kind d m : Int32} (h : 0 ≤ aRef σ n t name kind d m) : okN n t ∧ ¬ noK n kind ∧ (0 ≤ name ∧ name ≤ 49) ∧ ¬ kind < 0 ∧ ¬ kind = 9 ∧ (0 ≤ d ∧ d ≤ 3) ∧ ¬ (kind = 0 ∧ 0 < d) ∧ (0 ≤ m ∧ m ≤ 2047) ∧ σ 21 0 = 0 ∧ ¬ σ 7 0 = 60 := by
  unfold aRef at h
  split at h
  · exact absurd h (by decide)
  · rename_i h1
    split at h
    · exact absurd h (by decide)
    · rename_i h2
      split at h
      · exact absurd h (by decide)
      · rename_i h3
        split at h
        · exact absurd h (by decide)
        · rename_i h4
          simp only [not_or, Decidable.not_not] at h1 h2 h3
          exact ⟨h1.1, h1.2, h2.1, h2.2.1, h2.2.2.1, h2.2.2.2.1, h2.2.2.2.2.1, h2.2.2.2.2.2, h3, h4⟩
theorem reF_s {f pa fc fa : Nat → Int32} {t k : Nat} (h : t ≤ k) : reF f pa fc fa t (k + 1 - t) = recF (reF f pa fc fa t (k - t)) pa fc fa k := by
  rw [show k + 1 - t = (k - t) + 1 by omega]
  show recF _ _ _ _ (t + (k - t)) = _
  rw [show t + (k - t) = k by omega]
theorem b01_re {f pa fc fa : Nat → Int32} (h : b01 f) (t : Nat) : ∀ k, b01 (reF f pa fc fa t k)
  | 0 => h
  | k + 1 => b01_rec (b01_re h t k) _
def oBelow (σ : MS) (τ : Nat → Int64) (n : Nat) (t o : Int32) : Int32 × MU :=
  if ¬ okN n t ∨ ¬ okN n o then (-11, su σ 0 0 0, τ) else if lyP σ t.toNatClampNeg o.toNatClampNeg then (1, su σ 0 0 0, τ) else (0, su σ 0 0 0, τ)
abbrev layS (σ : MS) (k : Nat) (t name kind d m : Int32) : MS := su (su (su (su (su σ 9 k t) 10 k name) 11 k kind) 12 k d) 13 k m
def oField (σ : MS) (τ : Nat → Int64) (n k : Nat) (t name kind d m : Int32) : Int32 × MU :=
  if ¬ 0 ≤ aRef σ n t name kind d m then (aRef σ n t name kind d m, su σ 0 0 0, τ)
  else if ¬ aRF σ k t.toNatClampNeg name kind m ≤ 0 then ((-40) - nI (aRF σ k t.toNatClampNeg name kind m).toNatClampNeg, brS (su σ 0 0 0) (aRF σ k t.toNatClampNeg name kind m).toNatClampNeg, τ)
  else (nI k, su (su (su (layS (su σ 0 0 0) k t name kind d (if σ 2 t.toNatClampNeg = 3 then m ||| 1 ||| 8 ||| 16 else m)) 8 k 0) 14 k 0) 7 0 (nI (k + 1)), τ)
def allM (sort m : Int32) : Int32 := if sort = 3 then (m ||| (if m &&& 4 = 0 then 1 else 0)) ||| (if m &&& 1036 = 0 then 128 else 0) else m
def oMember (σ : MS) (τ : Nat → Int64) (n k : Nat) (t name kind d m body : Int32) : Int32 × MU :=
  if ¬ 0 ≤ aRef σ n t name kind d m then (aRef σ n t name kind d m, su σ 0 0 0, τ)
  else if ¬ aRM (σ 2 t.toNatClampNeg) m body ≤ 0 then ((-40) - nI (aRM (σ 2 t.toNatClampNeg) m body).toNatClampNeg, brS (su σ 0 0 0) (aRM (σ 2 t.toNatClampNeg) m body).toNatClampNeg, τ)
  else (1, su (su (su (su (layS (su σ 0 0 0) k t name kind d (allM (σ 2 t.toNatClampNeg) m)) 16 k body) 17 k 0) 18 k 0) 21 0 1, τ)
def oEntry (σ : MS) (τ : Nat → Int64) (k : Nat) (e what : Int32) : Int32 × MU :=
  if ¬ okN k e then (-11, su σ 0 0 0, τ)
  else if what = 0 then (if σ 8 e.toNatClampNeg = 0 then 0 else 1, su σ 0 0 0, τ) else if what = 1 then (σ 9 e.toNatClampNeg, su σ 0 0 0, τ) else if what = 2 then (σ 10 e.toNatClampNeg, su σ 0 0 0, τ)
  else if what = 3 then (σ 11 e.toNatClampNeg, su σ 0 0 0, τ) else if what = 4 then (σ 12 e.toNatClampNeg, su σ 0 0 0, τ) else if what = 5 then (σ 13 e.toNatClampNeg, su σ 0 0 0, τ) else (-13, su σ 0 0 0, τ)
def oShape (σ : MS) (τ : Nat → Int64) (k : Nat) (e what : Int32) : Int32 × MU :=
  if ¬ okN k e then (-11, su σ 0 0 0, τ) else if σ 8 e.toNatClampNeg = 0 then (-12, su σ 0 0 0, τ)
  else if what = 0 then (σ 18 e.toNatClampNeg, su σ 0 0 0, τ) else if what = 1 then (if σ 17 e.toNatClampNeg = 0 then 0 else 1, su σ 0 0 0, τ) else if what = 2 then (if σ 16 e.toNatClampNeg = 0 then 0 else 1, su σ 0 0 0, τ)
  else if what = 3 then (σ 28 e.toNatClampNeg, su σ 0 0 0, τ) else (-13, su σ 0 0 0, τ)
def oCount (σ : MS) (τ : Nat → Int64) (k : Nat) (what : Int32) : Int32 × MU :=
  if what = 0 then (σ 1 0, su σ 0 0 0, τ) else if what = 1 then (nI k, su σ 0 0 0, τ) else if what = 2 then (if σ 21 0 = 0 then 0 else 1, su σ 0 0 0, τ)
  else if what = 3 then (if σ 21 0 = 0 then 0 else σ 18 k, su σ 0 0 0, τ) else if what = 4 then (σ 22 0, su σ 0 0 0, τ) else if what = 5 then (σ 26 0, su σ 0 0 0, τ) else (-13, su σ 0 0 0, τ)
def oBroken (σ : MS) (τ : Nat → Int64) (r : Int32) : Int32 × MU := if ¬ (1 ≤ r ∧ r ≤ 25) then (-13, su σ 0 0 0, τ) else (σ 27 r.toNatClampNeg, su σ 0 0 0, τ)
def oArg (σ : MS) (τ : Nat → Int64) (n w : Nat) (kind d : Int32) : Int32 × MU :=
  if noK n kind then (-11, su σ 0 0 0, τ) else if kind < 1 ∨ ¬ (0 ≤ d ∧ d ≤ 3) ∨ (kind = 9 ∧ ¬ d ≤ 0) then (-13, su σ 0 0 0, τ) else if w = 5 then (-15, su σ 0 0 0, τ)
  else (nI (w + 1), su (su (su (su σ 0 0 0) 23 w kind) 24 w d) 22 0 (nI (w + 1)), τ)
def oPar (σ : MS) (τ : Nat → Int64) (n k : Nat) (kind d v : Int32) : Int32 × MU :=
  if σ 21 0 = 0 then (-14, su σ 0 0 0, τ) else if noK n kind then (-11, su σ 0 0 0, τ)
  else if kind < 0 ∨ kind = 9 ∨ ¬ (0 ≤ d ∧ d ≤ 3) ∨ (kind = 0 ∧ ¬ d ≤ 0) then (-13, su σ 0 0 0, τ)
  else if mnE σ k = 5 then (-15, su σ 0 0 0, τ)
  else if kind = 0 then ((-40) - nI 18, brS (su σ 0 0 0) 18, τ) else if ¬ σ 17 k = 0 then ((-40) - nI 19, brS (su σ 0 0 0) 19, τ)
  else if ¬ v = 0 ∧ d = 0 then ((-40) - nI 20, brS (su σ 0 0 0) 20, τ)
  else (nI (mnE σ k + 1), su (su (su (su (su σ 0 0 0) 19 (5 * k + mnE σ k) kind) 20 (5 * k + mnE σ k) d) 17 k v) 18 k (nI (mnE σ k + 1)), τ)
def oValue (σ : MS) (τ : Nat → Int64) (k : Nat) (e : Int32) : Int64 × MU :=
  if ¬ okN k e then (0, su σ 0 0 2, τ) else if ¬ σ 8 e.toNatClampNeg = 0 then (0, su σ 0 0 1, τ) else if ¬ σ 14 e.toNatClampNeg = 0 then (τ e.toNatClampNeg, su σ 0 0 0, τ) else (0, su σ 0 0 0, τ)
def oParOf (σ : MS) (τ : Nat → Int64) (k : Nat) (e i dm : Int32) : Int32 × MU :=
  if ¬ okN k e then (0, su σ 0 0 2, τ) else if σ 8 e.toNatClampNeg = 0 then (0, su σ 0 0 1, τ) else if ¬ okN (mnE σ e.toNatClampNeg) i then (0, su σ 0 0 2, τ)
  else if dm = 0 then (σ 19 (5 * e.toNatClampNeg + i.toNatClampNeg), su σ 0 0 0, τ) else (σ 20 (5 * e.toNatClampNeg + i.toNatClampNeg), su σ 0 0 0, τ)
def lkG (σ : MS) (t k : Nat) (i : Int32) : Nat → Nat → Int32 → Int32
  | 0, _, _ => -1
  | f + 1, e, lf => if i < 0 then -1 else if ¬ σ 2 t = 0 ∧ ¬ σ 2 t = 2 then -1 else if lkN σ t e k then (if lf = 0 then nI e else lkG σ t k i f (e + 1) (lf + (-1))) else lkG σ t k i f (e + 1) lf
theorem lkG_u {σ : MS} {t k e : Nat} {i lf : Int32} (h : e < k) : lkG σ t k i (k - e) e lf = if i < 0 then -1 else if ¬ σ 2 t = 0 ∧ ¬ σ 2 t = 2 then -1 else if lkN σ t e k then (if lf = 0 then nI e else lkG σ t k i (k - (e + 1)) (e + 1) (lf + (-1))) else lkG σ t k i (k - (e + 1)) (e + 1) lf := by
  obtain ⟨z, hz⟩ : ∃ z, k - e = z + 1 := ⟨k - e - 1, by omega⟩
  rw [hz, show k - (e + 1) = z by omega]; rfl
def oLacks (σ : MS) (τ : Nat → Int64) (n k : Nat) (t i : Int32) : Int32 × MU :=
  if ¬ okN n t then (-11, su σ 0 0 0, τ) else (lkG σ t.toNatClampNeg k i k 0 i, su σ 0 0 0, τ)
theorem iN_ex {r : Int32} (h : 1 ≤ r ∧ r ≤ 25) : ∃ j : Nat, j < 26 ∧ r = nI j := by
  have h1 := h.1; have h2 := h.2
  obtain ⟨j, hj, e⟩ := nI_of (x := r) (fun hq => by simp only [i_lt, i_le, Int32.reduceToInt] at h1 hq; omega)
  subst e
  refine ⟨j, ?_, rfl⟩
  have h3 := (nI_leI (a := j) (b := 25) hj (by decide)).mp h2
  omega
def oFace (σ : MS) (τ : Nat → Int64) (n k : Nat) (t f : Int32) : Int32 × MU :=
  if ¬ okN n t ∨ ¬ okN n f ∨ ¬ σ 2 f.toNatClampNeg = 3 then (-11, su σ 0 0 0, τ)
  else if ¬ f.toNatClampNeg < t.toNatClampNeg then (-13, su σ 0 0 0, τ)
  else if (∃ i, i < (σ 5 t.toNatClampNeg).toNatClampNeg ∧ σ 4 (3 * t.toNatClampNeg + i) = f) ∨ 0 < k ∨ ¬ σ 21 0 = 0 then (-14, su σ 0 0 0, τ)
  else if (σ 5 t.toNatClampNeg).toNatClampNeg = 3 then (-15, su σ 0 0 0, τ)
  else (nI ((σ 5 t.toNatClampNeg).toNatClampNeg + 1), st (su (su (su σ 0 0 0) 4 (3 * t.toNatClampNeg + (σ 5 t.toNatClampNeg).toNatClampNeg) f) 5 t.toNatClampNeg (nI ((σ 5 t.toNatClampNeg).toNatClampNeg + 1))) 6
    (reF (σ 6) (σ 3) (upd (σ 5) t.toNatClampNeg (nI ((σ 5 t.toNatClampNeg).toNatClampNeg + 1))) (upd (σ 4) (3 * t.toNatClampNeg + (σ 5 t.toNatClampNeg).toNatClampNeg) f) t.toNatClampNeg (n - t.toNatClampNeg)), τ)
abbrev twP (σ : MS) (e b : Nat) : Prop := ¬ σ 8 b = 0 ∧ σ 9 b = σ 9 e ∧ σ 10 b = σ 10 e ∧ sameP σ b e
/-- the first rule that one of those that are met brings -/
def rmF (σ : MS) (e : Nat) : Nat → Nat → Int32
  | 0, _ => 0
  | f + 1, b => if ¬ (if meetP σ e b then aRA σ e b else 0) ≤ 0 then (if meetP σ e b then aRA σ e b else 0) else rmF σ e f (b + 1)
theorem rmF_u {σ : MS} {e b k : Nat} (h : b < k) : rmF σ e (k - b) b = if ¬ (if meetP σ e b then aRA σ e b else 0) ≤ 0 then (if meetP σ e b then aRA σ e b else 0) else rmF σ e (k - (b + 1)) (b + 1) := by
  obtain ⟨z, hz⟩ : ∃ z, k - b = z + 1 := ⟨k - b - 1, by omega⟩
  rw [hz, show k - (b + 1) = z by omega]; rfl
def oEnd (σ : MS) (τ : Nat → Int64) (k : Nat) : Int32 × MU :=
  if σ 21 0 = 0 then (-14, su σ 0 0 0, τ)
  else if ∃ b, b < k ∧ twP σ k b then ((-40) - nI 21, brS (su (su σ 0 0 0) 21 0 0) 21, τ)
  else if ¬ rmF σ k k 0 ≤ 0 then ((-40) - nI (rmF σ k k 0).toNatClampNeg, brS (su (su σ 0 0 0) 21 0 0) (rmF σ k k 0).toNatClampNeg, τ)
  else (nI k, su (su (su (su (su σ 0 0 0) 21 0 0) 28 k (fnd (fun b => meetP σ k b) k 0)) 8 k 1) 7 0 (nI (k + 1)), τ)

theorem dX8_breaks_0 : decode cX8_breaks 0 = .ok (.aload_n 0, 1) := by decide +kernel
theorem q_706 : Cond.fieldLink "FieldMemberModel" 72 "FieldMemberModel" "broken" "[I" ∈ TT := tt_t (i := 706) (by decide +kernel) (by decide +kernel)
theorem dX8_breaks_1 : decode cX8_breaks 1 = .ok (.getfield 72, 3) := by decide +kernel
theorem dX8_breaks_4 : decode cX8_breaks 4 = .ok (.iload_n 1, 1) := by decide +kernel
theorem dX8_breaks_5 : decode cX8_breaks 5 = .ok (.dup2, 1) := by decide +kernel
theorem dX8_breaks_6 : decode cX8_breaks 6 = .ok (.iaload, 1) := by decide +kernel
theorem dX8_breaks_7 : decode cX8_breaks 7 = .ok (.iconst 1, 1) := by decide +kernel
theorem dX8_breaks_8 : decode cX8_breaks 8 = .ok (.iadd, 1) := by decide +kernel
theorem dX8_breaks_9 : decode cX8_breaks 9 = .ok (.iastore, 1) := by decide +kernel
theorem dX8_breaks_10 : decode cX8_breaks 10 = .ok (.aload_n 0, 1) := by decide +kernel
theorem dX8_breaks_11 : decode cX8_breaks 11 = .ok (.dup, 1) := by decide +kernel
theorem q_705 : Cond.fieldLink "FieldMemberModel" 101 "FieldMemberModel" "rulesBroken" "I" ∈ TT := tt_t (i := 705) (by decide +kernel) (by decide +kernel)
theorem dX8_breaks_12 : decode cX8_breaks 12 = .ok (.getfield 101, 3) := by decide +kernel
theorem dX8_breaks_15 : decode cX8_breaks 15 = .ok (.iconst 1, 1) := by decide +kernel
theorem dX8_breaks_16 : decode cX8_breaks 16 = .ok (.iadd, 1) := by decide +kernel
theorem dX8_breaks_17 : decode cX8_breaks 17 = .ok (.putfield 101, 3) := by decide +kernel
theorem dX8_breaks_20 : decode cX8_breaks 20 = .ok (.bipush (-40), 2) := by decide +kernel
theorem dX8_breaks_22 : decode cX8_breaks 22 = .ok (.iload_n 1, 1) := by decide +kernel
theorem dX8_breaks_23 : decode cX8_breaks 23 = .ok (.isub, 1) := by decide +kernel
theorem dX8_breaks_24 : decode cX8_breaks 24 = .ok (.ireturn, 1) := by decide +kernel
theorem dX8_adds_0 : decode cX8_adds 0 = .ok (.iconst 0, 1) := by decide +kernel
theorem dX8_adds_1 : decode cX8_adds 1 = .ok (.istore_n 3, 1) := by decide +kernel
theorem dX8_adds_2 : decode cX8_adds 2 = .ok (.iload_n 3, 1) := by decide +kernel
theorem dX8_adds_3 : decode cX8_adds 3 = .ok (.bipush 12, 2) := by decide +kernel
theorem dX8_adds_5 : decode cX8_adds 5 = .ok (.if_icmp .ge 34, 3) := by decide +kernel
theorem dX8_adds_39 : decode cX8_adds 39 = .ok (.return_, 1) := by decide +kernel
theorem dX8_adds_8 : decode cX8_adds 8 = .ok (.aload_n 0, 1) := by decide +kernel
theorem dX8_adds_9 : decode cX8_adds 9 = .ok (.getfield 22, 3) := by decide +kernel
theorem dX8_adds_12 : decode cX8_adds 12 = .ok (.bipush 12, 2) := by decide +kernel
theorem dX8_adds_14 : decode cX8_adds 14 = .ok (.iload_n 1, 1) := by decide +kernel
theorem dX8_adds_15 : decode cX8_adds 15 = .ok (.imul, 1) := by decide +kernel
theorem dX8_adds_16 : decode cX8_adds 16 = .ok (.iload_n 3, 1) := by decide +kernel
theorem dX8_adds_17 : decode cX8_adds 17 = .ok (.iadd, 1) := by decide +kernel
theorem dX8_adds_18 : decode cX8_adds 18 = .ok (.dup2, 1) := by decide +kernel
theorem dX8_adds_19 : decode cX8_adds 19 = .ok (.baload, 1) := by decide +kernel
theorem dX8_adds_20 : decode cX8_adds 20 = .ok (.aload_n 0, 1) := by decide +kernel
theorem dX8_adds_21 : decode cX8_adds 21 = .ok (.getfield 22, 3) := by decide +kernel
theorem dX8_adds_24 : decode cX8_adds 24 = .ok (.bipush 12, 2) := by decide +kernel
theorem dX8_adds_26 : decode cX8_adds 26 = .ok (.iload_n 2, 1) := by decide +kernel
theorem dX8_adds_27 : decode cX8_adds 27 = .ok (.imul, 1) := by decide +kernel
theorem dX8_adds_28 : decode cX8_adds 28 = .ok (.iload_n 3, 1) := by decide +kernel
theorem dX8_adds_29 : decode cX8_adds 29 = .ok (.iadd, 1) := by decide +kernel
theorem dX8_adds_30 : decode cX8_adds 30 = .ok (.baload, 1) := by decide +kernel
theorem dX8_adds_31 : decode cX8_adds 31 = .ok (.ior, 1) := by decide +kernel
theorem dX8_adds_32 : decode cX8_adds 32 = .ok (.bastore, 1) := by decide +kernel
theorem dX8_adds_33 : decode cX8_adds 33 = .ok (.iinc 3 1, 3) := by decide +kernel
theorem dX8_adds_36 : decode cX8_adds 36 = .ok (.goto (-34), 3) := by decide +kernel
theorem dX8_reckons_0 : decode cX8_reckons 0 = .ok (.iconst 0, 1) := by decide +kernel
theorem dX8_reckons_1 : decode cX8_reckons 1 = .ok (.istore_n 2, 1) := by decide +kernel
theorem dX8_reckons_2 : decode cX8_reckons 2 = .ok (.iload_n 2, 1) := by decide +kernel
theorem dX8_reckons_3 : decode cX8_reckons 3 = .ok (.bipush 12, 2) := by decide +kernel
theorem dX8_reckons_5 : decode cX8_reckons 5 = .ok (.if_icmp .ge 30, 3) := by decide +kernel
theorem dX8_reckons_35 : decode cX8_reckons 35 = .ok (.aload_n 0, 1) := by decide +kernel
theorem q_682 : Cond.fieldLink "FieldMemberModel" 13 "FieldMemberModel" "parents" "[I" ∈ TT := tt_t (i := 682) (by decide +kernel) (by decide +kernel)
theorem dX8_reckons_36 : decode cX8_reckons 36 = .ok (.getfield 13, 3) := by decide +kernel
theorem dX8_reckons_39 : decode cX8_reckons 39 = .ok (.iload_n 1, 1) := by decide +kernel
theorem dX8_reckons_40 : decode cX8_reckons 40 = .ok (.iaload, 1) := by decide +kernel
theorem dX8_reckons_41 : decode cX8_reckons 41 = .ok (.iconst (-1), 1) := by decide +kernel
theorem dX8_reckons_42 : decode cX8_reckons 42 = .ok (.if_icmp .eq 14, 3) := by decide +kernel
theorem dX8_reckons_56 : decode cX8_reckons 56 = .ok (.iconst 0, 1) := by decide +kernel
theorem dX8_reckons_57 : decode cX8_reckons 57 = .ok (.istore_n 2, 1) := by decide +kernel
theorem dX8_reckons_58 : decode cX8_reckons 58 = .ok (.iload_n 2, 1) := by decide +kernel
theorem dX8_reckons_59 : decode cX8_reckons 59 = .ok (.aload_n 0, 1) := by decide +kernel
theorem q_684 : Cond.fieldLink "FieldMemberModel" 19 "FieldMemberModel" "faceCount" "[I" ∈ TT := tt_t (i := 684) (by decide +kernel) (by decide +kernel)
theorem dX8_reckons_60 : decode cX8_reckons 60 = .ok (.getfield 19, 3) := by decide +kernel
theorem dX8_reckons_63 : decode cX8_reckons 63 = .ok (.iload_n 1, 1) := by decide +kernel
theorem dX8_reckons_64 : decode cX8_reckons 64 = .ok (.iaload, 1) := by decide +kernel
theorem dX8_reckons_65 : decode cX8_reckons 65 = .ok (.if_icmp .ge 24, 3) := by decide +kernel
theorem dX8_reckons_89 : decode cX8_reckons 89 = .ok (.return_, 1) := by decide +kernel
theorem dX8_reckons_68 : decode cX8_reckons 68 = .ok (.aload_n 0, 1) := by decide +kernel
theorem dX8_reckons_69 : decode cX8_reckons 69 = .ok (.iload_n 1, 1) := by decide +kernel
theorem dX8_reckons_70 : decode cX8_reckons 70 = .ok (.aload_n 0, 1) := by decide +kernel
theorem q_683 : Cond.fieldLink "FieldMemberModel" 16 "FieldMemberModel" "faces" "[I" ∈ TT := tt_t (i := 683) (by decide +kernel) (by decide +kernel)
theorem dX8_reckons_71 : decode cX8_reckons 71 = .ok (.getfield 16, 3) := by decide +kernel
theorem dX8_reckons_74 : decode cX8_reckons 74 = .ok (.iconst 3, 1) := by decide +kernel
theorem dX8_reckons_75 : decode cX8_reckons 75 = .ok (.iload_n 1, 1) := by decide +kernel
theorem dX8_reckons_76 : decode cX8_reckons 76 = .ok (.imul, 1) := by decide +kernel
theorem dX8_reckons_77 : decode cX8_reckons 77 = .ok (.iload_n 2, 1) := by decide +kernel
theorem dX8_reckons_78 : decode cX8_reckons 78 = .ok (.iadd, 1) := by decide +kernel
theorem dX8_reckons_79 : decode cX8_reckons 79 = .ok (.iaload, 1) := by decide +kernel
theorem q_799 : Cond.methodLink "FieldMemberModel" 112 ⟨"FieldMemberModel", "adds", "(II)V"⟩ ∈ TT := tt_t (i := 799) (by decide +kernel) (by decide +kernel)
theorem q_802 : Cond.code ⟨"FieldMemberModel", "adds", "(II)V"⟩ prog_10_method_10_code 4 none ∈ TT := tt_t (i := 802) (by decide +kernel) (by decide +kernel)
theorem q_801 : Cond.instanceMethod ⟨"FieldMemberModel", "adds", "(II)V"⟩ ∈ TT := tt_t (i := 801) (by decide +kernel) (by decide +kernel)
theorem qs_33 : Cond.selects "FieldMemberModel" ⟨"FieldMemberModel", "adds", "(II)V"⟩ ⟨"FieldMemberModel", "adds", "(II)V"⟩ ∈ TT := tt_s (i := 33) (by decide +kernel) (by decide +kernel)
theorem gV_X8_X8_adds : GoodIn TT (wsV RX8 112 RX8 yX8_adds (ww yX8_adds cX8_adds 4 none)) := tt_V q_799 q_801 qs_33 q_4 q_802
theorem hdV_X8_adds : yX8_adds.cls = RX8 ∧ yX8_adds.cls ≠ "java/lang/invoke/MethodHandle" ∧ yX8_adds.cls ≠ "java/lang/invoke/VarHandle" ∧ (parseMethodDescriptor yX8_adds.desc).map (fun d => d.parameters.length) = some 2 := by decide +kernel
theorem dX8_reckons_80 : decode cX8_reckons 80 = .ok (.invokevirtual 112, 3) := by decide +kernel
theorem dX8_reckons_83 : decode cX8_reckons 83 = .ok (.iinc 2 1, 3) := by decide +kernel
theorem dX8_reckons_86 : decode cX8_reckons 86 = .ok (.goto (-28), 3) := by decide +kernel
theorem dX8_reckons_45 : decode cX8_reckons 45 = .ok (.aload_n 0, 1) := by decide +kernel
theorem dX8_reckons_46 : decode cX8_reckons 46 = .ok (.iload_n 1, 1) := by decide +kernel
theorem dX8_reckons_47 : decode cX8_reckons 47 = .ok (.aload_n 0, 1) := by decide +kernel
theorem dX8_reckons_48 : decode cX8_reckons 48 = .ok (.getfield 13, 3) := by decide +kernel
theorem dX8_reckons_51 : decode cX8_reckons 51 = .ok (.iload_n 1, 1) := by decide +kernel
theorem dX8_reckons_52 : decode cX8_reckons 52 = .ok (.iaload, 1) := by decide +kernel
theorem dX8_reckons_53 : decode cX8_reckons 53 = .ok (.invokevirtual 112, 3) := by decide +kernel
theorem dX8_reckons_8 : decode cX8_reckons 8 = .ok (.aload_n 0, 1) := by decide +kernel
theorem dX8_reckons_9 : decode cX8_reckons 9 = .ok (.getfield 22, 3) := by decide +kernel
theorem dX8_reckons_12 : decode cX8_reckons 12 = .ok (.bipush 12, 2) := by decide +kernel
theorem dX8_reckons_14 : decode cX8_reckons 14 = .ok (.iload_n 1, 1) := by decide +kernel
theorem dX8_reckons_15 : decode cX8_reckons 15 = .ok (.imul, 1) := by decide +kernel
theorem dX8_reckons_16 : decode cX8_reckons 16 = .ok (.iload_n 2, 1) := by decide +kernel
theorem dX8_reckons_17 : decode cX8_reckons 17 = .ok (.iadd, 1) := by decide +kernel
theorem dX8_reckons_28 : decode cX8_reckons 28 = .ok (.bastore, 1) := by decide +kernel
theorem dX8_reckons_29 : decode cX8_reckons 29 = .ok (.iinc 2 1, 3) := by decide +kernel
theorem dX8_reckons_32 : decode cX8_reckons 32 = .ok (.goto (-30), 3) := by decide +kernel
theorem dX8_reckons_18 : decode cX8_reckons 18 = .ok (.iload_n 2, 1) := by decide +kernel
theorem dX8_reckons_19 : decode cX8_reckons 19 = .ok (.iload_n 1, 1) := by decide +kernel
theorem dX8_reckons_20 : decode cX8_reckons 20 = .ok (.if_icmp .ne 7, 3) := by decide +kernel
theorem dX8_reckons_27 : decode cX8_reckons 27 = .ok (.iconst 0, 1) := by decide +kernel
theorem dX8_reckons_23 : decode cX8_reckons 23 = .ok (.iconst 1, 1) := by decide +kernel
theorem dX8_reckons_24 : decode cX8_reckons 24 = .ok (.goto 4, 3) := by decide +kernel
theorem dX8_type_0 : decode cX8_type 0 = .ok (.aload_n 0, 1) := by decide +kernel
theorem dX8_type_1 : decode cX8_type 1 = .ok (.iconst 0, 1) := by decide +kernel
theorem dX8_type_2 : decode cX8_type 2 = .ok (.putfield 90, 3) := by decide +kernel
theorem dX8_type_5 : decode cX8_type 5 = .ok (.iload_n 1, 1) := by decide +kernel
theorem dX8_type_6 : decode cX8_type 6 = .ok (.iconst 0, 1) := by decide +kernel
theorem dX8_type_7 : decode cX8_type 7 = .ok (.iconst 3, 1) := by decide +kernel
theorem dX8_type_8 : decode cX8_type 8 = .ok (.invokestatic 97, 3) := by decide +kernel
theorem dX8_type_11 : decode cX8_type 11 = .ok (.ifCond .ne 6, 3) := by decide +kernel
theorem dX8_type_17 : decode cX8_type 17 = .ok (.iload_n 2, 1) := by decide +kernel
theorem dX8_type_18 : decode cX8_type 18 = .ok (.iconst (-1), 1) := by decide +kernel
theorem dX8_type_19 : decode cX8_type 19 = .ok (.if_icmp .eq 29, 3) := by decide +kernel
theorem dX8_type_48 : decode cX8_type 48 = .ok (.aload_n 0, 1) := by decide +kernel
theorem dX8_type_49 : decode cX8_type 49 = .ok (.getfield 94, 3) := by decide +kernel
theorem dX8_type_52 : decode cX8_type 52 = .ok (.bipush 12, 2) := by decide +kernel
theorem dX8_type_54 : decode cX8_type 54 = .ok (.if_icmp .ne 6, 3) := by decide +kernel
theorem dX8_type_60 : decode cX8_type 60 = .ok (.aload_n 0, 1) := by decide +kernel
theorem dX8_type_61 : decode cX8_type 61 = .ok (.getfield 7, 3) := by decide +kernel
theorem dX8_type_64 : decode cX8_type 64 = .ok (.aload_n 0, 1) := by decide +kernel
theorem dX8_type_65 : decode cX8_type 65 = .ok (.getfield 94, 3) := by decide +kernel
theorem dX8_type_68 : decode cX8_type 68 = .ok (.iload_n 1, 1) := by decide +kernel
theorem dX8_type_69 : decode cX8_type 69 = .ok (.iastore, 1) := by decide +kernel
theorem dX8_type_70 : decode cX8_type 70 = .ok (.aload_n 0, 1) := by decide +kernel
theorem dX8_type_71 : decode cX8_type 71 = .ok (.getfield 13, 3) := by decide +kernel
theorem dX8_type_74 : decode cX8_type 74 = .ok (.aload_n 0, 1) := by decide +kernel
theorem dX8_type_75 : decode cX8_type 75 = .ok (.getfield 94, 3) := by decide +kernel
theorem dX8_type_78 : decode cX8_type 78 = .ok (.iload_n 2, 1) := by decide +kernel
theorem dX8_type_79 : decode cX8_type 79 = .ok (.iastore, 1) := by decide +kernel
theorem dX8_type_80 : decode cX8_type 80 = .ok (.aload_n 0, 1) := by decide +kernel
theorem dX8_type_81 : decode cX8_type 81 = .ok (.getfield 19, 3) := by decide +kernel
theorem dX8_type_84 : decode cX8_type 84 = .ok (.aload_n 0, 1) := by decide +kernel
theorem dX8_type_85 : decode cX8_type 85 = .ok (.getfield 94, 3) := by decide +kernel
theorem dX8_type_88 : decode cX8_type 88 = .ok (.iconst 0, 1) := by decide +kernel
theorem dX8_type_89 : decode cX8_type 89 = .ok (.iastore, 1) := by decide +kernel
theorem dX8_type_90 : decode cX8_type 90 = .ok (.aload_n 0, 1) := by decide +kernel
theorem dX8_type_91 : decode cX8_type 91 = .ok (.dup, 1) := by decide +kernel
theorem dX8_type_92 : decode cX8_type 92 = .ok (.getfield 94, 3) := by decide +kernel
theorem dX8_type_95 : decode cX8_type 95 = .ok (.iconst 1, 1) := by decide +kernel
theorem dX8_type_96 : decode cX8_type 96 = .ok (.iadd, 1) := by decide +kernel
theorem dX8_type_97 : decode cX8_type 97 = .ok (.putfield 94, 3) := by decide +kernel
theorem dX8_type_100 : decode cX8_type 100 = .ok (.aload_n 0, 1) := by decide +kernel
theorem dX8_type_101 : decode cX8_type 101 = .ok (.aload_n 0, 1) := by decide +kernel
theorem dX8_type_102 : decode cX8_type 102 = .ok (.getfield 94, 3) := by decide +kernel
theorem dX8_type_105 : decode cX8_type 105 = .ok (.iconst 1, 1) := by decide +kernel
theorem dX8_type_106 : decode cX8_type 106 = .ok (.isub, 1) := by decide +kernel
theorem q_795 : Cond.methodLink "FieldMemberModel" 108 ⟨"FieldMemberModel", "reckons", "(I)V"⟩ ∈ TT := tt_t (i := 795) (by decide +kernel) (by decide +kernel)
theorem q_798 : Cond.code ⟨"FieldMemberModel", "reckons", "(I)V"⟩ prog_10_method_9_code 3 none ∈ TT := tt_t (i := 798) (by decide +kernel) (by decide +kernel)
theorem q_797 : Cond.instanceMethod ⟨"FieldMemberModel", "reckons", "(I)V"⟩ ∈ TT := tt_t (i := 797) (by decide +kernel) (by decide +kernel)
theorem qs_32 : Cond.selects "FieldMemberModel" ⟨"FieldMemberModel", "reckons", "(I)V"⟩ ⟨"FieldMemberModel", "reckons", "(I)V"⟩ ∈ TT := tt_s (i := 32) (by decide +kernel) (by decide +kernel)
theorem gV_X8_X8_reckons : GoodIn TT (wsV RX8 108 RX8 yX8_reckons (ww yX8_reckons cX8_reckons 3 none)) := tt_V q_795 q_797 qs_32 q_4 q_798
theorem hdV_X8_reckons : yX8_reckons.cls = RX8 ∧ yX8_reckons.cls ≠ "java/lang/invoke/MethodHandle" ∧ yX8_reckons.cls ≠ "java/lang/invoke/VarHandle" ∧ (parseMethodDescriptor yX8_reckons.desc).map (fun d => d.parameters.length) = some 1 := by decide +kernel
theorem dX8_type_107 : decode cX8_type 107 = .ok (.invokevirtual 108, 3) := by decide +kernel
theorem dX8_type_110 : decode cX8_type 110 = .ok (.aload_n 0, 1) := by decide +kernel
theorem dX8_type_111 : decode cX8_type 111 = .ok (.getfield 94, 3) := by decide +kernel
theorem dX8_type_114 : decode cX8_type 114 = .ok (.iconst 1, 1) := by decide +kernel
theorem dX8_type_115 : decode cX8_type 115 = .ok (.isub, 1) := by decide +kernel
theorem dX8_type_116 : decode cX8_type 116 = .ok (.ireturn, 1) := by decide +kernel
theorem dX8_type_57 : decode cX8_type 57 = .ok (.bipush (-15), 2) := by decide +kernel
theorem dX8_type_59 : decode cX8_type 59 = .ok (.ireturn, 1) := by decide +kernel
theorem dX8_type_22 : decode cX8_type 22 = .ok (.iload_n 1, 1) := by decide +kernel
theorem dX8_type_23 : decode cX8_type 23 = .ok (.iconst 3, 1) := by decide +kernel
theorem dX8_type_24 : decode cX8_type 24 = .ok (.if_icmp .eq 21, 3) := by decide +kernel
theorem dX8_type_45 : decode cX8_type 45 = .ok (.bipush (-11), 2) := by decide +kernel
theorem dX8_type_47 : decode cX8_type 47 = .ok (.ireturn, 1) := by decide +kernel
theorem dX8_type_27 : decode cX8_type 27 = .ok (.aload_n 0, 1) := by decide +kernel
theorem dX8_type_28 : decode cX8_type 28 = .ok (.iload_n 2, 1) := by decide +kernel
theorem dX8_type_29 : decode cX8_type 29 = .ok (.invokevirtual 104, 3) := by decide +kernel
theorem dX8_type_32 : decode cX8_type 32 = .ok (.ifCond .eq 13, 3) := by decide +kernel
theorem dX8_type_35 : decode cX8_type 35 = .ok (.aload_n 0, 1) := by decide +kernel
theorem dX8_type_36 : decode cX8_type 36 = .ok (.getfield 7, 3) := by decide +kernel
theorem dX8_type_39 : decode cX8_type 39 = .ok (.iload_n 2, 1) := by decide +kernel
theorem dX8_type_40 : decode cX8_type 40 = .ok (.iaload, 1) := by decide +kernel
theorem dX8_type_41 : decode cX8_type 41 = .ok (.iconst 1, 1) := by decide +kernel
theorem dX8_type_42 : decode cX8_type 42 = .ok (.if_icmp .le 6, 3) := by decide +kernel
theorem dX8_type_14 : decode cX8_type 14 = .ok (.bipush (-13), 2) := by decide +kernel
theorem dX8_type_16 : decode cX8_type 16 = .ok (.ireturn, 1) := by decide +kernel
set_option maxHeartbeats 4000000 in
set_option maxRecDepth 100000 in
theorem m_breaks (l : Launch) (D : va_G) (G : Nat → ClassId) (mo : Nat) (ad : Nat → Nat) (σ : MS) (τ : Nat → Int64) (sz : Nat) (r : Nat) (hr9 : r < 26) : Met l yX8_breaks (ww yX8_breaks cX8_breaks 2 (some .int)) (rmD 0) (muP D G sz mo ad (σ, τ) [.ref mo, .int (nI r)]) (muQi D G mo ad (muA G mo ad (σ, τ) sz) (((-40) - nI r, (brS σ r, τ))).1 (((-40) - nI r, (brS σ r, τ))).2) 0 0 (muA G mo ad (σ, τ) sz) := by
  refine Met.ofW (cc := cX8_breaks) (maxL := 2) (ret := (some .int)) (by decide) rfl ?_
  intro p e s m args below meth c s₁ B hml hv
  obtain ⟨rfl, hsz, hP, hK, hD0⟩ := hv
  have hx := B.exec
  have hb := B.bytes
  have hr := B.returns
  have hts : ∀ w ∈ TT, w.before _ s = true := fun w h => atoms_spec (ws := ww yX8_breaks cX8_breaks 2 (some .int)) B.pre w (List.mem_cons_of_mem _ h)
  have hown : s.vm.findClass RX8 = some m.cls := findClass_of_methodNamed B.named
  have hlocks := B.notSynchronized
  subst hsz
  have hD : va_D (muA G mo ad (σ, τ) s.heap.size) (mW G mo ad σ τ) := hD0.self
  generalize hAe : muA G mo ad (σ, τ) s.heap.size = A at hD ⊢
  have hA : ∀ q : Nat, s.heap.size ≤ q → A q := fun q h => by rw [← hAe]; exact Or.inr h
  have hS : va_S A s.heap s.heap [] := va_S.rf
  have hP : va_P D vwCl (mW G mo ad σ τ) s.heap := hP
  have hl := lv_entry ([.ref mo, .int (nI r)]) (n := 2) (Nat.le_of_ble_eq_true rfl)
  rw [lg_entry_eq]
  generalize (lg_sl ([.ref mo, .int (nI r)]) ++ List.replicate (2 - (lg_sl ([.ref mo, .int (nI r)])).length) Slot.unset).toArray = ls at hl ⊢
  have hl : lv_has ls 2 [(0, .ref mo), (1, .int (nI r))] := hl
  refine lv_aload_n hx hb dX8_breaks_0 rfl (lv_at hl 0 rfl) ?_
  refine va_get (D := D) (ci := 8) (v := .ref ((ad 27))) (C := RX8) (T := TX8) (N := 33) hx hb hts iX8 hown hK.1 hP 0 rfl rfl 27 (by decide) (hts _ q_706) (fun _ h9 => h9) rfl dX8_breaks_1 ?_
  refine lv_iload_n hx hb dX8_breaks_4 rfl (lv_at hl 1 rfl) ?_
  refine lv_dup2_11 hx hb dX8_breaks_5 rfl rfl ?_
  refine iald_n (f := σ 27) hx hb hK.1 hP 21 0 rfl rfl (r) rfl (by omega) (by decide) dX8_breaks_6 ?_
  refine lv_iconst (v := 1) hx hb dX8_breaks_7 (by decide) ?_
  refine lv_iadd hx hb dX8_breaks_8 ?_
  refine iast_n hx hb hK.1 hP hD hS 21 0 rfl rfl (r) rfl (by omega) (by decide) dX8_breaks_9 (fun H locs hP hD hS => ?_)
  have hP : va_P D vwCl (mW G mo ad (su σ 27 (r) ((σ 27 r) + 1)) (τ)) H := hP
  have hD : va_D A (mW G mo ad (su σ 27 (r) ((σ 27 r) + 1)) (τ)) := hD
  refine lv_aload_n hx hb dX8_breaks_10 rfl (lv_at hl 0 rfl) ?_
  refine lv_dup hx hb dX8_breaks_11 rfl ?_
  refine va_get (D := D) (ci := 8) (v := .int (σ 26 0)) (C := RX8) (T := TX8) (N := 33) hx hb hts iX8 hown hK.1 hP 0 rfl rfl 26 (by decide) (hts _ q_705) (fun _ h9 => h9) rfl dX8_breaks_12 ?_
  refine lv_iconst (v := 1) hx hb dX8_breaks_15 (by decide) ?_
  refine lv_iadd hx hb dX8_breaks_16 ?_
  refine va_put (D := D) (ci := 8) (v := .int ((σ 26 0) + 1)) (ty := .int) (C := RX8) (T := TX8) (N := 33) hx hb hts iX8 tyX8 tyX8_ok nmX8 hown hK.1 hP hD hS 0 rfl rfl 26 (by decide) (hts _ q_705) (fun _ h9 => h9) rfl (by decide +kernel) rfl rfl (Nat.le_of_ble_eq_true rfl) dX8_breaks_17 (fun H locs hP hD hS => ?_)
  have hP : va_P D vwCl (mW G mo ad (su (su σ 27 (r) ((σ 27 r) + 1)) 26 (0) ((σ 26 0) + 1)) (τ)) H := hP
  have hD : va_D A (mW G mo ad (su (su σ 27 (r) ((σ 27 r) + 1)) 26 (0) ((σ 26 0) + 1)) (τ)) := hD
  refine lv_bipush (v := -40) hx hb dX8_breaks_20 (by decide) ?_
  refine lv_iload_n hx hb dX8_breaks_22 rfl (lv_at hl 1 rfl) ?_
  refine lv_isub hx hb dX8_breaks_23 ?_
  have ho : ((-40) - nI r, (brS σ r, τ)) = ((-40) - (nI r), su (su σ 27 (r) ((σ 27 r) + 1)) 26 (0) ((σ 26 0) + 1), τ) := rfl
  exact mu_iret (v0 := (-40) - (nI r)) (z := (su (su σ 27 (r) ((σ 27 r) + 1)) 26 (0) ((σ 26 0) + 1), τ)) hx hb hr hlocks hP hD hS dX8_breaks_24 (by rw [ho]) (by rw [ho])
set_option maxHeartbeats 4000000 in
set_option maxRecDepth 100000 in
theorem m_adds (l : Launch) (D : va_G) (G : Nat → ClassId) (mo : Nat) (ad : Nat → Nat) (σ : MS) (τ : Nat → Int64) (sz : Nat) (t ab : Nat) (ht : t < 12) (hab : ab < 12) (hb6 : b01 (σ 6)) : Met l yX8_adds (ww yX8_adds cX8_adds 4 none) (rmD 0) (muP D G sz mo ad (σ, τ) [.ref mo, .int (nI t), .int (nI ab)]) (muQv D G mo ad (muA G mo ad (σ, τ) sz) ((st σ 6 (addF (σ 6) t ab 12), τ))) 0 0 (muA G mo ad (σ, τ) sz) := by
  refine Met.ofW (cc := cX8_adds) (maxL := 4) (ret := none) (by decide) rfl ?_
  intro p e s m args below meth c s₁ B hml hv
  obtain ⟨rfl, hsz, hP, hK, hD0⟩ := hv
  have hx := B.exec
  have hb := B.bytes
  have hr := B.returns
  have hts : ∀ w ∈ TT, w.before _ s = true := fun w h => atoms_spec (ws := ww yX8_adds cX8_adds 4 none) B.pre w (List.mem_cons_of_mem _ h)
  have hown : s.vm.findClass RX8 = some m.cls := findClass_of_methodNamed B.named
  have hlocks := B.notSynchronized
  subst hsz
  have hD : va_D (muA G mo ad (σ, τ) s.heap.size) (mW G mo ad σ τ) := hD0.self
  generalize hAe : muA G mo ad (σ, τ) s.heap.size = A at hD ⊢
  have hA : ∀ q : Nat, s.heap.size ≤ q → A q := fun q h => by rw [← hAe]; exact Or.inr h
  have hS : va_S A s.heap s.heap [] := va_S.rf
  have hP : va_P D vwCl (mW G mo ad σ τ) s.heap := hP
  have hl := lv_entry ([.ref mo, .int (nI t), .int (nI ab)]) (n := 4) (Nat.le_of_ble_eq_true rfl)
  rw [lg_entry_eq]
  generalize (lg_sl ([.ref mo, .int (nI t), .int (nI ab)]) ++ List.replicate (4 - (lg_sl ([.ref mo, .int (nI t), .int (nI ab)])).length) Slot.unset).toArray = ls at hl ⊢
  have hl : lv_has ls 4 [(0, .ref mo), (1, .int (nI t)), (2, .int (nI ab))] := hl
  refine lv_iconst (v := 0) hx hb dX8_adds_0 (by decide) ?_
  refine lv_istore_n (lv' := [(3, .int 0), (0, .ref mo), (1, .int (nI t)), (2, .int (nI ab))]) hx hb dX8_adds_1 rfl hl (by decide) rfl (fun ls hl => ?_)
  refine w_forM (N := 12) 2 (L := fun q9 ls H locs => lv_has ls 4 [(3, .int (nI q9)), (0, .ref mo), (1, .int (nI t)), (2, .int (nI ab))] ∧ va_P D vwCl (mW G mo ad (st σ 6 (addF (σ 6) t ab q9)) (τ)) H ∧ va_D A (mW G mo ad (st σ 6 (addF (σ 6) t ab q9)) (τ)) ∧ va_S A s.heap H locs) (fun k9 ls H locs hk hL ih2 => ?_) 0 ls _ _ (by omega) ⟨hl, hP, hD, hS⟩
  obtain ⟨hl, hP, hD, hS⟩ := hL
  have hl : lv_has ls 4 [(3, .int (nI k9)), (0, .ref mo), (1, .int (nI t)), (2, .int (nI ab))] := hl
  have hb7 := b01_add hb6 t ab k9
  refine lv_iload_n hx hb dX8_adds_2 rfl (lv_at hl 0 rfl) ?_
  refine lv_bipush (v := 12) hx hb dX8_adds_3 (by decide) ?_
  refine lv_icmp_ge (tgt := 39) hx hb dX8_adds_5 (by decide) (fun c1 => ?_) (fun c1 => ?_)
  · -- 5 taken
    have c1 : 12 ≤ k9 := (nI_leI (a := 12) (b := k9) (by omega) (by omega)).mp (by have h8 := c1; exact h8)
    obtain rfl : 12 = k9 := by omega
    have hP : va_P D vwCl (mW G mo ad (st σ 6 (addF (σ 6) t ab 12)) (τ)) H := hP
    have hD : va_D A (mW G mo ad (st σ 6 (addF (σ 6) t ab 12)) (τ)) := hD
    have ho : (st σ 6 (addF (σ 6) t ab 12), τ) = (st σ 6 (addF (σ 6) t ab 12), τ) := rfl
    exact mu_vret (z := (st σ 6 (addF (σ 6) t ab 12), τ)) hx hb hr hlocks hP hD hS dX8_adds_39 (by rw [ho])
  · -- 5 not
    have c1 : ¬ 12 ≤ k9 := fun h9 => c1 (by exact (nI_leI (a := 12) (b := k9) (by omega) (by omega)).mpr h9)
    refine lv_aload_n hx hb dX8_adds_8 rfl (lv_at hl 1 rfl) ?_
    refine va_get (D := D) (ci := 8) (v := .ref ((ad 6))) (C := RX8) (T := TX8) (N := 33) hx hb hts iX8 hown hK.1 hP 0 rfl rfl 6 (by decide) (hts _ q_685) (fun _ h9 => h9) rfl dX8_adds_9 ?_
    refine lv_bipush (v := 12) hx hb dX8_adds_12 (by decide) ?_
    refine lv_iload_n hx hb dX8_adds_14 rfl (lv_at hl 2 rfl) ?_
    refine lv_imul hx hb dX8_adds_15 ?_
    refine lv_iload_n hx hb dX8_adds_16 rfl (lv_at hl 0 rfl) ?_
    refine lv_iadd hx hb dX8_adds_17 ?_
    refine lv_dup2_11 hx hb dX8_adds_18 rfl rfl ?_
    refine zald_n (f := addF (σ 6) t ab k9) hx hb hK.1 hP 5 2 rfl rfl (((12 * t) + k9)) (n_add (a := (12 * t)) (b := k9) (n_mul (a := 12) (b := t) (rfl : (12 : Int32) = nI 12) rfl) rfl) (by omega) (by decide) dX8_adds_19 ?_
    refine lv_aload_n hx hb dX8_adds_20 rfl (lv_at hl 1 rfl) ?_
    refine va_get (D := D) (ci := 8) (v := .ref ((ad 6))) (C := RX8) (T := TX8) (N := 33) hx hb hts iX8 hown hK.1 hP 0 rfl rfl 6 (by decide) (hts _ q_685) (fun _ h9 => h9) rfl dX8_adds_21 ?_
    refine lv_bipush (v := 12) hx hb dX8_adds_24 (by decide) ?_
    refine lv_iload_n hx hb dX8_adds_26 rfl (lv_at hl 3 rfl) ?_
    refine lv_imul hx hb dX8_adds_27 ?_
    refine lv_iload_n hx hb dX8_adds_28 rfl (lv_at hl 0 rfl) ?_
    refine lv_iadd hx hb dX8_adds_29 ?_
    refine zald_n (f := addF (σ 6) t ab k9) hx hb hK.1 hP 5 2 rfl rfl (((12 * ab) + k9)) (n_add (a := (12 * ab)) (b := k9) (n_mul (a := 12) (b := ab) (rfl : (12 : Int32) = nI 12) rfl) rfl) (by omega) (by decide) dX8_adds_30 ?_
    refine lv_ior hx hb dX8_adds_31 ?_
    refine zast_n hx hb hK.1 hP hD hS 5 2 rfl rfl (((12 * t) + k9)) (n_add (a := (12 * t)) (b := k9) (n_mul (a := 12) (b := t) (rfl : (12 : Int32) = nI 12) rfl) rfl) (by omega) (by decide) (b01_or (hb7 _) (hb7 _)) dX8_adds_32 (fun H locs hP hD hS => ?_)
    have hP : va_P D vwCl (mW G mo ad (st σ 6 (upd (addF (σ 6) t ab k9) (((12 * t) + k9)) (((addF (σ 6) t ab k9) (((12 * t) + k9))) ||| ((addF (σ 6) t ab k9) (((12 * ab) + k9)))))) (τ)) H := hP
    have hD : va_D A (mW G mo ad (st σ 6 (upd (addF (σ 6) t ab k9) (((12 * t) + k9)) (((addF (σ 6) t ab k9) (((12 * t) + k9))) ||| ((addF (σ 6) t ab k9) (((12 * ab) + k9)))))) (τ)) := hD
    refine lv_iinc (v := nI (k9 + 1)) (lv' := [(3, .int (nI (k9 + 1))), (0, .ref mo), (1, .int (nI t)), (2, .int (nI ab))]) hx hb dX8_adds_33 hl (k := 0) rfl (nI_1 _) (by decide) rfl (fun ls hl => ?_)
    refine lv_goto (tgt := 2) hx hb dX8_adds_36 (by decide) ?_
    exact ih2 _ _ _ (by omega) ⟨lv_sub hl [0, 1, 2, 3] rfl, hP, hD, hS⟩
set_option maxHeartbeats 4000000 in
set_option maxRecDepth 100000 in
theorem m_reckons (l : Launch) (D : va_G) (G : Nat → ClassId) (mo : Nat) (ad : Nat → Nat) (σ : MS) (τ : Nat → Int64) (sz : Nat) (t : Nat) (ht : t < 12) (hpa : okPa σ t) (hfa : okFa σ t) (hb6 : b01 (σ 6)) : Met l yX8_reckons (ww yX8_reckons cX8_reckons 3 none) (rmD 1) (muP D G sz mo ad (σ, τ) [.ref mo, .int (nI t)]) (muQv D G mo ad (muA G mo ad (σ, τ) sz) ((st σ 6 (recF (σ 6) (σ 3) (σ 5) (σ 4) t), τ))) 0 0 (muA G mo ad (σ, τ) sz) := by
  refine Met.ofW (cc := cX8_reckons) (maxL := 3) (ret := none) (by decide) rfl ?_
  intro p e s m args below meth c s₁ B hml hv
  obtain ⟨rfl, hsz, hP, hK, hD0⟩ := hv
  have hx := B.exec
  have hb := B.bytes
  have hr := B.returns
  have hts : ∀ w ∈ TT, w.before _ s = true := fun w h => atoms_spec (ws := ww yX8_reckons cX8_reckons 3 none) B.pre w (List.mem_cons_of_mem _ h)
  have hown : s.vm.findClass RX8 = some m.cls := findClass_of_methodNamed B.named
  have hlocks := B.notSynchronized
  subst hsz
  have hD : va_D (muA G mo ad (σ, τ) s.heap.size) (mW G mo ad σ τ) := hD0.self
  generalize hAe : muA G mo ad (σ, τ) s.heap.size = A at hD ⊢
  have hA : ∀ q : Nat, s.heap.size ≤ q → A q := fun q h => by rw [← hAe]; exact Or.inr h
  have hS : va_S A s.heap s.heap [] := va_S.rf
  have hP : va_P D vwCl (mW G mo ad σ τ) s.heap := hP
  have hl := lv_entry ([.ref mo, .int (nI t)]) (n := 3) (Nat.le_of_ble_eq_true rfl)
  rw [lg_entry_eq]
  generalize (lg_sl ([.ref mo, .int (nI t)]) ++ List.replicate (3 - (lg_sl ([.ref mo, .int (nI t)])).length) Slot.unset).toArray = ls at hl ⊢
  have hl : lv_has ls 3 [(0, .ref mo), (1, .int (nI t))] := hl
  refine lv_iconst (v := 0) hx hb dX8_reckons_0 (by decide) ?_
  refine lv_istore_n (lv' := [(2, .int 0), (0, .ref mo), (1, .int (nI t))]) hx hb dX8_reckons_1 rfl hl (by decide) rfl (fun ls hl => ?_)
  refine w_forM (N := 12) 2 (L := fun q9 ls H locs => lv_has ls 3 [(2, .int (nI q9)), (0, .ref mo), (1, .int (nI t))] ∧ va_P D vwCl (mW G mo ad (st σ 6 (rsF (σ 6) t q9)) (τ)) H ∧ va_D A (mW G mo ad (st σ 6 (rsF (σ 6) t q9)) (τ)) ∧ va_S A s.heap H locs) (fun k9 ls H locs hk hL ih2 => ?_) 0 ls _ _ (by omega) ⟨hl, hP, hD, hS⟩
  obtain ⟨hl, hP, hD, hS⟩ := hL
  have hl : lv_has ls 3 [(2, .int (nI k9)), (0, .ref mo), (1, .int (nI t))] := hl
  refine lv_iload_n hx hb dX8_reckons_2 rfl (lv_at hl 0 rfl) ?_
  refine lv_bipush (v := 12) hx hb dX8_reckons_3 (by decide) ?_
  refine lv_icmp_ge (tgt := 35) hx hb dX8_reckons_5 (by decide) (fun c1 => ?_) (fun c1 => ?_)
  · -- 5 taken
    have c1 : 12 ≤ k9 := (nI_leI (a := 12) (b := k9) (by omega) (by omega)).mp (by have h8 := c1; exact h8)
    obtain rfl : 12 = k9 := by omega
    have hP : va_P D vwCl (mW G mo ad (st σ 6 (rsF (σ 6) t 12)) (τ)) H := hP
    have hD : va_D A (mW G mo ad (st σ 6 (rsF (σ 6) t 12)) (τ)) := hD
    refine lv_aload_n hx hb dX8_reckons_35 rfl (lv_at hl 1 rfl) ?_
    refine va_get (D := D) (ci := 8) (v := .ref ((ad 3))) (C := RX8) (T := TX8) (N := 33) hx hb hts iX8 hown hK.1 hP 0 rfl rfl 3 (by decide) (hts _ q_682) (fun _ h9 => h9) rfl dX8_reckons_36 ?_
    refine lv_iload_n hx hb dX8_reckons_39 rfl (lv_at hl 2 rfl) ?_
    refine iald_n (f := σ 3) hx hb hK.1 hP 2 0 rfl rfl (t) rfl (by omega) (by decide) dX8_reckons_40 ?_
    refine lv_iconst (v := -1) hx hb dX8_reckons_41 (by decide) ?_
    refine lv_icmp_eq (tgt := 56) hx hb dX8_reckons_42 (by decide) (fun c2 => ?_) (fun c2 => ?_)
    · -- 42 taken
      refine lv_iconst (v := 0) hx hb dX8_reckons_56 (by decide) ?_
      refine lv_istore_n (lv' := [(2, .int 0), (0, .ref mo), (1, .int (nI t))]) hx hb dX8_reckons_57 rfl hl (by decide) rfl (fun ls hl => ?_)
      refine w_forM (N := (σ 5 t).toNatClampNeg) 58 (L := fun q9 ls H locs => lv_has ls 3 [(2, .int (nI q9)), (0, .ref mo), (1, .int (nI t))] ∧ va_P D vwCl (mW G mo ad (st σ 6 (afF (rsF (σ 6) t 12) (σ 4) t q9)) (τ)) H ∧ va_D A (mW G mo ad (st σ 6 (afF (rsF (σ 6) t 12) (σ 4) t q9)) (τ)) ∧ va_S A s.heap H locs) (fun k9 ls H locs hk hL ih58 => ?_) 0 ls _ _ (by omega) ⟨hl, hP, hD, hS⟩
      obtain ⟨hl, hP, hD, hS⟩ := hL
      have hl : lv_has ls 3 [(2, .int (nI k9)), (0, .ref mo), (1, .int (nI t))] := hl
      refine lv_iload_n hx hb dX8_reckons_58 rfl (lv_at hl 0 rfl) ?_
      refine lv_aload_n hx hb dX8_reckons_59 rfl (lv_at hl 1 rfl) ?_
      refine va_get (D := D) (ci := 8) (v := .ref ((ad 5))) (C := RX8) (T := TX8) (N := 33) hx hb hts iX8 hown hK.1 hP 0 rfl rfl 5 (by decide) (hts _ q_684) (fun _ h9 => h9) rfl dX8_reckons_60 ?_
      refine lv_iload_n hx hb dX8_reckons_63 rfl (lv_at hl 2 rfl) ?_
      refine iald_n (f := σ 5) hx hb hK.1 hP 4 0 rfl rfl (t) rfl (by omega) (by decide) dX8_reckons_64 ?_
      refine lv_icmp_ge (tgt := 89) hx hb dX8_reckons_65 (by decide) (fun c3 => ?_) (fun c3 => ?_)
      · -- 65 taken
        have c3 : (σ 5 t).toNatClampNeg ≤ k9 := (nI_leI (a := (σ 5 t).toNatClampNeg) (b := k9) (by omega) (by omega)).mp (by have h8 := c3; rw [hfa.1.1] at h8; exact h8)
        obtain rfl : (σ 5 t).toNatClampNeg = k9 := by omega
        have hP : va_P D vwCl (mW G mo ad (st σ 6 (afF (rsF (σ 6) t 12) (σ 4) t ((σ 5 t).toNatClampNeg))) (τ)) H := hP
        have hD : va_D A (mW G mo ad (st σ 6 (afF (rsF (σ 6) t 12) (σ 4) t ((σ 5 t).toNatClampNeg))) (τ)) := hD
        have ho : (st σ 6 (recF (σ 6) (σ 3) (σ 5) (σ 4) t), τ) = (st σ 6 (afF (rsF (σ 6) t 12) (σ 4) t ((σ 5 t).toNatClampNeg)), τ) := by unfold recF; simp only [eq_true c2, if_true, if_false]
        exact mu_vret (z := (st σ 6 (afF (rsF (σ 6) t 12) (σ 4) t ((σ 5 t).toNatClampNeg)), τ)) hx hb hr hlocks hP hD hS dX8_reckons_89 (by rw [ho])
      · -- 65 not
        have c3 : ¬ (σ 5 t).toNatClampNeg ≤ k9 := fun h9 => c3 (by rw [hfa.1.1]; exact (nI_leI (a := (σ 5 t).toNatClampNeg) (b := k9) (by omega) (by omega)).mpr h9)
        refine lv_aload_n hx hb dX8_reckons_68 rfl (lv_at hl 1 rfl) ?_
        refine lv_iload_n hx hb dX8_reckons_69 rfl (lv_at hl 2 rfl) ?_
        refine lv_aload_n hx hb dX8_reckons_70 rfl (lv_at hl 1 rfl) ?_
        refine va_get (D := D) (ci := 8) (v := .ref ((ad 4))) (C := RX8) (T := TX8) (N := 33) hx hb hts iX8 hown hK.1 hP 0 rfl rfl 4 (by decide) (hts _ q_683) (fun _ h9 => h9) rfl dX8_reckons_71 ?_
        refine lv_iconst (v := 3) hx hb dX8_reckons_74 (by decide) ?_
        refine lv_iload_n hx hb dX8_reckons_75 rfl (lv_at hl 2 rfl) ?_
        refine lv_imul hx hb dX8_reckons_76 ?_
        refine lv_iload_n hx hb dX8_reckons_77 rfl (lv_at hl 0 rfl) ?_
        refine lv_iadd hx hb dX8_reckons_78 ?_
        refine iald_n (f := σ 4) hx hb hK.1 hP 3 0 rfl rfl (((3 * t) + k9)) (n_add (a := (3 * t)) (b := k9) (n_mul (a := 3) (b := t) (rfl : (3 : Int32) = nI 3) rfl) rfl) (by omega) (by decide) dX8_reckons_79 ?_
        have hf4 := hfa.2 k9 (by omega)
        refine W.eq (g2 := F0 m 80 ls [.int (nI ((σ 4 (3 * t + k9)).toNatClampNeg)), .int (nI t), .ref mo]) (congrArg (fun z9 => F0 m 80 ls [.int z9, .int (nI t), .ref mo]) hf4.1) ?_
        refine mu_Vv (D := D) (G := G) (mo := mo) (ad := ad) (u := (st σ 6 (afF (rsF (σ 6) t 12) (σ 4) t k9), τ)) (As := [.int (nI t), .int (nI ((σ 4 (3 * t + k9)).toNatClampNeg))]) (rest := []) ⟨hx, hb, hml, hown, hts⟩ (m_adds l D G mo ad (st σ 6 (afF (rsF (σ 6) t 12) (σ 4) t k9)) (τ) _ (t) (((σ 4 (3 * t + k9)).toNatClampNeg)) (by omega) (by omega) (b01_af (b01_rs hb6 t 12) t k9)) gV_X8_X8_adds hdV_X8_adds ⟨Nat.le_of_ble_eq_true rfl, Nat.le_of_ble_eq_true rfl⟩ hK hP hD hS hA rfl hl.1 rfl (Nat.le_of_ble_eq_true rfl) dX8_reckons_80 ⟨Nat.le_of_ble_eq_true rfl, Nat.le_of_ble_eq_true rfl⟩ (fun H locs hP hD hS => ?_)
        have hP : va_P D vwCl (mW G mo ad (st σ 6 (addF (afF (rsF (σ 6) t 12) (σ 4) t k9) t (((σ 4 (3 * t + k9)).toNatClampNeg)) 12)) (τ)) H := hP
        have hD : va_D A (mW G mo ad (st σ 6 (addF (afF (rsF (σ 6) t 12) (σ 4) t k9) t (((σ 4 (3 * t + k9)).toNatClampNeg)) 12)) (τ)) := hD
        refine lv_iinc (v := nI (k9 + 1)) (lv' := [(2, .int (nI (k9 + 1))), (0, .ref mo), (1, .int (nI t))]) hx hb dX8_reckons_83 hl (k := 0) rfl (nI_1 _) (by decide) rfl (fun ls hl => ?_)
        refine lv_goto (tgt := 58) hx hb dX8_reckons_86 (by decide) ?_
        exact ih58 _ _ _ (by omega) ⟨lv_sub hl [0, 1, 2] rfl, hP, hD, hS⟩
    · -- 42 not
      have hpa := hpa c2
      refine lv_aload_n hx hb dX8_reckons_45 rfl (lv_at hl 1 rfl) ?_
      refine lv_iload_n hx hb dX8_reckons_46 rfl (lv_at hl 2 rfl) ?_
      refine lv_aload_n hx hb dX8_reckons_47 rfl (lv_at hl 1 rfl) ?_
      refine va_get (D := D) (ci := 8) (v := .ref ((ad 3))) (C := RX8) (T := TX8) (N := 33) hx hb hts iX8 hown hK.1 hP 0 rfl rfl 3 (by decide) (hts _ q_682) (fun _ h9 => h9) rfl dX8_reckons_48 ?_
      refine lv_iload_n hx hb dX8_reckons_51 rfl (lv_at hl 2 rfl) ?_
      refine iald_n (f := σ 3) hx hb hK.1 hP 2 0 rfl rfl (t) rfl (by omega) (by decide) dX8_reckons_52 ?_
      refine W.eq (g2 := F0 m 53 ls [.int (nI ((σ 3 t).toNatClampNeg)), .int (nI t), .ref mo]) (congrArg (fun z9 => F0 m 53 ls [.int z9, .int (nI t), .ref mo]) hpa.1) ?_
      refine mu_Vv (D := D) (G := G) (mo := mo) (ad := ad) (u := (st σ 6 (rsF (σ 6) t 12), τ)) (As := [.int (nI t), .int (nI ((σ 3 t).toNatClampNeg))]) (rest := []) ⟨hx, hb, hml, hown, hts⟩ (m_adds l D G mo ad (st σ 6 (rsF (σ 6) t 12)) (τ) _ (t) (((σ 3 t).toNatClampNeg)) (by omega) (by omega) (b01_rs hb6 t 12)) gV_X8_X8_adds hdV_X8_adds ⟨Nat.le_of_ble_eq_true rfl, Nat.le_of_ble_eq_true rfl⟩ hK hP hD hS hA rfl hl.1 rfl (Nat.le_of_ble_eq_true rfl) dX8_reckons_53 ⟨Nat.le_of_ble_eq_true rfl, Nat.le_of_ble_eq_true rfl⟩ (fun H locs hP hD hS => ?_)
      have hP : va_P D vwCl (mW G mo ad (st σ 6 (addF (rsF (σ 6) t 12) t (((σ 3 t).toNatClampNeg)) 12)) (τ)) H := hP
      have hD : va_D A (mW G mo ad (st σ 6 (addF (rsF (σ 6) t 12) t (((σ 3 t).toNatClampNeg)) 12)) (τ)) := hD
      refine lv_iconst (v := 0) hx hb dX8_reckons_56 (by decide) ?_
      refine lv_istore_n (lv' := [(2, .int 0), (0, .ref mo), (1, .int (nI t))]) hx hb dX8_reckons_57 rfl hl (by decide) rfl (fun ls hl => ?_)
      refine w_forM (N := (σ 5 t).toNatClampNeg) 58 (L := fun q9 ls H locs => lv_has ls 3 [(2, .int (nI q9)), (0, .ref mo), (1, .int (nI t))] ∧ va_P D vwCl (mW G mo ad (st σ 6 (afF (addF (rsF (σ 6) t 12) t (σ 3 t).toNatClampNeg 12) (σ 4) t q9)) (τ)) H ∧ va_D A (mW G mo ad (st σ 6 (afF (addF (rsF (σ 6) t 12) t (σ 3 t).toNatClampNeg 12) (σ 4) t q9)) (τ)) ∧ va_S A s.heap H locs) (fun k9 ls H locs hk hL ih58 => ?_) 0 ls _ _ (by omega) ⟨hl, hP, hD, hS⟩
      obtain ⟨hl, hP, hD, hS⟩ := hL
      have hl : lv_has ls 3 [(2, .int (nI k9)), (0, .ref mo), (1, .int (nI t))] := hl
      refine lv_iload_n hx hb dX8_reckons_58 rfl (lv_at hl 0 rfl) ?_
      refine lv_aload_n hx hb dX8_reckons_59 rfl (lv_at hl 1 rfl) ?_
      refine va_get (D := D) (ci := 8) (v := .ref ((ad 5))) (C := RX8) (T := TX8) (N := 33) hx hb hts iX8 hown hK.1 hP 0 rfl rfl 5 (by decide) (hts _ q_684) (fun _ h9 => h9) rfl dX8_reckons_60 ?_
      refine lv_iload_n hx hb dX8_reckons_63 rfl (lv_at hl 2 rfl) ?_
      refine iald_n (f := σ 5) hx hb hK.1 hP 4 0 rfl rfl (t) rfl (by omega) (by decide) dX8_reckons_64 ?_
      refine lv_icmp_ge (tgt := 89) hx hb dX8_reckons_65 (by decide) (fun c4 => ?_) (fun c4 => ?_)
      · -- 65 taken
        have c4 : (σ 5 t).toNatClampNeg ≤ k9 := (nI_leI (a := (σ 5 t).toNatClampNeg) (b := k9) (by omega) (by omega)).mp (by have h8 := c4; rw [hfa.1.1] at h8; exact h8)
        obtain rfl : (σ 5 t).toNatClampNeg = k9 := by omega
        have hP : va_P D vwCl (mW G mo ad (st σ 6 (afF (addF (rsF (σ 6) t 12) t (σ 3 t).toNatClampNeg 12) (σ 4) t ((σ 5 t).toNatClampNeg))) (τ)) H := hP
        have hD : va_D A (mW G mo ad (st σ 6 (afF (addF (rsF (σ 6) t 12) t (σ 3 t).toNatClampNeg 12) (σ 4) t ((σ 5 t).toNatClampNeg))) (τ)) := hD
        have ho : (st σ 6 (recF (σ 6) (σ 3) (σ 5) (σ 4) t), τ) = (st σ 6 (afF (addF (rsF (σ 6) t 12) t (σ 3 t).toNatClampNeg 12) (σ 4) t ((σ 5 t).toNatClampNeg)), τ) := by unfold recF; simp only [eq_false c2, if_true, if_false]
        exact mu_vret (z := (st σ 6 (afF (addF (rsF (σ 6) t 12) t (σ 3 t).toNatClampNeg 12) (σ 4) t ((σ 5 t).toNatClampNeg)), τ)) hx hb hr hlocks hP hD hS dX8_reckons_89 (by rw [ho])
      · -- 65 not
        have c4 : ¬ (σ 5 t).toNatClampNeg ≤ k9 := fun h9 => c4 (by rw [hfa.1.1]; exact (nI_leI (a := (σ 5 t).toNatClampNeg) (b := k9) (by omega) (by omega)).mpr h9)
        refine lv_aload_n hx hb dX8_reckons_68 rfl (lv_at hl 1 rfl) ?_
        refine lv_iload_n hx hb dX8_reckons_69 rfl (lv_at hl 2 rfl) ?_
        refine lv_aload_n hx hb dX8_reckons_70 rfl (lv_at hl 1 rfl) ?_
        refine va_get (D := D) (ci := 8) (v := .ref ((ad 4))) (C := RX8) (T := TX8) (N := 33) hx hb hts iX8 hown hK.1 hP 0 rfl rfl 4 (by decide) (hts _ q_683) (fun _ h9 => h9) rfl dX8_reckons_71 ?_
        refine lv_iconst (v := 3) hx hb dX8_reckons_74 (by decide) ?_
        refine lv_iload_n hx hb dX8_reckons_75 rfl (lv_at hl 2 rfl) ?_
        refine lv_imul hx hb dX8_reckons_76 ?_
        refine lv_iload_n hx hb dX8_reckons_77 rfl (lv_at hl 0 rfl) ?_
        refine lv_iadd hx hb dX8_reckons_78 ?_
        refine iald_n (f := σ 4) hx hb hK.1 hP 3 0 rfl rfl (((3 * t) + k9)) (n_add (a := (3 * t)) (b := k9) (n_mul (a := 3) (b := t) (rfl : (3 : Int32) = nI 3) rfl) rfl) (by omega) (by decide) dX8_reckons_79 ?_
        have hf4 := hfa.2 k9 (by omega)
        refine W.eq (g2 := F0 m 80 ls [.int (nI ((σ 4 (3 * t + k9)).toNatClampNeg)), .int (nI t), .ref mo]) (congrArg (fun z9 => F0 m 80 ls [.int z9, .int (nI t), .ref mo]) hf4.1) ?_
        refine mu_Vv (D := D) (G := G) (mo := mo) (ad := ad) (u := (st σ 6 (afF (addF (rsF (σ 6) t 12) t (σ 3 t).toNatClampNeg 12) (σ 4) t k9), τ)) (As := [.int (nI t), .int (nI ((σ 4 (3 * t + k9)).toNatClampNeg))]) (rest := []) ⟨hx, hb, hml, hown, hts⟩ (m_adds l D G mo ad (st σ 6 (afF (addF (rsF (σ 6) t 12) t (σ 3 t).toNatClampNeg 12) (σ 4) t k9)) (τ) _ (t) (((σ 4 (3 * t + k9)).toNatClampNeg)) (by omega) (by omega) (b01_af (b01_add (b01_rs hb6 t 12) t _ 12) t k9)) gV_X8_X8_adds hdV_X8_adds ⟨Nat.le_of_ble_eq_true rfl, Nat.le_of_ble_eq_true rfl⟩ hK hP hD hS hA rfl hl.1 rfl (Nat.le_of_ble_eq_true rfl) dX8_reckons_80 ⟨Nat.le_of_ble_eq_true rfl, Nat.le_of_ble_eq_true rfl⟩ (fun H locs hP hD hS => ?_)
        have hP : va_P D vwCl (mW G mo ad (st σ 6 (addF (afF (addF (rsF (σ 6) t 12) t (σ 3 t).toNatClampNeg 12) (σ 4) t k9) t (((σ 4 (3 * t + k9)).toNatClampNeg)) 12)) (τ)) H := hP
        have hD : va_D A (mW G mo ad (st σ 6 (addF (afF (addF (rsF (σ 6) t 12) t (σ 3 t).toNatClampNeg 12) (σ 4) t k9) t (((σ 4 (3 * t + k9)).toNatClampNeg)) 12)) (τ)) := hD
        refine lv_iinc (v := nI (k9 + 1)) (lv' := [(2, .int (nI (k9 + 1))), (0, .ref mo), (1, .int (nI t))]) hx hb dX8_reckons_83 hl (k := 0) rfl (nI_1 _) (by decide) rfl (fun ls hl => ?_)
        refine lv_goto (tgt := 58) hx hb dX8_reckons_86 (by decide) ?_
        exact ih58 _ _ _ (by omega) ⟨lv_sub hl [0, 1, 2] rfl, hP, hD, hS⟩
  · -- 5 not
    have c1 : ¬ 12 ≤ k9 := fun h9 => c1 (by exact (nI_leI (a := 12) (b := k9) (by omega) (by omega)).mpr h9)
    refine lv_aload_n hx hb dX8_reckons_8 rfl (lv_at hl 1 rfl) ?_
    refine va_get (D := D) (ci := 8) (v := .ref ((ad 6))) (C := RX8) (T := TX8) (N := 33) hx hb hts iX8 hown hK.1 hP 0 rfl rfl 6 (by decide) (hts _ q_685) (fun _ h9 => h9) rfl dX8_reckons_9 ?_
    refine lv_bipush (v := 12) hx hb dX8_reckons_12 (by decide) ?_
    refine lv_iload_n hx hb dX8_reckons_14 rfl (lv_at hl 2 rfl) ?_
    refine lv_imul hx hb dX8_reckons_15 ?_
    refine lv_iload_n hx hb dX8_reckons_16 rfl (lv_at hl 0 rfl) ?_
    refine lv_iadd hx hb dX8_reckons_17 ?_
    refine w_join (P := fun b9 => b9 = bI (k9 = t)) 28 (ls := ls) (rest := [.int ((12 * (nI t)) + (nI k9)), .ref ((ad 6))]) (fun b6 e_b6 => ?_) (fun J5 => ?_)
    · -- behind the meeting at 28
      subst e_b6
      refine zast_n hx hb hK.1 hP hD hS 5 2 rfl rfl (((12 * t) + k9)) (n_add (a := (12 * t)) (b := k9) (n_mul (a := 12) (b := t) (rfl : (12 : Int32) = nI 12) rfl) rfl) (by omega) (by decide) bI_b dX8_reckons_28 (fun H locs hP hD hS => ?_)
      have hP : va_P D vwCl (mW G mo ad (st σ 6 (upd (rsF (σ 6) t k9) (((12 * t) + k9)) (bI (k9 = t)))) (τ)) H := hP
      have hD : va_D A (mW G mo ad (st σ 6 (upd (rsF (σ 6) t k9) (((12 * t) + k9)) (bI (k9 = t)))) (τ)) := hD
      refine lv_iinc (v := nI (k9 + 1)) (lv' := [(2, .int (nI (k9 + 1))), (0, .ref mo), (1, .int (nI t))]) hx hb dX8_reckons_29 hl (k := 0) rfl (nI_1 _) (by decide) rfl (fun ls hl => ?_)
      refine lv_goto (tgt := 2) hx hb dX8_reckons_32 (by decide) ?_
      exact ih2 _ _ _ (by omega) ⟨lv_sub hl [0, 1, 2] rfl, hP, hD, hS⟩
    · -- up to the meeting at 28
      refine lv_iload_n hx hb dX8_reckons_18 rfl (lv_at hl 0 rfl) ?_
      refine lv_iload_n hx hb dX8_reckons_19 rfl (lv_at hl 2 rfl) ?_
      refine lv_icmp_ne (tgt := 27) hx hb dX8_reckons_20 (by decide) (fun c7 => ?_) (fun c7 => ?_)
      · -- 20 taken
        have c7 : ¬ k9 = t := fun h9 => c7 (by rw [h9])
        refine lv_iconst (v := 0) hx hb dX8_reckons_27 (by decide) ?_
        exact J5 0 ((bI_f c7).symm)
      · -- 20 not
        have c7 := nI_inj (by omega) (by omega) c7
        refine lv_iconst (v := 1) hx hb dX8_reckons_23 (by decide) ?_
        refine lv_goto (tgt := 28) hx hb dX8_reckons_24 (by decide) ?_
        exact J5 1 ((bI_t c7).symm)
set_option maxHeartbeats 4000000 in
set_option maxRecDepth 100000 in
theorem m_type (l : Launch) (D : va_G) (G : Nat → ClassId) (mo : Nat) (ad : Nat → Nat) (σ : MS) (τ : Nat → Int64) (sz : Nat) (n : Nat) (h1 : σ 1 0 = nI n) (hn : n ≤ 12) (sort : Int32) (parent : Int32) (hb6 : b01 (σ 6)) : Met l yX8_type (ww yX8_type cX8_type 3 (some .int)) (rmD 2) (muP D G sz mo ad (σ, τ) [.ref mo, .int sort, .int parent]) (muQi D G mo ad (muA G mo ad (σ, τ) sz) (oType σ τ n sort parent).1 (oType σ τ n sort parent).2) 0 0 (muA G mo ad (σ, τ) sz) := by
  refine Met.ofW (cc := cX8_type) (maxL := 3) (ret := (some .int)) (by decide) rfl ?_
  intro p e s m args below meth c s₁ B hml hv
  obtain ⟨rfl, hsz, hP, hK, hD0⟩ := hv
  have hx := B.exec
  have hb := B.bytes
  have hr := B.returns
  have hts : ∀ w ∈ TT, w.before _ s = true := fun w h => atoms_spec (ws := ww yX8_type cX8_type 3 (some .int)) B.pre w (List.mem_cons_of_mem _ h)
  have hown : s.vm.findClass RX8 = some m.cls := findClass_of_methodNamed B.named
  have hlocks := B.notSynchronized
  subst hsz
  have hD : va_D (muA G mo ad (σ, τ) s.heap.size) (mW G mo ad σ τ) := hD0.self
  generalize hAe : muA G mo ad (σ, τ) s.heap.size = A at hD ⊢
  have hA : ∀ q : Nat, s.heap.size ≤ q → A q := fun q h => by rw [← hAe]; exact Or.inr h
  have hS : va_S A s.heap s.heap [] := va_S.rf
  have hP : va_P D vwCl (mW G mo ad σ τ) s.heap := hP
  have hl := lv_entry ([.ref mo, .int sort, .int parent]) (n := 3) (Nat.le_of_ble_eq_true rfl)
  rw [lg_entry_eq]
  generalize (lg_sl ([.ref mo, .int sort, .int parent]) ++ List.replicate (3 - (lg_sl ([.ref mo, .int sort, .int parent])).length) Slot.unset).toArray = ls at hl ⊢
  have hl : lv_has ls 3 [(0, .ref mo), (1, .int sort), (2, .int parent)] := hl
  refine lv_aload_n hx hb dX8_type_0 rfl (lv_at hl 0 rfl) ?_
  refine lv_iconst (v := 0) hx hb dX8_type_1 (by decide) ?_
  refine va_put (D := D) (ci := 8) (v := .int 0) (ty := .int) (C := RX8) (T := TX8) (N := 33) hx hb hts iX8 tyX8 tyX8_ok nmX8 hown hK.1 hP hD hS 0 rfl rfl 0 (by decide) (hts _ q_679) (fun _ h9 => h9) rfl (by decide +kernel) rfl rfl (Nat.le_of_ble_eq_true rfl) dX8_type_2 (fun H locs hP hD hS => ?_)
  have hP : va_P D vwCl (mW G mo ad (su σ 0 (0) (0)) (τ)) H := hP
  have hD : va_D A (mW G mo ad (su σ 0 (0) (0)) (τ)) := hD
  refine lv_iload_n hx hb dX8_type_5 rfl (lv_at hl 1 rfl) ?_
  refine lv_iconst (v := 0) hx hb dX8_type_6 (by decide) ?_
  refine lv_iconst (v := 3) hx hb dX8_type_7 (by decide) ?_
  refine ro_Si (D := D) (G := G) (As := [.int sort, .int 0, .int 3]) (rest := []) ⟨hx, hb, hml, hown, hts⟩ (m_in l D G _ sort 0 3) gS_X8_X8_in hdS_X8_in ⟨Nat.le_of_ble_eq_true rfl, Nat.le_of_ble_eq_true rfl⟩ hK rfl hl.1 rfl (Nat.le_of_ble_eq_true rfl) dX8_type_8 ⟨Nat.le_of_ble_eq_true rfl, Nat.le_of_ble_eq_true rfl⟩ (fun r1 e_r1 => ?_)
  subst e_r1
  refine W.eq (g2 := F0 m 11 ls [.int (bI (0 ≤ sort ∧ sort ≤ 3))]) rfl ?_
  refine lv_if_ne (tgt := 17) hx hb dX8_type_11 (by decide) (fun c2 => ?_) (fun c2 => ?_)
  · -- 11 taken
    have c2 := bI_1 c2
    refine lv_iload_n hx hb dX8_type_17 rfl (lv_at hl 2 rfl) ?_
    refine lv_iconst (v := -1) hx hb dX8_type_18 (by decide) ?_
    refine lv_icmp_eq (tgt := 48) hx hb dX8_type_19 (by decide) (fun c3 => ?_) (fun c3 => ?_)
    · -- 19 taken
      refine lv_aload_n hx hb dX8_type_48 rfl (lv_at hl 0 rfl) ?_
      refine va_get (D := D) (ci := 8) (v := .int (σ 1 0)) (C := RX8) (T := TX8) (N := 33) hx hb hts iX8 hown hK.1 hP 0 rfl rfl 1 (by decide) (hts _ q_680) (fun _ h9 => h9) rfl dX8_type_49 ?_
      refine lv_bipush (v := 12) hx hb dX8_type_52 (by decide) ?_
      refine lv_icmp_ne (tgt := 60) hx hb dX8_type_54 (by decide) (fun c4 => ?_) (fun c4 => ?_)
      · -- 54 taken
        have c4 : ¬ n = 12 := fun h9 => c4 (by first | (rw [h1, h9]; done) | (rw [h1, h9]; rfl))
        refine lv_aload_n hx hb dX8_type_60 rfl (lv_at hl 0 rfl) ?_
        refine va_get (D := D) (ci := 8) (v := .ref ((ad 2))) (C := RX8) (T := TX8) (N := 33) hx hb hts iX8 hown hK.1 hP 0 rfl rfl 2 (by decide) (hts _ q_681) (fun _ h9 => h9) rfl dX8_type_61 ?_
        refine lv_aload_n hx hb dX8_type_64 rfl (lv_at hl 0 rfl) ?_
        refine va_get (D := D) (ci := 8) (v := .int (σ 1 0)) (C := RX8) (T := TX8) (N := 33) hx hb hts iX8 hown hK.1 hP 0 rfl rfl 1 (by decide) (hts _ q_680) (fun _ h9 => h9) rfl dX8_type_65 ?_
        refine lv_iload_n hx hb dX8_type_68 rfl (lv_at hl 1 rfl) ?_
        refine iast_n hx hb hK.1 hP hD hS 1 0 rfl rfl (n) h1 (by omega) (by decide) dX8_type_69 (fun H locs hP hD hS => ?_)
        have hP : va_P D vwCl (mW G mo ad (su (su σ 0 (0) (0)) 2 (n) (sort)) (τ)) H := hP
        have hD : va_D A (mW G mo ad (su (su σ 0 (0) (0)) 2 (n) (sort)) (τ)) := hD
        refine lv_aload_n hx hb dX8_type_70 rfl (lv_at hl 0 rfl) ?_
        refine va_get (D := D) (ci := 8) (v := .ref ((ad 3))) (C := RX8) (T := TX8) (N := 33) hx hb hts iX8 hown hK.1 hP 0 rfl rfl 3 (by decide) (hts _ q_682) (fun _ h9 => h9) rfl dX8_type_71 ?_
        refine lv_aload_n hx hb dX8_type_74 rfl (lv_at hl 0 rfl) ?_
        refine va_get (D := D) (ci := 8) (v := .int (σ 1 0)) (C := RX8) (T := TX8) (N := 33) hx hb hts iX8 hown hK.1 hP 0 rfl rfl 1 (by decide) (hts _ q_680) (fun _ h9 => h9) rfl dX8_type_75 ?_
        refine lv_iload_n hx hb dX8_type_78 rfl (lv_at hl 2 rfl) ?_
        refine iast_n hx hb hK.1 hP hD hS 2 0 rfl rfl (n) h1 (by omega) (by decide) dX8_type_79 (fun H locs hP hD hS => ?_)
        have hP : va_P D vwCl (mW G mo ad (su (su (su σ 0 (0) (0)) 2 (n) (sort)) 3 (n) (parent)) (τ)) H := hP
        have hD : va_D A (mW G mo ad (su (su (su σ 0 (0) (0)) 2 (n) (sort)) 3 (n) (parent)) (τ)) := hD
        refine lv_aload_n hx hb dX8_type_80 rfl (lv_at hl 0 rfl) ?_
        refine va_get (D := D) (ci := 8) (v := .ref ((ad 5))) (C := RX8) (T := TX8) (N := 33) hx hb hts iX8 hown hK.1 hP 0 rfl rfl 5 (by decide) (hts _ q_684) (fun _ h9 => h9) rfl dX8_type_81 ?_
        refine lv_aload_n hx hb dX8_type_84 rfl (lv_at hl 0 rfl) ?_
        refine va_get (D := D) (ci := 8) (v := .int (σ 1 0)) (C := RX8) (T := TX8) (N := 33) hx hb hts iX8 hown hK.1 hP 0 rfl rfl 1 (by decide) (hts _ q_680) (fun _ h9 => h9) rfl dX8_type_85 ?_
        refine lv_iconst (v := 0) hx hb dX8_type_88 (by decide) ?_
        refine iast_n hx hb hK.1 hP hD hS 4 0 rfl rfl (n) h1 (by omega) (by decide) dX8_type_89 (fun H locs hP hD hS => ?_)
        have hP : va_P D vwCl (mW G mo ad (su (su (su (su σ 0 (0) (0)) 2 (n) (sort)) 3 (n) (parent)) 5 (n) (0)) (τ)) H := hP
        have hD : va_D A (mW G mo ad (su (su (su (su σ 0 (0) (0)) 2 (n) (sort)) 3 (n) (parent)) 5 (n) (0)) (τ)) := hD
        refine lv_aload_n hx hb dX8_type_90 rfl (lv_at hl 0 rfl) ?_
        refine lv_dup hx hb dX8_type_91 rfl ?_
        refine va_get (D := D) (ci := 8) (v := .int (σ 1 0)) (C := RX8) (T := TX8) (N := 33) hx hb hts iX8 hown hK.1 hP 0 rfl rfl 1 (by decide) (hts _ q_680) (fun _ h9 => h9) rfl dX8_type_92 ?_
        refine lv_iconst (v := 1) hx hb dX8_type_95 (by decide) ?_
        refine lv_iadd hx hb dX8_type_96 ?_
        refine W.eq (g2 := F0 m 97 ls [.int (nI (n + 1)), .ref mo]) (congrArg (fun z9 => F0 m 97 ls [.int z9, .ref mo]) (n_add (a := n) (b := 1) h1 (rfl : (1 : Int32) = nI 1))) ?_
        refine va_put (D := D) (ci := 8) (v := .int (nI (n + 1))) (ty := .int) (C := RX8) (T := TX8) (N := 33) hx hb hts iX8 tyX8 tyX8_ok nmX8 hown hK.1 hP hD hS 0 rfl rfl 1 (by decide) (hts _ q_680) (fun _ h9 => h9) rfl (by decide +kernel) rfl rfl (Nat.le_of_ble_eq_true rfl) dX8_type_97 (fun H locs hP hD hS => ?_)
        have hP : va_P D vwCl (mW G mo ad (su (su (su (su (su σ 0 (0) (0)) 2 (n) (sort)) 3 (n) (parent)) 5 (n) (0)) 1 (0) (nI (n + 1))) (τ)) H := hP
        have hD : va_D A (mW G mo ad (su (su (su (su (su σ 0 (0) (0)) 2 (n) (sort)) 3 (n) (parent)) 5 (n) (0)) 1 (0) (nI (n + 1))) (τ)) := hD
        refine lv_aload_n hx hb dX8_type_100 rfl (lv_at hl 0 rfl) ?_
        refine lv_aload_n hx hb dX8_type_101 rfl (lv_at hl 0 rfl) ?_
        refine va_get (D := D) (ci := 8) (v := .int (nI (n + 1))) (C := RX8) (T := TX8) (N := 33) hx hb hts iX8 hown hK.1 hP 0 rfl rfl 1 (by decide) (hts _ q_680) (fun _ h9 => h9) rfl dX8_type_102 ?_
        refine lv_iconst (v := 1) hx hb dX8_type_105 (by decide) ?_
        refine lv_isub hx hb dX8_type_106 ?_
        refine W.eq (g2 := F0 m 107 ls [.int (nI n), .ref mo]) (congrArg (fun z9 => F0 m 107 ls [.int z9, .ref mo]) (nI_pred n)) ?_
        refine mu_Vv (D := D) (G := G) (mo := mo) (ad := ad) (u := (su (su (su (su (su σ 0 (0) (0)) 2 (n) (sort)) 3 (n) (parent)) 5 (n) (0)) 1 (0) (nI (n + 1)), τ)) (As := [.int (nI n)]) (rest := []) ⟨hx, hb, hml, hown, hts⟩ (m_reckons l D G mo ad (su (su (su (su (su σ 0 (0) (0)) 2 (n) (sort)) 3 (n) (parent)) 5 (n) (0)) 1 (0) (nI (n + 1))) (τ) _ (n) (by omega) (by show ¬ upd (σ 3) n parent n = -1 → okT (upd (σ 3) n parent n); rw [pk_us]; exact fun h9 => absurd c3 h9) (by show okC (upd (σ 5) n 0 n) ∧ ∀ k, k < (upd (σ 5) n 0 n).toNatClampNeg → okT (σ 4 (3 * n + k)); rw [pk_us]; exact ⟨⟨rfl, by decide⟩, fun k hk => absurd hk (Nat.not_lt_zero k)⟩) hb6) gV_X8_X8_reckons hdV_X8_reckons ⟨Nat.le_of_ble_eq_true rfl, Nat.le_of_ble_eq_true rfl⟩ hK hP hD hS hA rfl hl.1 rfl (Nat.le_of_ble_eq_true rfl) dX8_type_107 ⟨Nat.le_of_ble_eq_true rfl, Nat.le_of_ble_eq_true rfl⟩ (fun H locs hP hD hS => ?_)
        have hP : va_P D vwCl (mW G mo ad (st (su (su (su (su (su σ 0 (0) (0)) 2 (n) (sort)) 3 (n) (parent)) 5 (n) (0)) 1 (0) (nI (n + 1))) 6 (recF (σ 6) (upd (σ 3) (n) (parent)) (upd (σ 5) (n) (0)) (σ 4) n)) (τ)) H := hP
        have hD : va_D A (mW G mo ad (st (su (su (su (su (su σ 0 (0) (0)) 2 (n) (sort)) 3 (n) (parent)) 5 (n) (0)) 1 (0) (nI (n + 1))) 6 (recF (σ 6) (upd (σ 3) (n) (parent)) (upd (σ 5) (n) (0)) (σ 4) n)) (τ)) := hD
        refine lv_aload_n hx hb dX8_type_110 rfl (lv_at hl 0 rfl) ?_
        refine va_get (D := D) (ci := 8) (v := .int (nI (n + 1))) (C := RX8) (T := TX8) (N := 33) hx hb hts iX8 hown hK.1 hP 0 rfl rfl 1 (by decide) (hts _ q_680) (fun _ h9 => h9) rfl dX8_type_111 ?_
        refine lv_iconst (v := 1) hx hb dX8_type_114 (by decide) ?_
        refine lv_isub hx hb dX8_type_115 ?_
        refine W.eq (g2 := F0 m 116 ls [.int (nI n)]) (congrArg (fun z9 => F0 m 116 ls [.int z9]) (nI_pred n)) ?_
        have ho : oType σ τ n sort parent = (nI n, st (su (su (su (su (su σ 0 (0) (0)) 2 (n) (sort)) 3 (n) (parent)) 5 (n) (0)) 1 (0) (nI (n + 1))) 6 (recF (σ 6) (upd (σ 3) (n) (parent)) (upd (σ 5) (n) (0)) (σ 4) n), τ) := by unfold oType; simp only [eq_true c2, eq_true c3, eq_false c4, not_true, not_false_iff, not_true_eq_false, not_false_eq_true, true_or, or_true, false_or, or_false, or_self, and_self, true_and, and_true, false_and, and_false, if_true, if_false]
        exact mu_iret (v0 := nI n) (z := (st (su (su (su (su (su σ 0 (0) (0)) 2 (n) (sort)) 3 (n) (parent)) 5 (n) (0)) 1 (0) (nI (n + 1))) 6 (recF (σ 6) (upd (σ 3) (n) (parent)) (upd (σ 5) (n) (0)) (σ 4) n), τ)) hx hb hr hlocks hP hD hS dX8_type_116 (by rw [ho]) (by rw [ho])
      · -- 54 not
        have c4 : n = 12 := nI_inj (by omega) (by omega) (by have h8 := c4; rw [h1] at h8; exact h8)
        refine lv_bipush (v := -15) hx hb dX8_type_57 (by decide) ?_
        have ho : oType σ τ n sort parent = ((-15), su σ 0 (0) (0), τ) := by unfold oType; simp only [eq_true c2, eq_true c3, eq_true c4, not_true, not_false_iff, not_true_eq_false, not_false_eq_true, true_or, or_true, false_or, or_false, or_self, and_self, true_and, and_true, false_and, and_false, if_true, if_false]
        exact mu_iret (v0 := (-15)) (z := (su σ 0 (0) (0), τ)) hx hb hr hlocks hP hD hS dX8_type_59 (by rw [ho]) (by rw [ho])
    · -- 19 not
      refine lv_iload_n hx hb dX8_type_22 rfl (lv_at hl 1 rfl) ?_
      refine lv_iconst (v := 3) hx hb dX8_type_23 (by decide) ?_
      refine lv_icmp_eq (tgt := 45) hx hb dX8_type_24 (by decide) (fun c5 => ?_) (fun c5 => ?_)
      · -- 24 taken
        refine lv_bipush (v := -11) hx hb dX8_type_45 (by decide) ?_
        have ho : oType σ τ n sort parent = ((-11), su σ 0 (0) (0), τ) := by unfold oType; simp only [eq_true c2, eq_false c3, eq_true c5, not_true, not_false_iff, not_true_eq_false, not_false_eq_true, true_or, or_true, false_or, or_false, or_self, and_self, true_and, and_true, false_and, and_false, if_true, if_false]
        exact mu_iret (v0 := (-11)) (z := (su σ 0 (0) (0), τ)) hx hb hr hlocks hP hD hS dX8_type_47 (by rw [ho]) (by rw [ho])
      · -- 24 not
        refine lv_aload_n hx hb dX8_type_27 rfl (lv_at hl 0 rfl) ?_
        refine lv_iload_n hx hb dX8_type_28 rfl (lv_at hl 2 rfl) ?_
        refine ro_Vi (D := D) (G := G) (As := [.int parent]) (rest := []) ⟨hx, hb, hml, hown, hts⟩ (m_isType l D G _ mo ad _ _ hP n h1 hn parent) gV_X8_X8_isType hdV_X8_isType ⟨Nat.le_of_ble_eq_true rfl, Nat.le_of_ble_eq_true rfl⟩ hK (va_recv hK.1 hP (ci := 8) (q0 := 0) rfl rfl) rfl hl.1 rfl (Nat.le_of_ble_eq_true rfl) dX8_type_29 ⟨Nat.le_of_ble_eq_true rfl, Nat.le_of_ble_eq_true rfl⟩ (fun r6 e_r6 => ?_)
        subst e_r6
        refine W.eq (g2 := F0 m 32 ls [.int (bI (okN n parent))]) rfl ?_
        refine lv_if_eq (tgt := 45) hx hb dX8_type_32 (by decide) (fun c7 => ?_) (fun c7 => ?_)
        · -- 32 taken
          have c7 := bI_0 c7
          refine lv_bipush (v := -11) hx hb dX8_type_45 (by decide) ?_
          have ho : oType σ τ n sort parent = ((-11), su σ 0 (0) (0), τ) := by unfold oType; simp only [eq_true c2, eq_false c3, eq_false c5, eq_false c7, not_true, not_false_iff, not_true_eq_false, not_false_eq_true, true_or, or_true, false_or, or_false, or_self, and_self, true_and, and_true, false_and, and_false, if_true, if_false]
          exact mu_iret (v0 := (-11)) (z := (su σ 0 (0) (0), τ)) hx hb hr hlocks hP hD hS dX8_type_47 (by rw [ho]) (by rw [ho])
        · -- 32 not
          have c7 := bI_1 c7
          obtain ⟨j8, h_j8, e_j8⟩ := okN_ex (by omega) c7
          refine lv_aload_n hx hb dX8_type_35 rfl (lv_at hl 0 rfl) ?_
          refine va_get (D := D) (ci := 8) (v := .ref ((ad 2))) (C := RX8) (T := TX8) (N := 33) hx hb hts iX8 hown hK.1 hP 0 rfl rfl 2 (by decide) (hts _ q_681) (fun _ h9 => h9) rfl dX8_type_36 ?_
          refine lv_iload_n hx hb dX8_type_39 rfl (lv_at hl 2 rfl) ?_
          refine iald_n (f := σ 2) hx hb hK.1 hP 1 0 rfl rfl (j8) e_j8 (by omega) (by decide) dX8_type_40 ?_
          refine lv_iconst (v := 1) hx hb dX8_type_41 (by decide) ?_
          refine lv_icmp_le (tgt := 48) hx hb dX8_type_42 (by decide) (fun c9 => ?_) (fun c9 => ?_)
          · -- 42 taken
            refine lv_aload_n hx hb dX8_type_48 rfl (lv_at hl 0 rfl) ?_
            refine va_get (D := D) (ci := 8) (v := .int (σ 1 0)) (C := RX8) (T := TX8) (N := 33) hx hb hts iX8 hown hK.1 hP 0 rfl rfl 1 (by decide) (hts _ q_680) (fun _ h9 => h9) rfl dX8_type_49 ?_
            refine lv_bipush (v := 12) hx hb dX8_type_52 (by decide) ?_
            refine lv_icmp_ne (tgt := 60) hx hb dX8_type_54 (by decide) (fun c10 => ?_) (fun c10 => ?_)
            · -- 54 taken
              have c10 : ¬ n = 12 := fun h9 => c10 (by first | (rw [h1, h9]; done) | (rw [h1, h9]; rfl))
              refine lv_aload_n hx hb dX8_type_60 rfl (lv_at hl 0 rfl) ?_
              refine va_get (D := D) (ci := 8) (v := .ref ((ad 2))) (C := RX8) (T := TX8) (N := 33) hx hb hts iX8 hown hK.1 hP 0 rfl rfl 2 (by decide) (hts _ q_681) (fun _ h9 => h9) rfl dX8_type_61 ?_
              refine lv_aload_n hx hb dX8_type_64 rfl (lv_at hl 0 rfl) ?_
              refine va_get (D := D) (ci := 8) (v := .int (σ 1 0)) (C := RX8) (T := TX8) (N := 33) hx hb hts iX8 hown hK.1 hP 0 rfl rfl 1 (by decide) (hts _ q_680) (fun _ h9 => h9) rfl dX8_type_65 ?_
              refine lv_iload_n hx hb dX8_type_68 rfl (lv_at hl 1 rfl) ?_
              refine iast_n hx hb hK.1 hP hD hS 1 0 rfl rfl (n) h1 (by omega) (by decide) dX8_type_69 (fun H locs hP hD hS => ?_)
              have hP : va_P D vwCl (mW G mo ad (su (su σ 0 (0) (0)) 2 (n) (sort)) (τ)) H := hP
              have hD : va_D A (mW G mo ad (su (su σ 0 (0) (0)) 2 (n) (sort)) (τ)) := hD
              refine lv_aload_n hx hb dX8_type_70 rfl (lv_at hl 0 rfl) ?_
              refine va_get (D := D) (ci := 8) (v := .ref ((ad 3))) (C := RX8) (T := TX8) (N := 33) hx hb hts iX8 hown hK.1 hP 0 rfl rfl 3 (by decide) (hts _ q_682) (fun _ h9 => h9) rfl dX8_type_71 ?_
              refine lv_aload_n hx hb dX8_type_74 rfl (lv_at hl 0 rfl) ?_
              refine va_get (D := D) (ci := 8) (v := .int (σ 1 0)) (C := RX8) (T := TX8) (N := 33) hx hb hts iX8 hown hK.1 hP 0 rfl rfl 1 (by decide) (hts _ q_680) (fun _ h9 => h9) rfl dX8_type_75 ?_
              refine lv_iload_n hx hb dX8_type_78 rfl (lv_at hl 2 rfl) ?_
              refine iast_n hx hb hK.1 hP hD hS 2 0 rfl rfl (n) h1 (by omega) (by decide) dX8_type_79 (fun H locs hP hD hS => ?_)
              have hP : va_P D vwCl (mW G mo ad (su (su (su σ 0 (0) (0)) 2 (n) (sort)) 3 (n) (parent)) (τ)) H := hP
              have hD : va_D A (mW G mo ad (su (su (su σ 0 (0) (0)) 2 (n) (sort)) 3 (n) (parent)) (τ)) := hD
              refine lv_aload_n hx hb dX8_type_80 rfl (lv_at hl 0 rfl) ?_
              refine va_get (D := D) (ci := 8) (v := .ref ((ad 5))) (C := RX8) (T := TX8) (N := 33) hx hb hts iX8 hown hK.1 hP 0 rfl rfl 5 (by decide) (hts _ q_684) (fun _ h9 => h9) rfl dX8_type_81 ?_
              refine lv_aload_n hx hb dX8_type_84 rfl (lv_at hl 0 rfl) ?_
              refine va_get (D := D) (ci := 8) (v := .int (σ 1 0)) (C := RX8) (T := TX8) (N := 33) hx hb hts iX8 hown hK.1 hP 0 rfl rfl 1 (by decide) (hts _ q_680) (fun _ h9 => h9) rfl dX8_type_85 ?_
              refine lv_iconst (v := 0) hx hb dX8_type_88 (by decide) ?_
              refine iast_n hx hb hK.1 hP hD hS 4 0 rfl rfl (n) h1 (by omega) (by decide) dX8_type_89 (fun H locs hP hD hS => ?_)
              have hP : va_P D vwCl (mW G mo ad (su (su (su (su σ 0 (0) (0)) 2 (n) (sort)) 3 (n) (parent)) 5 (n) (0)) (τ)) H := hP
              have hD : va_D A (mW G mo ad (su (su (su (su σ 0 (0) (0)) 2 (n) (sort)) 3 (n) (parent)) 5 (n) (0)) (τ)) := hD
              refine lv_aload_n hx hb dX8_type_90 rfl (lv_at hl 0 rfl) ?_
              refine lv_dup hx hb dX8_type_91 rfl ?_
              refine va_get (D := D) (ci := 8) (v := .int (σ 1 0)) (C := RX8) (T := TX8) (N := 33) hx hb hts iX8 hown hK.1 hP 0 rfl rfl 1 (by decide) (hts _ q_680) (fun _ h9 => h9) rfl dX8_type_92 ?_
              refine lv_iconst (v := 1) hx hb dX8_type_95 (by decide) ?_
              refine lv_iadd hx hb dX8_type_96 ?_
              refine W.eq (g2 := F0 m 97 ls [.int (nI (n + 1)), .ref mo]) (congrArg (fun z9 => F0 m 97 ls [.int z9, .ref mo]) (n_add (a := n) (b := 1) h1 (rfl : (1 : Int32) = nI 1))) ?_
              refine va_put (D := D) (ci := 8) (v := .int (nI (n + 1))) (ty := .int) (C := RX8) (T := TX8) (N := 33) hx hb hts iX8 tyX8 tyX8_ok nmX8 hown hK.1 hP hD hS 0 rfl rfl 1 (by decide) (hts _ q_680) (fun _ h9 => h9) rfl (by decide +kernel) rfl rfl (Nat.le_of_ble_eq_true rfl) dX8_type_97 (fun H locs hP hD hS => ?_)
              have hP : va_P D vwCl (mW G mo ad (su (su (su (su (su σ 0 (0) (0)) 2 (n) (sort)) 3 (n) (parent)) 5 (n) (0)) 1 (0) (nI (n + 1))) (τ)) H := hP
              have hD : va_D A (mW G mo ad (su (su (su (su (su σ 0 (0) (0)) 2 (n) (sort)) 3 (n) (parent)) 5 (n) (0)) 1 (0) (nI (n + 1))) (τ)) := hD
              refine lv_aload_n hx hb dX8_type_100 rfl (lv_at hl 0 rfl) ?_
              refine lv_aload_n hx hb dX8_type_101 rfl (lv_at hl 0 rfl) ?_
              refine va_get (D := D) (ci := 8) (v := .int (nI (n + 1))) (C := RX8) (T := TX8) (N := 33) hx hb hts iX8 hown hK.1 hP 0 rfl rfl 1 (by decide) (hts _ q_680) (fun _ h9 => h9) rfl dX8_type_102 ?_
              refine lv_iconst (v := 1) hx hb dX8_type_105 (by decide) ?_
              refine lv_isub hx hb dX8_type_106 ?_
              refine W.eq (g2 := F0 m 107 ls [.int (nI n), .ref mo]) (congrArg (fun z9 => F0 m 107 ls [.int z9, .ref mo]) (nI_pred n)) ?_
              refine mu_Vv (D := D) (G := G) (mo := mo) (ad := ad) (u := (su (su (su (su (su σ 0 (0) (0)) 2 (n) (sort)) 3 (n) (parent)) 5 (n) (0)) 1 (0) (nI (n + 1)), τ)) (As := [.int (nI n)]) (rest := []) ⟨hx, hb, hml, hown, hts⟩ (m_reckons l D G mo ad (su (su (su (su (su σ 0 (0) (0)) 2 (n) (sort)) 3 (n) (parent)) 5 (n) (0)) 1 (0) (nI (n + 1))) (τ) _ (n) (by omega) (by show ¬ upd (σ 3) n parent n = -1 → okT (upd (σ 3) n parent n); rw [pk_us]; exact fun h9 => okT_n e_j8 (by omega)) (by show okC (upd (σ 5) n 0 n) ∧ ∀ k, k < (upd (σ 5) n 0 n).toNatClampNeg → okT (σ 4 (3 * n + k)); rw [pk_us]; exact ⟨⟨rfl, by decide⟩, fun k hk => absurd hk (Nat.not_lt_zero k)⟩) hb6) gV_X8_X8_reckons hdV_X8_reckons ⟨Nat.le_of_ble_eq_true rfl, Nat.le_of_ble_eq_true rfl⟩ hK hP hD hS hA rfl hl.1 rfl (Nat.le_of_ble_eq_true rfl) dX8_type_107 ⟨Nat.le_of_ble_eq_true rfl, Nat.le_of_ble_eq_true rfl⟩ (fun H locs hP hD hS => ?_)
              have hP : va_P D vwCl (mW G mo ad (st (su (su (su (su (su σ 0 (0) (0)) 2 (n) (sort)) 3 (n) (parent)) 5 (n) (0)) 1 (0) (nI (n + 1))) 6 (recF (σ 6) (upd (σ 3) (n) (parent)) (upd (σ 5) (n) (0)) (σ 4) n)) (τ)) H := hP
              have hD : va_D A (mW G mo ad (st (su (su (su (su (su σ 0 (0) (0)) 2 (n) (sort)) 3 (n) (parent)) 5 (n) (0)) 1 (0) (nI (n + 1))) 6 (recF (σ 6) (upd (σ 3) (n) (parent)) (upd (σ 5) (n) (0)) (σ 4) n)) (τ)) := hD
              refine lv_aload_n hx hb dX8_type_110 rfl (lv_at hl 0 rfl) ?_
              refine va_get (D := D) (ci := 8) (v := .int (nI (n + 1))) (C := RX8) (T := TX8) (N := 33) hx hb hts iX8 hown hK.1 hP 0 rfl rfl 1 (by decide) (hts _ q_680) (fun _ h9 => h9) rfl dX8_type_111 ?_
              refine lv_iconst (v := 1) hx hb dX8_type_114 (by decide) ?_
              refine lv_isub hx hb dX8_type_115 ?_
              refine W.eq (g2 := F0 m 116 ls [.int (nI n)]) (congrArg (fun z9 => F0 m 116 ls [.int z9]) (nI_pred n)) ?_
              have ho : oType σ τ n sort parent = (nI n, st (su (su (su (su (su σ 0 (0) (0)) 2 (n) (sort)) 3 (n) (parent)) 5 (n) (0)) 1 (0) (nI (n + 1))) 6 (recF (σ 6) (upd (σ 3) (n) (parent)) (upd (σ 5) (n) (0)) (σ 4) n), τ) := by unfold oType; simp only [eq_true c2, eq_false c3, eq_false c5, eq_true c7, eq_true c9, eq_false c10, show (parent).toNatClampNeg = j8 by rw [e_j8]; exact nI_clamp (by omega), not_true, not_false_iff, not_true_eq_false, not_false_eq_true, true_or, or_true, false_or, or_false, or_self, and_self, true_and, and_true, false_and, and_false, if_true, if_false]
              exact mu_iret (v0 := nI n) (z := (st (su (su (su (su (su σ 0 (0) (0)) 2 (n) (sort)) 3 (n) (parent)) 5 (n) (0)) 1 (0) (nI (n + 1))) 6 (recF (σ 6) (upd (σ 3) (n) (parent)) (upd (σ 5) (n) (0)) (σ 4) n), τ)) hx hb hr hlocks hP hD hS dX8_type_116 (by rw [ho]) (by rw [ho])
            · -- 54 not
              have c10 : n = 12 := nI_inj (by omega) (by omega) (by have h8 := c10; rw [h1] at h8; exact h8)
              refine lv_bipush (v := -15) hx hb dX8_type_57 (by decide) ?_
              have ho : oType σ τ n sort parent = ((-15), su σ 0 (0) (0), τ) := by unfold oType; simp only [eq_true c2, eq_false c3, eq_false c5, eq_true c7, eq_true c9, eq_true c10, show (parent).toNatClampNeg = j8 by rw [e_j8]; exact nI_clamp (by omega), not_true, not_false_iff, not_true_eq_false, not_false_eq_true, true_or, or_true, false_or, or_false, or_self, and_self, true_and, and_true, false_and, and_false, if_true, if_false]
              exact mu_iret (v0 := (-15)) (z := (su σ 0 (0) (0), τ)) hx hb hr hlocks hP hD hS dX8_type_59 (by rw [ho]) (by rw [ho])
          · -- 42 not
            refine lv_bipush (v := -11) hx hb dX8_type_45 (by decide) ?_
            have ho : oType σ τ n sort parent = ((-11), su σ 0 (0) (0), τ) := by unfold oType; simp only [eq_true c2, eq_false c3, eq_false c5, eq_true c7, eq_false c9, show (parent).toNatClampNeg = j8 by rw [e_j8]; exact nI_clamp (by omega), not_true, not_false_iff, not_true_eq_false, not_false_eq_true, true_or, or_true, false_or, or_false, or_self, and_self, true_and, and_true, false_and, and_false, if_true, if_false]
            exact mu_iret (v0 := (-11)) (z := (su σ 0 (0) (0), τ)) hx hb hr hlocks hP hD hS dX8_type_47 (by rw [ho]) (by rw [ho])
  · -- 11 not
    have c2 := bI_0 c2
    refine lv_bipush (v := -13) hx hb dX8_type_14 (by decide) ?_
    have ho : oType σ τ n sort parent = ((-13), su σ 0 (0) (0), τ) := by unfold oType; simp only [eq_false c2, not_true, not_false_iff, not_true_eq_false, not_false_eq_true, true_or, or_true, false_or, or_false, or_self, and_self, true_and, and_true, false_and, and_false, if_true, if_false]
    exact mu_iret (v0 := (-13)) (z := (su σ 0 (0) (0), τ)) hx hb hr hlocks hP hD hS dX8_type_16 (by rw [ho]) (by rw [ho])
end
section
theorem dX8_way_0 : decode cX8_way 0 = .ok (.aload_n 0, 1) := by decide +kernel
theorem dX8_way_1 : decode cX8_way 1 = .ok (.iconst 0, 1) := by decide +kernel
theorem dX8_way_2 : decode cX8_way 2 = .ok (.putfield 90, 3) := by decide +kernel
theorem dX8_way_5 : decode cX8_way 5 = .ok (.aload_n 0, 1) := by decide +kernel
theorem q_704 : Cond.fieldLink "FieldMemberModel" 227 "FieldMemberModel" "way" "I" ∈ TT := tt_t (i := 704) (by decide +kernel) (by decide +kernel)
theorem dX8_way_6 : decode cX8_way 6 = .ok (.getfield 227, 3) := by decide +kernel
theorem dX8_way_9 : decode cX8_way 9 = .ok (.ireturn, 1) := by decide +kernel
theorem dX8_below_0 : decode cX8_below 0 = .ok (.aload_n 0, 1) := by decide +kernel
theorem dX8_below_1 : decode cX8_below 1 = .ok (.iconst 0, 1) := by decide +kernel
theorem dX8_below_2 : decode cX8_below 2 = .ok (.putfield 90, 3) := by decide +kernel
theorem dX8_below_5 : decode cX8_below 5 = .ok (.aload_n 0, 1) := by decide +kernel
theorem dX8_below_6 : decode cX8_below 6 = .ok (.iload_n 1, 1) := by decide +kernel
theorem dX8_below_7 : decode cX8_below 7 = .ok (.invokevirtual 104, 3) := by decide +kernel
theorem dX8_below_10 : decode cX8_below 10 = .ok (.ifCond .eq 11, 3) := by decide +kernel
theorem dX8_below_21 : decode cX8_below 21 = .ok (.bipush (-11), 2) := by decide +kernel
theorem dX8_below_23 : decode cX8_below 23 = .ok (.goto 17, 3) := by decide +kernel
theorem dX8_below_40 : decode cX8_below 40 = .ok (.ireturn, 1) := by decide +kernel
theorem dX8_below_13 : decode cX8_below 13 = .ok (.aload_n 0, 1) := by decide +kernel
theorem dX8_below_14 : decode cX8_below 14 = .ok (.iload_n 2, 1) := by decide +kernel
theorem dX8_below_15 : decode cX8_below 15 = .ok (.invokevirtual 104, 3) := by decide +kernel
theorem dX8_below_18 : decode cX8_below 18 = .ok (.ifCond .ne 8, 3) := by decide +kernel
theorem dX8_below_26 : decode cX8_below 26 = .ok (.aload_n 0, 1) := by decide +kernel
theorem dX8_below_27 : decode cX8_below 27 = .ok (.iload_n 1, 1) := by decide +kernel
theorem dX8_below_28 : decode cX8_below 28 = .ok (.iload_n 2, 1) := by decide +kernel
theorem dX8_below_29 : decode cX8_below 29 = .ok (.invokevirtual 126, 3) := by decide +kernel
theorem dX8_below_32 : decode cX8_below 32 = .ok (.ifCond .eq 7, 3) := by decide +kernel
theorem dX8_below_39 : decode cX8_below 39 = .ok (.iconst 0, 1) := by decide +kernel
theorem dX8_below_35 : decode cX8_below 35 = .ok (.iconst 1, 1) := by decide +kernel
theorem dX8_below_36 : decode cX8_below 36 = .ok (.goto 4, 3) := by decide +kernel
theorem dX8_lays_0 : decode cX8_lays 0 = .ok (.aload_n 0, 1) := by decide +kernel
theorem dX8_lays_1 : decode cX8_lays 1 = .ok (.getfield 29, 3) := by decide +kernel
theorem dX8_lays_4 : decode cX8_lays 4 = .ok (.aload_n 0, 1) := by decide +kernel
theorem dX8_lays_5 : decode cX8_lays 5 = .ok (.getfield 119, 3) := by decide +kernel
theorem dX8_lays_8 : decode cX8_lays 8 = .ok (.iload_n 1, 1) := by decide +kernel
theorem dX8_lays_9 : decode cX8_lays 9 = .ok (.iastore, 1) := by decide +kernel
theorem dX8_lays_10 : decode cX8_lays 10 = .ok (.aload_n 0, 1) := by decide +kernel
theorem dX8_lays_11 : decode cX8_lays 11 = .ok (.getfield 32, 3) := by decide +kernel
theorem dX8_lays_14 : decode cX8_lays 14 = .ok (.aload_n 0, 1) := by decide +kernel
theorem dX8_lays_15 : decode cX8_lays 15 = .ok (.getfield 119, 3) := by decide +kernel
theorem dX8_lays_18 : decode cX8_lays 18 = .ok (.iload_n 2, 1) := by decide +kernel
theorem dX8_lays_19 : decode cX8_lays 19 = .ok (.iastore, 1) := by decide +kernel
theorem dX8_lays_20 : decode cX8_lays 20 = .ok (.aload_n 0, 1) := by decide +kernel
theorem dX8_lays_21 : decode cX8_lays 21 = .ok (.getfield 35, 3) := by decide +kernel
theorem dX8_lays_24 : decode cX8_lays 24 = .ok (.aload_n 0, 1) := by decide +kernel
theorem dX8_lays_25 : decode cX8_lays 25 = .ok (.getfield 119, 3) := by decide +kernel
theorem dX8_lays_28 : decode cX8_lays 28 = .ok (.iload_n 3, 1) := by decide +kernel
theorem dX8_lays_29 : decode cX8_lays 29 = .ok (.iastore, 1) := by decide +kernel
theorem dX8_lays_30 : decode cX8_lays 30 = .ok (.aload_n 0, 1) := by decide +kernel
theorem dX8_lays_31 : decode cX8_lays 31 = .ok (.getfield 38, 3) := by decide +kernel
theorem dX8_lays_34 : decode cX8_lays 34 = .ok (.aload_n 0, 1) := by decide +kernel
theorem dX8_lays_35 : decode cX8_lays 35 = .ok (.getfield 119, 3) := by decide +kernel
theorem dX8_lays_38 : decode cX8_lays 38 = .ok (.iload 4, 2) := by decide +kernel
theorem dX8_lays_40 : decode cX8_lays 40 = .ok (.iastore, 1) := by decide +kernel
theorem dX8_lays_41 : decode cX8_lays 41 = .ok (.aload_n 0, 1) := by decide +kernel
theorem dX8_lays_42 : decode cX8_lays 42 = .ok (.getfield 41, 3) := by decide +kernel
theorem dX8_lays_45 : decode cX8_lays 45 = .ok (.aload_n 0, 1) := by decide +kernel
theorem dX8_lays_46 : decode cX8_lays 46 = .ok (.getfield 119, 3) := by decide +kernel
theorem dX8_lays_49 : decode cX8_lays 49 = .ok (.iload 5, 2) := by decide +kernel
theorem dX8_lays_51 : decode cX8_lays 51 = .ok (.iastore, 1) := by decide +kernel
theorem dX8_lays_52 : decode cX8_lays 52 = .ok (.return_, 1) := by decide +kernel
theorem dX8_field_0 : decode cX8_field 0 = .ok (.aload_n 0, 1) := by decide +kernel
theorem dX8_field_1 : decode cX8_field 1 = .ok (.iconst 0, 1) := by decide +kernel
theorem dX8_field_2 : decode cX8_field 2 = .ok (.putfield 90, 3) := by decide +kernel
theorem dX8_field_5 : decode cX8_field 5 = .ok (.aload_n 0, 1) := by decide +kernel
theorem dX8_field_6 : decode cX8_field 6 = .ok (.iload_n 1, 1) := by decide +kernel
theorem dX8_field_7 : decode cX8_field 7 = .ok (.iload_n 2, 1) := by decide +kernel
theorem dX8_field_8 : decode cX8_field 8 = .ok (.iload_n 3, 1) := by decide +kernel
theorem dX8_field_9 : decode cX8_field 9 = .ok (.iload 4, 2) := by decide +kernel
theorem dX8_field_11 : decode cX8_field 11 = .ok (.iload 5, 2) := by decide +kernel
theorem q_823 : Cond.methodLink "FieldMemberModel" 133 ⟨"FieldMemberModel", "refusal", "(IIIII)I"⟩ ∈ TT := tt_t (i := 823) (by decide +kernel) (by decide +kernel)
theorem q_826 : Cond.code ⟨"FieldMemberModel", "refusal", "(IIIII)I"⟩ prog_10_method_15_code 6 (some .int) ∈ TT := tt_t (i := 826) (by decide +kernel) (by decide +kernel)
theorem q_825 : Cond.instanceMethod ⟨"FieldMemberModel", "refusal", "(IIIII)I"⟩ ∈ TT := tt_t (i := 825) (by decide +kernel) (by decide +kernel)
theorem qs_36 : Cond.selects "FieldMemberModel" ⟨"FieldMemberModel", "refusal", "(IIIII)I"⟩ ⟨"FieldMemberModel", "refusal", "(IIIII)I"⟩ ∈ TT := tt_s (i := 36) (by decide +kernel) (by decide +kernel)
theorem gV_X8_X8_refusal : GoodIn TT (wsV RX8 133 RX8 yX8_refusal (ww yX8_refusal cX8_refusal 6 (some .int))) := tt_V q_823 q_825 qs_36 q_4 q_826
theorem hdV_X8_refusal : yX8_refusal.cls = RX8 ∧ yX8_refusal.cls ≠ "java/lang/invoke/MethodHandle" ∧ yX8_refusal.cls ≠ "java/lang/invoke/VarHandle" ∧ (parseMethodDescriptor yX8_refusal.desc).map (fun d => d.parameters.length) = some 5 := by decide +kernel
theorem dX8_field_13 : decode cX8_field 13 = .ok (.invokevirtual 133, 3) := by decide +kernel
theorem dX8_field_16 : decode cX8_field 16 = .ok (.istore 6, 2) := by decide +kernel
theorem dX8_field_18 : decode cX8_field 18 = .ok (.iload 6, 2) := by decide +kernel
theorem dX8_field_20 : decode cX8_field 20 = .ok (.ifCond .ge 6, 3) := by decide +kernel
theorem dX8_field_26 : decode cX8_field 26 = .ok (.aload_n 0, 1) := by decide +kernel
theorem dX8_field_27 : decode cX8_field 27 = .ok (.iload_n 1, 1) := by decide +kernel
theorem dX8_field_28 : decode cX8_field 28 = .ok (.iload_n 2, 1) := by decide +kernel
theorem dX8_field_29 : decode cX8_field 29 = .ok (.iload_n 3, 1) := by decide +kernel
theorem dX8_field_30 : decode cX8_field 30 = .ok (.iload 5, 2) := by decide +kernel
theorem q_831 : Cond.methodLink "FieldMemberModel" 137 ⟨"FieldMemberModel", "ruleOfField", "(IIII)I"⟩ ∈ TT := tt_t (i := 831) (by decide +kernel) (by decide +kernel)
theorem q_834 : Cond.code ⟨"FieldMemberModel", "ruleOfField", "(IIII)I"⟩ prog_10_method_17_code 5 (some .int) ∈ TT := tt_t (i := 834) (by decide +kernel) (by decide +kernel)
theorem q_833 : Cond.instanceMethod ⟨"FieldMemberModel", "ruleOfField", "(IIII)I"⟩ ∈ TT := tt_t (i := 833) (by decide +kernel) (by decide +kernel)
theorem qs_38 : Cond.selects "FieldMemberModel" ⟨"FieldMemberModel", "ruleOfField", "(IIII)I"⟩ ⟨"FieldMemberModel", "ruleOfField", "(IIII)I"⟩ ∈ TT := tt_s (i := 38) (by decide +kernel) (by decide +kernel)
theorem gV_X8_X8_ruleOfField : GoodIn TT (wsV RX8 137 RX8 yX8_ruleOfField (ww yX8_ruleOfField cX8_ruleOfField 5 (some .int))) := tt_V q_831 q_833 qs_38 q_4 q_834
theorem hdV_X8_ruleOfField : yX8_ruleOfField.cls = RX8 ∧ yX8_ruleOfField.cls ≠ "java/lang/invoke/MethodHandle" ∧ yX8_ruleOfField.cls ≠ "java/lang/invoke/VarHandle" ∧ (parseMethodDescriptor yX8_ruleOfField.desc).map (fun d => d.parameters.length) = some 4 := by decide +kernel
theorem dX8_field_32 : decode cX8_field 32 = .ok (.invokevirtual 137, 3) := by decide +kernel
theorem dX8_field_35 : decode cX8_field 35 = .ok (.istore 7, 2) := by decide +kernel
theorem dX8_field_37 : decode cX8_field 37 = .ok (.iload 7, 2) := by decide +kernel
theorem dX8_field_39 : decode cX8_field 39 = .ok (.ifCond .le 10, 3) := by decide +kernel
theorem dX8_field_49 : decode cX8_field 49 = .ok (.aload_n 0, 1) := by decide +kernel
theorem dX8_field_50 : decode cX8_field 50 = .ok (.iload_n 1, 1) := by decide +kernel
theorem dX8_field_51 : decode cX8_field 51 = .ok (.iload_n 2, 1) := by decide +kernel
theorem dX8_field_52 : decode cX8_field 52 = .ok (.iload_n 3, 1) := by decide +kernel
theorem dX8_field_53 : decode cX8_field 53 = .ok (.iload 4, 2) := by decide +kernel
theorem dX8_field_55 : decode cX8_field 55 = .ok (.aload_n 0, 1) := by decide +kernel
theorem dX8_field_56 : decode cX8_field 56 = .ok (.iload_n 1, 1) := by decide +kernel
theorem dX8_field_57 : decode cX8_field 57 = .ok (.invokevirtual 116, 3) := by decide +kernel
theorem dX8_field_60 : decode cX8_field 60 = .ok (.ifCond .eq 16, 3) := by decide +kernel
theorem dX8_field_76 : decode cX8_field 76 = .ok (.iload 5, 2) := by decide +kernel
theorem q_846 : Cond.methodLink "FieldMemberModel" 145 ⟨"FieldMemberModel", "lays", "(IIIII)V"⟩ ∈ TT := tt_t (i := 846) (by decide +kernel) (by decide +kernel)
theorem q_849 : Cond.code ⟨"FieldMemberModel", "lays", "(IIIII)V"⟩ prog_10_method_19_code 6 none ∈ TT := tt_t (i := 849) (by decide +kernel) (by decide +kernel)
theorem q_848 : Cond.instanceMethod ⟨"FieldMemberModel", "lays", "(IIIII)V"⟩ ∈ TT := tt_t (i := 848) (by decide +kernel) (by decide +kernel)
theorem qs_41 : Cond.selects "FieldMemberModel" ⟨"FieldMemberModel", "lays", "(IIIII)V"⟩ ⟨"FieldMemberModel", "lays", "(IIIII)V"⟩ ∈ TT := tt_s (i := 41) (by decide +kernel) (by decide +kernel)
theorem gV_X8_X8_lays : GoodIn TT (wsV RX8 145 RX8 yX8_lays (ww yX8_lays cX8_lays 6 none)) := tt_V q_846 q_848 qs_41 q_4 q_849
theorem hdV_X8_lays : yX8_lays.cls = RX8 ∧ yX8_lays.cls ≠ "java/lang/invoke/MethodHandle" ∧ yX8_lays.cls ≠ "java/lang/invoke/VarHandle" ∧ (parseMethodDescriptor yX8_lays.desc).map (fun d => d.parameters.length) = some 5 := by decide +kernel
theorem dX8_field_78 : decode cX8_field 78 = .ok (.invokevirtual 145, 3) := by decide +kernel
theorem dX8_field_81 : decode cX8_field 81 = .ok (.aload_n 0, 1) := by decide +kernel
theorem dX8_field_82 : decode cX8_field 82 = .ok (.getfield 26, 3) := by decide +kernel
theorem dX8_field_85 : decode cX8_field 85 = .ok (.aload_n 0, 1) := by decide +kernel
theorem dX8_field_86 : decode cX8_field 86 = .ok (.getfield 119, 3) := by decide +kernel
theorem dX8_field_89 : decode cX8_field 89 = .ok (.iconst 0, 1) := by decide +kernel
theorem dX8_field_90 : decode cX8_field 90 = .ok (.bastore, 1) := by decide +kernel
theorem dX8_field_91 : decode cX8_field 91 = .ok (.aload_n 0, 1) := by decide +kernel
theorem q_693 : Cond.fieldLink "FieldMemberModel" 44 "FieldMemberModel" "isTold" "[Z" ∈ TT := tt_t (i := 693) (by decide +kernel) (by decide +kernel)
theorem dX8_field_92 : decode cX8_field 92 = .ok (.getfield 44, 3) := by decide +kernel
theorem dX8_field_95 : decode cX8_field 95 = .ok (.aload_n 0, 1) := by decide +kernel
theorem dX8_field_96 : decode cX8_field 96 = .ok (.getfield 119, 3) := by decide +kernel
theorem dX8_field_99 : decode cX8_field 99 = .ok (.iconst 0, 1) := by decide +kernel
theorem dX8_field_100 : decode cX8_field 100 = .ok (.bastore, 1) := by decide +kernel
theorem dX8_field_101 : decode cX8_field 101 = .ok (.aload_n 0, 1) := by decide +kernel
theorem dX8_field_102 : decode cX8_field 102 = .ok (.dup, 1) := by decide +kernel
theorem dX8_field_103 : decode cX8_field 103 = .ok (.getfield 119, 3) := by decide +kernel
theorem dX8_field_106 : decode cX8_field 106 = .ok (.iconst 1, 1) := by decide +kernel
theorem dX8_field_107 : decode cX8_field 107 = .ok (.iadd, 1) := by decide +kernel
theorem dX8_field_108 : decode cX8_field 108 = .ok (.putfield 119, 3) := by decide +kernel
theorem dX8_field_111 : decode cX8_field 111 = .ok (.aload_n 0, 1) := by decide +kernel
theorem dX8_field_112 : decode cX8_field 112 = .ok (.getfield 119, 3) := by decide +kernel
theorem dX8_field_115 : decode cX8_field 115 = .ok (.iconst 1, 1) := by decide +kernel
theorem dX8_field_116 : decode cX8_field 116 = .ok (.isub, 1) := by decide +kernel
theorem dX8_field_117 : decode cX8_field 117 = .ok (.ireturn, 1) := by decide +kernel
theorem dX8_field_63 : decode cX8_field 63 = .ok (.iload 5, 2) := by decide +kernel
theorem dX8_field_65 : decode cX8_field 65 = .ok (.iconst 1, 1) := by decide +kernel
theorem dX8_field_66 : decode cX8_field 66 = .ok (.ior, 1) := by decide +kernel
theorem dX8_field_67 : decode cX8_field 67 = .ok (.bipush 8, 2) := by decide +kernel
theorem dX8_field_69 : decode cX8_field 69 = .ok (.ior, 1) := by decide +kernel
theorem dX8_field_70 : decode cX8_field 70 = .ok (.bipush 16, 2) := by decide +kernel
theorem dX8_field_72 : decode cX8_field 72 = .ok (.ior, 1) := by decide +kernel
theorem dX8_field_73 : decode cX8_field 73 = .ok (.goto 5, 3) := by decide +kernel
theorem dX8_field_42 : decode cX8_field 42 = .ok (.aload_n 0, 1) := by decide +kernel
theorem dX8_field_43 : decode cX8_field 43 = .ok (.iload 7, 2) := by decide +kernel
theorem q_842 : Cond.methodLink "FieldMemberModel" 141 ⟨"FieldMemberModel", "breaks", "(I)I"⟩ ∈ TT := tt_t (i := 842) (by decide +kernel) (by decide +kernel)
theorem q_845 : Cond.code ⟨"FieldMemberModel", "breaks", "(I)I"⟩ prog_10_method_6_code 2 (some .int) ∈ TT := tt_t (i := 845) (by decide +kernel) (by decide +kernel)
theorem q_844 : Cond.instanceMethod ⟨"FieldMemberModel", "breaks", "(I)I"⟩ ∈ TT := tt_t (i := 844) (by decide +kernel) (by decide +kernel)
theorem qs_40 : Cond.selects "FieldMemberModel" ⟨"FieldMemberModel", "breaks", "(I)I"⟩ ⟨"FieldMemberModel", "breaks", "(I)I"⟩ ∈ TT := tt_s (i := 40) (by decide +kernel) (by decide +kernel)
theorem gV_X8_X8_breaks : GoodIn TT (wsV RX8 141 RX8 yX8_breaks (ww yX8_breaks cX8_breaks 2 (some .int))) := tt_V q_842 q_844 qs_40 q_4 q_845
theorem hdV_X8_breaks : yX8_breaks.cls = RX8 ∧ yX8_breaks.cls ≠ "java/lang/invoke/MethodHandle" ∧ yX8_breaks.cls ≠ "java/lang/invoke/VarHandle" ∧ (parseMethodDescriptor yX8_breaks.desc).map (fun d => d.parameters.length) = some 1 := by decide +kernel
theorem dX8_field_45 : decode cX8_field 45 = .ok (.invokevirtual 141, 3) := by decide +kernel
theorem dX8_field_48 : decode cX8_field 48 = .ok (.ireturn, 1) := by decide +kernel
theorem dX8_field_23 : decode cX8_field 23 = .ok (.iload 6, 2) := by decide +kernel
theorem dX8_field_25 : decode cX8_field 25 = .ok (.ireturn, 1) := by decide +kernel
theorem dX8_member_0 : decode cX8_member 0 = .ok (.aload_n 0, 1) := by decide +kernel
theorem dX8_member_1 : decode cX8_member 1 = .ok (.iconst 0, 1) := by decide +kernel
theorem dX8_member_2 : decode cX8_member 2 = .ok (.putfield 90, 3) := by decide +kernel
theorem dX8_member_5 : decode cX8_member 5 = .ok (.aload_n 0, 1) := by decide +kernel
theorem dX8_member_6 : decode cX8_member 6 = .ok (.iload_n 1, 1) := by decide +kernel
theorem dX8_member_7 : decode cX8_member 7 = .ok (.iload_n 2, 1) := by decide +kernel
theorem dX8_member_8 : decode cX8_member 8 = .ok (.iload_n 3, 1) := by decide +kernel
theorem dX8_member_9 : decode cX8_member 9 = .ok (.iload 4, 2) := by decide +kernel
theorem dX8_member_11 : decode cX8_member 11 = .ok (.iload 5, 2) := by decide +kernel
theorem dX8_member_13 : decode cX8_member 13 = .ok (.invokevirtual 133, 3) := by decide +kernel
theorem dX8_member_16 : decode cX8_member 16 = .ok (.istore 7, 2) := by decide +kernel
theorem dX8_member_18 : decode cX8_member 18 = .ok (.iload 7, 2) := by decide +kernel
theorem dX8_member_20 : decode cX8_member 20 = .ok (.ifCond .ge 6, 3) := by decide +kernel
theorem dX8_member_26 : decode cX8_member 26 = .ok (.aload_n 0, 1) := by decide +kernel
theorem dX8_member_27 : decode cX8_member 27 = .ok (.iload_n 1, 1) := by decide +kernel
theorem dX8_member_28 : decode cX8_member 28 = .ok (.iload 5, 2) := by decide +kernel
theorem dX8_member_30 : decode cX8_member 30 = .ok (.iload 6, 2) := by decide +kernel
theorem q_886 : Cond.methodLink "FieldMemberModel" 171 ⟨"FieldMemberModel", "ruleOfMember", "(IIZ)I"⟩ ∈ TT := tt_t (i := 886) (by decide +kernel) (by decide +kernel)
theorem q_889 : Cond.code ⟨"FieldMemberModel", "ruleOfMember", "(IIZ)I"⟩ prog_10_method_24_code 8 (some .int) ∈ TT := tt_t (i := 889) (by decide +kernel) (by decide +kernel)
theorem q_888 : Cond.instanceMethod ⟨"FieldMemberModel", "ruleOfMember", "(IIZ)I"⟩ ∈ TT := tt_t (i := 888) (by decide +kernel) (by decide +kernel)
theorem qs_43 : Cond.selects "FieldMemberModel" ⟨"FieldMemberModel", "ruleOfMember", "(IIZ)I"⟩ ⟨"FieldMemberModel", "ruleOfMember", "(IIZ)I"⟩ ∈ TT := tt_s (i := 43) (by decide +kernel) (by decide +kernel)
theorem gV_X8_X8_ruleOfMember : GoodIn TT (wsV RX8 171 RX8 yX8_ruleOfMember (ww yX8_ruleOfMember cX8_ruleOfMember 8 (some .int))) := tt_V q_886 q_888 qs_43 q_4 q_889
theorem hdV_X8_ruleOfMember : yX8_ruleOfMember.cls = RX8 ∧ yX8_ruleOfMember.cls ≠ "java/lang/invoke/MethodHandle" ∧ yX8_ruleOfMember.cls ≠ "java/lang/invoke/VarHandle" ∧ (parseMethodDescriptor yX8_ruleOfMember.desc).map (fun d => d.parameters.length) = some 3 := by decide +kernel
theorem dX8_member_32 : decode cX8_member 32 = .ok (.invokevirtual 171, 3) := by decide +kernel
theorem dX8_member_35 : decode cX8_member 35 = .ok (.istore 8, 2) := by decide +kernel
theorem dX8_member_37 : decode cX8_member 37 = .ok (.iload 8, 2) := by decide +kernel
theorem dX8_member_39 : decode cX8_member 39 = .ok (.ifCond .le 10, 3) := by decide +kernel
theorem dX8_member_49 : decode cX8_member 49 = .ok (.iload 5, 2) := by decide +kernel
theorem dX8_member_51 : decode cX8_member 51 = .ok (.istore 9, 2) := by decide +kernel
theorem dX8_member_53 : decode cX8_member 53 = .ok (.aload_n 0, 1) := by decide +kernel
theorem dX8_member_54 : decode cX8_member 54 = .ok (.iload_n 1, 1) := by decide +kernel
theorem dX8_member_55 : decode cX8_member 55 = .ok (.invokevirtual 116, 3) := by decide +kernel
theorem dX8_member_58 : decode cX8_member 58 = .ok (.ifCond .eq 41, 3) := by decide +kernel
theorem dX8_member_99 : decode cX8_member 99 = .ok (.aload_n 0, 1) := by decide +kernel
theorem dX8_member_100 : decode cX8_member 100 = .ok (.iload_n 1, 1) := by decide +kernel
theorem dX8_member_101 : decode cX8_member 101 = .ok (.iload_n 2, 1) := by decide +kernel
theorem dX8_member_102 : decode cX8_member 102 = .ok (.iload_n 3, 1) := by decide +kernel
theorem dX8_member_103 : decode cX8_member 103 = .ok (.iload 4, 2) := by decide +kernel
theorem dX8_member_105 : decode cX8_member 105 = .ok (.iload 9, 2) := by decide +kernel
theorem dX8_member_107 : decode cX8_member 107 = .ok (.invokevirtual 145, 3) := by decide +kernel
theorem dX8_member_110 : decode cX8_member 110 = .ok (.aload_n 0, 1) := by decide +kernel
theorem dX8_member_111 : decode cX8_member 111 = .ok (.getfield 51, 3) := by decide +kernel
theorem dX8_member_114 : decode cX8_member 114 = .ok (.aload_n 0, 1) := by decide +kernel
theorem dX8_member_115 : decode cX8_member 115 = .ok (.getfield 119, 3) := by decide +kernel
theorem dX8_member_118 : decode cX8_member 118 = .ok (.iload 6, 2) := by decide +kernel
theorem dX8_member_120 : decode cX8_member 120 = .ok (.bastore, 1) := by decide +kernel
theorem dX8_member_121 : decode cX8_member 121 = .ok (.aload_n 0, 1) := by decide +kernel
theorem dX8_member_122 : decode cX8_member 122 = .ok (.getfield 54, 3) := by decide +kernel
theorem dX8_member_125 : decode cX8_member 125 = .ok (.aload_n 0, 1) := by decide +kernel
theorem dX8_member_126 : decode cX8_member 126 = .ok (.getfield 119, 3) := by decide +kernel
theorem dX8_member_129 : decode cX8_member 129 = .ok (.iconst 0, 1) := by decide +kernel
theorem dX8_member_130 : decode cX8_member 130 = .ok (.bastore, 1) := by decide +kernel
theorem dX8_member_131 : decode cX8_member 131 = .ok (.aload_n 0, 1) := by decide +kernel
theorem dX8_member_132 : decode cX8_member 132 = .ok (.getfield 57, 3) := by decide +kernel
theorem dX8_member_135 : decode cX8_member 135 = .ok (.aload_n 0, 1) := by decide +kernel
theorem dX8_member_136 : decode cX8_member 136 = .ok (.getfield 119, 3) := by decide +kernel
theorem dX8_member_139 : decode cX8_member 139 = .ok (.iconst 0, 1) := by decide +kernel
theorem dX8_member_140 : decode cX8_member 140 = .ok (.iastore, 1) := by decide +kernel
theorem dX8_member_141 : decode cX8_member 141 = .ok (.aload_n 0, 1) := by decide +kernel
theorem dX8_member_142 : decode cX8_member 142 = .ok (.iconst 1, 1) := by decide +kernel
theorem dX8_member_143 : decode cX8_member 143 = .ok (.putfield 122, 3) := by decide +kernel
theorem dX8_member_146 : decode cX8_member 146 = .ok (.iconst 1, 1) := by decide +kernel
theorem dX8_member_147 : decode cX8_member 147 = .ok (.ireturn, 1) := by decide +kernel
theorem dX8_member_61 : decode cX8_member 61 = .ok (.iload 9, 2) := by decide +kernel
theorem dX8_member_63 : decode cX8_member 63 = .ok (.iload 5, 2) := by decide +kernel
theorem dX8_member_65 : decode cX8_member 65 = .ok (.iconst 4, 1) := by decide +kernel
theorem dX8_member_66 : decode cX8_member 66 = .ok (.iand, 1) := by decide +kernel
theorem dX8_member_67 : decode cX8_member 67 = .ok (.ifCond .ne 7, 3) := by decide +kernel
theorem dX8_member_74 : decode cX8_member 74 = .ok (.iconst 0, 1) := by decide +kernel
theorem dX8_member_75 : decode cX8_member 75 = .ok (.ior, 1) := by decide +kernel
theorem dX8_member_76 : decode cX8_member 76 = .ok (.istore 9, 2) := by decide +kernel
theorem dX8_member_78 : decode cX8_member 78 = .ok (.iload 9, 2) := by decide +kernel
theorem dX8_member_80 : decode cX8_member 80 = .ok (.iload 5, 2) := by decide +kernel
theorem dX8_member_82 : decode cX8_member 82 = .ok (.sipush 1036, 3) := by decide +kernel
theorem dX8_member_85 : decode cX8_member 85 = .ok (.iand, 1) := by decide +kernel
theorem dX8_member_86 : decode cX8_member 86 = .ok (.ifCond .ne 9, 3) := by decide +kernel
theorem dX8_member_95 : decode cX8_member 95 = .ok (.iconst 0, 1) := by decide +kernel
theorem dX8_member_96 : decode cX8_member 96 = .ok (.ior, 1) := by decide +kernel
theorem dX8_member_97 : decode cX8_member 97 = .ok (.istore 9, 2) := by decide +kernel
theorem dX8_member_89 : decode cX8_member 89 = .ok (.sipush 128, 3) := by decide +kernel
theorem dX8_member_92 : decode cX8_member 92 = .ok (.goto 4, 3) := by decide +kernel
theorem dX8_member_70 : decode cX8_member 70 = .ok (.iconst 1, 1) := by decide +kernel
theorem dX8_member_71 : decode cX8_member 71 = .ok (.goto 4, 3) := by decide +kernel
theorem dX8_member_42 : decode cX8_member 42 = .ok (.aload_n 0, 1) := by decide +kernel
theorem dX8_member_43 : decode cX8_member 43 = .ok (.iload 8, 2) := by decide +kernel
theorem dX8_member_45 : decode cX8_member 45 = .ok (.invokevirtual 141, 3) := by decide +kernel
theorem dX8_member_48 : decode cX8_member 48 = .ok (.ireturn, 1) := by decide +kernel
theorem dX8_member_23 : decode cX8_member 23 = .ok (.iload 7, 2) := by decide +kernel
theorem dX8_member_25 : decode cX8_member 25 = .ok (.ireturn, 1) := by decide +kernel
theorem dX8_value_0 : decode cX8_value 0 = .ok (.aload_n 0, 1) := by decide +kernel
theorem dX8_value_1 : decode cX8_value 1 = .ok (.aload_n 0, 1) := by decide +kernel
theorem dX8_value_2 : decode cX8_value 2 = .ok (.iload_n 1, 1) := by decide +kernel
theorem q_854 : Cond.methodLink "FieldMemberModel" 156 ⟨"FieldMemberModel", "isEntry", "(I)Z"⟩ ∈ TT := tt_t (i := 854) (by decide +kernel) (by decide +kernel)
theorem q_857 : Cond.code ⟨"FieldMemberModel", "isEntry", "(I)Z"⟩ prog_10_method_20_code 2 (some .boolean) ∈ TT := tt_t (i := 857) (by decide +kernel) (by decide +kernel)
theorem q_856 : Cond.instanceMethod ⟨"FieldMemberModel", "isEntry", "(I)Z"⟩ ∈ TT := tt_t (i := 856) (by decide +kernel) (by decide +kernel)
theorem qs_42 : Cond.selects "FieldMemberModel" ⟨"FieldMemberModel", "isEntry", "(I)Z"⟩ ⟨"FieldMemberModel", "isEntry", "(I)Z"⟩ ∈ TT := tt_s (i := 42) (by decide +kernel) (by decide +kernel)
theorem gV_X8_X8_isEntry : GoodIn TT (wsV RX8 156 RX8 yX8_isEntry (ww yX8_isEntry cX8_isEntry 2 (some .boolean))) := tt_V q_854 q_856 qs_42 q_4 q_857
theorem hdV_X8_isEntry : yX8_isEntry.cls = RX8 ∧ yX8_isEntry.cls ≠ "java/lang/invoke/MethodHandle" ∧ yX8_isEntry.cls ≠ "java/lang/invoke/VarHandle" ∧ (parseMethodDescriptor yX8_isEntry.desc).map (fun d => d.parameters.length) = some 1 := by decide +kernel
theorem dX8_value_3 : decode cX8_value 3 = .ok (.invokevirtual 156, 3) := by decide +kernel
theorem dX8_value_6 : decode cX8_value 6 = .ok (.ifCond .ne 7, 3) := by decide +kernel
theorem dX8_value_13 : decode cX8_value 13 = .ok (.aload_n 0, 1) := by decide +kernel
theorem dX8_value_14 : decode cX8_value 14 = .ok (.getfield 26, 3) := by decide +kernel
theorem dX8_value_17 : decode cX8_value 17 = .ok (.iload_n 1, 1) := by decide +kernel
theorem dX8_value_18 : decode cX8_value 18 = .ok (.baload, 1) := by decide +kernel
theorem dX8_value_19 : decode cX8_value 19 = .ok (.ifCond .eq 7, 3) := by decide +kernel
theorem dX8_value_26 : decode cX8_value 26 = .ok (.iconst 0, 1) := by decide +kernel
theorem dX8_value_27 : decode cX8_value 27 = .ok (.putfield 90, 3) := by decide +kernel
theorem dX8_value_30 : decode cX8_value 30 = .ok (.aload_n 0, 1) := by decide +kernel
theorem dX8_value_31 : decode cX8_value 31 = .ok (.getfield 90, 3) := by decide +kernel
theorem dX8_value_34 : decode cX8_value 34 = .ok (.ifCond .ne 21, 3) := by decide +kernel
theorem dX8_value_37 : decode cX8_value 37 = .ok (.aload_n 0, 1) := by decide +kernel
theorem dX8_value_38 : decode cX8_value 38 = .ok (.getfield 44, 3) := by decide +kernel
theorem dX8_value_41 : decode cX8_value 41 = .ok (.iload_n 1, 1) := by decide +kernel
theorem dX8_value_42 : decode cX8_value 42 = .ok (.baload, 1) := by decide +kernel
theorem dX8_value_43 : decode cX8_value 43 = .ok (.ifCond .eq 12, 3) := by decide +kernel
theorem dX8_value_55 : decode cX8_value 55 = .ok (.lconst 0, 1) := by decide +kernel
theorem dX8_value_56 : decode cX8_value 56 = .ok (.lreturn, 1) := by decide +kernel
theorem dX8_value_46 : decode cX8_value 46 = .ok (.aload_n 0, 1) := by decide +kernel
theorem q_694 : Cond.fieldLink "FieldMemberModel" 47 "FieldMemberModel" "told" "[J" ∈ TT := tt_t (i := 694) (by decide +kernel) (by decide +kernel)
theorem dX8_value_47 : decode cX8_value 47 = .ok (.getfield 47, 3) := by decide +kernel
theorem dX8_value_50 : decode cX8_value 50 = .ok (.iload_n 1, 1) := by decide +kernel
theorem dX8_value_51 : decode cX8_value 51 = .ok (.laload, 1) := by decide +kernel
theorem dX8_value_52 : decode cX8_value 52 = .ok (.goto 4, 3) := by decide +kernel
theorem dX8_value_22 : decode cX8_value 22 = .ok (.iconst 1, 1) := by decide +kernel
theorem dX8_value_23 : decode cX8_value 23 = .ok (.goto 4, 3) := by decide +kernel
theorem dX8_value_9 : decode cX8_value 9 = .ok (.iconst 2, 1) := by decide +kernel
theorem dX8_value_10 : decode cX8_value 10 = .ok (.goto 17, 3) := by decide +kernel
theorem dX8_entry_0 : decode cX8_entry 0 = .ok (.aload_n 0, 1) := by decide +kernel
theorem dX8_entry_1 : decode cX8_entry 1 = .ok (.iconst 0, 1) := by decide +kernel
theorem dX8_entry_2 : decode cX8_entry 2 = .ok (.putfield 90, 3) := by decide +kernel
theorem dX8_entry_5 : decode cX8_entry 5 = .ok (.aload_n 0, 1) := by decide +kernel
theorem dX8_entry_6 : decode cX8_entry 6 = .ok (.iload_n 1, 1) := by decide +kernel
theorem dX8_entry_7 : decode cX8_entry 7 = .ok (.invokevirtual 156, 3) := by decide +kernel
theorem dX8_entry_10 : decode cX8_entry 10 = .ok (.ifCond .ne 6, 3) := by decide +kernel
theorem dX8_entry_16 : decode cX8_entry 16 = .ok (.iload_n 2, 1) := by decide +kernel
theorem dX8_entry_17 : decode cX8_entry 17 = .ok (.tableswitch 89 0 5 #[39, 54, 61, 68, 75, 82], 39) := by decide +kernel
theorem dX8_entry_56 : decode cX8_entry 56 = .ok (.aload_n 0, 1) := by decide +kernel
theorem dX8_entry_57 : decode cX8_entry 57 = .ok (.getfield 26, 3) := by decide +kernel
theorem dX8_entry_60 : decode cX8_entry 60 = .ok (.iload_n 1, 1) := by decide +kernel
theorem dX8_entry_61 : decode cX8_entry 61 = .ok (.baload, 1) := by decide +kernel
theorem dX8_entry_62 : decode cX8_entry 62 = .ok (.ifCond .eq 7, 3) := by decide +kernel
theorem dX8_entry_69 : decode cX8_entry 69 = .ok (.iconst 0, 1) := by decide +kernel
theorem dX8_entry_70 : decode cX8_entry 70 = .ok (.ireturn, 1) := by decide +kernel
theorem dX8_entry_65 : decode cX8_entry 65 = .ok (.iconst 1, 1) := by decide +kernel
theorem dX8_entry_66 : decode cX8_entry 66 = .ok (.goto 4, 3) := by decide +kernel
theorem dX8_entry_71 : decode cX8_entry 71 = .ok (.aload_n 0, 1) := by decide +kernel
theorem dX8_entry_72 : decode cX8_entry 72 = .ok (.getfield 29, 3) := by decide +kernel
theorem dX8_entry_75 : decode cX8_entry 75 = .ok (.iload_n 1, 1) := by decide +kernel
theorem dX8_entry_76 : decode cX8_entry 76 = .ok (.iaload, 1) := by decide +kernel
theorem dX8_entry_77 : decode cX8_entry 77 = .ok (.ireturn, 1) := by decide +kernel
theorem dX8_entry_78 : decode cX8_entry 78 = .ok (.aload_n 0, 1) := by decide +kernel
theorem dX8_entry_79 : decode cX8_entry 79 = .ok (.getfield 32, 3) := by decide +kernel
theorem dX8_entry_82 : decode cX8_entry 82 = .ok (.iload_n 1, 1) := by decide +kernel
theorem dX8_entry_83 : decode cX8_entry 83 = .ok (.iaload, 1) := by decide +kernel
theorem dX8_entry_84 : decode cX8_entry 84 = .ok (.ireturn, 1) := by decide +kernel
theorem dX8_entry_85 : decode cX8_entry 85 = .ok (.aload_n 0, 1) := by decide +kernel
theorem dX8_entry_86 : decode cX8_entry 86 = .ok (.getfield 35, 3) := by decide +kernel
theorem dX8_entry_89 : decode cX8_entry 89 = .ok (.iload_n 1, 1) := by decide +kernel
theorem dX8_entry_90 : decode cX8_entry 90 = .ok (.iaload, 1) := by decide +kernel
theorem dX8_entry_91 : decode cX8_entry 91 = .ok (.ireturn, 1) := by decide +kernel
theorem dX8_entry_92 : decode cX8_entry 92 = .ok (.aload_n 0, 1) := by decide +kernel
theorem dX8_entry_93 : decode cX8_entry 93 = .ok (.getfield 38, 3) := by decide +kernel
theorem dX8_entry_96 : decode cX8_entry 96 = .ok (.iload_n 1, 1) := by decide +kernel
theorem dX8_entry_97 : decode cX8_entry 97 = .ok (.iaload, 1) := by decide +kernel
theorem dX8_entry_98 : decode cX8_entry 98 = .ok (.ireturn, 1) := by decide +kernel
theorem dX8_entry_99 : decode cX8_entry 99 = .ok (.aload_n 0, 1) := by decide +kernel
theorem dX8_entry_100 : decode cX8_entry 100 = .ok (.getfield 41, 3) := by decide +kernel
theorem dX8_entry_103 : decode cX8_entry 103 = .ok (.iload_n 1, 1) := by decide +kernel
theorem dX8_entry_104 : decode cX8_entry 104 = .ok (.iaload, 1) := by decide +kernel
theorem dX8_entry_105 : decode cX8_entry 105 = .ok (.ireturn, 1) := by decide +kernel
theorem dX8_entry_106 : decode cX8_entry 106 = .ok (.bipush (-13), 2) := by decide +kernel
theorem dX8_entry_108 : decode cX8_entry 108 = .ok (.ireturn, 1) := by decide +kernel
theorem dX8_entry_13 : decode cX8_entry 13 = .ok (.bipush (-11), 2) := by decide +kernel
theorem dX8_entry_15 : decode cX8_entry 15 = .ok (.ireturn, 1) := by decide +kernel
theorem dX8_shape_0 : decode cX8_shape 0 = .ok (.aload_n 0, 1) := by decide +kernel
theorem dX8_shape_1 : decode cX8_shape 1 = .ok (.iconst 0, 1) := by decide +kernel
theorem dX8_shape_2 : decode cX8_shape 2 = .ok (.putfield 90, 3) := by decide +kernel
theorem dX8_shape_5 : decode cX8_shape 5 = .ok (.aload_n 0, 1) := by decide +kernel
theorem dX8_shape_6 : decode cX8_shape 6 = .ok (.iload_n 1, 1) := by decide +kernel
theorem dX8_shape_7 : decode cX8_shape 7 = .ok (.invokevirtual 156, 3) := by decide +kernel
theorem dX8_shape_10 : decode cX8_shape 10 = .ok (.ifCond .ne 6, 3) := by decide +kernel
theorem dX8_shape_16 : decode cX8_shape 16 = .ok (.aload_n 0, 1) := by decide +kernel
theorem dX8_shape_17 : decode cX8_shape 17 = .ok (.getfield 26, 3) := by decide +kernel
theorem dX8_shape_20 : decode cX8_shape 20 = .ok (.iload_n 1, 1) := by decide +kernel
theorem dX8_shape_21 : decode cX8_shape 21 = .ok (.baload, 1) := by decide +kernel
theorem dX8_shape_22 : decode cX8_shape 22 = .ok (.ifCond .ne 6, 3) := by decide +kernel
theorem dX8_shape_28 : decode cX8_shape 28 = .ok (.iload_n 2, 1) := by decide +kernel
theorem dX8_shape_29 : decode cX8_shape 29 = .ok (.tableswitch 75 0 3 #[31, 38, 53, 68], 31) := by decide +kernel
theorem dX8_shape_60 : decode cX8_shape 60 = .ok (.aload_n 0, 1) := by decide +kernel
theorem dX8_shape_61 : decode cX8_shape 61 = .ok (.getfield 57, 3) := by decide +kernel
theorem dX8_shape_64 : decode cX8_shape 64 = .ok (.iload_n 1, 1) := by decide +kernel
theorem dX8_shape_65 : decode cX8_shape 65 = .ok (.iaload, 1) := by decide +kernel
theorem dX8_shape_66 : decode cX8_shape 66 = .ok (.ireturn, 1) := by decide +kernel
theorem dX8_shape_67 : decode cX8_shape 67 = .ok (.aload_n 0, 1) := by decide +kernel
theorem dX8_shape_68 : decode cX8_shape 68 = .ok (.getfield 54, 3) := by decide +kernel
theorem dX8_shape_71 : decode cX8_shape 71 = .ok (.iload_n 1, 1) := by decide +kernel
theorem dX8_shape_72 : decode cX8_shape 72 = .ok (.baload, 1) := by decide +kernel
theorem dX8_shape_73 : decode cX8_shape 73 = .ok (.ifCond .eq 7, 3) := by decide +kernel
theorem dX8_shape_80 : decode cX8_shape 80 = .ok (.iconst 0, 1) := by decide +kernel
theorem dX8_shape_81 : decode cX8_shape 81 = .ok (.ireturn, 1) := by decide +kernel
theorem dX8_shape_76 : decode cX8_shape 76 = .ok (.iconst 1, 1) := by decide +kernel
theorem dX8_shape_77 : decode cX8_shape 77 = .ok (.goto 4, 3) := by decide +kernel
theorem dX8_shape_82 : decode cX8_shape 82 = .ok (.aload_n 0, 1) := by decide +kernel
theorem dX8_shape_83 : decode cX8_shape 83 = .ok (.getfield 51, 3) := by decide +kernel
theorem dX8_shape_86 : decode cX8_shape 86 = .ok (.iload_n 1, 1) := by decide +kernel
theorem dX8_shape_87 : decode cX8_shape 87 = .ok (.baload, 1) := by decide +kernel
theorem dX8_shape_88 : decode cX8_shape 88 = .ok (.ifCond .eq 7, 3) := by decide +kernel
theorem dX8_shape_95 : decode cX8_shape 95 = .ok (.iconst 0, 1) := by decide +kernel
theorem dX8_shape_96 : decode cX8_shape 96 = .ok (.ireturn, 1) := by decide +kernel
theorem dX8_shape_91 : decode cX8_shape 91 = .ok (.iconst 1, 1) := by decide +kernel
theorem dX8_shape_92 : decode cX8_shape 92 = .ok (.goto 4, 3) := by decide +kernel
theorem dX8_shape_97 : decode cX8_shape 97 = .ok (.aload_n 0, 1) := by decide +kernel
theorem q_707 : Cond.fieldLink "FieldMemberModel" 75 "FieldMemberModel" "met" "[I" ∈ TT := tt_t (i := 707) (by decide +kernel) (by decide +kernel)
theorem dX8_shape_98 : decode cX8_shape 98 = .ok (.getfield 75, 3) := by decide +kernel
theorem dX8_shape_101 : decode cX8_shape 101 = .ok (.iload_n 1, 1) := by decide +kernel
theorem dX8_shape_102 : decode cX8_shape 102 = .ok (.iaload, 1) := by decide +kernel
theorem dX8_shape_103 : decode cX8_shape 103 = .ok (.ireturn, 1) := by decide +kernel
theorem dX8_shape_104 : decode cX8_shape 104 = .ok (.bipush (-13), 2) := by decide +kernel
theorem dX8_shape_106 : decode cX8_shape 106 = .ok (.ireturn, 1) := by decide +kernel
theorem dX8_shape_25 : decode cX8_shape 25 = .ok (.bipush (-12), 2) := by decide +kernel
theorem dX8_shape_27 : decode cX8_shape 27 = .ok (.ireturn, 1) := by decide +kernel
theorem dX8_shape_13 : decode cX8_shape 13 = .ok (.bipush (-11), 2) := by decide +kernel
theorem dX8_shape_15 : decode cX8_shape 15 = .ok (.ireturn, 1) := by decide +kernel
theorem dX8_count_0 : decode cX8_count 0 = .ok (.aload_n 0, 1) := by decide +kernel
theorem dX8_count_1 : decode cX8_count 1 = .ok (.iconst 0, 1) := by decide +kernel
theorem dX8_count_2 : decode cX8_count 2 = .ok (.putfield 90, 3) := by decide +kernel
theorem dX8_count_5 : decode cX8_count 5 = .ok (.iload_n 1, 1) := by decide +kernel
theorem dX8_count_6 : decode cX8_count 6 = .ok (.tableswitch 92 0 5 #[38, 43, 48, 61, 82, 87], 38) := by decide +kernel
theorem dX8_count_44 : decode cX8_count 44 = .ok (.aload_n 0, 1) := by decide +kernel
theorem dX8_count_45 : decode cX8_count 45 = .ok (.getfield 94, 3) := by decide +kernel
theorem dX8_count_48 : decode cX8_count 48 = .ok (.ireturn, 1) := by decide +kernel
theorem dX8_count_49 : decode cX8_count 49 = .ok (.aload_n 0, 1) := by decide +kernel
theorem dX8_count_50 : decode cX8_count 50 = .ok (.getfield 119, 3) := by decide +kernel
theorem dX8_count_53 : decode cX8_count 53 = .ok (.ireturn, 1) := by decide +kernel
theorem dX8_count_54 : decode cX8_count 54 = .ok (.aload_n 0, 1) := by decide +kernel
theorem dX8_count_55 : decode cX8_count 55 = .ok (.getfield 122, 3) := by decide +kernel
theorem dX8_count_58 : decode cX8_count 58 = .ok (.ifCond .eq 7, 3) := by decide +kernel
theorem dX8_count_65 : decode cX8_count 65 = .ok (.iconst 0, 1) := by decide +kernel
theorem dX8_count_66 : decode cX8_count 66 = .ok (.ireturn, 1) := by decide +kernel
theorem dX8_count_61 : decode cX8_count 61 = .ok (.iconst 1, 1) := by decide +kernel
theorem dX8_count_62 : decode cX8_count 62 = .ok (.goto 4, 3) := by decide +kernel
theorem dX8_count_67 : decode cX8_count 67 = .ok (.aload_n 0, 1) := by decide +kernel
theorem dX8_count_68 : decode cX8_count 68 = .ok (.getfield 122, 3) := by decide +kernel
theorem dX8_count_71 : decode cX8_count 71 = .ok (.ifCond .eq 15, 3) := by decide +kernel
theorem dX8_count_86 : decode cX8_count 86 = .ok (.iconst 0, 1) := by decide +kernel
theorem dX8_count_87 : decode cX8_count 87 = .ok (.ireturn, 1) := by decide +kernel
theorem dX8_count_74 : decode cX8_count 74 = .ok (.aload_n 0, 1) := by decide +kernel
theorem dX8_count_75 : decode cX8_count 75 = .ok (.getfield 57, 3) := by decide +kernel
theorem dX8_count_78 : decode cX8_count 78 = .ok (.aload_n 0, 1) := by decide +kernel
theorem dX8_count_79 : decode cX8_count 79 = .ok (.getfield 119, 3) := by decide +kernel
theorem dX8_count_82 : decode cX8_count 82 = .ok (.iaload, 1) := by decide +kernel
theorem dX8_count_83 : decode cX8_count 83 = .ok (.goto 4, 3) := by decide +kernel
theorem dX8_count_88 : decode cX8_count 88 = .ok (.aload_n 0, 1) := by decide +kernel
theorem dX8_count_89 : decode cX8_count 89 = .ok (.getfield 196, 3) := by decide +kernel
theorem dX8_count_92 : decode cX8_count 92 = .ok (.ireturn, 1) := by decide +kernel
theorem dX8_count_93 : decode cX8_count 93 = .ok (.aload_n 0, 1) := by decide +kernel
theorem dX8_count_94 : decode cX8_count 94 = .ok (.getfield 101, 3) := by decide +kernel
theorem dX8_count_97 : decode cX8_count 97 = .ok (.ireturn, 1) := by decide +kernel
theorem dX8_count_98 : decode cX8_count 98 = .ok (.bipush (-13), 2) := by decide +kernel
theorem dX8_count_100 : decode cX8_count 100 = .ok (.ireturn, 1) := by decide +kernel
theorem dX8_broken_0 : decode cX8_broken 0 = .ok (.aload_n 0, 1) := by decide +kernel
theorem dX8_broken_1 : decode cX8_broken 1 = .ok (.iconst 0, 1) := by decide +kernel
theorem dX8_broken_2 : decode cX8_broken 2 = .ok (.putfield 90, 3) := by decide +kernel
theorem dX8_broken_5 : decode cX8_broken 5 = .ok (.iload_n 1, 1) := by decide +kernel
theorem dX8_broken_6 : decode cX8_broken 6 = .ok (.iconst 1, 1) := by decide +kernel
theorem dX8_broken_7 : decode cX8_broken 7 = .ok (.bipush 25, 2) := by decide +kernel
theorem dX8_broken_9 : decode cX8_broken 9 = .ok (.invokestatic 97, 3) := by decide +kernel
theorem dX8_broken_12 : decode cX8_broken 12 = .ok (.ifCond .eq 12, 3) := by decide +kernel
theorem dX8_broken_24 : decode cX8_broken 24 = .ok (.bipush (-13), 2) := by decide +kernel
theorem dX8_broken_26 : decode cX8_broken 26 = .ok (.ireturn, 1) := by decide +kernel
theorem dX8_broken_15 : decode cX8_broken 15 = .ok (.aload_n 0, 1) := by decide +kernel
theorem dX8_broken_16 : decode cX8_broken 16 = .ok (.getfield 72, 3) := by decide +kernel
theorem dX8_broken_19 : decode cX8_broken 19 = .ok (.iload_n 1, 1) := by decide +kernel
theorem dX8_broken_20 : decode cX8_broken 20 = .ok (.iaload, 1) := by decide +kernel
theorem dX8_broken_21 : decode cX8_broken 21 = .ok (.goto 5, 3) := by decide +kernel
set_option maxHeartbeats 4000000 in
set_option maxRecDepth 100000 in
theorem m_way (l : Launch) (D : va_G) (G : Nat → ClassId) (mo : Nat) (ad : Nat → Nat) (σ : MS) (τ : Nat → Int64) (sz : Nat)  : Met l yX8_way (ww yX8_way cX8_way 1 (some .int)) (rmD 0) (muP D G sz mo ad (σ, τ) [.ref mo]) (muQi D G mo ad (muA G mo ad (σ, τ) sz) ((σ 25 0, (su σ 0 0 0, τ))).1 ((σ 25 0, (su σ 0 0 0, τ))).2) 0 0 (muA G mo ad (σ, τ) sz) := by
  refine Met.ofW (cc := cX8_way) (maxL := 1) (ret := (some .int)) (by decide) rfl ?_
  intro p e s m args below meth c s₁ B hml hv
  obtain ⟨rfl, hsz, hP, hK, hD0⟩ := hv
  have hx := B.exec
  have hb := B.bytes
  have hr := B.returns
  have hts : ∀ w ∈ TT, w.before _ s = true := fun w h => atoms_spec (ws := ww yX8_way cX8_way 1 (some .int)) B.pre w (List.mem_cons_of_mem _ h)
  have hown : s.vm.findClass RX8 = some m.cls := findClass_of_methodNamed B.named
  have hlocks := B.notSynchronized
  subst hsz
  have hD : va_D (muA G mo ad (σ, τ) s.heap.size) (mW G mo ad σ τ) := hD0.self
  generalize hAe : muA G mo ad (σ, τ) s.heap.size = A at hD ⊢
  have hA : ∀ q : Nat, s.heap.size ≤ q → A q := fun q h => by rw [← hAe]; exact Or.inr h
  have hS : va_S A s.heap s.heap [] := va_S.rf
  have hP : va_P D vwCl (mW G mo ad σ τ) s.heap := hP
  have hl := lv_entry ([.ref mo]) (n := 1) (Nat.le_of_ble_eq_true rfl)
  rw [lg_entry_eq]
  generalize (lg_sl ([.ref mo]) ++ List.replicate (1 - (lg_sl ([.ref mo])).length) Slot.unset).toArray = ls at hl ⊢
  have hl : lv_has ls 1 [(0, .ref mo)] := hl
  refine lv_aload_n hx hb dX8_way_0 rfl (lv_at hl 0 rfl) ?_
  refine lv_iconst (v := 0) hx hb dX8_way_1 (by decide) ?_
  refine va_put (D := D) (ci := 8) (v := .int 0) (ty := .int) (C := RX8) (T := TX8) (N := 33) hx hb hts iX8 tyX8 tyX8_ok nmX8 hown hK.1 hP hD hS 0 rfl rfl 0 (by decide) (hts _ q_679) (fun _ h9 => h9) rfl (by decide +kernel) rfl rfl (Nat.le_of_ble_eq_true rfl) dX8_way_2 (fun H locs hP hD hS => ?_)
  have hP : va_P D vwCl (mW G mo ad (su σ 0 (0) (0)) (τ)) H := hP
  have hD : va_D A (mW G mo ad (su σ 0 (0) (0)) (τ)) := hD
  refine lv_aload_n hx hb dX8_way_5 rfl (lv_at hl 0 rfl) ?_
  refine va_get (D := D) (ci := 8) (v := .int (σ 25 0)) (C := RX8) (T := TX8) (N := 33) hx hb hts iX8 hown hK.1 hP 0 rfl rfl 25 (by decide) (hts _ q_704) (fun _ h9 => h9) rfl dX8_way_6 ?_
  have ho : (σ 25 0, (su σ 0 0 0, τ)) = (σ 25 0, su σ 0 (0) (0), τ) := rfl
  exact mu_iret (v0 := σ 25 0) (z := (su σ 0 (0) (0), τ)) hx hb hr hlocks hP hD hS dX8_way_9 (by rw [ho]) (by rw [ho])
set_option maxHeartbeats 4000000 in
set_option maxRecDepth 100000 in
theorem m_below (l : Launch) (D : va_G) (G : Nat → ClassId) (mo : Nat) (ad : Nat → Nat) (σ : MS) (τ : Nat → Int64) (sz : Nat) (n : Nat) (h1 : σ 1 0 = nI n) (hn : n ≤ 12) (t : Int32) (o : Int32) (hb6 : ∀ i, σ 6 i = 0 ∨ σ 6 i = 1) : Met l yX8_below (ww yX8_below cX8_below 3 (some .int)) (rmD 2) (muP D G sz mo ad (σ, τ) [.ref mo, .int t, .int o]) (muQi D G mo ad (muA G mo ad (σ, τ) sz) (oBelow σ τ n t o).1 (oBelow σ τ n t o).2) 0 0 (muA G mo ad (σ, τ) sz) := by
  refine Met.ofW (cc := cX8_below) (maxL := 3) (ret := (some .int)) (by decide) rfl ?_
  intro p e s m args below meth c s₁ B hml hv
  obtain ⟨rfl, hsz, hP, hK, hD0⟩ := hv
  have hx := B.exec
  have hb := B.bytes
  have hr := B.returns
  have hts : ∀ w ∈ TT, w.before _ s = true := fun w h => atoms_spec (ws := ww yX8_below cX8_below 3 (some .int)) B.pre w (List.mem_cons_of_mem _ h)
  have hown : s.vm.findClass RX8 = some m.cls := findClass_of_methodNamed B.named
  have hlocks := B.notSynchronized
  subst hsz
  have hD : va_D (muA G mo ad (σ, τ) s.heap.size) (mW G mo ad σ τ) := hD0.self
  generalize hAe : muA G mo ad (σ, τ) s.heap.size = A at hD ⊢
  have hA : ∀ q : Nat, s.heap.size ≤ q → A q := fun q h => by rw [← hAe]; exact Or.inr h
  have hS : va_S A s.heap s.heap [] := va_S.rf
  have hP : va_P D vwCl (mW G mo ad σ τ) s.heap := hP
  have hl := lv_entry ([.ref mo, .int t, .int o]) (n := 3) (Nat.le_of_ble_eq_true rfl)
  rw [lg_entry_eq]
  generalize (lg_sl ([.ref mo, .int t, .int o]) ++ List.replicate (3 - (lg_sl ([.ref mo, .int t, .int o])).length) Slot.unset).toArray = ls at hl ⊢
  have hl : lv_has ls 3 [(0, .ref mo), (1, .int t), (2, .int o)] := hl
  refine lv_aload_n hx hb dX8_below_0 rfl (lv_at hl 0 rfl) ?_
  refine lv_iconst (v := 0) hx hb dX8_below_1 (by decide) ?_
  refine va_put (D := D) (ci := 8) (v := .int 0) (ty := .int) (C := RX8) (T := TX8) (N := 33) hx hb hts iX8 tyX8 tyX8_ok nmX8 hown hK.1 hP hD hS 0 rfl rfl 0 (by decide) (hts _ q_679) (fun _ h9 => h9) rfl (by decide +kernel) rfl rfl (Nat.le_of_ble_eq_true rfl) dX8_below_2 (fun H locs hP hD hS => ?_)
  have hP : va_P D vwCl (mW G mo ad (su σ 0 (0) (0)) (τ)) H := hP
  have hD : va_D A (mW G mo ad (su σ 0 (0) (0)) (τ)) := hD
  refine lv_aload_n hx hb dX8_below_5 rfl (lv_at hl 0 rfl) ?_
  refine lv_iload_n hx hb dX8_below_6 rfl (lv_at hl 1 rfl) ?_
  refine ro_Vi (D := D) (G := G) (As := [.int t]) (rest := []) ⟨hx, hb, hml, hown, hts⟩ (m_isType l D G _ mo ad _ _ hP n h1 hn t) gV_X8_X8_isType hdV_X8_isType ⟨Nat.le_of_ble_eq_true rfl, Nat.le_of_ble_eq_true rfl⟩ hK (va_recv hK.1 hP (ci := 8) (q0 := 0) rfl rfl) rfl hl.1 rfl (Nat.le_of_ble_eq_true rfl) dX8_below_7 ⟨Nat.le_of_ble_eq_true rfl, Nat.le_of_ble_eq_true rfl⟩ (fun r1 e_r1 => ?_)
  subst e_r1
  refine W.eq (g2 := F0 m 10 ls [.int (bI (okN n t))]) rfl ?_
  refine lv_if_eq (tgt := 21) hx hb dX8_below_10 (by decide) (fun c2 => ?_) (fun c2 => ?_)
  · -- 10 taken
    have c2 := bI_0 c2
    refine lv_bipush (v := -11) hx hb dX8_below_21 (by decide) ?_
    refine lv_goto (tgt := 40) hx hb dX8_below_23 (by decide) ?_
    have ho : oBelow σ τ n t o = ((-11), su σ 0 (0) (0), τ) := by unfold oBelow; simp only [eq_false c2, not_true, not_false_iff, not_true_eq_false, not_false_eq_true, true_or, or_true, false_or, or_false, or_self, and_self, true_and, and_true, false_and, and_false, if_true, if_false]; try rfl
    exact mu_iret (v0 := (-11)) (z := (su σ 0 (0) (0), τ)) hx hb hr hlocks hP hD hS dX8_below_40 (by rw [ho]) (by rw [ho])
  · -- 10 not
    have c2 := bI_1 c2
    obtain ⟨j3, h_j3, rfl⟩ := okN_ex (by omega) c2
    refine lv_aload_n hx hb dX8_below_13 rfl (lv_at hl 0 rfl) ?_
    refine lv_iload_n hx hb dX8_below_14 rfl (lv_at hl 2 rfl) ?_
    refine ro_Vi (D := D) (G := G) (As := [.int o]) (rest := []) ⟨hx, hb, hml, hown, hts⟩ (m_isType l D G _ mo ad _ _ hP n h1 hn o) gV_X8_X8_isType hdV_X8_isType ⟨Nat.le_of_ble_eq_true rfl, Nat.le_of_ble_eq_true rfl⟩ hK (va_recv hK.1 hP (ci := 8) (q0 := 0) rfl rfl) rfl hl.1 rfl (Nat.le_of_ble_eq_true rfl) dX8_below_15 ⟨Nat.le_of_ble_eq_true rfl, Nat.le_of_ble_eq_true rfl⟩ (fun r4 e_r4 => ?_)
    subst e_r4
    refine W.eq (g2 := F0 m 18 ls [.int (bI (okN n o))]) rfl ?_
    refine lv_if_ne (tgt := 26) hx hb dX8_below_18 (by decide) (fun c5 => ?_) (fun c5 => ?_)
    · -- 18 taken
      have c5 := bI_1 c5
      obtain ⟨j6, h_j6, rfl⟩ := okN_ex (by omega) c5
      refine lv_aload_n hx hb dX8_below_26 rfl (lv_at hl 0 rfl) ?_
      refine lv_iload_n hx hb dX8_below_27 rfl (lv_at hl 1 rfl) ?_
      refine lv_iload_n hx hb dX8_below_28 rfl (lv_at hl 2 rfl) ?_
      refine ro_Vi (D := D) (G := G) (As := [.int (nI j3), .int (nI j6)]) (rest := []) ⟨hx, hb, hml, hown, hts⟩ (m_lies l D G _ mo ad _ _ hP (j3) (j6) (by omega) (by omega) hb6) gV_X8_X8_lies hdV_X8_lies ⟨Nat.le_of_ble_eq_true rfl, Nat.le_of_ble_eq_true rfl⟩ hK (va_recv hK.1 hP (ci := 8) (q0 := 0) rfl rfl) rfl hl.1 rfl (Nat.le_of_ble_eq_true rfl) dX8_below_29 ⟨Nat.le_of_ble_eq_true rfl, Nat.le_of_ble_eq_true rfl⟩ (fun r7 e_r7 => ?_)
      subst e_r7
      refine W.eq (g2 := F0 m 32 ls [.int (bI (lyP σ (j3) (j6)))]) rfl ?_
      refine lv_if_eq (tgt := 39) hx hb dX8_below_32 (by decide) (fun c8 => ?_) (fun c8 => ?_)
      · -- 32 taken
        have c8 := bI_0 c8
        refine lv_iconst (v := 0) hx hb dX8_below_39 (by decide) ?_
        have ho : oBelow σ τ n (nI j3) (nI j6) = (0, su σ 0 (0) (0), τ) := by unfold oBelow; simp only [eq_true c2, eq_true c5, eq_false c8, nI_clamp (show j3 < 2 ^ 31 by omega), nI_clamp (show j6 < 2 ^ 31 by omega), not_true, not_false_iff, not_true_eq_false, not_false_eq_true, true_or, or_true, false_or, or_false, or_self, and_self, true_and, and_true, false_and, and_false, if_true, if_false]; try rfl
        exact mu_iret (v0 := 0) (z := (su σ 0 (0) (0), τ)) hx hb hr hlocks hP hD hS dX8_below_40 (by rw [ho]) (by rw [ho])
      · -- 32 not
        have c8 := bI_1 c8
        refine lv_iconst (v := 1) hx hb dX8_below_35 (by decide) ?_
        refine lv_goto (tgt := 40) hx hb dX8_below_36 (by decide) ?_
        have ho : oBelow σ τ n (nI j3) (nI j6) = (1, su σ 0 (0) (0), τ) := by unfold oBelow; simp only [eq_true c2, eq_true c5, eq_true c8, nI_clamp (show j3 < 2 ^ 31 by omega), nI_clamp (show j6 < 2 ^ 31 by omega), not_true, not_false_iff, not_true_eq_false, not_false_eq_true, true_or, or_true, false_or, or_false, or_self, and_self, true_and, and_true, false_and, and_false, if_true, if_false]; try rfl
        exact mu_iret (v0 := 1) (z := (su σ 0 (0) (0), τ)) hx hb hr hlocks hP hD hS dX8_below_40 (by rw [ho]) (by rw [ho])
    · -- 18 not
      have c5 := bI_0 c5
      refine lv_bipush (v := -11) hx hb dX8_below_21 (by decide) ?_
      refine lv_goto (tgt := 40) hx hb dX8_below_23 (by decide) ?_
      have ho : oBelow σ τ n (nI j3) o = ((-11), su σ 0 (0) (0), τ) := by unfold oBelow; simp only [eq_true c2, eq_false c5, nI_clamp (show j3 < 2 ^ 31 by omega), not_true, not_false_iff, not_true_eq_false, not_false_eq_true, true_or, or_true, false_or, or_false, or_self, and_self, true_and, and_true, false_and, and_false, if_true, if_false]; try rfl
      exact mu_iret (v0 := (-11)) (z := (su σ 0 (0) (0), τ)) hx hb hr hlocks hP hD hS dX8_below_40 (by rw [ho]) (by rw [ho])
set_option maxHeartbeats 4000000 in
set_option maxRecDepth 100000 in
theorem m_lays (l : Launch) (D : va_G) (G : Nat → ClassId) (mo : Nat) (ad : Nat → Nat) (σ : MS) (τ : Nat → Int64) (sz : Nat) (k : Nat) (h7 : σ 7 0 = nI k) (hk60 : k ≤ 60) (hk59 : k < 60) (t : Int32) (name : Int32) (kind : Int32) (dd : Int32) (mm : Int32) : Met l yX8_lays (ww yX8_lays cX8_lays 6 none) (rmD 0) (muP D G sz mo ad (σ, τ) [.ref mo, .int t, .int name, .int kind, .int dd, .int mm]) (muQv D G mo ad (muA G mo ad (σ, τ) sz) ((layS σ k t name kind dd mm, τ))) 0 0 (muA G mo ad (σ, τ) sz) := by
  refine Met.ofW (cc := cX8_lays) (maxL := 6) (ret := none) (by decide) rfl ?_
  intro p e s m args below meth c s₁ B hml hv
  obtain ⟨rfl, hsz, hP, hK, hD0⟩ := hv
  have hx := B.exec
  have hb := B.bytes
  have hr := B.returns
  have hts : ∀ w ∈ TT, w.before _ s = true := fun w h => atoms_spec (ws := ww yX8_lays cX8_lays 6 none) B.pre w (List.mem_cons_of_mem _ h)
  have hown : s.vm.findClass RX8 = some m.cls := findClass_of_methodNamed B.named
  have hlocks := B.notSynchronized
  subst hsz
  have hD : va_D (muA G mo ad (σ, τ) s.heap.size) (mW G mo ad σ τ) := hD0.self
  generalize hAe : muA G mo ad (σ, τ) s.heap.size = A at hD ⊢
  have hA : ∀ q : Nat, s.heap.size ≤ q → A q := fun q h => by rw [← hAe]; exact Or.inr h
  have hS : va_S A s.heap s.heap [] := va_S.rf
  have hP : va_P D vwCl (mW G mo ad σ τ) s.heap := hP
  have hl := lv_entry ([.ref mo, .int t, .int name, .int kind, .int dd, .int mm]) (n := 6) (Nat.le_of_ble_eq_true rfl)
  rw [lg_entry_eq]
  generalize (lg_sl ([.ref mo, .int t, .int name, .int kind, .int dd, .int mm]) ++ List.replicate (6 - (lg_sl ([.ref mo, .int t, .int name, .int kind, .int dd, .int mm])).length) Slot.unset).toArray = ls at hl ⊢
  have hl : lv_has ls 6 [(0, .ref mo), (1, .int t), (2, .int name), (3, .int kind), (4, .int dd), (5, .int mm)] := hl
  refine lv_aload_n hx hb dX8_lays_0 rfl (lv_at hl 0 rfl) ?_
  refine va_get (D := D) (ci := 8) (v := .ref ((ad 9))) (C := RX8) (T := TX8) (N := 33) hx hb hts iX8 hown hK.1 hP 0 rfl rfl 9 (by decide) (hts _ q_688) (fun _ h9 => h9) rfl dX8_lays_1 ?_
  refine lv_aload_n hx hb dX8_lays_4 rfl (lv_at hl 0 rfl) ?_
  refine va_get (D := D) (ci := 8) (v := .int (σ 7 0)) (C := RX8) (T := TX8) (N := 33) hx hb hts iX8 hown hK.1 hP 0 rfl rfl 7 (by decide) (hts _ q_686) (fun _ h9 => h9) rfl dX8_lays_5 ?_
  refine lv_iload_n hx hb dX8_lays_8 rfl (lv_at hl 1 rfl) ?_
  refine iast_n hx hb hK.1 hP hD hS 7 0 rfl rfl (k) h7 (by omega) (by decide) dX8_lays_9 (fun H locs hP hD hS => ?_)
  have hP : va_P D vwCl (mW G mo ad (su σ 9 (k) (t)) (τ)) H := hP
  have hD : va_D A (mW G mo ad (su σ 9 (k) (t)) (τ)) := hD
  refine lv_aload_n hx hb dX8_lays_10 rfl (lv_at hl 0 rfl) ?_
  refine va_get (D := D) (ci := 8) (v := .ref ((ad 10))) (C := RX8) (T := TX8) (N := 33) hx hb hts iX8 hown hK.1 hP 0 rfl rfl 10 (by decide) (hts _ q_689) (fun _ h9 => h9) rfl dX8_lays_11 ?_
  refine lv_aload_n hx hb dX8_lays_14 rfl (lv_at hl 0 rfl) ?_
  refine va_get (D := D) (ci := 8) (v := .int (σ 7 0)) (C := RX8) (T := TX8) (N := 33) hx hb hts iX8 hown hK.1 hP 0 rfl rfl 7 (by decide) (hts _ q_686) (fun _ h9 => h9) rfl dX8_lays_15 ?_
  refine lv_iload_n hx hb dX8_lays_18 rfl (lv_at hl 2 rfl) ?_
  refine iast_n hx hb hK.1 hP hD hS 8 0 rfl rfl (k) h7 (by omega) (by decide) dX8_lays_19 (fun H locs hP hD hS => ?_)
  have hP : va_P D vwCl (mW G mo ad (su (su σ 9 (k) (t)) 10 (k) (name)) (τ)) H := hP
  have hD : va_D A (mW G mo ad (su (su σ 9 (k) (t)) 10 (k) (name)) (τ)) := hD
  refine lv_aload_n hx hb dX8_lays_20 rfl (lv_at hl 0 rfl) ?_
  refine va_get (D := D) (ci := 8) (v := .ref ((ad 11))) (C := RX8) (T := TX8) (N := 33) hx hb hts iX8 hown hK.1 hP 0 rfl rfl 11 (by decide) (hts _ q_690) (fun _ h9 => h9) rfl dX8_lays_21 ?_
  refine lv_aload_n hx hb dX8_lays_24 rfl (lv_at hl 0 rfl) ?_
  refine va_get (D := D) (ci := 8) (v := .int (σ 7 0)) (C := RX8) (T := TX8) (N := 33) hx hb hts iX8 hown hK.1 hP 0 rfl rfl 7 (by decide) (hts _ q_686) (fun _ h9 => h9) rfl dX8_lays_25 ?_
  refine lv_iload_n hx hb dX8_lays_28 rfl (lv_at hl 3 rfl) ?_
  refine iast_n hx hb hK.1 hP hD hS 9 0 rfl rfl (k) h7 (by omega) (by decide) dX8_lays_29 (fun H locs hP hD hS => ?_)
  have hP : va_P D vwCl (mW G mo ad (su (su (su σ 9 (k) (t)) 10 (k) (name)) 11 (k) (kind)) (τ)) H := hP
  have hD : va_D A (mW G mo ad (su (su (su σ 9 (k) (t)) 10 (k) (name)) 11 (k) (kind)) (τ)) := hD
  refine lv_aload_n hx hb dX8_lays_30 rfl (lv_at hl 0 rfl) ?_
  refine va_get (D := D) (ci := 8) (v := .ref ((ad 12))) (C := RX8) (T := TX8) (N := 33) hx hb hts iX8 hown hK.1 hP 0 rfl rfl 12 (by decide) (hts _ q_691) (fun _ h9 => h9) rfl dX8_lays_31 ?_
  refine lv_aload_n hx hb dX8_lays_34 rfl (lv_at hl 0 rfl) ?_
  refine va_get (D := D) (ci := 8) (v := .int (σ 7 0)) (C := RX8) (T := TX8) (N := 33) hx hb hts iX8 hown hK.1 hP 0 rfl rfl 7 (by decide) (hts _ q_686) (fun _ h9 => h9) rfl dX8_lays_35 ?_
  refine lv_iload hx hb dX8_lays_38 (lv_at hl 4 rfl) ?_
  refine iast_n hx hb hK.1 hP hD hS 10 0 rfl rfl (k) h7 (by omega) (by decide) dX8_lays_40 (fun H locs hP hD hS => ?_)
  have hP : va_P D vwCl (mW G mo ad (su (su (su (su σ 9 (k) (t)) 10 (k) (name)) 11 (k) (kind)) 12 (k) (dd)) (τ)) H := hP
  have hD : va_D A (mW G mo ad (su (su (su (su σ 9 (k) (t)) 10 (k) (name)) 11 (k) (kind)) 12 (k) (dd)) (τ)) := hD
  refine lv_aload_n hx hb dX8_lays_41 rfl (lv_at hl 0 rfl) ?_
  refine va_get (D := D) (ci := 8) (v := .ref ((ad 13))) (C := RX8) (T := TX8) (N := 33) hx hb hts iX8 hown hK.1 hP 0 rfl rfl 13 (by decide) (hts _ q_692) (fun _ h9 => h9) rfl dX8_lays_42 ?_
  refine lv_aload_n hx hb dX8_lays_45 rfl (lv_at hl 0 rfl) ?_
  refine va_get (D := D) (ci := 8) (v := .int (σ 7 0)) (C := RX8) (T := TX8) (N := 33) hx hb hts iX8 hown hK.1 hP 0 rfl rfl 7 (by decide) (hts _ q_686) (fun _ h9 => h9) rfl dX8_lays_46 ?_
  refine lv_iload hx hb dX8_lays_49 (lv_at hl 5 rfl) ?_
  refine iast_n hx hb hK.1 hP hD hS 11 0 rfl rfl (k) h7 (by omega) (by decide) dX8_lays_51 (fun H locs hP hD hS => ?_)
  have hP : va_P D vwCl (mW G mo ad (su (su (su (su (su σ 9 (k) (t)) 10 (k) (name)) 11 (k) (kind)) 12 (k) (dd)) 13 (k) (mm)) (τ)) H := hP
  have hD : va_D A (mW G mo ad (su (su (su (su (su σ 9 (k) (t)) 10 (k) (name)) 11 (k) (kind)) 12 (k) (dd)) 13 (k) (mm)) (τ)) := hD
  have ho : (layS σ k t name kind dd mm, τ) = (su (su (su (su (su σ 9 (k) (t)) 10 (k) (name)) 11 (k) (kind)) 12 (k) (dd)) 13 (k) (mm), τ) := rfl
  exact mu_vret (z := (su (su (su (su (su σ 9 (k) (t)) 10 (k) (name)) 11 (k) (kind)) 12 (k) (dd)) 13 (k) (mm), τ)) hx hb hr hlocks hP hD hS dX8_lays_52 (by rw [ho])
set_option maxHeartbeats 4000000 in
set_option maxRecDepth 100000 in
theorem m_field (l : Launch) (D : va_G) (G : Nat → ClassId) (mo : Nat) (ad : Nat → Nat) (σ : MS) (τ : Nat → Int64) (sz : Nat) (n : Nat) (h1 : σ 1 0 = nI n) (hn : n ≤ 12) (k : Nat) (h7 : σ 7 0 = nI k) (hk60 : k ≤ 60) (t : Int32) (name : Int32) (kind : Int32) (dd : Int32) (mm : Int32) : Met l yX8_field (ww yX8_field cX8_field 8 (some .int)) (rmD 4) (muP D G sz mo ad (σ, τ) [.ref mo, .int t, .int name, .int kind, .int dd, .int mm]) (muQi D G mo ad (muA G mo ad (σ, τ) sz) (oField σ τ n k t name kind dd mm).1 (oField σ τ n k t name kind dd mm).2) 0 0 (muA G mo ad (σ, τ) sz) := by
  refine Met.ofW (cc := cX8_field) (maxL := 8) (ret := (some .int)) (by decide) rfl ?_
  intro p e s m args below meth c s₁ B hml hv
  obtain ⟨rfl, hsz, hP, hK, hD0⟩ := hv
  have hx := B.exec
  have hb := B.bytes
  have hr := B.returns
  have hts : ∀ w ∈ TT, w.before _ s = true := fun w h => atoms_spec (ws := ww yX8_field cX8_field 8 (some .int)) B.pre w (List.mem_cons_of_mem _ h)
  have hown : s.vm.findClass RX8 = some m.cls := findClass_of_methodNamed B.named
  have hlocks := B.notSynchronized
  subst hsz
  have hD : va_D (muA G mo ad (σ, τ) s.heap.size) (mW G mo ad σ τ) := hD0.self
  generalize hAe : muA G mo ad (σ, τ) s.heap.size = A at hD ⊢
  have hA : ∀ q : Nat, s.heap.size ≤ q → A q := fun q h => by rw [← hAe]; exact Or.inr h
  have hS : va_S A s.heap s.heap [] := va_S.rf
  have hP : va_P D vwCl (mW G mo ad σ τ) s.heap := hP
  have hl := lv_entry ([.ref mo, .int t, .int name, .int kind, .int dd, .int mm]) (n := 8) (Nat.le_of_ble_eq_true rfl)
  rw [lg_entry_eq]
  generalize (lg_sl ([.ref mo, .int t, .int name, .int kind, .int dd, .int mm]) ++ List.replicate (8 - (lg_sl ([.ref mo, .int t, .int name, .int kind, .int dd, .int mm])).length) Slot.unset).toArray = ls at hl ⊢
  have hl : lv_has ls 8 [(0, .ref mo), (1, .int t), (2, .int name), (3, .int kind), (4, .int dd), (5, .int mm)] := hl
  refine lv_aload_n hx hb dX8_field_0 rfl (lv_at hl 0 rfl) ?_
  refine lv_iconst (v := 0) hx hb dX8_field_1 (by decide) ?_
  refine va_put (D := D) (ci := 8) (v := .int 0) (ty := .int) (C := RX8) (T := TX8) (N := 33) hx hb hts iX8 tyX8 tyX8_ok nmX8 hown hK.1 hP hD hS 0 rfl rfl 0 (by decide) (hts _ q_679) (fun _ h9 => h9) rfl (by decide +kernel) rfl rfl (Nat.le_of_ble_eq_true rfl) dX8_field_2 (fun H locs hP hD hS => ?_)
  have hP : va_P D vwCl (mW G mo ad (su σ 0 (0) (0)) (τ)) H := hP
  have hD : va_D A (mW G mo ad (su σ 0 (0) (0)) (τ)) := hD
  refine lv_aload_n hx hb dX8_field_5 rfl (lv_at hl 0 rfl) ?_
  refine lv_iload_n hx hb dX8_field_6 rfl (lv_at hl 1 rfl) ?_
  refine lv_iload_n hx hb dX8_field_7 rfl (lv_at hl 2 rfl) ?_
  refine lv_iload_n hx hb dX8_field_8 rfl (lv_at hl 3 rfl) ?_
  refine lv_iload hx hb dX8_field_9 (lv_at hl 4 rfl) ?_
  refine lv_iload hx hb dX8_field_11 (lv_at hl 5 rfl) ?_
  refine ro_Vi (D := D) (G := G) (As := [.int t, .int name, .int kind, .int dd, .int mm]) (rest := []) ⟨hx, hb, hml, hown, hts⟩ (m_refusal l D G _ mo ad _ _ hP n h1 hn t name kind dd mm) gV_X8_X8_refusal hdV_X8_refusal ⟨Nat.le_of_ble_eq_true rfl, Nat.le_of_ble_eq_true rfl⟩ hK (va_recv hK.1 hP (ci := 8) (q0 := 0) rfl rfl) rfl hl.1 rfl (Nat.le_of_ble_eq_true rfl) dX8_field_13 ⟨Nat.le_of_ble_eq_true rfl, Nat.le_of_ble_eq_true rfl⟩ (fun r1 e_r1 => ?_)
  subst e_r1
  refine W.eq (g2 := F0 m 16 ls [.int (aRef σ n t name kind dd mm)]) rfl ?_
  refine lv_istore (lv' := [(6, .int (aRef σ n t name kind dd mm)), (0, .ref mo), (1, .int t), (2, .int name), (3, .int kind), (4, .int dd), (5, .int mm)]) hx hb dX8_field_16 hl (by decide) rfl (fun ls hl => ?_)
  refine lv_iload hx hb dX8_field_18 (lv_at hl 0 rfl) ?_
  refine lv_if_ge (tgt := 26) hx hb dX8_field_20 (by decide) (fun c2 => ?_) (fun c2 => ?_)
  · -- 20 taken
    have hr0 := aRef_ok c2
    have hk59 : k < 60 := by rcases Nat.lt_or_ge k 60 with h9 | h9; exact h9; exact absurd (by rw [h7, show k = 60 by omega]; rfl) hr0.2.2.2.2.2.2.2.2.2
    obtain ⟨j, h_j, rfl⟩ := okN_ex (by omega) hr0.1
    refine lv_aload_n hx hb dX8_field_26 rfl (lv_at hl 1 rfl) ?_
    refine lv_iload_n hx hb dX8_field_27 rfl (lv_at hl 2 rfl) ?_
    refine lv_iload_n hx hb dX8_field_28 rfl (lv_at hl 3 rfl) ?_
    refine lv_iload_n hx hb dX8_field_29 rfl (lv_at hl 4 rfl) ?_
    refine lv_iload hx hb dX8_field_30 (lv_at hl 6 rfl) ?_
    refine ro_Vi (D := D) (G := G) (As := [.int (nI j), .int name, .int kind, .int mm]) (rest := []) ⟨hx, hb, hml, hown, hts⟩ (m_ruleOfField l D G _ mo ad _ _ hP k h7 hk60 (j) (by omega) name kind mm) gV_X8_X8_ruleOfField hdV_X8_ruleOfField ⟨Nat.le_of_ble_eq_true rfl, Nat.le_of_ble_eq_true rfl⟩ hK (va_recv hK.1 hP (ci := 8) (q0 := 0) rfl rfl) rfl hl.1 rfl (Nat.le_of_ble_eq_true rfl) dX8_field_32 ⟨Nat.le_of_ble_eq_true rfl, Nat.le_of_ble_eq_true rfl⟩ (fun r3 e_r3 => ?_)
    subst e_r3
    refine W.eq (g2 := F0 m 35 ls [.int (aRF σ k j name kind mm)]) rfl ?_
    refine lv_istore (lv' := [(7, .int (aRF σ k j name kind mm)), (6, .int (aRef σ n (nI j) name kind dd mm)), (0, .ref mo), (1, .int (nI j)), (2, .int name), (3, .int kind), (4, .int dd), (5, .int mm)]) hx hb dX8_field_35 hl (by decide) rfl (fun ls hl => ?_)
    refine lv_iload hx hb dX8_field_37 (lv_at hl 0 rfl) ?_
    refine lv_if_le (tgt := 49) hx hb dX8_field_39 (by decide) (fun c4 => ?_) (fun c4 => ?_)
    · -- 39 taken
      refine lv_aload_n hx hb dX8_field_49 rfl (lv_at hl 2 rfl) ?_
      refine lv_iload_n hx hb dX8_field_50 rfl (lv_at hl 3 rfl) ?_
      refine lv_iload_n hx hb dX8_field_51 rfl (lv_at hl 4 rfl) ?_
      refine lv_iload_n hx hb dX8_field_52 rfl (lv_at hl 5 rfl) ?_
      refine lv_iload hx hb dX8_field_53 (lv_at hl 6 rfl) ?_
      refine lv_aload_n hx hb dX8_field_55 rfl (lv_at hl 2 rfl) ?_
      refine lv_iload_n hx hb dX8_field_56 rfl (lv_at hl 3 rfl) ?_
      refine ro_Vi (D := D) (G := G) (As := [.int (nI j)]) (rest := [.int dd, .int kind, .int name, .int (nI j), .ref mo]) ⟨hx, hb, hml, hown, hts⟩ (m_isFace l D G _ mo ad _ _ hP (j) (by omega)) gV_X8_X8_isFace hdV_X8_isFace ⟨Nat.le_of_ble_eq_true rfl, Nat.le_of_ble_eq_true rfl⟩ hK (va_recv hK.1 hP (ci := 8) (q0 := 0) rfl rfl) rfl hl.1 rfl (Nat.le_of_ble_eq_true rfl) dX8_field_57 ⟨Nat.le_of_ble_eq_true rfl, Nat.le_of_ble_eq_true rfl⟩ (fun r5 e_r5 => ?_)
      subst e_r5
      refine W.eq (g2 := F0 m 60 ls [.int (bI (σ 2 (j) = 3)), .int dd, .int kind, .int name, .int (nI j), .ref mo]) rfl ?_
      refine lv_if_eq (tgt := 76) hx hb dX8_field_60 (by decide) (fun c6 => ?_) (fun c6 => ?_)
      · -- 60 taken
        have c6 := bI_0 c6
        refine lv_iload hx hb dX8_field_76 (lv_at hl 7 rfl) ?_
        refine mu_Vv (D := D) (G := G) (mo := mo) (ad := ad) (u := (su σ 0 (0) (0), τ)) (As := [.int (nI j), .int name, .int kind, .int dd, .int mm]) (rest := []) ⟨hx, hb, hml, hown, hts⟩ (m_lays l D G mo ad (su σ 0 (0) (0)) (τ) _ k h7 hk60 hk59 (nI j) name kind dd mm) gV_X8_X8_lays hdV_X8_lays ⟨Nat.le_of_ble_eq_true rfl, Nat.le_of_ble_eq_true rfl⟩ hK hP hD hS hA rfl hl.1 rfl (Nat.le_of_ble_eq_true rfl) dX8_field_78 ⟨Nat.le_of_ble_eq_true rfl, Nat.le_of_ble_eq_true rfl⟩ (fun H locs hP hD hS => ?_)
        have hP : va_P D vwCl (mW G mo ad (su (su (su (su (su (su σ 0 (0) (0)) 9 (k) (nI j)) 10 (k) (name)) 11 (k) (kind)) 12 (k) (dd)) 13 (k) (mm)) (τ)) H := hP
        have hD : va_D A (mW G mo ad (su (su (su (su (su (su σ 0 (0) (0)) 9 (k) (nI j)) 10 (k) (name)) 11 (k) (kind)) 12 (k) (dd)) 13 (k) (mm)) (τ)) := hD
        refine lv_aload_n hx hb dX8_field_81 rfl (lv_at hl 2 rfl) ?_
        refine va_get (D := D) (ci := 8) (v := .ref ((ad 8))) (C := RX8) (T := TX8) (N := 33) hx hb hts iX8 hown hK.1 hP 0 rfl rfl 8 (by decide) (hts _ q_687) (fun _ h9 => h9) rfl dX8_field_82 ?_
        refine lv_aload_n hx hb dX8_field_85 rfl (lv_at hl 2 rfl) ?_
        refine va_get (D := D) (ci := 8) (v := .int (σ 7 0)) (C := RX8) (T := TX8) (N := 33) hx hb hts iX8 hown hK.1 hP 0 rfl rfl 7 (by decide) (hts _ q_686) (fun _ h9 => h9) rfl dX8_field_86 ?_
        refine lv_iconst (v := 0) hx hb dX8_field_89 (by decide) ?_
        refine zast_n hx hb hK.1 hP hD hS 6 2 rfl rfl (k) h7 (by omega) (by decide) (Or.inl rfl) dX8_field_90 (fun H locs hP hD hS => ?_)
        have hP : va_P D vwCl (mW G mo ad (su (su (su (su (su (su (su σ 0 (0) (0)) 9 (k) (nI j)) 10 (k) (name)) 11 (k) (kind)) 12 (k) (dd)) 13 (k) (mm)) 8 (k) (0)) (τ)) H := hP
        have hD : va_D A (mW G mo ad (su (su (su (su (su (su (su σ 0 (0) (0)) 9 (k) (nI j)) 10 (k) (name)) 11 (k) (kind)) 12 (k) (dd)) 13 (k) (mm)) 8 (k) (0)) (τ)) := hD
        refine lv_aload_n hx hb dX8_field_91 rfl (lv_at hl 2 rfl) ?_
        refine va_get (D := D) (ci := 8) (v := .ref ((ad 14))) (C := RX8) (T := TX8) (N := 33) hx hb hts iX8 hown hK.1 hP 0 rfl rfl 14 (by decide) (hts _ q_693) (fun _ h9 => h9) rfl dX8_field_92 ?_
        refine lv_aload_n hx hb dX8_field_95 rfl (lv_at hl 2 rfl) ?_
        refine va_get (D := D) (ci := 8) (v := .int (σ 7 0)) (C := RX8) (T := TX8) (N := 33) hx hb hts iX8 hown hK.1 hP 0 rfl rfl 7 (by decide) (hts _ q_686) (fun _ h9 => h9) rfl dX8_field_96 ?_
        refine lv_iconst (v := 0) hx hb dX8_field_99 (by decide) ?_
        refine zast_n hx hb hK.1 hP hD hS 12 2 rfl rfl (k) h7 (by omega) (by decide) (Or.inl rfl) dX8_field_100 (fun H locs hP hD hS => ?_)
        have hP : va_P D vwCl (mW G mo ad (su (su (su (su (su (su (su (su σ 0 (0) (0)) 9 (k) (nI j)) 10 (k) (name)) 11 (k) (kind)) 12 (k) (dd)) 13 (k) (mm)) 8 (k) (0)) 14 (k) (0)) (τ)) H := hP
        have hD : va_D A (mW G mo ad (su (su (su (su (su (su (su (su σ 0 (0) (0)) 9 (k) (nI j)) 10 (k) (name)) 11 (k) (kind)) 12 (k) (dd)) 13 (k) (mm)) 8 (k) (0)) 14 (k) (0)) (τ)) := hD
        refine lv_aload_n hx hb dX8_field_101 rfl (lv_at hl 2 rfl) ?_
        refine lv_dup hx hb dX8_field_102 rfl ?_
        refine va_get (D := D) (ci := 8) (v := .int (σ 7 0)) (C := RX8) (T := TX8) (N := 33) hx hb hts iX8 hown hK.1 hP 0 rfl rfl 7 (by decide) (hts _ q_686) (fun _ h9 => h9) rfl dX8_field_103 ?_
        refine lv_iconst (v := 1) hx hb dX8_field_106 (by decide) ?_
        refine lv_iadd hx hb dX8_field_107 ?_
        refine W.eq (g2 := F0 m 108 ls [.int (nI (k + 1)), .ref mo]) (congrArg (fun z9 => F0 m 108 ls [.int z9, .ref mo]) (n_add (a := k) (b := 1) h7 (rfl : (1 : Int32) = nI 1))) ?_
        refine va_put (D := D) (ci := 8) (v := .int (nI (k + 1))) (ty := .int) (C := RX8) (T := TX8) (N := 33) hx hb hts iX8 tyX8 tyX8_ok nmX8 hown hK.1 hP hD hS 0 rfl rfl 7 (by decide) (hts _ q_686) (fun _ h9 => h9) rfl (by decide +kernel) rfl rfl (Nat.le_of_ble_eq_true rfl) dX8_field_108 (fun H locs hP hD hS => ?_)
        have hP : va_P D vwCl (mW G mo ad (su (su (su (su (su (su (su (su (su σ 0 (0) (0)) 9 (k) (nI j)) 10 (k) (name)) 11 (k) (kind)) 12 (k) (dd)) 13 (k) (mm)) 8 (k) (0)) 14 (k) (0)) 7 (0) (nI (k + 1))) (τ)) H := hP
        have hD : va_D A (mW G mo ad (su (su (su (su (su (su (su (su (su σ 0 (0) (0)) 9 (k) (nI j)) 10 (k) (name)) 11 (k) (kind)) 12 (k) (dd)) 13 (k) (mm)) 8 (k) (0)) 14 (k) (0)) 7 (0) (nI (k + 1))) (τ)) := hD
        refine lv_aload_n hx hb dX8_field_111 rfl (lv_at hl 2 rfl) ?_
        refine va_get (D := D) (ci := 8) (v := .int (nI (k + 1))) (C := RX8) (T := TX8) (N := 33) hx hb hts iX8 hown hK.1 hP 0 rfl rfl 7 (by decide) (hts _ q_686) (fun _ h9 => h9) rfl dX8_field_112 ?_
        refine lv_iconst (v := 1) hx hb dX8_field_115 (by decide) ?_
        refine lv_isub hx hb dX8_field_116 ?_
        refine W.eq (g2 := F0 m 117 ls [.int (nI k)]) (congrArg (fun z9 => F0 m 117 ls [.int z9]) (nI_pred k)) ?_
        have ho : oField σ τ n k (nI j) name kind dd mm = (nI k, su (su (su (su (su (su (su (su (su σ 0 (0) (0)) 9 (k) (nI j)) 10 (k) (name)) 11 (k) (kind)) 12 (k) (dd)) 13 (k) (mm)) 8 (k) (0)) 14 (k) (0)) 7 (0) (nI (k + 1)), τ) := by unfold oField; simp only [eq_true c2, eq_true c4, eq_false c6, nI_clamp (show j < 2 ^ 31 by omega), not_true, not_false_iff, not_true_eq_false, not_false_eq_true, true_or, or_true, false_or, or_false, or_self, and_self, true_and, and_true, false_and, and_false, if_true, if_false]; try rfl
        exact mu_iret (v0 := nI k) (z := (su (su (su (su (su (su (su (su (su σ 0 (0) (0)) 9 (k) (nI j)) 10 (k) (name)) 11 (k) (kind)) 12 (k) (dd)) 13 (k) (mm)) 8 (k) (0)) 14 (k) (0)) 7 (0) (nI (k + 1)), τ)) hx hb hr hlocks hP hD hS dX8_field_117 (by rw [ho]) (by rw [ho])
      · -- 60 not
        have c6 := bI_1 c6
        refine lv_iload hx hb dX8_field_63 (lv_at hl 7 rfl) ?_
        refine lv_iconst (v := 1) hx hb dX8_field_65 (by decide) ?_
        refine lv_ior hx hb dX8_field_66 ?_
        refine lv_bipush (v := 8) hx hb dX8_field_67 (by decide) ?_
        refine lv_ior hx hb dX8_field_69 ?_
        refine lv_bipush (v := 16) hx hb dX8_field_70 (by decide) ?_
        refine lv_ior hx hb dX8_field_72 ?_
        refine lv_goto (tgt := 78) hx hb dX8_field_73 (by decide) ?_
        refine mu_Vv (D := D) (G := G) (mo := mo) (ad := ad) (u := (su σ 0 (0) (0), τ)) (As := [.int (nI j), .int name, .int kind, .int dd, .int (((mm ||| 1) ||| 8) ||| 16)]) (rest := []) ⟨hx, hb, hml, hown, hts⟩ (m_lays l D G mo ad (su σ 0 (0) (0)) (τ) _ k h7 hk60 hk59 (nI j) name kind dd (((mm ||| 1) ||| 8) ||| 16)) gV_X8_X8_lays hdV_X8_lays ⟨Nat.le_of_ble_eq_true rfl, Nat.le_of_ble_eq_true rfl⟩ hK hP hD hS hA rfl hl.1 rfl (Nat.le_of_ble_eq_true rfl) dX8_field_78 ⟨Nat.le_of_ble_eq_true rfl, Nat.le_of_ble_eq_true rfl⟩ (fun H locs hP hD hS => ?_)
        have hP : va_P D vwCl (mW G mo ad (su (su (su (su (su (su σ 0 (0) (0)) 9 (k) (nI j)) 10 (k) (name)) 11 (k) (kind)) 12 (k) (dd)) 13 (k) (((mm ||| 1) ||| 8) ||| 16)) (τ)) H := hP
        have hD : va_D A (mW G mo ad (su (su (su (su (su (su σ 0 (0) (0)) 9 (k) (nI j)) 10 (k) (name)) 11 (k) (kind)) 12 (k) (dd)) 13 (k) (((mm ||| 1) ||| 8) ||| 16)) (τ)) := hD
        refine lv_aload_n hx hb dX8_field_81 rfl (lv_at hl 2 rfl) ?_
        refine va_get (D := D) (ci := 8) (v := .ref ((ad 8))) (C := RX8) (T := TX8) (N := 33) hx hb hts iX8 hown hK.1 hP 0 rfl rfl 8 (by decide) (hts _ q_687) (fun _ h9 => h9) rfl dX8_field_82 ?_
        refine lv_aload_n hx hb dX8_field_85 rfl (lv_at hl 2 rfl) ?_
        refine va_get (D := D) (ci := 8) (v := .int (σ 7 0)) (C := RX8) (T := TX8) (N := 33) hx hb hts iX8 hown hK.1 hP 0 rfl rfl 7 (by decide) (hts _ q_686) (fun _ h9 => h9) rfl dX8_field_86 ?_
        refine lv_iconst (v := 0) hx hb dX8_field_89 (by decide) ?_
        refine zast_n hx hb hK.1 hP hD hS 6 2 rfl rfl (k) h7 (by omega) (by decide) (Or.inl rfl) dX8_field_90 (fun H locs hP hD hS => ?_)
        have hP : va_P D vwCl (mW G mo ad (su (su (su (su (su (su (su σ 0 (0) (0)) 9 (k) (nI j)) 10 (k) (name)) 11 (k) (kind)) 12 (k) (dd)) 13 (k) (((mm ||| 1) ||| 8) ||| 16)) 8 (k) (0)) (τ)) H := hP
        have hD : va_D A (mW G mo ad (su (su (su (su (su (su (su σ 0 (0) (0)) 9 (k) (nI j)) 10 (k) (name)) 11 (k) (kind)) 12 (k) (dd)) 13 (k) (((mm ||| 1) ||| 8) ||| 16)) 8 (k) (0)) (τ)) := hD
        refine lv_aload_n hx hb dX8_field_91 rfl (lv_at hl 2 rfl) ?_
        refine va_get (D := D) (ci := 8) (v := .ref ((ad 14))) (C := RX8) (T := TX8) (N := 33) hx hb hts iX8 hown hK.1 hP 0 rfl rfl 14 (by decide) (hts _ q_693) (fun _ h9 => h9) rfl dX8_field_92 ?_
        refine lv_aload_n hx hb dX8_field_95 rfl (lv_at hl 2 rfl) ?_
        refine va_get (D := D) (ci := 8) (v := .int (σ 7 0)) (C := RX8) (T := TX8) (N := 33) hx hb hts iX8 hown hK.1 hP 0 rfl rfl 7 (by decide) (hts _ q_686) (fun _ h9 => h9) rfl dX8_field_96 ?_
        refine lv_iconst (v := 0) hx hb dX8_field_99 (by decide) ?_
        refine zast_n hx hb hK.1 hP hD hS 12 2 rfl rfl (k) h7 (by omega) (by decide) (Or.inl rfl) dX8_field_100 (fun H locs hP hD hS => ?_)
        have hP : va_P D vwCl (mW G mo ad (su (su (su (su (su (su (su (su σ 0 (0) (0)) 9 (k) (nI j)) 10 (k) (name)) 11 (k) (kind)) 12 (k) (dd)) 13 (k) (((mm ||| 1) ||| 8) ||| 16)) 8 (k) (0)) 14 (k) (0)) (τ)) H := hP
        have hD : va_D A (mW G mo ad (su (su (su (su (su (su (su (su σ 0 (0) (0)) 9 (k) (nI j)) 10 (k) (name)) 11 (k) (kind)) 12 (k) (dd)) 13 (k) (((mm ||| 1) ||| 8) ||| 16)) 8 (k) (0)) 14 (k) (0)) (τ)) := hD
        refine lv_aload_n hx hb dX8_field_101 rfl (lv_at hl 2 rfl) ?_
        refine lv_dup hx hb dX8_field_102 rfl ?_
        refine va_get (D := D) (ci := 8) (v := .int (σ 7 0)) (C := RX8) (T := TX8) (N := 33) hx hb hts iX8 hown hK.1 hP 0 rfl rfl 7 (by decide) (hts _ q_686) (fun _ h9 => h9) rfl dX8_field_103 ?_
        refine lv_iconst (v := 1) hx hb dX8_field_106 (by decide) ?_
        refine lv_iadd hx hb dX8_field_107 ?_
        refine W.eq (g2 := F0 m 108 ls [.int (nI (k + 1)), .ref mo]) (congrArg (fun z9 => F0 m 108 ls [.int z9, .ref mo]) (n_add (a := k) (b := 1) h7 (rfl : (1 : Int32) = nI 1))) ?_
        refine va_put (D := D) (ci := 8) (v := .int (nI (k + 1))) (ty := .int) (C := RX8) (T := TX8) (N := 33) hx hb hts iX8 tyX8 tyX8_ok nmX8 hown hK.1 hP hD hS 0 rfl rfl 7 (by decide) (hts _ q_686) (fun _ h9 => h9) rfl (by decide +kernel) rfl rfl (Nat.le_of_ble_eq_true rfl) dX8_field_108 (fun H locs hP hD hS => ?_)
        have hP : va_P D vwCl (mW G mo ad (su (su (su (su (su (su (su (su (su σ 0 (0) (0)) 9 (k) (nI j)) 10 (k) (name)) 11 (k) (kind)) 12 (k) (dd)) 13 (k) (((mm ||| 1) ||| 8) ||| 16)) 8 (k) (0)) 14 (k) (0)) 7 (0) (nI (k + 1))) (τ)) H := hP
        have hD : va_D A (mW G mo ad (su (su (su (su (su (su (su (su (su σ 0 (0) (0)) 9 (k) (nI j)) 10 (k) (name)) 11 (k) (kind)) 12 (k) (dd)) 13 (k) (((mm ||| 1) ||| 8) ||| 16)) 8 (k) (0)) 14 (k) (0)) 7 (0) (nI (k + 1))) (τ)) := hD
        refine lv_aload_n hx hb dX8_field_111 rfl (lv_at hl 2 rfl) ?_
        refine va_get (D := D) (ci := 8) (v := .int (nI (k + 1))) (C := RX8) (T := TX8) (N := 33) hx hb hts iX8 hown hK.1 hP 0 rfl rfl 7 (by decide) (hts _ q_686) (fun _ h9 => h9) rfl dX8_field_112 ?_
        refine lv_iconst (v := 1) hx hb dX8_field_115 (by decide) ?_
        refine lv_isub hx hb dX8_field_116 ?_
        refine W.eq (g2 := F0 m 117 ls [.int (nI k)]) (congrArg (fun z9 => F0 m 117 ls [.int z9]) (nI_pred k)) ?_
        have ho : oField σ τ n k (nI j) name kind dd mm = (nI k, su (su (su (su (su (su (su (su (su σ 0 (0) (0)) 9 (k) (nI j)) 10 (k) (name)) 11 (k) (kind)) 12 (k) (dd)) 13 (k) (((mm ||| 1) ||| 8) ||| 16)) 8 (k) (0)) 14 (k) (0)) 7 (0) (nI (k + 1)), τ) := by unfold oField; simp only [eq_true c2, eq_true c4, eq_true c6, nI_clamp (show j < 2 ^ 31 by omega), not_true, not_false_iff, not_true_eq_false, not_false_eq_true, true_or, or_true, false_or, or_false, or_self, and_self, true_and, and_true, false_and, and_false, if_true, if_false]; try rfl
        exact mu_iret (v0 := nI k) (z := (su (su (su (su (su (su (su (su (su σ 0 (0) (0)) 9 (k) (nI j)) 10 (k) (name)) 11 (k) (kind)) 12 (k) (dd)) 13 (k) (((mm ||| 1) ||| 8) ||| 16)) 8 (k) (0)) 14 (k) (0)) 7 (0) (nI (k + 1)), τ)) hx hb hr hlocks hP hD hS dX8_field_117 (by rw [ho]) (by rw [ho])
    · -- 39 not
      refine lv_aload_n hx hb dX8_field_42 rfl (lv_at hl 2 rfl) ?_
      refine lv_iload hx hb dX8_field_43 (lv_at hl 0 rfl) ?_
      have hok : okR (aRF σ k j name kind mm) := aRF_ok
      refine W.eq (g2 := F0 m 45 ls [.int (nI ((aRF σ k j name kind mm).toNatClampNeg)), .ref mo]) (congrArg (fun z9 => F0 m 45 ls [.int z9, .ref mo]) hok.1) ?_
      refine mu_Vi (D := D) (G := G) (mo := mo) (ad := ad) (u := (su σ 0 (0) (0), τ)) (As := [.int (nI ((aRF σ k j name kind mm).toNatClampNeg))]) (rest := []) ⟨hx, hb, hml, hown, hts⟩ (m_breaks l D G mo ad (su σ 0 (0) (0)) (τ) _ (((aRF σ k j name kind mm).toNatClampNeg)) (by omega)) gV_X8_X8_breaks hdV_X8_breaks ⟨Nat.le_of_ble_eq_true rfl, Nat.le_of_ble_eq_true rfl⟩ hK hP hD hS hA rfl hl.1 rfl (Nat.le_of_ble_eq_true rfl) dX8_field_45 ⟨Nat.le_of_ble_eq_true rfl, Nat.le_of_ble_eq_true rfl⟩ (fun H locs hP hD hS => ?_)
      have hP : va_P D vwCl (mW G mo ad (su (su (su σ 0 (0) (0)) 27 (((aRF σ k j name kind mm).toNatClampNeg)) (σ 27 (((aRF σ k j name kind mm).toNatClampNeg)) + 1)) 26 (0) (σ 26 0 + 1)) (τ)) H := hP
      have hD : va_D A (mW G mo ad (su (su (su σ 0 (0) (0)) 27 (((aRF σ k j name kind mm).toNatClampNeg)) (σ 27 (((aRF σ k j name kind mm).toNatClampNeg)) + 1)) 26 (0) (σ 26 0 + 1)) (τ)) := hD
      refine W.eq (g2 := F0 m 48 ls [.int ((-40) - nI ((aRF σ k j name kind mm).toNatClampNeg))]) rfl ?_
      have ho : oField σ τ n k (nI j) name kind dd mm = ((-40) - nI ((aRF σ k j name kind mm).toNatClampNeg), su (su (su σ 0 (0) (0)) 27 (((aRF σ k j name kind mm).toNatClampNeg)) (σ 27 (((aRF σ k j name kind mm).toNatClampNeg)) + 1)) 26 (0) (σ 26 0 + 1), τ) := by unfold oField; simp only [eq_true c2, eq_false c4, nI_clamp (show j < 2 ^ 31 by omega), not_true, not_false_iff, not_true_eq_false, not_false_eq_true, true_or, or_true, false_or, or_false, or_self, and_self, true_and, and_true, false_and, and_false, if_true, if_false]; try rfl
      exact mu_iret (v0 := (-40) - nI ((aRF σ k j name kind mm).toNatClampNeg)) (z := (su (su (su σ 0 (0) (0)) 27 (((aRF σ k j name kind mm).toNatClampNeg)) (σ 27 (((aRF σ k j name kind mm).toNatClampNeg)) + 1)) 26 (0) (σ 26 0 + 1), τ)) hx hb hr hlocks hP hD hS dX8_field_48 (by rw [ho]) (by rw [ho])
  · -- 20 not
    refine lv_iload hx hb dX8_field_23 (lv_at hl 0 rfl) ?_
    have ho : oField σ τ n k t name kind dd mm = (aRef σ n t name kind dd mm, su σ 0 (0) (0), τ) := by unfold oField; simp only [eq_false c2, not_true, not_false_iff, not_true_eq_false, not_false_eq_true, true_or, or_true, false_or, or_false, or_self, and_self, true_and, and_true, false_and, and_false, if_true, if_false]; try rfl
    exact mu_iret (v0 := aRef σ n t name kind dd mm) (z := (su σ 0 (0) (0), τ)) hx hb hr hlocks hP hD hS dX8_field_25 (by rw [ho]) (by rw [ho])
set_option maxHeartbeats 4000000 in
set_option maxRecDepth 100000 in
theorem m_member (l : Launch) (D : va_G) (G : Nat → ClassId) (mo : Nat) (ad : Nat → Nat) (σ : MS) (τ : Nat → Int64) (sz : Nat) (n : Nat) (h1 : σ 1 0 = nI n) (hn : n ≤ 12) (k : Nat) (h7 : σ 7 0 = nI k) (hk60 : k ≤ 60) (t : Int32) (name : Int32) (kind : Int32) (dd : Int32) (mm : Int32) (bd : Int32) (hbd : bd = 0 ∨ bd = 1) : Met l yX8_member (ww yX8_member cX8_member 10 (some .int)) (rmD 4) (muP D G sz mo ad (σ, τ) [.ref mo, .int t, .int name, .int kind, .int dd, .int mm, .int bd]) (muQi D G mo ad (muA G mo ad (σ, τ) sz) (oMember σ τ n k t name kind dd mm bd).1 (oMember σ τ n k t name kind dd mm bd).2) 0 0 (muA G mo ad (σ, τ) sz) := by
  refine Met.ofW (cc := cX8_member) (maxL := 10) (ret := (some .int)) (by decide) rfl ?_
  intro p e s m args below meth c s₁ B hml hv
  obtain ⟨rfl, hsz, hP, hK, hD0⟩ := hv
  have hx := B.exec
  have hb := B.bytes
  have hr := B.returns
  have hts : ∀ w ∈ TT, w.before _ s = true := fun w h => atoms_spec (ws := ww yX8_member cX8_member 10 (some .int)) B.pre w (List.mem_cons_of_mem _ h)
  have hown : s.vm.findClass RX8 = some m.cls := findClass_of_methodNamed B.named
  have hlocks := B.notSynchronized
  subst hsz
  have hD : va_D (muA G mo ad (σ, τ) s.heap.size) (mW G mo ad σ τ) := hD0.self
  generalize hAe : muA G mo ad (σ, τ) s.heap.size = A at hD ⊢
  have hA : ∀ q : Nat, s.heap.size ≤ q → A q := fun q h => by rw [← hAe]; exact Or.inr h
  have hS : va_S A s.heap s.heap [] := va_S.rf
  have hP : va_P D vwCl (mW G mo ad σ τ) s.heap := hP
  have hl := lv_entry ([.ref mo, .int t, .int name, .int kind, .int dd, .int mm, .int bd]) (n := 10) (Nat.le_of_ble_eq_true rfl)
  rw [lg_entry_eq]
  generalize (lg_sl ([.ref mo, .int t, .int name, .int kind, .int dd, .int mm, .int bd]) ++ List.replicate (10 - (lg_sl ([.ref mo, .int t, .int name, .int kind, .int dd, .int mm, .int bd])).length) Slot.unset).toArray = ls at hl ⊢
  have hl : lv_has ls 10 [(0, .ref mo), (1, .int t), (2, .int name), (3, .int kind), (4, .int dd), (5, .int mm), (6, .int bd)] := hl
  refine lv_aload_n hx hb dX8_member_0 rfl (lv_at hl 0 rfl) ?_
  refine lv_iconst (v := 0) hx hb dX8_member_1 (by decide) ?_
  refine va_put (D := D) (ci := 8) (v := .int 0) (ty := .int) (C := RX8) (T := TX8) (N := 33) hx hb hts iX8 tyX8 tyX8_ok nmX8 hown hK.1 hP hD hS 0 rfl rfl 0 (by decide) (hts _ q_679) (fun _ h9 => h9) rfl (by decide +kernel) rfl rfl (Nat.le_of_ble_eq_true rfl) dX8_member_2 (fun H locs hP hD hS => ?_)
  have hP : va_P D vwCl (mW G mo ad (su σ 0 (0) (0)) (τ)) H := hP
  have hD : va_D A (mW G mo ad (su σ 0 (0) (0)) (τ)) := hD
  refine lv_aload_n hx hb dX8_member_5 rfl (lv_at hl 0 rfl) ?_
  refine lv_iload_n hx hb dX8_member_6 rfl (lv_at hl 1 rfl) ?_
  refine lv_iload_n hx hb dX8_member_7 rfl (lv_at hl 2 rfl) ?_
  refine lv_iload_n hx hb dX8_member_8 rfl (lv_at hl 3 rfl) ?_
  refine lv_iload hx hb dX8_member_9 (lv_at hl 4 rfl) ?_
  refine lv_iload hx hb dX8_member_11 (lv_at hl 5 rfl) ?_
  refine ro_Vi (D := D) (G := G) (As := [.int t, .int name, .int kind, .int dd, .int mm]) (rest := []) ⟨hx, hb, hml, hown, hts⟩ (m_refusal l D G _ mo ad _ _ hP n h1 hn t name kind dd mm) gV_X8_X8_refusal hdV_X8_refusal ⟨Nat.le_of_ble_eq_true rfl, Nat.le_of_ble_eq_true rfl⟩ hK (va_recv hK.1 hP (ci := 8) (q0 := 0) rfl rfl) rfl hl.1 rfl (Nat.le_of_ble_eq_true rfl) dX8_member_13 ⟨Nat.le_of_ble_eq_true rfl, Nat.le_of_ble_eq_true rfl⟩ (fun r1 e_r1 => ?_)
  subst e_r1
  refine W.eq (g2 := F0 m 16 ls [.int (aRef σ n t name kind dd mm)]) rfl ?_
  refine lv_istore (lv' := [(7, .int (aRef σ n t name kind dd mm)), (0, .ref mo), (1, .int t), (2, .int name), (3, .int kind), (4, .int dd), (5, .int mm), (6, .int bd)]) hx hb dX8_member_16 hl (by decide) rfl (fun ls hl => ?_)
  refine lv_iload hx hb dX8_member_18 (lv_at hl 0 rfl) ?_
  refine lv_if_ge (tgt := 26) hx hb dX8_member_20 (by decide) (fun c2 => ?_) (fun c2 => ?_)
  · -- 20 taken
    have hr0 := aRef_ok c2
    have hk59 : k < 60 := by rcases Nat.lt_or_ge k 60 with h9 | h9; exact h9; exact absurd (by rw [h7, show k = 60 by omega]; rfl) hr0.2.2.2.2.2.2.2.2.2
    obtain ⟨j, h_j, rfl⟩ := okN_ex (by omega) hr0.1
    refine lv_aload_n hx hb dX8_member_26 rfl (lv_at hl 1 rfl) ?_
    refine lv_iload_n hx hb dX8_member_27 rfl (lv_at hl 2 rfl) ?_
    refine lv_iload hx hb dX8_member_28 (lv_at hl 6 rfl) ?_
    refine lv_iload hx hb dX8_member_30 (lv_at hl 7 rfl) ?_
    refine ro_Vi (D := D) (G := G) (As := [.int (nI j), .int mm, .int bd]) (rest := []) ⟨hx, hb, hml, hown, hts⟩ (m_ruleOfMember l D G _ mo ad _ _ hP (j) (by omega) mm bd) gV_X8_X8_ruleOfMember hdV_X8_ruleOfMember ⟨Nat.le_of_ble_eq_true rfl, Nat.le_of_ble_eq_true rfl⟩ hK (va_recv hK.1 hP (ci := 8) (q0 := 0) rfl rfl) rfl hl.1 rfl (Nat.le_of_ble_eq_true rfl) dX8_member_32 ⟨Nat.le_of_ble_eq_true rfl, Nat.le_of_ble_eq_true rfl⟩ (fun r3 e_r3 => ?_)
    subst e_r3
    refine W.eq (g2 := F0 m 35 ls [.int (aRM (σ 2 j) mm bd)]) rfl ?_
    refine lv_istore (lv' := [(8, .int (aRM (σ 2 j) mm bd)), (7, .int (aRef σ n (nI j) name kind dd mm)), (0, .ref mo), (1, .int (nI j)), (2, .int name), (3, .int kind), (4, .int dd), (5, .int mm), (6, .int bd)]) hx hb dX8_member_35 hl (by decide) rfl (fun ls hl => ?_)
    refine lv_iload hx hb dX8_member_37 (lv_at hl 0 rfl) ?_
    refine lv_if_le (tgt := 49) hx hb dX8_member_39 (by decide) (fun c4 => ?_) (fun c4 => ?_)
    · -- 39 taken
      refine lv_iload hx hb dX8_member_49 (lv_at hl 7 rfl) ?_
      refine lv_istore (lv' := [(9, .int mm), (8, .int (aRM (σ 2 j) mm bd)), (7, .int (aRef σ n (nI j) name kind dd mm)), (0, .ref mo), (1, .int (nI j)), (2, .int name), (3, .int kind), (4, .int dd), (5, .int mm), (6, .int bd)]) hx hb dX8_member_51 hl (by decide) rfl (fun ls hl => ?_)
      refine lv_aload_n hx hb dX8_member_53 rfl (lv_at hl 3 rfl) ?_
      refine lv_iload_n hx hb dX8_member_54 rfl (lv_at hl 4 rfl) ?_
      refine ro_Vi (D := D) (G := G) (As := [.int (nI j)]) (rest := []) ⟨hx, hb, hml, hown, hts⟩ (m_isFace l D G _ mo ad _ _ hP (j) (by omega)) gV_X8_X8_isFace hdV_X8_isFace ⟨Nat.le_of_ble_eq_true rfl, Nat.le_of_ble_eq_true rfl⟩ hK (va_recv hK.1 hP (ci := 8) (q0 := 0) rfl rfl) rfl hl.1 rfl (Nat.le_of_ble_eq_true rfl) dX8_member_55 ⟨Nat.le_of_ble_eq_true rfl, Nat.le_of_ble_eq_true rfl⟩ (fun r5 e_r5 => ?_)
      subst e_r5
      refine W.eq (g2 := F0 m 58 ls [.int (bI (σ 2 (j) = 3))]) rfl ?_
      refine lv_if_eq (tgt := 99) hx hb dX8_member_58 (by decide) (fun c6 => ?_) (fun c6 => ?_)
      · -- 58 taken
        have c6 := bI_0 c6
        refine lv_aload_n hx hb dX8_member_99 rfl (lv_at hl 3 rfl) ?_
        refine lv_iload_n hx hb dX8_member_100 rfl (lv_at hl 4 rfl) ?_
        refine lv_iload_n hx hb dX8_member_101 rfl (lv_at hl 5 rfl) ?_
        refine lv_iload_n hx hb dX8_member_102 rfl (lv_at hl 6 rfl) ?_
        refine lv_iload hx hb dX8_member_103 (lv_at hl 7 rfl) ?_
        refine lv_iload hx hb dX8_member_105 (lv_at hl 0 rfl) ?_
        refine mu_Vv (D := D) (G := G) (mo := mo) (ad := ad) (u := (su σ 0 (0) (0), τ)) (As := [.int (nI j), .int name, .int kind, .int dd, .int mm]) (rest := []) ⟨hx, hb, hml, hown, hts⟩ (m_lays l D G mo ad (su σ 0 (0) (0)) (τ) _ k h7 hk60 hk59 (nI j) name kind dd mm) gV_X8_X8_lays hdV_X8_lays ⟨Nat.le_of_ble_eq_true rfl, Nat.le_of_ble_eq_true rfl⟩ hK hP hD hS hA rfl hl.1 rfl (Nat.le_of_ble_eq_true rfl) dX8_member_107 ⟨Nat.le_of_ble_eq_true rfl, Nat.le_of_ble_eq_true rfl⟩ (fun H locs hP hD hS => ?_)
        have hP : va_P D vwCl (mW G mo ad (su (su (su (su (su (su σ 0 (0) (0)) 9 (k) (nI j)) 10 (k) (name)) 11 (k) (kind)) 12 (k) (dd)) 13 (k) (mm)) (τ)) H := hP
        have hD : va_D A (mW G mo ad (su (su (su (su (su (su σ 0 (0) (0)) 9 (k) (nI j)) 10 (k) (name)) 11 (k) (kind)) 12 (k) (dd)) 13 (k) (mm)) (τ)) := hD
        refine lv_aload_n hx hb dX8_member_110 rfl (lv_at hl 3 rfl) ?_
        refine va_get (D := D) (ci := 8) (v := .ref ((ad 16))) (C := RX8) (T := TX8) (N := 33) hx hb hts iX8 hown hK.1 hP 0 rfl rfl 16 (by decide) (hts _ q_695) (fun _ h9 => h9) rfl dX8_member_111 ?_
        refine lv_aload_n hx hb dX8_member_114 rfl (lv_at hl 3 rfl) ?_
        refine va_get (D := D) (ci := 8) (v := .int (σ 7 0)) (C := RX8) (T := TX8) (N := 33) hx hb hts iX8 hown hK.1 hP 0 rfl rfl 7 (by decide) (hts _ q_686) (fun _ h9 => h9) rfl dX8_member_115 ?_
        refine lv_iload hx hb dX8_member_118 (lv_at hl 9 rfl) ?_
        refine zast_n hx hb hK.1 hP hD hS 14 2 rfl rfl (k) h7 (by omega) (by decide) hbd dX8_member_120 (fun H locs hP hD hS => ?_)
        have hP : va_P D vwCl (mW G mo ad (su (su (su (su (su (su (su σ 0 (0) (0)) 9 (k) (nI j)) 10 (k) (name)) 11 (k) (kind)) 12 (k) (dd)) 13 (k) (mm)) 16 (k) (bd)) (τ)) H := hP
        have hD : va_D A (mW G mo ad (su (su (su (su (su (su (su σ 0 (0) (0)) 9 (k) (nI j)) 10 (k) (name)) 11 (k) (kind)) 12 (k) (dd)) 13 (k) (mm)) 16 (k) (bd)) (τ)) := hD
        refine lv_aload_n hx hb dX8_member_121 rfl (lv_at hl 3 rfl) ?_
        refine va_get (D := D) (ci := 8) (v := .ref ((ad 17))) (C := RX8) (T := TX8) (N := 33) hx hb hts iX8 hown hK.1 hP 0 rfl rfl 17 (by decide) (hts _ q_696) (fun _ h9 => h9) rfl dX8_member_122 ?_
        refine lv_aload_n hx hb dX8_member_125 rfl (lv_at hl 3 rfl) ?_
        refine va_get (D := D) (ci := 8) (v := .int (σ 7 0)) (C := RX8) (T := TX8) (N := 33) hx hb hts iX8 hown hK.1 hP 0 rfl rfl 7 (by decide) (hts _ q_686) (fun _ h9 => h9) rfl dX8_member_126 ?_
        refine lv_iconst (v := 0) hx hb dX8_member_129 (by decide) ?_
        refine zast_n hx hb hK.1 hP hD hS 15 2 rfl rfl (k) h7 (by omega) (by decide) (Or.inl rfl) dX8_member_130 (fun H locs hP hD hS => ?_)
        have hP : va_P D vwCl (mW G mo ad (su (su (su (su (su (su (su (su σ 0 (0) (0)) 9 (k) (nI j)) 10 (k) (name)) 11 (k) (kind)) 12 (k) (dd)) 13 (k) (mm)) 16 (k) (bd)) 17 (k) (0)) (τ)) H := hP
        have hD : va_D A (mW G mo ad (su (su (su (su (su (su (su (su σ 0 (0) (0)) 9 (k) (nI j)) 10 (k) (name)) 11 (k) (kind)) 12 (k) (dd)) 13 (k) (mm)) 16 (k) (bd)) 17 (k) (0)) (τ)) := hD
        refine lv_aload_n hx hb dX8_member_131 rfl (lv_at hl 3 rfl) ?_
        refine va_get (D := D) (ci := 8) (v := .ref ((ad 18))) (C := RX8) (T := TX8) (N := 33) hx hb hts iX8 hown hK.1 hP 0 rfl rfl 18 (by decide) (hts _ q_697) (fun _ h9 => h9) rfl dX8_member_132 ?_
        refine lv_aload_n hx hb dX8_member_135 rfl (lv_at hl 3 rfl) ?_
        refine va_get (D := D) (ci := 8) (v := .int (σ 7 0)) (C := RX8) (T := TX8) (N := 33) hx hb hts iX8 hown hK.1 hP 0 rfl rfl 7 (by decide) (hts _ q_686) (fun _ h9 => h9) rfl dX8_member_136 ?_
        refine lv_iconst (v := 0) hx hb dX8_member_139 (by decide) ?_
        refine iast_n hx hb hK.1 hP hD hS 16 0 rfl rfl (k) h7 (by omega) (by decide) dX8_member_140 (fun H locs hP hD hS => ?_)
        have hP : va_P D vwCl (mW G mo ad (su (su (su (su (su (su (su (su (su σ 0 (0) (0)) 9 (k) (nI j)) 10 (k) (name)) 11 (k) (kind)) 12 (k) (dd)) 13 (k) (mm)) 16 (k) (bd)) 17 (k) (0)) 18 (k) (0)) (τ)) H := hP
        have hD : va_D A (mW G mo ad (su (su (su (su (su (su (su (su (su σ 0 (0) (0)) 9 (k) (nI j)) 10 (k) (name)) 11 (k) (kind)) 12 (k) (dd)) 13 (k) (mm)) 16 (k) (bd)) 17 (k) (0)) 18 (k) (0)) (τ)) := hD
        refine lv_aload_n hx hb dX8_member_141 rfl (lv_at hl 3 rfl) ?_
        refine lv_iconst (v := 1) hx hb dX8_member_142 (by decide) ?_
        refine va_put (D := D) (ci := 8) (v := .int 1) (ty := .boolean) (C := RX8) (T := TX8) (N := 33) hx hb hts iX8 tyX8 tyX8_ok nmX8 hown hK.1 hP hD hS 0 rfl rfl 21 (by decide) (hts _ q_700) (fun _ h9 => h9) rfl (by decide +kernel) rfl rfl (Nat.le_of_ble_eq_true rfl) dX8_member_143 (fun H locs hP hD hS => ?_)
        have hP : va_P D vwCl (mW G mo ad (su (su (su (su (su (su (su (su (su (su σ 0 (0) (0)) 9 (k) (nI j)) 10 (k) (name)) 11 (k) (kind)) 12 (k) (dd)) 13 (k) (mm)) 16 (k) (bd)) 17 (k) (0)) 18 (k) (0)) 21 (0) (1)) (τ)) H := hP
        have hD : va_D A (mW G mo ad (su (su (su (su (su (su (su (su (su (su σ 0 (0) (0)) 9 (k) (nI j)) 10 (k) (name)) 11 (k) (kind)) 12 (k) (dd)) 13 (k) (mm)) 16 (k) (bd)) 17 (k) (0)) 18 (k) (0)) 21 (0) (1)) (τ)) := hD
        refine lv_iconst (v := 1) hx hb dX8_member_146 (by decide) ?_
        have ho : oMember σ τ n k (nI j) name kind dd mm bd = (1, su (su (su (su (su (su (su (su (su (su σ 0 (0) (0)) 9 (k) (nI j)) 10 (k) (name)) 11 (k) (kind)) 12 (k) (dd)) 13 (k) (mm)) 16 (k) (bd)) 17 (k) (0)) 18 (k) (0)) 21 (0) (1), τ) := by unfold oMember allM; simp only [eq_true c2, eq_true c4, eq_false c6, nI_clamp (show j < 2 ^ 31 by omega), not_true, not_false_iff, not_true_eq_false, not_false_eq_true, true_or, or_true, false_or, or_false, or_self, and_self, true_and, and_true, false_and, and_false, if_true, if_false]; try rfl
        exact mu_iret (v0 := 1) (z := (su (su (su (su (su (su (su (su (su (su σ 0 (0) (0)) 9 (k) (nI j)) 10 (k) (name)) 11 (k) (kind)) 12 (k) (dd)) 13 (k) (mm)) 16 (k) (bd)) 17 (k) (0)) 18 (k) (0)) 21 (0) (1), τ)) hx hb hr hlocks hP hD hS dX8_member_147 (by rw [ho]) (by rw [ho])
      · -- 58 not
        have c6 := bI_1 c6
        refine lv_iload hx hb dX8_member_61 (lv_at hl 0 rfl) ?_
        refine lv_iload hx hb dX8_member_63 (lv_at hl 8 rfl) ?_
        refine lv_iconst (v := 4) hx hb dX8_member_65 (by decide) ?_
        refine lv_iand hx hb dX8_member_66 ?_
        refine lv_if_ne (tgt := 74) hx hb dX8_member_67 (by decide) (fun c7 => ?_) (fun c7 => ?_)
        · -- 67 taken
          refine lv_iconst (v := 0) hx hb dX8_member_74 (by decide) ?_
          refine lv_ior hx hb dX8_member_75 ?_
          refine lv_istore (lv' := [(9, .int (mm ||| 0)), (8, .int (aRM (σ 2 j) mm bd)), (7, .int (aRef σ n (nI j) name kind dd mm)), (0, .ref mo), (1, .int (nI j)), (2, .int name), (3, .int kind), (4, .int dd), (5, .int mm), (6, .int bd)]) hx hb dX8_member_76 hl (by decide) rfl (fun ls hl => ?_)
          refine lv_iload hx hb dX8_member_78 (lv_at hl 0 rfl) ?_
          refine lv_iload hx hb dX8_member_80 (lv_at hl 8 rfl) ?_
          refine lv_sipush (v := 1036) hx hb dX8_member_82 (by decide) ?_
          refine lv_iand hx hb dX8_member_85 ?_
          refine lv_if_ne (tgt := 95) hx hb dX8_member_86 (by decide) (fun c8 => ?_) (fun c8 => ?_)
          · -- 86 taken
            refine lv_iconst (v := 0) hx hb dX8_member_95 (by decide) ?_
            refine lv_ior hx hb dX8_member_96 ?_
            refine lv_istore (lv' := [(9, .int ((mm ||| 0) ||| 0)), (8, .int (aRM (σ 2 j) mm bd)), (7, .int (aRef σ n (nI j) name kind dd mm)), (0, .ref mo), (1, .int (nI j)), (2, .int name), (3, .int kind), (4, .int dd), (5, .int mm), (6, .int bd)]) hx hb dX8_member_97 hl (by decide) rfl (fun ls hl => ?_)
            refine lv_aload_n hx hb dX8_member_99 rfl (lv_at hl 3 rfl) ?_
            refine lv_iload_n hx hb dX8_member_100 rfl (lv_at hl 4 rfl) ?_
            refine lv_iload_n hx hb dX8_member_101 rfl (lv_at hl 5 rfl) ?_
            refine lv_iload_n hx hb dX8_member_102 rfl (lv_at hl 6 rfl) ?_
            refine lv_iload hx hb dX8_member_103 (lv_at hl 7 rfl) ?_
            refine lv_iload hx hb dX8_member_105 (lv_at hl 0 rfl) ?_
            refine mu_Vv (D := D) (G := G) (mo := mo) (ad := ad) (u := (su σ 0 (0) (0), τ)) (As := [.int (nI j), .int name, .int kind, .int dd, .int ((mm ||| 0) ||| 0)]) (rest := []) ⟨hx, hb, hml, hown, hts⟩ (m_lays l D G mo ad (su σ 0 (0) (0)) (τ) _ k h7 hk60 hk59 (nI j) name kind dd ((mm ||| 0) ||| 0)) gV_X8_X8_lays hdV_X8_lays ⟨Nat.le_of_ble_eq_true rfl, Nat.le_of_ble_eq_true rfl⟩ hK hP hD hS hA rfl hl.1 rfl (Nat.le_of_ble_eq_true rfl) dX8_member_107 ⟨Nat.le_of_ble_eq_true rfl, Nat.le_of_ble_eq_true rfl⟩ (fun H locs hP hD hS => ?_)
            have hP : va_P D vwCl (mW G mo ad (su (su (su (su (su (su σ 0 (0) (0)) 9 (k) (nI j)) 10 (k) (name)) 11 (k) (kind)) 12 (k) (dd)) 13 (k) ((mm ||| 0) ||| 0)) (τ)) H := hP
            have hD : va_D A (mW G mo ad (su (su (su (su (su (su σ 0 (0) (0)) 9 (k) (nI j)) 10 (k) (name)) 11 (k) (kind)) 12 (k) (dd)) 13 (k) ((mm ||| 0) ||| 0)) (τ)) := hD
            refine lv_aload_n hx hb dX8_member_110 rfl (lv_at hl 3 rfl) ?_
            refine va_get (D := D) (ci := 8) (v := .ref ((ad 16))) (C := RX8) (T := TX8) (N := 33) hx hb hts iX8 hown hK.1 hP 0 rfl rfl 16 (by decide) (hts _ q_695) (fun _ h9 => h9) rfl dX8_member_111 ?_
            refine lv_aload_n hx hb dX8_member_114 rfl (lv_at hl 3 rfl) ?_
            refine va_get (D := D) (ci := 8) (v := .int (σ 7 0)) (C := RX8) (T := TX8) (N := 33) hx hb hts iX8 hown hK.1 hP 0 rfl rfl 7 (by decide) (hts _ q_686) (fun _ h9 => h9) rfl dX8_member_115 ?_
            refine lv_iload hx hb dX8_member_118 (lv_at hl 9 rfl) ?_
            refine zast_n hx hb hK.1 hP hD hS 14 2 rfl rfl (k) h7 (by omega) (by decide) hbd dX8_member_120 (fun H locs hP hD hS => ?_)
            have hP : va_P D vwCl (mW G mo ad (su (su (su (su (su (su (su σ 0 (0) (0)) 9 (k) (nI j)) 10 (k) (name)) 11 (k) (kind)) 12 (k) (dd)) 13 (k) ((mm ||| 0) ||| 0)) 16 (k) (bd)) (τ)) H := hP
            have hD : va_D A (mW G mo ad (su (su (su (su (su (su (su σ 0 (0) (0)) 9 (k) (nI j)) 10 (k) (name)) 11 (k) (kind)) 12 (k) (dd)) 13 (k) ((mm ||| 0) ||| 0)) 16 (k) (bd)) (τ)) := hD
            refine lv_aload_n hx hb dX8_member_121 rfl (lv_at hl 3 rfl) ?_
            refine va_get (D := D) (ci := 8) (v := .ref ((ad 17))) (C := RX8) (T := TX8) (N := 33) hx hb hts iX8 hown hK.1 hP 0 rfl rfl 17 (by decide) (hts _ q_696) (fun _ h9 => h9) rfl dX8_member_122 ?_
            refine lv_aload_n hx hb dX8_member_125 rfl (lv_at hl 3 rfl) ?_
            refine va_get (D := D) (ci := 8) (v := .int (σ 7 0)) (C := RX8) (T := TX8) (N := 33) hx hb hts iX8 hown hK.1 hP 0 rfl rfl 7 (by decide) (hts _ q_686) (fun _ h9 => h9) rfl dX8_member_126 ?_
            refine lv_iconst (v := 0) hx hb dX8_member_129 (by decide) ?_
            refine zast_n hx hb hK.1 hP hD hS 15 2 rfl rfl (k) h7 (by omega) (by decide) (Or.inl rfl) dX8_member_130 (fun H locs hP hD hS => ?_)
            have hP : va_P D vwCl (mW G mo ad (su (su (su (su (su (su (su (su σ 0 (0) (0)) 9 (k) (nI j)) 10 (k) (name)) 11 (k) (kind)) 12 (k) (dd)) 13 (k) ((mm ||| 0) ||| 0)) 16 (k) (bd)) 17 (k) (0)) (τ)) H := hP
            have hD : va_D A (mW G mo ad (su (su (su (su (su (su (su (su σ 0 (0) (0)) 9 (k) (nI j)) 10 (k) (name)) 11 (k) (kind)) 12 (k) (dd)) 13 (k) ((mm ||| 0) ||| 0)) 16 (k) (bd)) 17 (k) (0)) (τ)) := hD
            refine lv_aload_n hx hb dX8_member_131 rfl (lv_at hl 3 rfl) ?_
            refine va_get (D := D) (ci := 8) (v := .ref ((ad 18))) (C := RX8) (T := TX8) (N := 33) hx hb hts iX8 hown hK.1 hP 0 rfl rfl 18 (by decide) (hts _ q_697) (fun _ h9 => h9) rfl dX8_member_132 ?_
            refine lv_aload_n hx hb dX8_member_135 rfl (lv_at hl 3 rfl) ?_
            refine va_get (D := D) (ci := 8) (v := .int (σ 7 0)) (C := RX8) (T := TX8) (N := 33) hx hb hts iX8 hown hK.1 hP 0 rfl rfl 7 (by decide) (hts _ q_686) (fun _ h9 => h9) rfl dX8_member_136 ?_
            refine lv_iconst (v := 0) hx hb dX8_member_139 (by decide) ?_
            refine iast_n hx hb hK.1 hP hD hS 16 0 rfl rfl (k) h7 (by omega) (by decide) dX8_member_140 (fun H locs hP hD hS => ?_)
            have hP : va_P D vwCl (mW G mo ad (su (su (su (su (su (su (su (su (su σ 0 (0) (0)) 9 (k) (nI j)) 10 (k) (name)) 11 (k) (kind)) 12 (k) (dd)) 13 (k) ((mm ||| 0) ||| 0)) 16 (k) (bd)) 17 (k) (0)) 18 (k) (0)) (τ)) H := hP
            have hD : va_D A (mW G mo ad (su (su (su (su (su (su (su (su (su σ 0 (0) (0)) 9 (k) (nI j)) 10 (k) (name)) 11 (k) (kind)) 12 (k) (dd)) 13 (k) ((mm ||| 0) ||| 0)) 16 (k) (bd)) 17 (k) (0)) 18 (k) (0)) (τ)) := hD
            refine lv_aload_n hx hb dX8_member_141 rfl (lv_at hl 3 rfl) ?_
            refine lv_iconst (v := 1) hx hb dX8_member_142 (by decide) ?_
            refine va_put (D := D) (ci := 8) (v := .int 1) (ty := .boolean) (C := RX8) (T := TX8) (N := 33) hx hb hts iX8 tyX8 tyX8_ok nmX8 hown hK.1 hP hD hS 0 rfl rfl 21 (by decide) (hts _ q_700) (fun _ h9 => h9) rfl (by decide +kernel) rfl rfl (Nat.le_of_ble_eq_true rfl) dX8_member_143 (fun H locs hP hD hS => ?_)
            have hP : va_P D vwCl (mW G mo ad (su (su (su (su (su (su (su (su (su (su σ 0 (0) (0)) 9 (k) (nI j)) 10 (k) (name)) 11 (k) (kind)) 12 (k) (dd)) 13 (k) ((mm ||| 0) ||| 0)) 16 (k) (bd)) 17 (k) (0)) 18 (k) (0)) 21 (0) (1)) (τ)) H := hP
            have hD : va_D A (mW G mo ad (su (su (su (su (su (su (su (su (su (su σ 0 (0) (0)) 9 (k) (nI j)) 10 (k) (name)) 11 (k) (kind)) 12 (k) (dd)) 13 (k) ((mm ||| 0) ||| 0)) 16 (k) (bd)) 17 (k) (0)) 18 (k) (0)) 21 (0) (1)) (τ)) := hD
            refine lv_iconst (v := 1) hx hb dX8_member_146 (by decide) ?_
            have ho : oMember σ τ n k (nI j) name kind dd mm bd = (1, su (su (su (su (su (su (su (su (su (su σ 0 (0) (0)) 9 (k) (nI j)) 10 (k) (name)) 11 (k) (kind)) 12 (k) (dd)) 13 (k) ((mm ||| 0) ||| 0)) 16 (k) (bd)) 17 (k) (0)) 18 (k) (0)) 21 (0) (1), τ) := by unfold oMember allM; simp only [eq_true c2, eq_true c4, eq_true c6, eq_false c7, eq_false c8, nI_clamp (show j < 2 ^ 31 by omega), not_true, not_false_iff, not_true_eq_false, not_false_eq_true, true_or, or_true, false_or, or_false, or_self, and_self, true_and, and_true, false_and, and_false, if_true, if_false]; try rfl
            exact mu_iret (v0 := 1) (z := (su (su (su (su (su (su (su (su (su (su σ 0 (0) (0)) 9 (k) (nI j)) 10 (k) (name)) 11 (k) (kind)) 12 (k) (dd)) 13 (k) ((mm ||| 0) ||| 0)) 16 (k) (bd)) 17 (k) (0)) 18 (k) (0)) 21 (0) (1), τ)) hx hb hr hlocks hP hD hS dX8_member_147 (by rw [ho]) (by rw [ho])
          · -- 86 not
            refine lv_sipush (v := 128) hx hb dX8_member_89 (by decide) ?_
            refine lv_goto (tgt := 96) hx hb dX8_member_92 (by decide) ?_
            refine lv_ior hx hb dX8_member_96 ?_
            refine lv_istore (lv' := [(9, .int ((mm ||| 0) ||| 128)), (8, .int (aRM (σ 2 j) mm bd)), (7, .int (aRef σ n (nI j) name kind dd mm)), (0, .ref mo), (1, .int (nI j)), (2, .int name), (3, .int kind), (4, .int dd), (5, .int mm), (6, .int bd)]) hx hb dX8_member_97 hl (by decide) rfl (fun ls hl => ?_)
            refine lv_aload_n hx hb dX8_member_99 rfl (lv_at hl 3 rfl) ?_
            refine lv_iload_n hx hb dX8_member_100 rfl (lv_at hl 4 rfl) ?_
            refine lv_iload_n hx hb dX8_member_101 rfl (lv_at hl 5 rfl) ?_
            refine lv_iload_n hx hb dX8_member_102 rfl (lv_at hl 6 rfl) ?_
            refine lv_iload hx hb dX8_member_103 (lv_at hl 7 rfl) ?_
            refine lv_iload hx hb dX8_member_105 (lv_at hl 0 rfl) ?_
            refine mu_Vv (D := D) (G := G) (mo := mo) (ad := ad) (u := (su σ 0 (0) (0), τ)) (As := [.int (nI j), .int name, .int kind, .int dd, .int ((mm ||| 0) ||| 128)]) (rest := []) ⟨hx, hb, hml, hown, hts⟩ (m_lays l D G mo ad (su σ 0 (0) (0)) (τ) _ k h7 hk60 hk59 (nI j) name kind dd ((mm ||| 0) ||| 128)) gV_X8_X8_lays hdV_X8_lays ⟨Nat.le_of_ble_eq_true rfl, Nat.le_of_ble_eq_true rfl⟩ hK hP hD hS hA rfl hl.1 rfl (Nat.le_of_ble_eq_true rfl) dX8_member_107 ⟨Nat.le_of_ble_eq_true rfl, Nat.le_of_ble_eq_true rfl⟩ (fun H locs hP hD hS => ?_)
            have hP : va_P D vwCl (mW G mo ad (su (su (su (su (su (su σ 0 (0) (0)) 9 (k) (nI j)) 10 (k) (name)) 11 (k) (kind)) 12 (k) (dd)) 13 (k) ((mm ||| 0) ||| 128)) (τ)) H := hP
            have hD : va_D A (mW G mo ad (su (su (su (su (su (su σ 0 (0) (0)) 9 (k) (nI j)) 10 (k) (name)) 11 (k) (kind)) 12 (k) (dd)) 13 (k) ((mm ||| 0) ||| 128)) (τ)) := hD
            refine lv_aload_n hx hb dX8_member_110 rfl (lv_at hl 3 rfl) ?_
            refine va_get (D := D) (ci := 8) (v := .ref ((ad 16))) (C := RX8) (T := TX8) (N := 33) hx hb hts iX8 hown hK.1 hP 0 rfl rfl 16 (by decide) (hts _ q_695) (fun _ h9 => h9) rfl dX8_member_111 ?_
            refine lv_aload_n hx hb dX8_member_114 rfl (lv_at hl 3 rfl) ?_
            refine va_get (D := D) (ci := 8) (v := .int (σ 7 0)) (C := RX8) (T := TX8) (N := 33) hx hb hts iX8 hown hK.1 hP 0 rfl rfl 7 (by decide) (hts _ q_686) (fun _ h9 => h9) rfl dX8_member_115 ?_
            refine lv_iload hx hb dX8_member_118 (lv_at hl 9 rfl) ?_
            refine zast_n hx hb hK.1 hP hD hS 14 2 rfl rfl (k) h7 (by omega) (by decide) hbd dX8_member_120 (fun H locs hP hD hS => ?_)
            have hP : va_P D vwCl (mW G mo ad (su (su (su (su (su (su (su σ 0 (0) (0)) 9 (k) (nI j)) 10 (k) (name)) 11 (k) (kind)) 12 (k) (dd)) 13 (k) ((mm ||| 0) ||| 128)) 16 (k) (bd)) (τ)) H := hP
            have hD : va_D A (mW G mo ad (su (su (su (su (su (su (su σ 0 (0) (0)) 9 (k) (nI j)) 10 (k) (name)) 11 (k) (kind)) 12 (k) (dd)) 13 (k) ((mm ||| 0) ||| 128)) 16 (k) (bd)) (τ)) := hD
            refine lv_aload_n hx hb dX8_member_121 rfl (lv_at hl 3 rfl) ?_
            refine va_get (D := D) (ci := 8) (v := .ref ((ad 17))) (C := RX8) (T := TX8) (N := 33) hx hb hts iX8 hown hK.1 hP 0 rfl rfl 17 (by decide) (hts _ q_696) (fun _ h9 => h9) rfl dX8_member_122 ?_
            refine lv_aload_n hx hb dX8_member_125 rfl (lv_at hl 3 rfl) ?_
            refine va_get (D := D) (ci := 8) (v := .int (σ 7 0)) (C := RX8) (T := TX8) (N := 33) hx hb hts iX8 hown hK.1 hP 0 rfl rfl 7 (by decide) (hts _ q_686) (fun _ h9 => h9) rfl dX8_member_126 ?_
            refine lv_iconst (v := 0) hx hb dX8_member_129 (by decide) ?_
            refine zast_n hx hb hK.1 hP hD hS 15 2 rfl rfl (k) h7 (by omega) (by decide) (Or.inl rfl) dX8_member_130 (fun H locs hP hD hS => ?_)
            have hP : va_P D vwCl (mW G mo ad (su (su (su (su (su (su (su (su σ 0 (0) (0)) 9 (k) (nI j)) 10 (k) (name)) 11 (k) (kind)) 12 (k) (dd)) 13 (k) ((mm ||| 0) ||| 128)) 16 (k) (bd)) 17 (k) (0)) (τ)) H := hP
            have hD : va_D A (mW G mo ad (su (su (su (su (su (su (su (su σ 0 (0) (0)) 9 (k) (nI j)) 10 (k) (name)) 11 (k) (kind)) 12 (k) (dd)) 13 (k) ((mm ||| 0) ||| 128)) 16 (k) (bd)) 17 (k) (0)) (τ)) := hD
            refine lv_aload_n hx hb dX8_member_131 rfl (lv_at hl 3 rfl) ?_
            refine va_get (D := D) (ci := 8) (v := .ref ((ad 18))) (C := RX8) (T := TX8) (N := 33) hx hb hts iX8 hown hK.1 hP 0 rfl rfl 18 (by decide) (hts _ q_697) (fun _ h9 => h9) rfl dX8_member_132 ?_
            refine lv_aload_n hx hb dX8_member_135 rfl (lv_at hl 3 rfl) ?_
            refine va_get (D := D) (ci := 8) (v := .int (σ 7 0)) (C := RX8) (T := TX8) (N := 33) hx hb hts iX8 hown hK.1 hP 0 rfl rfl 7 (by decide) (hts _ q_686) (fun _ h9 => h9) rfl dX8_member_136 ?_
            refine lv_iconst (v := 0) hx hb dX8_member_139 (by decide) ?_
            refine iast_n hx hb hK.1 hP hD hS 16 0 rfl rfl (k) h7 (by omega) (by decide) dX8_member_140 (fun H locs hP hD hS => ?_)
            have hP : va_P D vwCl (mW G mo ad (su (su (su (su (su (su (su (su (su σ 0 (0) (0)) 9 (k) (nI j)) 10 (k) (name)) 11 (k) (kind)) 12 (k) (dd)) 13 (k) ((mm ||| 0) ||| 128)) 16 (k) (bd)) 17 (k) (0)) 18 (k) (0)) (τ)) H := hP
            have hD : va_D A (mW G mo ad (su (su (su (su (su (su (su (su (su σ 0 (0) (0)) 9 (k) (nI j)) 10 (k) (name)) 11 (k) (kind)) 12 (k) (dd)) 13 (k) ((mm ||| 0) ||| 128)) 16 (k) (bd)) 17 (k) (0)) 18 (k) (0)) (τ)) := hD
            refine lv_aload_n hx hb dX8_member_141 rfl (lv_at hl 3 rfl) ?_
            refine lv_iconst (v := 1) hx hb dX8_member_142 (by decide) ?_
            refine va_put (D := D) (ci := 8) (v := .int 1) (ty := .boolean) (C := RX8) (T := TX8) (N := 33) hx hb hts iX8 tyX8 tyX8_ok nmX8 hown hK.1 hP hD hS 0 rfl rfl 21 (by decide) (hts _ q_700) (fun _ h9 => h9) rfl (by decide +kernel) rfl rfl (Nat.le_of_ble_eq_true rfl) dX8_member_143 (fun H locs hP hD hS => ?_)
            have hP : va_P D vwCl (mW G mo ad (su (su (su (su (su (su (su (su (su (su σ 0 (0) (0)) 9 (k) (nI j)) 10 (k) (name)) 11 (k) (kind)) 12 (k) (dd)) 13 (k) ((mm ||| 0) ||| 128)) 16 (k) (bd)) 17 (k) (0)) 18 (k) (0)) 21 (0) (1)) (τ)) H := hP
            have hD : va_D A (mW G mo ad (su (su (su (su (su (su (su (su (su (su σ 0 (0) (0)) 9 (k) (nI j)) 10 (k) (name)) 11 (k) (kind)) 12 (k) (dd)) 13 (k) ((mm ||| 0) ||| 128)) 16 (k) (bd)) 17 (k) (0)) 18 (k) (0)) 21 (0) (1)) (τ)) := hD
            refine lv_iconst (v := 1) hx hb dX8_member_146 (by decide) ?_
            have ho : oMember σ τ n k (nI j) name kind dd mm bd = (1, su (su (su (su (su (su (su (su (su (su σ 0 (0) (0)) 9 (k) (nI j)) 10 (k) (name)) 11 (k) (kind)) 12 (k) (dd)) 13 (k) ((mm ||| 0) ||| 128)) 16 (k) (bd)) 17 (k) (0)) 18 (k) (0)) 21 (0) (1), τ) := by unfold oMember allM; simp only [eq_true c2, eq_true c4, eq_true c6, eq_false c7, eq_true c8, nI_clamp (show j < 2 ^ 31 by omega), not_true, not_false_iff, not_true_eq_false, not_false_eq_true, true_or, or_true, false_or, or_false, or_self, and_self, true_and, and_true, false_and, and_false, if_true, if_false]; try rfl
            exact mu_iret (v0 := 1) (z := (su (su (su (su (su (su (su (su (su (su σ 0 (0) (0)) 9 (k) (nI j)) 10 (k) (name)) 11 (k) (kind)) 12 (k) (dd)) 13 (k) ((mm ||| 0) ||| 128)) 16 (k) (bd)) 17 (k) (0)) 18 (k) (0)) 21 (0) (1), τ)) hx hb hr hlocks hP hD hS dX8_member_147 (by rw [ho]) (by rw [ho])
        · -- 67 not
          refine lv_iconst (v := 1) hx hb dX8_member_70 (by decide) ?_
          refine lv_goto (tgt := 75) hx hb dX8_member_71 (by decide) ?_
          refine lv_ior hx hb dX8_member_75 ?_
          refine lv_istore (lv' := [(9, .int (mm ||| 1)), (8, .int (aRM (σ 2 j) mm bd)), (7, .int (aRef σ n (nI j) name kind dd mm)), (0, .ref mo), (1, .int (nI j)), (2, .int name), (3, .int kind), (4, .int dd), (5, .int mm), (6, .int bd)]) hx hb dX8_member_76 hl (by decide) rfl (fun ls hl => ?_)
          refine lv_iload hx hb dX8_member_78 (lv_at hl 0 rfl) ?_
          refine lv_iload hx hb dX8_member_80 (lv_at hl 8 rfl) ?_
          refine lv_sipush (v := 1036) hx hb dX8_member_82 (by decide) ?_
          refine lv_iand hx hb dX8_member_85 ?_
          refine lv_if_ne (tgt := 95) hx hb dX8_member_86 (by decide) (fun c9 => ?_) (fun c9 => ?_)
          · -- 86 taken
            refine lv_iconst (v := 0) hx hb dX8_member_95 (by decide) ?_
            refine lv_ior hx hb dX8_member_96 ?_
            refine lv_istore (lv' := [(9, .int ((mm ||| 1) ||| 0)), (8, .int (aRM (σ 2 j) mm bd)), (7, .int (aRef σ n (nI j) name kind dd mm)), (0, .ref mo), (1, .int (nI j)), (2, .int name), (3, .int kind), (4, .int dd), (5, .int mm), (6, .int bd)]) hx hb dX8_member_97 hl (by decide) rfl (fun ls hl => ?_)
            refine lv_aload_n hx hb dX8_member_99 rfl (lv_at hl 3 rfl) ?_
            refine lv_iload_n hx hb dX8_member_100 rfl (lv_at hl 4 rfl) ?_
            refine lv_iload_n hx hb dX8_member_101 rfl (lv_at hl 5 rfl) ?_
            refine lv_iload_n hx hb dX8_member_102 rfl (lv_at hl 6 rfl) ?_
            refine lv_iload hx hb dX8_member_103 (lv_at hl 7 rfl) ?_
            refine lv_iload hx hb dX8_member_105 (lv_at hl 0 rfl) ?_
            refine mu_Vv (D := D) (G := G) (mo := mo) (ad := ad) (u := (su σ 0 (0) (0), τ)) (As := [.int (nI j), .int name, .int kind, .int dd, .int ((mm ||| 1) ||| 0)]) (rest := []) ⟨hx, hb, hml, hown, hts⟩ (m_lays l D G mo ad (su σ 0 (0) (0)) (τ) _ k h7 hk60 hk59 (nI j) name kind dd ((mm ||| 1) ||| 0)) gV_X8_X8_lays hdV_X8_lays ⟨Nat.le_of_ble_eq_true rfl, Nat.le_of_ble_eq_true rfl⟩ hK hP hD hS hA rfl hl.1 rfl (Nat.le_of_ble_eq_true rfl) dX8_member_107 ⟨Nat.le_of_ble_eq_true rfl, Nat.le_of_ble_eq_true rfl⟩ (fun H locs hP hD hS => ?_)
            have hP : va_P D vwCl (mW G mo ad (su (su (su (su (su (su σ 0 (0) (0)) 9 (k) (nI j)) 10 (k) (name)) 11 (k) (kind)) 12 (k) (dd)) 13 (k) ((mm ||| 1) ||| 0)) (τ)) H := hP
            have hD : va_D A (mW G mo ad (su (su (su (su (su (su σ 0 (0) (0)) 9 (k) (nI j)) 10 (k) (name)) 11 (k) (kind)) 12 (k) (dd)) 13 (k) ((mm ||| 1) ||| 0)) (τ)) := hD
            refine lv_aload_n hx hb dX8_member_110 rfl (lv_at hl 3 rfl) ?_
            refine va_get (D := D) (ci := 8) (v := .ref ((ad 16))) (C := RX8) (T := TX8) (N := 33) hx hb hts iX8 hown hK.1 hP 0 rfl rfl 16 (by decide) (hts _ q_695) (fun _ h9 => h9) rfl dX8_member_111 ?_
            refine lv_aload_n hx hb dX8_member_114 rfl (lv_at hl 3 rfl) ?_
            refine va_get (D := D) (ci := 8) (v := .int (σ 7 0)) (C := RX8) (T := TX8) (N := 33) hx hb hts iX8 hown hK.1 hP 0 rfl rfl 7 (by decide) (hts _ q_686) (fun _ h9 => h9) rfl dX8_member_115 ?_
            refine lv_iload hx hb dX8_member_118 (lv_at hl 9 rfl) ?_
            refine zast_n hx hb hK.1 hP hD hS 14 2 rfl rfl (k) h7 (by omega) (by decide) hbd dX8_member_120 (fun H locs hP hD hS => ?_)
            have hP : va_P D vwCl (mW G mo ad (su (su (su (su (su (su (su σ 0 (0) (0)) 9 (k) (nI j)) 10 (k) (name)) 11 (k) (kind)) 12 (k) (dd)) 13 (k) ((mm ||| 1) ||| 0)) 16 (k) (bd)) (τ)) H := hP
            have hD : va_D A (mW G mo ad (su (su (su (su (su (su (su σ 0 (0) (0)) 9 (k) (nI j)) 10 (k) (name)) 11 (k) (kind)) 12 (k) (dd)) 13 (k) ((mm ||| 1) ||| 0)) 16 (k) (bd)) (τ)) := hD
            refine lv_aload_n hx hb dX8_member_121 rfl (lv_at hl 3 rfl) ?_
            refine va_get (D := D) (ci := 8) (v := .ref ((ad 17))) (C := RX8) (T := TX8) (N := 33) hx hb hts iX8 hown hK.1 hP 0 rfl rfl 17 (by decide) (hts _ q_696) (fun _ h9 => h9) rfl dX8_member_122 ?_
            refine lv_aload_n hx hb dX8_member_125 rfl (lv_at hl 3 rfl) ?_
            refine va_get (D := D) (ci := 8) (v := .int (σ 7 0)) (C := RX8) (T := TX8) (N := 33) hx hb hts iX8 hown hK.1 hP 0 rfl rfl 7 (by decide) (hts _ q_686) (fun _ h9 => h9) rfl dX8_member_126 ?_
            refine lv_iconst (v := 0) hx hb dX8_member_129 (by decide) ?_
            refine zast_n hx hb hK.1 hP hD hS 15 2 rfl rfl (k) h7 (by omega) (by decide) (Or.inl rfl) dX8_member_130 (fun H locs hP hD hS => ?_)
            have hP : va_P D vwCl (mW G mo ad (su (su (su (su (su (su (su (su σ 0 (0) (0)) 9 (k) (nI j)) 10 (k) (name)) 11 (k) (kind)) 12 (k) (dd)) 13 (k) ((mm ||| 1) ||| 0)) 16 (k) (bd)) 17 (k) (0)) (τ)) H := hP
            have hD : va_D A (mW G mo ad (su (su (su (su (su (su (su (su σ 0 (0) (0)) 9 (k) (nI j)) 10 (k) (name)) 11 (k) (kind)) 12 (k) (dd)) 13 (k) ((mm ||| 1) ||| 0)) 16 (k) (bd)) 17 (k) (0)) (τ)) := hD
            refine lv_aload_n hx hb dX8_member_131 rfl (lv_at hl 3 rfl) ?_
            refine va_get (D := D) (ci := 8) (v := .ref ((ad 18))) (C := RX8) (T := TX8) (N := 33) hx hb hts iX8 hown hK.1 hP 0 rfl rfl 18 (by decide) (hts _ q_697) (fun _ h9 => h9) rfl dX8_member_132 ?_
            refine lv_aload_n hx hb dX8_member_135 rfl (lv_at hl 3 rfl) ?_
            refine va_get (D := D) (ci := 8) (v := .int (σ 7 0)) (C := RX8) (T := TX8) (N := 33) hx hb hts iX8 hown hK.1 hP 0 rfl rfl 7 (by decide) (hts _ q_686) (fun _ h9 => h9) rfl dX8_member_136 ?_
            refine lv_iconst (v := 0) hx hb dX8_member_139 (by decide) ?_
            refine iast_n hx hb hK.1 hP hD hS 16 0 rfl rfl (k) h7 (by omega) (by decide) dX8_member_140 (fun H locs hP hD hS => ?_)
            have hP : va_P D vwCl (mW G mo ad (su (su (su (su (su (su (su (su (su σ 0 (0) (0)) 9 (k) (nI j)) 10 (k) (name)) 11 (k) (kind)) 12 (k) (dd)) 13 (k) ((mm ||| 1) ||| 0)) 16 (k) (bd)) 17 (k) (0)) 18 (k) (0)) (τ)) H := hP
            have hD : va_D A (mW G mo ad (su (su (su (su (su (su (su (su (su σ 0 (0) (0)) 9 (k) (nI j)) 10 (k) (name)) 11 (k) (kind)) 12 (k) (dd)) 13 (k) ((mm ||| 1) ||| 0)) 16 (k) (bd)) 17 (k) (0)) 18 (k) (0)) (τ)) := hD
            refine lv_aload_n hx hb dX8_member_141 rfl (lv_at hl 3 rfl) ?_
            refine lv_iconst (v := 1) hx hb dX8_member_142 (by decide) ?_
            refine va_put (D := D) (ci := 8) (v := .int 1) (ty := .boolean) (C := RX8) (T := TX8) (N := 33) hx hb hts iX8 tyX8 tyX8_ok nmX8 hown hK.1 hP hD hS 0 rfl rfl 21 (by decide) (hts _ q_700) (fun _ h9 => h9) rfl (by decide +kernel) rfl rfl (Nat.le_of_ble_eq_true rfl) dX8_member_143 (fun H locs hP hD hS => ?_)
            have hP : va_P D vwCl (mW G mo ad (su (su (su (su (su (su (su (su (su (su σ 0 (0) (0)) 9 (k) (nI j)) 10 (k) (name)) 11 (k) (kind)) 12 (k) (dd)) 13 (k) ((mm ||| 1) ||| 0)) 16 (k) (bd)) 17 (k) (0)) 18 (k) (0)) 21 (0) (1)) (τ)) H := hP
            have hD : va_D A (mW G mo ad (su (su (su (su (su (su (su (su (su (su σ 0 (0) (0)) 9 (k) (nI j)) 10 (k) (name)) 11 (k) (kind)) 12 (k) (dd)) 13 (k) ((mm ||| 1) ||| 0)) 16 (k) (bd)) 17 (k) (0)) 18 (k) (0)) 21 (0) (1)) (τ)) := hD
            refine lv_iconst (v := 1) hx hb dX8_member_146 (by decide) ?_
            have ho : oMember σ τ n k (nI j) name kind dd mm bd = (1, su (su (su (su (su (su (su (su (su (su σ 0 (0) (0)) 9 (k) (nI j)) 10 (k) (name)) 11 (k) (kind)) 12 (k) (dd)) 13 (k) ((mm ||| 1) ||| 0)) 16 (k) (bd)) 17 (k) (0)) 18 (k) (0)) 21 (0) (1), τ) := by unfold oMember allM; simp only [eq_true c2, eq_true c4, eq_true c6, eq_true c7, eq_false c9, nI_clamp (show j < 2 ^ 31 by omega), not_true, not_false_iff, not_true_eq_false, not_false_eq_true, true_or, or_true, false_or, or_false, or_self, and_self, true_and, and_true, false_and, and_false, if_true, if_false]; try rfl
            exact mu_iret (v0 := 1) (z := (su (su (su (su (su (su (su (su (su (su σ 0 (0) (0)) 9 (k) (nI j)) 10 (k) (name)) 11 (k) (kind)) 12 (k) (dd)) 13 (k) ((mm ||| 1) ||| 0)) 16 (k) (bd)) 17 (k) (0)) 18 (k) (0)) 21 (0) (1), τ)) hx hb hr hlocks hP hD hS dX8_member_147 (by rw [ho]) (by rw [ho])
          · -- 86 not
            refine lv_sipush (v := 128) hx hb dX8_member_89 (by decide) ?_
            refine lv_goto (tgt := 96) hx hb dX8_member_92 (by decide) ?_
            refine lv_ior hx hb dX8_member_96 ?_
            refine lv_istore (lv' := [(9, .int ((mm ||| 1) ||| 128)), (8, .int (aRM (σ 2 j) mm bd)), (7, .int (aRef σ n (nI j) name kind dd mm)), (0, .ref mo), (1, .int (nI j)), (2, .int name), (3, .int kind), (4, .int dd), (5, .int mm), (6, .int bd)]) hx hb dX8_member_97 hl (by decide) rfl (fun ls hl => ?_)
            refine lv_aload_n hx hb dX8_member_99 rfl (lv_at hl 3 rfl) ?_
            refine lv_iload_n hx hb dX8_member_100 rfl (lv_at hl 4 rfl) ?_
            refine lv_iload_n hx hb dX8_member_101 rfl (lv_at hl 5 rfl) ?_
            refine lv_iload_n hx hb dX8_member_102 rfl (lv_at hl 6 rfl) ?_
            refine lv_iload hx hb dX8_member_103 (lv_at hl 7 rfl) ?_
            refine lv_iload hx hb dX8_member_105 (lv_at hl 0 rfl) ?_
            refine mu_Vv (D := D) (G := G) (mo := mo) (ad := ad) (u := (su σ 0 (0) (0), τ)) (As := [.int (nI j), .int name, .int kind, .int dd, .int ((mm ||| 1) ||| 128)]) (rest := []) ⟨hx, hb, hml, hown, hts⟩ (m_lays l D G mo ad (su σ 0 (0) (0)) (τ) _ k h7 hk60 hk59 (nI j) name kind dd ((mm ||| 1) ||| 128)) gV_X8_X8_lays hdV_X8_lays ⟨Nat.le_of_ble_eq_true rfl, Nat.le_of_ble_eq_true rfl⟩ hK hP hD hS hA rfl hl.1 rfl (Nat.le_of_ble_eq_true rfl) dX8_member_107 ⟨Nat.le_of_ble_eq_true rfl, Nat.le_of_ble_eq_true rfl⟩ (fun H locs hP hD hS => ?_)
            have hP : va_P D vwCl (mW G mo ad (su (su (su (su (su (su σ 0 (0) (0)) 9 (k) (nI j)) 10 (k) (name)) 11 (k) (kind)) 12 (k) (dd)) 13 (k) ((mm ||| 1) ||| 128)) (τ)) H := hP
            have hD : va_D A (mW G mo ad (su (su (su (su (su (su σ 0 (0) (0)) 9 (k) (nI j)) 10 (k) (name)) 11 (k) (kind)) 12 (k) (dd)) 13 (k) ((mm ||| 1) ||| 128)) (τ)) := hD
            refine lv_aload_n hx hb dX8_member_110 rfl (lv_at hl 3 rfl) ?_
            refine va_get (D := D) (ci := 8) (v := .ref ((ad 16))) (C := RX8) (T := TX8) (N := 33) hx hb hts iX8 hown hK.1 hP 0 rfl rfl 16 (by decide) (hts _ q_695) (fun _ h9 => h9) rfl dX8_member_111 ?_
            refine lv_aload_n hx hb dX8_member_114 rfl (lv_at hl 3 rfl) ?_
            refine va_get (D := D) (ci := 8) (v := .int (σ 7 0)) (C := RX8) (T := TX8) (N := 33) hx hb hts iX8 hown hK.1 hP 0 rfl rfl 7 (by decide) (hts _ q_686) (fun _ h9 => h9) rfl dX8_member_115 ?_
            refine lv_iload hx hb dX8_member_118 (lv_at hl 9 rfl) ?_
            refine zast_n hx hb hK.1 hP hD hS 14 2 rfl rfl (k) h7 (by omega) (by decide) hbd dX8_member_120 (fun H locs hP hD hS => ?_)
            have hP : va_P D vwCl (mW G mo ad (su (su (su (su (su (su (su σ 0 (0) (0)) 9 (k) (nI j)) 10 (k) (name)) 11 (k) (kind)) 12 (k) (dd)) 13 (k) ((mm ||| 1) ||| 128)) 16 (k) (bd)) (τ)) H := hP
            have hD : va_D A (mW G mo ad (su (su (su (su (su (su (su σ 0 (0) (0)) 9 (k) (nI j)) 10 (k) (name)) 11 (k) (kind)) 12 (k) (dd)) 13 (k) ((mm ||| 1) ||| 128)) 16 (k) (bd)) (τ)) := hD
            refine lv_aload_n hx hb dX8_member_121 rfl (lv_at hl 3 rfl) ?_
            refine va_get (D := D) (ci := 8) (v := .ref ((ad 17))) (C := RX8) (T := TX8) (N := 33) hx hb hts iX8 hown hK.1 hP 0 rfl rfl 17 (by decide) (hts _ q_696) (fun _ h9 => h9) rfl dX8_member_122 ?_
            refine lv_aload_n hx hb dX8_member_125 rfl (lv_at hl 3 rfl) ?_
            refine va_get (D := D) (ci := 8) (v := .int (σ 7 0)) (C := RX8) (T := TX8) (N := 33) hx hb hts iX8 hown hK.1 hP 0 rfl rfl 7 (by decide) (hts _ q_686) (fun _ h9 => h9) rfl dX8_member_126 ?_
            refine lv_iconst (v := 0) hx hb dX8_member_129 (by decide) ?_
            refine zast_n hx hb hK.1 hP hD hS 15 2 rfl rfl (k) h7 (by omega) (by decide) (Or.inl rfl) dX8_member_130 (fun H locs hP hD hS => ?_)
            have hP : va_P D vwCl (mW G mo ad (su (su (su (su (su (su (su (su σ 0 (0) (0)) 9 (k) (nI j)) 10 (k) (name)) 11 (k) (kind)) 12 (k) (dd)) 13 (k) ((mm ||| 1) ||| 128)) 16 (k) (bd)) 17 (k) (0)) (τ)) H := hP
            have hD : va_D A (mW G mo ad (su (su (su (su (su (su (su (su σ 0 (0) (0)) 9 (k) (nI j)) 10 (k) (name)) 11 (k) (kind)) 12 (k) (dd)) 13 (k) ((mm ||| 1) ||| 128)) 16 (k) (bd)) 17 (k) (0)) (τ)) := hD
            refine lv_aload_n hx hb dX8_member_131 rfl (lv_at hl 3 rfl) ?_
            refine va_get (D := D) (ci := 8) (v := .ref ((ad 18))) (C := RX8) (T := TX8) (N := 33) hx hb hts iX8 hown hK.1 hP 0 rfl rfl 18 (by decide) (hts _ q_697) (fun _ h9 => h9) rfl dX8_member_132 ?_
            refine lv_aload_n hx hb dX8_member_135 rfl (lv_at hl 3 rfl) ?_
            refine va_get (D := D) (ci := 8) (v := .int (σ 7 0)) (C := RX8) (T := TX8) (N := 33) hx hb hts iX8 hown hK.1 hP 0 rfl rfl 7 (by decide) (hts _ q_686) (fun _ h9 => h9) rfl dX8_member_136 ?_
            refine lv_iconst (v := 0) hx hb dX8_member_139 (by decide) ?_
            refine iast_n hx hb hK.1 hP hD hS 16 0 rfl rfl (k) h7 (by omega) (by decide) dX8_member_140 (fun H locs hP hD hS => ?_)
            have hP : va_P D vwCl (mW G mo ad (su (su (su (su (su (su (su (su (su σ 0 (0) (0)) 9 (k) (nI j)) 10 (k) (name)) 11 (k) (kind)) 12 (k) (dd)) 13 (k) ((mm ||| 1) ||| 128)) 16 (k) (bd)) 17 (k) (0)) 18 (k) (0)) (τ)) H := hP
            have hD : va_D A (mW G mo ad (su (su (su (su (su (su (su (su (su σ 0 (0) (0)) 9 (k) (nI j)) 10 (k) (name)) 11 (k) (kind)) 12 (k) (dd)) 13 (k) ((mm ||| 1) ||| 128)) 16 (k) (bd)) 17 (k) (0)) 18 (k) (0)) (τ)) := hD
            refine lv_aload_n hx hb dX8_member_141 rfl (lv_at hl 3 rfl) ?_
            refine lv_iconst (v := 1) hx hb dX8_member_142 (by decide) ?_
            refine va_put (D := D) (ci := 8) (v := .int 1) (ty := .boolean) (C := RX8) (T := TX8) (N := 33) hx hb hts iX8 tyX8 tyX8_ok nmX8 hown hK.1 hP hD hS 0 rfl rfl 21 (by decide) (hts _ q_700) (fun _ h9 => h9) rfl (by decide +kernel) rfl rfl (Nat.le_of_ble_eq_true rfl) dX8_member_143 (fun H locs hP hD hS => ?_)
            have hP : va_P D vwCl (mW G mo ad (su (su (su (su (su (su (su (su (su (su σ 0 (0) (0)) 9 (k) (nI j)) 10 (k) (name)) 11 (k) (kind)) 12 (k) (dd)) 13 (k) ((mm ||| 1) ||| 128)) 16 (k) (bd)) 17 (k) (0)) 18 (k) (0)) 21 (0) (1)) (τ)) H := hP
            have hD : va_D A (mW G mo ad (su (su (su (su (su (su (su (su (su (su σ 0 (0) (0)) 9 (k) (nI j)) 10 (k) (name)) 11 (k) (kind)) 12 (k) (dd)) 13 (k) ((mm ||| 1) ||| 128)) 16 (k) (bd)) 17 (k) (0)) 18 (k) (0)) 21 (0) (1)) (τ)) := hD
            refine lv_iconst (v := 1) hx hb dX8_member_146 (by decide) ?_
            have ho : oMember σ τ n k (nI j) name kind dd mm bd = (1, su (su (su (su (su (su (su (su (su (su σ 0 (0) (0)) 9 (k) (nI j)) 10 (k) (name)) 11 (k) (kind)) 12 (k) (dd)) 13 (k) ((mm ||| 1) ||| 128)) 16 (k) (bd)) 17 (k) (0)) 18 (k) (0)) 21 (0) (1), τ) := by unfold oMember allM; simp only [eq_true c2, eq_true c4, eq_true c6, eq_true c7, eq_true c9, nI_clamp (show j < 2 ^ 31 by omega), not_true, not_false_iff, not_true_eq_false, not_false_eq_true, true_or, or_true, false_or, or_false, or_self, and_self, true_and, and_true, false_and, and_false, if_true, if_false]; try rfl
            exact mu_iret (v0 := 1) (z := (su (su (su (su (su (su (su (su (su (su σ 0 (0) (0)) 9 (k) (nI j)) 10 (k) (name)) 11 (k) (kind)) 12 (k) (dd)) 13 (k) ((mm ||| 1) ||| 128)) 16 (k) (bd)) 17 (k) (0)) 18 (k) (0)) 21 (0) (1), τ)) hx hb hr hlocks hP hD hS dX8_member_147 (by rw [ho]) (by rw [ho])
    · -- 39 not
      refine lv_aload_n hx hb dX8_member_42 rfl (lv_at hl 2 rfl) ?_
      refine lv_iload hx hb dX8_member_43 (lv_at hl 0 rfl) ?_
      have hok : okR (aRM (σ 2 j) mm bd) := aRM_ok
      refine W.eq (g2 := F0 m 45 ls [.int (nI ((aRM (σ 2 j) mm bd).toNatClampNeg)), .ref mo]) (congrArg (fun z9 => F0 m 45 ls [.int z9, .ref mo]) hok.1) ?_
      refine mu_Vi (D := D) (G := G) (mo := mo) (ad := ad) (u := (su σ 0 (0) (0), τ)) (As := [.int (nI ((aRM (σ 2 j) mm bd).toNatClampNeg))]) (rest := []) ⟨hx, hb, hml, hown, hts⟩ (m_breaks l D G mo ad (su σ 0 (0) (0)) (τ) _ (((aRM (σ 2 j) mm bd).toNatClampNeg)) (by omega)) gV_X8_X8_breaks hdV_X8_breaks ⟨Nat.le_of_ble_eq_true rfl, Nat.le_of_ble_eq_true rfl⟩ hK hP hD hS hA rfl hl.1 rfl (Nat.le_of_ble_eq_true rfl) dX8_member_45 ⟨Nat.le_of_ble_eq_true rfl, Nat.le_of_ble_eq_true rfl⟩ (fun H locs hP hD hS => ?_)
      have hP : va_P D vwCl (mW G mo ad (su (su (su σ 0 (0) (0)) 27 (((aRM (σ 2 j) mm bd).toNatClampNeg)) (σ 27 (((aRM (σ 2 j) mm bd).toNatClampNeg)) + 1)) 26 (0) (σ 26 0 + 1)) (τ)) H := hP
      have hD : va_D A (mW G mo ad (su (su (su σ 0 (0) (0)) 27 (((aRM (σ 2 j) mm bd).toNatClampNeg)) (σ 27 (((aRM (σ 2 j) mm bd).toNatClampNeg)) + 1)) 26 (0) (σ 26 0 + 1)) (τ)) := hD
      refine W.eq (g2 := F0 m 48 ls [.int ((-40) - nI ((aRM (σ 2 j) mm bd).toNatClampNeg))]) rfl ?_
      have ho : oMember σ τ n k (nI j) name kind dd mm bd = ((-40) - nI ((aRM (σ 2 j) mm bd).toNatClampNeg), su (su (su σ 0 (0) (0)) 27 (((aRM (σ 2 j) mm bd).toNatClampNeg)) (σ 27 (((aRM (σ 2 j) mm bd).toNatClampNeg)) + 1)) 26 (0) (σ 26 0 + 1), τ) := by unfold oMember; simp only [eq_true c2, eq_false c4, nI_clamp (show j < 2 ^ 31 by omega), not_true, not_false_iff, not_true_eq_false, not_false_eq_true, true_or, or_true, false_or, or_false, or_self, and_self, true_and, and_true, false_and, and_false, if_true, if_false]; try rfl
      exact mu_iret (v0 := (-40) - nI ((aRM (σ 2 j) mm bd).toNatClampNeg)) (z := (su (su (su σ 0 (0) (0)) 27 (((aRM (σ 2 j) mm bd).toNatClampNeg)) (σ 27 (((aRM (σ 2 j) mm bd).toNatClampNeg)) + 1)) 26 (0) (σ 26 0 + 1), τ)) hx hb hr hlocks hP hD hS dX8_member_48 (by rw [ho]) (by rw [ho])
  · -- 20 not
    refine lv_iload hx hb dX8_member_23 (lv_at hl 0 rfl) ?_
    have ho : oMember σ τ n k t name kind dd mm bd = (aRef σ n t name kind dd mm, su σ 0 (0) (0), τ) := by unfold oMember; simp only [eq_false c2, not_true, not_false_iff, not_true_eq_false, not_false_eq_true, true_or, or_true, false_or, or_false, or_self, and_self, true_and, and_true, false_and, and_false, if_true, if_false]; try rfl
    exact mu_iret (v0 := aRef σ n t name kind dd mm) (z := (su σ 0 (0) (0), τ)) hx hb hr hlocks hP hD hS dX8_member_25 (by rw [ho]) (by rw [ho])
set_option maxHeartbeats 4000000 in
set_option maxRecDepth 100000 in
theorem m_value (l : Launch) (D : va_G) (G : Nat → ClassId) (mo : Nat) (ad : Nat → Nat) (σ : MS) (τ : Nat → Int64) (sz : Nat) (k : Nat) (h7 : σ 7 0 = nI k) (hk60 : k ≤ 60) (en : Int32) : Met l yX8_value (ww yX8_value cX8_value 2 (some .long)) (rmD 2) (muP D G sz mo ad (σ, τ) [.ref mo, .int en]) (muQl D G mo ad (muA G mo ad (σ, τ) sz) (oValue σ τ k en).1 (oValue σ τ k en).2) 0 0 (muA G mo ad (σ, τ) sz) := by
  refine Met.ofW (cc := cX8_value) (maxL := 2) (ret := (some .long)) (by decide) rfl ?_
  intro p e s m args below meth c s₁ B hml hv
  obtain ⟨rfl, hsz, hP, hK, hD0⟩ := hv
  have hx := B.exec
  have hb := B.bytes
  have hr := B.returns
  have hts : ∀ w ∈ TT, w.before _ s = true := fun w h => atoms_spec (ws := ww yX8_value cX8_value 2 (some .long)) B.pre w (List.mem_cons_of_mem _ h)
  have hown : s.vm.findClass RX8 = some m.cls := findClass_of_methodNamed B.named
  have hlocks := B.notSynchronized
  subst hsz
  have hD : va_D (muA G mo ad (σ, τ) s.heap.size) (mW G mo ad σ τ) := hD0.self
  generalize hAe : muA G mo ad (σ, τ) s.heap.size = A at hD ⊢
  have hA : ∀ q : Nat, s.heap.size ≤ q → A q := fun q h => by rw [← hAe]; exact Or.inr h
  have hS : va_S A s.heap s.heap [] := va_S.rf
  have hP : va_P D vwCl (mW G mo ad σ τ) s.heap := hP
  have hl := lv_entry ([.ref mo, .int en]) (n := 2) (Nat.le_of_ble_eq_true rfl)
  rw [lg_entry_eq]
  generalize (lg_sl ([.ref mo, .int en]) ++ List.replicate (2 - (lg_sl ([.ref mo, .int en])).length) Slot.unset).toArray = ls at hl ⊢
  have hl : lv_has ls 2 [(0, .ref mo), (1, .int en)] := hl
  refine lv_aload_n hx hb dX8_value_0 rfl (lv_at hl 0 rfl) ?_
  refine lv_aload_n hx hb dX8_value_1 rfl (lv_at hl 0 rfl) ?_
  refine lv_iload_n hx hb dX8_value_2 rfl (lv_at hl 1 rfl) ?_
  refine ro_Vi (D := D) (G := G) (As := [.int en]) (rest := [.ref mo]) ⟨hx, hb, hml, hown, hts⟩ (m_isEntry l D G _ mo ad _ _ hP k h7 hk60 en) gV_X8_X8_isEntry hdV_X8_isEntry ⟨Nat.le_of_ble_eq_true rfl, Nat.le_of_ble_eq_true rfl⟩ hK (va_recv hK.1 hP (ci := 8) (q0 := 0) rfl rfl) rfl hl.1 rfl (Nat.le_of_ble_eq_true rfl) dX8_value_3 ⟨Nat.le_of_ble_eq_true rfl, Nat.le_of_ble_eq_true rfl⟩ (fun r1 e_r1 => ?_)
  subst e_r1
  refine W.eq (g2 := F0 m 6 ls [.int (bI (okN k en)), .ref mo]) rfl ?_
  refine lv_if_ne (tgt := 13) hx hb dX8_value_6 (by decide) (fun c2 => ?_) (fun c2 => ?_)
  · -- 6 taken
    have c2 := bI_1 c2
    obtain ⟨j3, h_j3, rfl⟩ := okN_ex (by omega) c2
    refine lv_aload_n hx hb dX8_value_13 rfl (lv_at hl 0 rfl) ?_
    refine va_get (D := D) (ci := 8) (v := .ref ((ad 8))) (C := RX8) (T := TX8) (N := 33) hx hb hts iX8 hown hK.1 hP 0 rfl rfl 8 (by decide) (hts _ q_687) (fun _ h9 => h9) rfl dX8_value_14 ?_
    refine lv_iload_n hx hb dX8_value_17 rfl (lv_at hl 1 rfl) ?_
    refine zald_n (f := σ 8) hx hb hK.1 hP 6 2 rfl rfl (j3) rfl (by omega) (by decide) dX8_value_18 ?_
    refine lv_if_eq (tgt := 26) hx hb dX8_value_19 (by decide) (fun c4 => ?_) (fun c4 => ?_)
    · -- 19 taken
      refine lv_iconst (v := 0) hx hb dX8_value_26 (by decide) ?_
      refine va_put (D := D) (ci := 8) (v := .int 0) (ty := .int) (C := RX8) (T := TX8) (N := 33) hx hb hts iX8 tyX8 tyX8_ok nmX8 hown hK.1 hP hD hS 0 rfl rfl 0 (by decide) (hts _ q_679) (fun _ h9 => h9) rfl (by decide +kernel) rfl rfl (Nat.le_of_ble_eq_true rfl) dX8_value_27 (fun H locs hP hD hS => ?_)
      have hP : va_P D vwCl (mW G mo ad (su σ 0 (0) (0)) (τ)) H := hP
      have hD : va_D A (mW G mo ad (su σ 0 (0) (0)) (τ)) := hD
      refine lv_aload_n hx hb dX8_value_30 rfl (lv_at hl 0 rfl) ?_
      refine va_get (D := D) (ci := 8) (v := .int 0) (C := RX8) (T := TX8) (N := 33) hx hb hts iX8 hown hK.1 hP 0 rfl rfl 0 (by decide) (hts _ q_679) (fun _ h9 => h9) rfl dX8_value_31 ?_
      refine lv_if_ne (tgt := 55) hx hb dX8_value_34 (by decide) (fun hh => absurd (by decide) hh) (fun hh => ?_)
      refine lv_aload_n hx hb dX8_value_37 rfl (lv_at hl 0 rfl) ?_
      refine va_get (D := D) (ci := 8) (v := .ref ((ad 14))) (C := RX8) (T := TX8) (N := 33) hx hb hts iX8 hown hK.1 hP 0 rfl rfl 14 (by decide) (hts _ q_693) (fun _ h9 => h9) rfl dX8_value_38 ?_
      refine lv_iload_n hx hb dX8_value_41 rfl (lv_at hl 1 rfl) ?_
      refine zald_n (f := σ 14) hx hb hK.1 hP 12 2 rfl rfl (j3) rfl (by omega) (by decide) dX8_value_42 ?_
      refine lv_if_eq (tgt := 55) hx hb dX8_value_43 (by decide) (fun c5 => ?_) (fun c5 => ?_)
      · -- 43 taken
        refine lv_lconst (v := 0) hx hb dX8_value_55 (by decide) ?_
        have ho : oValue σ τ k (nI j3) = (0, su σ 0 (0) (0), τ) := by unfold oValue; simp only [eq_true c2, eq_true c4, eq_true c5, nI_clamp (show j3 < 2 ^ 31 by omega), not_true, not_false_iff, not_true_eq_false, not_false_eq_true, true_or, or_true, false_or, or_false, or_self, and_self, true_and, and_true, false_and, and_false, if_true, if_false]; try rfl
        exact mu_lret (v0 := 0) (z := (su σ 0 (0) (0), τ)) hx hb hr hlocks hP hD hS dX8_value_56 (by rw [ho]) (by rw [ho])
      · -- 43 not
        refine lv_aload_n hx hb dX8_value_46 rfl (lv_at hl 0 rfl) ?_
        refine va_get (D := D) (ci := 8) (v := .ref ((ad 15))) (C := RX8) (T := TX8) (N := 33) hx hb hts iX8 hown hK.1 hP 0 rfl rfl 15 (by decide) (hts _ q_694) (fun _ h9 => h9) rfl dX8_value_47 ?_
        refine lv_iload_n hx hb dX8_value_50 rfl (lv_at hl 1 rfl) ?_
        refine lald_n (f := τ) hx hb hK.1 hP 13 1 rfl rfl (j3) rfl (by omega) (by decide) dX8_value_51 ?_
        refine lv_goto (tgt := 56) hx hb dX8_value_52 (by decide) ?_
        have ho : oValue σ τ k (nI j3) = (τ j3, su σ 0 (0) (0), τ) := by unfold oValue; simp only [eq_true c2, eq_true c4, eq_false c5, nI_clamp (show j3 < 2 ^ 31 by omega), not_true, not_false_iff, not_true_eq_false, not_false_eq_true, true_or, or_true, false_or, or_false, or_self, and_self, true_and, and_true, false_and, and_false, if_true, if_false]; try rfl
        exact mu_lret (v0 := τ j3) (z := (su σ 0 (0) (0), τ)) hx hb hr hlocks hP hD hS dX8_value_56 (by rw [ho]) (by rw [ho])
    · -- 19 not
      refine lv_iconst (v := 1) hx hb dX8_value_22 (by decide) ?_
      refine lv_goto (tgt := 27) hx hb dX8_value_23 (by decide) ?_
      refine va_put (D := D) (ci := 8) (v := .int 1) (ty := .int) (C := RX8) (T := TX8) (N := 33) hx hb hts iX8 tyX8 tyX8_ok nmX8 hown hK.1 hP hD hS 0 rfl rfl 0 (by decide) (hts _ q_679) (fun _ h9 => h9) rfl (by decide +kernel) rfl rfl (Nat.le_of_ble_eq_true rfl) dX8_value_27 (fun H locs hP hD hS => ?_)
      have hP : va_P D vwCl (mW G mo ad (su σ 0 (0) (1)) (τ)) H := hP
      have hD : va_D A (mW G mo ad (su σ 0 (0) (1)) (τ)) := hD
      refine lv_aload_n hx hb dX8_value_30 rfl (lv_at hl 0 rfl) ?_
      refine va_get (D := D) (ci := 8) (v := .int 1) (C := RX8) (T := TX8) (N := 33) hx hb hts iX8 hown hK.1 hP 0 rfl rfl 0 (by decide) (hts _ q_679) (fun _ h9 => h9) rfl dX8_value_31 ?_
      refine lv_if_ne (tgt := 55) hx hb dX8_value_34 (by decide) (fun hh => ?_) (fun hh => absurd hh (by decide))
      refine lv_lconst (v := 0) hx hb dX8_value_55 (by decide) ?_
      have ho : oValue σ τ k (nI j3) = (0, su σ 0 (0) (1), τ) := by unfold oValue; simp only [eq_true c2, eq_false c4, nI_clamp (show j3 < 2 ^ 31 by omega), not_true, not_false_iff, not_true_eq_false, not_false_eq_true, true_or, or_true, false_or, or_false, or_self, and_self, true_and, and_true, false_and, and_false, if_true, if_false]; try rfl
      exact mu_lret (v0 := 0) (z := (su σ 0 (0) (1), τ)) hx hb hr hlocks hP hD hS dX8_value_56 (by rw [ho]) (by rw [ho])
  · -- 6 not
    have c2 := bI_0 c2
    refine lv_iconst (v := 2) hx hb dX8_value_9 (by decide) ?_
    refine lv_goto (tgt := 27) hx hb dX8_value_10 (by decide) ?_
    refine va_put (D := D) (ci := 8) (v := .int 2) (ty := .int) (C := RX8) (T := TX8) (N := 33) hx hb hts iX8 tyX8 tyX8_ok nmX8 hown hK.1 hP hD hS 0 rfl rfl 0 (by decide) (hts _ q_679) (fun _ h9 => h9) rfl (by decide +kernel) rfl rfl (Nat.le_of_ble_eq_true rfl) dX8_value_27 (fun H locs hP hD hS => ?_)
    have hP : va_P D vwCl (mW G mo ad (su σ 0 (0) (2)) (τ)) H := hP
    have hD : va_D A (mW G mo ad (su σ 0 (0) (2)) (τ)) := hD
    refine lv_aload_n hx hb dX8_value_30 rfl (lv_at hl 0 rfl) ?_
    refine va_get (D := D) (ci := 8) (v := .int 2) (C := RX8) (T := TX8) (N := 33) hx hb hts iX8 hown hK.1 hP 0 rfl rfl 0 (by decide) (hts _ q_679) (fun _ h9 => h9) rfl dX8_value_31 ?_
    refine lv_if_ne (tgt := 55) hx hb dX8_value_34 (by decide) (fun hh => ?_) (fun hh => absurd hh (by decide))
    refine lv_lconst (v := 0) hx hb dX8_value_55 (by decide) ?_
    have ho : oValue σ τ k en = (0, su σ 0 (0) (2), τ) := by unfold oValue; simp only [eq_false c2, not_true, not_false_iff, not_true_eq_false, not_false_eq_true, true_or, or_true, false_or, or_false, or_self, and_self, true_and, and_true, false_and, and_false, if_true, if_false]; try rfl
    exact mu_lret (v0 := 0) (z := (su σ 0 (0) (2), τ)) hx hb hr hlocks hP hD hS dX8_value_56 (by rw [ho]) (by rw [ho])
set_option maxHeartbeats 4000000 in
set_option maxRecDepth 100000 in
theorem m_entry (l : Launch) (D : va_G) (G : Nat → ClassId) (mo : Nat) (ad : Nat → Nat) (σ : MS) (τ : Nat → Int64) (sz : Nat) (k : Nat) (h7 : σ 7 0 = nI k) (hk60 : k ≤ 60) (en : Int32) (what : Int32) : Met l yX8_entry (ww yX8_entry cX8_entry 3 (some .int)) (rmD 2) (muP D G sz mo ad (σ, τ) [.ref mo, .int en, .int what]) (muQi D G mo ad (muA G mo ad (σ, τ) sz) (oEntry σ τ k en what).1 (oEntry σ τ k en what).2) 0 0 (muA G mo ad (σ, τ) sz) := by
  refine Met.ofW (cc := cX8_entry) (maxL := 3) (ret := (some .int)) (by decide) rfl ?_
  intro p e s m args below meth c s₁ B hml hv
  obtain ⟨rfl, hsz, hP, hK, hD0⟩ := hv
  have hx := B.exec
  have hb := B.bytes
  have hr := B.returns
  have hts : ∀ w ∈ TT, w.before _ s = true := fun w h => atoms_spec (ws := ww yX8_entry cX8_entry 3 (some .int)) B.pre w (List.mem_cons_of_mem _ h)
  have hown : s.vm.findClass RX8 = some m.cls := findClass_of_methodNamed B.named
  have hlocks := B.notSynchronized
  subst hsz
  have hD : va_D (muA G mo ad (σ, τ) s.heap.size) (mW G mo ad σ τ) := hD0.self
  generalize hAe : muA G mo ad (σ, τ) s.heap.size = A at hD ⊢
  have hA : ∀ q : Nat, s.heap.size ≤ q → A q := fun q h => by rw [← hAe]; exact Or.inr h
  have hS : va_S A s.heap s.heap [] := va_S.rf
  have hP : va_P D vwCl (mW G mo ad σ τ) s.heap := hP
  have hl := lv_entry ([.ref mo, .int en, .int what]) (n := 3) (Nat.le_of_ble_eq_true rfl)
  rw [lg_entry_eq]
  generalize (lg_sl ([.ref mo, .int en, .int what]) ++ List.replicate (3 - (lg_sl ([.ref mo, .int en, .int what])).length) Slot.unset).toArray = ls at hl ⊢
  have hl : lv_has ls 3 [(0, .ref mo), (1, .int en), (2, .int what)] := hl
  refine lv_aload_n hx hb dX8_entry_0 rfl (lv_at hl 0 rfl) ?_
  refine lv_iconst (v := 0) hx hb dX8_entry_1 (by decide) ?_
  refine va_put (D := D) (ci := 8) (v := .int 0) (ty := .int) (C := RX8) (T := TX8) (N := 33) hx hb hts iX8 tyX8 tyX8_ok nmX8 hown hK.1 hP hD hS 0 rfl rfl 0 (by decide) (hts _ q_679) (fun _ h9 => h9) rfl (by decide +kernel) rfl rfl (Nat.le_of_ble_eq_true rfl) dX8_entry_2 (fun H locs hP hD hS => ?_)
  have hP : va_P D vwCl (mW G mo ad (su σ 0 (0) (0)) (τ)) H := hP
  have hD : va_D A (mW G mo ad (su σ 0 (0) (0)) (τ)) := hD
  refine lv_aload_n hx hb dX8_entry_5 rfl (lv_at hl 0 rfl) ?_
  refine lv_iload_n hx hb dX8_entry_6 rfl (lv_at hl 1 rfl) ?_
  refine ro_Vi (D := D) (G := G) (As := [.int en]) (rest := []) ⟨hx, hb, hml, hown, hts⟩ (m_isEntry l D G _ mo ad _ _ hP k h7 hk60 en) gV_X8_X8_isEntry hdV_X8_isEntry ⟨Nat.le_of_ble_eq_true rfl, Nat.le_of_ble_eq_true rfl⟩ hK (va_recv hK.1 hP (ci := 8) (q0 := 0) rfl rfl) rfl hl.1 rfl (Nat.le_of_ble_eq_true rfl) dX8_entry_7 ⟨Nat.le_of_ble_eq_true rfl, Nat.le_of_ble_eq_true rfl⟩ (fun r1 e_r1 => ?_)
  subst e_r1
  refine W.eq (g2 := F0 m 10 ls [.int (bI (okN k en))]) rfl ?_
  refine lv_if_ne (tgt := 16) hx hb dX8_entry_10 (by decide) (fun c2 => ?_) (fun c2 => ?_)
  · -- 10 taken
    have c2 := bI_1 c2
    obtain ⟨j3, h_j3, rfl⟩ := okN_ex (by omega) c2
    refine lv_iload_n hx hb dX8_entry_16 rfl (lv_at hl 2 rfl) ?_
    by_cases c4 : what = 0
    · -- case 0
      refine lv_tableIn (tgt := 56) hx hb dX8_entry_17 (by rw [c4]; decide) (by rw [c4]; decide) (by rw [c4]; rfl) (by decide) ?_
      refine lv_aload_n hx hb dX8_entry_56 rfl (lv_at hl 0 rfl) ?_
      refine va_get (D := D) (ci := 8) (v := .ref ((ad 8))) (C := RX8) (T := TX8) (N := 33) hx hb hts iX8 hown hK.1 hP 0 rfl rfl 8 (by decide) (hts _ q_687) (fun _ h9 => h9) rfl dX8_entry_57 ?_
      refine lv_iload_n hx hb dX8_entry_60 rfl (lv_at hl 1 rfl) ?_
      refine zald_n (f := σ 8) hx hb hK.1 hP 6 2 rfl rfl (j3) rfl (by omega) (by decide) dX8_entry_61 ?_
      refine lv_if_eq (tgt := 69) hx hb dX8_entry_62 (by decide) (fun c5 => ?_) (fun c5 => ?_)
      · -- 62 taken
        refine lv_iconst (v := 0) hx hb dX8_entry_69 (by decide) ?_
        have ho : oEntry σ τ k (nI j3) what = (0, su σ 0 (0) (0), τ) := by unfold oEntry; simp only [eq_true c2, eq_true c4, eq_true c5, nI_clamp (show j3 < 2 ^ 31 by omega), not_true, not_false_iff, not_true_eq_false, not_false_eq_true, true_or, or_true, false_or, or_false, or_self, and_self, true_and, and_true, false_and, and_false, if_true, if_false]; try rfl
        exact mu_iret (v0 := 0) (z := (su σ 0 (0) (0), τ)) hx hb hr hlocks hP hD hS dX8_entry_70 (by rw [ho]) (by rw [ho])
      · -- 62 not
        refine lv_iconst (v := 1) hx hb dX8_entry_65 (by decide) ?_
        refine lv_goto (tgt := 70) hx hb dX8_entry_66 (by decide) ?_
        have ho : oEntry σ τ k (nI j3) what = (1, su σ 0 (0) (0), τ) := by unfold oEntry; simp only [eq_true c2, eq_true c4, eq_false c5, nI_clamp (show j3 < 2 ^ 31 by omega), not_true, not_false_iff, not_true_eq_false, not_false_eq_true, true_or, or_true, false_or, or_false, or_self, and_self, true_and, and_true, false_and, and_false, if_true, if_false]; try rfl
        exact mu_iret (v0 := 1) (z := (su σ 0 (0) (0), τ)) hx hb hr hlocks hP hD hS dX8_entry_70 (by rw [ho]) (by rw [ho])
    by_cases c6 : what = 1
    · -- case 1
      refine lv_tableIn (tgt := 71) hx hb dX8_entry_17 (by rw [c6]; decide) (by rw [c6]; decide) (by rw [c6]; rfl) (by decide) ?_
      refine lv_aload_n hx hb dX8_entry_71 rfl (lv_at hl 0 rfl) ?_
      refine va_get (D := D) (ci := 8) (v := .ref ((ad 9))) (C := RX8) (T := TX8) (N := 33) hx hb hts iX8 hown hK.1 hP 0 rfl rfl 9 (by decide) (hts _ q_688) (fun _ h9 => h9) rfl dX8_entry_72 ?_
      refine lv_iload_n hx hb dX8_entry_75 rfl (lv_at hl 1 rfl) ?_
      refine iald_n (f := σ 9) hx hb hK.1 hP 7 0 rfl rfl (j3) rfl (by omega) (by decide) dX8_entry_76 ?_
      have ho : oEntry σ τ k (nI j3) what = (σ 9 j3, su σ 0 (0) (0), τ) := by unfold oEntry; simp only [eq_true c2, eq_false c4, eq_true c6, nI_clamp (show j3 < 2 ^ 31 by omega), not_true, not_false_iff, not_true_eq_false, not_false_eq_true, true_or, or_true, false_or, or_false, or_self, and_self, true_and, and_true, false_and, and_false, if_true, if_false]; try rfl
      exact mu_iret (v0 := σ 9 j3) (z := (su σ 0 (0) (0), τ)) hx hb hr hlocks hP hD hS dX8_entry_77 (by rw [ho]) (by rw [ho])
    by_cases c7 : what = 2
    · -- case 2
      refine lv_tableIn (tgt := 78) hx hb dX8_entry_17 (by rw [c7]; decide) (by rw [c7]; decide) (by rw [c7]; rfl) (by decide) ?_
      refine lv_aload_n hx hb dX8_entry_78 rfl (lv_at hl 0 rfl) ?_
      refine va_get (D := D) (ci := 8) (v := .ref ((ad 10))) (C := RX8) (T := TX8) (N := 33) hx hb hts iX8 hown hK.1 hP 0 rfl rfl 10 (by decide) (hts _ q_689) (fun _ h9 => h9) rfl dX8_entry_79 ?_
      refine lv_iload_n hx hb dX8_entry_82 rfl (lv_at hl 1 rfl) ?_
      refine iald_n (f := σ 10) hx hb hK.1 hP 8 0 rfl rfl (j3) rfl (by omega) (by decide) dX8_entry_83 ?_
      have ho : oEntry σ τ k (nI j3) what = (σ 10 j3, su σ 0 (0) (0), τ) := by unfold oEntry; simp only [eq_true c2, eq_false c4, eq_false c6, eq_true c7, nI_clamp (show j3 < 2 ^ 31 by omega), not_true, not_false_iff, not_true_eq_false, not_false_eq_true, true_or, or_true, false_or, or_false, or_self, and_self, true_and, and_true, false_and, and_false, if_true, if_false]; try rfl
      exact mu_iret (v0 := σ 10 j3) (z := (su σ 0 (0) (0), τ)) hx hb hr hlocks hP hD hS dX8_entry_84 (by rw [ho]) (by rw [ho])
    by_cases c8 : what = 3
    · -- case 3
      refine lv_tableIn (tgt := 85) hx hb dX8_entry_17 (by rw [c8]; decide) (by rw [c8]; decide) (by rw [c8]; rfl) (by decide) ?_
      refine lv_aload_n hx hb dX8_entry_85 rfl (lv_at hl 0 rfl) ?_
      refine va_get (D := D) (ci := 8) (v := .ref ((ad 11))) (C := RX8) (T := TX8) (N := 33) hx hb hts iX8 hown hK.1 hP 0 rfl rfl 11 (by decide) (hts _ q_690) (fun _ h9 => h9) rfl dX8_entry_86 ?_
      refine lv_iload_n hx hb dX8_entry_89 rfl (lv_at hl 1 rfl) ?_
      refine iald_n (f := σ 11) hx hb hK.1 hP 9 0 rfl rfl (j3) rfl (by omega) (by decide) dX8_entry_90 ?_
      have ho : oEntry σ τ k (nI j3) what = (σ 11 j3, su σ 0 (0) (0), τ) := by unfold oEntry; simp only [eq_true c2, eq_false c4, eq_false c6, eq_false c7, eq_true c8, nI_clamp (show j3 < 2 ^ 31 by omega), not_true, not_false_iff, not_true_eq_false, not_false_eq_true, true_or, or_true, false_or, or_false, or_self, and_self, true_and, and_true, false_and, and_false, if_true, if_false]; try rfl
      exact mu_iret (v0 := σ 11 j3) (z := (su σ 0 (0) (0), τ)) hx hb hr hlocks hP hD hS dX8_entry_91 (by rw [ho]) (by rw [ho])
    by_cases c9 : what = 4
    · -- case 4
      refine lv_tableIn (tgt := 92) hx hb dX8_entry_17 (by rw [c9]; decide) (by rw [c9]; decide) (by rw [c9]; rfl) (by decide) ?_
      refine lv_aload_n hx hb dX8_entry_92 rfl (lv_at hl 0 rfl) ?_
      refine va_get (D := D) (ci := 8) (v := .ref ((ad 12))) (C := RX8) (T := TX8) (N := 33) hx hb hts iX8 hown hK.1 hP 0 rfl rfl 12 (by decide) (hts _ q_691) (fun _ h9 => h9) rfl dX8_entry_93 ?_
      refine lv_iload_n hx hb dX8_entry_96 rfl (lv_at hl 1 rfl) ?_
      refine iald_n (f := σ 12) hx hb hK.1 hP 10 0 rfl rfl (j3) rfl (by omega) (by decide) dX8_entry_97 ?_
      have ho : oEntry σ τ k (nI j3) what = (σ 12 j3, su σ 0 (0) (0), τ) := by unfold oEntry; simp only [eq_true c2, eq_false c4, eq_false c6, eq_false c7, eq_false c8, eq_true c9, nI_clamp (show j3 < 2 ^ 31 by omega), not_true, not_false_iff, not_true_eq_false, not_false_eq_true, true_or, or_true, false_or, or_false, or_self, and_self, true_and, and_true, false_and, and_false, if_true, if_false]; try rfl
      exact mu_iret (v0 := σ 12 j3) (z := (su σ 0 (0) (0), τ)) hx hb hr hlocks hP hD hS dX8_entry_98 (by rw [ho]) (by rw [ho])
    by_cases c10 : what = 5
    · -- case 5
      refine lv_tableIn (tgt := 99) hx hb dX8_entry_17 (by rw [c10]; decide) (by rw [c10]; decide) (by rw [c10]; rfl) (by decide) ?_
      refine lv_aload_n hx hb dX8_entry_99 rfl (lv_at hl 0 rfl) ?_
      refine va_get (D := D) (ci := 8) (v := .ref ((ad 13))) (C := RX8) (T := TX8) (N := 33) hx hb hts iX8 hown hK.1 hP 0 rfl rfl 13 (by decide) (hts _ q_692) (fun _ h9 => h9) rfl dX8_entry_100 ?_
      refine lv_iload_n hx hb dX8_entry_103 rfl (lv_at hl 1 rfl) ?_
      refine iald_n (f := σ 13) hx hb hK.1 hP 11 0 rfl rfl (j3) rfl (by omega) (by decide) dX8_entry_104 ?_
      have ho : oEntry σ τ k (nI j3) what = (σ 13 j3, su σ 0 (0) (0), τ) := by unfold oEntry; simp only [eq_true c2, eq_false c4, eq_false c6, eq_false c7, eq_false c8, eq_false c9, eq_true c10, nI_clamp (show j3 < 2 ^ 31 by omega), not_true, not_false_iff, not_true_eq_false, not_false_eq_true, true_or, or_true, false_or, or_false, or_self, and_self, true_and, and_true, false_and, and_false, if_true, if_false]; try rfl
      exact mu_iret (v0 := σ 13 j3) (z := (su σ 0 (0) (0), τ)) hx hb hr hlocks hP hD hS dX8_entry_105 (by rw [ho]) (by rw [ho])
    refine lv_tableOut (tgt := 106) hx hb dX8_entry_17 (by simp only [i_eq, Int32.reduceToInt] at c4 c6 c7 c8 c9 c10; omega) (by decide) ?_
    refine lv_bipush (v := -13) hx hb dX8_entry_106 (by decide) ?_
    have ho : oEntry σ τ k (nI j3) what = ((-13), su σ 0 (0) (0), τ) := by unfold oEntry; simp only [eq_true c2, eq_false c4, eq_false c6, eq_false c7, eq_false c8, eq_false c9, eq_false c10, nI_clamp (show j3 < 2 ^ 31 by omega), not_true, not_false_iff, not_true_eq_false, not_false_eq_true, true_or, or_true, false_or, or_false, or_self, and_self, true_and, and_true, false_and, and_false, if_true, if_false]; try rfl
    exact mu_iret (v0 := (-13)) (z := (su σ 0 (0) (0), τ)) hx hb hr hlocks hP hD hS dX8_entry_108 (by rw [ho]) (by rw [ho])
  · -- 10 not
    have c2 := bI_0 c2
    refine lv_bipush (v := -11) hx hb dX8_entry_13 (by decide) ?_
    have ho : oEntry σ τ k en what = ((-11), su σ 0 (0) (0), τ) := by unfold oEntry; simp only [eq_false c2, not_true, not_false_iff, not_true_eq_false, not_false_eq_true, true_or, or_true, false_or, or_false, or_self, and_self, true_and, and_true, false_and, and_false, if_true, if_false]; try rfl
    exact mu_iret (v0 := (-11)) (z := (su σ 0 (0) (0), τ)) hx hb hr hlocks hP hD hS dX8_entry_15 (by rw [ho]) (by rw [ho])
set_option maxHeartbeats 4000000 in
set_option maxRecDepth 100000 in
theorem m_shape (l : Launch) (D : va_G) (G : Nat → ClassId) (mo : Nat) (ad : Nat → Nat) (σ : MS) (τ : Nat → Int64) (sz : Nat) (k : Nat) (h7 : σ 7 0 = nI k) (hk60 : k ≤ 60) (en : Int32) (what : Int32) : Met l yX8_shape (ww yX8_shape cX8_shape 3 (some .int)) (rmD 2) (muP D G sz mo ad (σ, τ) [.ref mo, .int en, .int what]) (muQi D G mo ad (muA G mo ad (σ, τ) sz) (oShape σ τ k en what).1 (oShape σ τ k en what).2) 0 0 (muA G mo ad (σ, τ) sz) := by
  refine Met.ofW (cc := cX8_shape) (maxL := 3) (ret := (some .int)) (by decide) rfl ?_
  intro p e s m args below meth c s₁ B hml hv
  obtain ⟨rfl, hsz, hP, hK, hD0⟩ := hv
  have hx := B.exec
  have hb := B.bytes
  have hr := B.returns
  have hts : ∀ w ∈ TT, w.before _ s = true := fun w h => atoms_spec (ws := ww yX8_shape cX8_shape 3 (some .int)) B.pre w (List.mem_cons_of_mem _ h)
  have hown : s.vm.findClass RX8 = some m.cls := findClass_of_methodNamed B.named
  have hlocks := B.notSynchronized
  subst hsz
  have hD : va_D (muA G mo ad (σ, τ) s.heap.size) (mW G mo ad σ τ) := hD0.self
  generalize hAe : muA G mo ad (σ, τ) s.heap.size = A at hD ⊢
  have hA : ∀ q : Nat, s.heap.size ≤ q → A q := fun q h => by rw [← hAe]; exact Or.inr h
  have hS : va_S A s.heap s.heap [] := va_S.rf
  have hP : va_P D vwCl (mW G mo ad σ τ) s.heap := hP
  have hl := lv_entry ([.ref mo, .int en, .int what]) (n := 3) (Nat.le_of_ble_eq_true rfl)
  rw [lg_entry_eq]
  generalize (lg_sl ([.ref mo, .int en, .int what]) ++ List.replicate (3 - (lg_sl ([.ref mo, .int en, .int what])).length) Slot.unset).toArray = ls at hl ⊢
  have hl : lv_has ls 3 [(0, .ref mo), (1, .int en), (2, .int what)] := hl
  refine lv_aload_n hx hb dX8_shape_0 rfl (lv_at hl 0 rfl) ?_
  refine lv_iconst (v := 0) hx hb dX8_shape_1 (by decide) ?_
  refine va_put (D := D) (ci := 8) (v := .int 0) (ty := .int) (C := RX8) (T := TX8) (N := 33) hx hb hts iX8 tyX8 tyX8_ok nmX8 hown hK.1 hP hD hS 0 rfl rfl 0 (by decide) (hts _ q_679) (fun _ h9 => h9) rfl (by decide +kernel) rfl rfl (Nat.le_of_ble_eq_true rfl) dX8_shape_2 (fun H locs hP hD hS => ?_)
  have hP : va_P D vwCl (mW G mo ad (su σ 0 (0) (0)) (τ)) H := hP
  have hD : va_D A (mW G mo ad (su σ 0 (0) (0)) (τ)) := hD
  refine lv_aload_n hx hb dX8_shape_5 rfl (lv_at hl 0 rfl) ?_
  refine lv_iload_n hx hb dX8_shape_6 rfl (lv_at hl 1 rfl) ?_
  refine ro_Vi (D := D) (G := G) (As := [.int en]) (rest := []) ⟨hx, hb, hml, hown, hts⟩ (m_isEntry l D G _ mo ad _ _ hP k h7 hk60 en) gV_X8_X8_isEntry hdV_X8_isEntry ⟨Nat.le_of_ble_eq_true rfl, Nat.le_of_ble_eq_true rfl⟩ hK (va_recv hK.1 hP (ci := 8) (q0 := 0) rfl rfl) rfl hl.1 rfl (Nat.le_of_ble_eq_true rfl) dX8_shape_7 ⟨Nat.le_of_ble_eq_true rfl, Nat.le_of_ble_eq_true rfl⟩ (fun r1 e_r1 => ?_)
  subst e_r1
  refine W.eq (g2 := F0 m 10 ls [.int (bI (okN k en))]) rfl ?_
  refine lv_if_ne (tgt := 16) hx hb dX8_shape_10 (by decide) (fun c2 => ?_) (fun c2 => ?_)
  · -- 10 taken
    have c2 := bI_1 c2
    obtain ⟨j3, h_j3, rfl⟩ := okN_ex (by omega) c2
    refine lv_aload_n hx hb dX8_shape_16 rfl (lv_at hl 0 rfl) ?_
    refine va_get (D := D) (ci := 8) (v := .ref ((ad 8))) (C := RX8) (T := TX8) (N := 33) hx hb hts iX8 hown hK.1 hP 0 rfl rfl 8 (by decide) (hts _ q_687) (fun _ h9 => h9) rfl dX8_shape_17 ?_
    refine lv_iload_n hx hb dX8_shape_20 rfl (lv_at hl 1 rfl) ?_
    refine zald_n (f := σ 8) hx hb hK.1 hP 6 2 rfl rfl (j3) rfl (by omega) (by decide) dX8_shape_21 ?_
    refine lv_if_ne (tgt := 28) hx hb dX8_shape_22 (by decide) (fun c4 => ?_) (fun c4 => ?_)
    · -- 22 taken
      refine lv_iload_n hx hb dX8_shape_28 rfl (lv_at hl 2 rfl) ?_
      by_cases c5 : what = 0
      · -- case 0
        refine lv_tableIn (tgt := 60) hx hb dX8_shape_29 (by rw [c5]; decide) (by rw [c5]; decide) (by rw [c5]; rfl) (by decide) ?_
        refine lv_aload_n hx hb dX8_shape_60 rfl (lv_at hl 0 rfl) ?_
        refine va_get (D := D) (ci := 8) (v := .ref ((ad 18))) (C := RX8) (T := TX8) (N := 33) hx hb hts iX8 hown hK.1 hP 0 rfl rfl 18 (by decide) (hts _ q_697) (fun _ h9 => h9) rfl dX8_shape_61 ?_
        refine lv_iload_n hx hb dX8_shape_64 rfl (lv_at hl 1 rfl) ?_
        refine iald_n (f := σ 18) hx hb hK.1 hP 16 0 rfl rfl (j3) rfl (by omega) (by decide) dX8_shape_65 ?_
        have ho : oShape σ τ k (nI j3) what = (σ 18 j3, su σ 0 (0) (0), τ) := by unfold oShape; simp only [eq_true c2, eq_false c4, eq_true c5, nI_clamp (show j3 < 2 ^ 31 by omega), not_true, not_false_iff, not_true_eq_false, not_false_eq_true, true_or, or_true, false_or, or_false, or_self, and_self, true_and, and_true, false_and, and_false, if_true, if_false]; try rfl
        exact mu_iret (v0 := σ 18 j3) (z := (su σ 0 (0) (0), τ)) hx hb hr hlocks hP hD hS dX8_shape_66 (by rw [ho]) (by rw [ho])
      by_cases c6 : what = 1
      · -- case 1
        refine lv_tableIn (tgt := 67) hx hb dX8_shape_29 (by rw [c6]; decide) (by rw [c6]; decide) (by rw [c6]; rfl) (by decide) ?_
        refine lv_aload_n hx hb dX8_shape_67 rfl (lv_at hl 0 rfl) ?_
        refine va_get (D := D) (ci := 8) (v := .ref ((ad 17))) (C := RX8) (T := TX8) (N := 33) hx hb hts iX8 hown hK.1 hP 0 rfl rfl 17 (by decide) (hts _ q_696) (fun _ h9 => h9) rfl dX8_shape_68 ?_
        refine lv_iload_n hx hb dX8_shape_71 rfl (lv_at hl 1 rfl) ?_
        refine zald_n (f := σ 17) hx hb hK.1 hP 15 2 rfl rfl (j3) rfl (by omega) (by decide) dX8_shape_72 ?_
        refine lv_if_eq (tgt := 80) hx hb dX8_shape_73 (by decide) (fun c7 => ?_) (fun c7 => ?_)
        · -- 73 taken
          refine lv_iconst (v := 0) hx hb dX8_shape_80 (by decide) ?_
          have ho : oShape σ τ k (nI j3) what = (0, su σ 0 (0) (0), τ) := by unfold oShape; simp only [eq_true c2, eq_false c4, eq_false c5, eq_true c6, eq_true c7, nI_clamp (show j3 < 2 ^ 31 by omega), not_true, not_false_iff, not_true_eq_false, not_false_eq_true, true_or, or_true, false_or, or_false, or_self, and_self, true_and, and_true, false_and, and_false, if_true, if_false]; try rfl
          exact mu_iret (v0 := 0) (z := (su σ 0 (0) (0), τ)) hx hb hr hlocks hP hD hS dX8_shape_81 (by rw [ho]) (by rw [ho])
        · -- 73 not
          refine lv_iconst (v := 1) hx hb dX8_shape_76 (by decide) ?_
          refine lv_goto (tgt := 81) hx hb dX8_shape_77 (by decide) ?_
          have ho : oShape σ τ k (nI j3) what = (1, su σ 0 (0) (0), τ) := by unfold oShape; simp only [eq_true c2, eq_false c4, eq_false c5, eq_true c6, eq_false c7, nI_clamp (show j3 < 2 ^ 31 by omega), not_true, not_false_iff, not_true_eq_false, not_false_eq_true, true_or, or_true, false_or, or_false, or_self, and_self, true_and, and_true, false_and, and_false, if_true, if_false]; try rfl
          exact mu_iret (v0 := 1) (z := (su σ 0 (0) (0), τ)) hx hb hr hlocks hP hD hS dX8_shape_81 (by rw [ho]) (by rw [ho])
      by_cases c8 : what = 2
      · -- case 2
        refine lv_tableIn (tgt := 82) hx hb dX8_shape_29 (by rw [c8]; decide) (by rw [c8]; decide) (by rw [c8]; rfl) (by decide) ?_
        refine lv_aload_n hx hb dX8_shape_82 rfl (lv_at hl 0 rfl) ?_
        refine va_get (D := D) (ci := 8) (v := .ref ((ad 16))) (C := RX8) (T := TX8) (N := 33) hx hb hts iX8 hown hK.1 hP 0 rfl rfl 16 (by decide) (hts _ q_695) (fun _ h9 => h9) rfl dX8_shape_83 ?_
        refine lv_iload_n hx hb dX8_shape_86 rfl (lv_at hl 1 rfl) ?_
        refine zald_n (f := σ 16) hx hb hK.1 hP 14 2 rfl rfl (j3) rfl (by omega) (by decide) dX8_shape_87 ?_
        refine lv_if_eq (tgt := 95) hx hb dX8_shape_88 (by decide) (fun c9 => ?_) (fun c9 => ?_)
        · -- 88 taken
          refine lv_iconst (v := 0) hx hb dX8_shape_95 (by decide) ?_
          have ho : oShape σ τ k (nI j3) what = (0, su σ 0 (0) (0), τ) := by unfold oShape; simp only [eq_true c2, eq_false c4, eq_false c5, eq_false c6, eq_true c8, eq_true c9, nI_clamp (show j3 < 2 ^ 31 by omega), not_true, not_false_iff, not_true_eq_false, not_false_eq_true, true_or, or_true, false_or, or_false, or_self, and_self, true_and, and_true, false_and, and_false, if_true, if_false]; try rfl
          exact mu_iret (v0 := 0) (z := (su σ 0 (0) (0), τ)) hx hb hr hlocks hP hD hS dX8_shape_96 (by rw [ho]) (by rw [ho])
        · -- 88 not
          refine lv_iconst (v := 1) hx hb dX8_shape_91 (by decide) ?_
          refine lv_goto (tgt := 96) hx hb dX8_shape_92 (by decide) ?_
          have ho : oShape σ τ k (nI j3) what = (1, su σ 0 (0) (0), τ) := by unfold oShape; simp only [eq_true c2, eq_false c4, eq_false c5, eq_false c6, eq_true c8, eq_false c9, nI_clamp (show j3 < 2 ^ 31 by omega), not_true, not_false_iff, not_true_eq_false, not_false_eq_true, true_or, or_true, false_or, or_false, or_self, and_self, true_and, and_true, false_and, and_false, if_true, if_false]; try rfl
          exact mu_iret (v0 := 1) (z := (su σ 0 (0) (0), τ)) hx hb hr hlocks hP hD hS dX8_shape_96 (by rw [ho]) (by rw [ho])
      by_cases c10 : what = 3
      · -- case 3
        refine lv_tableIn (tgt := 97) hx hb dX8_shape_29 (by rw [c10]; decide) (by rw [c10]; decide) (by rw [c10]; rfl) (by decide) ?_
        refine lv_aload_n hx hb dX8_shape_97 rfl (lv_at hl 0 rfl) ?_
        refine va_get (D := D) (ci := 8) (v := .ref ((ad 28))) (C := RX8) (T := TX8) (N := 33) hx hb hts iX8 hown hK.1 hP 0 rfl rfl 28 (by decide) (hts _ q_707) (fun _ h9 => h9) rfl dX8_shape_98 ?_
        refine lv_iload_n hx hb dX8_shape_101 rfl (lv_at hl 1 rfl) ?_
        refine iald_n (f := σ 28) hx hb hK.1 hP 22 0 rfl rfl (j3) rfl (by omega) (by decide) dX8_shape_102 ?_
        have ho : oShape σ τ k (nI j3) what = (σ 28 j3, su σ 0 (0) (0), τ) := by unfold oShape; simp only [eq_true c2, eq_false c4, eq_false c5, eq_false c6, eq_false c8, eq_true c10, nI_clamp (show j3 < 2 ^ 31 by omega), not_true, not_false_iff, not_true_eq_false, not_false_eq_true, true_or, or_true, false_or, or_false, or_self, and_self, true_and, and_true, false_and, and_false, if_true, if_false]; try rfl
        exact mu_iret (v0 := σ 28 j3) (z := (su σ 0 (0) (0), τ)) hx hb hr hlocks hP hD hS dX8_shape_103 (by rw [ho]) (by rw [ho])
      refine lv_tableOut (tgt := 104) hx hb dX8_shape_29 (by simp only [i_eq, Int32.reduceToInt] at c5 c6 c8 c10; omega) (by decide) ?_
      refine lv_bipush (v := -13) hx hb dX8_shape_104 (by decide) ?_
      have ho : oShape σ τ k (nI j3) what = ((-13), su σ 0 (0) (0), τ) := by unfold oShape; simp only [eq_true c2, eq_false c4, eq_false c5, eq_false c6, eq_false c8, eq_false c10, nI_clamp (show j3 < 2 ^ 31 by omega), not_true, not_false_iff, not_true_eq_false, not_false_eq_true, true_or, or_true, false_or, or_false, or_self, and_self, true_and, and_true, false_and, and_false, if_true, if_false]; try rfl
      exact mu_iret (v0 := (-13)) (z := (su σ 0 (0) (0), τ)) hx hb hr hlocks hP hD hS dX8_shape_106 (by rw [ho]) (by rw [ho])
    · -- 22 not
      refine lv_bipush (v := -12) hx hb dX8_shape_25 (by decide) ?_
      have ho : oShape σ τ k (nI j3) what = ((-12), su σ 0 (0) (0), τ) := by unfold oShape; simp only [eq_true c2, eq_true c4, nI_clamp (show j3 < 2 ^ 31 by omega), not_true, not_false_iff, not_true_eq_false, not_false_eq_true, true_or, or_true, false_or, or_false, or_self, and_self, true_and, and_true, false_and, and_false, if_true, if_false]; try rfl
      exact mu_iret (v0 := (-12)) (z := (su σ 0 (0) (0), τ)) hx hb hr hlocks hP hD hS dX8_shape_27 (by rw [ho]) (by rw [ho])
  · -- 10 not
    have c2 := bI_0 c2
    refine lv_bipush (v := -11) hx hb dX8_shape_13 (by decide) ?_
    have ho : oShape σ τ k en what = ((-11), su σ 0 (0) (0), τ) := by unfold oShape; simp only [eq_false c2, not_true, not_false_iff, not_true_eq_false, not_false_eq_true, true_or, or_true, false_or, or_false, or_self, and_self, true_and, and_true, false_and, and_false, if_true, if_false]; try rfl
    exact mu_iret (v0 := (-11)) (z := (su σ 0 (0) (0), τ)) hx hb hr hlocks hP hD hS dX8_shape_15 (by rw [ho]) (by rw [ho])
set_option maxHeartbeats 4000000 in
set_option maxRecDepth 100000 in
theorem m_count (l : Launch) (D : va_G) (G : Nat → ClassId) (mo : Nat) (ad : Nat → Nat) (σ : MS) (τ : Nat → Int64) (sz : Nat) (k : Nat) (h7 : σ 7 0 = nI k) (hk60 : k ≤ 60) (hk59 : ¬ σ 21 0 = 0 → k < 60) (what : Int32) : Met l yX8_count (ww yX8_count cX8_count 2 (some .int)) (rmD 0) (muP D G sz mo ad (σ, τ) [.ref mo, .int what]) (muQi D G mo ad (muA G mo ad (σ, τ) sz) (oCount σ τ k what).1 (oCount σ τ k what).2) 0 0 (muA G mo ad (σ, τ) sz) := by
  refine Met.ofW (cc := cX8_count) (maxL := 2) (ret := (some .int)) (by decide) rfl ?_
  intro p e s m args below meth c s₁ B hml hv
  obtain ⟨rfl, hsz, hP, hK, hD0⟩ := hv
  have hx := B.exec
  have hb := B.bytes
  have hr := B.returns
  have hts : ∀ w ∈ TT, w.before _ s = true := fun w h => atoms_spec (ws := ww yX8_count cX8_count 2 (some .int)) B.pre w (List.mem_cons_of_mem _ h)
  have hown : s.vm.findClass RX8 = some m.cls := findClass_of_methodNamed B.named
  have hlocks := B.notSynchronized
  subst hsz
  have hD : va_D (muA G mo ad (σ, τ) s.heap.size) (mW G mo ad σ τ) := hD0.self
  generalize hAe : muA G mo ad (σ, τ) s.heap.size = A at hD ⊢
  have hA : ∀ q : Nat, s.heap.size ≤ q → A q := fun q h => by rw [← hAe]; exact Or.inr h
  have hS : va_S A s.heap s.heap [] := va_S.rf
  have hP : va_P D vwCl (mW G mo ad σ τ) s.heap := hP
  have hl := lv_entry ([.ref mo, .int what]) (n := 2) (Nat.le_of_ble_eq_true rfl)
  rw [lg_entry_eq]
  generalize (lg_sl ([.ref mo, .int what]) ++ List.replicate (2 - (lg_sl ([.ref mo, .int what])).length) Slot.unset).toArray = ls at hl ⊢
  have hl : lv_has ls 2 [(0, .ref mo), (1, .int what)] := hl
  refine lv_aload_n hx hb dX8_count_0 rfl (lv_at hl 0 rfl) ?_
  refine lv_iconst (v := 0) hx hb dX8_count_1 (by decide) ?_
  refine va_put (D := D) (ci := 8) (v := .int 0) (ty := .int) (C := RX8) (T := TX8) (N := 33) hx hb hts iX8 tyX8 tyX8_ok nmX8 hown hK.1 hP hD hS 0 rfl rfl 0 (by decide) (hts _ q_679) (fun _ h9 => h9) rfl (by decide +kernel) rfl rfl (Nat.le_of_ble_eq_true rfl) dX8_count_2 (fun H locs hP hD hS => ?_)
  have hP : va_P D vwCl (mW G mo ad (su σ 0 (0) (0)) (τ)) H := hP
  have hD : va_D A (mW G mo ad (su σ 0 (0) (0)) (τ)) := hD
  refine lv_iload_n hx hb dX8_count_5 rfl (lv_at hl 1 rfl) ?_
  by_cases c1 : what = 0
  · -- case 0
    refine lv_tableIn (tgt := 44) hx hb dX8_count_6 (by rw [c1]; decide) (by rw [c1]; decide) (by rw [c1]; rfl) (by decide) ?_
    refine lv_aload_n hx hb dX8_count_44 rfl (lv_at hl 0 rfl) ?_
    refine va_get (D := D) (ci := 8) (v := .int (σ 1 0)) (C := RX8) (T := TX8) (N := 33) hx hb hts iX8 hown hK.1 hP 0 rfl rfl 1 (by decide) (hts _ q_680) (fun _ h9 => h9) rfl dX8_count_45 ?_
    have ho : oCount σ τ k what = (σ 1 0, su σ 0 (0) (0), τ) := by unfold oCount; simp only [eq_true c1, not_true, not_false_iff, not_true_eq_false, not_false_eq_true, true_or, or_true, false_or, or_false, or_self, and_self, true_and, and_true, false_and, and_false, if_true, if_false]; try rfl
    exact mu_iret (v0 := σ 1 0) (z := (su σ 0 (0) (0), τ)) hx hb hr hlocks hP hD hS dX8_count_48 (by rw [ho]) (by rw [ho])
  by_cases c2 : what = 1
  · -- case 1
    refine lv_tableIn (tgt := 49) hx hb dX8_count_6 (by rw [c2]; decide) (by rw [c2]; decide) (by rw [c2]; rfl) (by decide) ?_
    refine lv_aload_n hx hb dX8_count_49 rfl (lv_at hl 0 rfl) ?_
    refine va_get (D := D) (ci := 8) (v := .int (σ 7 0)) (C := RX8) (T := TX8) (N := 33) hx hb hts iX8 hown hK.1 hP 0 rfl rfl 7 (by decide) (hts _ q_686) (fun _ h9 => h9) rfl dX8_count_50 ?_
    refine W.eq (g2 := F0 m 53 ls [.int (nI k)]) (congrArg (fun z9 => F0 m 53 ls [.int z9]) h7) ?_
    have ho : oCount σ τ k what = (nI k, su σ 0 (0) (0), τ) := by unfold oCount; simp only [eq_false c1, eq_true c2, not_true, not_false_iff, not_true_eq_false, not_false_eq_true, true_or, or_true, false_or, or_false, or_self, and_self, true_and, and_true, false_and, and_false, if_true, if_false]; try rfl
    exact mu_iret (v0 := nI k) (z := (su σ 0 (0) (0), τ)) hx hb hr hlocks hP hD hS dX8_count_53 (by rw [ho]) (by rw [ho])
  by_cases c3 : what = 2
  · -- case 2
    refine lv_tableIn (tgt := 54) hx hb dX8_count_6 (by rw [c3]; decide) (by rw [c3]; decide) (by rw [c3]; rfl) (by decide) ?_
    refine lv_aload_n hx hb dX8_count_54 rfl (lv_at hl 0 rfl) ?_
    refine va_get (D := D) (ci := 8) (v := .int (σ 21 0)) (C := RX8) (T := TX8) (N := 33) hx hb hts iX8 hown hK.1 hP 0 rfl rfl 21 (by decide) (hts _ q_700) (fun _ h9 => h9) rfl dX8_count_55 ?_
    refine lv_if_eq (tgt := 65) hx hb dX8_count_58 (by decide) (fun c4 => ?_) (fun c4 => ?_)
    · -- 58 taken
      refine lv_iconst (v := 0) hx hb dX8_count_65 (by decide) ?_
      have ho : oCount σ τ k what = (0, su σ 0 (0) (0), τ) := by unfold oCount; simp only [eq_false c1, eq_false c2, eq_true c3, eq_true c4, not_true, not_false_iff, not_true_eq_false, not_false_eq_true, true_or, or_true, false_or, or_false, or_self, and_self, true_and, and_true, false_and, and_false, if_true, if_false]; try rfl
      exact mu_iret (v0 := 0) (z := (su σ 0 (0) (0), τ)) hx hb hr hlocks hP hD hS dX8_count_66 (by rw [ho]) (by rw [ho])
    · -- 58 not
      refine lv_iconst (v := 1) hx hb dX8_count_61 (by decide) ?_
      refine lv_goto (tgt := 66) hx hb dX8_count_62 (by decide) ?_
      have ho : oCount σ τ k what = (1, su σ 0 (0) (0), τ) := by unfold oCount; simp only [eq_false c1, eq_false c2, eq_true c3, eq_false c4, not_true, not_false_iff, not_true_eq_false, not_false_eq_true, true_or, or_true, false_or, or_false, or_self, and_self, true_and, and_true, false_and, and_false, if_true, if_false]; try rfl
      exact mu_iret (v0 := 1) (z := (su σ 0 (0) (0), τ)) hx hb hr hlocks hP hD hS dX8_count_66 (by rw [ho]) (by rw [ho])
  by_cases c5 : what = 3
  · -- case 3
    refine lv_tableIn (tgt := 67) hx hb dX8_count_6 (by rw [c5]; decide) (by rw [c5]; decide) (by rw [c5]; rfl) (by decide) ?_
    refine lv_aload_n hx hb dX8_count_67 rfl (lv_at hl 0 rfl) ?_
    refine va_get (D := D) (ci := 8) (v := .int (σ 21 0)) (C := RX8) (T := TX8) (N := 33) hx hb hts iX8 hown hK.1 hP 0 rfl rfl 21 (by decide) (hts _ q_700) (fun _ h9 => h9) rfl dX8_count_68 ?_
    refine lv_if_eq (tgt := 86) hx hb dX8_count_71 (by decide) (fun c6 => ?_) (fun c6 => ?_)
    · -- 71 taken
      refine lv_iconst (v := 0) hx hb dX8_count_86 (by decide) ?_
      have ho : oCount σ τ k what = (0, su σ 0 (0) (0), τ) := by unfold oCount; simp only [eq_false c1, eq_false c2, eq_false c3, eq_true c5, eq_true c6, not_true, not_false_iff, not_true_eq_false, not_false_eq_true, true_or, or_true, false_or, or_false, or_self, and_self, true_and, and_true, false_and, and_false, if_true, if_false]; try rfl
      exact mu_iret (v0 := 0) (z := (su σ 0 (0) (0), τ)) hx hb hr hlocks hP hD hS dX8_count_87 (by rw [ho]) (by rw [ho])
    · -- 71 not
      have hk59 := hk59 c6
      refine lv_aload_n hx hb dX8_count_74 rfl (lv_at hl 0 rfl) ?_
      refine va_get (D := D) (ci := 8) (v := .ref ((ad 18))) (C := RX8) (T := TX8) (N := 33) hx hb hts iX8 hown hK.1 hP 0 rfl rfl 18 (by decide) (hts _ q_697) (fun _ h9 => h9) rfl dX8_count_75 ?_
      refine lv_aload_n hx hb dX8_count_78 rfl (lv_at hl 0 rfl) ?_
      refine va_get (D := D) (ci := 8) (v := .int (σ 7 0)) (C := RX8) (T := TX8) (N := 33) hx hb hts iX8 hown hK.1 hP 0 rfl rfl 7 (by decide) (hts _ q_686) (fun _ h9 => h9) rfl dX8_count_79 ?_
      refine iald_n (f := σ 18) hx hb hK.1 hP 16 0 rfl rfl (k) h7 (by omega) (by decide) dX8_count_82 ?_
      refine lv_goto (tgt := 87) hx hb dX8_count_83 (by decide) ?_
      have ho : oCount σ τ k what = (σ 18 k, su σ 0 (0) (0), τ) := by unfold oCount; simp only [eq_false c1, eq_false c2, eq_false c3, eq_true c5, eq_false c6, not_true, not_false_iff, not_true_eq_false, not_false_eq_true, true_or, or_true, false_or, or_false, or_self, and_self, true_and, and_true, false_and, and_false, if_true, if_false]; try rfl
      exact mu_iret (v0 := σ 18 k) (z := (su σ 0 (0) (0), τ)) hx hb hr hlocks hP hD hS dX8_count_87 (by rw [ho]) (by rw [ho])
  by_cases c7 : what = 4
  · -- case 4
    refine lv_tableIn (tgt := 88) hx hb dX8_count_6 (by rw [c7]; decide) (by rw [c7]; decide) (by rw [c7]; rfl) (by decide) ?_
    refine lv_aload_n hx hb dX8_count_88 rfl (lv_at hl 0 rfl) ?_
    refine va_get (D := D) (ci := 8) (v := .int (σ 22 0)) (C := RX8) (T := TX8) (N := 33) hx hb hts iX8 hown hK.1 hP 0 rfl rfl 22 (by decide) (hts _ q_701) (fun _ h9 => h9) rfl dX8_count_89 ?_
    have ho : oCount σ τ k what = (σ 22 0, su σ 0 (0) (0), τ) := by unfold oCount; simp only [eq_false c1, eq_false c2, eq_false c3, eq_false c5, eq_true c7, not_true, not_false_iff, not_true_eq_false, not_false_eq_true, true_or, or_true, false_or, or_false, or_self, and_self, true_and, and_true, false_and, and_false, if_true, if_false]; try rfl
    exact mu_iret (v0 := σ 22 0) (z := (su σ 0 (0) (0), τ)) hx hb hr hlocks hP hD hS dX8_count_92 (by rw [ho]) (by rw [ho])
  by_cases c8 : what = 5
  · -- case 5
    refine lv_tableIn (tgt := 93) hx hb dX8_count_6 (by rw [c8]; decide) (by rw [c8]; decide) (by rw [c8]; rfl) (by decide) ?_
    refine lv_aload_n hx hb dX8_count_93 rfl (lv_at hl 0 rfl) ?_
    refine va_get (D := D) (ci := 8) (v := .int (σ 26 0)) (C := RX8) (T := TX8) (N := 33) hx hb hts iX8 hown hK.1 hP 0 rfl rfl 26 (by decide) (hts _ q_705) (fun _ h9 => h9) rfl dX8_count_94 ?_
    have ho : oCount σ τ k what = (σ 26 0, su σ 0 (0) (0), τ) := by unfold oCount; simp only [eq_false c1, eq_false c2, eq_false c3, eq_false c5, eq_false c7, eq_true c8, not_true, not_false_iff, not_true_eq_false, not_false_eq_true, true_or, or_true, false_or, or_false, or_self, and_self, true_and, and_true, false_and, and_false, if_true, if_false]; try rfl
    exact mu_iret (v0 := σ 26 0) (z := (su σ 0 (0) (0), τ)) hx hb hr hlocks hP hD hS dX8_count_97 (by rw [ho]) (by rw [ho])
  refine lv_tableOut (tgt := 98) hx hb dX8_count_6 (by simp only [i_eq, Int32.reduceToInt] at c1 c2 c3 c5 c7 c8; omega) (by decide) ?_
  refine lv_bipush (v := -13) hx hb dX8_count_98 (by decide) ?_
  have ho : oCount σ τ k what = ((-13), su σ 0 (0) (0), τ) := by unfold oCount; simp only [eq_false c1, eq_false c2, eq_false c3, eq_false c5, eq_false c7, eq_false c8, not_true, not_false_iff, not_true_eq_false, not_false_eq_true, true_or, or_true, false_or, or_false, or_self, and_self, true_and, and_true, false_and, and_false, if_true, if_false]; try rfl
  exact mu_iret (v0 := (-13)) (z := (su σ 0 (0) (0), τ)) hx hb hr hlocks hP hD hS dX8_count_100 (by rw [ho]) (by rw [ho])
set_option maxHeartbeats 4000000 in
set_option maxRecDepth 100000 in
theorem m_broken (l : Launch) (D : va_G) (G : Nat → ClassId) (mo : Nat) (ad : Nat → Nat) (σ : MS) (τ : Nat → Int64) (sz : Nat) (rr : Int32) : Met l yX8_broken (ww yX8_broken cX8_broken 2 (some .int)) (rmD 1) (muP D G sz mo ad (σ, τ) [.ref mo, .int rr]) (muQi D G mo ad (muA G mo ad (σ, τ) sz) (oBroken σ τ rr).1 (oBroken σ τ rr).2) 0 0 (muA G mo ad (σ, τ) sz) := by
  refine Met.ofW (cc := cX8_broken) (maxL := 2) (ret := (some .int)) (by decide) rfl ?_
  intro p e s m args below meth c s₁ B hml hv
  obtain ⟨rfl, hsz, hP, hK, hD0⟩ := hv
  have hx := B.exec
  have hb := B.bytes
  have hr := B.returns
  have hts : ∀ w ∈ TT, w.before _ s = true := fun w h => atoms_spec (ws := ww yX8_broken cX8_broken 2 (some .int)) B.pre w (List.mem_cons_of_mem _ h)
  have hown : s.vm.findClass RX8 = some m.cls := findClass_of_methodNamed B.named
  have hlocks := B.notSynchronized
  subst hsz
  have hD : va_D (muA G mo ad (σ, τ) s.heap.size) (mW G mo ad σ τ) := hD0.self
  generalize hAe : muA G mo ad (σ, τ) s.heap.size = A at hD ⊢
  have hA : ∀ q : Nat, s.heap.size ≤ q → A q := fun q h => by rw [← hAe]; exact Or.inr h
  have hS : va_S A s.heap s.heap [] := va_S.rf
  have hP : va_P D vwCl (mW G mo ad σ τ) s.heap := hP
  have hl := lv_entry ([.ref mo, .int rr]) (n := 2) (Nat.le_of_ble_eq_true rfl)
  rw [lg_entry_eq]
  generalize (lg_sl ([.ref mo, .int rr]) ++ List.replicate (2 - (lg_sl ([.ref mo, .int rr])).length) Slot.unset).toArray = ls at hl ⊢
  have hl : lv_has ls 2 [(0, .ref mo), (1, .int rr)] := hl
  refine lv_aload_n hx hb dX8_broken_0 rfl (lv_at hl 0 rfl) ?_
  refine lv_iconst (v := 0) hx hb dX8_broken_1 (by decide) ?_
  refine va_put (D := D) (ci := 8) (v := .int 0) (ty := .int) (C := RX8) (T := TX8) (N := 33) hx hb hts iX8 tyX8 tyX8_ok nmX8 hown hK.1 hP hD hS 0 rfl rfl 0 (by decide) (hts _ q_679) (fun _ h9 => h9) rfl (by decide +kernel) rfl rfl (Nat.le_of_ble_eq_true rfl) dX8_broken_2 (fun H locs hP hD hS => ?_)
  have hP : va_P D vwCl (mW G mo ad (su σ 0 (0) (0)) (τ)) H := hP
  have hD : va_D A (mW G mo ad (su σ 0 (0) (0)) (τ)) := hD
  refine lv_iload_n hx hb dX8_broken_5 rfl (lv_at hl 1 rfl) ?_
  refine lv_iconst (v := 1) hx hb dX8_broken_6 (by decide) ?_
  refine lv_bipush (v := 25) hx hb dX8_broken_7 (by decide) ?_
  refine ro_Si (D := D) (G := G) (As := [.int rr, .int 1, .int 25]) (rest := []) ⟨hx, hb, hml, hown, hts⟩ (m_in l D G _ rr 1 25) gS_X8_X8_in hdS_X8_in ⟨Nat.le_of_ble_eq_true rfl, Nat.le_of_ble_eq_true rfl⟩ hK rfl hl.1 rfl (Nat.le_of_ble_eq_true rfl) dX8_broken_9 ⟨Nat.le_of_ble_eq_true rfl, Nat.le_of_ble_eq_true rfl⟩ (fun r1 e_r1 => ?_)
  subst e_r1
  refine W.eq (g2 := F0 m 12 ls [.int (bI (1 ≤ rr ∧ rr ≤ 25))]) rfl ?_
  refine lv_if_eq (tgt := 24) hx hb dX8_broken_12 (by decide) (fun c2 => ?_) (fun c2 => ?_)
  · -- 12 taken
    have c2 := bI_0 c2
    refine lv_bipush (v := -13) hx hb dX8_broken_24 (by decide) ?_
    have ho : oBroken σ τ rr = ((-13), su σ 0 (0) (0), τ) := by unfold oBroken; simp only [eq_false c2, not_true, not_false_iff, not_true_eq_false, not_false_eq_true, true_or, or_true, false_or, or_false, or_self, and_self, true_and, and_true, false_and, and_false, if_true, if_false]; try rfl
    exact mu_iret (v0 := (-13)) (z := (su σ 0 (0) (0), τ)) hx hb hr hlocks hP hD hS dX8_broken_26 (by rw [ho]) (by rw [ho])
  · -- 12 not
    have c2 := bI_1 c2
    obtain ⟨j, h_j, rfl⟩ := iN_ex c2
    refine lv_aload_n hx hb dX8_broken_15 rfl (lv_at hl 0 rfl) ?_
    refine va_get (D := D) (ci := 8) (v := .ref ((ad 27))) (C := RX8) (T := TX8) (N := 33) hx hb hts iX8 hown hK.1 hP 0 rfl rfl 27 (by decide) (hts _ q_706) (fun _ h9 => h9) rfl dX8_broken_16 ?_
    refine lv_iload_n hx hb dX8_broken_19 rfl (lv_at hl 1 rfl) ?_
    refine iald_n (f := σ 27) hx hb hK.1 hP 21 0 rfl rfl (j) rfl (by omega) (by decide) dX8_broken_20 ?_
    refine lv_goto (tgt := 26) hx hb dX8_broken_21 (by decide) ?_
    have ho : oBroken σ τ (nI j) = (σ 27 j, su σ 0 (0) (0), τ) := by unfold oBroken; simp only [eq_true c2, nI_clamp (show j < 2 ^ 31 by omega), not_true, not_false_iff, not_true_eq_false, not_false_eq_true, true_or, or_true, false_or, or_false, or_self, and_self, true_and, and_true, false_and, and_false, if_true, if_false]; try rfl
    exact mu_iret (v0 := σ 27 j) (z := (su σ 0 (0) (0), τ)) hx hb hr hlocks hP hD hS dX8_broken_26 (by rw [ho]) (by rw [ho])
end
section
/-- a face is put behind the others -/
theorem okFa_put {σ : MS} {j f : Nat} (h : okFa σ j) (hf : f < 12) (h3 : ¬ (σ 5 j).toNatClampNeg = 3) {i : Nat} (hi : okFa σ i) : okC (upd (σ 5) j (nI ((σ 5 j).toNatClampNeg + 1)) i) ∧ ∀ k, k < (upd (σ 5) j (nI ((σ 5 j).toNatClampNeg + 1)) i).toNatClampNeg → okT (upd (σ 4) (3 * j + (σ 5 j).toNatClampNeg) (nI f) (3 * i + k)) := by
  obtain ⟨⟨h1, h2⟩, h4⟩ := h
  obtain ⟨⟨g1, g2⟩, g4⟩ := hi
  by_cases e : i = j
  · subst e
    rw [pk_us]
    have hc : (nI ((σ 5 i).toNatClampNeg + 1)).toNatClampNeg = (σ 5 i).toNatClampNeg + 1 := nI_clamp (by omega)
    refine ⟨⟨by rw [hc], by rw [hc]; omega⟩, fun k hk => ?_⟩
    rw [hc] at hk
    by_cases e2 : k = (σ 5 i).toNatClampNeg
    · rw [e2, pk_us]; exact okT_n rfl hf
    · rw [pk_un (by omega)]; exact h4 k (by omega)
  · rw [pk_un e]
    refine ⟨⟨g1, g2⟩, fun k hk => ?_⟩
    rw [pk_un (by omega)]
    exact g4 k hk

theorem dX8_face_0 : decode cX8_face 0 = .ok (.aload_n 0, 1) := by decide +kernel
theorem dX8_face_1 : decode cX8_face 1 = .ok (.iconst 0, 1) := by decide +kernel
theorem dX8_face_2 : decode cX8_face 2 = .ok (.putfield 90, 3) := by decide +kernel
theorem dX8_face_5 : decode cX8_face 5 = .ok (.aload_n 0, 1) := by decide +kernel
theorem dX8_face_6 : decode cX8_face 6 = .ok (.iload_n 1, 1) := by decide +kernel
theorem dX8_face_7 : decode cX8_face 7 = .ok (.invokevirtual 104, 3) := by decide +kernel
theorem dX8_face_10 : decode cX8_face 10 = .ok (.ifCond .eq 19, 3) := by decide +kernel
theorem dX8_face_29 : decode cX8_face 29 = .ok (.bipush (-11), 2) := by decide +kernel
theorem dX8_face_31 : decode cX8_face 31 = .ok (.ireturn, 1) := by decide +kernel
theorem dX8_face_13 : decode cX8_face 13 = .ok (.aload_n 0, 1) := by decide +kernel
theorem dX8_face_14 : decode cX8_face 14 = .ok (.iload_n 2, 1) := by decide +kernel
theorem dX8_face_15 : decode cX8_face 15 = .ok (.invokevirtual 104, 3) := by decide +kernel
theorem dX8_face_18 : decode cX8_face 18 = .ok (.ifCond .eq 11, 3) := by decide +kernel
theorem dX8_face_21 : decode cX8_face 21 = .ok (.aload_n 0, 1) := by decide +kernel
theorem dX8_face_22 : decode cX8_face 22 = .ok (.iload_n 2, 1) := by decide +kernel
theorem dX8_face_23 : decode cX8_face 23 = .ok (.invokevirtual 116, 3) := by decide +kernel
theorem dX8_face_26 : decode cX8_face 26 = .ok (.ifCond .ne 6, 3) := by decide +kernel
theorem dX8_face_32 : decode cX8_face 32 = .ok (.iload_n 2, 1) := by decide +kernel
theorem dX8_face_33 : decode cX8_face 33 = .ok (.iload_n 1, 1) := by decide +kernel
theorem dX8_face_34 : decode cX8_face 34 = .ok (.if_icmp .lt 6, 3) := by decide +kernel
theorem dX8_face_40 : decode cX8_face 40 = .ok (.iconst 0, 1) := by decide +kernel
theorem dX8_face_41 : decode cX8_face 41 = .ok (.istore_n 3, 1) := by decide +kernel
theorem dX8_face_42 : decode cX8_face 42 = .ok (.iload_n 3, 1) := by decide +kernel
theorem dX8_face_43 : decode cX8_face 43 = .ok (.aload_n 0, 1) := by decide +kernel
theorem dX8_face_44 : decode cX8_face 44 = .ok (.getfield 19, 3) := by decide +kernel
theorem dX8_face_47 : decode cX8_face 47 = .ok (.iload_n 1, 1) := by decide +kernel
theorem dX8_face_48 : decode cX8_face 48 = .ok (.iaload, 1) := by decide +kernel
theorem dX8_face_49 : decode cX8_face 49 = .ok (.if_icmp .ge 26, 3) := by decide +kernel
theorem dX8_face_75 : decode cX8_face 75 = .ok (.aload_n 0, 1) := by decide +kernel
theorem dX8_face_76 : decode cX8_face 76 = .ok (.getfield 119, 3) := by decide +kernel
theorem dX8_face_79 : decode cX8_face 79 = .ok (.ifCond .gt 10, 3) := by decide +kernel
theorem dX8_face_89 : decode cX8_face 89 = .ok (.bipush (-14), 2) := by decide +kernel
theorem dX8_face_91 : decode cX8_face 91 = .ok (.ireturn, 1) := by decide +kernel
theorem dX8_face_82 : decode cX8_face 82 = .ok (.aload_n 0, 1) := by decide +kernel
theorem dX8_face_83 : decode cX8_face 83 = .ok (.getfield 122, 3) := by decide +kernel
theorem dX8_face_86 : decode cX8_face 86 = .ok (.ifCond .eq 6, 3) := by decide +kernel
theorem dX8_face_92 : decode cX8_face 92 = .ok (.aload_n 0, 1) := by decide +kernel
theorem dX8_face_93 : decode cX8_face 93 = .ok (.getfield 19, 3) := by decide +kernel
theorem dX8_face_96 : decode cX8_face 96 = .ok (.iload_n 1, 1) := by decide +kernel
theorem dX8_face_97 : decode cX8_face 97 = .ok (.iaload, 1) := by decide +kernel
theorem dX8_face_98 : decode cX8_face 98 = .ok (.iconst 3, 1) := by decide +kernel
theorem dX8_face_99 : decode cX8_face 99 = .ok (.if_icmp .ne 6, 3) := by decide +kernel
theorem dX8_face_105 : decode cX8_face 105 = .ok (.aload_n 0, 1) := by decide +kernel
theorem dX8_face_106 : decode cX8_face 106 = .ok (.getfield 16, 3) := by decide +kernel
theorem dX8_face_109 : decode cX8_face 109 = .ok (.iconst 3, 1) := by decide +kernel
theorem dX8_face_110 : decode cX8_face 110 = .ok (.iload_n 1, 1) := by decide +kernel
theorem dX8_face_111 : decode cX8_face 111 = .ok (.imul, 1) := by decide +kernel
theorem dX8_face_112 : decode cX8_face 112 = .ok (.aload_n 0, 1) := by decide +kernel
theorem dX8_face_113 : decode cX8_face 113 = .ok (.getfield 19, 3) := by decide +kernel
theorem dX8_face_116 : decode cX8_face 116 = .ok (.iload_n 1, 1) := by decide +kernel
theorem dX8_face_117 : decode cX8_face 117 = .ok (.iaload, 1) := by decide +kernel
theorem dX8_face_118 : decode cX8_face 118 = .ok (.iadd, 1) := by decide +kernel
theorem dX8_face_119 : decode cX8_face 119 = .ok (.iload_n 2, 1) := by decide +kernel
theorem dX8_face_120 : decode cX8_face 120 = .ok (.iastore, 1) := by decide +kernel
theorem dX8_face_121 : decode cX8_face 121 = .ok (.aload_n 0, 1) := by decide +kernel
theorem dX8_face_122 : decode cX8_face 122 = .ok (.getfield 19, 3) := by decide +kernel
theorem dX8_face_125 : decode cX8_face 125 = .ok (.iload_n 1, 1) := by decide +kernel
theorem dX8_face_126 : decode cX8_face 126 = .ok (.dup2, 1) := by decide +kernel
theorem dX8_face_127 : decode cX8_face 127 = .ok (.iaload, 1) := by decide +kernel
theorem dX8_face_128 : decode cX8_face 128 = .ok (.iconst 1, 1) := by decide +kernel
theorem dX8_face_129 : decode cX8_face 129 = .ok (.iadd, 1) := by decide +kernel
theorem dX8_face_130 : decode cX8_face 130 = .ok (.iastore, 1) := by decide +kernel
theorem dX8_face_131 : decode cX8_face 131 = .ok (.iload_n 1, 1) := by decide +kernel
theorem dX8_face_132 : decode cX8_face 132 = .ok (.istore_n 3, 1) := by decide +kernel
theorem dX8_face_133 : decode cX8_face 133 = .ok (.iload_n 3, 1) := by decide +kernel
theorem dX8_face_134 : decode cX8_face 134 = .ok (.aload_n 0, 1) := by decide +kernel
theorem dX8_face_135 : decode cX8_face 135 = .ok (.getfield 94, 3) := by decide +kernel
theorem dX8_face_138 : decode cX8_face 138 = .ok (.if_icmp .ge 14, 3) := by decide +kernel
theorem dX8_face_152 : decode cX8_face 152 = .ok (.aload_n 0, 1) := by decide +kernel
theorem dX8_face_153 : decode cX8_face 153 = .ok (.getfield 19, 3) := by decide +kernel
theorem dX8_face_156 : decode cX8_face 156 = .ok (.iload_n 1, 1) := by decide +kernel
theorem dX8_face_157 : decode cX8_face 157 = .ok (.iaload, 1) := by decide +kernel
theorem dX8_face_158 : decode cX8_face 158 = .ok (.ireturn, 1) := by decide +kernel
theorem dX8_face_141 : decode cX8_face 141 = .ok (.aload_n 0, 1) := by decide +kernel
theorem dX8_face_142 : decode cX8_face 142 = .ok (.iload_n 3, 1) := by decide +kernel
theorem dX8_face_143 : decode cX8_face 143 = .ok (.invokevirtual 108, 3) := by decide +kernel
theorem dX8_face_146 : decode cX8_face 146 = .ok (.iinc 3 1, 3) := by decide +kernel
theorem dX8_face_149 : decode cX8_face 149 = .ok (.goto (-16), 3) := by decide +kernel
theorem dX8_face_102 : decode cX8_face 102 = .ok (.bipush (-15), 2) := by decide +kernel
theorem dX8_face_104 : decode cX8_face 104 = .ok (.ireturn, 1) := by decide +kernel
theorem dX8_face_52 : decode cX8_face 52 = .ok (.aload_n 0, 1) := by decide +kernel
theorem dX8_face_53 : decode cX8_face 53 = .ok (.getfield 16, 3) := by decide +kernel
theorem dX8_face_56 : decode cX8_face 56 = .ok (.iconst 3, 1) := by decide +kernel
theorem dX8_face_57 : decode cX8_face 57 = .ok (.iload_n 1, 1) := by decide +kernel
theorem dX8_face_58 : decode cX8_face 58 = .ok (.imul, 1) := by decide +kernel
theorem dX8_face_59 : decode cX8_face 59 = .ok (.iload_n 3, 1) := by decide +kernel
theorem dX8_face_60 : decode cX8_face 60 = .ok (.iadd, 1) := by decide +kernel
theorem dX8_face_61 : decode cX8_face 61 = .ok (.iaload, 1) := by decide +kernel
theorem dX8_face_62 : decode cX8_face 62 = .ok (.iload_n 2, 1) := by decide +kernel
theorem dX8_face_63 : decode cX8_face 63 = .ok (.if_icmp .ne 6, 3) := by decide +kernel
theorem dX8_face_69 : decode cX8_face 69 = .ok (.iinc 3 1, 3) := by decide +kernel
theorem dX8_face_72 : decode cX8_face 72 = .ok (.goto (-30), 3) := by decide +kernel
theorem dX8_face_66 : decode cX8_face 66 = .ok (.bipush (-14), 2) := by decide +kernel
theorem dX8_face_68 : decode cX8_face 68 = .ok (.ireturn, 1) := by decide +kernel
theorem dX8_face_37 : decode cX8_face 37 = .ok (.bipush (-13), 2) := by decide +kernel
theorem dX8_face_39 : decode cX8_face 39 = .ok (.ireturn, 1) := by decide +kernel
theorem dX8_argument_0 : decode cX8_argument 0 = .ok (.aload_n 0, 1) := by decide +kernel
theorem dX8_argument_1 : decode cX8_argument 1 = .ok (.iconst 0, 1) := by decide +kernel
theorem dX8_argument_2 : decode cX8_argument 2 = .ok (.putfield 90, 3) := by decide +kernel
theorem dX8_argument_5 : decode cX8_argument 5 = .ok (.aload_n 0, 1) := by decide +kernel
theorem dX8_argument_6 : decode cX8_argument 6 = .ok (.iload_n 1, 1) := by decide +kernel
theorem dX8_argument_7 : decode cX8_argument 7 = .ok (.invokevirtual 130, 3) := by decide +kernel
theorem dX8_argument_10 : decode cX8_argument 10 = .ok (.ifCond .eq 6, 3) := by decide +kernel
theorem dX8_argument_16 : decode cX8_argument 16 = .ok (.iload_n 1, 1) := by decide +kernel
theorem dX8_argument_17 : decode cX8_argument 17 = .ok (.iconst 1, 1) := by decide +kernel
theorem dX8_argument_18 : decode cX8_argument 18 = .ok (.if_icmp .lt 22, 3) := by decide +kernel
theorem dX8_argument_40 : decode cX8_argument 40 = .ok (.bipush (-13), 2) := by decide +kernel
theorem dX8_argument_42 : decode cX8_argument 42 = .ok (.ireturn, 1) := by decide +kernel
theorem dX8_argument_21 : decode cX8_argument 21 = .ok (.iload_n 2, 1) := by decide +kernel
theorem dX8_argument_22 : decode cX8_argument 22 = .ok (.iconst 0, 1) := by decide +kernel
theorem dX8_argument_23 : decode cX8_argument 23 = .ok (.iconst 3, 1) := by decide +kernel
theorem dX8_argument_24 : decode cX8_argument 24 = .ok (.invokestatic 97, 3) := by decide +kernel
theorem dX8_argument_27 : decode cX8_argument 27 = .ok (.ifCond .eq 13, 3) := by decide +kernel
theorem dX8_argument_30 : decode cX8_argument 30 = .ok (.iload_n 1, 1) := by decide +kernel
theorem dX8_argument_31 : decode cX8_argument 31 = .ok (.bipush 9, 2) := by decide +kernel
theorem dX8_argument_33 : decode cX8_argument 33 = .ok (.if_icmp .ne 10, 3) := by decide +kernel
theorem dX8_argument_43 : decode cX8_argument 43 = .ok (.aload_n 0, 1) := by decide +kernel
theorem dX8_argument_44 : decode cX8_argument 44 = .ok (.getfield 196, 3) := by decide +kernel
theorem dX8_argument_47 : decode cX8_argument 47 = .ok (.iconst 5, 1) := by decide +kernel
theorem dX8_argument_48 : decode cX8_argument 48 = .ok (.if_icmp .ne 6, 3) := by decide +kernel
theorem dX8_argument_54 : decode cX8_argument 54 = .ok (.aload_n 0, 1) := by decide +kernel
theorem dX8_argument_55 : decode cX8_argument 55 = .ok (.getfield 66, 3) := by decide +kernel
theorem dX8_argument_58 : decode cX8_argument 58 = .ok (.aload_n 0, 1) := by decide +kernel
theorem dX8_argument_59 : decode cX8_argument 59 = .ok (.getfield 196, 3) := by decide +kernel
theorem dX8_argument_62 : decode cX8_argument 62 = .ok (.iload_n 1, 1) := by decide +kernel
theorem dX8_argument_63 : decode cX8_argument 63 = .ok (.iastore, 1) := by decide +kernel
theorem dX8_argument_64 : decode cX8_argument 64 = .ok (.aload_n 0, 1) := by decide +kernel
theorem dX8_argument_65 : decode cX8_argument 65 = .ok (.getfield 69, 3) := by decide +kernel
theorem dX8_argument_68 : decode cX8_argument 68 = .ok (.aload_n 0, 1) := by decide +kernel
theorem dX8_argument_69 : decode cX8_argument 69 = .ok (.getfield 196, 3) := by decide +kernel
theorem dX8_argument_72 : decode cX8_argument 72 = .ok (.iload_n 2, 1) := by decide +kernel
theorem dX8_argument_73 : decode cX8_argument 73 = .ok (.iastore, 1) := by decide +kernel
theorem dX8_argument_74 : decode cX8_argument 74 = .ok (.aload_n 0, 1) := by decide +kernel
theorem dX8_argument_75 : decode cX8_argument 75 = .ok (.dup, 1) := by decide +kernel
theorem dX8_argument_76 : decode cX8_argument 76 = .ok (.getfield 196, 3) := by decide +kernel
theorem dX8_argument_79 : decode cX8_argument 79 = .ok (.iconst 1, 1) := by decide +kernel
theorem dX8_argument_80 : decode cX8_argument 80 = .ok (.iadd, 1) := by decide +kernel
theorem dX8_argument_81 : decode cX8_argument 81 = .ok (.putfield 196, 3) := by decide +kernel
theorem dX8_argument_84 : decode cX8_argument 84 = .ok (.aload_n 0, 1) := by decide +kernel
theorem dX8_argument_85 : decode cX8_argument 85 = .ok (.getfield 196, 3) := by decide +kernel
theorem dX8_argument_88 : decode cX8_argument 88 = .ok (.ireturn, 1) := by decide +kernel
theorem dX8_argument_51 : decode cX8_argument 51 = .ok (.bipush (-15), 2) := by decide +kernel
theorem dX8_argument_53 : decode cX8_argument 53 = .ok (.ireturn, 1) := by decide +kernel
theorem dX8_argument_36 : decode cX8_argument 36 = .ok (.iload_n 2, 1) := by decide +kernel
theorem dX8_argument_37 : decode cX8_argument 37 = .ok (.ifCond .le 6, 3) := by decide +kernel
theorem dX8_argument_13 : decode cX8_argument 13 = .ok (.bipush (-11), 2) := by decide +kernel
theorem dX8_argument_15 : decode cX8_argument 15 = .ok (.ireturn, 1) := by decide +kernel
theorem dX8_parameter_0 : decode cX8_parameter 0 = .ok (.aload_n 0, 1) := by decide +kernel
theorem dX8_parameter_1 : decode cX8_parameter 1 = .ok (.iconst 0, 1) := by decide +kernel
theorem dX8_parameter_2 : decode cX8_parameter 2 = .ok (.putfield 90, 3) := by decide +kernel
theorem dX8_parameter_5 : decode cX8_parameter 5 = .ok (.aload_n 0, 1) := by decide +kernel
theorem dX8_parameter_6 : decode cX8_parameter 6 = .ok (.getfield 122, 3) := by decide +kernel
theorem dX8_parameter_9 : decode cX8_parameter 9 = .ok (.ifCond .ne 6, 3) := by decide +kernel
theorem dX8_parameter_15 : decode cX8_parameter 15 = .ok (.aload_n 0, 1) := by decide +kernel
theorem dX8_parameter_16 : decode cX8_parameter 16 = .ok (.iload_n 1, 1) := by decide +kernel
theorem dX8_parameter_17 : decode cX8_parameter 17 = .ok (.invokevirtual 130, 3) := by decide +kernel
theorem dX8_parameter_20 : decode cX8_parameter 20 = .ok (.ifCond .eq 6, 3) := by decide +kernel
theorem dX8_parameter_26 : decode cX8_parameter 26 = .ok (.iload_n 1, 1) := by decide +kernel
theorem dX8_parameter_27 : decode cX8_parameter 27 = .ok (.ifCond .lt 26, 3) := by decide +kernel
theorem dX8_parameter_53 : decode cX8_parameter 53 = .ok (.bipush (-13), 2) := by decide +kernel
theorem dX8_parameter_55 : decode cX8_parameter 55 = .ok (.ireturn, 1) := by decide +kernel
theorem dX8_parameter_30 : decode cX8_parameter 30 = .ok (.iload_n 1, 1) := by decide +kernel
theorem dX8_parameter_31 : decode cX8_parameter 31 = .ok (.bipush 9, 2) := by decide +kernel
theorem dX8_parameter_33 : decode cX8_parameter 33 = .ok (.if_icmp .eq 20, 3) := by decide +kernel
theorem dX8_parameter_36 : decode cX8_parameter 36 = .ok (.iload_n 2, 1) := by decide +kernel
theorem dX8_parameter_37 : decode cX8_parameter 37 = .ok (.iconst 0, 1) := by decide +kernel
theorem dX8_parameter_38 : decode cX8_parameter 38 = .ok (.iconst 3, 1) := by decide +kernel
theorem dX8_parameter_39 : decode cX8_parameter 39 = .ok (.invokestatic 97, 3) := by decide +kernel
theorem dX8_parameter_42 : decode cX8_parameter 42 = .ok (.ifCond .eq 11, 3) := by decide +kernel
theorem dX8_parameter_45 : decode cX8_parameter 45 = .ok (.iload_n 1, 1) := by decide +kernel
theorem dX8_parameter_46 : decode cX8_parameter 46 = .ok (.ifCond .ne 10, 3) := by decide +kernel
theorem dX8_parameter_56 : decode cX8_parameter 56 = .ok (.aload_n 0, 1) := by decide +kernel
theorem dX8_parameter_57 : decode cX8_parameter 57 = .ok (.getfield 57, 3) := by decide +kernel
theorem dX8_parameter_60 : decode cX8_parameter 60 = .ok (.aload_n 0, 1) := by decide +kernel
theorem dX8_parameter_61 : decode cX8_parameter 61 = .ok (.getfield 119, 3) := by decide +kernel
theorem dX8_parameter_64 : decode cX8_parameter 64 = .ok (.iaload, 1) := by decide +kernel
theorem dX8_parameter_65 : decode cX8_parameter 65 = .ok (.iconst 5, 1) := by decide +kernel
theorem dX8_parameter_66 : decode cX8_parameter 66 = .ok (.if_icmp .ne 6, 3) := by decide +kernel
theorem dX8_parameter_72 : decode cX8_parameter 72 = .ok (.iload_n 1, 1) := by decide +kernel
theorem dX8_parameter_73 : decode cX8_parameter 73 = .ok (.ifCond .ne 10, 3) := by decide +kernel
theorem dX8_parameter_83 : decode cX8_parameter 83 = .ok (.aload_n 0, 1) := by decide +kernel
theorem dX8_parameter_84 : decode cX8_parameter 84 = .ok (.getfield 54, 3) := by decide +kernel
theorem dX8_parameter_87 : decode cX8_parameter 87 = .ok (.aload_n 0, 1) := by decide +kernel
theorem dX8_parameter_88 : decode cX8_parameter 88 = .ok (.getfield 119, 3) := by decide +kernel
theorem dX8_parameter_91 : decode cX8_parameter 91 = .ok (.baload, 1) := by decide +kernel
theorem dX8_parameter_92 : decode cX8_parameter 92 = .ok (.ifCond .eq 10, 3) := by decide +kernel
theorem dX8_parameter_102 : decode cX8_parameter 102 = .ok (.iload_n 3, 1) := by decide +kernel
theorem dX8_parameter_103 : decode cX8_parameter 103 = .ok (.ifCond .eq 14, 3) := by decide +kernel
theorem dX8_parameter_117 : decode cX8_parameter 117 = .ok (.iconst 5, 1) := by decide +kernel
theorem dX8_parameter_118 : decode cX8_parameter 118 = .ok (.aload_n 0, 1) := by decide +kernel
theorem dX8_parameter_119 : decode cX8_parameter 119 = .ok (.getfield 119, 3) := by decide +kernel
theorem dX8_parameter_122 : decode cX8_parameter 122 = .ok (.imul, 1) := by decide +kernel
theorem dX8_parameter_123 : decode cX8_parameter 123 = .ok (.aload_n 0, 1) := by decide +kernel
theorem dX8_parameter_124 : decode cX8_parameter 124 = .ok (.getfield 57, 3) := by decide +kernel
theorem dX8_parameter_127 : decode cX8_parameter 127 = .ok (.aload_n 0, 1) := by decide +kernel
theorem dX8_parameter_128 : decode cX8_parameter 128 = .ok (.getfield 119, 3) := by decide +kernel
theorem dX8_parameter_131 : decode cX8_parameter 131 = .ok (.iaload, 1) := by decide +kernel
theorem dX8_parameter_132 : decode cX8_parameter 132 = .ok (.iadd, 1) := by decide +kernel
theorem dX8_parameter_133 : decode cX8_parameter 133 = .ok (.istore 4, 2) := by decide +kernel
theorem dX8_parameter_135 : decode cX8_parameter 135 = .ok (.aload_n 0, 1) := by decide +kernel
theorem dX8_parameter_136 : decode cX8_parameter 136 = .ok (.getfield 60, 3) := by decide +kernel
theorem dX8_parameter_139 : decode cX8_parameter 139 = .ok (.iload 4, 2) := by decide +kernel
theorem dX8_parameter_141 : decode cX8_parameter 141 = .ok (.iload_n 1, 1) := by decide +kernel
theorem dX8_parameter_142 : decode cX8_parameter 142 = .ok (.iastore, 1) := by decide +kernel
theorem dX8_parameter_143 : decode cX8_parameter 143 = .ok (.aload_n 0, 1) := by decide +kernel
theorem dX8_parameter_144 : decode cX8_parameter 144 = .ok (.getfield 63, 3) := by decide +kernel
theorem dX8_parameter_147 : decode cX8_parameter 147 = .ok (.iload 4, 2) := by decide +kernel
theorem dX8_parameter_149 : decode cX8_parameter 149 = .ok (.iload_n 2, 1) := by decide +kernel
theorem dX8_parameter_150 : decode cX8_parameter 150 = .ok (.iastore, 1) := by decide +kernel
theorem dX8_parameter_151 : decode cX8_parameter 151 = .ok (.aload_n 0, 1) := by decide +kernel
theorem dX8_parameter_152 : decode cX8_parameter 152 = .ok (.getfield 54, 3) := by decide +kernel
theorem dX8_parameter_155 : decode cX8_parameter 155 = .ok (.aload_n 0, 1) := by decide +kernel
theorem dX8_parameter_156 : decode cX8_parameter 156 = .ok (.getfield 119, 3) := by decide +kernel
theorem dX8_parameter_159 : decode cX8_parameter 159 = .ok (.iload_n 3, 1) := by decide +kernel
theorem dX8_parameter_160 : decode cX8_parameter 160 = .ok (.bastore, 1) := by decide +kernel
theorem dX8_parameter_161 : decode cX8_parameter 161 = .ok (.aload_n 0, 1) := by decide +kernel
theorem dX8_parameter_162 : decode cX8_parameter 162 = .ok (.getfield 57, 3) := by decide +kernel
theorem dX8_parameter_165 : decode cX8_parameter 165 = .ok (.aload_n 0, 1) := by decide +kernel
theorem dX8_parameter_166 : decode cX8_parameter 166 = .ok (.getfield 119, 3) := by decide +kernel
theorem dX8_parameter_169 : decode cX8_parameter 169 = .ok (.dup2, 1) := by decide +kernel
theorem dX8_parameter_170 : decode cX8_parameter 170 = .ok (.iaload, 1) := by decide +kernel
theorem dX8_parameter_171 : decode cX8_parameter 171 = .ok (.iconst 1, 1) := by decide +kernel
theorem dX8_parameter_172 : decode cX8_parameter 172 = .ok (.iadd, 1) := by decide +kernel
theorem dX8_parameter_173 : decode cX8_parameter 173 = .ok (.iastore, 1) := by decide +kernel
theorem dX8_parameter_174 : decode cX8_parameter 174 = .ok (.aload_n 0, 1) := by decide +kernel
theorem dX8_parameter_175 : decode cX8_parameter 175 = .ok (.getfield 57, 3) := by decide +kernel
theorem dX8_parameter_178 : decode cX8_parameter 178 = .ok (.aload_n 0, 1) := by decide +kernel
theorem dX8_parameter_179 : decode cX8_parameter 179 = .ok (.getfield 119, 3) := by decide +kernel
theorem dX8_parameter_182 : decode cX8_parameter 182 = .ok (.iaload, 1) := by decide +kernel
theorem dX8_parameter_183 : decode cX8_parameter 183 = .ok (.ireturn, 1) := by decide +kernel
theorem dX8_parameter_106 : decode cX8_parameter 106 = .ok (.iload_n 2, 1) := by decide +kernel
theorem dX8_parameter_107 : decode cX8_parameter 107 = .ok (.ifCond .ne 10, 3) := by decide +kernel
theorem dX8_parameter_110 : decode cX8_parameter 110 = .ok (.aload_n 0, 1) := by decide +kernel
theorem dX8_parameter_111 : decode cX8_parameter 111 = .ok (.bipush 20, 2) := by decide +kernel
theorem dX8_parameter_113 : decode cX8_parameter 113 = .ok (.invokevirtual 141, 3) := by decide +kernel
theorem dX8_parameter_116 : decode cX8_parameter 116 = .ok (.ireturn, 1) := by decide +kernel
theorem dX8_parameter_95 : decode cX8_parameter 95 = .ok (.aload_n 0, 1) := by decide +kernel
theorem dX8_parameter_96 : decode cX8_parameter 96 = .ok (.bipush 19, 2) := by decide +kernel
theorem dX8_parameter_98 : decode cX8_parameter 98 = .ok (.invokevirtual 141, 3) := by decide +kernel
theorem dX8_parameter_101 : decode cX8_parameter 101 = .ok (.ireturn, 1) := by decide +kernel
theorem dX8_parameter_69 : decode cX8_parameter 69 = .ok (.bipush (-15), 2) := by decide +kernel
theorem dX8_parameter_71 : decode cX8_parameter 71 = .ok (.ireturn, 1) := by decide +kernel
theorem dX8_parameter_49 : decode cX8_parameter 49 = .ok (.iload_n 2, 1) := by decide +kernel
theorem dX8_parameter_50 : decode cX8_parameter 50 = .ok (.ifCond .le 6, 3) := by decide +kernel
theorem dX8_parameter_76 : decode cX8_parameter 76 = .ok (.aload_n 0, 1) := by decide +kernel
theorem dX8_parameter_77 : decode cX8_parameter 77 = .ok (.bipush 18, 2) := by decide +kernel
theorem dX8_parameter_79 : decode cX8_parameter 79 = .ok (.invokevirtual 141, 3) := by decide +kernel
theorem dX8_parameter_82 : decode cX8_parameter 82 = .ok (.ireturn, 1) := by decide +kernel
theorem dX8_parameter_23 : decode cX8_parameter 23 = .ok (.bipush (-11), 2) := by decide +kernel
theorem dX8_parameter_25 : decode cX8_parameter 25 = .ok (.ireturn, 1) := by decide +kernel
theorem dX8_parameter_12 : decode cX8_parameter 12 = .ok (.bipush (-14), 2) := by decide +kernel
theorem dX8_parameter_14 : decode cX8_parameter 14 = .ok (.ireturn, 1) := by decide +kernel
theorem dX8_parameterOf_0 : decode cX8_parameterOf 0 = .ok (.aload_n 0, 1) := by decide +kernel
theorem dX8_parameterOf_1 : decode cX8_parameterOf 1 = .ok (.aload_n 0, 1) := by decide +kernel
theorem dX8_parameterOf_2 : decode cX8_parameterOf 2 = .ok (.iload_n 1, 1) := by decide +kernel
theorem dX8_parameterOf_3 : decode cX8_parameterOf 3 = .ok (.invokevirtual 156, 3) := by decide +kernel
theorem dX8_parameterOf_6 : decode cX8_parameterOf 6 = .ok (.ifCond .ne 7, 3) := by decide +kernel
theorem dX8_parameterOf_13 : decode cX8_parameterOf 13 = .ok (.aload_n 0, 1) := by decide +kernel
theorem dX8_parameterOf_14 : decode cX8_parameterOf 14 = .ok (.getfield 26, 3) := by decide +kernel
theorem dX8_parameterOf_17 : decode cX8_parameterOf 17 = .ok (.iload_n 1, 1) := by decide +kernel
theorem dX8_parameterOf_18 : decode cX8_parameterOf 18 = .ok (.baload, 1) := by decide +kernel
theorem dX8_parameterOf_19 : decode cX8_parameterOf 19 = .ok (.ifCond .ne 7, 3) := by decide +kernel
theorem dX8_parameterOf_26 : decode cX8_parameterOf 26 = .ok (.iload_n 2, 1) := by decide +kernel
theorem dX8_parameterOf_27 : decode cX8_parameterOf 27 = .ok (.iconst 0, 1) := by decide +kernel
theorem dX8_parameterOf_28 : decode cX8_parameterOf 28 = .ok (.aload_n 0, 1) := by decide +kernel
theorem dX8_parameterOf_29 : decode cX8_parameterOf 29 = .ok (.getfield 57, 3) := by decide +kernel
theorem dX8_parameterOf_32 : decode cX8_parameterOf 32 = .ok (.iload_n 1, 1) := by decide +kernel
theorem dX8_parameterOf_33 : decode cX8_parameterOf 33 = .ok (.iaload, 1) := by decide +kernel
theorem dX8_parameterOf_34 : decode cX8_parameterOf 34 = .ok (.iconst 1, 1) := by decide +kernel
theorem dX8_parameterOf_35 : decode cX8_parameterOf 35 = .ok (.isub, 1) := by decide +kernel
theorem dX8_parameterOf_36 : decode cX8_parameterOf 36 = .ok (.invokestatic 97, 3) := by decide +kernel
theorem dX8_parameterOf_39 : decode cX8_parameterOf 39 = .ok (.ifCond .ne 7, 3) := by decide +kernel
theorem dX8_parameterOf_46 : decode cX8_parameterOf 46 = .ok (.iconst 0, 1) := by decide +kernel
theorem dX8_parameterOf_47 : decode cX8_parameterOf 47 = .ok (.putfield 90, 3) := by decide +kernel
theorem dX8_parameterOf_50 : decode cX8_parameterOf 50 = .ok (.aload_n 0, 1) := by decide +kernel
theorem dX8_parameterOf_51 : decode cX8_parameterOf 51 = .ok (.getfield 90, 3) := by decide +kernel
theorem dX8_parameterOf_54 : decode cX8_parameterOf 54 = .ok (.ifCond .le 7, 3) := by decide +kernel
theorem dX8_parameterOf_61 : decode cX8_parameterOf 61 = .ok (.iload_n 3, 1) := by decide +kernel
theorem dX8_parameterOf_62 : decode cX8_parameterOf 62 = .ok (.ifCond .eq 16, 3) := by decide +kernel
theorem dX8_parameterOf_78 : decode cX8_parameterOf 78 = .ok (.aload_n 0, 1) := by decide +kernel
theorem dX8_parameterOf_79 : decode cX8_parameterOf 79 = .ok (.getfield 60, 3) := by decide +kernel
theorem dX8_parameterOf_82 : decode cX8_parameterOf 82 = .ok (.iconst 5, 1) := by decide +kernel
theorem dX8_parameterOf_83 : decode cX8_parameterOf 83 = .ok (.iload_n 1, 1) := by decide +kernel
theorem dX8_parameterOf_84 : decode cX8_parameterOf 84 = .ok (.imul, 1) := by decide +kernel
theorem dX8_parameterOf_85 : decode cX8_parameterOf 85 = .ok (.iload_n 2, 1) := by decide +kernel
theorem dX8_parameterOf_86 : decode cX8_parameterOf 86 = .ok (.iadd, 1) := by decide +kernel
theorem dX8_parameterOf_87 : decode cX8_parameterOf 87 = .ok (.iaload, 1) := by decide +kernel
theorem dX8_parameterOf_88 : decode cX8_parameterOf 88 = .ok (.ireturn, 1) := by decide +kernel
theorem dX8_parameterOf_65 : decode cX8_parameterOf 65 = .ok (.aload_n 0, 1) := by decide +kernel
theorem dX8_parameterOf_66 : decode cX8_parameterOf 66 = .ok (.getfield 63, 3) := by decide +kernel
theorem dX8_parameterOf_69 : decode cX8_parameterOf 69 = .ok (.iconst 5, 1) := by decide +kernel
theorem dX8_parameterOf_70 : decode cX8_parameterOf 70 = .ok (.iload_n 1, 1) := by decide +kernel
theorem dX8_parameterOf_71 : decode cX8_parameterOf 71 = .ok (.imul, 1) := by decide +kernel
theorem dX8_parameterOf_72 : decode cX8_parameterOf 72 = .ok (.iload_n 2, 1) := by decide +kernel
theorem dX8_parameterOf_73 : decode cX8_parameterOf 73 = .ok (.iadd, 1) := by decide +kernel
theorem dX8_parameterOf_74 : decode cX8_parameterOf 74 = .ok (.iaload, 1) := by decide +kernel
theorem dX8_parameterOf_75 : decode cX8_parameterOf 75 = .ok (.goto 13, 3) := by decide +kernel
theorem dX8_parameterOf_42 : decode cX8_parameterOf 42 = .ok (.iconst 2, 1) := by decide +kernel
theorem dX8_parameterOf_43 : decode cX8_parameterOf 43 = .ok (.goto 4, 3) := by decide +kernel
theorem dX8_parameterOf_57 : decode cX8_parameterOf 57 = .ok (.iconst 0, 1) := by decide +kernel
theorem dX8_parameterOf_58 : decode cX8_parameterOf 58 = .ok (.goto 30, 3) := by decide +kernel
theorem dX8_parameterOf_22 : decode cX8_parameterOf 22 = .ok (.iconst 1, 1) := by decide +kernel
theorem dX8_parameterOf_23 : decode cX8_parameterOf 23 = .ok (.goto 24, 3) := by decide +kernel
theorem dX8_parameterOf_9 : decode cX8_parameterOf 9 = .ok (.iconst 2, 1) := by decide +kernel
theorem dX8_parameterOf_10 : decode cX8_parameterOf 10 = .ok (.goto 37, 3) := by decide +kernel
theorem dX8_lacks_0 : decode cX8_lacks 0 = .ok (.aload_n 0, 1) := by decide +kernel
theorem dX8_lacks_1 : decode cX8_lacks 1 = .ok (.iconst 0, 1) := by decide +kernel
theorem dX8_lacks_2 : decode cX8_lacks 2 = .ok (.putfield 90, 3) := by decide +kernel
theorem dX8_lacks_5 : decode cX8_lacks 5 = .ok (.aload_n 0, 1) := by decide +kernel
theorem dX8_lacks_6 : decode cX8_lacks 6 = .ok (.iload_n 1, 1) := by decide +kernel
theorem dX8_lacks_7 : decode cX8_lacks 7 = .ok (.invokevirtual 104, 3) := by decide +kernel
theorem dX8_lacks_10 : decode cX8_lacks 10 = .ok (.ifCond .ne 6, 3) := by decide +kernel
theorem dX8_lacks_16 : decode cX8_lacks 16 = .ok (.iload_n 2, 1) := by decide +kernel
theorem dX8_lacks_17 : decode cX8_lacks 17 = .ok (.istore_n 3, 1) := by decide +kernel
theorem dX8_lacks_18 : decode cX8_lacks 18 = .ok (.iconst 0, 1) := by decide +kernel
theorem dX8_lacks_19 : decode cX8_lacks 19 = .ok (.istore 4, 2) := by decide +kernel
theorem dX8_lacks_21 : decode cX8_lacks 21 = .ok (.iload 4, 2) := by decide +kernel
theorem dX8_lacks_23 : decode cX8_lacks 23 = .ok (.aload_n 0, 1) := by decide +kernel
theorem dX8_lacks_24 : decode cX8_lacks 24 = .ok (.getfield 119, 3) := by decide +kernel
theorem dX8_lacks_27 : decode cX8_lacks 27 = .ok (.if_icmp .ge 52, 3) := by decide +kernel
theorem dX8_lacks_79 : decode cX8_lacks 79 = .ok (.iconst (-1), 1) := by decide +kernel
theorem dX8_lacks_80 : decode cX8_lacks 80 = .ok (.ireturn, 1) := by decide +kernel
theorem dX8_lacks_30 : decode cX8_lacks 30 = .ok (.iload_n 2, 1) := by decide +kernel
theorem dX8_lacks_31 : decode cX8_lacks 31 = .ok (.ifCond .lt 48, 3) := by decide +kernel
theorem dX8_lacks_34 : decode cX8_lacks 34 = .ok (.aload_n 0, 1) := by decide +kernel
theorem dX8_lacks_35 : decode cX8_lacks 35 = .ok (.getfield 7, 3) := by decide +kernel
theorem dX8_lacks_38 : decode cX8_lacks 38 = .ok (.iload_n 1, 1) := by decide +kernel
theorem dX8_lacks_39 : decode cX8_lacks 39 = .ok (.iaload, 1) := by decide +kernel
theorem dX8_lacks_40 : decode cX8_lacks 40 = .ok (.ifCond .eq 13, 3) := by decide +kernel
theorem dX8_lacks_53 : decode cX8_lacks 53 = .ok (.aload_n 0, 1) := by decide +kernel
theorem dX8_lacks_54 : decode cX8_lacks 54 = .ok (.iload_n 1, 1) := by decide +kernel
theorem dX8_lacks_55 : decode cX8_lacks 55 = .ok (.iload 4, 2) := by decide +kernel
theorem q_988 : Cond.methodLink "FieldMemberModel" 233 ⟨"FieldMemberModel", "isLacked", "(II)Z"⟩ ∈ TT := tt_t (i := 988) (by decide +kernel) (by decide +kernel)
theorem q_991 : Cond.code ⟨"FieldMemberModel", "isLacked", "(II)Z"⟩ prog_10_method_50_code 5 (some .boolean) ∈ TT := tt_t (i := 991) (by decide +kernel) (by decide +kernel)
theorem q_990 : Cond.instanceMethod ⟨"FieldMemberModel", "isLacked", "(II)Z"⟩ ∈ TT := tt_t (i := 990) (by decide +kernel) (by decide +kernel)
theorem qs_57 : Cond.selects "FieldMemberModel" ⟨"FieldMemberModel", "isLacked", "(II)Z"⟩ ⟨"FieldMemberModel", "isLacked", "(II)Z"⟩ ∈ TT := tt_s (i := 57) (by decide +kernel) (by decide +kernel)
theorem gV_X8_X8_isLacked : GoodIn TT (wsV RX8 233 RX8 yX8_isLacked (ww yX8_isLacked cX8_isLacked 5 (some .boolean))) := tt_V q_988 q_990 qs_57 q_4 q_991
theorem hdV_X8_isLacked : yX8_isLacked.cls = RX8 ∧ yX8_isLacked.cls ≠ "java/lang/invoke/MethodHandle" ∧ yX8_isLacked.cls ≠ "java/lang/invoke/VarHandle" ∧ (parseMethodDescriptor yX8_isLacked.desc).map (fun d => d.parameters.length) = some 2 := by decide +kernel
theorem dX8_lacks_57 : decode cX8_lacks 57 = .ok (.invokevirtual 233, 3) := by decide +kernel
theorem dX8_lacks_60 : decode cX8_lacks 60 = .ok (.ifCond .eq 13, 3) := by decide +kernel
theorem dX8_lacks_73 : decode cX8_lacks 73 = .ok (.iinc 4 1, 3) := by decide +kernel
theorem dX8_lacks_76 : decode cX8_lacks 76 = .ok (.goto (-55), 3) := by decide +kernel
theorem dX8_lacks_63 : decode cX8_lacks 63 = .ok (.iload_n 3, 1) := by decide +kernel
theorem dX8_lacks_64 : decode cX8_lacks 64 = .ok (.ifCond .ne 6, 3) := by decide +kernel
theorem dX8_lacks_70 : decode cX8_lacks 70 = .ok (.iinc 3 (-1), 3) := by decide +kernel
theorem dX8_lacks_67 : decode cX8_lacks 67 = .ok (.iload 4, 2) := by decide +kernel
theorem dX8_lacks_69 : decode cX8_lacks 69 = .ok (.ireturn, 1) := by decide +kernel
theorem dX8_lacks_43 : decode cX8_lacks 43 = .ok (.aload_n 0, 1) := by decide +kernel
theorem dX8_lacks_44 : decode cX8_lacks 44 = .ok (.getfield 7, 3) := by decide +kernel
theorem dX8_lacks_47 : decode cX8_lacks 47 = .ok (.iload_n 1, 1) := by decide +kernel
theorem dX8_lacks_48 : decode cX8_lacks 48 = .ok (.iaload, 1) := by decide +kernel
theorem dX8_lacks_49 : decode cX8_lacks 49 = .ok (.iconst 2, 1) := by decide +kernel
theorem dX8_lacks_50 : decode cX8_lacks 50 = .ok (.if_icmp .ne 29, 3) := by decide +kernel
theorem dX8_lacks_13 : decode cX8_lacks 13 = .ok (.bipush (-11), 2) := by decide +kernel
theorem dX8_lacks_15 : decode cX8_lacks 15 = .ok (.ireturn, 1) := by decide +kernel
theorem dX8_end_0 : decode cX8_end 0 = .ok (.aload_n 0, 1) := by decide +kernel
theorem dX8_end_1 : decode cX8_end 1 = .ok (.iconst 0, 1) := by decide +kernel
theorem dX8_end_2 : decode cX8_end 2 = .ok (.putfield 90, 3) := by decide +kernel
theorem dX8_end_5 : decode cX8_end 5 = .ok (.aload_n 0, 1) := by decide +kernel
theorem dX8_end_6 : decode cX8_end 6 = .ok (.getfield 122, 3) := by decide +kernel
theorem dX8_end_9 : decode cX8_end 9 = .ok (.ifCond .ne 6, 3) := by decide +kernel
theorem dX8_end_15 : decode cX8_end 15 = .ok (.aload_n 0, 1) := by decide +kernel
theorem dX8_end_16 : decode cX8_end 16 = .ok (.iconst 0, 1) := by decide +kernel
theorem dX8_end_17 : decode cX8_end 17 = .ok (.putfield 122, 3) := by decide +kernel
theorem dX8_end_20 : decode cX8_end 20 = .ok (.aload_n 0, 1) := by decide +kernel
theorem dX8_end_21 : decode cX8_end 21 = .ok (.getfield 119, 3) := by decide +kernel
theorem dX8_end_24 : decode cX8_end 24 = .ok (.istore_n 1, 1) := by decide +kernel
theorem dX8_end_25 : decode cX8_end 25 = .ok (.iconst 0, 1) := by decide +kernel
theorem dX8_end_26 : decode cX8_end 26 = .ok (.istore_n 2, 1) := by decide +kernel
theorem dX8_end_27 : decode cX8_end 27 = .ok (.iload_n 2, 1) := by decide +kernel
theorem dX8_end_28 : decode cX8_end 28 = .ok (.aload_n 0, 1) := by decide +kernel
theorem dX8_end_29 : decode cX8_end 29 = .ok (.getfield 119, 3) := by decide +kernel
theorem dX8_end_32 : decode cX8_end 32 = .ok (.if_icmp .ge 64, 3) := by decide +kernel
theorem dX8_end_96 : decode cX8_end 96 = .ok (.iconst 0, 1) := by decide +kernel
theorem dX8_end_97 : decode cX8_end 97 = .ok (.istore_n 2, 1) := by decide +kernel
theorem dX8_end_98 : decode cX8_end 98 = .ok (.iload_n 2, 1) := by decide +kernel
theorem dX8_end_99 : decode cX8_end 99 = .ok (.aload_n 0, 1) := by decide +kernel
theorem dX8_end_100 : decode cX8_end 100 = .ok (.getfield 119, 3) := by decide +kernel
theorem dX8_end_103 : decode cX8_end 103 = .ok (.if_icmp .ge 39, 3) := by decide +kernel
theorem dX8_end_142 : decode cX8_end 142 = .ok (.aload_n 0, 1) := by decide +kernel
theorem dX8_end_143 : decode cX8_end 143 = .ok (.getfield 75, 3) := by decide +kernel
theorem dX8_end_146 : decode cX8_end 146 = .ok (.iload_n 1, 1) := by decide +kernel
theorem dX8_end_147 : decode cX8_end 147 = .ok (.aload_n 0, 1) := by decide +kernel
theorem dX8_end_148 : decode cX8_end 148 = .ok (.iload_n 1, 1) := by decide +kernel
theorem q_918 : Cond.methodLink "FieldMemberModel" 190 ⟨"FieldMemberModel", "leastMet", "(I)I"⟩ ∈ TT := tt_t (i := 918) (by decide +kernel) (by decide +kernel)
theorem q_921 : Cond.code ⟨"FieldMemberModel", "leastMet", "(I)I"⟩ prog_10_method_33_code 3 (some .int) ∈ TT := tt_t (i := 921) (by decide +kernel) (by decide +kernel)
theorem q_920 : Cond.instanceMethod ⟨"FieldMemberModel", "leastMet", "(I)I"⟩ ∈ TT := tt_t (i := 920) (by decide +kernel) (by decide +kernel)
theorem qs_49 : Cond.selects "FieldMemberModel" ⟨"FieldMemberModel", "leastMet", "(I)I"⟩ ⟨"FieldMemberModel", "leastMet", "(I)I"⟩ ∈ TT := tt_s (i := 49) (by decide +kernel) (by decide +kernel)
theorem gV_X8_X8_leastMet : GoodIn TT (wsV RX8 190 RX8 yX8_leastMet (ww yX8_leastMet cX8_leastMet 3 (some .int))) := tt_V q_918 q_920 qs_49 q_4 q_921
theorem hdV_X8_leastMet : yX8_leastMet.cls = RX8 ∧ yX8_leastMet.cls ≠ "java/lang/invoke/MethodHandle" ∧ yX8_leastMet.cls ≠ "java/lang/invoke/VarHandle" ∧ (parseMethodDescriptor yX8_leastMet.desc).map (fun d => d.parameters.length) = some 1 := by decide +kernel
theorem dX8_end_149 : decode cX8_end 149 = .ok (.invokevirtual 190, 3) := by decide +kernel
theorem dX8_end_152 : decode cX8_end 152 = .ok (.iastore, 1) := by decide +kernel
theorem dX8_end_153 : decode cX8_end 153 = .ok (.aload_n 0, 1) := by decide +kernel
theorem dX8_end_154 : decode cX8_end 154 = .ok (.getfield 26, 3) := by decide +kernel
theorem dX8_end_157 : decode cX8_end 157 = .ok (.iload_n 1, 1) := by decide +kernel
theorem dX8_end_158 : decode cX8_end 158 = .ok (.iconst 1, 1) := by decide +kernel
theorem dX8_end_159 : decode cX8_end 159 = .ok (.bastore, 1) := by decide +kernel
theorem dX8_end_160 : decode cX8_end 160 = .ok (.aload_n 0, 1) := by decide +kernel
theorem dX8_end_161 : decode cX8_end 161 = .ok (.dup, 1) := by decide +kernel
theorem dX8_end_162 : decode cX8_end 162 = .ok (.getfield 119, 3) := by decide +kernel
theorem dX8_end_165 : decode cX8_end 165 = .ok (.iconst 1, 1) := by decide +kernel
theorem dX8_end_166 : decode cX8_end 166 = .ok (.iadd, 1) := by decide +kernel
theorem dX8_end_167 : decode cX8_end 167 = .ok (.putfield 119, 3) := by decide +kernel
theorem dX8_end_170 : decode cX8_end 170 = .ok (.iload_n 1, 1) := by decide +kernel
theorem dX8_end_171 : decode cX8_end 171 = .ok (.ireturn, 1) := by decide +kernel
theorem dX8_end_106 : decode cX8_end 106 = .ok (.aload_n 0, 1) := by decide +kernel
theorem dX8_end_107 : decode cX8_end 107 = .ok (.iload_n 1, 1) := by decide +kernel
theorem dX8_end_108 : decode cX8_end 108 = .ok (.iload_n 2, 1) := by decide +kernel
theorem dX8_end_109 : decode cX8_end 109 = .ok (.invokevirtual 184, 3) := by decide +kernel
theorem dX8_end_112 : decode cX8_end 112 = .ok (.ifCond .eq 12, 3) := by decide +kernel
theorem dX8_end_124 : decode cX8_end 124 = .ok (.iconst 0, 1) := by decide +kernel
theorem dX8_end_125 : decode cX8_end 125 = .ok (.istore_n 3, 1) := by decide +kernel
theorem dX8_end_126 : decode cX8_end 126 = .ok (.iload_n 3, 1) := by decide +kernel
theorem dX8_end_127 : decode cX8_end 127 = .ok (.ifCond .le 9, 3) := by decide +kernel
theorem dX8_end_136 : decode cX8_end 136 = .ok (.iinc 2 1, 3) := by decide +kernel
theorem dX8_end_139 : decode cX8_end 139 = .ok (.goto (-41), 3) := by decide +kernel
theorem dX8_end_115 : decode cX8_end 115 = .ok (.aload_n 0, 1) := by decide +kernel
theorem dX8_end_116 : decode cX8_end 116 = .ok (.iload_n 1, 1) := by decide +kernel
theorem dX8_end_117 : decode cX8_end 117 = .ok (.iload_n 2, 1) := by decide +kernel
theorem q_910 : Cond.methodLink "FieldMemberModel" 187 ⟨"FieldMemberModel", "ruleAgainst", "(II)I"⟩ ∈ TT := tt_t (i := 910) (by decide +kernel) (by decide +kernel)
theorem q_913 : Cond.code ⟨"FieldMemberModel", "ruleAgainst", "(II)I"⟩ prog_10_method_30_code 5 (some .int) ∈ TT := tt_t (i := 913) (by decide +kernel) (by decide +kernel)
theorem q_912 : Cond.instanceMethod ⟨"FieldMemberModel", "ruleAgainst", "(II)I"⟩ ∈ TT := tt_t (i := 912) (by decide +kernel) (by decide +kernel)
theorem qs_47 : Cond.selects "FieldMemberModel" ⟨"FieldMemberModel", "ruleAgainst", "(II)I"⟩ ⟨"FieldMemberModel", "ruleAgainst", "(II)I"⟩ ∈ TT := tt_s (i := 47) (by decide +kernel) (by decide +kernel)
theorem gV_X8_X8_ruleAgainst : GoodIn TT (wsV RX8 187 RX8 yX8_ruleAgainst (ww yX8_ruleAgainst cX8_ruleAgainst 5 (some .int))) := tt_V q_910 q_912 qs_47 q_4 q_913
theorem hdV_X8_ruleAgainst : yX8_ruleAgainst.cls = RX8 ∧ yX8_ruleAgainst.cls ≠ "java/lang/invoke/MethodHandle" ∧ yX8_ruleAgainst.cls ≠ "java/lang/invoke/VarHandle" ∧ (parseMethodDescriptor yX8_ruleAgainst.desc).map (fun d => d.parameters.length) = some 2 := by decide +kernel
theorem dX8_end_118 : decode cX8_end 118 = .ok (.invokevirtual 187, 3) := by decide +kernel
theorem dX8_end_121 : decode cX8_end 121 = .ok (.goto 4, 3) := by decide +kernel
theorem dX8_end_130 : decode cX8_end 130 = .ok (.aload_n 0, 1) := by decide +kernel
theorem dX8_end_131 : decode cX8_end 131 = .ok (.iload_n 3, 1) := by decide +kernel
theorem dX8_end_132 : decode cX8_end 132 = .ok (.invokevirtual 141, 3) := by decide +kernel
theorem dX8_end_135 : decode cX8_end 135 = .ok (.ireturn, 1) := by decide +kernel
theorem dX8_end_35 : decode cX8_end 35 = .ok (.aload_n 0, 1) := by decide +kernel
theorem dX8_end_36 : decode cX8_end 36 = .ok (.getfield 26, 3) := by decide +kernel
theorem dX8_end_39 : decode cX8_end 39 = .ok (.iload_n 2, 1) := by decide +kernel
theorem dX8_end_40 : decode cX8_end 40 = .ok (.baload, 1) := by decide +kernel
theorem dX8_end_41 : decode cX8_end 41 = .ok (.ifCond .eq 49, 3) := by decide +kernel
theorem dX8_end_90 : decode cX8_end 90 = .ok (.iinc 2 1, 3) := by decide +kernel
theorem dX8_end_93 : decode cX8_end 93 = .ok (.goto (-66), 3) := by decide +kernel
theorem dX8_end_44 : decode cX8_end 44 = .ok (.aload_n 0, 1) := by decide +kernel
theorem dX8_end_45 : decode cX8_end 45 = .ok (.getfield 29, 3) := by decide +kernel
theorem dX8_end_48 : decode cX8_end 48 = .ok (.iload_n 2, 1) := by decide +kernel
theorem dX8_end_49 : decode cX8_end 49 = .ok (.iaload, 1) := by decide +kernel
theorem dX8_end_50 : decode cX8_end 50 = .ok (.aload_n 0, 1) := by decide +kernel
theorem dX8_end_51 : decode cX8_end 51 = .ok (.getfield 29, 3) := by decide +kernel
theorem dX8_end_54 : decode cX8_end 54 = .ok (.iload_n 1, 1) := by decide +kernel
theorem dX8_end_55 : decode cX8_end 55 = .ok (.iaload, 1) := by decide +kernel
theorem dX8_end_56 : decode cX8_end 56 = .ok (.if_icmp .ne 34, 3) := by decide +kernel
theorem dX8_end_59 : decode cX8_end 59 = .ok (.aload_n 0, 1) := by decide +kernel
theorem dX8_end_60 : decode cX8_end 60 = .ok (.getfield 32, 3) := by decide +kernel
theorem dX8_end_63 : decode cX8_end 63 = .ok (.iload_n 2, 1) := by decide +kernel
theorem dX8_end_64 : decode cX8_end 64 = .ok (.iaload, 1) := by decide +kernel
theorem dX8_end_65 : decode cX8_end 65 = .ok (.aload_n 0, 1) := by decide +kernel
theorem dX8_end_66 : decode cX8_end 66 = .ok (.getfield 32, 3) := by decide +kernel
theorem dX8_end_69 : decode cX8_end 69 = .ok (.iload_n 1, 1) := by decide +kernel
theorem dX8_end_70 : decode cX8_end 70 = .ok (.iaload, 1) := by decide +kernel
theorem dX8_end_71 : decode cX8_end 71 = .ok (.if_icmp .ne 19, 3) := by decide +kernel
theorem dX8_end_74 : decode cX8_end 74 = .ok (.aload_n 0, 1) := by decide +kernel
theorem dX8_end_75 : decode cX8_end 75 = .ok (.iload_n 2, 1) := by decide +kernel
theorem dX8_end_76 : decode cX8_end 76 = .ok (.iload_n 1, 1) := by decide +kernel
theorem dX8_end_77 : decode cX8_end 77 = .ok (.invokevirtual 178, 3) := by decide +kernel
theorem dX8_end_80 : decode cX8_end 80 = .ok (.ifCond .eq 10, 3) := by decide +kernel
theorem dX8_end_83 : decode cX8_end 83 = .ok (.aload_n 0, 1) := by decide +kernel
theorem dX8_end_84 : decode cX8_end 84 = .ok (.bipush 21, 2) := by decide +kernel
theorem dX8_end_86 : decode cX8_end 86 = .ok (.invokevirtual 141, 3) := by decide +kernel
theorem dX8_end_89 : decode cX8_end 89 = .ok (.ireturn, 1) := by decide +kernel
theorem dX8_end_12 : decode cX8_end 12 = .ok (.bipush (-14), 2) := by decide +kernel
theorem dX8_end_14 : decode cX8_end 14 = .ok (.ireturn, 1) := by decide +kernel
set_option maxHeartbeats 4000000 in
set_option maxRecDepth 100000 in
theorem m_face (l : Launch) (D : va_G) (G : Nat → ClassId) (mo : Nat) (ad : Nat → Nat) (σ : MS) (τ : Nat → Int64) (sz : Nat) (n : Nat) (h1 : σ 1 0 = nI n) (hn : n ≤ 12) (k : Nat) (h7 : σ 7 0 = nI k) (hk60 : k ≤ 60) (hpa : ∀ i, i < n → okPa σ i) (hfc : ∀ i, i < n → okFa σ i) (t : Int32) (f : Int32) (hb6 : ∀ i, σ 6 i = 0 ∨ σ 6 i = 1) : Met l yX8_face (ww yX8_face cX8_face 4 (some .int)) (rmD 2) (muP D G sz mo ad (σ, τ) [.ref mo, .int t, .int f]) (muQi D G mo ad (muA G mo ad (σ, τ) sz) (oFace σ τ n k t f).1 (oFace σ τ n k t f).2) 0 0 (muA G mo ad (σ, τ) sz) := by
  refine Met.ofW (cc := cX8_face) (maxL := 4) (ret := (some .int)) (by decide) rfl ?_
  intro p e s m args below meth c s₁ B hml hv
  obtain ⟨rfl, hsz, hP, hK, hD0⟩ := hv
  have hx := B.exec
  have hb := B.bytes
  have hr := B.returns
  have hts : ∀ w ∈ TT, w.before _ s = true := fun w h => atoms_spec (ws := ww yX8_face cX8_face 4 (some .int)) B.pre w (List.mem_cons_of_mem _ h)
  have hown : s.vm.findClass RX8 = some m.cls := findClass_of_methodNamed B.named
  have hlocks := B.notSynchronized
  subst hsz
  have hD : va_D (muA G mo ad (σ, τ) s.heap.size) (mW G mo ad σ τ) := hD0.self
  generalize hAe : muA G mo ad (σ, τ) s.heap.size = A at hD ⊢
  have hA : ∀ q : Nat, s.heap.size ≤ q → A q := fun q h => by rw [← hAe]; exact Or.inr h
  have hS : va_S A s.heap s.heap [] := va_S.rf
  have hP : va_P D vwCl (mW G mo ad σ τ) s.heap := hP
  have hl := lv_entry ([.ref mo, .int t, .int f]) (n := 4) (Nat.le_of_ble_eq_true rfl)
  rw [lg_entry_eq]
  generalize (lg_sl ([.ref mo, .int t, .int f]) ++ List.replicate (4 - (lg_sl ([.ref mo, .int t, .int f])).length) Slot.unset).toArray = ls at hl ⊢
  have hl : lv_has ls 4 [(0, .ref mo), (1, .int t), (2, .int f)] := hl
  refine lv_aload_n hx hb dX8_face_0 rfl (lv_at hl 0 rfl) ?_
  refine lv_iconst (v := 0) hx hb dX8_face_1 (by decide) ?_
  refine va_put (D := D) (ci := 8) (v := .int 0) (ty := .int) (C := RX8) (T := TX8) (N := 33) hx hb hts iX8 tyX8 tyX8_ok nmX8 hown hK.1 hP hD hS 0 rfl rfl 0 (by decide) (hts _ q_679) (fun _ h9 => h9) rfl (by decide +kernel) rfl rfl (Nat.le_of_ble_eq_true rfl) dX8_face_2 (fun H locs hP hD hS => ?_)
  have hP : va_P D vwCl (mW G mo ad (su σ 0 (0) (0)) (τ)) H := hP
  have hD : va_D A (mW G mo ad (su σ 0 (0) (0)) (τ)) := hD
  refine lv_aload_n hx hb dX8_face_5 rfl (lv_at hl 0 rfl) ?_
  refine lv_iload_n hx hb dX8_face_6 rfl (lv_at hl 1 rfl) ?_
  refine ro_Vi (D := D) (G := G) (As := [.int t]) (rest := []) ⟨hx, hb, hml, hown, hts⟩ (m_isType l D G _ mo ad _ _ hP n h1 hn t) gV_X8_X8_isType hdV_X8_isType ⟨Nat.le_of_ble_eq_true rfl, Nat.le_of_ble_eq_true rfl⟩ hK (va_recv hK.1 hP (ci := 8) (q0 := 0) rfl rfl) rfl hl.1 rfl (Nat.le_of_ble_eq_true rfl) dX8_face_7 ⟨Nat.le_of_ble_eq_true rfl, Nat.le_of_ble_eq_true rfl⟩ (fun r1 e_r1 => ?_)
  subst e_r1
  refine W.eq (g2 := F0 m 10 ls [.int (bI (okN n t))]) rfl ?_
  refine lv_if_eq (tgt := 29) hx hb dX8_face_10 (by decide) (fun c2 => ?_) (fun c2 => ?_)
  · -- 10 taken
    have c2 := bI_0 c2
    refine lv_bipush (v := -11) hx hb dX8_face_29 (by decide) ?_
    have ho : oFace σ τ n k t f = ((-11), su σ 0 (0) (0), τ) := by unfold oFace; simp only [eq_false c2, not_true, not_false_iff, not_true_eq_false, not_false_eq_true, true_or, or_true, false_or, or_false, or_self, and_self, true_and, and_true, false_and, and_false, if_true, if_false]; try rfl
    exact mu_iret (v0 := (-11)) (z := (su σ 0 (0) (0), τ)) hx hb hr hlocks hP hD hS dX8_face_31 (by rw [ho]) (by rw [ho])
  · -- 10 not
    have c2 := bI_1 c2
    obtain ⟨j3, h_j3, rfl⟩ := okN_ex (by omega) c2
    have hfa := hfc j3 h_j3
    refine lv_aload_n hx hb dX8_face_13 rfl (lv_at hl 0 rfl) ?_
    refine lv_iload_n hx hb dX8_face_14 rfl (lv_at hl 2 rfl) ?_
    refine ro_Vi (D := D) (G := G) (As := [.int f]) (rest := []) ⟨hx, hb, hml, hown, hts⟩ (m_isType l D G _ mo ad _ _ hP n h1 hn f) gV_X8_X8_isType hdV_X8_isType ⟨Nat.le_of_ble_eq_true rfl, Nat.le_of_ble_eq_true rfl⟩ hK (va_recv hK.1 hP (ci := 8) (q0 := 0) rfl rfl) rfl hl.1 rfl (Nat.le_of_ble_eq_true rfl) dX8_face_15 ⟨Nat.le_of_ble_eq_true rfl, Nat.le_of_ble_eq_true rfl⟩ (fun r4 e_r4 => ?_)
    subst e_r4
    refine W.eq (g2 := F0 m 18 ls [.int (bI (okN n f))]) rfl ?_
    refine lv_if_eq (tgt := 29) hx hb dX8_face_18 (by decide) (fun c5 => ?_) (fun c5 => ?_)
    · -- 18 taken
      have c5 := bI_0 c5
      refine lv_bipush (v := -11) hx hb dX8_face_29 (by decide) ?_
      have ho : oFace σ τ n k (nI j3) f = ((-11), su σ 0 (0) (0), τ) := by unfold oFace; simp only [eq_true c2, eq_false c5, nI_clamp (show j3 < 2 ^ 31 by omega), not_true, not_false_iff, not_true_eq_false, not_false_eq_true, true_or, or_true, false_or, or_false, or_self, and_self, true_and, and_true, false_and, and_false, if_true, if_false]; try rfl
      exact mu_iret (v0 := (-11)) (z := (su σ 0 (0) (0), τ)) hx hb hr hlocks hP hD hS dX8_face_31 (by rw [ho]) (by rw [ho])
    · -- 18 not
      have c5 := bI_1 c5
      obtain ⟨j6, h_j6, rfl⟩ := okN_ex (by omega) c5
      refine lv_aload_n hx hb dX8_face_21 rfl (lv_at hl 0 rfl) ?_
      refine lv_iload_n hx hb dX8_face_22 rfl (lv_at hl 2 rfl) ?_
      refine ro_Vi (D := D) (G := G) (As := [.int (nI j6)]) (rest := []) ⟨hx, hb, hml, hown, hts⟩ (m_isFace l D G _ mo ad _ _ hP (j6) (by omega)) gV_X8_X8_isFace hdV_X8_isFace ⟨Nat.le_of_ble_eq_true rfl, Nat.le_of_ble_eq_true rfl⟩ hK (va_recv hK.1 hP (ci := 8) (q0 := 0) rfl rfl) rfl hl.1 rfl (Nat.le_of_ble_eq_true rfl) dX8_face_23 ⟨Nat.le_of_ble_eq_true rfl, Nat.le_of_ble_eq_true rfl⟩ (fun r7 e_r7 => ?_)
      subst e_r7
      refine W.eq (g2 := F0 m 26 ls [.int (bI (σ 2 (j6) = 3))]) rfl ?_
      refine lv_if_ne (tgt := 32) hx hb dX8_face_26 (by decide) (fun c8 => ?_) (fun c8 => ?_)
      · -- 26 taken
        have c8 := bI_1 c8
        refine lv_iload_n hx hb dX8_face_32 rfl (lv_at hl 2 rfl) ?_
        refine lv_iload_n hx hb dX8_face_33 rfl (lv_at hl 1 rfl) ?_
        refine lv_icmp_lt (tgt := 40) hx hb dX8_face_34 (by decide) (fun c9 => ?_) (fun c9 => ?_)
        · -- 34 taken
          have c9 : j6 < j3 := (nI_ltI (a := j6) (b := j3) (by omega) (by omega)).mp (by have h8 := c9; exact h8)
          refine lv_iconst (v := 0) hx hb dX8_face_40 (by decide) ?_
          refine lv_istore_n (lv' := [(3, .int 0), (0, .ref mo), (1, .int (nI j3)), (2, .int (nI j6))]) hx hb dX8_face_41 rfl hl (by decide) rfl (fun ls hl => ?_)
          refine w_for (N := (σ 5 j3).toNatClampNeg) 42 (L := fun k9 ls => lv_has ls 4 [(3, .int (nI k9)), (0, .ref mo), (1, .int (nI j3)), (2, .int (nI j6))] ∧ ∀ i, i < k9 → ¬ σ 4 (3 * j3 + i) = nI j6) (fun k9 ls hk hL ih => ?_) 0 ls (Nat.zero_le _) ⟨hl, fun i hi => absurd hi (Nat.not_lt_zero i)⟩
          obtain ⟨hl, hi⟩ := hL
          have hl : lv_has ls 4 [(3, .int (nI k9)), (0, .ref mo), (1, .int (nI j3)), (2, .int (nI j6))] := hl
          refine lv_iload_n hx hb dX8_face_42 rfl (lv_at hl 0 rfl) ?_
          refine lv_aload_n hx hb dX8_face_43 rfl (lv_at hl 1 rfl) ?_
          refine va_get (D := D) (ci := 8) (v := .ref ((ad 5))) (C := RX8) (T := TX8) (N := 33) hx hb hts iX8 hown hK.1 hP 0 rfl rfl 5 (by decide) (hts _ q_684) (fun _ h9 => h9) rfl dX8_face_44 ?_
          refine lv_iload_n hx hb dX8_face_47 rfl (lv_at hl 2 rfl) ?_
          refine iald_n (f := σ 5) hx hb hK.1 hP 4 0 rfl rfl (j3) rfl (by omega) (by decide) dX8_face_48 ?_
          refine lv_icmp_ge (tgt := 75) hx hb dX8_face_49 (by decide) (fun c10 => ?_) (fun c10 => ?_)
          · -- 49 taken
            have c10 : (σ 5 j3).toNatClampNeg ≤ k9 := (nI_leI (a := (σ 5 j3).toNatClampNeg) (b := k9) (by omega) (by omega)).mp (by have h8 := c10; rw [hfa.1.1] at h8; exact h8)
            refine lv_aload_n hx hb dX8_face_75 rfl (lv_at hl 1 rfl) ?_
            refine va_get (D := D) (ci := 8) (v := .int (σ 7 0)) (C := RX8) (T := TX8) (N := 33) hx hb hts iX8 hown hK.1 hP 0 rfl rfl 7 (by decide) (hts _ q_686) (fun _ h9 => h9) rfl dX8_face_76 ?_
            refine lv_if_gt (tgt := 89) hx hb dX8_face_79 (by decide) (fun c11 => ?_) (fun c11 => ?_)
            · -- 79 taken
              have c11 : 0 < k := (nI_ltI (a := 0) (b := k) (by omega) (by omega)).mp (by have h8 := c11; rw [h7] at h8; exact h8)
              refine lv_bipush (v := -14) hx hb dX8_face_89 (by decide) ?_
              have ho : oFace σ τ n k (nI j3) (nI j6) = ((-14), su σ 0 (0) (0), τ) := by unfold oFace; simp only [eq_true c2, eq_true c5, eq_true c8, eq_true c9, eq_false (show ¬ ∃ i, i < (σ 5 j3).toNatClampNeg ∧ σ 4 (3 * j3 + i) = nI j6 from fun ⟨i, h8, h9⟩ => hi i (by omega) h9), eq_true c11, nI_clamp (show j3 < 2 ^ 31 by omega), nI_clamp (show j6 < 2 ^ 31 by omega), not_true, not_false_iff, not_true_eq_false, not_false_eq_true, true_or, or_true, false_or, or_false, or_self, and_self, true_and, and_true, false_and, and_false, if_true, if_false]; try rfl
              exact mu_iret (v0 := (-14)) (z := (su σ 0 (0) (0), τ)) hx hb hr hlocks hP hD hS dX8_face_91 (by rw [ho]) (by rw [ho])
            · -- 79 not
              have c11 : ¬ 0 < k := fun h9 => c11 (by rw [h7]; exact (nI_ltI (a := 0) (b := k) (by omega) (by omega)).mpr h9)
              refine lv_aload_n hx hb dX8_face_82 rfl (lv_at hl 1 rfl) ?_
              refine va_get (D := D) (ci := 8) (v := .int (σ 21 0)) (C := RX8) (T := TX8) (N := 33) hx hb hts iX8 hown hK.1 hP 0 rfl rfl 21 (by decide) (hts _ q_700) (fun _ h9 => h9) rfl dX8_face_83 ?_
              refine lv_if_eq (tgt := 92) hx hb dX8_face_86 (by decide) (fun c12 => ?_) (fun c12 => ?_)
              · -- 86 taken
                refine lv_aload_n hx hb dX8_face_92 rfl (lv_at hl 1 rfl) ?_
                refine va_get (D := D) (ci := 8) (v := .ref ((ad 5))) (C := RX8) (T := TX8) (N := 33) hx hb hts iX8 hown hK.1 hP 0 rfl rfl 5 (by decide) (hts _ q_684) (fun _ h9 => h9) rfl dX8_face_93 ?_
                refine lv_iload_n hx hb dX8_face_96 rfl (lv_at hl 2 rfl) ?_
                refine iald_n (f := σ 5) hx hb hK.1 hP 4 0 rfl rfl (j3) rfl (by omega) (by decide) dX8_face_97 ?_
                refine lv_iconst (v := 3) hx hb dX8_face_98 (by decide) ?_
                refine lv_icmp_ne (tgt := 105) hx hb dX8_face_99 (by decide) (fun c13 => ?_) (fun c13 => ?_)
                · -- 99 taken
                  have c13 : ¬ (σ 5 j3).toNatClampNeg = 3 := fun h9 => c13 (by first | (rw [hfa.1.1, h9]; done) | (rw [hfa.1.1, h9]; rfl))
                  refine lv_aload_n hx hb dX8_face_105 rfl (lv_at hl 1 rfl) ?_
                  refine va_get (D := D) (ci := 8) (v := .ref ((ad 4))) (C := RX8) (T := TX8) (N := 33) hx hb hts iX8 hown hK.1 hP 0 rfl rfl 4 (by decide) (hts _ q_683) (fun _ h9 => h9) rfl dX8_face_106 ?_
                  refine lv_iconst (v := 3) hx hb dX8_face_109 (by decide) ?_
                  refine lv_iload_n hx hb dX8_face_110 rfl (lv_at hl 2 rfl) ?_
                  refine lv_imul hx hb dX8_face_111 ?_
                  refine lv_aload_n hx hb dX8_face_112 rfl (lv_at hl 1 rfl) ?_
                  refine va_get (D := D) (ci := 8) (v := .ref ((ad 5))) (C := RX8) (T := TX8) (N := 33) hx hb hts iX8 hown hK.1 hP 0 rfl rfl 5 (by decide) (hts _ q_684) (fun _ h9 => h9) rfl dX8_face_113 ?_
                  refine lv_iload_n hx hb dX8_face_116 rfl (lv_at hl 2 rfl) ?_
                  refine iald_n (f := σ 5) hx hb hK.1 hP 4 0 rfl rfl (j3) rfl (by omega) (by decide) dX8_face_117 ?_
                  refine lv_iadd hx hb dX8_face_118 ?_
                  refine lv_iload_n hx hb dX8_face_119 rfl (lv_at hl 3 rfl) ?_
                  refine iast_n hx hb hK.1 hP hD hS 3 0 rfl rfl (((3 * j3) + (σ 5 j3).toNatClampNeg)) (n_add (a := (3 * j3)) (b := (σ 5 j3).toNatClampNeg) (n_mul (a := 3) (b := j3) (rfl : (3 : Int32) = nI 3) rfl) hfa.1.1) (by omega) (by decide) dX8_face_120 (fun H locs hP hD hS => ?_)
                  have hP : va_P D vwCl (mW G mo ad (su (su σ 0 (0) (0)) 4 (((3 * j3) + (σ 5 j3).toNatClampNeg)) (nI j6)) (τ)) H := hP
                  have hD : va_D A (mW G mo ad (su (su σ 0 (0) (0)) 4 (((3 * j3) + (σ 5 j3).toNatClampNeg)) (nI j6)) (τ)) := hD
                  refine lv_aload_n hx hb dX8_face_121 rfl (lv_at hl 1 rfl) ?_
                  refine va_get (D := D) (ci := 8) (v := .ref ((ad 5))) (C := RX8) (T := TX8) (N := 33) hx hb hts iX8 hown hK.1 hP 0 rfl rfl 5 (by decide) (hts _ q_684) (fun _ h9 => h9) rfl dX8_face_122 ?_
                  refine lv_iload_n hx hb dX8_face_125 rfl (lv_at hl 2 rfl) ?_
                  refine lv_dup2_11 hx hb dX8_face_126 rfl rfl ?_
                  refine iald_n (f := σ 5) hx hb hK.1 hP 4 0 rfl rfl (j3) rfl (by omega) (by decide) dX8_face_127 ?_
                  refine lv_iconst (v := 1) hx hb dX8_face_128 (by decide) ?_
                  refine lv_iadd hx hb dX8_face_129 ?_
                  refine W.eq (g2 := F0 m 130 ls [.int (nI ((σ 5 j3).toNatClampNeg + 1)), .int (nI j3), .ref ((ad 5))]) (congrArg (fun z9 => F0 m 130 ls [.int z9, .int (nI j3), .ref ((ad 5))]) (n_add (a := (σ 5 j3).toNatClampNeg) (b := 1) hfa.1.1 (rfl : (1 : Int32) = nI 1))) ?_
                  refine iast_n hx hb hK.1 hP hD hS 4 0 rfl rfl (j3) rfl (by omega) (by decide) dX8_face_130 (fun H locs hP hD hS => ?_)
                  have hP : va_P D vwCl (mW G mo ad (su (su (su σ 0 (0) (0)) 4 (((3 * j3) + (σ 5 j3).toNatClampNeg)) (nI j6)) 5 (j3) (nI ((σ 5 j3).toNatClampNeg + 1))) (τ)) H := hP
                  have hD : va_D A (mW G mo ad (su (su (su σ 0 (0) (0)) 4 (((3 * j3) + (σ 5 j3).toNatClampNeg)) (nI j6)) 5 (j3) (nI ((σ 5 j3).toNatClampNeg + 1))) (τ)) := hD
                  refine lv_iload_n hx hb dX8_face_131 rfl (lv_at hl 2 rfl) ?_
                  refine lv_istore_n (lv' := [(3, .int (nI j3)), (0, .ref mo), (1, .int (nI j3)), (2, .int (nI j6))]) hx hb dX8_face_132 rfl hl (by decide) rfl (fun ls hl => ?_)
                  have hi1 := hi
                  refine w_forM (N := n) 133 (L := fun q9 ls H locs => lv_has ls 4 [(3, .int (nI q9)), (0, .ref mo), (1, .int (nI j3)), (2, .int (nI j6))] ∧ va_P D vwCl (mW G mo ad (st (su (su (su σ 0 (0) (0)) 4 (((3 * j3) + (σ 5 j3).toNatClampNeg)) (nI j6)) 5 (j3) (nI ((σ 5 j3).toNatClampNeg + 1))) 6 (reF (σ 6) (σ 3) (upd (σ 5) j3 (nI ((σ 5 j3).toNatClampNeg + 1))) (upd (σ 4) (3 * j3 + (σ 5 j3).toNatClampNeg) (nI j6)) j3 (q9 - j3))) (τ)) H ∧ va_D A (mW G mo ad (st (su (su (su σ 0 (0) (0)) 4 (((3 * j3) + (σ 5 j3).toNatClampNeg)) (nI j6)) 5 (j3) (nI ((σ 5 j3).toNatClampNeg + 1))) 6 (reF (σ 6) (σ 3) (upd (σ 5) j3 (nI ((σ 5 j3).toNatClampNeg + 1))) (upd (σ 4) (3 * j3 + (σ 5 j3).toNatClampNeg) (nI j6)) j3 (q9 - j3))) (τ)) ∧ va_S A s.heap H locs ∧ j3 ≤ q9) (fun k9 ls H locs hk hL ih133 => ?_) j3 ls _ _ (by omega) ⟨hl, (by rw [Nat.sub_self]; exact hP), (by rw [Nat.sub_self]; exact hD), hS, Nat.le_refl _⟩
                  obtain ⟨hl, hP, hD, hS, hi⟩ := hL
                  have hl : lv_has ls 4 [(3, .int (nI k9)), (0, .ref mo), (1, .int (nI j3)), (2, .int (nI j6))] := hl
                  have hb7 := b01_re (pa := σ 3) (fc := (upd (σ 5) j3 (nI ((σ 5 j3).toNatClampNeg + 1)))) (fa := (upd (σ 4) (3 * j3 + (σ 5 j3).toNatClampNeg) (nI j6))) hb6 j3 (k9 - j3)
                  refine lv_iload_n hx hb dX8_face_133 rfl (lv_at hl 0 rfl) ?_
                  refine lv_aload_n hx hb dX8_face_134 rfl (lv_at hl 1 rfl) ?_
                  refine va_get (D := D) (ci := 8) (v := .int (σ 1 0)) (C := RX8) (T := TX8) (N := 33) hx hb hts iX8 hown hK.1 hP 0 rfl rfl 1 (by decide) (hts _ q_680) (fun _ h9 => h9) rfl dX8_face_135 ?_
                  refine lv_icmp_ge (tgt := 152) hx hb dX8_face_138 (by decide) (fun c14 => ?_) (fun c14 => ?_)
                  · -- 138 taken
                    have c14 : n ≤ k9 := (nI_leI (a := n) (b := k9) (by omega) (by omega)).mp (by have h8 := c14; rw [h1] at h8; exact h8)
                    obtain rfl : n = k9 := by omega
                    have hP : va_P D vwCl (mW G mo ad (st (su (su (su σ 0 (0) (0)) 4 (((3 * j3) + (σ 5 j3).toNatClampNeg)) (nI j6)) 5 (j3) (nI ((σ 5 j3).toNatClampNeg + 1))) 6 (reF (σ 6) (σ 3) (upd (σ 5) j3 (nI ((σ 5 j3).toNatClampNeg + 1))) (upd (σ 4) (3 * j3 + (σ 5 j3).toNatClampNeg) (nI j6)) j3 (n - j3))) (τ)) H := hP
                    have hD : va_D A (mW G mo ad (st (su (su (su σ 0 (0) (0)) 4 (((3 * j3) + (σ 5 j3).toNatClampNeg)) (nI j6)) 5 (j3) (nI ((σ 5 j3).toNatClampNeg + 1))) 6 (reF (σ 6) (σ 3) (upd (σ 5) j3 (nI ((σ 5 j3).toNatClampNeg + 1))) (upd (σ 4) (3 * j3 + (σ 5 j3).toNatClampNeg) (nI j6)) j3 (n - j3))) (τ)) := hD
                    refine lv_aload_n hx hb dX8_face_152 rfl (lv_at hl 1 rfl) ?_
                    refine va_get (D := D) (ci := 8) (v := .ref ((ad 5))) (C := RX8) (T := TX8) (N := 33) hx hb hts iX8 hown hK.1 hP 0 rfl rfl 5 (by decide) (hts _ q_684) (fun _ h9 => h9) rfl dX8_face_153 ?_
                    refine lv_iload_n hx hb dX8_face_156 rfl (lv_at hl 2 rfl) ?_
                    refine iald_n (f := upd (σ 5) (j3) (nI ((σ 5 j3).toNatClampNeg + 1))) hx hb hK.1 hP 4 0 rfl rfl (j3) rfl (by omega) (by decide) dX8_face_157 ?_
                    refine W.eq (g2 := F0 m 158 ls [.int (nI ((σ 5 j3).toNatClampNeg + 1))]) (congrArg (fun z9 => F0 m 158 ls [.int z9]) pk_us) ?_
                    have ho : oFace σ τ n k (nI j3) (nI j6) = (nI ((σ 5 j3).toNatClampNeg + 1), st (su (su (su σ 0 (0) (0)) 4 (((3 * j3) + (σ 5 j3).toNatClampNeg)) (nI j6)) 5 (j3) (nI ((σ 5 j3).toNatClampNeg + 1))) 6 (reF (σ 6) (σ 3) (upd (σ 5) j3 (nI ((σ 5 j3).toNatClampNeg + 1))) (upd (σ 4) (3 * j3 + (σ 5 j3).toNatClampNeg) (nI j6)) j3 (n - j3)), τ) := by unfold oFace; simp only [eq_true c2, eq_true c5, eq_true c8, eq_true c9, eq_false (show ¬ ∃ i, i < (σ 5 j3).toNatClampNeg ∧ σ 4 (3 * j3 + i) = nI j6 from fun ⟨i, h8, h9⟩ => hi1 i (by omega) h9), eq_false c11, eq_true c12, eq_false c13, nI_clamp (show j3 < 2 ^ 31 by omega), nI_clamp (show j6 < 2 ^ 31 by omega), not_true, not_false_iff, not_true_eq_false, not_false_eq_true, true_or, or_true, false_or, or_false, or_self, and_self, true_and, and_true, false_and, and_false, if_true, if_false]; try rfl
                    exact mu_iret (v0 := nI ((σ 5 j3).toNatClampNeg + 1)) (z := (st (su (su (su σ 0 (0) (0)) 4 (((3 * j3) + (σ 5 j3).toNatClampNeg)) (nI j6)) 5 (j3) (nI ((σ 5 j3).toNatClampNeg + 1))) 6 (reF (σ 6) (σ 3) (upd (σ 5) j3 (nI ((σ 5 j3).toNatClampNeg + 1))) (upd (σ 4) (3 * j3 + (σ 5 j3).toNatClampNeg) (nI j6)) j3 (n - j3)), τ)) hx hb hr hlocks hP hD hS dX8_face_158 (by rw [ho]) (by rw [ho])
                  · -- 138 not
                    have c14 : ¬ n ≤ k9 := fun h9 => c14 (by rw [h1]; exact (nI_leI (a := n) (b := k9) (by omega) (by omega)).mpr h9)
                    refine lv_aload_n hx hb dX8_face_141 rfl (lv_at hl 1 rfl) ?_
                    refine lv_iload_n hx hb dX8_face_142 rfl (lv_at hl 0 rfl) ?_
                    refine mu_Vv (D := D) (G := G) (mo := mo) (ad := ad) (u := (st (su (su (su σ 0 (0) (0)) 4 (((3 * j3) + (σ 5 j3).toNatClampNeg)) (nI j6)) 5 (j3) (nI ((σ 5 j3).toNatClampNeg + 1))) 6 (reF (σ 6) (σ 3) (upd (σ 5) j3 (nI ((σ 5 j3).toNatClampNeg + 1))) (upd (σ 4) (3 * j3 + (σ 5 j3).toNatClampNeg) (nI j6)) j3 (k9 - j3)), τ)) (As := [.int (nI k9)]) (rest := []) ⟨hx, hb, hml, hown, hts⟩ (m_reckons l D G mo ad (st (su (su (su σ 0 (0) (0)) 4 (((3 * j3) + (σ 5 j3).toNatClampNeg)) (nI j6)) 5 (j3) (nI ((σ 5 j3).toNatClampNeg + 1))) 6 (reF (σ 6) (σ 3) (upd (σ 5) j3 (nI ((σ 5 j3).toNatClampNeg + 1))) (upd (σ 4) (3 * j3 + (σ 5 j3).toNatClampNeg) (nI j6)) j3 (k9 - j3))) (τ) _ (k9) (by omega) (hpa k9 (by omega)) (okFa_put (j := j3) (f := j6) hfa (by omega) (by assumption) (hfc k9 (by omega))) hb7) gV_X8_X8_reckons hdV_X8_reckons ⟨Nat.le_of_ble_eq_true rfl, Nat.le_of_ble_eq_true rfl⟩ hK hP hD hS hA rfl hl.1 rfl (Nat.le_of_ble_eq_true rfl) dX8_face_143 ⟨Nat.le_of_ble_eq_true rfl, Nat.le_of_ble_eq_true rfl⟩ (fun H locs hP hD hS => ?_)
                    have hP : va_P D vwCl (mW G mo ad (st (su (su (su σ 0 (0) (0)) 4 (((3 * j3) + (σ 5 j3).toNatClampNeg)) (nI j6)) 5 (j3) (nI ((σ 5 j3).toNatClampNeg + 1))) 6 (recF (reF (σ 6) (σ 3) (upd (σ 5) j3 (nI ((σ 5 j3).toNatClampNeg + 1))) (upd (σ 4) (3 * j3 + (σ 5 j3).toNatClampNeg) (nI j6)) j3 (k9 - j3)) (σ 3) (upd (σ 5) (j3) (nI ((σ 5 j3).toNatClampNeg + 1))) (upd (σ 4) (((3 * j3) + (σ 5 j3).toNatClampNeg)) (nI j6)) k9)) (τ)) H := hP
                    have hD : va_D A (mW G mo ad (st (su (su (su σ 0 (0) (0)) 4 (((3 * j3) + (σ 5 j3).toNatClampNeg)) (nI j6)) 5 (j3) (nI ((σ 5 j3).toNatClampNeg + 1))) 6 (recF (reF (σ 6) (σ 3) (upd (σ 5) j3 (nI ((σ 5 j3).toNatClampNeg + 1))) (upd (σ 4) (3 * j3 + (σ 5 j3).toNatClampNeg) (nI j6)) j3 (k9 - j3)) (σ 3) (upd (σ 5) (j3) (nI ((σ 5 j3).toNatClampNeg + 1))) (upd (σ 4) (((3 * j3) + (σ 5 j3).toNatClampNeg)) (nI j6)) k9)) (τ)) := hD
                    refine lv_iinc (v := nI (k9 + 1)) (lv' := [(3, .int (nI (k9 + 1))), (0, .ref mo), (1, .int (nI j3)), (2, .int (nI j6))]) hx hb dX8_face_146 hl (k := 0) rfl (nI_1 _) (by decide) rfl (fun ls hl => ?_)
                    refine lv_goto (tgt := 133) hx hb dX8_face_149 (by decide) ?_
                    rw [← reF_s (by omega)] at hP hD
                    exact ih133 _ _ _ (by omega) ⟨lv_sub hl [0, 1, 2, 3] rfl, hP, hD, hS, (by omega)⟩
                · -- 99 not
                  have c13 : (σ 5 j3).toNatClampNeg = 3 := nI_inj (by omega) (by omega) (by have h8 := c13; rw [hfa.1.1] at h8; exact h8)
                  refine lv_bipush (v := -15) hx hb dX8_face_102 (by decide) ?_
                  have ho : oFace σ τ n k (nI j3) (nI j6) = ((-15), su σ 0 (0) (0), τ) := by unfold oFace; simp only [eq_true c2, eq_true c5, eq_true c8, eq_true c9, eq_false (show ¬ ∃ i, i < (σ 5 j3).toNatClampNeg ∧ σ 4 (3 * j3 + i) = nI j6 from fun ⟨i, h8, h9⟩ => hi i (by omega) h9), eq_false c11, eq_true c12, eq_true c13, nI_clamp (show j3 < 2 ^ 31 by omega), nI_clamp (show j6 < 2 ^ 31 by omega), not_true, not_false_iff, not_true_eq_false, not_false_eq_true, true_or, or_true, false_or, or_false, or_self, and_self, true_and, and_true, false_and, and_false, if_true, if_false]; try rfl
                  exact mu_iret (v0 := (-15)) (z := (su σ 0 (0) (0), τ)) hx hb hr hlocks hP hD hS dX8_face_104 (by rw [ho]) (by rw [ho])
              · -- 86 not
                refine lv_bipush (v := -14) hx hb dX8_face_89 (by decide) ?_
                have ho : oFace σ τ n k (nI j3) (nI j6) = ((-14), su σ 0 (0) (0), τ) := by unfold oFace; simp only [eq_true c2, eq_true c5, eq_true c8, eq_true c9, eq_false (show ¬ ∃ i, i < (σ 5 j3).toNatClampNeg ∧ σ 4 (3 * j3 + i) = nI j6 from fun ⟨i, h8, h9⟩ => hi i (by omega) h9), eq_false c11, eq_false c12, nI_clamp (show j3 < 2 ^ 31 by omega), nI_clamp (show j6 < 2 ^ 31 by omega), not_true, not_false_iff, not_true_eq_false, not_false_eq_true, true_or, or_true, false_or, or_false, or_self, and_self, true_and, and_true, false_and, and_false, if_true, if_false]; try rfl
                exact mu_iret (v0 := (-14)) (z := (su σ 0 (0) (0), τ)) hx hb hr hlocks hP hD hS dX8_face_91 (by rw [ho]) (by rw [ho])
          · -- 49 not
            have c10 : ¬ (σ 5 j3).toNatClampNeg ≤ k9 := fun h9 => c10 (by rw [hfa.1.1]; exact (nI_leI (a := (σ 5 j3).toNatClampNeg) (b := k9) (by omega) (by omega)).mpr h9)
            refine lv_aload_n hx hb dX8_face_52 rfl (lv_at hl 1 rfl) ?_
            refine va_get (D := D) (ci := 8) (v := .ref ((ad 4))) (C := RX8) (T := TX8) (N := 33) hx hb hts iX8 hown hK.1 hP 0 rfl rfl 4 (by decide) (hts _ q_683) (fun _ h9 => h9) rfl dX8_face_53 ?_
            refine lv_iconst (v := 3) hx hb dX8_face_56 (by decide) ?_
            refine lv_iload_n hx hb dX8_face_57 rfl (lv_at hl 2 rfl) ?_
            refine lv_imul hx hb dX8_face_58 ?_
            refine lv_iload_n hx hb dX8_face_59 rfl (lv_at hl 0 rfl) ?_
            refine lv_iadd hx hb dX8_face_60 ?_
            refine iald_n (f := σ 4) hx hb hK.1 hP 3 0 rfl rfl (((3 * j3) + k9)) (n_add (a := (3 * j3)) (b := k9) (n_mul (a := 3) (b := j3) (rfl : (3 : Int32) = nI 3) rfl) rfl) (by omega) (by decide) dX8_face_61 ?_
            refine lv_iload_n hx hb dX8_face_62 rfl (lv_at hl 3 rfl) ?_
            refine lv_icmp_ne (tgt := 69) hx hb dX8_face_63 (by decide) (fun c15 => ?_) (fun c15 => ?_)
            · -- 63 taken
              refine lv_iinc (v := nI (k9 + 1)) (lv' := [(3, .int (nI (k9 + 1))), (0, .ref mo), (1, .int (nI j3)), (2, .int (nI j6))]) hx hb dX8_face_69 hl (k := 0) rfl (nI_1 _) (by decide) rfl (fun ls hl => ?_)
              refine lv_goto (tgt := 42) hx hb dX8_face_72 (by decide) ?_
              exact ih _ (by omega) ⟨lv_sub hl [0, 1, 2, 3] rfl, fun i h8 => by rcases Nat.lt_or_ge i k9 with h9 | h9; exact hi i h9; rw [show i = k9 by omega]; exact c15⟩
            · -- 63 not
              refine lv_bipush (v := -14) hx hb dX8_face_66 (by decide) ?_
              have ho : oFace σ τ n k (nI j3) (nI j6) = ((-14), su σ 0 (0) (0), τ) := by unfold oFace; simp only [eq_true c2, eq_true c5, eq_true c8, eq_true c9, eq_true (show ∃ i, i < (σ 5 j3).toNatClampNeg ∧ σ 4 (3 * j3 + i) = nI j6 from ⟨k9, by omega, c15⟩), nI_clamp (show j3 < 2 ^ 31 by omega), nI_clamp (show j6 < 2 ^ 31 by omega), not_true, not_false_iff, not_true_eq_false, not_false_eq_true, true_or, or_true, false_or, or_false, or_self, and_self, true_and, and_true, false_and, and_false, if_true, if_false]; try rfl
              exact mu_iret (v0 := (-14)) (z := (su σ 0 (0) (0), τ)) hx hb hr hlocks hP hD hS dX8_face_68 (by rw [ho]) (by rw [ho])
        · -- 34 not
          have c9 : ¬ j6 < j3 := fun h9 => c9 (by exact (nI_ltI (a := j6) (b := j3) (by omega) (by omega)).mpr h9)
          refine lv_bipush (v := -13) hx hb dX8_face_37 (by decide) ?_
          have ho : oFace σ τ n k (nI j3) (nI j6) = ((-13), su σ 0 (0) (0), τ) := by unfold oFace; simp only [eq_true c2, eq_true c5, eq_true c8, eq_false c9, nI_clamp (show j3 < 2 ^ 31 by omega), nI_clamp (show j6 < 2 ^ 31 by omega), not_true, not_false_iff, not_true_eq_false, not_false_eq_true, true_or, or_true, false_or, or_false, or_self, and_self, true_and, and_true, false_and, and_false, if_true, if_false]; try rfl
          exact mu_iret (v0 := (-13)) (z := (su σ 0 (0) (0), τ)) hx hb hr hlocks hP hD hS dX8_face_39 (by rw [ho]) (by rw [ho])
      · -- 26 not
        have c8 := bI_0 c8
        refine lv_bipush (v := -11) hx hb dX8_face_29 (by decide) ?_
        have ho : oFace σ τ n k (nI j3) (nI j6) = ((-11), su σ 0 (0) (0), τ) := by unfold oFace; simp only [eq_true c2, eq_true c5, eq_false c8, nI_clamp (show j3 < 2 ^ 31 by omega), nI_clamp (show j6 < 2 ^ 31 by omega), not_true, not_false_iff, not_true_eq_false, not_false_eq_true, true_or, or_true, false_or, or_false, or_self, and_self, true_and, and_true, false_and, and_false, if_true, if_false]; try rfl
        exact mu_iret (v0 := (-11)) (z := (su σ 0 (0) (0), τ)) hx hb hr hlocks hP hD hS dX8_face_31 (by rw [ho]) (by rw [ho])
set_option maxHeartbeats 4000000 in
set_option maxRecDepth 100000 in
theorem m_argument (l : Launch) (D : va_G) (G : Nat → ClassId) (mo : Nat) (ad : Nat → Nat) (σ : MS) (τ : Nat → Int64) (sz : Nat) (n : Nat) (h1 : σ 1 0 = nI n) (hn : n ≤ 12) (w0 : Nat) (h22 : σ 22 0 = nI w0) (hw : w0 ≤ 5) (kind : Int32) (dd : Int32) : Met l yX8_argument (ww yX8_argument cX8_argument 3 (some .int)) (rmD 3) (muP D G sz mo ad (σ, τ) [.ref mo, .int kind, .int dd]) (muQi D G mo ad (muA G mo ad (σ, τ) sz) (oArg σ τ n w0 kind dd).1 (oArg σ τ n w0 kind dd).2) 0 0 (muA G mo ad (σ, τ) sz) := by
  refine Met.ofW (cc := cX8_argument) (maxL := 3) (ret := (some .int)) (by decide) rfl ?_
  intro p e s m args below meth c s₁ B hml hv
  obtain ⟨rfl, hsz, hP, hK, hD0⟩ := hv
  have hx := B.exec
  have hb := B.bytes
  have hr := B.returns
  have hts : ∀ w ∈ TT, w.before _ s = true := fun w h => atoms_spec (ws := ww yX8_argument cX8_argument 3 (some .int)) B.pre w (List.mem_cons_of_mem _ h)
  have hown : s.vm.findClass RX8 = some m.cls := findClass_of_methodNamed B.named
  have hlocks := B.notSynchronized
  subst hsz
  have hD : va_D (muA G mo ad (σ, τ) s.heap.size) (mW G mo ad σ τ) := hD0.self
  generalize hAe : muA G mo ad (σ, τ) s.heap.size = A at hD ⊢
  have hA : ∀ q : Nat, s.heap.size ≤ q → A q := fun q h => by rw [← hAe]; exact Or.inr h
  have hS : va_S A s.heap s.heap [] := va_S.rf
  have hP : va_P D vwCl (mW G mo ad σ τ) s.heap := hP
  have hl := lv_entry ([.ref mo, .int kind, .int dd]) (n := 3) (Nat.le_of_ble_eq_true rfl)
  rw [lg_entry_eq]
  generalize (lg_sl ([.ref mo, .int kind, .int dd]) ++ List.replicate (3 - (lg_sl ([.ref mo, .int kind, .int dd])).length) Slot.unset).toArray = ls at hl ⊢
  have hl : lv_has ls 3 [(0, .ref mo), (1, .int kind), (2, .int dd)] := hl
  refine lv_aload_n hx hb dX8_argument_0 rfl (lv_at hl 0 rfl) ?_
  refine lv_iconst (v := 0) hx hb dX8_argument_1 (by decide) ?_
  refine va_put (D := D) (ci := 8) (v := .int 0) (ty := .int) (C := RX8) (T := TX8) (N := 33) hx hb hts iX8 tyX8 tyX8_ok nmX8 hown hK.1 hP hD hS 0 rfl rfl 0 (by decide) (hts _ q_679) (fun _ h9 => h9) rfl (by decide +kernel) rfl rfl (Nat.le_of_ble_eq_true rfl) dX8_argument_2 (fun H locs hP hD hS => ?_)
  have hP : va_P D vwCl (mW G mo ad (su σ 0 (0) (0)) (τ)) H := hP
  have hD : va_D A (mW G mo ad (su σ 0 (0) (0)) (τ)) := hD
  refine lv_aload_n hx hb dX8_argument_5 rfl (lv_at hl 0 rfl) ?_
  refine lv_iload_n hx hb dX8_argument_6 rfl (lv_at hl 1 rfl) ?_
  refine ro_Vi (D := D) (G := G) (As := [.int kind]) (rest := []) ⟨hx, hb, hml, hown, hts⟩ (m_noKind l D G _ mo ad _ _ hP n h1 hn kind) gV_X8_X8_noKind hdV_X8_noKind ⟨Nat.le_of_ble_eq_true rfl, Nat.le_of_ble_eq_true rfl⟩ hK (va_recv hK.1 hP (ci := 8) (q0 := 0) rfl rfl) rfl hl.1 rfl (Nat.le_of_ble_eq_true rfl) dX8_argument_7 ⟨Nat.le_of_ble_eq_true rfl, Nat.le_of_ble_eq_true rfl⟩ (fun r1 e_r1 => ?_)
  subst e_r1
  refine W.eq (g2 := F0 m 10 ls [.int (bI (noK n kind))]) rfl ?_
  refine lv_if_eq (tgt := 16) hx hb dX8_argument_10 (by decide) (fun c2 => ?_) (fun c2 => ?_)
  · -- 10 taken
    have c2 := bI_0 c2
    refine lv_iload_n hx hb dX8_argument_16 rfl (lv_at hl 1 rfl) ?_
    refine lv_iconst (v := 1) hx hb dX8_argument_17 (by decide) ?_
    refine lv_icmp_lt (tgt := 40) hx hb dX8_argument_18 (by decide) (fun c3 => ?_) (fun c3 => ?_)
    · -- 18 taken
      refine lv_bipush (v := -13) hx hb dX8_argument_40 (by decide) ?_
      have ho : oArg σ τ n w0 kind dd = ((-13), su σ 0 (0) (0), τ) := by unfold oArg; simp only [eq_false c2, eq_true c3, not_true, not_false_iff, not_true_eq_false, not_false_eq_true, true_or, or_true, false_or, or_false, or_self, and_self, true_and, and_true, false_and, and_false, if_true, if_false]; try rfl
      exact mu_iret (v0 := (-13)) (z := (su σ 0 (0) (0), τ)) hx hb hr hlocks hP hD hS dX8_argument_42 (by rw [ho]) (by rw [ho])
    · -- 18 not
      refine lv_iload_n hx hb dX8_argument_21 rfl (lv_at hl 2 rfl) ?_
      refine lv_iconst (v := 0) hx hb dX8_argument_22 (by decide) ?_
      refine lv_iconst (v := 3) hx hb dX8_argument_23 (by decide) ?_
      refine ro_Si (D := D) (G := G) (As := [.int dd, .int 0, .int 3]) (rest := []) ⟨hx, hb, hml, hown, hts⟩ (m_in l D G _ dd 0 3) gS_X8_X8_in hdS_X8_in ⟨Nat.le_of_ble_eq_true rfl, Nat.le_of_ble_eq_true rfl⟩ hK rfl hl.1 rfl (Nat.le_of_ble_eq_true rfl) dX8_argument_24 ⟨Nat.le_of_ble_eq_true rfl, Nat.le_of_ble_eq_true rfl⟩ (fun r4 e_r4 => ?_)
      subst e_r4
      refine W.eq (g2 := F0 m 27 ls [.int (bI (0 ≤ dd ∧ dd ≤ 3))]) rfl ?_
      refine lv_if_eq (tgt := 40) hx hb dX8_argument_27 (by decide) (fun c5 => ?_) (fun c5 => ?_)
      · -- 27 taken
        have c5 := bI_0 c5
        refine lv_bipush (v := -13) hx hb dX8_argument_40 (by decide) ?_
        have ho : oArg σ τ n w0 kind dd = ((-13), su σ 0 (0) (0), τ) := by unfold oArg; simp only [eq_false c2, eq_false c3, eq_false c5, not_true, not_false_iff, not_true_eq_false, not_false_eq_true, true_or, or_true, false_or, or_false, or_self, and_self, true_and, and_true, false_and, and_false, if_true, if_false]; try rfl
        exact mu_iret (v0 := (-13)) (z := (su σ 0 (0) (0), τ)) hx hb hr hlocks hP hD hS dX8_argument_42 (by rw [ho]) (by rw [ho])
      · -- 27 not
        have c5 := bI_1 c5
        refine lv_iload_n hx hb dX8_argument_30 rfl (lv_at hl 1 rfl) ?_
        refine lv_bipush (v := 9) hx hb dX8_argument_31 (by decide) ?_
        refine lv_icmp_ne (tgt := 43) hx hb dX8_argument_33 (by decide) (fun c6 => ?_) (fun c6 => ?_)
        · -- 33 taken
          refine lv_aload_n hx hb dX8_argument_43 rfl (lv_at hl 0 rfl) ?_
          refine va_get (D := D) (ci := 8) (v := .int (σ 22 0)) (C := RX8) (T := TX8) (N := 33) hx hb hts iX8 hown hK.1 hP 0 rfl rfl 22 (by decide) (hts _ q_701) (fun _ h9 => h9) rfl dX8_argument_44 ?_
          refine lv_iconst (v := 5) hx hb dX8_argument_47 (by decide) ?_
          refine lv_icmp_ne (tgt := 54) hx hb dX8_argument_48 (by decide) (fun c7 => ?_) (fun c7 => ?_)
          · -- 48 taken
            have c7 : ¬ w0 = 5 := fun h9 => c7 (by first | (rw [h22, h9]; done) | (rw [h22, h9]; rfl))
            refine lv_aload_n hx hb dX8_argument_54 rfl (lv_at hl 0 rfl) ?_
            refine va_get (D := D) (ci := 8) (v := .ref ((ad 23))) (C := RX8) (T := TX8) (N := 33) hx hb hts iX8 hown hK.1 hP 0 rfl rfl 23 (by decide) (hts _ q_702) (fun _ h9 => h9) rfl dX8_argument_55 ?_
            refine lv_aload_n hx hb dX8_argument_58 rfl (lv_at hl 0 rfl) ?_
            refine va_get (D := D) (ci := 8) (v := .int (σ 22 0)) (C := RX8) (T := TX8) (N := 33) hx hb hts iX8 hown hK.1 hP 0 rfl rfl 22 (by decide) (hts _ q_701) (fun _ h9 => h9) rfl dX8_argument_59 ?_
            refine lv_iload_n hx hb dX8_argument_62 rfl (lv_at hl 1 rfl) ?_
            refine iast_n hx hb hK.1 hP hD hS 19 0 rfl rfl (w0) h22 (by omega) (by decide) dX8_argument_63 (fun H locs hP hD hS => ?_)
            have hP : va_P D vwCl (mW G mo ad (su (su σ 0 (0) (0)) 23 (w0) (kind)) (τ)) H := hP
            have hD : va_D A (mW G mo ad (su (su σ 0 (0) (0)) 23 (w0) (kind)) (τ)) := hD
            refine lv_aload_n hx hb dX8_argument_64 rfl (lv_at hl 0 rfl) ?_
            refine va_get (D := D) (ci := 8) (v := .ref ((ad 24))) (C := RX8) (T := TX8) (N := 33) hx hb hts iX8 hown hK.1 hP 0 rfl rfl 24 (by decide) (hts _ q_703) (fun _ h9 => h9) rfl dX8_argument_65 ?_
            refine lv_aload_n hx hb dX8_argument_68 rfl (lv_at hl 0 rfl) ?_
            refine va_get (D := D) (ci := 8) (v := .int (σ 22 0)) (C := RX8) (T := TX8) (N := 33) hx hb hts iX8 hown hK.1 hP 0 rfl rfl 22 (by decide) (hts _ q_701) (fun _ h9 => h9) rfl dX8_argument_69 ?_
            refine lv_iload_n hx hb dX8_argument_72 rfl (lv_at hl 2 rfl) ?_
            refine iast_n hx hb hK.1 hP hD hS 20 0 rfl rfl (w0) h22 (by omega) (by decide) dX8_argument_73 (fun H locs hP hD hS => ?_)
            have hP : va_P D vwCl (mW G mo ad (su (su (su σ 0 (0) (0)) 23 (w0) (kind)) 24 (w0) (dd)) (τ)) H := hP
            have hD : va_D A (mW G mo ad (su (su (su σ 0 (0) (0)) 23 (w0) (kind)) 24 (w0) (dd)) (τ)) := hD
            refine lv_aload_n hx hb dX8_argument_74 rfl (lv_at hl 0 rfl) ?_
            refine lv_dup hx hb dX8_argument_75 rfl ?_
            refine va_get (D := D) (ci := 8) (v := .int (σ 22 0)) (C := RX8) (T := TX8) (N := 33) hx hb hts iX8 hown hK.1 hP 0 rfl rfl 22 (by decide) (hts _ q_701) (fun _ h9 => h9) rfl dX8_argument_76 ?_
            refine lv_iconst (v := 1) hx hb dX8_argument_79 (by decide) ?_
            refine lv_iadd hx hb dX8_argument_80 ?_
            refine W.eq (g2 := F0 m 81 ls [.int (nI (w0 + 1)), .ref mo]) (congrArg (fun z9 => F0 m 81 ls [.int z9, .ref mo]) (n_add (a := w0) (b := 1) h22 (rfl : (1 : Int32) = nI 1))) ?_
            refine va_put (D := D) (ci := 8) (v := .int (nI (w0 + 1))) (ty := .int) (C := RX8) (T := TX8) (N := 33) hx hb hts iX8 tyX8 tyX8_ok nmX8 hown hK.1 hP hD hS 0 rfl rfl 22 (by decide) (hts _ q_701) (fun _ h9 => h9) rfl (by decide +kernel) rfl rfl (Nat.le_of_ble_eq_true rfl) dX8_argument_81 (fun H locs hP hD hS => ?_)
            have hP : va_P D vwCl (mW G mo ad (su (su (su (su σ 0 (0) (0)) 23 (w0) (kind)) 24 (w0) (dd)) 22 (0) (nI (w0 + 1))) (τ)) H := hP
            have hD : va_D A (mW G mo ad (su (su (su (su σ 0 (0) (0)) 23 (w0) (kind)) 24 (w0) (dd)) 22 (0) (nI (w0 + 1))) (τ)) := hD
            refine lv_aload_n hx hb dX8_argument_84 rfl (lv_at hl 0 rfl) ?_
            refine va_get (D := D) (ci := 8) (v := .int (nI (w0 + 1))) (C := RX8) (T := TX8) (N := 33) hx hb hts iX8 hown hK.1 hP 0 rfl rfl 22 (by decide) (hts _ q_701) (fun _ h9 => h9) rfl dX8_argument_85 ?_
            have ho : oArg σ τ n w0 kind dd = (nI (w0 + 1), su (su (su (su σ 0 (0) (0)) 23 (w0) (kind)) 24 (w0) (dd)) 22 (0) (nI (w0 + 1)), τ) := by unfold oArg; simp only [eq_false c2, eq_false c3, eq_true c5, eq_false c6, eq_false c7, not_true, not_false_iff, not_true_eq_false, not_false_eq_true, true_or, or_true, false_or, or_false, or_self, and_self, true_and, and_true, false_and, and_false, if_true, if_false]; try rfl
            exact mu_iret (v0 := nI (w0 + 1)) (z := (su (su (su (su σ 0 (0) (0)) 23 (w0) (kind)) 24 (w0) (dd)) 22 (0) (nI (w0 + 1)), τ)) hx hb hr hlocks hP hD hS dX8_argument_88 (by rw [ho]) (by rw [ho])
          · -- 48 not
            have c7 : w0 = 5 := nI_inj (by omega) (by omega) (by have h8 := c7; rw [h22] at h8; exact h8)
            refine lv_bipush (v := -15) hx hb dX8_argument_51 (by decide) ?_
            have ho : oArg σ τ n w0 kind dd = ((-15), su σ 0 (0) (0), τ) := by unfold oArg; simp only [eq_false c2, eq_false c3, eq_true c5, eq_false c6, eq_true c7, not_true, not_false_iff, not_true_eq_false, not_false_eq_true, true_or, or_true, false_or, or_false, or_self, and_self, true_and, and_true, false_and, and_false, if_true, if_false]; try rfl
            exact mu_iret (v0 := (-15)) (z := (su σ 0 (0) (0), τ)) hx hb hr hlocks hP hD hS dX8_argument_53 (by rw [ho]) (by rw [ho])
        · -- 33 not
          refine lv_iload_n hx hb dX8_argument_36 rfl (lv_at hl 2 rfl) ?_
          refine lv_if_le (tgt := 43) hx hb dX8_argument_37 (by decide) (fun c8 => ?_) (fun c8 => ?_)
          · -- 37 taken
            refine lv_aload_n hx hb dX8_argument_43 rfl (lv_at hl 0 rfl) ?_
            refine va_get (D := D) (ci := 8) (v := .int (σ 22 0)) (C := RX8) (T := TX8) (N := 33) hx hb hts iX8 hown hK.1 hP 0 rfl rfl 22 (by decide) (hts _ q_701) (fun _ h9 => h9) rfl dX8_argument_44 ?_
            refine lv_iconst (v := 5) hx hb dX8_argument_47 (by decide) ?_
            refine lv_icmp_ne (tgt := 54) hx hb dX8_argument_48 (by decide) (fun c9 => ?_) (fun c9 => ?_)
            · -- 48 taken
              have c9 : ¬ w0 = 5 := fun h9 => c9 (by first | (rw [h22, h9]; done) | (rw [h22, h9]; rfl))
              refine lv_aload_n hx hb dX8_argument_54 rfl (lv_at hl 0 rfl) ?_
              refine va_get (D := D) (ci := 8) (v := .ref ((ad 23))) (C := RX8) (T := TX8) (N := 33) hx hb hts iX8 hown hK.1 hP 0 rfl rfl 23 (by decide) (hts _ q_702) (fun _ h9 => h9) rfl dX8_argument_55 ?_
              refine lv_aload_n hx hb dX8_argument_58 rfl (lv_at hl 0 rfl) ?_
              refine va_get (D := D) (ci := 8) (v := .int (σ 22 0)) (C := RX8) (T := TX8) (N := 33) hx hb hts iX8 hown hK.1 hP 0 rfl rfl 22 (by decide) (hts _ q_701) (fun _ h9 => h9) rfl dX8_argument_59 ?_
              refine lv_iload_n hx hb dX8_argument_62 rfl (lv_at hl 1 rfl) ?_
              refine iast_n hx hb hK.1 hP hD hS 19 0 rfl rfl (w0) h22 (by omega) (by decide) dX8_argument_63 (fun H locs hP hD hS => ?_)
              have hP : va_P D vwCl (mW G mo ad (su (su σ 0 (0) (0)) 23 (w0) (kind)) (τ)) H := hP
              have hD : va_D A (mW G mo ad (su (su σ 0 (0) (0)) 23 (w0) (kind)) (τ)) := hD
              refine lv_aload_n hx hb dX8_argument_64 rfl (lv_at hl 0 rfl) ?_
              refine va_get (D := D) (ci := 8) (v := .ref ((ad 24))) (C := RX8) (T := TX8) (N := 33) hx hb hts iX8 hown hK.1 hP 0 rfl rfl 24 (by decide) (hts _ q_703) (fun _ h9 => h9) rfl dX8_argument_65 ?_
              refine lv_aload_n hx hb dX8_argument_68 rfl (lv_at hl 0 rfl) ?_
              refine va_get (D := D) (ci := 8) (v := .int (σ 22 0)) (C := RX8) (T := TX8) (N := 33) hx hb hts iX8 hown hK.1 hP 0 rfl rfl 22 (by decide) (hts _ q_701) (fun _ h9 => h9) rfl dX8_argument_69 ?_
              refine lv_iload_n hx hb dX8_argument_72 rfl (lv_at hl 2 rfl) ?_
              refine iast_n hx hb hK.1 hP hD hS 20 0 rfl rfl (w0) h22 (by omega) (by decide) dX8_argument_73 (fun H locs hP hD hS => ?_)
              have hP : va_P D vwCl (mW G mo ad (su (su (su σ 0 (0) (0)) 23 (w0) (kind)) 24 (w0) (dd)) (τ)) H := hP
              have hD : va_D A (mW G mo ad (su (su (su σ 0 (0) (0)) 23 (w0) (kind)) 24 (w0) (dd)) (τ)) := hD
              refine lv_aload_n hx hb dX8_argument_74 rfl (lv_at hl 0 rfl) ?_
              refine lv_dup hx hb dX8_argument_75 rfl ?_
              refine va_get (D := D) (ci := 8) (v := .int (σ 22 0)) (C := RX8) (T := TX8) (N := 33) hx hb hts iX8 hown hK.1 hP 0 rfl rfl 22 (by decide) (hts _ q_701) (fun _ h9 => h9) rfl dX8_argument_76 ?_
              refine lv_iconst (v := 1) hx hb dX8_argument_79 (by decide) ?_
              refine lv_iadd hx hb dX8_argument_80 ?_
              refine W.eq (g2 := F0 m 81 ls [.int (nI (w0 + 1)), .ref mo]) (congrArg (fun z9 => F0 m 81 ls [.int z9, .ref mo]) (n_add (a := w0) (b := 1) h22 (rfl : (1 : Int32) = nI 1))) ?_
              refine va_put (D := D) (ci := 8) (v := .int (nI (w0 + 1))) (ty := .int) (C := RX8) (T := TX8) (N := 33) hx hb hts iX8 tyX8 tyX8_ok nmX8 hown hK.1 hP hD hS 0 rfl rfl 22 (by decide) (hts _ q_701) (fun _ h9 => h9) rfl (by decide +kernel) rfl rfl (Nat.le_of_ble_eq_true rfl) dX8_argument_81 (fun H locs hP hD hS => ?_)
              have hP : va_P D vwCl (mW G mo ad (su (su (su (su σ 0 (0) (0)) 23 (w0) (kind)) 24 (w0) (dd)) 22 (0) (nI (w0 + 1))) (τ)) H := hP
              have hD : va_D A (mW G mo ad (su (su (su (su σ 0 (0) (0)) 23 (w0) (kind)) 24 (w0) (dd)) 22 (0) (nI (w0 + 1))) (τ)) := hD
              refine lv_aload_n hx hb dX8_argument_84 rfl (lv_at hl 0 rfl) ?_
              refine va_get (D := D) (ci := 8) (v := .int (nI (w0 + 1))) (C := RX8) (T := TX8) (N := 33) hx hb hts iX8 hown hK.1 hP 0 rfl rfl 22 (by decide) (hts _ q_701) (fun _ h9 => h9) rfl dX8_argument_85 ?_
              have ho : oArg σ τ n w0 kind dd = (nI (w0 + 1), su (su (su (su σ 0 (0) (0)) 23 (w0) (kind)) 24 (w0) (dd)) 22 (0) (nI (w0 + 1)), τ) := by unfold oArg; simp only [eq_false c2, eq_false c3, eq_true c5, eq_true c6, eq_true c8, eq_false c9, not_true, not_false_iff, not_true_eq_false, not_false_eq_true, true_or, or_true, false_or, or_false, or_self, and_self, true_and, and_true, false_and, and_false, if_true, if_false]; try rfl
              exact mu_iret (v0 := nI (w0 + 1)) (z := (su (su (su (su σ 0 (0) (0)) 23 (w0) (kind)) 24 (w0) (dd)) 22 (0) (nI (w0 + 1)), τ)) hx hb hr hlocks hP hD hS dX8_argument_88 (by rw [ho]) (by rw [ho])
            · -- 48 not
              have c9 : w0 = 5 := nI_inj (by omega) (by omega) (by have h8 := c9; rw [h22] at h8; exact h8)
              refine lv_bipush (v := -15) hx hb dX8_argument_51 (by decide) ?_
              have ho : oArg σ τ n w0 kind dd = ((-15), su σ 0 (0) (0), τ) := by unfold oArg; simp only [eq_false c2, eq_false c3, eq_true c5, eq_true c6, eq_true c8, eq_true c9, not_true, not_false_iff, not_true_eq_false, not_false_eq_true, true_or, or_true, false_or, or_false, or_self, and_self, true_and, and_true, false_and, and_false, if_true, if_false]; try rfl
              exact mu_iret (v0 := (-15)) (z := (su σ 0 (0) (0), τ)) hx hb hr hlocks hP hD hS dX8_argument_53 (by rw [ho]) (by rw [ho])
          · -- 37 not
            refine lv_bipush (v := -13) hx hb dX8_argument_40 (by decide) ?_
            have ho : oArg σ τ n w0 kind dd = ((-13), su σ 0 (0) (0), τ) := by unfold oArg; simp only [eq_false c2, eq_false c3, eq_true c5, eq_true c6, eq_false c8, not_true, not_false_iff, not_true_eq_false, not_false_eq_true, true_or, or_true, false_or, or_false, or_self, and_self, true_and, and_true, false_and, and_false, if_true, if_false]; try rfl
            exact mu_iret (v0 := (-13)) (z := (su σ 0 (0) (0), τ)) hx hb hr hlocks hP hD hS dX8_argument_42 (by rw [ho]) (by rw [ho])
  · -- 10 not
    have c2 := bI_1 c2
    refine lv_bipush (v := -11) hx hb dX8_argument_13 (by decide) ?_
    have ho : oArg σ τ n w0 kind dd = ((-11), su σ 0 (0) (0), τ) := by unfold oArg; simp only [eq_true c2, not_true, not_false_iff, not_true_eq_false, not_false_eq_true, true_or, or_true, false_or, or_false, or_self, and_self, true_and, and_true, false_and, and_false, if_true, if_false]; try rfl
    exact mu_iret (v0 := (-11)) (z := (su σ 0 (0) (0), τ)) hx hb hr hlocks hP hD hS dX8_argument_15 (by rw [ho]) (by rw [ho])
set_option maxHeartbeats 4000000 in
set_option maxRecDepth 100000 in
theorem m_parameter (l : Launch) (D : va_G) (G : Nat → ClassId) (mo : Nat) (ad : Nat → Nat) (σ : MS) (τ : Nat → Int64) (sz : Nat) (n : Nat) (h1 : σ 1 0 = nI n) (hn : n ≤ 12) (k : Nat) (h7 : σ 7 0 = nI k) (hk60 : k ≤ 60) (hk59 : ¬ σ 21 0 = 0 → k < 60) (hm : okM σ k) (kind : Int32) (dd : Int32) (vr : Int32) (hvr : vr = 0 ∨ vr = 1) : Met l yX8_parameter (ww yX8_parameter cX8_parameter 5 (some .int)) (rmD 3) (muP D G sz mo ad (σ, τ) [.ref mo, .int kind, .int dd, .int vr]) (muQi D G mo ad (muA G mo ad (σ, τ) sz) (oPar σ τ n k kind dd vr).1 (oPar σ τ n k kind dd vr).2) 0 0 (muA G mo ad (σ, τ) sz) := by
  refine Met.ofW (cc := cX8_parameter) (maxL := 5) (ret := (some .int)) (by decide) rfl ?_
  intro p e s m args below meth c s₁ B hml hv
  obtain ⟨rfl, hsz, hP, hK, hD0⟩ := hv
  have hx := B.exec
  have hb := B.bytes
  have hr := B.returns
  have hts : ∀ w ∈ TT, w.before _ s = true := fun w h => atoms_spec (ws := ww yX8_parameter cX8_parameter 5 (some .int)) B.pre w (List.mem_cons_of_mem _ h)
  have hown : s.vm.findClass RX8 = some m.cls := findClass_of_methodNamed B.named
  have hlocks := B.notSynchronized
  subst hsz
  have hD : va_D (muA G mo ad (σ, τ) s.heap.size) (mW G mo ad σ τ) := hD0.self
  generalize hAe : muA G mo ad (σ, τ) s.heap.size = A at hD ⊢
  have hA : ∀ q : Nat, s.heap.size ≤ q → A q := fun q h => by rw [← hAe]; exact Or.inr h
  have hS : va_S A s.heap s.heap [] := va_S.rf
  have hP : va_P D vwCl (mW G mo ad σ τ) s.heap := hP
  have hl := lv_entry ([.ref mo, .int kind, .int dd, .int vr]) (n := 5) (Nat.le_of_ble_eq_true rfl)
  rw [lg_entry_eq]
  generalize (lg_sl ([.ref mo, .int kind, .int dd, .int vr]) ++ List.replicate (5 - (lg_sl ([.ref mo, .int kind, .int dd, .int vr])).length) Slot.unset).toArray = ls at hl ⊢
  have hl : lv_has ls 5 [(0, .ref mo), (1, .int kind), (2, .int dd), (3, .int vr)] := hl
  refine lv_aload_n hx hb dX8_parameter_0 rfl (lv_at hl 0 rfl) ?_
  refine lv_iconst (v := 0) hx hb dX8_parameter_1 (by decide) ?_
  refine va_put (D := D) (ci := 8) (v := .int 0) (ty := .int) (C := RX8) (T := TX8) (N := 33) hx hb hts iX8 tyX8 tyX8_ok nmX8 hown hK.1 hP hD hS 0 rfl rfl 0 (by decide) (hts _ q_679) (fun _ h9 => h9) rfl (by decide +kernel) rfl rfl (Nat.le_of_ble_eq_true rfl) dX8_parameter_2 (fun H locs hP hD hS => ?_)
  have hP : va_P D vwCl (mW G mo ad (su σ 0 (0) (0)) (τ)) H := hP
  have hD : va_D A (mW G mo ad (su σ 0 (0) (0)) (τ)) := hD
  refine lv_aload_n hx hb dX8_parameter_5 rfl (lv_at hl 0 rfl) ?_
  refine va_get (D := D) (ci := 8) (v := .int (σ 21 0)) (C := RX8) (T := TX8) (N := 33) hx hb hts iX8 hown hK.1 hP 0 rfl rfl 21 (by decide) (hts _ q_700) (fun _ h9 => h9) rfl dX8_parameter_6 ?_
  refine lv_if_ne (tgt := 15) hx hb dX8_parameter_9 (by decide) (fun c1 => ?_) (fun c1 => ?_)
  · -- 9 taken
    have hk59 := hk59 c1
    refine lv_aload_n hx hb dX8_parameter_15 rfl (lv_at hl 0 rfl) ?_
    refine lv_iload_n hx hb dX8_parameter_16 rfl (lv_at hl 1 rfl) ?_
    refine ro_Vi (D := D) (G := G) (As := [.int kind]) (rest := []) ⟨hx, hb, hml, hown, hts⟩ (m_noKind l D G _ mo ad _ _ hP n h1 hn kind) gV_X8_X8_noKind hdV_X8_noKind ⟨Nat.le_of_ble_eq_true rfl, Nat.le_of_ble_eq_true rfl⟩ hK (va_recv hK.1 hP (ci := 8) (q0 := 0) rfl rfl) rfl hl.1 rfl (Nat.le_of_ble_eq_true rfl) dX8_parameter_17 ⟨Nat.le_of_ble_eq_true rfl, Nat.le_of_ble_eq_true rfl⟩ (fun r2 e_r2 => ?_)
    subst e_r2
    refine W.eq (g2 := F0 m 20 ls [.int (bI (noK n kind))]) rfl ?_
    refine lv_if_eq (tgt := 26) hx hb dX8_parameter_20 (by decide) (fun c3 => ?_) (fun c3 => ?_)
    · -- 20 taken
      have c3 := bI_0 c3
      refine lv_iload_n hx hb dX8_parameter_26 rfl (lv_at hl 1 rfl) ?_
      refine lv_if_lt (tgt := 53) hx hb dX8_parameter_27 (by decide) (fun c4 => ?_) (fun c4 => ?_)
      · -- 27 taken
        refine lv_bipush (v := -13) hx hb dX8_parameter_53 (by decide) ?_
        have ho : oPar σ τ n k kind dd vr = ((-13), su σ 0 (0) (0), τ) := by unfold oPar; simp only [eq_false c1, eq_false c3, eq_true c4, not_true, not_false_iff, not_true_eq_false, not_false_eq_true, true_or, or_true, false_or, or_false, or_self, and_self, true_and, and_true, false_and, and_false, if_true, if_false]; try rfl
        exact mu_iret (v0 := (-13)) (z := (su σ 0 (0) (0), τ)) hx hb hr hlocks hP hD hS dX8_parameter_55 (by rw [ho]) (by rw [ho])
      · -- 27 not
        refine lv_iload_n hx hb dX8_parameter_30 rfl (lv_at hl 1 rfl) ?_
        refine lv_bipush (v := 9) hx hb dX8_parameter_31 (by decide) ?_
        refine lv_icmp_eq (tgt := 53) hx hb dX8_parameter_33 (by decide) (fun c5 => ?_) (fun c5 => ?_)
        · -- 33 taken
          refine lv_bipush (v := -13) hx hb dX8_parameter_53 (by decide) ?_
          have ho : oPar σ τ n k kind dd vr = ((-13), su σ 0 (0) (0), τ) := by unfold oPar; simp only [eq_false c1, eq_false c3, eq_false c4, eq_true c5, not_true, not_false_iff, not_true_eq_false, not_false_eq_true, true_or, or_true, false_or, or_false, or_self, and_self, true_and, and_true, false_and, and_false, if_true, if_false]; try rfl
          exact mu_iret (v0 := (-13)) (z := (su σ 0 (0) (0), τ)) hx hb hr hlocks hP hD hS dX8_parameter_55 (by rw [ho]) (by rw [ho])
        · -- 33 not
          refine lv_iload_n hx hb dX8_parameter_36 rfl (lv_at hl 2 rfl) ?_
          refine lv_iconst (v := 0) hx hb dX8_parameter_37 (by decide) ?_
          refine lv_iconst (v := 3) hx hb dX8_parameter_38 (by decide) ?_
          refine ro_Si (D := D) (G := G) (As := [.int dd, .int 0, .int 3]) (rest := []) ⟨hx, hb, hml, hown, hts⟩ (m_in l D G _ dd 0 3) gS_X8_X8_in hdS_X8_in ⟨Nat.le_of_ble_eq_true rfl, Nat.le_of_ble_eq_true rfl⟩ hK rfl hl.1 rfl (Nat.le_of_ble_eq_true rfl) dX8_parameter_39 ⟨Nat.le_of_ble_eq_true rfl, Nat.le_of_ble_eq_true rfl⟩ (fun r6 e_r6 => ?_)
          subst e_r6
          refine W.eq (g2 := F0 m 42 ls [.int (bI (0 ≤ dd ∧ dd ≤ 3))]) rfl ?_
          refine lv_if_eq (tgt := 53) hx hb dX8_parameter_42 (by decide) (fun c7 => ?_) (fun c7 => ?_)
          · -- 42 taken
            have c7 := bI_0 c7
            refine lv_bipush (v := -13) hx hb dX8_parameter_53 (by decide) ?_
            have ho : oPar σ τ n k kind dd vr = ((-13), su σ 0 (0) (0), τ) := by unfold oPar; simp only [eq_false c1, eq_false c3, eq_false c4, eq_false c5, eq_false c7, not_true, not_false_iff, not_true_eq_false, not_false_eq_true, true_or, or_true, false_or, or_false, or_self, and_self, true_and, and_true, false_and, and_false, if_true, if_false]; try rfl
            exact mu_iret (v0 := (-13)) (z := (su σ 0 (0) (0), τ)) hx hb hr hlocks hP hD hS dX8_parameter_55 (by rw [ho]) (by rw [ho])
          · -- 42 not
            have c7 := bI_1 c7
            refine lv_iload_n hx hb dX8_parameter_45 rfl (lv_at hl 1 rfl) ?_
            refine lv_if_ne (tgt := 56) hx hb dX8_parameter_46 (by decide) (fun c8 => ?_) (fun c8 => ?_)
            · -- 46 taken
              refine lv_aload_n hx hb dX8_parameter_56 rfl (lv_at hl 0 rfl) ?_
              refine va_get (D := D) (ci := 8) (v := .ref ((ad 18))) (C := RX8) (T := TX8) (N := 33) hx hb hts iX8 hown hK.1 hP 0 rfl rfl 18 (by decide) (hts _ q_697) (fun _ h9 => h9) rfl dX8_parameter_57 ?_
              refine lv_aload_n hx hb dX8_parameter_60 rfl (lv_at hl 0 rfl) ?_
              refine va_get (D := D) (ci := 8) (v := .int (σ 7 0)) (C := RX8) (T := TX8) (N := 33) hx hb hts iX8 hown hK.1 hP 0 rfl rfl 7 (by decide) (hts _ q_686) (fun _ h9 => h9) rfl dX8_parameter_61 ?_
              refine iald_n (f := σ 18) hx hb hK.1 hP 16 0 rfl rfl (k) h7 (by omega) (by decide) dX8_parameter_64 ?_
              refine lv_iconst (v := 5) hx hb dX8_parameter_65 (by decide) ?_
              refine lv_icmp_ne (tgt := 72) hx hb dX8_parameter_66 (by decide) (fun c9 => ?_) (fun c9 => ?_)
              · -- 66 taken
                have c9 : ¬ (mnE σ k) = 5 := fun h9 => c9 (by first | (rw [hm.1, h9]; done) | (rw [hm.1, h9]; rfl))
                refine lv_iload_n hx hb dX8_parameter_72 rfl (lv_at hl 1 rfl) ?_
                refine lv_if_ne (tgt := 83) hx hb dX8_parameter_73 (by decide) (fun hh => ?_) (fun hh => absurd hh c8)
                refine lv_aload_n hx hb dX8_parameter_83 rfl (lv_at hl 0 rfl) ?_
                refine va_get (D := D) (ci := 8) (v := .ref ((ad 17))) (C := RX8) (T := TX8) (N := 33) hx hb hts iX8 hown hK.1 hP 0 rfl rfl 17 (by decide) (hts _ q_696) (fun _ h9 => h9) rfl dX8_parameter_84 ?_
                refine lv_aload_n hx hb dX8_parameter_87 rfl (lv_at hl 0 rfl) ?_
                refine va_get (D := D) (ci := 8) (v := .int (σ 7 0)) (C := RX8) (T := TX8) (N := 33) hx hb hts iX8 hown hK.1 hP 0 rfl rfl 7 (by decide) (hts _ q_686) (fun _ h9 => h9) rfl dX8_parameter_88 ?_
                refine zald_n (f := σ 17) hx hb hK.1 hP 15 2 rfl rfl (k) h7 (by omega) (by decide) dX8_parameter_91 ?_
                refine lv_if_eq (tgt := 102) hx hb dX8_parameter_92 (by decide) (fun c11 => ?_) (fun c11 => ?_)
                · -- 92 taken
                  refine lv_iload_n hx hb dX8_parameter_102 rfl (lv_at hl 3 rfl) ?_
                  refine lv_if_eq (tgt := 117) hx hb dX8_parameter_103 (by decide) (fun c12 => ?_) (fun c12 => ?_)
                  · -- 103 taken
                    refine lv_iconst (v := 5) hx hb dX8_parameter_117 (by decide) ?_
                    refine lv_aload_n hx hb dX8_parameter_118 rfl (lv_at hl 0 rfl) ?_
                    refine va_get (D := D) (ci := 8) (v := .int (σ 7 0)) (C := RX8) (T := TX8) (N := 33) hx hb hts iX8 hown hK.1 hP 0 rfl rfl 7 (by decide) (hts _ q_686) (fun _ h9 => h9) rfl dX8_parameter_119 ?_
                    refine lv_imul hx hb dX8_parameter_122 ?_
                    refine lv_aload_n hx hb dX8_parameter_123 rfl (lv_at hl 0 rfl) ?_
                    refine va_get (D := D) (ci := 8) (v := .ref ((ad 18))) (C := RX8) (T := TX8) (N := 33) hx hb hts iX8 hown hK.1 hP 0 rfl rfl 18 (by decide) (hts _ q_697) (fun _ h9 => h9) rfl dX8_parameter_124 ?_
                    refine lv_aload_n hx hb dX8_parameter_127 rfl (lv_at hl 0 rfl) ?_
                    refine va_get (D := D) (ci := 8) (v := .int (σ 7 0)) (C := RX8) (T := TX8) (N := 33) hx hb hts iX8 hown hK.1 hP 0 rfl rfl 7 (by decide) (hts _ q_686) (fun _ h9 => h9) rfl dX8_parameter_128 ?_
                    refine iald_n (f := σ 18) hx hb hK.1 hP 16 0 rfl rfl (k) h7 (by omega) (by decide) dX8_parameter_131 ?_
                    refine lv_iadd hx hb dX8_parameter_132 ?_
                    refine W.eq (g2 := F0 m 133 ls [.int (nI ((5 * k) + (mnE σ k)))]) (congrArg (fun z9 => F0 m 133 ls [.int z9]) (n_add (a := (5 * k)) (b := (mnE σ k)) (n_mul (a := 5) (b := k) (rfl : (5 : Int32) = nI 5) h7) hm.1)) ?_
                    refine lv_istore (lv' := [(4, .int (nI ((5 * k) + (mnE σ k)))), (0, .ref mo), (1, .int kind), (2, .int dd), (3, .int vr)]) hx hb dX8_parameter_133 hl (by decide) rfl (fun ls hl => ?_)
                    refine lv_aload_n hx hb dX8_parameter_135 rfl (lv_at hl 1 rfl) ?_
                    refine va_get (D := D) (ci := 8) (v := .ref ((ad 19))) (C := RX8) (T := TX8) (N := 33) hx hb hts iX8 hown hK.1 hP 0 rfl rfl 19 (by decide) (hts _ q_698) (fun _ h9 => h9) rfl dX8_parameter_136 ?_
                    refine lv_iload hx hb dX8_parameter_139 (lv_at hl 0 rfl) ?_
                    refine lv_iload_n hx hb dX8_parameter_141 rfl (lv_at hl 2 rfl) ?_
                    refine iast_n hx hb hK.1 hP hD hS 17 0 rfl rfl (((5 * k) + (mnE σ k))) rfl (by omega) (by decide) dX8_parameter_142 (fun H locs hP hD hS => ?_)
                    have hP : va_P D vwCl (mW G mo ad (su (su σ 0 (0) (0)) 19 (((5 * k) + (mnE σ k))) (kind)) (τ)) H := hP
                    have hD : va_D A (mW G mo ad (su (su σ 0 (0) (0)) 19 (((5 * k) + (mnE σ k))) (kind)) (τ)) := hD
                    refine lv_aload_n hx hb dX8_parameter_143 rfl (lv_at hl 1 rfl) ?_
                    refine va_get (D := D) (ci := 8) (v := .ref ((ad 20))) (C := RX8) (T := TX8) (N := 33) hx hb hts iX8 hown hK.1 hP 0 rfl rfl 20 (by decide) (hts _ q_699) (fun _ h9 => h9) rfl dX8_parameter_144 ?_
                    refine lv_iload hx hb dX8_parameter_147 (lv_at hl 0 rfl) ?_
                    refine lv_iload_n hx hb dX8_parameter_149 rfl (lv_at hl 3 rfl) ?_
                    refine iast_n hx hb hK.1 hP hD hS 18 0 rfl rfl (((5 * k) + (mnE σ k))) rfl (by omega) (by decide) dX8_parameter_150 (fun H locs hP hD hS => ?_)
                    have hP : va_P D vwCl (mW G mo ad (su (su (su σ 0 (0) (0)) 19 (((5 * k) + (mnE σ k))) (kind)) 20 (((5 * k) + (mnE σ k))) (dd)) (τ)) H := hP
                    have hD : va_D A (mW G mo ad (su (su (su σ 0 (0) (0)) 19 (((5 * k) + (mnE σ k))) (kind)) 20 (((5 * k) + (mnE σ k))) (dd)) (τ)) := hD
                    refine lv_aload_n hx hb dX8_parameter_151 rfl (lv_at hl 1 rfl) ?_
                    refine va_get (D := D) (ci := 8) (v := .ref ((ad 17))) (C := RX8) (T := TX8) (N := 33) hx hb hts iX8 hown hK.1 hP 0 rfl rfl 17 (by decide) (hts _ q_696) (fun _ h9 => h9) rfl dX8_parameter_152 ?_
                    refine lv_aload_n hx hb dX8_parameter_155 rfl (lv_at hl 1 rfl) ?_
                    refine va_get (D := D) (ci := 8) (v := .int (σ 7 0)) (C := RX8) (T := TX8) (N := 33) hx hb hts iX8 hown hK.1 hP 0 rfl rfl 7 (by decide) (hts _ q_686) (fun _ h9 => h9) rfl dX8_parameter_156 ?_
                    refine lv_iload_n hx hb dX8_parameter_159 rfl (lv_at hl 4 rfl) ?_
                    refine zast_n hx hb hK.1 hP hD hS 15 2 rfl rfl (k) h7 (by omega) (by decide) hvr dX8_parameter_160 (fun H locs hP hD hS => ?_)
                    have hP : va_P D vwCl (mW G mo ad (su (su (su (su σ 0 (0) (0)) 19 (((5 * k) + (mnE σ k))) (kind)) 20 (((5 * k) + (mnE σ k))) (dd)) 17 (k) (vr)) (τ)) H := hP
                    have hD : va_D A (mW G mo ad (su (su (su (su σ 0 (0) (0)) 19 (((5 * k) + (mnE σ k))) (kind)) 20 (((5 * k) + (mnE σ k))) (dd)) 17 (k) (vr)) (τ)) := hD
                    refine lv_aload_n hx hb dX8_parameter_161 rfl (lv_at hl 1 rfl) ?_
                    refine va_get (D := D) (ci := 8) (v := .ref ((ad 18))) (C := RX8) (T := TX8) (N := 33) hx hb hts iX8 hown hK.1 hP 0 rfl rfl 18 (by decide) (hts _ q_697) (fun _ h9 => h9) rfl dX8_parameter_162 ?_
                    refine lv_aload_n hx hb dX8_parameter_165 rfl (lv_at hl 1 rfl) ?_
                    refine va_get (D := D) (ci := 8) (v := .int (σ 7 0)) (C := RX8) (T := TX8) (N := 33) hx hb hts iX8 hown hK.1 hP 0 rfl rfl 7 (by decide) (hts _ q_686) (fun _ h9 => h9) rfl dX8_parameter_166 ?_
                    refine lv_dup2_11 hx hb dX8_parameter_169 rfl rfl ?_
                    refine iald_n (f := σ 18) hx hb hK.1 hP 16 0 rfl rfl (k) h7 (by omega) (by decide) dX8_parameter_170 ?_
                    refine lv_iconst (v := 1) hx hb dX8_parameter_171 (by decide) ?_
                    refine lv_iadd hx hb dX8_parameter_172 ?_
                    refine W.eq (g2 := F0 m 173 ls [.int (nI ((mnE σ k) + 1)), .int (σ 7 0), .ref ((ad 18))]) (congrArg (fun z9 => F0 m 173 ls [.int z9, .int (σ 7 0), .ref ((ad 18))]) (n_add (a := (mnE σ k)) (b := 1) hm.1 (rfl : (1 : Int32) = nI 1))) ?_
                    refine iast_n hx hb hK.1 hP hD hS 16 0 rfl rfl (k) h7 (by omega) (by decide) dX8_parameter_173 (fun H locs hP hD hS => ?_)
                    have hP : va_P D vwCl (mW G mo ad (su (su (su (su (su σ 0 (0) (0)) 19 (((5 * k) + (mnE σ k))) (kind)) 20 (((5 * k) + (mnE σ k))) (dd)) 17 (k) (vr)) 18 (k) (nI ((mnE σ k) + 1))) (τ)) H := hP
                    have hD : va_D A (mW G mo ad (su (su (su (su (su σ 0 (0) (0)) 19 (((5 * k) + (mnE σ k))) (kind)) 20 (((5 * k) + (mnE σ k))) (dd)) 17 (k) (vr)) 18 (k) (nI ((mnE σ k) + 1))) (τ)) := hD
                    refine lv_aload_n hx hb dX8_parameter_174 rfl (lv_at hl 1 rfl) ?_
                    refine va_get (D := D) (ci := 8) (v := .ref ((ad 18))) (C := RX8) (T := TX8) (N := 33) hx hb hts iX8 hown hK.1 hP 0 rfl rfl 18 (by decide) (hts _ q_697) (fun _ h9 => h9) rfl dX8_parameter_175 ?_
                    refine lv_aload_n hx hb dX8_parameter_178 rfl (lv_at hl 1 rfl) ?_
                    refine va_get (D := D) (ci := 8) (v := .int (σ 7 0)) (C := RX8) (T := TX8) (N := 33) hx hb hts iX8 hown hK.1 hP 0 rfl rfl 7 (by decide) (hts _ q_686) (fun _ h9 => h9) rfl dX8_parameter_179 ?_
                    refine iald_n (f := upd (σ 18) (k) (nI ((mnE σ k) + 1))) hx hb hK.1 hP 16 0 rfl rfl (k) h7 (by omega) (by decide) dX8_parameter_182 ?_
                    refine W.eq (g2 := F0 m 183 ls [.int (nI (mnE σ k + 1))]) (congrArg (fun z9 => F0 m 183 ls [.int z9]) pk_us) ?_
                    have ho : oPar σ τ n k kind dd vr = (nI (mnE σ k + 1), su (su (su (su (su σ 0 (0) (0)) 19 (((5 * k) + (mnE σ k))) (kind)) 20 (((5 * k) + (mnE σ k))) (dd)) 17 (k) (vr)) 18 (k) (nI ((mnE σ k) + 1)), τ) := by unfold oPar; simp only [eq_false c1, eq_false c3, eq_false c4, eq_false c5, eq_true c7, eq_false c8, eq_false c9, eq_true c11, eq_true c12, not_true, not_false_iff, not_true_eq_false, not_false_eq_true, true_or, or_true, false_or, or_false, or_self, and_self, true_and, and_true, false_and, and_false, if_true, if_false]; try rfl
                    exact mu_iret (v0 := nI (mnE σ k + 1)) (z := (su (su (su (su (su σ 0 (0) (0)) 19 (((5 * k) + (mnE σ k))) (kind)) 20 (((5 * k) + (mnE σ k))) (dd)) 17 (k) (vr)) 18 (k) (nI ((mnE σ k) + 1)), τ)) hx hb hr hlocks hP hD hS dX8_parameter_183 (by rw [ho]) (by rw [ho])
                  · -- 103 not
                    refine lv_iload_n hx hb dX8_parameter_106 rfl (lv_at hl 2 rfl) ?_
                    refine lv_if_ne (tgt := 117) hx hb dX8_parameter_107 (by decide) (fun c13 => ?_) (fun c13 => ?_)
                    · -- 107 taken
                      refine lv_iconst (v := 5) hx hb dX8_parameter_117 (by decide) ?_
                      refine lv_aload_n hx hb dX8_parameter_118 rfl (lv_at hl 0 rfl) ?_
                      refine va_get (D := D) (ci := 8) (v := .int (σ 7 0)) (C := RX8) (T := TX8) (N := 33) hx hb hts iX8 hown hK.1 hP 0 rfl rfl 7 (by decide) (hts _ q_686) (fun _ h9 => h9) rfl dX8_parameter_119 ?_
                      refine lv_imul hx hb dX8_parameter_122 ?_
                      refine lv_aload_n hx hb dX8_parameter_123 rfl (lv_at hl 0 rfl) ?_
                      refine va_get (D := D) (ci := 8) (v := .ref ((ad 18))) (C := RX8) (T := TX8) (N := 33) hx hb hts iX8 hown hK.1 hP 0 rfl rfl 18 (by decide) (hts _ q_697) (fun _ h9 => h9) rfl dX8_parameter_124 ?_
                      refine lv_aload_n hx hb dX8_parameter_127 rfl (lv_at hl 0 rfl) ?_
                      refine va_get (D := D) (ci := 8) (v := .int (σ 7 0)) (C := RX8) (T := TX8) (N := 33) hx hb hts iX8 hown hK.1 hP 0 rfl rfl 7 (by decide) (hts _ q_686) (fun _ h9 => h9) rfl dX8_parameter_128 ?_
                      refine iald_n (f := σ 18) hx hb hK.1 hP 16 0 rfl rfl (k) h7 (by omega) (by decide) dX8_parameter_131 ?_
                      refine lv_iadd hx hb dX8_parameter_132 ?_
                      refine W.eq (g2 := F0 m 133 ls [.int (nI ((5 * k) + (mnE σ k)))]) (congrArg (fun z9 => F0 m 133 ls [.int z9]) (n_add (a := (5 * k)) (b := (mnE σ k)) (n_mul (a := 5) (b := k) (rfl : (5 : Int32) = nI 5) h7) hm.1)) ?_
                      refine lv_istore (lv' := [(4, .int (nI ((5 * k) + (mnE σ k)))), (0, .ref mo), (1, .int kind), (2, .int dd), (3, .int vr)]) hx hb dX8_parameter_133 hl (by decide) rfl (fun ls hl => ?_)
                      refine lv_aload_n hx hb dX8_parameter_135 rfl (lv_at hl 1 rfl) ?_
                      refine va_get (D := D) (ci := 8) (v := .ref ((ad 19))) (C := RX8) (T := TX8) (N := 33) hx hb hts iX8 hown hK.1 hP 0 rfl rfl 19 (by decide) (hts _ q_698) (fun _ h9 => h9) rfl dX8_parameter_136 ?_
                      refine lv_iload hx hb dX8_parameter_139 (lv_at hl 0 rfl) ?_
                      refine lv_iload_n hx hb dX8_parameter_141 rfl (lv_at hl 2 rfl) ?_
                      refine iast_n hx hb hK.1 hP hD hS 17 0 rfl rfl (((5 * k) + (mnE σ k))) rfl (by omega) (by decide) dX8_parameter_142 (fun H locs hP hD hS => ?_)
                      have hP : va_P D vwCl (mW G mo ad (su (su σ 0 (0) (0)) 19 (((5 * k) + (mnE σ k))) (kind)) (τ)) H := hP
                      have hD : va_D A (mW G mo ad (su (su σ 0 (0) (0)) 19 (((5 * k) + (mnE σ k))) (kind)) (τ)) := hD
                      refine lv_aload_n hx hb dX8_parameter_143 rfl (lv_at hl 1 rfl) ?_
                      refine va_get (D := D) (ci := 8) (v := .ref ((ad 20))) (C := RX8) (T := TX8) (N := 33) hx hb hts iX8 hown hK.1 hP 0 rfl rfl 20 (by decide) (hts _ q_699) (fun _ h9 => h9) rfl dX8_parameter_144 ?_
                      refine lv_iload hx hb dX8_parameter_147 (lv_at hl 0 rfl) ?_
                      refine lv_iload_n hx hb dX8_parameter_149 rfl (lv_at hl 3 rfl) ?_
                      refine iast_n hx hb hK.1 hP hD hS 18 0 rfl rfl (((5 * k) + (mnE σ k))) rfl (by omega) (by decide) dX8_parameter_150 (fun H locs hP hD hS => ?_)
                      have hP : va_P D vwCl (mW G mo ad (su (su (su σ 0 (0) (0)) 19 (((5 * k) + (mnE σ k))) (kind)) 20 (((5 * k) + (mnE σ k))) (dd)) (τ)) H := hP
                      have hD : va_D A (mW G mo ad (su (su (su σ 0 (0) (0)) 19 (((5 * k) + (mnE σ k))) (kind)) 20 (((5 * k) + (mnE σ k))) (dd)) (τ)) := hD
                      refine lv_aload_n hx hb dX8_parameter_151 rfl (lv_at hl 1 rfl) ?_
                      refine va_get (D := D) (ci := 8) (v := .ref ((ad 17))) (C := RX8) (T := TX8) (N := 33) hx hb hts iX8 hown hK.1 hP 0 rfl rfl 17 (by decide) (hts _ q_696) (fun _ h9 => h9) rfl dX8_parameter_152 ?_
                      refine lv_aload_n hx hb dX8_parameter_155 rfl (lv_at hl 1 rfl) ?_
                      refine va_get (D := D) (ci := 8) (v := .int (σ 7 0)) (C := RX8) (T := TX8) (N := 33) hx hb hts iX8 hown hK.1 hP 0 rfl rfl 7 (by decide) (hts _ q_686) (fun _ h9 => h9) rfl dX8_parameter_156 ?_
                      refine lv_iload_n hx hb dX8_parameter_159 rfl (lv_at hl 4 rfl) ?_
                      refine zast_n hx hb hK.1 hP hD hS 15 2 rfl rfl (k) h7 (by omega) (by decide) hvr dX8_parameter_160 (fun H locs hP hD hS => ?_)
                      have hP : va_P D vwCl (mW G mo ad (su (su (su (su σ 0 (0) (0)) 19 (((5 * k) + (mnE σ k))) (kind)) 20 (((5 * k) + (mnE σ k))) (dd)) 17 (k) (vr)) (τ)) H := hP
                      have hD : va_D A (mW G mo ad (su (su (su (su σ 0 (0) (0)) 19 (((5 * k) + (mnE σ k))) (kind)) 20 (((5 * k) + (mnE σ k))) (dd)) 17 (k) (vr)) (τ)) := hD
                      refine lv_aload_n hx hb dX8_parameter_161 rfl (lv_at hl 1 rfl) ?_
                      refine va_get (D := D) (ci := 8) (v := .ref ((ad 18))) (C := RX8) (T := TX8) (N := 33) hx hb hts iX8 hown hK.1 hP 0 rfl rfl 18 (by decide) (hts _ q_697) (fun _ h9 => h9) rfl dX8_parameter_162 ?_
                      refine lv_aload_n hx hb dX8_parameter_165 rfl (lv_at hl 1 rfl) ?_
                      refine va_get (D := D) (ci := 8) (v := .int (σ 7 0)) (C := RX8) (T := TX8) (N := 33) hx hb hts iX8 hown hK.1 hP 0 rfl rfl 7 (by decide) (hts _ q_686) (fun _ h9 => h9) rfl dX8_parameter_166 ?_
                      refine lv_dup2_11 hx hb dX8_parameter_169 rfl rfl ?_
                      refine iald_n (f := σ 18) hx hb hK.1 hP 16 0 rfl rfl (k) h7 (by omega) (by decide) dX8_parameter_170 ?_
                      refine lv_iconst (v := 1) hx hb dX8_parameter_171 (by decide) ?_
                      refine lv_iadd hx hb dX8_parameter_172 ?_
                      refine W.eq (g2 := F0 m 173 ls [.int (nI ((mnE σ k) + 1)), .int (σ 7 0), .ref ((ad 18))]) (congrArg (fun z9 => F0 m 173 ls [.int z9, .int (σ 7 0), .ref ((ad 18))]) (n_add (a := (mnE σ k)) (b := 1) hm.1 (rfl : (1 : Int32) = nI 1))) ?_
                      refine iast_n hx hb hK.1 hP hD hS 16 0 rfl rfl (k) h7 (by omega) (by decide) dX8_parameter_173 (fun H locs hP hD hS => ?_)
                      have hP : va_P D vwCl (mW G mo ad (su (su (su (su (su σ 0 (0) (0)) 19 (((5 * k) + (mnE σ k))) (kind)) 20 (((5 * k) + (mnE σ k))) (dd)) 17 (k) (vr)) 18 (k) (nI ((mnE σ k) + 1))) (τ)) H := hP
                      have hD : va_D A (mW G mo ad (su (su (su (su (su σ 0 (0) (0)) 19 (((5 * k) + (mnE σ k))) (kind)) 20 (((5 * k) + (mnE σ k))) (dd)) 17 (k) (vr)) 18 (k) (nI ((mnE σ k) + 1))) (τ)) := hD
                      refine lv_aload_n hx hb dX8_parameter_174 rfl (lv_at hl 1 rfl) ?_
                      refine va_get (D := D) (ci := 8) (v := .ref ((ad 18))) (C := RX8) (T := TX8) (N := 33) hx hb hts iX8 hown hK.1 hP 0 rfl rfl 18 (by decide) (hts _ q_697) (fun _ h9 => h9) rfl dX8_parameter_175 ?_
                      refine lv_aload_n hx hb dX8_parameter_178 rfl (lv_at hl 1 rfl) ?_
                      refine va_get (D := D) (ci := 8) (v := .int (σ 7 0)) (C := RX8) (T := TX8) (N := 33) hx hb hts iX8 hown hK.1 hP 0 rfl rfl 7 (by decide) (hts _ q_686) (fun _ h9 => h9) rfl dX8_parameter_179 ?_
                      refine iald_n (f := upd (σ 18) (k) (nI ((mnE σ k) + 1))) hx hb hK.1 hP 16 0 rfl rfl (k) h7 (by omega) (by decide) dX8_parameter_182 ?_
                      refine W.eq (g2 := F0 m 183 ls [.int (nI (mnE σ k + 1))]) (congrArg (fun z9 => F0 m 183 ls [.int z9]) pk_us) ?_
                      have ho : oPar σ τ n k kind dd vr = (nI (mnE σ k + 1), su (su (su (su (su σ 0 (0) (0)) 19 (((5 * k) + (mnE σ k))) (kind)) 20 (((5 * k) + (mnE σ k))) (dd)) 17 (k) (vr)) 18 (k) (nI ((mnE σ k) + 1)), τ) := by unfold oPar; simp only [eq_false c1, eq_false c3, eq_false c4, eq_false c5, eq_true c7, eq_false c8, eq_false c9, eq_true c11, eq_false c12, eq_false c13, not_true, not_false_iff, not_true_eq_false, not_false_eq_true, true_or, or_true, false_or, or_false, or_self, and_self, true_and, and_true, false_and, and_false, if_true, if_false]; try rfl
                      exact mu_iret (v0 := nI (mnE σ k + 1)) (z := (su (su (su (su (su σ 0 (0) (0)) 19 (((5 * k) + (mnE σ k))) (kind)) 20 (((5 * k) + (mnE σ k))) (dd)) 17 (k) (vr)) 18 (k) (nI ((mnE σ k) + 1)), τ)) hx hb hr hlocks hP hD hS dX8_parameter_183 (by rw [ho]) (by rw [ho])
                    · -- 107 not
                      refine lv_aload_n hx hb dX8_parameter_110 rfl (lv_at hl 0 rfl) ?_
                      refine lv_bipush (v := 20) hx hb dX8_parameter_111 (by decide) ?_
                      refine mu_Vi (D := D) (G := G) (mo := mo) (ad := ad) (u := (su σ 0 (0) (0), τ)) (As := [.int 20]) (rest := []) ⟨hx, hb, hml, hown, hts⟩ (m_breaks l D G mo ad (su σ 0 (0) (0)) (τ) _ (20) (by omega)) gV_X8_X8_breaks hdV_X8_breaks ⟨Nat.le_of_ble_eq_true rfl, Nat.le_of_ble_eq_true rfl⟩ hK hP hD hS hA rfl hl.1 rfl (Nat.le_of_ble_eq_true rfl) dX8_parameter_113 ⟨Nat.le_of_ble_eq_true rfl, Nat.le_of_ble_eq_true rfl⟩ (fun H locs hP hD hS => ?_)
                      have hP : va_P D vwCl (mW G mo ad (su (su (su σ 0 (0) (0)) 27 (20) (σ 27 20 + 1)) 26 (0) (σ 26 0 + 1)) (τ)) H := hP
                      have hD : va_D A (mW G mo ad (su (su (su σ 0 (0) (0)) 27 (20) (σ 27 20 + 1)) 26 (0) (σ 26 0 + 1)) (τ)) := hD
                      refine W.eq (g2 := F0 m 116 ls [.int ((-40) - nI 20)]) rfl ?_
                      have ho : oPar σ τ n k kind dd vr = ((-40) - nI 20, su (su (su σ 0 (0) (0)) 27 (20) (σ 27 20 + 1)) 26 (0) (σ 26 0 + 1), τ) := by unfold oPar; simp only [eq_false c1, eq_false c3, eq_false c4, eq_false c5, eq_true c7, eq_false c8, eq_false c9, eq_true c11, eq_false c12, eq_true c13, not_true, not_false_iff, not_true_eq_false, not_false_eq_true, true_or, or_true, false_or, or_false, or_self, and_self, true_and, and_true, false_and, and_false, if_true, if_false]; try rfl
                      exact mu_iret (v0 := (-40) - nI 20) (z := (su (su (su σ 0 (0) (0)) 27 (20) (σ 27 20 + 1)) 26 (0) (σ 26 0 + 1), τ)) hx hb hr hlocks hP hD hS dX8_parameter_116 (by rw [ho]) (by rw [ho])
                · -- 92 not
                  refine lv_aload_n hx hb dX8_parameter_95 rfl (lv_at hl 0 rfl) ?_
                  refine lv_bipush (v := 19) hx hb dX8_parameter_96 (by decide) ?_
                  refine mu_Vi (D := D) (G := G) (mo := mo) (ad := ad) (u := (su σ 0 (0) (0), τ)) (As := [.int 19]) (rest := []) ⟨hx, hb, hml, hown, hts⟩ (m_breaks l D G mo ad (su σ 0 (0) (0)) (τ) _ (19) (by omega)) gV_X8_X8_breaks hdV_X8_breaks ⟨Nat.le_of_ble_eq_true rfl, Nat.le_of_ble_eq_true rfl⟩ hK hP hD hS hA rfl hl.1 rfl (Nat.le_of_ble_eq_true rfl) dX8_parameter_98 ⟨Nat.le_of_ble_eq_true rfl, Nat.le_of_ble_eq_true rfl⟩ (fun H locs hP hD hS => ?_)
                  have hP : va_P D vwCl (mW G mo ad (su (su (su σ 0 (0) (0)) 27 (19) (σ 27 19 + 1)) 26 (0) (σ 26 0 + 1)) (τ)) H := hP
                  have hD : va_D A (mW G mo ad (su (su (su σ 0 (0) (0)) 27 (19) (σ 27 19 + 1)) 26 (0) (σ 26 0 + 1)) (τ)) := hD
                  refine W.eq (g2 := F0 m 101 ls [.int ((-40) - nI 19)]) rfl ?_
                  have ho : oPar σ τ n k kind dd vr = ((-40) - nI 19, su (su (su σ 0 (0) (0)) 27 (19) (σ 27 19 + 1)) 26 (0) (σ 26 0 + 1), τ) := by unfold oPar; simp only [eq_false c1, eq_false c3, eq_false c4, eq_false c5, eq_true c7, eq_false c8, eq_false c9, eq_false c11, not_true, not_false_iff, not_true_eq_false, not_false_eq_true, true_or, or_true, false_or, or_false, or_self, and_self, true_and, and_true, false_and, and_false, if_true, if_false]; try rfl
                  exact mu_iret (v0 := (-40) - nI 19) (z := (su (su (su σ 0 (0) (0)) 27 (19) (σ 27 19 + 1)) 26 (0) (σ 26 0 + 1), τ)) hx hb hr hlocks hP hD hS dX8_parameter_101 (by rw [ho]) (by rw [ho])
              · -- 66 not
                have c9 : (mnE σ k) = 5 := nI_inj (by omega) (by omega) (by have h8 := c9; rw [hm.1] at h8; exact h8)
                refine lv_bipush (v := -15) hx hb dX8_parameter_69 (by decide) ?_
                have ho : oPar σ τ n k kind dd vr = ((-15), su σ 0 (0) (0), τ) := by unfold oPar; simp only [eq_false c1, eq_false c3, eq_false c4, eq_false c5, eq_true c7, eq_false c8, eq_true c9, not_true, not_false_iff, not_true_eq_false, not_false_eq_true, true_or, or_true, false_or, or_false, or_self, and_self, true_and, and_true, false_and, and_false, if_true, if_false]; try rfl
                exact mu_iret (v0 := (-15)) (z := (su σ 0 (0) (0), τ)) hx hb hr hlocks hP hD hS dX8_parameter_71 (by rw [ho]) (by rw [ho])
            · -- 46 not
              refine lv_iload_n hx hb dX8_parameter_49 rfl (lv_at hl 2 rfl) ?_
              refine lv_if_le (tgt := 56) hx hb dX8_parameter_50 (by decide) (fun c14 => ?_) (fun c14 => ?_)
              · -- 50 taken
                refine lv_aload_n hx hb dX8_parameter_56 rfl (lv_at hl 0 rfl) ?_
                refine va_get (D := D) (ci := 8) (v := .ref ((ad 18))) (C := RX8) (T := TX8) (N := 33) hx hb hts iX8 hown hK.1 hP 0 rfl rfl 18 (by decide) (hts _ q_697) (fun _ h9 => h9) rfl dX8_parameter_57 ?_
                refine lv_aload_n hx hb dX8_parameter_60 rfl (lv_at hl 0 rfl) ?_
                refine va_get (D := D) (ci := 8) (v := .int (σ 7 0)) (C := RX8) (T := TX8) (N := 33) hx hb hts iX8 hown hK.1 hP 0 rfl rfl 7 (by decide) (hts _ q_686) (fun _ h9 => h9) rfl dX8_parameter_61 ?_
                refine iald_n (f := σ 18) hx hb hK.1 hP 16 0 rfl rfl (k) h7 (by omega) (by decide) dX8_parameter_64 ?_
                refine lv_iconst (v := 5) hx hb dX8_parameter_65 (by decide) ?_
                refine lv_icmp_ne (tgt := 72) hx hb dX8_parameter_66 (by decide) (fun c15 => ?_) (fun c15 => ?_)
                · -- 66 taken
                  have c15 : ¬ (mnE σ k) = 5 := fun h9 => c15 (by first | (rw [hm.1, h9]; done) | (rw [hm.1, h9]; rfl))
                  refine lv_iload_n hx hb dX8_parameter_72 rfl (lv_at hl 1 rfl) ?_
                  refine lv_if_ne (tgt := 83) hx hb dX8_parameter_73 (by decide) (fun hh => absurd c8 hh) (fun hh => ?_)
                  refine lv_aload_n hx hb dX8_parameter_76 rfl (lv_at hl 0 rfl) ?_
                  refine lv_bipush (v := 18) hx hb dX8_parameter_77 (by decide) ?_
                  refine mu_Vi (D := D) (G := G) (mo := mo) (ad := ad) (u := (su σ 0 (0) (0), τ)) (As := [.int 18]) (rest := []) ⟨hx, hb, hml, hown, hts⟩ (m_breaks l D G mo ad (su σ 0 (0) (0)) (τ) _ (18) (by omega)) gV_X8_X8_breaks hdV_X8_breaks ⟨Nat.le_of_ble_eq_true rfl, Nat.le_of_ble_eq_true rfl⟩ hK hP hD hS hA rfl hl.1 rfl (Nat.le_of_ble_eq_true rfl) dX8_parameter_79 ⟨Nat.le_of_ble_eq_true rfl, Nat.le_of_ble_eq_true rfl⟩ (fun H locs hP hD hS => ?_)
                  have hP : va_P D vwCl (mW G mo ad (su (su (su σ 0 (0) (0)) 27 (18) (σ 27 18 + 1)) 26 (0) (σ 26 0 + 1)) (τ)) H := hP
                  have hD : va_D A (mW G mo ad (su (su (su σ 0 (0) (0)) 27 (18) (σ 27 18 + 1)) 26 (0) (σ 26 0 + 1)) (τ)) := hD
                  refine W.eq (g2 := F0 m 82 ls [.int ((-40) - nI 18)]) rfl ?_
                  have ho : oPar σ τ n k kind dd vr = ((-40) - nI 18, su (su (su σ 0 (0) (0)) 27 (18) (σ 27 18 + 1)) 26 (0) (σ 26 0 + 1), τ) := by unfold oPar; simp only [eq_false c1, eq_false c3, eq_false c4, eq_false c5, eq_true c7, eq_true c8, eq_true c14, eq_false c15, not_true, not_false_iff, not_true_eq_false, not_false_eq_true, true_or, or_true, false_or, or_false, or_self, and_self, true_and, and_true, false_and, and_false, if_true, if_false]; try rfl
                  exact mu_iret (v0 := (-40) - nI 18) (z := (su (su (su σ 0 (0) (0)) 27 (18) (σ 27 18 + 1)) 26 (0) (σ 26 0 + 1), τ)) hx hb hr hlocks hP hD hS dX8_parameter_82 (by rw [ho]) (by rw [ho])
                · -- 66 not
                  have c15 : (mnE σ k) = 5 := nI_inj (by omega) (by omega) (by have h8 := c15; rw [hm.1] at h8; exact h8)
                  refine lv_bipush (v := -15) hx hb dX8_parameter_69 (by decide) ?_
                  have ho : oPar σ τ n k kind dd vr = ((-15), su σ 0 (0) (0), τ) := by unfold oPar; simp only [eq_false c1, eq_false c3, eq_false c4, eq_false c5, eq_true c7, eq_true c8, eq_true c14, eq_true c15, not_true, not_false_iff, not_true_eq_false, not_false_eq_true, true_or, or_true, false_or, or_false, or_self, and_self, true_and, and_true, false_and, and_false, if_true, if_false]; try rfl
                  exact mu_iret (v0 := (-15)) (z := (su σ 0 (0) (0), τ)) hx hb hr hlocks hP hD hS dX8_parameter_71 (by rw [ho]) (by rw [ho])
              · -- 50 not
                refine lv_bipush (v := -13) hx hb dX8_parameter_53 (by decide) ?_
                have ho : oPar σ τ n k kind dd vr = ((-13), su σ 0 (0) (0), τ) := by unfold oPar; simp only [eq_false c1, eq_false c3, eq_false c4, eq_false c5, eq_true c7, eq_true c8, eq_false c14, not_true, not_false_iff, not_true_eq_false, not_false_eq_true, true_or, or_true, false_or, or_false, or_self, and_self, true_and, and_true, false_and, and_false, if_true, if_false]; try rfl
                exact mu_iret (v0 := (-13)) (z := (su σ 0 (0) (0), τ)) hx hb hr hlocks hP hD hS dX8_parameter_55 (by rw [ho]) (by rw [ho])
    · -- 20 not
      have c3 := bI_1 c3
      refine lv_bipush (v := -11) hx hb dX8_parameter_23 (by decide) ?_
      have ho : oPar σ τ n k kind dd vr = ((-11), su σ 0 (0) (0), τ) := by unfold oPar; simp only [eq_false c1, eq_true c3, not_true, not_false_iff, not_true_eq_false, not_false_eq_true, true_or, or_true, false_or, or_false, or_self, and_self, true_and, and_true, false_and, and_false, if_true, if_false]; try rfl
      exact mu_iret (v0 := (-11)) (z := (su σ 0 (0) (0), τ)) hx hb hr hlocks hP hD hS dX8_parameter_25 (by rw [ho]) (by rw [ho])
  · -- 9 not
    refine lv_bipush (v := -14) hx hb dX8_parameter_12 (by decide) ?_
    have ho : oPar σ τ n k kind dd vr = ((-14), su σ 0 (0) (0), τ) := by unfold oPar; simp only [eq_true c1, not_true, not_false_iff, not_true_eq_false, not_false_eq_true, true_or, or_true, false_or, or_false, or_self, and_self, true_and, and_true, false_and, and_false, if_true, if_false]; try rfl
    exact mu_iret (v0 := (-14)) (z := (su σ 0 (0) (0), τ)) hx hb hr hlocks hP hD hS dX8_parameter_14 (by rw [ho]) (by rw [ho])
set_option maxHeartbeats 4000000 in
set_option maxRecDepth 100000 in
theorem m_parameterOf (l : Launch) (D : va_G) (G : Nat → ClassId) (mo : Nat) (ad : Nat → Nat) (σ : MS) (τ : Nat → Int64) (sz : Nat) (k : Nat) (h7 : σ 7 0 = nI k) (hk60 : k ≤ 60) (hmo : ∀ i, i < k → okM σ i) (en : Int32) (ii : Int32) (dm : Int32) : Met l yX8_parameterOf (ww yX8_parameterOf cX8_parameterOf 4 (some .int)) (rmD 2) (muP D G sz mo ad (σ, τ) [.ref mo, .int en, .int ii, .int dm]) (muQi D G mo ad (muA G mo ad (σ, τ) sz) (oParOf σ τ k en ii dm).1 (oParOf σ τ k en ii dm).2) 0 0 (muA G mo ad (σ, τ) sz) := by
  refine Met.ofW (cc := cX8_parameterOf) (maxL := 4) (ret := (some .int)) (by decide) rfl ?_
  intro p e s m args below meth c s₁ B hml hv
  obtain ⟨rfl, hsz, hP, hK, hD0⟩ := hv
  have hx := B.exec
  have hb := B.bytes
  have hr := B.returns
  have hts : ∀ w ∈ TT, w.before _ s = true := fun w h => atoms_spec (ws := ww yX8_parameterOf cX8_parameterOf 4 (some .int)) B.pre w (List.mem_cons_of_mem _ h)
  have hown : s.vm.findClass RX8 = some m.cls := findClass_of_methodNamed B.named
  have hlocks := B.notSynchronized
  subst hsz
  have hD : va_D (muA G mo ad (σ, τ) s.heap.size) (mW G mo ad σ τ) := hD0.self
  generalize hAe : muA G mo ad (σ, τ) s.heap.size = A at hD ⊢
  have hA : ∀ q : Nat, s.heap.size ≤ q → A q := fun q h => by rw [← hAe]; exact Or.inr h
  have hS : va_S A s.heap s.heap [] := va_S.rf
  have hP : va_P D vwCl (mW G mo ad σ τ) s.heap := hP
  have hl := lv_entry ([.ref mo, .int en, .int ii, .int dm]) (n := 4) (Nat.le_of_ble_eq_true rfl)
  rw [lg_entry_eq]
  generalize (lg_sl ([.ref mo, .int en, .int ii, .int dm]) ++ List.replicate (4 - (lg_sl ([.ref mo, .int en, .int ii, .int dm])).length) Slot.unset).toArray = ls at hl ⊢
  have hl : lv_has ls 4 [(0, .ref mo), (1, .int en), (2, .int ii), (3, .int dm)] := hl
  refine lv_aload_n hx hb dX8_parameterOf_0 rfl (lv_at hl 0 rfl) ?_
  refine lv_aload_n hx hb dX8_parameterOf_1 rfl (lv_at hl 0 rfl) ?_
  refine lv_iload_n hx hb dX8_parameterOf_2 rfl (lv_at hl 1 rfl) ?_
  refine ro_Vi (D := D) (G := G) (As := [.int en]) (rest := [.ref mo]) ⟨hx, hb, hml, hown, hts⟩ (m_isEntry l D G _ mo ad _ _ hP k h7 hk60 en) gV_X8_X8_isEntry hdV_X8_isEntry ⟨Nat.le_of_ble_eq_true rfl, Nat.le_of_ble_eq_true rfl⟩ hK (va_recv hK.1 hP (ci := 8) (q0 := 0) rfl rfl) rfl hl.1 rfl (Nat.le_of_ble_eq_true rfl) dX8_parameterOf_3 ⟨Nat.le_of_ble_eq_true rfl, Nat.le_of_ble_eq_true rfl⟩ (fun r1 e_r1 => ?_)
  subst e_r1
  refine W.eq (g2 := F0 m 6 ls [.int (bI (okN k en)), .ref mo]) rfl ?_
  refine lv_if_ne (tgt := 13) hx hb dX8_parameterOf_6 (by decide) (fun c2 => ?_) (fun c2 => ?_)
  · -- 6 taken
    have c2 := bI_1 c2
    obtain ⟨j3, h_j3, rfl⟩ := okN_ex (by omega) c2
    have hm := hmo j3 h_j3
    refine lv_aload_n hx hb dX8_parameterOf_13 rfl (lv_at hl 0 rfl) ?_
    refine va_get (D := D) (ci := 8) (v := .ref ((ad 8))) (C := RX8) (T := TX8) (N := 33) hx hb hts iX8 hown hK.1 hP 0 rfl rfl 8 (by decide) (hts _ q_687) (fun _ h9 => h9) rfl dX8_parameterOf_14 ?_
    refine lv_iload_n hx hb dX8_parameterOf_17 rfl (lv_at hl 1 rfl) ?_
    refine zald_n (f := σ 8) hx hb hK.1 hP 6 2 rfl rfl (j3) rfl (by omega) (by decide) dX8_parameterOf_18 ?_
    refine lv_if_ne (tgt := 26) hx hb dX8_parameterOf_19 (by decide) (fun c4 => ?_) (fun c4 => ?_)
    · -- 19 taken
      refine lv_iload_n hx hb dX8_parameterOf_26 rfl (lv_at hl 2 rfl) ?_
      refine lv_iconst (v := 0) hx hb dX8_parameterOf_27 (by decide) ?_
      refine lv_aload_n hx hb dX8_parameterOf_28 rfl (lv_at hl 0 rfl) ?_
      refine va_get (D := D) (ci := 8) (v := .ref ((ad 18))) (C := RX8) (T := TX8) (N := 33) hx hb hts iX8 hown hK.1 hP 0 rfl rfl 18 (by decide) (hts _ q_697) (fun _ h9 => h9) rfl dX8_parameterOf_29 ?_
      refine lv_iload_n hx hb dX8_parameterOf_32 rfl (lv_at hl 1 rfl) ?_
      refine iald_n (f := σ 18) hx hb hK.1 hP 16 0 rfl rfl (j3) rfl (by omega) (by decide) dX8_parameterOf_33 ?_
      refine lv_iconst (v := 1) hx hb dX8_parameterOf_34 (by decide) ?_
      refine lv_isub hx hb dX8_parameterOf_35 ?_
      refine ro_Si (D := D) (G := G) (As := [.int ii, .int 0, .int ((σ 18 j3) - 1)]) (rest := [.ref mo]) ⟨hx, hb, hml, hown, hts⟩ (m_in l D G _ ii 0 ((σ 18 j3) - 1)) gS_X8_X8_in hdS_X8_in ⟨Nat.le_of_ble_eq_true rfl, Nat.le_of_ble_eq_true rfl⟩ hK rfl hl.1 rfl (Nat.le_of_ble_eq_true rfl) dX8_parameterOf_36 ⟨Nat.le_of_ble_eq_true rfl, Nat.le_of_ble_eq_true rfl⟩ (fun r5 e_r5 => ?_)
      subst e_r5
      refine W.eq (g2 := F0 m 39 ls [.int (bI (0 ≤ ii ∧ ii ≤ (σ 18 j3) - 1)), .ref mo]) rfl ?_
      refine lv_if_ne (tgt := 46) hx hb dX8_parameterOf_39 (by decide) (fun c6 => ?_) (fun c6 => ?_)
      · -- 39 taken
        have c6 := bI_1 c6
        have c6 : okN (mnE σ j3) ii := (okN_iff (n := mnE σ j3) (by omega)).mp (by have h8 := c6; rw [hm.1] at h8; exact h8)
        obtain ⟨q, h_q, rfl⟩ := okN_ex (by omega) c6
        refine lv_iconst (v := 0) hx hb dX8_parameterOf_46 (by decide) ?_
        refine va_put (D := D) (ci := 8) (v := .int 0) (ty := .int) (C := RX8) (T := TX8) (N := 33) hx hb hts iX8 tyX8 tyX8_ok nmX8 hown hK.1 hP hD hS 0 rfl rfl 0 (by decide) (hts _ q_679) (fun _ h9 => h9) rfl (by decide +kernel) rfl rfl (Nat.le_of_ble_eq_true rfl) dX8_parameterOf_47 (fun H locs hP hD hS => ?_)
        have hP : va_P D vwCl (mW G mo ad (su σ 0 (0) (0)) (τ)) H := hP
        have hD : va_D A (mW G mo ad (su σ 0 (0) (0)) (τ)) := hD
        refine lv_aload_n hx hb dX8_parameterOf_50 rfl (lv_at hl 0 rfl) ?_
        refine va_get (D := D) (ci := 8) (v := .int 0) (C := RX8) (T := TX8) (N := 33) hx hb hts iX8 hown hK.1 hP 0 rfl rfl 0 (by decide) (hts _ q_679) (fun _ h9 => h9) rfl dX8_parameterOf_51 ?_
        refine lv_if_le (tgt := 61) hx hb dX8_parameterOf_54 (by decide) (fun hh => ?_) (fun hh => absurd (by decide) hh)
        refine lv_iload_n hx hb dX8_parameterOf_61 rfl (lv_at hl 3 rfl) ?_
        refine lv_if_eq (tgt := 78) hx hb dX8_parameterOf_62 (by decide) (fun c7 => ?_) (fun c7 => ?_)
        · -- 62 taken
          refine lv_aload_n hx hb dX8_parameterOf_78 rfl (lv_at hl 0 rfl) ?_
          refine va_get (D := D) (ci := 8) (v := .ref ((ad 19))) (C := RX8) (T := TX8) (N := 33) hx hb hts iX8 hown hK.1 hP 0 rfl rfl 19 (by decide) (hts _ q_698) (fun _ h9 => h9) rfl dX8_parameterOf_79 ?_
          refine lv_iconst (v := 5) hx hb dX8_parameterOf_82 (by decide) ?_
          refine lv_iload_n hx hb dX8_parameterOf_83 rfl (lv_at hl 1 rfl) ?_
          refine lv_imul hx hb dX8_parameterOf_84 ?_
          refine lv_iload_n hx hb dX8_parameterOf_85 rfl (lv_at hl 2 rfl) ?_
          refine lv_iadd hx hb dX8_parameterOf_86 ?_
          refine iald_n (f := σ 19) hx hb hK.1 hP 17 0 rfl rfl (((5 * j3) + q)) (n_add (a := (5 * j3)) (b := q) (n_mul (a := 5) (b := j3) (rfl : (5 : Int32) = nI 5) rfl) rfl) (by omega) (by decide) dX8_parameterOf_87 ?_
          have ho : oParOf σ τ k (nI j3) (nI q) dm = (σ 19 (((5 * j3) + q)), su σ 0 (0) (0), τ) := by unfold oParOf; simp only [eq_true c2, eq_false c4, eq_true c6, eq_true c7, nI_clamp (show j3 < 2 ^ 31 by omega), nI_clamp (show q < 2 ^ 31 by omega), not_true, not_false_iff, not_true_eq_false, not_false_eq_true, true_or, or_true, false_or, or_false, or_self, and_self, true_and, and_true, false_and, and_false, if_true, if_false]; try rfl
          exact mu_iret (v0 := σ 19 (((5 * j3) + q))) (z := (su σ 0 (0) (0), τ)) hx hb hr hlocks hP hD hS dX8_parameterOf_88 (by rw [ho]) (by rw [ho])
        · -- 62 not
          refine lv_aload_n hx hb dX8_parameterOf_65 rfl (lv_at hl 0 rfl) ?_
          refine va_get (D := D) (ci := 8) (v := .ref ((ad 20))) (C := RX8) (T := TX8) (N := 33) hx hb hts iX8 hown hK.1 hP 0 rfl rfl 20 (by decide) (hts _ q_699) (fun _ h9 => h9) rfl dX8_parameterOf_66 ?_
          refine lv_iconst (v := 5) hx hb dX8_parameterOf_69 (by decide) ?_
          refine lv_iload_n hx hb dX8_parameterOf_70 rfl (lv_at hl 1 rfl) ?_
          refine lv_imul hx hb dX8_parameterOf_71 ?_
          refine lv_iload_n hx hb dX8_parameterOf_72 rfl (lv_at hl 2 rfl) ?_
          refine lv_iadd hx hb dX8_parameterOf_73 ?_
          refine iald_n (f := σ 20) hx hb hK.1 hP 18 0 rfl rfl (((5 * j3) + q)) (n_add (a := (5 * j3)) (b := q) (n_mul (a := 5) (b := j3) (rfl : (5 : Int32) = nI 5) rfl) rfl) (by omega) (by decide) dX8_parameterOf_74 ?_
          refine lv_goto (tgt := 88) hx hb dX8_parameterOf_75 (by decide) ?_
          have ho : oParOf σ τ k (nI j3) (nI q) dm = (σ 20 (((5 * j3) + q)), su σ 0 (0) (0), τ) := by unfold oParOf; simp only [eq_true c2, eq_false c4, eq_true c6, eq_false c7, nI_clamp (show j3 < 2 ^ 31 by omega), nI_clamp (show q < 2 ^ 31 by omega), not_true, not_false_iff, not_true_eq_false, not_false_eq_true, true_or, or_true, false_or, or_false, or_self, and_self, true_and, and_true, false_and, and_false, if_true, if_false]; try rfl
          exact mu_iret (v0 := σ 20 (((5 * j3) + q))) (z := (su σ 0 (0) (0), τ)) hx hb hr hlocks hP hD hS dX8_parameterOf_88 (by rw [ho]) (by rw [ho])
      · -- 39 not
        have c6 := bI_0 c6
        have c6 : ¬ okN (mnE σ j3) ii := fun h9 => c6 (by rw [hm.1]; exact (okN_iff (by omega)).mpr h9)
        refine lv_iconst (v := 2) hx hb dX8_parameterOf_42 (by decide) ?_
        refine lv_goto (tgt := 47) hx hb dX8_parameterOf_43 (by decide) ?_
        refine va_put (D := D) (ci := 8) (v := .int 2) (ty := .int) (C := RX8) (T := TX8) (N := 33) hx hb hts iX8 tyX8 tyX8_ok nmX8 hown hK.1 hP hD hS 0 rfl rfl 0 (by decide) (hts _ q_679) (fun _ h9 => h9) rfl (by decide +kernel) rfl rfl (Nat.le_of_ble_eq_true rfl) dX8_parameterOf_47 (fun H locs hP hD hS => ?_)
        have hP : va_P D vwCl (mW G mo ad (su σ 0 (0) (2)) (τ)) H := hP
        have hD : va_D A (mW G mo ad (su σ 0 (0) (2)) (τ)) := hD
        refine lv_aload_n hx hb dX8_parameterOf_50 rfl (lv_at hl 0 rfl) ?_
        refine va_get (D := D) (ci := 8) (v := .int 2) (C := RX8) (T := TX8) (N := 33) hx hb hts iX8 hown hK.1 hP 0 rfl rfl 0 (by decide) (hts _ q_679) (fun _ h9 => h9) rfl dX8_parameterOf_51 ?_
        refine lv_if_le (tgt := 61) hx hb dX8_parameterOf_54 (by decide) (fun hh => absurd hh (by decide)) (fun hh => ?_)
        refine lv_iconst (v := 0) hx hb dX8_parameterOf_57 (by decide) ?_
        refine lv_goto (tgt := 88) hx hb dX8_parameterOf_58 (by decide) ?_
        have ho : oParOf σ τ k (nI j3) ii dm = (0, su σ 0 (0) (2), τ) := by unfold oParOf; simp only [eq_true c2, eq_false c4, eq_false c6, nI_clamp (show j3 < 2 ^ 31 by omega), not_true, not_false_iff, not_true_eq_false, not_false_eq_true, true_or, or_true, false_or, or_false, or_self, and_self, true_and, and_true, false_and, and_false, if_true, if_false]; try rfl
        exact mu_iret (v0 := 0) (z := (su σ 0 (0) (2), τ)) hx hb hr hlocks hP hD hS dX8_parameterOf_88 (by rw [ho]) (by rw [ho])
    · -- 19 not
      refine lv_iconst (v := 1) hx hb dX8_parameterOf_22 (by decide) ?_
      refine lv_goto (tgt := 47) hx hb dX8_parameterOf_23 (by decide) ?_
      refine va_put (D := D) (ci := 8) (v := .int 1) (ty := .int) (C := RX8) (T := TX8) (N := 33) hx hb hts iX8 tyX8 tyX8_ok nmX8 hown hK.1 hP hD hS 0 rfl rfl 0 (by decide) (hts _ q_679) (fun _ h9 => h9) rfl (by decide +kernel) rfl rfl (Nat.le_of_ble_eq_true rfl) dX8_parameterOf_47 (fun H locs hP hD hS => ?_)
      have hP : va_P D vwCl (mW G mo ad (su σ 0 (0) (1)) (τ)) H := hP
      have hD : va_D A (mW G mo ad (su σ 0 (0) (1)) (τ)) := hD
      refine lv_aload_n hx hb dX8_parameterOf_50 rfl (lv_at hl 0 rfl) ?_
      refine va_get (D := D) (ci := 8) (v := .int 1) (C := RX8) (T := TX8) (N := 33) hx hb hts iX8 hown hK.1 hP 0 rfl rfl 0 (by decide) (hts _ q_679) (fun _ h9 => h9) rfl dX8_parameterOf_51 ?_
      refine lv_if_le (tgt := 61) hx hb dX8_parameterOf_54 (by decide) (fun hh => absurd hh (by decide)) (fun hh => ?_)
      refine lv_iconst (v := 0) hx hb dX8_parameterOf_57 (by decide) ?_
      refine lv_goto (tgt := 88) hx hb dX8_parameterOf_58 (by decide) ?_
      have ho : oParOf σ τ k (nI j3) ii dm = (0, su σ 0 (0) (1), τ) := by unfold oParOf; simp only [eq_true c2, eq_true c4, nI_clamp (show j3 < 2 ^ 31 by omega), not_true, not_false_iff, not_true_eq_false, not_false_eq_true, true_or, or_true, false_or, or_false, or_self, and_self, true_and, and_true, false_and, and_false, if_true, if_false]; try rfl
      exact mu_iret (v0 := 0) (z := (su σ 0 (0) (1), τ)) hx hb hr hlocks hP hD hS dX8_parameterOf_88 (by rw [ho]) (by rw [ho])
  · -- 6 not
    have c2 := bI_0 c2
    refine lv_iconst (v := 2) hx hb dX8_parameterOf_9 (by decide) ?_
    refine lv_goto (tgt := 47) hx hb dX8_parameterOf_10 (by decide) ?_
    refine va_put (D := D) (ci := 8) (v := .int 2) (ty := .int) (C := RX8) (T := TX8) (N := 33) hx hb hts iX8 tyX8 tyX8_ok nmX8 hown hK.1 hP hD hS 0 rfl rfl 0 (by decide) (hts _ q_679) (fun _ h9 => h9) rfl (by decide +kernel) rfl rfl (Nat.le_of_ble_eq_true rfl) dX8_parameterOf_47 (fun H locs hP hD hS => ?_)
    have hP : va_P D vwCl (mW G mo ad (su σ 0 (0) (2)) (τ)) H := hP
    have hD : va_D A (mW G mo ad (su σ 0 (0) (2)) (τ)) := hD
    refine lv_aload_n hx hb dX8_parameterOf_50 rfl (lv_at hl 0 rfl) ?_
    refine va_get (D := D) (ci := 8) (v := .int 2) (C := RX8) (T := TX8) (N := 33) hx hb hts iX8 hown hK.1 hP 0 rfl rfl 0 (by decide) (hts _ q_679) (fun _ h9 => h9) rfl dX8_parameterOf_51 ?_
    refine lv_if_le (tgt := 61) hx hb dX8_parameterOf_54 (by decide) (fun hh => absurd hh (by decide)) (fun hh => ?_)
    refine lv_iconst (v := 0) hx hb dX8_parameterOf_57 (by decide) ?_
    refine lv_goto (tgt := 88) hx hb dX8_parameterOf_58 (by decide) ?_
    have ho : oParOf σ τ k en ii dm = (0, su σ 0 (0) (2), τ) := by unfold oParOf; simp only [eq_false c2, not_true, not_false_iff, not_true_eq_false, not_false_eq_true, true_or, or_true, false_or, or_false, or_self, and_self, true_and, and_true, false_and, and_false, if_true, if_false]; try rfl
    exact mu_iret (v0 := 0) (z := (su σ 0 (0) (2), τ)) hx hb hr hlocks hP hD hS dX8_parameterOf_88 (by rw [ho]) (by rw [ho])
set_option maxHeartbeats 4000000 in
set_option maxRecDepth 100000 in
theorem m_lacks (l : Launch) (D : va_G) (G : Nat → ClassId) (mo : Nat) (ad : Nat → Nat) (σ : MS) (τ : Nat → Int64) (sz : Nat) (n : Nat) (h1 : σ 1 0 = nI n) (hn : n ≤ 12) (k : Nat) (h7 : σ 7 0 = nI k) (hk60 : k ≤ 60) (heo : ∀ i, i < k → okE σ i) (hmo : ∀ i, i < k → okM σ i) (t : Int32) (ii : Int32) (hb6 : ∀ i, σ 6 i = 0 ∨ σ 6 i = 1) : Met l yX8_lacks (ww yX8_lacks cX8_lacks 5 (some .int)) (rmD 3) (muP D G sz mo ad (σ, τ) [.ref mo, .int t, .int ii]) (muQi D G mo ad (muA G mo ad (σ, τ) sz) (oLacks σ τ n k t ii).1 (oLacks σ τ n k t ii).2) 0 0 (muA G mo ad (σ, τ) sz) := by
  refine Met.ofW (cc := cX8_lacks) (maxL := 5) (ret := (some .int)) (by decide) rfl ?_
  intro p e s m args below meth c s₁ B hml hv
  obtain ⟨rfl, hsz, hP, hK, hD0⟩ := hv
  have hx := B.exec
  have hb := B.bytes
  have hr := B.returns
  have hts : ∀ w ∈ TT, w.before _ s = true := fun w h => atoms_spec (ws := ww yX8_lacks cX8_lacks 5 (some .int)) B.pre w (List.mem_cons_of_mem _ h)
  have hown : s.vm.findClass RX8 = some m.cls := findClass_of_methodNamed B.named
  have hlocks := B.notSynchronized
  subst hsz
  have hD : va_D (muA G mo ad (σ, τ) s.heap.size) (mW G mo ad σ τ) := hD0.self
  generalize hAe : muA G mo ad (σ, τ) s.heap.size = A at hD ⊢
  have hA : ∀ q : Nat, s.heap.size ≤ q → A q := fun q h => by rw [← hAe]; exact Or.inr h
  have hS : va_S A s.heap s.heap [] := va_S.rf
  have hP : va_P D vwCl (mW G mo ad σ τ) s.heap := hP
  have hl := lv_entry ([.ref mo, .int t, .int ii]) (n := 5) (Nat.le_of_ble_eq_true rfl)
  rw [lg_entry_eq]
  generalize (lg_sl ([.ref mo, .int t, .int ii]) ++ List.replicate (5 - (lg_sl ([.ref mo, .int t, .int ii])).length) Slot.unset).toArray = ls at hl ⊢
  have hl : lv_has ls 5 [(0, .ref mo), (1, .int t), (2, .int ii)] := hl
  refine lv_aload_n hx hb dX8_lacks_0 rfl (lv_at hl 0 rfl) ?_
  refine lv_iconst (v := 0) hx hb dX8_lacks_1 (by decide) ?_
  refine va_put (D := D) (ci := 8) (v := .int 0) (ty := .int) (C := RX8) (T := TX8) (N := 33) hx hb hts iX8 tyX8 tyX8_ok nmX8 hown hK.1 hP hD hS 0 rfl rfl 0 (by decide) (hts _ q_679) (fun _ h9 => h9) rfl (by decide +kernel) rfl rfl (Nat.le_of_ble_eq_true rfl) dX8_lacks_2 (fun H locs hP hD hS => ?_)
  have hP : va_P D vwCl (mW G mo ad (su σ 0 (0) (0)) (τ)) H := hP
  have hD : va_D A (mW G mo ad (su σ 0 (0) (0)) (τ)) := hD
  refine lv_aload_n hx hb dX8_lacks_5 rfl (lv_at hl 0 rfl) ?_
  refine lv_iload_n hx hb dX8_lacks_6 rfl (lv_at hl 1 rfl) ?_
  refine ro_Vi (D := D) (G := G) (As := [.int t]) (rest := []) ⟨hx, hb, hml, hown, hts⟩ (m_isType l D G _ mo ad _ _ hP n h1 hn t) gV_X8_X8_isType hdV_X8_isType ⟨Nat.le_of_ble_eq_true rfl, Nat.le_of_ble_eq_true rfl⟩ hK (va_recv hK.1 hP (ci := 8) (q0 := 0) rfl rfl) rfl hl.1 rfl (Nat.le_of_ble_eq_true rfl) dX8_lacks_7 ⟨Nat.le_of_ble_eq_true rfl, Nat.le_of_ble_eq_true rfl⟩ (fun r1 e_r1 => ?_)
  subst e_r1
  refine W.eq (g2 := F0 m 10 ls [.int (bI (okN n t))]) rfl ?_
  refine lv_if_ne (tgt := 16) hx hb dX8_lacks_10 (by decide) (fun c2 => ?_) (fun c2 => ?_)
  · -- 10 taken
    have c2 := bI_1 c2
    obtain ⟨j3, h_j3, rfl⟩ := okN_ex (by omega) c2
    refine lv_iload_n hx hb dX8_lacks_16 rfl (lv_at hl 2 rfl) ?_
    refine lv_istore_n (lv' := [(3, .int ii), (0, .ref mo), (1, .int (nI j3)), (2, .int ii)]) hx hb dX8_lacks_17 rfl hl (by decide) rfl (fun ls hl => ?_)
    refine lv_iconst (v := 0) hx hb dX8_lacks_18 (by decide) ?_
    refine lv_istore (lv' := [(4, .int 0), (3, .int ii), (0, .ref mo), (1, .int (nI j3)), (2, .int ii)]) hx hb dX8_lacks_19 hl (by decide) rfl (fun ls hl => ?_)
    refine w_for (N := k) 21 (L := fun k9 ls => ∃ lf : Int32, lv_has ls 5 [(4, .int (nI k9)), (3, .int lf), (0, .ref mo), (1, .int (nI j3)), (2, .int ii)] ∧ lkG σ j3 k ii k 0 ii = lkG σ j3 k ii (k - k9) k9 lf) (fun k9 ls hk hL ih => ?_) 0 ls (Nat.zero_le _) ⟨ii, hl, by rw [Nat.sub_zero]⟩
    obtain ⟨lf, hl, hi⟩ := hL
    have hl : lv_has ls 5 [(4, .int (nI k9)), (3, .int lf), (0, .ref mo), (1, .int (nI j3)), (2, .int ii)] := hl
    refine lv_iload hx hb dX8_lacks_21 (lv_at hl 0 rfl) ?_
    refine lv_aload_n hx hb dX8_lacks_23 rfl (lv_at hl 2 rfl) ?_
    refine va_get (D := D) (ci := 8) (v := .int (σ 7 0)) (C := RX8) (T := TX8) (N := 33) hx hb hts iX8 hown hK.1 hP 0 rfl rfl 7 (by decide) (hts _ q_686) (fun _ h9 => h9) rfl dX8_lacks_24 ?_
    refine lv_icmp_ge (tgt := 79) hx hb dX8_lacks_27 (by decide) (fun c4 => ?_) (fun c4 => ?_)
    · -- 27 taken
      have c4 : k ≤ k9 := (nI_leI (a := k) (b := k9) (by omega) (by omega)).mp (by have h8 := c4; rw [h7] at h8; exact h8)
      refine lv_iconst (v := -1) hx hb dX8_lacks_79 (by decide) ?_
      have ho : oLacks σ τ n k (nI j3) ii = ((-1), su σ 0 (0) (0), τ) := by unfold oLacks; simp only [eq_true c2, nI_clamp (show j3 < 2 ^ 31 by omega), not_true, not_false_iff, not_true_eq_false, not_false_eq_true, true_or, or_true, false_or, or_false, or_self, and_self, true_and, and_true, false_and, and_false, if_true, if_false]; rw [hi, show k - k9 = 0 by omega]; rfl
      exact mu_iret (v0 := (-1)) (z := (su σ 0 (0) (0), τ)) hx hb hr hlocks hP hD hS dX8_lacks_80 (by rw [ho]) (by rw [ho])
    · -- 27 not
      have c4 : ¬ k ≤ k9 := fun h9 => c4 (by rw [h7]; exact (nI_leI (a := k) (b := k9) (by omega) (by omega)).mpr h9)
      refine lv_iload_n hx hb dX8_lacks_30 rfl (lv_at hl 4 rfl) ?_
      refine lv_if_lt (tgt := 79) hx hb dX8_lacks_31 (by decide) (fun c5 => ?_) (fun c5 => ?_)
      · -- 31 taken
        refine lv_iconst (v := -1) hx hb dX8_lacks_79 (by decide) ?_
        have ho : oLacks σ τ n k (nI j3) ii = ((-1), su σ 0 (0) (0), τ) := by unfold oLacks; simp only [eq_true c2, nI_clamp (show j3 < 2 ^ 31 by omega), not_true, not_false_iff, not_true_eq_false, not_false_eq_true, true_or, or_true, false_or, or_false, or_self, and_self, true_and, and_true, false_and, and_false, if_true, if_false]; rw [hi, lkG_u (by omega)]; simp only [eq_true c5, not_true, not_false_iff, not_true_eq_false, not_false_eq_true, true_or, or_true, false_or, or_false, or_self, and_self, true_and, and_true, false_and, and_false, if_true, if_false]
        exact mu_iret (v0 := (-1)) (z := (su σ 0 (0) (0), τ)) hx hb hr hlocks hP hD hS dX8_lacks_80 (by rw [ho]) (by rw [ho])
      · -- 31 not
        refine lv_aload_n hx hb dX8_lacks_34 rfl (lv_at hl 2 rfl) ?_
        refine va_get (D := D) (ci := 8) (v := .ref ((ad 2))) (C := RX8) (T := TX8) (N := 33) hx hb hts iX8 hown hK.1 hP 0 rfl rfl 2 (by decide) (hts _ q_681) (fun _ h9 => h9) rfl dX8_lacks_35 ?_
        refine lv_iload_n hx hb dX8_lacks_38 rfl (lv_at hl 3 rfl) ?_
        refine iald_n (f := σ 2) hx hb hK.1 hP 1 0 rfl rfl (j3) rfl (by omega) (by decide) dX8_lacks_39 ?_
        refine lv_if_eq (tgt := 53) hx hb dX8_lacks_40 (by decide) (fun c6 => ?_) (fun c6 => ?_)
        · -- 40 taken
          refine lv_aload_n hx hb dX8_lacks_53 rfl (lv_at hl 2 rfl) ?_
          refine lv_iload_n hx hb dX8_lacks_54 rfl (lv_at hl 3 rfl) ?_
          refine lv_iload hx hb dX8_lacks_55 (lv_at hl 0 rfl) ?_
          refine ro_Vi (D := D) (G := G) (As := [.int (nI j3), .int (nI k9)]) (rest := []) ⟨hx, hb, hml, hown, hts⟩ (m_isLacked l D G _ mo ad _ _ hP k h7 hk60 (j3) (k9) (by omega) (by omega) (heo _ (by omega)) heo hmo hb6) gV_X8_X8_isLacked hdV_X8_isLacked ⟨Nat.le_of_ble_eq_true rfl, Nat.le_of_ble_eq_true rfl⟩ hK (va_recv hK.1 hP (ci := 8) (q0 := 0) rfl rfl) rfl hl.1 rfl (Nat.le_of_ble_eq_true rfl) dX8_lacks_57 ⟨Nat.le_of_ble_eq_true rfl, Nat.le_of_ble_eq_true rfl⟩ (fun r7 e_r7 => ?_)
          subst e_r7
          refine W.eq (g2 := F0 m 60 ls [.int (bI (lkN σ j3 k9 k))]) rfl ?_
          refine lv_if_eq (tgt := 73) hx hb dX8_lacks_60 (by decide) (fun c8 => ?_) (fun c8 => ?_)
          · -- 60 taken
            have c8 := bI_0 c8
            refine lv_iinc (v := nI (k9 + 1)) (lv' := [(4, .int (nI (k9 + 1))), (3, .int lf), (0, .ref mo), (1, .int (nI j3)), (2, .int ii)]) hx hb dX8_lacks_73 hl (k := 0) rfl (nI_1 _) (by decide) rfl (fun ls hl => ?_)
            refine lv_goto (tgt := 21) hx hb dX8_lacks_76 (by decide) ?_
            rw [lkG_u (by omega)] at hi
            simp only [eq_false c5, eq_true c6, eq_false c8, not_true, not_false_iff, not_true_eq_false, not_false_eq_true, true_or, or_true, false_or, or_false, or_self, and_self, true_and, and_true, false_and, and_false, if_true, if_false] at hi
            exact ih _ (by omega) ⟨lf, lv_sub hl [0, 1, 2, 3, 4] rfl, hi⟩
          · -- 60 not
            have c8 := bI_1 c8
            refine lv_iload_n hx hb dX8_lacks_63 rfl (lv_at hl 1 rfl) ?_
            refine lv_if_ne (tgt := 70) hx hb dX8_lacks_64 (by decide) (fun c9 => ?_) (fun c9 => ?_)
            · -- 64 taken
              refine lv_iinc (v := lf + (-1)) (lv' := [(3, .int (lf + (-1))), (4, .int (nI k9)), (0, .ref mo), (1, .int (nI j3)), (2, .int ii)]) hx hb dX8_lacks_70 hl (k := 1) rfl (rfl) (by decide) rfl (fun ls hl => ?_)
              refine lv_iinc (v := nI (k9 + 1)) (lv' := [(4, .int (nI (k9 + 1))), (3, .int (lf + (-1))), (0, .ref mo), (1, .int (nI j3)), (2, .int ii)]) hx hb dX8_lacks_73 hl (k := 1) rfl (nI_1 _) (by decide) rfl (fun ls hl => ?_)
              refine lv_goto (tgt := 21) hx hb dX8_lacks_76 (by decide) ?_
              rw [lkG_u (by omega)] at hi
              simp only [eq_false c5, eq_true c6, eq_true c8, eq_false c9, not_true, not_false_iff, not_true_eq_false, not_false_eq_true, true_or, or_true, false_or, or_false, or_self, and_self, true_and, and_true, false_and, and_false, if_true, if_false] at hi
              exact ih _ (by omega) ⟨lf + (-1), lv_sub hl [0, 1, 2, 3, 4] rfl, hi⟩
            · -- 64 not
              refine lv_iload hx hb dX8_lacks_67 (lv_at hl 0 rfl) ?_
              have ho : oLacks σ τ n k (nI j3) ii = (nI k9, su σ 0 (0) (0), τ) := by unfold oLacks; simp only [eq_true c2, nI_clamp (show j3 < 2 ^ 31 by omega), not_true, not_false_iff, not_true_eq_false, not_false_eq_true, true_or, or_true, false_or, or_false, or_self, and_self, true_and, and_true, false_and, and_false, if_true, if_false]; rw [hi, lkG_u (by omega)]; simp only [eq_false c5, eq_true c6, eq_true c8, eq_true c9, not_true, not_false_iff, not_true_eq_false, not_false_eq_true, true_or, or_true, false_or, or_false, or_self, and_self, true_and, and_true, false_and, and_false, if_true, if_false]
              exact mu_iret (v0 := nI k9) (z := (su σ 0 (0) (0), τ)) hx hb hr hlocks hP hD hS dX8_lacks_69 (by rw [ho]) (by rw [ho])
        · -- 40 not
          refine lv_aload_n hx hb dX8_lacks_43 rfl (lv_at hl 2 rfl) ?_
          refine va_get (D := D) (ci := 8) (v := .ref ((ad 2))) (C := RX8) (T := TX8) (N := 33) hx hb hts iX8 hown hK.1 hP 0 rfl rfl 2 (by decide) (hts _ q_681) (fun _ h9 => h9) rfl dX8_lacks_44 ?_
          refine lv_iload_n hx hb dX8_lacks_47 rfl (lv_at hl 3 rfl) ?_
          refine iald_n (f := σ 2) hx hb hK.1 hP 1 0 rfl rfl (j3) rfl (by omega) (by decide) dX8_lacks_48 ?_
          refine lv_iconst (v := 2) hx hb dX8_lacks_49 (by decide) ?_
          refine lv_icmp_ne (tgt := 79) hx hb dX8_lacks_50 (by decide) (fun c10 => ?_) (fun c10 => ?_)
          · -- 50 taken
            refine lv_iconst (v := -1) hx hb dX8_lacks_79 (by decide) ?_
            have ho : oLacks σ τ n k (nI j3) ii = ((-1), su σ 0 (0) (0), τ) := by unfold oLacks; simp only [eq_true c2, nI_clamp (show j3 < 2 ^ 31 by omega), not_true, not_false_iff, not_true_eq_false, not_false_eq_true, true_or, or_true, false_or, or_false, or_self, and_self, true_and, and_true, false_and, and_false, if_true, if_false]; rw [hi, lkG_u (by omega)]; simp only [eq_false c5, eq_false c6, eq_false c10, not_true, not_false_iff, not_true_eq_false, not_false_eq_true, true_or, or_true, false_or, or_false, or_self, and_self, true_and, and_true, false_and, and_false, if_true, if_false]
            exact mu_iret (v0 := (-1)) (z := (su σ 0 (0) (0), τ)) hx hb hr hlocks hP hD hS dX8_lacks_80 (by rw [ho]) (by rw [ho])
          · -- 50 not
            refine lv_aload_n hx hb dX8_lacks_53 rfl (lv_at hl 2 rfl) ?_
            refine lv_iload_n hx hb dX8_lacks_54 rfl (lv_at hl 3 rfl) ?_
            refine lv_iload hx hb dX8_lacks_55 (lv_at hl 0 rfl) ?_
            refine ro_Vi (D := D) (G := G) (As := [.int (nI j3), .int (nI k9)]) (rest := []) ⟨hx, hb, hml, hown, hts⟩ (m_isLacked l D G _ mo ad _ _ hP k h7 hk60 (j3) (k9) (by omega) (by omega) (heo _ (by omega)) heo hmo hb6) gV_X8_X8_isLacked hdV_X8_isLacked ⟨Nat.le_of_ble_eq_true rfl, Nat.le_of_ble_eq_true rfl⟩ hK (va_recv hK.1 hP (ci := 8) (q0 := 0) rfl rfl) rfl hl.1 rfl (Nat.le_of_ble_eq_true rfl) dX8_lacks_57 ⟨Nat.le_of_ble_eq_true rfl, Nat.le_of_ble_eq_true rfl⟩ (fun r11 e_r11 => ?_)
            subst e_r11
            refine W.eq (g2 := F0 m 60 ls [.int (bI (lkN σ j3 k9 k))]) rfl ?_
            refine lv_if_eq (tgt := 73) hx hb dX8_lacks_60 (by decide) (fun c12 => ?_) (fun c12 => ?_)
            · -- 60 taken
              have c12 := bI_0 c12
              refine lv_iinc (v := nI (k9 + 1)) (lv' := [(4, .int (nI (k9 + 1))), (3, .int lf), (0, .ref mo), (1, .int (nI j3)), (2, .int ii)]) hx hb dX8_lacks_73 hl (k := 0) rfl (nI_1 _) (by decide) rfl (fun ls hl => ?_)
              refine lv_goto (tgt := 21) hx hb dX8_lacks_76 (by decide) ?_
              rw [lkG_u (by omega)] at hi
              simp only [eq_false c5, eq_false c6, eq_true c10, eq_false c12, not_true, not_false_iff, not_true_eq_false, not_false_eq_true, true_or, or_true, false_or, or_false, or_self, and_self, true_and, and_true, false_and, and_false, if_true, if_false] at hi
              exact ih _ (by omega) ⟨lf, lv_sub hl [0, 1, 2, 3, 4] rfl, hi⟩
            · -- 60 not
              have c12 := bI_1 c12
              refine lv_iload_n hx hb dX8_lacks_63 rfl (lv_at hl 1 rfl) ?_
              refine lv_if_ne (tgt := 70) hx hb dX8_lacks_64 (by decide) (fun c13 => ?_) (fun c13 => ?_)
              · -- 64 taken
                refine lv_iinc (v := lf + (-1)) (lv' := [(3, .int (lf + (-1))), (4, .int (nI k9)), (0, .ref mo), (1, .int (nI j3)), (2, .int ii)]) hx hb dX8_lacks_70 hl (k := 1) rfl (rfl) (by decide) rfl (fun ls hl => ?_)
                refine lv_iinc (v := nI (k9 + 1)) (lv' := [(4, .int (nI (k9 + 1))), (3, .int (lf + (-1))), (0, .ref mo), (1, .int (nI j3)), (2, .int ii)]) hx hb dX8_lacks_73 hl (k := 1) rfl (nI_1 _) (by decide) rfl (fun ls hl => ?_)
                refine lv_goto (tgt := 21) hx hb dX8_lacks_76 (by decide) ?_
                rw [lkG_u (by omega)] at hi
                simp only [eq_false c5, eq_false c6, eq_true c10, eq_true c12, eq_false c13, not_true, not_false_iff, not_true_eq_false, not_false_eq_true, true_or, or_true, false_or, or_false, or_self, and_self, true_and, and_true, false_and, and_false, if_true, if_false] at hi
                exact ih _ (by omega) ⟨lf + (-1), lv_sub hl [0, 1, 2, 3, 4] rfl, hi⟩
              · -- 64 not
                refine lv_iload hx hb dX8_lacks_67 (lv_at hl 0 rfl) ?_
                have ho : oLacks σ τ n k (nI j3) ii = (nI k9, su σ 0 (0) (0), τ) := by unfold oLacks; simp only [eq_true c2, nI_clamp (show j3 < 2 ^ 31 by omega), not_true, not_false_iff, not_true_eq_false, not_false_eq_true, true_or, or_true, false_or, or_false, or_self, and_self, true_and, and_true, false_and, and_false, if_true, if_false]; rw [hi, lkG_u (by omega)]; simp only [eq_false c5, eq_false c6, eq_true c10, eq_true c12, eq_true c13, not_true, not_false_iff, not_true_eq_false, not_false_eq_true, true_or, or_true, false_or, or_false, or_self, and_self, true_and, and_true, false_and, and_false, if_true, if_false]
                exact mu_iret (v0 := nI k9) (z := (su σ 0 (0) (0), τ)) hx hb hr hlocks hP hD hS dX8_lacks_69 (by rw [ho]) (by rw [ho])
  · -- 10 not
    have c2 := bI_0 c2
    refine lv_bipush (v := -11) hx hb dX8_lacks_13 (by decide) ?_
    have ho : oLacks σ τ n k t ii = ((-11), su σ 0 (0) (0), τ) := by unfold oLacks; simp only [eq_false c2, not_true, not_false_iff, not_true_eq_false, not_false_eq_true, true_or, or_true, false_or, or_false, or_self, and_self, true_and, and_true, false_and, and_false, if_true, if_false]; try rfl
    exact mu_iret (v0 := (-11)) (z := (su σ 0 (0) (0), τ)) hx hb hr hlocks hP hD hS dX8_lacks_15 (by rw [ho]) (by rw [ho])
set_option maxHeartbeats 4000000 in
set_option maxRecDepth 100000 in
theorem m_end (l : Launch) (D : va_G) (G : Nat → ClassId) (mo : Nat) (ad : Nat → Nat) (σ : MS) (τ : Nat → Int64) (sz : Nat) (k : Nat) (h7 : σ 7 0 = nI k) (hk60 : k ≤ 60) (hk59 : ¬ σ 21 0 = 0 → k < 60) (hbg : ¬ σ 21 0 = 0 → okE σ k ∧ okM σ k ∧ kdO (σ 11 k)) (heo : ∀ i, i < k → okE σ i) (hmo : ∀ i, i < k → okM σ i) (hko : ∀ i, i < k → kdO (σ 11 i)) (hb6 : ∀ i, σ 6 i = 0 ∨ σ 6 i = 1) : Met l yX8_end (ww yX8_end cX8_end 4 (some .int)) (rmD 4) (muP D G sz mo ad (σ, τ) [.ref mo]) (muQi D G mo ad (muA G mo ad (σ, τ) sz) (oEnd σ τ k).1 (oEnd σ τ k).2) 0 0 (muA G mo ad (σ, τ) sz) := by
  refine Met.ofW (cc := cX8_end) (maxL := 4) (ret := (some .int)) (by decide) rfl ?_
  intro p e s m args below meth c s₁ B hml hv
  obtain ⟨rfl, hsz, hP, hK, hD0⟩ := hv
  have hx := B.exec
  have hb := B.bytes
  have hr := B.returns
  have hts : ∀ w ∈ TT, w.before _ s = true := fun w h => atoms_spec (ws := ww yX8_end cX8_end 4 (some .int)) B.pre w (List.mem_cons_of_mem _ h)
  have hown : s.vm.findClass RX8 = some m.cls := findClass_of_methodNamed B.named
  have hlocks := B.notSynchronized
  subst hsz
  have hD : va_D (muA G mo ad (σ, τ) s.heap.size) (mW G mo ad σ τ) := hD0.self
  generalize hAe : muA G mo ad (σ, τ) s.heap.size = A at hD ⊢
  have hA : ∀ q : Nat, s.heap.size ≤ q → A q := fun q h => by rw [← hAe]; exact Or.inr h
  have hS : va_S A s.heap s.heap [] := va_S.rf
  have hP : va_P D vwCl (mW G mo ad σ τ) s.heap := hP
  have hl := lv_entry ([.ref mo]) (n := 4) (Nat.le_of_ble_eq_true rfl)
  rw [lg_entry_eq]
  generalize (lg_sl ([.ref mo]) ++ List.replicate (4 - (lg_sl ([.ref mo])).length) Slot.unset).toArray = ls at hl ⊢
  have hl : lv_has ls 4 [(0, .ref mo)] := hl
  refine lv_aload_n hx hb dX8_end_0 rfl (lv_at hl 0 rfl) ?_
  refine lv_iconst (v := 0) hx hb dX8_end_1 (by decide) ?_
  refine va_put (D := D) (ci := 8) (v := .int 0) (ty := .int) (C := RX8) (T := TX8) (N := 33) hx hb hts iX8 tyX8 tyX8_ok nmX8 hown hK.1 hP hD hS 0 rfl rfl 0 (by decide) (hts _ q_679) (fun _ h9 => h9) rfl (by decide +kernel) rfl rfl (Nat.le_of_ble_eq_true rfl) dX8_end_2 (fun H locs hP hD hS => ?_)
  have hP : va_P D vwCl (mW G mo ad (su σ 0 (0) (0)) (τ)) H := hP
  have hD : va_D A (mW G mo ad (su σ 0 (0) (0)) (τ)) := hD
  refine lv_aload_n hx hb dX8_end_5 rfl (lv_at hl 0 rfl) ?_
  refine va_get (D := D) (ci := 8) (v := .int (σ 21 0)) (C := RX8) (T := TX8) (N := 33) hx hb hts iX8 hown hK.1 hP 0 rfl rfl 21 (by decide) (hts _ q_700) (fun _ h9 => h9) rfl dX8_end_6 ?_
  refine lv_if_ne (tgt := 15) hx hb dX8_end_9 (by decide) (fun c1 => ?_) (fun c1 => ?_)
  · -- 9 taken
    have hk59 := hk59 c1
    obtain ⟨heb, hmb, hkb⟩ := hbg c1
    refine lv_aload_n hx hb dX8_end_15 rfl (lv_at hl 0 rfl) ?_
    refine lv_iconst (v := 0) hx hb dX8_end_16 (by decide) ?_
    refine va_put (D := D) (ci := 8) (v := .int 0) (ty := .boolean) (C := RX8) (T := TX8) (N := 33) hx hb hts iX8 tyX8 tyX8_ok nmX8 hown hK.1 hP hD hS 0 rfl rfl 21 (by decide) (hts _ q_700) (fun _ h9 => h9) rfl (by decide +kernel) rfl rfl (Nat.le_of_ble_eq_true rfl) dX8_end_17 (fun H locs hP hD hS => ?_)
    have hP : va_P D vwCl (mW G mo ad (su (su σ 0 (0) (0)) 21 (0) (0)) (τ)) H := hP
    have hD : va_D A (mW G mo ad (su (su σ 0 (0) (0)) 21 (0) (0)) (τ)) := hD
    refine lv_aload_n hx hb dX8_end_20 rfl (lv_at hl 0 rfl) ?_
    refine va_get (D := D) (ci := 8) (v := .int (σ 7 0)) (C := RX8) (T := TX8) (N := 33) hx hb hts iX8 hown hK.1 hP 0 rfl rfl 7 (by decide) (hts _ q_686) (fun _ h9 => h9) rfl dX8_end_21 ?_
    refine W.eq (g2 := F0 m 24 ls [.int (nI k)]) (congrArg (fun z9 => F0 m 24 ls [.int z9]) h7) ?_
    refine lv_istore_n (lv' := [(1, .int (nI k)), (0, .ref mo)]) hx hb dX8_end_24 rfl hl (by decide) rfl (fun ls hl => ?_)
    refine lv_iconst (v := 0) hx hb dX8_end_25 (by decide) ?_
    refine lv_istore_n (lv' := [(2, .int 0), (1, .int (nI k)), (0, .ref mo)]) hx hb dX8_end_26 rfl hl (by decide) rfl (fun ls hl => ?_)
    refine w_for (N := k) 27 (L := fun k9 ls => lv_has ls 4 [(2, .int (nI k9)), (1, .int (nI k)), (0, .ref mo)] ∧ ∀ i, i < k9 → ¬ twP σ k i) (fun k9 ls hk hL ih => ?_) 0 ls (Nat.zero_le _) ⟨hl, fun i h8 => absurd h8 (Nat.not_lt_zero i)⟩
    obtain ⟨hl, hi⟩ := hL
    have hl : lv_has ls 4 [(2, .int (nI k9)), (1, .int (nI k)), (0, .ref mo)] := hl
    refine lv_iload_n hx hb dX8_end_27 rfl (lv_at hl 0 rfl) ?_
    refine lv_aload_n hx hb dX8_end_28 rfl (lv_at hl 2 rfl) ?_
    refine va_get (D := D) (ci := 8) (v := .int (σ 7 0)) (C := RX8) (T := TX8) (N := 33) hx hb hts iX8 hown hK.1 hP 0 rfl rfl 7 (by decide) (hts _ q_686) (fun _ h9 => h9) rfl dX8_end_29 ?_
    refine lv_icmp_ge (tgt := 96) hx hb dX8_end_32 (by decide) (fun c2 => ?_) (fun c2 => ?_)
    · -- 32 taken
      have c2 : k ≤ k9 := (nI_leI (a := k) (b := k9) (by omega) (by omega)).mp (by have h8 := c2; rw [h7] at h8; exact h8)
      refine lv_iconst (v := 0) hx hb dX8_end_96 (by decide) ?_
      refine lv_istore_n (lv' := [(2, .int 0), (1, .int (nI k)), (0, .ref mo)]) hx hb dX8_end_97 rfl hl (by decide) rfl (fun ls hl => ?_)
      have hi1 := hi
      refine w_for (N := k) 98 (L := fun k9 ls => lv_has ls 4 [(2, .int (nI k9)), (1, .int (nI k)), (0, .ref mo)] ∧ rmF σ k k 0 = rmF σ k (k - k9) k9) (fun k9 ls hk hL ih => ?_) 0 ls (Nat.zero_le _) ⟨hl, by rw [Nat.sub_zero]⟩
      obtain ⟨hl, hi⟩ := hL
      have hl : lv_has ls 4 [(2, .int (nI k9)), (1, .int (nI k)), (0, .ref mo)] := hl
      refine lv_iload_n hx hb dX8_end_98 rfl (lv_at hl 0 rfl) ?_
      refine lv_aload_n hx hb dX8_end_99 rfl (lv_at hl 2 rfl) ?_
      refine va_get (D := D) (ci := 8) (v := .int (σ 7 0)) (C := RX8) (T := TX8) (N := 33) hx hb hts iX8 hown hK.1 hP 0 rfl rfl 7 (by decide) (hts _ q_686) (fun _ h9 => h9) rfl dX8_end_100 ?_
      refine lv_icmp_ge (tgt := 142) hx hb dX8_end_103 (by decide) (fun c3 => ?_) (fun c3 => ?_)
      · -- 103 taken
        have c3 : k ≤ k9 := (nI_leI (a := k) (b := k9) (by omega) (by omega)).mp (by have h8 := c3; rw [h7] at h8; exact h8)
        refine lv_aload_n hx hb dX8_end_142 rfl (lv_at hl 2 rfl) ?_
        refine va_get (D := D) (ci := 8) (v := .ref ((ad 28))) (C := RX8) (T := TX8) (N := 33) hx hb hts iX8 hown hK.1 hP 0 rfl rfl 28 (by decide) (hts _ q_707) (fun _ h9 => h9) rfl dX8_end_143 ?_
        refine lv_iload_n hx hb dX8_end_146 rfl (lv_at hl 1 rfl) ?_
        refine lv_aload_n hx hb dX8_end_147 rfl (lv_at hl 2 rfl) ?_
        refine lv_iload_n hx hb dX8_end_148 rfl (lv_at hl 1 rfl) ?_
        refine ro_Vi (D := D) (G := G) (As := [.int (nI k)]) (rest := [.int (nI k), .ref ((ad 28))]) ⟨hx, hb, hml, hown, hts⟩ (m_leastMet l D G _ mo ad _ _ hP k h7 hk60 (k) (by omega) heb hmb heo hb6) gV_X8_X8_leastMet hdV_X8_leastMet ⟨Nat.le_of_ble_eq_true rfl, Nat.le_of_ble_eq_true rfl⟩ hK (va_recv hK.1 hP (ci := 8) (q0 := 0) rfl rfl) rfl hl.1 rfl (Nat.le_of_ble_eq_true rfl) dX8_end_149 ⟨Nat.le_of_ble_eq_true rfl, Nat.le_of_ble_eq_true rfl⟩ (fun r4 e_r4 => ?_)
        subst e_r4
        refine W.eq (g2 := F0 m 152 ls [.int (fnd (fun b => meetP σ k b) k 0), .int (nI k), .ref ((ad 28))]) rfl ?_
        refine iast_n hx hb hK.1 hP hD hS 22 0 rfl rfl (k) rfl (by omega) (by decide) dX8_end_152 (fun H locs hP hD hS => ?_)
        have hP : va_P D vwCl (mW G mo ad (su (su (su σ 0 (0) (0)) 21 (0) (0)) 28 (k) (fnd (fun b => meetP σ k b) k 0)) (τ)) H := hP
        have hD : va_D A (mW G mo ad (su (su (su σ 0 (0) (0)) 21 (0) (0)) 28 (k) (fnd (fun b => meetP σ k b) k 0)) (τ)) := hD
        refine lv_aload_n hx hb dX8_end_153 rfl (lv_at hl 2 rfl) ?_
        refine va_get (D := D) (ci := 8) (v := .ref ((ad 8))) (C := RX8) (T := TX8) (N := 33) hx hb hts iX8 hown hK.1 hP 0 rfl rfl 8 (by decide) (hts _ q_687) (fun _ h9 => h9) rfl dX8_end_154 ?_
        refine lv_iload_n hx hb dX8_end_157 rfl (lv_at hl 1 rfl) ?_
        refine lv_iconst (v := 1) hx hb dX8_end_158 (by decide) ?_
        refine zast_n hx hb hK.1 hP hD hS 6 2 rfl rfl (k) rfl (by omega) (by decide) (Or.inr rfl) dX8_end_159 (fun H locs hP hD hS => ?_)
        have hP : va_P D vwCl (mW G mo ad (su (su (su (su σ 0 (0) (0)) 21 (0) (0)) 28 (k) (fnd (fun b => meetP σ k b) k 0)) 8 (k) (1)) (τ)) H := hP
        have hD : va_D A (mW G mo ad (su (su (su (su σ 0 (0) (0)) 21 (0) (0)) 28 (k) (fnd (fun b => meetP σ k b) k 0)) 8 (k) (1)) (τ)) := hD
        refine lv_aload_n hx hb dX8_end_160 rfl (lv_at hl 2 rfl) ?_
        refine lv_dup hx hb dX8_end_161 rfl ?_
        refine va_get (D := D) (ci := 8) (v := .int (σ 7 0)) (C := RX8) (T := TX8) (N := 33) hx hb hts iX8 hown hK.1 hP 0 rfl rfl 7 (by decide) (hts _ q_686) (fun _ h9 => h9) rfl dX8_end_162 ?_
        refine lv_iconst (v := 1) hx hb dX8_end_165 (by decide) ?_
        refine lv_iadd hx hb dX8_end_166 ?_
        refine W.eq (g2 := F0 m 167 ls [.int (nI (k + 1)), .ref mo]) (congrArg (fun z9 => F0 m 167 ls [.int z9, .ref mo]) (n_add (a := k) (b := 1) h7 (rfl : (1 : Int32) = nI 1))) ?_
        refine va_put (D := D) (ci := 8) (v := .int (nI (k + 1))) (ty := .int) (C := RX8) (T := TX8) (N := 33) hx hb hts iX8 tyX8 tyX8_ok nmX8 hown hK.1 hP hD hS 0 rfl rfl 7 (by decide) (hts _ q_686) (fun _ h9 => h9) rfl (by decide +kernel) rfl rfl (Nat.le_of_ble_eq_true rfl) dX8_end_167 (fun H locs hP hD hS => ?_)
        have hP : va_P D vwCl (mW G mo ad (su (su (su (su (su σ 0 (0) (0)) 21 (0) (0)) 28 (k) (fnd (fun b => meetP σ k b) k 0)) 8 (k) (1)) 7 (0) (nI (k + 1))) (τ)) H := hP
        have hD : va_D A (mW G mo ad (su (su (su (su (su σ 0 (0) (0)) 21 (0) (0)) 28 (k) (fnd (fun b => meetP σ k b) k 0)) 8 (k) (1)) 7 (0) (nI (k + 1))) (τ)) := hD
        refine lv_iload_n hx hb dX8_end_170 rfl (lv_at hl 1 rfl) ?_
        have ho : oEnd σ τ k = (nI k, su (su (su (su (su σ 0 (0) (0)) 21 (0) (0)) 28 (k) (fnd (fun b => meetP σ k b) k 0)) 8 (k) (1)) 7 (0) (nI (k + 1)), τ) := by have hrm : rmF σ k k 0 = 0 := (by rw [hi, show k - k9 = 0 by omega]; rfl); unfold oEnd; simp only [eq_false c1, eq_false (show ¬ ∃ b, b < k ∧ twP σ k b from fun ⟨i, h8, h9⟩ => hi1 i (by omega) h9), hrm, show ((0 : Int32) ≤ 0) = True from by decide, not_true, not_false_iff, not_true_eq_false, not_false_eq_true, true_or, or_true, false_or, or_false, or_self, and_self, true_and, and_true, false_and, and_false, if_true, if_false]; try rfl
        exact mu_iret (v0 := nI k) (z := (su (su (su (su (su σ 0 (0) (0)) 21 (0) (0)) 28 (k) (fnd (fun b => meetP σ k b) k 0)) 8 (k) (1)) 7 (0) (nI (k + 1)), τ)) hx hb hr hlocks hP hD hS dX8_end_171 (by rw [ho]) (by rw [ho])
      · -- 103 not
        have c3 : ¬ k ≤ k9 := fun h9 => c3 (by rw [h7]; exact (nI_leI (a := k) (b := k9) (by omega) (by omega)).mpr h9)
        refine lv_aload_n hx hb dX8_end_106 rfl (lv_at hl 2 rfl) ?_
        refine lv_iload_n hx hb dX8_end_107 rfl (lv_at hl 1 rfl) ?_
        refine lv_iload_n hx hb dX8_end_108 rfl (lv_at hl 0 rfl) ?_
        refine ro_Vi (D := D) (G := G) (As := [.int (nI k), .int (nI k9)]) (rest := []) ⟨hx, hb, hml, hown, hts⟩ (m_meets l D G _ mo ad _ _ hP (k) (k9) (by omega) (by omega) heb (heo k9 (by omega)) hmb hb6) gV_X8_X8_meets hdV_X8_meets ⟨Nat.le_of_ble_eq_true rfl, Nat.le_of_ble_eq_true rfl⟩ hK (va_recv hK.1 hP (ci := 8) (q0 := 0) rfl rfl) rfl hl.1 rfl (Nat.le_of_ble_eq_true rfl) dX8_end_109 ⟨Nat.le_of_ble_eq_true rfl, Nat.le_of_ble_eq_true rfl⟩ (fun r5 e_r5 => ?_)
        subst e_r5
        refine W.eq (g2 := F0 m 112 ls [.int (bI (meetP σ k k9))]) rfl ?_
        refine lv_if_eq (tgt := 124) hx hb dX8_end_112 (by decide) (fun c6 => ?_) (fun c6 => ?_)
        · -- 112 taken
          have c6 := bI_0 c6
          refine lv_iconst (v := 0) hx hb dX8_end_124 (by decide) ?_
          refine lv_istore_n (lv' := [(3, .int 0), (2, .int (nI k9)), (1, .int (nI k)), (0, .ref mo)]) hx hb dX8_end_125 rfl hl (by decide) rfl (fun ls hl => ?_)
          refine lv_iload_n hx hb dX8_end_126 rfl (lv_at hl 0 rfl) ?_
          refine lv_if_le (tgt := 136) hx hb dX8_end_127 (by decide) (fun hh => ?_) (fun hh => absurd (by decide) hh)
          refine lv_iinc (v := nI (k9 + 1)) (lv' := [(2, .int (nI (k9 + 1))), (3, .int 0), (1, .int (nI k)), (0, .ref mo)]) hx hb dX8_end_136 hl (k := 1) rfl (nI_1 _) (by decide) rfl (fun ls hl => ?_)
          refine lv_goto (tgt := 98) hx hb dX8_end_139 (by decide) ?_
          rw [rmF_u (by omega)] at hi
          simp only [eq_false c6, not_true, not_false_iff, not_true_eq_false, not_false_eq_true, true_or, or_true, false_or, or_false, or_self, and_self, true_and, and_true, false_and, and_false, if_true, if_false] at hi
          exact ih _ (by omega) ⟨lv_sub hl [0, 2, 3] rfl, hi⟩
        · -- 112 not
          have c6 := bI_1 c6
          refine lv_aload_n hx hb dX8_end_115 rfl (lv_at hl 2 rfl) ?_
          refine lv_iload_n hx hb dX8_end_116 rfl (lv_at hl 1 rfl) ?_
          refine lv_iload_n hx hb dX8_end_117 rfl (lv_at hl 0 rfl) ?_
          refine ro_Vi (D := D) (G := G) (As := [.int (nI k), .int (nI k9)]) (rest := []) ⟨hx, hb, hml, hown, hts⟩ (m_ruleAgainst l D G _ mo ad _ _ hP (k) (k9) (by omega) (by omega) hkb (hko k9 (by omega)) hb6) gV_X8_X8_ruleAgainst hdV_X8_ruleAgainst ⟨Nat.le_of_ble_eq_true rfl, Nat.le_of_ble_eq_true rfl⟩ hK (va_recv hK.1 hP (ci := 8) (q0 := 0) rfl rfl) rfl hl.1 rfl (Nat.le_of_ble_eq_true rfl) dX8_end_118 ⟨Nat.le_of_ble_eq_true rfl, Nat.le_of_ble_eq_true rfl⟩ (fun r7 e_r7 => ?_)
          subst e_r7
          refine W.eq (g2 := F0 m 121 ls [.int (aRA σ k k9)]) rfl ?_
          refine lv_goto (tgt := 125) hx hb dX8_end_121 (by decide) ?_
          refine lv_istore_n (lv' := [(3, .int (aRA σ k k9)), (2, .int (nI k9)), (1, .int (nI k)), (0, .ref mo)]) hx hb dX8_end_125 rfl hl (by decide) rfl (fun ls hl => ?_)
          refine lv_iload_n hx hb dX8_end_126 rfl (lv_at hl 0 rfl) ?_
          refine lv_if_le (tgt := 136) hx hb dX8_end_127 (by decide) (fun c8 => ?_) (fun c8 => ?_)
          · -- 127 taken
            refine lv_iinc (v := nI (k9 + 1)) (lv' := [(2, .int (nI (k9 + 1))), (3, .int (aRA σ k k9)), (1, .int (nI k)), (0, .ref mo)]) hx hb dX8_end_136 hl (k := 1) rfl (nI_1 _) (by decide) rfl (fun ls hl => ?_)
            refine lv_goto (tgt := 98) hx hb dX8_end_139 (by decide) ?_
            rw [rmF_u (by omega)] at hi
            simp only [eq_true c6, eq_true c8, not_true, not_false_iff, not_true_eq_false, not_false_eq_true, true_or, or_true, false_or, or_false, or_self, and_self, true_and, and_true, false_and, and_false, if_true, if_false] at hi
            exact ih _ (by omega) ⟨lv_sub hl [0, 2, 3] rfl, hi⟩
          · -- 127 not
            refine lv_aload_n hx hb dX8_end_130 rfl (lv_at hl 3 rfl) ?_
            refine lv_iload_n hx hb dX8_end_131 rfl (lv_at hl 0 rfl) ?_
            have hok : okR (aRA σ k k9) := aRA_ok
            refine W.eq (g2 := F0 m 132 ls [.int (nI ((aRA σ k k9).toNatClampNeg)), .ref mo]) (congrArg (fun z9 => F0 m 132 ls [.int z9, .ref mo]) hok.1) ?_
            refine mu_Vi (D := D) (G := G) (mo := mo) (ad := ad) (u := (su (su σ 0 (0) (0)) 21 (0) (0), τ)) (As := [.int (nI ((aRA σ k k9).toNatClampNeg))]) (rest := []) ⟨hx, hb, hml, hown, hts⟩ (m_breaks l D G mo ad (su (su σ 0 (0) (0)) 21 (0) (0)) (τ) _ (((aRA σ k k9).toNatClampNeg)) (by omega)) gV_X8_X8_breaks hdV_X8_breaks ⟨Nat.le_of_ble_eq_true rfl, Nat.le_of_ble_eq_true rfl⟩ hK hP hD hS hA rfl hl.1 rfl (Nat.le_of_ble_eq_true rfl) dX8_end_132 ⟨Nat.le_of_ble_eq_true rfl, Nat.le_of_ble_eq_true rfl⟩ (fun H locs hP hD hS => ?_)
            have hP : va_P D vwCl (mW G mo ad (su (su (su (su σ 0 (0) (0)) 21 (0) (0)) 27 (((aRA σ k k9).toNatClampNeg)) (σ 27 (((aRA σ k k9).toNatClampNeg)) + 1)) 26 (0) (σ 26 0 + 1)) (τ)) H := hP
            have hD : va_D A (mW G mo ad (su (su (su (su σ 0 (0) (0)) 21 (0) (0)) 27 (((aRA σ k k9).toNatClampNeg)) (σ 27 (((aRA σ k k9).toNatClampNeg)) + 1)) 26 (0) (σ 26 0 + 1)) (τ)) := hD
            refine W.eq (g2 := F0 m 135 ls [.int ((-40) - nI ((aRA σ k k9).toNatClampNeg))]) rfl ?_
            have ho : oEnd σ τ k = ((-40) - nI ((aRA σ k k9).toNatClampNeg), su (su (su (su σ 0 (0) (0)) 21 (0) (0)) 27 (((aRA σ k k9).toNatClampNeg)) (σ 27 (((aRA σ k k9).toNatClampNeg)) + 1)) 26 (0) (σ 26 0 + 1), τ) := by have hrm : rmF σ k k 0 = aRA σ k k9 := (by rw [hi, rmF_u (by omega)]; simp only [eq_true c6, eq_false c8, not_true, not_false_iff, not_true_eq_false, not_false_eq_true, true_or, or_true, false_or, or_false, or_self, and_self, true_and, and_true, false_and, and_false, if_true, if_false]); unfold oEnd; simp only [eq_false c1, eq_false (show ¬ ∃ b, b < k ∧ twP σ k b from fun ⟨i, h8, h9⟩ => hi1 i (by omega) h9), hrm, eq_false c8, not_true, not_false_iff, not_true_eq_false, not_false_eq_true, true_or, or_true, false_or, or_false, or_self, and_self, true_and, and_true, false_and, and_false, if_true, if_false]; try rfl
            exact mu_iret (v0 := (-40) - nI ((aRA σ k k9).toNatClampNeg)) (z := (su (su (su (su σ 0 (0) (0)) 21 (0) (0)) 27 (((aRA σ k k9).toNatClampNeg)) (σ 27 (((aRA σ k k9).toNatClampNeg)) + 1)) 26 (0) (σ 26 0 + 1), τ)) hx hb hr hlocks hP hD hS dX8_end_135 (by rw [ho]) (by rw [ho])
    · -- 32 not
      have c2 : ¬ k ≤ k9 := fun h9 => c2 (by rw [h7]; exact (nI_leI (a := k) (b := k9) (by omega) (by omega)).mpr h9)
      refine lv_aload_n hx hb dX8_end_35 rfl (lv_at hl 2 rfl) ?_
      refine va_get (D := D) (ci := 8) (v := .ref ((ad 8))) (C := RX8) (T := TX8) (N := 33) hx hb hts iX8 hown hK.1 hP 0 rfl rfl 8 (by decide) (hts _ q_687) (fun _ h9 => h9) rfl dX8_end_36 ?_
      refine lv_iload_n hx hb dX8_end_39 rfl (lv_at hl 0 rfl) ?_
      refine zald_n (f := σ 8) hx hb hK.1 hP 6 2 rfl rfl (k9) rfl (by omega) (by decide) dX8_end_40 ?_
      refine lv_if_eq (tgt := 90) hx hb dX8_end_41 (by decide) (fun c9 => ?_) (fun c9 => ?_)
      · -- 41 taken
        refine lv_iinc (v := nI (k9 + 1)) (lv' := [(2, .int (nI (k9 + 1))), (1, .int (nI k)), (0, .ref mo)]) hx hb dX8_end_90 hl (k := 0) rfl (nI_1 _) (by decide) rfl (fun ls hl => ?_)
        refine lv_goto (tgt := 27) hx hb dX8_end_93 (by decide) ?_
        exact ih _ (by omega) ⟨lv_sub hl [0, 1, 2] rfl, fun i h8 => by rcases Nat.lt_or_ge i k9 with h9 | h9; exact hi i h9; rw [show i = k9 by omega]; exact fun h7 => absurd c9 h7.1⟩
      · -- 41 not
        refine lv_aload_n hx hb dX8_end_44 rfl (lv_at hl 2 rfl) ?_
        refine va_get (D := D) (ci := 8) (v := .ref ((ad 9))) (C := RX8) (T := TX8) (N := 33) hx hb hts iX8 hown hK.1 hP 0 rfl rfl 9 (by decide) (hts _ q_688) (fun _ h9 => h9) rfl dX8_end_45 ?_
        refine lv_iload_n hx hb dX8_end_48 rfl (lv_at hl 0 rfl) ?_
        refine iald_n (f := σ 9) hx hb hK.1 hP 7 0 rfl rfl (k9) rfl (by omega) (by decide) dX8_end_49 ?_
        refine lv_aload_n hx hb dX8_end_50 rfl (lv_at hl 2 rfl) ?_
        refine va_get (D := D) (ci := 8) (v := .ref ((ad 9))) (C := RX8) (T := TX8) (N := 33) hx hb hts iX8 hown hK.1 hP 0 rfl rfl 9 (by decide) (hts _ q_688) (fun _ h9 => h9) rfl dX8_end_51 ?_
        refine lv_iload_n hx hb dX8_end_54 rfl (lv_at hl 1 rfl) ?_
        refine iald_n (f := σ 9) hx hb hK.1 hP 7 0 rfl rfl (k) rfl (by omega) (by decide) dX8_end_55 ?_
        refine lv_icmp_ne (tgt := 90) hx hb dX8_end_56 (by decide) (fun c10 => ?_) (fun c10 => ?_)
        · -- 56 taken
          refine lv_iinc (v := nI (k9 + 1)) (lv' := [(2, .int (nI (k9 + 1))), (1, .int (nI k)), (0, .ref mo)]) hx hb dX8_end_90 hl (k := 0) rfl (nI_1 _) (by decide) rfl (fun ls hl => ?_)
          refine lv_goto (tgt := 27) hx hb dX8_end_93 (by decide) ?_
          exact ih _ (by omega) ⟨lv_sub hl [0, 1, 2] rfl, fun i h8 => by rcases Nat.lt_or_ge i k9 with h9 | h9; exact hi i h9; rw [show i = k9 by omega]; exact fun h7 => absurd h7.2.1 c10⟩
        · -- 56 not
          refine lv_aload_n hx hb dX8_end_59 rfl (lv_at hl 2 rfl) ?_
          refine va_get (D := D) (ci := 8) (v := .ref ((ad 10))) (C := RX8) (T := TX8) (N := 33) hx hb hts iX8 hown hK.1 hP 0 rfl rfl 10 (by decide) (hts _ q_689) (fun _ h9 => h9) rfl dX8_end_60 ?_
          refine lv_iload_n hx hb dX8_end_63 rfl (lv_at hl 0 rfl) ?_
          refine iald_n (f := σ 10) hx hb hK.1 hP 8 0 rfl rfl (k9) rfl (by omega) (by decide) dX8_end_64 ?_
          refine lv_aload_n hx hb dX8_end_65 rfl (lv_at hl 2 rfl) ?_
          refine va_get (D := D) (ci := 8) (v := .ref ((ad 10))) (C := RX8) (T := TX8) (N := 33) hx hb hts iX8 hown hK.1 hP 0 rfl rfl 10 (by decide) (hts _ q_689) (fun _ h9 => h9) rfl dX8_end_66 ?_
          refine lv_iload_n hx hb dX8_end_69 rfl (lv_at hl 1 rfl) ?_
          refine iald_n (f := σ 10) hx hb hK.1 hP 8 0 rfl rfl (k) rfl (by omega) (by decide) dX8_end_70 ?_
          refine lv_icmp_ne (tgt := 90) hx hb dX8_end_71 (by decide) (fun c11 => ?_) (fun c11 => ?_)
          · -- 71 taken
            refine lv_iinc (v := nI (k9 + 1)) (lv' := [(2, .int (nI (k9 + 1))), (1, .int (nI k)), (0, .ref mo)]) hx hb dX8_end_90 hl (k := 0) rfl (nI_1 _) (by decide) rfl (fun ls hl => ?_)
            refine lv_goto (tgt := 27) hx hb dX8_end_93 (by decide) ?_
            exact ih _ (by omega) ⟨lv_sub hl [0, 1, 2] rfl, fun i h8 => by rcases Nat.lt_or_ge i k9 with h9 | h9; exact hi i h9; rw [show i = k9 by omega]; exact fun h7 => absurd h7.2.2.1 c11⟩
          · -- 71 not
            refine lv_aload_n hx hb dX8_end_74 rfl (lv_at hl 2 rfl) ?_
            refine lv_iload_n hx hb dX8_end_75 rfl (lv_at hl 0 rfl) ?_
            refine lv_iload_n hx hb dX8_end_76 rfl (lv_at hl 1 rfl) ?_
            refine ro_Vi (D := D) (G := G) (As := [.int (nI k9), .int (nI k)]) (rest := []) ⟨hx, hb, hml, hown, hts⟩ (m_sameParts l D G _ mo ad _ _ hP (k9) (k) (by omega) (by omega) (hmo k9 (by omega))) gV_X8_X8_sameParts hdV_X8_sameParts ⟨Nat.le_of_ble_eq_true rfl, Nat.le_of_ble_eq_true rfl⟩ hK (va_recv hK.1 hP (ci := 8) (q0 := 0) rfl rfl) rfl hl.1 rfl (Nat.le_of_ble_eq_true rfl) dX8_end_77 ⟨Nat.le_of_ble_eq_true rfl, Nat.le_of_ble_eq_true rfl⟩ (fun r12 e_r12 => ?_)
            subst e_r12
            refine W.eq (g2 := F0 m 80 ls [.int (bI (sameP σ k9 k))]) rfl ?_
            refine lv_if_eq (tgt := 90) hx hb dX8_end_80 (by decide) (fun c13 => ?_) (fun c13 => ?_)
            · -- 80 taken
              have c13 := bI_0 c13
              refine lv_iinc (v := nI (k9 + 1)) (lv' := [(2, .int (nI (k9 + 1))), (1, .int (nI k)), (0, .ref mo)]) hx hb dX8_end_90 hl (k := 0) rfl (nI_1 _) (by decide) rfl (fun ls hl => ?_)
              refine lv_goto (tgt := 27) hx hb dX8_end_93 (by decide) ?_
              exact ih _ (by omega) ⟨lv_sub hl [0, 1, 2] rfl, fun i h8 => by rcases Nat.lt_or_ge i k9 with h9 | h9; exact hi i h9; rw [show i = k9 by omega]; exact fun h7 => absurd h7.2.2.2 c13⟩
            · -- 80 not
              have c13 := bI_1 c13
              refine lv_aload_n hx hb dX8_end_83 rfl (lv_at hl 2 rfl) ?_
              refine lv_bipush (v := 21) hx hb dX8_end_84 (by decide) ?_
              refine mu_Vi (D := D) (G := G) (mo := mo) (ad := ad) (u := (su (su σ 0 (0) (0)) 21 (0) (0), τ)) (As := [.int 21]) (rest := []) ⟨hx, hb, hml, hown, hts⟩ (m_breaks l D G mo ad (su (su σ 0 (0) (0)) 21 (0) (0)) (τ) _ (21) (by omega)) gV_X8_X8_breaks hdV_X8_breaks ⟨Nat.le_of_ble_eq_true rfl, Nat.le_of_ble_eq_true rfl⟩ hK hP hD hS hA rfl hl.1 rfl (Nat.le_of_ble_eq_true rfl) dX8_end_86 ⟨Nat.le_of_ble_eq_true rfl, Nat.le_of_ble_eq_true rfl⟩ (fun H locs hP hD hS => ?_)
              have hP : va_P D vwCl (mW G mo ad (su (su (su (su σ 0 (0) (0)) 21 (0) (0)) 27 (21) (σ 27 21 + 1)) 26 (0) (σ 26 0 + 1)) (τ)) H := hP
              have hD : va_D A (mW G mo ad (su (su (su (su σ 0 (0) (0)) 21 (0) (0)) 27 (21) (σ 27 21 + 1)) 26 (0) (σ 26 0 + 1)) (τ)) := hD
              refine W.eq (g2 := F0 m 89 ls [.int ((-40) - nI 21)]) rfl ?_
              have ho : oEnd σ τ k = ((-40) - nI 21, su (su (su (su σ 0 (0) (0)) 21 (0) (0)) 27 (21) (σ 27 21 + 1)) 26 (0) (σ 26 0 + 1), τ) := by unfold oEnd; simp only [eq_false c1, eq_true (show ∃ b, b < k ∧ twP σ k b from ⟨k9, by omega, c9, c10, c11, c13⟩), not_true, not_false_iff, not_true_eq_false, not_false_eq_true, true_or, or_true, false_or, or_false, or_self, and_self, true_and, and_true, false_and, and_false, if_true, if_false]; try rfl
              exact mu_iret (v0 := (-40) - nI 21) (z := (su (su (su (su σ 0 (0) (0)) 21 (0) (0)) 27 (21) (σ 27 21 + 1)) 26 (0) (σ 26 0 + 1), τ)) hx hb hr hlocks hP hD hS dX8_end_89 (by rw [ho]) (by rw [ho])
  · -- 9 not
    refine lv_bipush (v := -14) hx hb dX8_end_12 (by decide) ?_
    have ho : oEnd σ τ k = ((-14), su σ 0 (0) (0), τ) := by unfold oEnd; simp only [eq_true c1, not_true, not_false_iff, not_true_eq_false, not_false_eq_true, true_or, or_true, false_or, or_false, or_self, and_self, true_and, and_true, false_and, and_false, if_true, if_false]; try rfl
    exact mu_iret (v0 := (-14)) (z := (su σ 0 (0) (0), τ)) hx hb hr hlocks hP hD hS dX8_end_14 (by rw [ho]) (by rw [ho])
end
section
def zeF (f : Nat → Int32) : Nat → Nat → Int32
  | 0 => f
  | k + 1 => upd (zeF f k) k 0
def oClear (σ : MS) (τ : Nat → Int64) (k : Nat) : Int32 × MU :=
  (nI k, st (su (su (su (su (su (su (su σ 0 0 0) 1 0 0) 7 0 0) 21 0 0) 22 0 0) 25 0 0) 26 0 0) 27 (zeF (σ 27) 26), τ)
theorem upd_upd (f : Nat → Int32) (j : Nat) (x y : Int32) : upd (upd f j x) j y = upd f j y := by funext i; unfold upd; split <;> rfl
abbrev isP (σ : MS) (t : Nat) (name : Int32) (e : Nat) : Prop := ¬ σ 8 e = 0 ∧ σ 10 e = name ∧ lyP σ t (tyE σ e)
def canb (σ : MS) (t : Nat) (name : Int32) (e : Nat) : Bool := decide (isP σ t name e ∧ (σ 9 e = nI t ∨ (σ 13 e &&& 4 = 0 ∧ ¬ stP σ e)))
abbrev canP (σ : MS) (t : Nat) (name : Int32) (e : Nat) : Prop := canb σ t name e = true
theorem canP_def {σ : MS} {t : Nat} {name : Int32} {e : Nat} : canP σ t name e ↔ (isP σ t name e ∧ (σ 9 e = nI t ∨ (σ 13 e &&& 4 = 0 ∧ ¬ stP σ e))) := decide_eq_true_iff
def cdF (σ : MS) (t : Nat) (name : Int32) (f : Nat → Int32) : Nat → Nat → Int32
  | 0 => f
  | k + 1 => upd (cdF σ t name f k) k (bI (canP σ t name k))
theorem cdF_at {σ : MS} {t : Nat} {name : Int32} {f : Nat → Int32} : ∀ {k e : Nat}, e < k → cdF σ t name f k e = bI (canP σ t name e)
  | k + 1, e, h => by
    show upd (cdF σ t name f k) k _ e = _
    by_cases q : e = k
    · rw [q, pk_us]
    · rw [pk_un q]; exact cdF_at (by omega)
abbrev othP (σ : MS) (t : Nat) (name : Int32) (o e : Nat) : Prop := canP σ t name o ∧ ¬ o = e ∧ lyP σ (tyE σ o) (tyE σ e) ∧ sameP σ o e
def fnb (σ : MS) (t : Nat) (name : Int32) (e n : Nat) : Bool := decide (canP σ t name e ∧ ∀ o, o < n → ¬ othP σ t name o e)
abbrev fnN (σ : MS) (t : Nat) (name : Int32) (e n : Nat) : Prop := fnb σ t name e n = true
theorem fnN_def {σ : MS} {t : Nat} {name : Int32} {e n : Nat} : fnN σ t name e n ↔ (canP σ t name e ∧ ∀ o, o < n → ¬ othP σ t name o e) := decide_eq_true_iff
theorem fnN_0 {σ : MS} {t : Nat} {name : Int32} {e : Nat} : bI (canP σ t name e) = bI (fnN σ t name e 0) := bI_c ⟨fun h => fnN_def.mpr ⟨h, fun j hj => absurd hj (Nat.not_lt_zero j)⟩, fun h => (fnN_def.mp h).1⟩
theorem fnN_s {σ : MS} {t : Nat} {name : Int32} {e k : Nat} : bI (fnN σ t name e k ∧ ¬ othP σ t name k e) = bI (fnN σ t name e (k + 1)) := by
  refine bI_c ⟨fun q => fnN_def.mpr ⟨(fnN_def.mp q.1).1, fun j hj => ?_⟩, fun q => ⟨fnN_def.mpr ⟨(fnN_def.mp q).1, fun j hj => (fnN_def.mp q).2 j (by omega)⟩, (fnN_def.mp q).2 k (Nat.lt_succ_self _)⟩⟩
  rcases Nat.lt_or_ge j k with h1 | h1
  · exact (fnN_def.mp q.1).2 j h1
  · rw [show j = k by omega]; exact q.2
def ffF (σ : MS) (t : Nat) (name : Int32) (K : Nat) (f : Nat → Int32) : Nat → Nat → Int32
  | 0 => f
  | k + 1 => upd (ffF σ t name K f k) k (bI (fnN σ t name k K))
theorem ffF_at {σ : MS} {t : Nat} {name : Int32} {K : Nat} {f : Nat → Int32} : ∀ {k e : Nat}, e < k → ffF σ t name K f k e = bI (fnN σ t name e K)
  | k + 1, e, h => by
    show upd (ffF σ t name K f k) k _ e = _
    by_cases q : e = k
    · rw [q, pk_us]
    · rw [pk_un q]; exact ffF_at (by omega)
abbrev caS (σ : MS) (t : Nat) (name : Int32) (k : Nat) : MS := st (st σ 30 (cdF σ t name (σ 30) k)) 31 (ffF σ t name k (σ 31) k)
-- the nearest: by the found ones (table 31)
abbrev tpP (σ : MS) (w : Nat) (v : Int32) (e : Nat) : Prop := ¬ σ 31 e = 0 ∧ tkN σ w e v w
def tpF (σ : MS) (w : Nat) (v : Int32) (f : Nat → Int32) : Nat → Nat → Int32
  | 0 => f
  | k + 1 => upd (tpF σ w v f k) k (bI (tpP σ w v k))
theorem tpF_at {σ : MS} {w : Nat} {v : Int32} {f : Nat → Int32} : ∀ {k e : Nat}, e < k → tpF σ w v f k e = bI (tpP σ w v e)
  | k + 1, e, h => by
    show upd (tpF σ w v f k) k _ e = _
    by_cases q : e = k
    · rw [q, pk_us]
    · rw [pk_un q]; exact tpF_at (by omega)
abbrev nqP (σ : MS) (w : Nat) (v : Int32) (e o : Nat) : Prop := o = e ∨ ¬ tpP σ w v o ∨ nrN σ e o v (plN σ w e o v)
def nub (σ : MS) (w : Nat) (v : Int32) (e n : Nat) : Bool := decide (tpP σ w v e ∧ ∀ o, o < n → nqP σ w v e o)
abbrev nuN (σ : MS) (w : Nat) (v : Int32) (e n : Nat) : Prop := nub σ w v e n = true
theorem nuN_def {σ : MS} {w : Nat} {v : Int32} {e n : Nat} : nuN σ w v e n ↔ (tpP σ w v e ∧ ∀ o, o < n → nqP σ w v e o) := decide_eq_true_iff
theorem nuN_0 {σ : MS} {w : Nat} {v : Int32} {e : Nat} : bI (tpP σ w v e) = bI (nuN σ w v e 0) := bI_c ⟨fun h => nuN_def.mpr ⟨h, fun j hj => absurd hj (Nat.not_lt_zero j)⟩, fun h => (nuN_def.mp h).1⟩
theorem nuN_s {σ : MS} {w : Nat} {v : Int32} {e k : Nat} : bI (nuN σ w v e k ∧ nqP σ w v e k) = bI (nuN σ w v e (k + 1)) := by
  refine bI_c ⟨fun q => nuN_def.mpr ⟨(nuN_def.mp q.1).1, fun j hj => ?_⟩, fun q => ⟨nuN_def.mpr ⟨(nuN_def.mp q).1, fun j hj => (nuN_def.mp q).2 j (by omega)⟩, (nuN_def.mp q).2 k (Nat.lt_succ_self _)⟩⟩
  rcases Nat.lt_or_ge j k with h1 | h1
  · exact (nuN_def.mp q.1).2 j h1
  · rw [show j = k by omega]; exact q.2
def smb (σ : MS) (w : Nat) (v : Int32) (n : Nat) : Bool := decide (∃ e, e < n ∧ tpP σ w v e)
abbrev smN (σ : MS) (w : Nat) (v : Int32) (n : Nat) : Prop := smb σ w v n = true
theorem smN_def {σ : MS} {w : Nat} {v : Int32} {n : Nat} : smN σ w v n ↔ (∃ e, e < n ∧ tpP σ w v e) := decide_eq_true_iff
theorem smN_0 {σ : MS} {w : Nat} {v : Int32} : (0 : Int32) = bI (smN σ w v 0) := (bI_f (fun h => by obtain ⟨e, h1, _⟩ := smN_def.mp h; exact absurd h1 (Nat.not_lt_zero e))).symm
theorem smN_s {σ : MS} {w : Nat} {v : Int32} {k : Nat} : bI (smN σ w v k ∨ tpP σ w v k) = bI (smN σ w v (k + 1)) := by
  refine bI_c ⟨fun q => smN_def.mpr ?_, fun q => ?_⟩
  · rcases q with q | q
    · obtain ⟨e, h1, h2⟩ := smN_def.mp q; exact ⟨e, by omega, h2⟩
    · exact ⟨k, by omega, q⟩
  · obtain ⟨e, h1, h2⟩ := smN_def.mp q
    rcases Nat.lt_or_ge e k with h3 | h3
    · exact Or.inl (smN_def.mpr ⟨e, h3, h2⟩)
    · rw [show e = k by omega] at h2; exact Or.inr h2
def fdF (σ : MS) (w : Nat) (v : Int32) (K : Nat) : Nat → Int32
  | 0 => -1
  | e + 1 => if nuN σ w v e K then (if fdF σ w v K e = -1 then nI e else -2) else fdF σ w v K e
def nrA (σ : MS) (w k : Nat) (v : Int32) : Int32 := if smN σ w v k ∧ fdF σ w v k k = -1 then -2 else fdF σ w v k k
abbrev nrS (σ : MS) (w k : Nat) (v : Int32) : MS := st σ 32 (tpF σ w v (σ 32) k)

theorem dX8_clear_0 : decode cX8_clear 0 = .ok (.aload_n 0, 1) := by decide +kernel
theorem dX8_clear_1 : decode cX8_clear 1 = .ok (.iconst 0, 1) := by decide +kernel
theorem dX8_clear_2 : decode cX8_clear 2 = .ok (.putfield 90, 3) := by decide +kernel
theorem dX8_clear_5 : decode cX8_clear 5 = .ok (.aload_n 0, 1) := by decide +kernel
theorem dX8_clear_6 : decode cX8_clear 6 = .ok (.getfield 119, 3) := by decide +kernel
theorem dX8_clear_9 : decode cX8_clear 9 = .ok (.istore_n 1, 1) := by decide +kernel
theorem dX8_clear_10 : decode cX8_clear 10 = .ok (.aload_n 0, 1) := by decide +kernel
theorem dX8_clear_11 : decode cX8_clear 11 = .ok (.iconst 0, 1) := by decide +kernel
theorem dX8_clear_12 : decode cX8_clear 12 = .ok (.putfield 94, 3) := by decide +kernel
theorem dX8_clear_15 : decode cX8_clear 15 = .ok (.aload_n 0, 1) := by decide +kernel
theorem dX8_clear_16 : decode cX8_clear 16 = .ok (.iconst 0, 1) := by decide +kernel
theorem dX8_clear_17 : decode cX8_clear 17 = .ok (.putfield 119, 3) := by decide +kernel
theorem dX8_clear_20 : decode cX8_clear 20 = .ok (.aload_n 0, 1) := by decide +kernel
theorem dX8_clear_21 : decode cX8_clear 21 = .ok (.iconst 0, 1) := by decide +kernel
theorem dX8_clear_22 : decode cX8_clear 22 = .ok (.putfield 122, 3) := by decide +kernel
theorem dX8_clear_25 : decode cX8_clear 25 = .ok (.aload_n 0, 1) := by decide +kernel
theorem dX8_clear_26 : decode cX8_clear 26 = .ok (.iconst 0, 1) := by decide +kernel
theorem dX8_clear_27 : decode cX8_clear 27 = .ok (.putfield 196, 3) := by decide +kernel
theorem dX8_clear_30 : decode cX8_clear 30 = .ok (.aload_n 0, 1) := by decide +kernel
theorem dX8_clear_31 : decode cX8_clear 31 = .ok (.iconst 0, 1) := by decide +kernel
theorem dX8_clear_32 : decode cX8_clear 32 = .ok (.putfield 227, 3) := by decide +kernel
theorem dX8_clear_35 : decode cX8_clear 35 = .ok (.aload_n 0, 1) := by decide +kernel
theorem dX8_clear_36 : decode cX8_clear 36 = .ok (.iconst 0, 1) := by decide +kernel
theorem dX8_clear_37 : decode cX8_clear 37 = .ok (.putfield 101, 3) := by decide +kernel
theorem dX8_clear_40 : decode cX8_clear 40 = .ok (.iconst 0, 1) := by decide +kernel
theorem dX8_clear_41 : decode cX8_clear 41 = .ok (.istore_n 2, 1) := by decide +kernel
theorem dX8_clear_42 : decode cX8_clear 42 = .ok (.iload_n 2, 1) := by decide +kernel
theorem dX8_clear_43 : decode cX8_clear 43 = .ok (.bipush 26, 2) := by decide +kernel
theorem dX8_clear_45 : decode cX8_clear 45 = .ok (.if_icmp .ge 16, 3) := by decide +kernel
theorem dX8_clear_61 : decode cX8_clear 61 = .ok (.iload_n 1, 1) := by decide +kernel
theorem dX8_clear_62 : decode cX8_clear 62 = .ok (.ireturn, 1) := by decide +kernel
theorem dX8_clear_48 : decode cX8_clear 48 = .ok (.aload_n 0, 1) := by decide +kernel
theorem dX8_clear_49 : decode cX8_clear 49 = .ok (.getfield 72, 3) := by decide +kernel
theorem dX8_clear_52 : decode cX8_clear 52 = .ok (.iload_n 2, 1) := by decide +kernel
theorem dX8_clear_53 : decode cX8_clear 53 = .ok (.iconst 0, 1) := by decide +kernel
theorem dX8_clear_54 : decode cX8_clear 54 = .ok (.iastore, 1) := by decide +kernel
theorem dX8_clear_55 : decode cX8_clear 55 = .ok (.iinc 2 1, 3) := by decide +kernel
theorem dX8_clear_58 : decode cX8_clear 58 = .ok (.goto (-16), 3) := by decide +kernel
theorem dX8_candidates_0 : decode cX8_candidates 0 = .ok (.iconst 0, 1) := by decide +kernel
theorem dX8_candidates_1 : decode cX8_candidates 1 = .ok (.istore_n 3, 1) := by decide +kernel
theorem dX8_candidates_2 : decode cX8_candidates 2 = .ok (.iload_n 3, 1) := by decide +kernel
theorem dX8_candidates_3 : decode cX8_candidates 3 = .ok (.aload_n 0, 1) := by decide +kernel
theorem dX8_candidates_4 : decode cX8_candidates 4 = .ok (.getfield 119, 3) := by decide +kernel
theorem dX8_candidates_7 : decode cX8_candidates 7 = .ok (.if_icmp .ge 94, 3) := by decide +kernel
theorem dX8_candidates_101 : decode cX8_candidates 101 = .ok (.iconst 0, 1) := by decide +kernel
theorem dX8_candidates_102 : decode cX8_candidates 102 = .ok (.istore_n 3, 1) := by decide +kernel
theorem dX8_candidates_103 : decode cX8_candidates 103 = .ok (.iload_n 3, 1) := by decide +kernel
theorem dX8_candidates_104 : decode cX8_candidates 104 = .ok (.aload_n 0, 1) := by decide +kernel
theorem dX8_candidates_105 : decode cX8_candidates 105 = .ok (.getfield 119, 3) := by decide +kernel
theorem dX8_candidates_108 : decode cX8_candidates 108 = .ok (.if_icmp .ge 117, 3) := by decide +kernel
theorem dX8_candidates_225 : decode cX8_candidates 225 = .ok (.return_, 1) := by decide +kernel
theorem dX8_candidates_111 : decode cX8_candidates 111 = .ok (.aload_n 0, 1) := by decide +kernel
theorem q_710 : Cond.fieldLink "FieldMemberModel" 84 "FieldMemberModel" "isFound" "[Z" ∈ TT := tt_t (i := 710) (by decide +kernel) (by decide +kernel)
theorem dX8_candidates_112 : decode cX8_candidates 112 = .ok (.getfield 84, 3) := by decide +kernel
theorem dX8_candidates_115 : decode cX8_candidates 115 = .ok (.iload_n 3, 1) := by decide +kernel
theorem dX8_candidates_116 : decode cX8_candidates 116 = .ok (.aload_n 0, 1) := by decide +kernel
theorem q_709 : Cond.fieldLink "FieldMemberModel" 81 "FieldMemberModel" "isCandidate" "[Z" ∈ TT := tt_t (i := 709) (by decide +kernel) (by decide +kernel)
theorem dX8_candidates_117 : decode cX8_candidates 117 = .ok (.getfield 81, 3) := by decide +kernel
theorem dX8_candidates_120 : decode cX8_candidates 120 = .ok (.iload_n 3, 1) := by decide +kernel
theorem dX8_candidates_121 : decode cX8_candidates 121 = .ok (.baload, 1) := by decide +kernel
theorem dX8_candidates_122 : decode cX8_candidates 122 = .ok (.bastore, 1) := by decide +kernel
theorem dX8_candidates_123 : decode cX8_candidates 123 = .ok (.iconst 0, 1) := by decide +kernel
theorem dX8_candidates_124 : decode cX8_candidates 124 = .ok (.istore 4, 2) := by decide +kernel
theorem dX8_candidates_126 : decode cX8_candidates 126 = .ok (.iload 4, 2) := by decide +kernel
theorem dX8_candidates_128 : decode cX8_candidates 128 = .ok (.aload_n 0, 1) := by decide +kernel
theorem dX8_candidates_129 : decode cX8_candidates 129 = .ok (.getfield 119, 3) := by decide +kernel
theorem dX8_candidates_132 : decode cX8_candidates 132 = .ok (.if_icmp .ge 87, 3) := by decide +kernel
theorem dX8_candidates_219 : decode cX8_candidates 219 = .ok (.iinc 3 1, 3) := by decide +kernel
theorem dX8_candidates_222 : decode cX8_candidates 222 = .ok (.goto (-119), 3) := by decide +kernel
theorem dX8_candidates_186 : decode cX8_candidates 186 = .ok (.istore 5, 2) := by decide +kernel
theorem dX8_candidates_188 : decode cX8_candidates 188 = .ok (.aload_n 0, 1) := by decide +kernel
theorem dX8_candidates_189 : decode cX8_candidates 189 = .ok (.getfield 84, 3) := by decide +kernel
theorem dX8_candidates_192 : decode cX8_candidates 192 = .ok (.iload_n 3, 1) := by decide +kernel
theorem dX8_candidates_212 : decode cX8_candidates 212 = .ok (.bastore, 1) := by decide +kernel
theorem dX8_candidates_213 : decode cX8_candidates 213 = .ok (.iinc 4 1, 3) := by decide +kernel
theorem dX8_candidates_216 : decode cX8_candidates 216 = .ok (.goto (-90), 3) := by decide +kernel
theorem dX8_candidates_193 : decode cX8_candidates 193 = .ok (.aload_n 0, 1) := by decide +kernel
theorem dX8_candidates_194 : decode cX8_candidates 194 = .ok (.getfield 84, 3) := by decide +kernel
theorem dX8_candidates_197 : decode cX8_candidates 197 = .ok (.iload_n 3, 1) := by decide +kernel
theorem dX8_candidates_198 : decode cX8_candidates 198 = .ok (.baload, 1) := by decide +kernel
theorem dX8_candidates_199 : decode cX8_candidates 199 = .ok (.ifCond .eq 12, 3) := by decide +kernel
theorem dX8_candidates_211 : decode cX8_candidates 211 = .ok (.iconst 0, 1) := by decide +kernel
theorem dX8_candidates_202 : decode cX8_candidates 202 = .ok (.iload 5, 2) := by decide +kernel
theorem dX8_candidates_204 : decode cX8_candidates 204 = .ok (.ifCond .ne 7, 3) := by decide +kernel
theorem dX8_candidates_207 : decode cX8_candidates 207 = .ok (.iconst 1, 1) := by decide +kernel
theorem dX8_candidates_208 : decode cX8_candidates 208 = .ok (.goto 4, 3) := by decide +kernel
theorem dX8_candidates_135 : decode cX8_candidates 135 = .ok (.aload_n 0, 1) := by decide +kernel
theorem dX8_candidates_136 : decode cX8_candidates 136 = .ok (.getfield 81, 3) := by decide +kernel
theorem dX8_candidates_139 : decode cX8_candidates 139 = .ok (.iload 4, 2) := by decide +kernel
theorem dX8_candidates_141 : decode cX8_candidates 141 = .ok (.baload, 1) := by decide +kernel
theorem dX8_candidates_142 : decode cX8_candidates 142 = .ok (.ifCond .eq 43, 3) := by decide +kernel
theorem dX8_candidates_185 : decode cX8_candidates 185 = .ok (.iconst 0, 1) := by decide +kernel
theorem dX8_candidates_145 : decode cX8_candidates 145 = .ok (.iload 4, 2) := by decide +kernel
theorem dX8_candidates_147 : decode cX8_candidates 147 = .ok (.iload_n 3, 1) := by decide +kernel
theorem dX8_candidates_148 : decode cX8_candidates 148 = .ok (.if_icmp .eq 37, 3) := by decide +kernel
theorem dX8_candidates_151 : decode cX8_candidates 151 = .ok (.aload_n 0, 1) := by decide +kernel
theorem dX8_candidates_152 : decode cX8_candidates 152 = .ok (.aload_n 0, 1) := by decide +kernel
theorem dX8_candidates_153 : decode cX8_candidates 153 = .ok (.getfield 29, 3) := by decide +kernel
theorem dX8_candidates_156 : decode cX8_candidates 156 = .ok (.iload 4, 2) := by decide +kernel
theorem dX8_candidates_158 : decode cX8_candidates 158 = .ok (.iaload, 1) := by decide +kernel
theorem dX8_candidates_159 : decode cX8_candidates 159 = .ok (.aload_n 0, 1) := by decide +kernel
theorem dX8_candidates_160 : decode cX8_candidates 160 = .ok (.getfield 29, 3) := by decide +kernel
theorem dX8_candidates_163 : decode cX8_candidates 163 = .ok (.iload_n 3, 1) := by decide +kernel
theorem dX8_candidates_164 : decode cX8_candidates 164 = .ok (.iaload, 1) := by decide +kernel
theorem dX8_candidates_165 : decode cX8_candidates 165 = .ok (.invokevirtual 126, 3) := by decide +kernel
theorem dX8_candidates_168 : decode cX8_candidates 168 = .ok (.ifCond .eq 17, 3) := by decide +kernel
theorem dX8_candidates_171 : decode cX8_candidates 171 = .ok (.aload_n 0, 1) := by decide +kernel
theorem dX8_candidates_172 : decode cX8_candidates 172 = .ok (.iload 4, 2) := by decide +kernel
theorem dX8_candidates_174 : decode cX8_candidates 174 = .ok (.iload_n 3, 1) := by decide +kernel
theorem dX8_candidates_175 : decode cX8_candidates 175 = .ok (.invokevirtual 178, 3) := by decide +kernel
theorem dX8_candidates_178 : decode cX8_candidates 178 = .ok (.ifCond .eq 7, 3) := by decide +kernel
theorem dX8_candidates_181 : decode cX8_candidates 181 = .ok (.iconst 1, 1) := by decide +kernel
theorem dX8_candidates_182 : decode cX8_candidates 182 = .ok (.goto 4, 3) := by decide +kernel
theorem dX8_candidates_48 : decode cX8_candidates 48 = .ok (.istore 4, 2) := by decide +kernel
theorem dX8_candidates_50 : decode cX8_candidates 50 = .ok (.aload_n 0, 1) := by decide +kernel
theorem dX8_candidates_51 : decode cX8_candidates 51 = .ok (.getfield 81, 3) := by decide +kernel
theorem dX8_candidates_54 : decode cX8_candidates 54 = .ok (.iload_n 3, 1) := by decide +kernel
theorem dX8_candidates_94 : decode cX8_candidates 94 = .ok (.bastore, 1) := by decide +kernel
theorem dX8_candidates_95 : decode cX8_candidates 95 = .ok (.iinc 3 1, 3) := by decide +kernel
theorem dX8_candidates_98 : decode cX8_candidates 98 = .ok (.goto (-96), 3) := by decide +kernel
theorem dX8_candidates_55 : decode cX8_candidates 55 = .ok (.iload 4, 2) := by decide +kernel
theorem dX8_candidates_57 : decode cX8_candidates 57 = .ok (.ifCond .eq 36, 3) := by decide +kernel
theorem dX8_candidates_93 : decode cX8_candidates 93 = .ok (.iconst 0, 1) := by decide +kernel
theorem dX8_candidates_60 : decode cX8_candidates 60 = .ok (.aload_n 0, 1) := by decide +kernel
theorem dX8_candidates_61 : decode cX8_candidates 61 = .ok (.getfield 29, 3) := by decide +kernel
theorem dX8_candidates_64 : decode cX8_candidates 64 = .ok (.iload_n 3, 1) := by decide +kernel
theorem dX8_candidates_65 : decode cX8_candidates 65 = .ok (.iaload, 1) := by decide +kernel
theorem dX8_candidates_66 : decode cX8_candidates 66 = .ok (.iload_n 1, 1) := by decide +kernel
theorem dX8_candidates_67 : decode cX8_candidates 67 = .ok (.if_icmp .eq 22, 3) := by decide +kernel
theorem dX8_candidates_89 : decode cX8_candidates 89 = .ok (.iconst 1, 1) := by decide +kernel
theorem dX8_candidates_90 : decode cX8_candidates 90 = .ok (.goto 4, 3) := by decide +kernel
theorem dX8_candidates_70 : decode cX8_candidates 70 = .ok (.aload_n 0, 1) := by decide +kernel
theorem dX8_candidates_71 : decode cX8_candidates 71 = .ok (.getfield 41, 3) := by decide +kernel
theorem dX8_candidates_74 : decode cX8_candidates 74 = .ok (.iload_n 3, 1) := by decide +kernel
theorem dX8_candidates_75 : decode cX8_candidates 75 = .ok (.iaload, 1) := by decide +kernel
theorem dX8_candidates_76 : decode cX8_candidates 76 = .ok (.iconst 4, 1) := by decide +kernel
theorem dX8_candidates_77 : decode cX8_candidates 77 = .ok (.iand, 1) := by decide +kernel
theorem dX8_candidates_78 : decode cX8_candidates 78 = .ok (.ifCond .ne 15, 3) := by decide +kernel
theorem dX8_candidates_81 : decode cX8_candidates 81 = .ok (.aload_n 0, 1) := by decide +kernel
theorem dX8_candidates_82 : decode cX8_candidates 82 = .ok (.iload_n 3, 1) := by decide +kernel
theorem dX8_candidates_83 : decode cX8_candidates 83 = .ok (.invokevirtual 175, 3) := by decide +kernel
theorem dX8_candidates_86 : decode cX8_candidates 86 = .ok (.ifCond .ne 7, 3) := by decide +kernel
theorem dX8_candidates_10 : decode cX8_candidates 10 = .ok (.aload_n 0, 1) := by decide +kernel
theorem dX8_candidates_11 : decode cX8_candidates 11 = .ok (.getfield 26, 3) := by decide +kernel
theorem dX8_candidates_14 : decode cX8_candidates 14 = .ok (.iload_n 3, 1) := by decide +kernel
theorem dX8_candidates_15 : decode cX8_candidates 15 = .ok (.baload, 1) := by decide +kernel
theorem dX8_candidates_16 : decode cX8_candidates 16 = .ok (.ifCond .eq 31, 3) := by decide +kernel
theorem dX8_candidates_47 : decode cX8_candidates 47 = .ok (.iconst 0, 1) := by decide +kernel
theorem dX8_candidates_19 : decode cX8_candidates 19 = .ok (.aload_n 0, 1) := by decide +kernel
theorem dX8_candidates_20 : decode cX8_candidates 20 = .ok (.getfield 32, 3) := by decide +kernel
theorem dX8_candidates_23 : decode cX8_candidates 23 = .ok (.iload_n 3, 1) := by decide +kernel
theorem dX8_candidates_24 : decode cX8_candidates 24 = .ok (.iaload, 1) := by decide +kernel
theorem dX8_candidates_25 : decode cX8_candidates 25 = .ok (.iload_n 2, 1) := by decide +kernel
theorem dX8_candidates_26 : decode cX8_candidates 26 = .ok (.if_icmp .ne 21, 3) := by decide +kernel
theorem dX8_candidates_29 : decode cX8_candidates 29 = .ok (.aload_n 0, 1) := by decide +kernel
theorem dX8_candidates_30 : decode cX8_candidates 30 = .ok (.iload_n 1, 1) := by decide +kernel
theorem dX8_candidates_31 : decode cX8_candidates 31 = .ok (.aload_n 0, 1) := by decide +kernel
theorem dX8_candidates_32 : decode cX8_candidates 32 = .ok (.getfield 29, 3) := by decide +kernel
theorem dX8_candidates_35 : decode cX8_candidates 35 = .ok (.iload_n 3, 1) := by decide +kernel
theorem dX8_candidates_36 : decode cX8_candidates 36 = .ok (.iaload, 1) := by decide +kernel
theorem dX8_candidates_37 : decode cX8_candidates 37 = .ok (.invokevirtual 126, 3) := by decide +kernel
theorem dX8_candidates_40 : decode cX8_candidates 40 = .ok (.ifCond .eq 7, 3) := by decide +kernel
theorem dX8_candidates_43 : decode cX8_candidates 43 = .ok (.iconst 1, 1) := by decide +kernel
theorem dX8_candidates_44 : decode cX8_candidates 44 = .ok (.goto 4, 3) := by decide +kernel
set_option maxHeartbeats 4000000 in
set_option maxRecDepth 100000 in
theorem m_clear (l : Launch) (D : va_G) (G : Nat → ClassId) (mo : Nat) (ad : Nat → Nat) (σ : MS) (τ : Nat → Int64) (sz : Nat) (k : Nat) (h7 : σ 7 0 = nI k) (hk60 : k ≤ 60) : Met l yX8_clear (ww yX8_clear cX8_clear 3 (some .int)) (rmD 0) (muP D G sz mo ad (σ, τ) [.ref mo]) (muQi D G mo ad (muA G mo ad (σ, τ) sz) (oClear σ τ k).1 (oClear σ τ k).2) 0 0 (muA G mo ad (σ, τ) sz) := by
  refine Met.ofW (cc := cX8_clear) (maxL := 3) (ret := (some .int)) (by decide) rfl ?_
  intro p e s m args below meth c s₁ B hml hv
  obtain ⟨rfl, hsz, hP, hK, hD0⟩ := hv
  have hx := B.exec
  have hb := B.bytes
  have hr := B.returns
  have hts : ∀ w ∈ TT, w.before _ s = true := fun w h => atoms_spec (ws := ww yX8_clear cX8_clear 3 (some .int)) B.pre w (List.mem_cons_of_mem _ h)
  have hown : s.vm.findClass RX8 = some m.cls := findClass_of_methodNamed B.named
  have hlocks := B.notSynchronized
  subst hsz
  have hD : va_D (muA G mo ad (σ, τ) s.heap.size) (mW G mo ad σ τ) := hD0.self
  generalize hAe : muA G mo ad (σ, τ) s.heap.size = A at hD ⊢
  have hA : ∀ q : Nat, s.heap.size ≤ q → A q := fun q h => by rw [← hAe]; exact Or.inr h
  have hS : va_S A s.heap s.heap [] := va_S.rf
  have hP : va_P D vwCl (mW G mo ad σ τ) s.heap := hP
  have hl := lv_entry ([.ref mo]) (n := 3) (Nat.le_of_ble_eq_true rfl)
  rw [lg_entry_eq]
  generalize (lg_sl ([.ref mo]) ++ List.replicate (3 - (lg_sl ([.ref mo])).length) Slot.unset).toArray = ls at hl ⊢
  have hl : lv_has ls 3 [(0, .ref mo)] := hl
  refine lv_aload_n hx hb dX8_clear_0 rfl (lv_at hl 0 rfl) ?_
  refine lv_iconst (v := 0) hx hb dX8_clear_1 (by decide) ?_
  refine va_put (D := D) (ci := 8) (v := .int 0) (ty := .int) (C := RX8) (T := TX8) (N := 33) hx hb hts iX8 tyX8 tyX8_ok nmX8 hown hK.1 hP hD hS 0 rfl rfl 0 (by decide) (hts _ q_679) (fun _ h9 => h9) rfl (by decide +kernel) rfl rfl (Nat.le_of_ble_eq_true rfl) dX8_clear_2 (fun H locs hP hD hS => ?_)
  have hP : va_P D vwCl (mW G mo ad (su σ 0 (0) (0)) (τ)) H := hP
  have hD : va_D A (mW G mo ad (su σ 0 (0) (0)) (τ)) := hD
  refine lv_aload_n hx hb dX8_clear_5 rfl (lv_at hl 0 rfl) ?_
  refine va_get (D := D) (ci := 8) (v := .int (σ 7 0)) (C := RX8) (T := TX8) (N := 33) hx hb hts iX8 hown hK.1 hP 0 rfl rfl 7 (by decide) (hts _ q_686) (fun _ h9 => h9) rfl dX8_clear_6 ?_
  refine W.eq (g2 := F0 m 9 ls [.int (nI k)]) (congrArg (fun z9 => F0 m 9 ls [.int z9]) h7) ?_
  refine lv_istore_n (lv' := [(1, .int (nI k)), (0, .ref mo)]) hx hb dX8_clear_9 rfl hl (by decide) rfl (fun ls hl => ?_)
  refine lv_aload_n hx hb dX8_clear_10 rfl (lv_at hl 1 rfl) ?_
  refine lv_iconst (v := 0) hx hb dX8_clear_11 (by decide) ?_
  refine va_put (D := D) (ci := 8) (v := .int 0) (ty := .int) (C := RX8) (T := TX8) (N := 33) hx hb hts iX8 tyX8 tyX8_ok nmX8 hown hK.1 hP hD hS 0 rfl rfl 1 (by decide) (hts _ q_680) (fun _ h9 => h9) rfl (by decide +kernel) rfl rfl (Nat.le_of_ble_eq_true rfl) dX8_clear_12 (fun H locs hP hD hS => ?_)
  have hP : va_P D vwCl (mW G mo ad (su (su σ 0 (0) (0)) 1 (0) (0)) (τ)) H := hP
  have hD : va_D A (mW G mo ad (su (su σ 0 (0) (0)) 1 (0) (0)) (τ)) := hD
  refine lv_aload_n hx hb dX8_clear_15 rfl (lv_at hl 1 rfl) ?_
  refine lv_iconst (v := 0) hx hb dX8_clear_16 (by decide) ?_
  refine va_put (D := D) (ci := 8) (v := .int 0) (ty := .int) (C := RX8) (T := TX8) (N := 33) hx hb hts iX8 tyX8 tyX8_ok nmX8 hown hK.1 hP hD hS 0 rfl rfl 7 (by decide) (hts _ q_686) (fun _ h9 => h9) rfl (by decide +kernel) rfl rfl (Nat.le_of_ble_eq_true rfl) dX8_clear_17 (fun H locs hP hD hS => ?_)
  have hP : va_P D vwCl (mW G mo ad (su (su (su σ 0 (0) (0)) 1 (0) (0)) 7 (0) (0)) (τ)) H := hP
  have hD : va_D A (mW G mo ad (su (su (su σ 0 (0) (0)) 1 (0) (0)) 7 (0) (0)) (τ)) := hD
  refine lv_aload_n hx hb dX8_clear_20 rfl (lv_at hl 1 rfl) ?_
  refine lv_iconst (v := 0) hx hb dX8_clear_21 (by decide) ?_
  refine va_put (D := D) (ci := 8) (v := .int 0) (ty := .boolean) (C := RX8) (T := TX8) (N := 33) hx hb hts iX8 tyX8 tyX8_ok nmX8 hown hK.1 hP hD hS 0 rfl rfl 21 (by decide) (hts _ q_700) (fun _ h9 => h9) rfl (by decide +kernel) rfl rfl (Nat.le_of_ble_eq_true rfl) dX8_clear_22 (fun H locs hP hD hS => ?_)
  have hP : va_P D vwCl (mW G mo ad (su (su (su (su σ 0 (0) (0)) 1 (0) (0)) 7 (0) (0)) 21 (0) (0)) (τ)) H := hP
  have hD : va_D A (mW G mo ad (su (su (su (su σ 0 (0) (0)) 1 (0) (0)) 7 (0) (0)) 21 (0) (0)) (τ)) := hD
  refine lv_aload_n hx hb dX8_clear_25 rfl (lv_at hl 1 rfl) ?_
  refine lv_iconst (v := 0) hx hb dX8_clear_26 (by decide) ?_
  refine va_put (D := D) (ci := 8) (v := .int 0) (ty := .int) (C := RX8) (T := TX8) (N := 33) hx hb hts iX8 tyX8 tyX8_ok nmX8 hown hK.1 hP hD hS 0 rfl rfl 22 (by decide) (hts _ q_701) (fun _ h9 => h9) rfl (by decide +kernel) rfl rfl (Nat.le_of_ble_eq_true rfl) dX8_clear_27 (fun H locs hP hD hS => ?_)
  have hP : va_P D vwCl (mW G mo ad (su (su (su (su (su σ 0 (0) (0)) 1 (0) (0)) 7 (0) (0)) 21 (0) (0)) 22 (0) (0)) (τ)) H := hP
  have hD : va_D A (mW G mo ad (su (su (su (su (su σ 0 (0) (0)) 1 (0) (0)) 7 (0) (0)) 21 (0) (0)) 22 (0) (0)) (τ)) := hD
  refine lv_aload_n hx hb dX8_clear_30 rfl (lv_at hl 1 rfl) ?_
  refine lv_iconst (v := 0) hx hb dX8_clear_31 (by decide) ?_
  refine va_put (D := D) (ci := 8) (v := .int 0) (ty := .int) (C := RX8) (T := TX8) (N := 33) hx hb hts iX8 tyX8 tyX8_ok nmX8 hown hK.1 hP hD hS 0 rfl rfl 25 (by decide) (hts _ q_704) (fun _ h9 => h9) rfl (by decide +kernel) rfl rfl (Nat.le_of_ble_eq_true rfl) dX8_clear_32 (fun H locs hP hD hS => ?_)
  have hP : va_P D vwCl (mW G mo ad (su (su (su (su (su (su σ 0 (0) (0)) 1 (0) (0)) 7 (0) (0)) 21 (0) (0)) 22 (0) (0)) 25 (0) (0)) (τ)) H := hP
  have hD : va_D A (mW G mo ad (su (su (su (su (su (su σ 0 (0) (0)) 1 (0) (0)) 7 (0) (0)) 21 (0) (0)) 22 (0) (0)) 25 (0) (0)) (τ)) := hD
  refine lv_aload_n hx hb dX8_clear_35 rfl (lv_at hl 1 rfl) ?_
  refine lv_iconst (v := 0) hx hb dX8_clear_36 (by decide) ?_
  refine va_put (D := D) (ci := 8) (v := .int 0) (ty := .int) (C := RX8) (T := TX8) (N := 33) hx hb hts iX8 tyX8 tyX8_ok nmX8 hown hK.1 hP hD hS 0 rfl rfl 26 (by decide) (hts _ q_705) (fun _ h9 => h9) rfl (by decide +kernel) rfl rfl (Nat.le_of_ble_eq_true rfl) dX8_clear_37 (fun H locs hP hD hS => ?_)
  have hP : va_P D vwCl (mW G mo ad (su (su (su (su (su (su (su σ 0 (0) (0)) 1 (0) (0)) 7 (0) (0)) 21 (0) (0)) 22 (0) (0)) 25 (0) (0)) 26 (0) (0)) (τ)) H := hP
  have hD : va_D A (mW G mo ad (su (su (su (su (su (su (su σ 0 (0) (0)) 1 (0) (0)) 7 (0) (0)) 21 (0) (0)) 22 (0) (0)) 25 (0) (0)) 26 (0) (0)) (τ)) := hD
  refine lv_iconst (v := 0) hx hb dX8_clear_40 (by decide) ?_
  refine lv_istore_n (lv' := [(2, .int 0), (1, .int (nI k)), (0, .ref mo)]) hx hb dX8_clear_41 rfl hl (by decide) rfl (fun ls hl => ?_)
  refine w_forM (N := 26) 42 (L := fun q9 ls H locs => lv_has ls 3 [(2, .int (nI q9)), (1, .int (nI k)), (0, .ref mo)] ∧ va_P D vwCl (mW G mo ad (st (su (su (su (su (su (su (su σ 0 (0) (0)) 1 (0) (0)) 7 (0) (0)) 21 (0) (0)) 22 (0) (0)) 25 (0) (0)) 26 (0) (0)) 27 (zeF (σ 27) q9)) (τ)) H ∧ va_D A (mW G mo ad (st (su (su (su (su (su (su (su σ 0 (0) (0)) 1 (0) (0)) 7 (0) (0)) 21 (0) (0)) 22 (0) (0)) 25 (0) (0)) 26 (0) (0)) 27 (zeF (σ 27) q9)) (τ)) ∧ va_S A s.heap H locs) (fun k9 ls H locs hk hL ih42 => ?_) 0 ls _ _ (by omega) ⟨hl, hP, hD, hS⟩
  obtain ⟨hl, hP, hD, hS⟩ := hL
  have hl : lv_has ls 3 [(2, .int (nI k9)), (1, .int (nI k)), (0, .ref mo)] := hl
  refine lv_iload_n hx hb dX8_clear_42 rfl (lv_at hl 0 rfl) ?_
  refine lv_bipush (v := 26) hx hb dX8_clear_43 (by decide) ?_
  refine lv_icmp_ge (tgt := 61) hx hb dX8_clear_45 (by decide) (fun c1 => ?_) (fun c1 => ?_)
  · -- 45 taken
    have c1 : 26 ≤ k9 := (nI_leI (a := 26) (b := k9) (by omega) (by omega)).mp (by have h8 := c1; exact h8)
    obtain rfl : 26 = k9 := by omega
    have hP : va_P D vwCl (mW G mo ad (st (su (su (su (su (su (su (su σ 0 (0) (0)) 1 (0) (0)) 7 (0) (0)) 21 (0) (0)) 22 (0) (0)) 25 (0) (0)) 26 (0) (0)) 27 (zeF (σ 27) 26)) (τ)) H := hP
    have hD : va_D A (mW G mo ad (st (su (su (su (su (su (su (su σ 0 (0) (0)) 1 (0) (0)) 7 (0) (0)) 21 (0) (0)) 22 (0) (0)) 25 (0) (0)) 26 (0) (0)) 27 (zeF (σ 27) 26)) (τ)) := hD
    refine lv_iload_n hx hb dX8_clear_61 rfl (lv_at hl 1 rfl) ?_
    have ho : oClear σ τ k = (nI k, st (su (su (su (su (su (su (su σ 0 (0) (0)) 1 (0) (0)) 7 (0) (0)) 21 (0) (0)) 22 (0) (0)) 25 (0) (0)) 26 (0) (0)) 27 (zeF (σ 27) 26), τ) := rfl
    exact mu_iret (v0 := nI k) (z := (st (su (su (su (su (su (su (su σ 0 (0) (0)) 1 (0) (0)) 7 (0) (0)) 21 (0) (0)) 22 (0) (0)) 25 (0) (0)) 26 (0) (0)) 27 (zeF (σ 27) 26), τ)) hx hb hr hlocks hP hD hS dX8_clear_62 (by rw [ho]) (by rw [ho])
  · -- 45 not
    have c1 : ¬ 26 ≤ k9 := fun h9 => c1 (by exact (nI_leI (a := 26) (b := k9) (by omega) (by omega)).mpr h9)
    refine lv_aload_n hx hb dX8_clear_48 rfl (lv_at hl 2 rfl) ?_
    refine va_get (D := D) (ci := 8) (v := .ref ((ad 27))) (C := RX8) (T := TX8) (N := 33) hx hb hts iX8 hown hK.1 hP 0 rfl rfl 27 (by decide) (hts _ q_706) (fun _ h9 => h9) rfl dX8_clear_49 ?_
    refine lv_iload_n hx hb dX8_clear_52 rfl (lv_at hl 0 rfl) ?_
    refine lv_iconst (v := 0) hx hb dX8_clear_53 (by decide) ?_
    refine iast_n hx hb hK.1 hP hD hS 21 0 rfl rfl (k9) rfl (by omega) (by decide) dX8_clear_54 (fun H locs hP hD hS => ?_)
    have hP : va_P D vwCl (mW G mo ad (st (su (su (su (su (su (su (su σ 0 (0) (0)) 1 (0) (0)) 7 (0) (0)) 21 (0) (0)) 22 (0) (0)) 25 (0) (0)) 26 (0) (0)) 27 (upd (zeF (σ 27) k9) (k9) (0))) (τ)) H := hP
    have hD : va_D A (mW G mo ad (st (su (su (su (su (su (su (su σ 0 (0) (0)) 1 (0) (0)) 7 (0) (0)) 21 (0) (0)) 22 (0) (0)) 25 (0) (0)) 26 (0) (0)) 27 (upd (zeF (σ 27) k9) (k9) (0))) (τ)) := hD
    refine lv_iinc (v := nI (k9 + 1)) (lv' := [(2, .int (nI (k9 + 1))), (1, .int (nI k)), (0, .ref mo)]) hx hb dX8_clear_55 hl (k := 0) rfl (nI_1 _) (by decide) rfl (fun ls hl => ?_)
    refine lv_goto (tgt := 42) hx hb dX8_clear_58 (by decide) ?_
    exact ih42 _ _ _ (by omega) ⟨lv_sub hl [0, 1, 2] rfl, hP, hD, hS⟩
set_option maxHeartbeats 4000000 in
set_option maxRecDepth 100000 in
theorem m_candidates (l : Launch) (D : va_G) (G : Nat → ClassId) (mo : Nat) (ad : Nat → Nat) (σ : MS) (τ : Nat → Int64) (sz : Nat) (k : Nat) (h7 : σ 7 0 = nI k) (hk60 : k ≤ 60) (t : Nat) (ht : t < 12) (name : Int32) (heo : ∀ i, i < k → okE σ i) (hmo : ∀ i, i < k → okM σ i) (hb6 : ∀ i, σ 6 i = 0 ∨ σ 6 i = 1) : Met l yX8_candidates (ww yX8_candidates cX8_candidates 6 none) (rmD 2) (muP D G sz mo ad (σ, τ) [.ref mo, .int (nI t), .int name]) (muQv D G mo ad (muA G mo ad (σ, τ) sz) ((caS σ t name k, τ))) 0 0 (muA G mo ad (σ, τ) sz) := by
  refine Met.ofW (cc := cX8_candidates) (maxL := 6) (ret := none) (by decide) rfl ?_
  intro p e s m args below meth c s₁ B hml hv
  obtain ⟨rfl, hsz, hP, hK, hD0⟩ := hv
  have hx := B.exec
  have hb := B.bytes
  have hr := B.returns
  have hts : ∀ w ∈ TT, w.before _ s = true := fun w h => atoms_spec (ws := ww yX8_candidates cX8_candidates 6 none) B.pre w (List.mem_cons_of_mem _ h)
  have hown : s.vm.findClass RX8 = some m.cls := findClass_of_methodNamed B.named
  have hlocks := B.notSynchronized
  subst hsz
  have hD : va_D (muA G mo ad (σ, τ) s.heap.size) (mW G mo ad σ τ) := hD0.self
  generalize hAe : muA G mo ad (σ, τ) s.heap.size = A at hD ⊢
  have hA : ∀ q : Nat, s.heap.size ≤ q → A q := fun q h => by rw [← hAe]; exact Or.inr h
  have hS : va_S A s.heap s.heap [] := va_S.rf
  have hP : va_P D vwCl (mW G mo ad σ τ) s.heap := hP
  have hl := lv_entry ([.ref mo, .int (nI t), .int name]) (n := 6) (Nat.le_of_ble_eq_true rfl)
  rw [lg_entry_eq]
  generalize (lg_sl ([.ref mo, .int (nI t), .int name]) ++ List.replicate (6 - (lg_sl ([.ref mo, .int (nI t), .int name])).length) Slot.unset).toArray = ls at hl ⊢
  have hl : lv_has ls 6 [(0, .ref mo), (1, .int (nI t)), (2, .int name)] := hl
  refine lv_iconst (v := 0) hx hb dX8_candidates_0 (by decide) ?_
  refine lv_istore_n (lv' := [(3, .int 0), (0, .ref mo), (1, .int (nI t)), (2, .int name)]) hx hb dX8_candidates_1 rfl hl (by decide) rfl (fun ls hl => ?_)
  refine w_forM (N := k) 2 (L := fun q9 ls H locs => lv_has ls 6 [(3, .int (nI q9)), (0, .ref mo), (1, .int (nI t)), (2, .int name)] ∧ va_P D vwCl (mW G mo ad (st σ 30 (cdF σ t name (σ 30) q9)) (τ)) H ∧ va_D A (mW G mo ad (st σ 30 (cdF σ t name (σ 30) q9)) (τ)) ∧ va_S A s.heap H locs) (fun k9 ls H locs hk hL ih2 => ?_) 0 ls _ _ (by omega) ⟨hl, hP, hD, hS⟩
  obtain ⟨hl, hP, hD, hS⟩ := hL
  have hl : lv_has ls 6 [(3, .int (nI k9)), (0, .ref mo), (1, .int (nI t)), (2, .int name)] := hl
  refine lv_iload_n hx hb dX8_candidates_2 rfl (lv_at hl 0 rfl) ?_
  refine lv_aload_n hx hb dX8_candidates_3 rfl (lv_at hl 1 rfl) ?_
  refine va_get (D := D) (ci := 8) (v := .int (σ 7 0)) (C := RX8) (T := TX8) (N := 33) hx hb hts iX8 hown hK.1 hP 0 rfl rfl 7 (by decide) (hts _ q_686) (fun _ h9 => h9) rfl dX8_candidates_4 ?_
  refine lv_icmp_ge (tgt := 101) hx hb dX8_candidates_7 (by decide) (fun c1 => ?_) (fun c1 => ?_)
  · -- 7 taken
    have c1 : k ≤ k9 := (nI_leI (a := k) (b := k9) (by omega) (by omega)).mp (by have h8 := c1; rw [h7] at h8; exact h8)
    obtain rfl : k = k9 := by omega
    have hP : va_P D vwCl (mW G mo ad (st σ 30 (cdF σ t name (σ 30) k)) (τ)) H := hP
    have hD : va_D A (mW G mo ad (st σ 30 (cdF σ t name (σ 30) k)) (τ)) := hD
    refine lv_iconst (v := 0) hx hb dX8_candidates_101 (by decide) ?_
    refine lv_istore_n (lv' := [(3, .int 0), (0, .ref mo), (1, .int (nI t)), (2, .int name)]) hx hb dX8_candidates_102 rfl hl (by decide) rfl (fun ls hl => ?_)
    refine w_forM (N := k) 103 (L := fun q9 ls H locs => lv_has ls 6 [(3, .int (nI q9)), (0, .ref mo), (1, .int (nI t)), (2, .int name)] ∧ va_P D vwCl (mW G mo ad (st (st σ 30 (cdF σ t name (σ 30) k)) 31 (ffF σ t name k (σ 31) q9)) (τ)) H ∧ va_D A (mW G mo ad (st (st σ 30 (cdF σ t name (σ 30) k)) 31 (ffF σ t name k (σ 31) q9)) (τ)) ∧ va_S A s.heap H locs) (fun k8 ls H locs hk hL ih103 => ?_) 0 ls _ _ (by omega) ⟨hl, hP, hD, hS⟩
    obtain ⟨hl, hP, hD, hS⟩ := hL
    have hl : lv_has ls 6 [(3, .int (nI k8)), (0, .ref mo), (1, .int (nI t)), (2, .int name)] := hl
    refine lv_iload_n hx hb dX8_candidates_103 rfl (lv_at hl 0 rfl) ?_
    refine lv_aload_n hx hb dX8_candidates_104 rfl (lv_at hl 1 rfl) ?_
    refine va_get (D := D) (ci := 8) (v := .int (σ 7 0)) (C := RX8) (T := TX8) (N := 33) hx hb hts iX8 hown hK.1 hP 0 rfl rfl 7 (by decide) (hts _ q_686) (fun _ h9 => h9) rfl dX8_candidates_105 ?_
    refine lv_icmp_ge (tgt := 225) hx hb dX8_candidates_108 (by decide) (fun c2 => ?_) (fun c2 => ?_)
    · -- 108 taken
      have c2 : k ≤ k8 := (nI_leI (a := k) (b := k8) (by omega) (by omega)).mp (by have h8 := c2; rw [h7] at h8; exact h8)
      obtain rfl : k = k8 := by omega
      have hP : va_P D vwCl (mW G mo ad (st (st σ 30 (cdF σ t name (σ 30) k)) 31 (ffF σ t name k (σ 31) k)) (τ)) H := hP
      have hD : va_D A (mW G mo ad (st (st σ 30 (cdF σ t name (σ 30) k)) 31 (ffF σ t name k (σ 31) k)) (τ)) := hD
      have ho : (caS σ t name k, τ) = (st (st σ 30 (cdF σ t name (σ 30) k)) 31 (ffF σ t name k (σ 31) k), τ) := rfl
      exact mu_vret (z := (st (st σ 30 (cdF σ t name (σ 30) k)) 31 (ffF σ t name k (σ 31) k), τ)) hx hb hr hlocks hP hD hS dX8_candidates_225 (by rw [ho])
    · -- 108 not
      have c2 : ¬ k ≤ k8 := fun h9 => c2 (by rw [h7]; exact (nI_leI (a := k) (b := k8) (by omega) (by omega)).mpr h9)
      refine lv_aload_n hx hb dX8_candidates_111 rfl (lv_at hl 1 rfl) ?_
      refine va_get (D := D) (ci := 8) (v := .ref ((ad 31))) (C := RX8) (T := TX8) (N := 33) hx hb hts iX8 hown hK.1 hP 0 rfl rfl 31 (by decide) (hts _ q_710) (fun _ h9 => h9) rfl dX8_candidates_112 ?_
      refine lv_iload_n hx hb dX8_candidates_115 rfl (lv_at hl 0 rfl) ?_
      refine lv_aload_n hx hb dX8_candidates_116 rfl (lv_at hl 1 rfl) ?_
      refine va_get (D := D) (ci := 8) (v := .ref ((ad 30))) (C := RX8) (T := TX8) (N := 33) hx hb hts iX8 hown hK.1 hP 0 rfl rfl 30 (by decide) (hts _ q_709) (fun _ h9 => h9) rfl dX8_candidates_117 ?_
      refine lv_iload_n hx hb dX8_candidates_120 rfl (lv_at hl 0 rfl) ?_
      refine zald_n (f := cdF σ t name (σ 30) k) hx hb hK.1 hP 24 2 rfl rfl (k8) rfl (by omega) (by decide) dX8_candidates_121 ?_
      refine W.eq (g2 := F0 m 122 ls [.int (bI (canP σ t name k8)), .int (nI k8), .ref ((ad 31))]) (congrArg (fun z9 => F0 m 122 ls [.int z9, .int (nI k8), .ref ((ad 31))]) (cdF_at (by omega))) ?_
      refine zast_n hx hb hK.1 hP hD hS 25 2 rfl rfl (k8) rfl (by omega) (by decide) bI_b dX8_candidates_122 (fun H locs hP hD hS => ?_)
      have hP : va_P D vwCl (mW G mo ad (st (st σ 30 (cdF σ t name (σ 30) k)) 31 (upd (ffF σ t name k (σ 31) k8) (k8) (bI (canP σ t name k8)))) (τ)) H := hP
      have hD : va_D A (mW G mo ad (st (st σ 30 (cdF σ t name (σ 30) k)) 31 (upd (ffF σ t name k (σ 31) k8) (k8) (bI (canP σ t name k8)))) (τ)) := hD
      refine lv_iconst (v := 0) hx hb dX8_candidates_123 (by decide) ?_
      refine lv_istore (lv' := [(4, .int 0), (3, .int (nI k8)), (0, .ref mo), (1, .int (nI t)), (2, .int name)]) hx hb dX8_candidates_124 hl (by decide) rfl (fun ls hl => ?_)
      refine w_forM (N := k) 126 (L := fun q9 ls H locs => lv_has ls 6 [(4, .int (nI q9)), (3, .int (nI k8)), (0, .ref mo), (1, .int (nI t)), (2, .int name)] ∧ va_P D vwCl (mW G mo ad (st (st σ 30 (cdF σ t name (σ 30) k)) 31 (upd (ffF σ t name k (σ 31) k8) k8 (bI (fnN σ t name k8 q9)))) (τ)) H ∧ va_D A (mW G mo ad (st (st σ 30 (cdF σ t name (σ 30) k)) 31 (upd (ffF σ t name k (σ 31) k8) k8 (bI (fnN σ t name k8 q9)))) (τ)) ∧ va_S A s.heap H locs) (fun k9 ls H locs hk hL ih126 => ?_) 0 ls _ _ (by omega) ⟨hl, (by rw [← fnN_0]; exact hP), (by rw [← fnN_0]; exact hD), hS⟩
      obtain ⟨hl, hP, hD, hS⟩ := hL
      have hl : lv_has ls 6 [(4, .int (nI k9)), (3, .int (nI k8)), (0, .ref mo), (1, .int (nI t)), (2, .int name)] := hl
      refine lv_iload hx hb dX8_candidates_126 (lv_at hl 0 rfl) ?_
      refine lv_aload_n hx hb dX8_candidates_128 rfl (lv_at hl 2 rfl) ?_
      refine va_get (D := D) (ci := 8) (v := .int (σ 7 0)) (C := RX8) (T := TX8) (N := 33) hx hb hts iX8 hown hK.1 hP 0 rfl rfl 7 (by decide) (hts _ q_686) (fun _ h9 => h9) rfl dX8_candidates_129 ?_
      refine lv_icmp_ge (tgt := 219) hx hb dX8_candidates_132 (by decide) (fun c3 => ?_) (fun c3 => ?_)
      · -- 132 taken
        have c3 : k ≤ k9 := (nI_leI (a := k) (b := k9) (by omega) (by omega)).mp (by have h8 := c3; rw [h7] at h8; exact h8)
        obtain rfl : k = k9 := by omega
        have hP : va_P D vwCl (mW G mo ad (st (st σ 30 (cdF σ t name (σ 30) k)) 31 (upd (ffF σ t name k (σ 31) k8) k8 (bI (fnN σ t name k8 k)))) (τ)) H := hP
        have hD : va_D A (mW G mo ad (st (st σ 30 (cdF σ t name (σ 30) k)) 31 (upd (ffF σ t name k (σ 31) k8) k8 (bI (fnN σ t name k8 k)))) (τ)) := hD
        refine lv_iinc (v := nI (k8 + 1)) (lv' := [(3, .int (nI (k8 + 1))), (4, .int (nI k)), (0, .ref mo), (1, .int (nI t)), (2, .int name)]) hx hb dX8_candidates_219 hl (k := 1) rfl (nI_1 _) (by decide) rfl (fun ls hl => ?_)
        refine lv_goto (tgt := 103) hx hb dX8_candidates_222 (by decide) ?_
        exact ih103 _ _ _ (by omega) ⟨lv_sub hl [0, 2, 3, 4] rfl, hP, hD, hS⟩
      · -- 132 not
        have c3 : ¬ k ≤ k9 := fun h9 => c3 (by rw [h7]; exact (nI_leI (a := k) (b := k9) (by omega) (by omega)).mpr h9)
        refine w_join (P := fun b9 => b9 = bI (othP σ t name k9 k8)) 186 (ls := ls) (rest := []) (fun b5 e_b5 => ?_) (fun J4 => ?_)
        · -- behind the meeting at 186
          subst e_b5
          refine lv_istore (lv' := [(5, .int (bI (othP σ t name k9 k8))), (4, .int (nI k9)), (3, .int (nI k8)), (0, .ref mo), (1, .int (nI t)), (2, .int name)]) hx hb dX8_candidates_186 hl (by decide) rfl (fun ls hl => ?_)
          refine lv_aload_n hx hb dX8_candidates_188 rfl (lv_at hl 3 rfl) ?_
          refine va_get (D := D) (ci := 8) (v := .ref ((ad 31))) (C := RX8) (T := TX8) (N := 33) hx hb hts iX8 hown hK.1 hP 0 rfl rfl 31 (by decide) (hts _ q_710) (fun _ h9 => h9) rfl dX8_candidates_189 ?_
          refine lv_iload_n hx hb dX8_candidates_192 rfl (lv_at hl 2 rfl) ?_
          refine w_join (P := fun b9 => b9 = bI (fnN σ t name k8 k9 ∧ ¬ othP σ t name k9 k8)) 212 (ls := ls) (rest := [.int (nI k8), .ref ((ad 31))]) (fun b7 e_b7 => ?_) (fun J6 => ?_)
          · -- behind the meeting at 212
            subst e_b7
            refine zast_n hx hb hK.1 hP hD hS 25 2 rfl rfl (k8) rfl (by omega) (by decide) bI_b dX8_candidates_212 (fun H locs hP hD hS => ?_)
            have hP : va_P D vwCl (mW G mo ad (st (st σ 30 (cdF σ t name (σ 30) k)) 31 (upd (upd (ffF σ t name k (σ 31) k8) k8 (bI (fnN σ t name k8 k9))) (k8) (bI (fnN σ t name k8 k9 ∧ ¬ othP σ t name k9 k8)))) (τ)) H := hP
            have hD : va_D A (mW G mo ad (st (st σ 30 (cdF σ t name (σ 30) k)) 31 (upd (upd (ffF σ t name k (σ 31) k8) k8 (bI (fnN σ t name k8 k9))) (k8) (bI (fnN σ t name k8 k9 ∧ ¬ othP σ t name k9 k8)))) (τ)) := hD
            refine lv_iinc (v := nI (k9 + 1)) (lv' := [(4, .int (nI (k9 + 1))), (5, .int (bI (othP σ t name k9 k8))), (3, .int (nI k8)), (0, .ref mo), (1, .int (nI t)), (2, .int name)]) hx hb dX8_candidates_213 hl (k := 1) rfl (nI_1 _) (by decide) rfl (fun ls hl => ?_)
            refine lv_goto (tgt := 126) hx hb dX8_candidates_216 (by decide) ?_
            rw [upd_upd, fnN_s] at hP hD
            exact ih126 _ _ _ (by omega) ⟨lv_sub hl [0, 2, 3, 4, 5] rfl, hP, hD, hS⟩
          · -- up to the meeting at 212
            refine lv_aload_n hx hb dX8_candidates_193 rfl (lv_at hl 3 rfl) ?_
            refine va_get (D := D) (ci := 8) (v := .ref ((ad 31))) (C := RX8) (T := TX8) (N := 33) hx hb hts iX8 hown hK.1 hP 0 rfl rfl 31 (by decide) (hts _ q_710) (fun _ h9 => h9) rfl dX8_candidates_194 ?_
            refine lv_iload_n hx hb dX8_candidates_197 rfl (lv_at hl 2 rfl) ?_
            refine zald_n (f := upd (ffF σ t name k (σ 31) k8) k8 (bI (fnN σ t name k8 k9))) hx hb hK.1 hP 25 2 rfl rfl (k8) rfl (by omega) (by decide) dX8_candidates_198 ?_
            refine W.eq (g2 := F0 m 199 ls [.int (bI (fnN σ t name k8 k9)), .int (nI k8), .ref ((ad 31))]) (congrArg (fun z9 => F0 m 199 ls [.int z9, .int (nI k8), .ref ((ad 31))]) pk_us) ?_
            refine lv_if_eq (tgt := 211) hx hb dX8_candidates_199 (by decide) (fun c8 => ?_) (fun c8 => ?_)
            · -- 199 taken
              have c8 := bI_0 c8
              refine lv_iconst (v := 0) hx hb dX8_candidates_211 (by decide) ?_
              exact J6 0 ((bI_f (by simp only [eq_false c3, eq_false c8, not_true, not_false_iff, not_true_eq_false, not_false_eq_true, true_or, or_true, false_or, or_false, or_self, and_self, true_and, and_true, false_and, and_false, if_true, if_false])).symm)
            · -- 199 not
              have c8 := bI_1 c8
              refine lv_iload hx hb dX8_candidates_202 (lv_at hl 0 rfl) ?_
              refine lv_if_ne (tgt := 211) hx hb dX8_candidates_204 (by decide) (fun c9 => ?_) (fun c9 => ?_)
              · -- 204 taken
                have c9 := bI_1 c9
                refine lv_iconst (v := 0) hx hb dX8_candidates_211 (by decide) ?_
                exact J6 0 ((bI_f (by simp only [eq_false c3, eq_true c8, eq_true c9, not_true, not_false_iff, not_true_eq_false, not_false_eq_true, true_or, or_true, false_or, or_false, or_self, and_self, true_and, and_true, false_and, and_false, if_true, if_false])).symm)
              · -- 204 not
                have c9 := bI_0 c9
                refine lv_iconst (v := 1) hx hb dX8_candidates_207 (by decide) ?_
                refine lv_goto (tgt := 212) hx hb dX8_candidates_208 (by decide) ?_
                exact J6 1 ((bI_t (by simp only [eq_false c3, eq_true c8, eq_false c9, not_true, not_false_iff, not_true_eq_false, not_false_eq_true, true_or, or_true, false_or, or_false, or_self, and_self, true_and, and_true, false_and, and_false, if_true, if_false])).symm)
        · -- up to the meeting at 186
          refine lv_aload_n hx hb dX8_candidates_135 rfl (lv_at hl 2 rfl) ?_
          refine va_get (D := D) (ci := 8) (v := .ref ((ad 30))) (C := RX8) (T := TX8) (N := 33) hx hb hts iX8 hown hK.1 hP 0 rfl rfl 30 (by decide) (hts _ q_709) (fun _ h9 => h9) rfl dX8_candidates_136 ?_
          refine lv_iload hx hb dX8_candidates_139 (lv_at hl 0 rfl) ?_
          refine zald_n (f := cdF σ t name (σ 30) k) hx hb hK.1 hP 24 2 rfl rfl (k9) rfl (by omega) (by decide) dX8_candidates_141 ?_
          refine W.eq (g2 := F0 m 142 ls [.int (bI (canP σ t name k9))]) (congrArg (fun z9 => F0 m 142 ls [.int z9]) (cdF_at (by omega))) ?_
          refine lv_if_eq (tgt := 185) hx hb dX8_candidates_142 (by decide) (fun c10 => ?_) (fun c10 => ?_)
          · -- 142 taken
            have c10 := bI_0 c10
            refine lv_iconst (v := 0) hx hb dX8_candidates_185 (by decide) ?_
            exact J4 0 ((bI_f (by unfold othP; simp only [eq_false c3, eq_false c10, not_true, not_false_iff, not_true_eq_false, not_false_eq_true, true_or, or_true, false_or, or_false, or_self, and_self, true_and, and_true, false_and, and_false, if_true, if_false])).symm)
          · -- 142 not
            have c10 := bI_1 c10
            refine lv_iload hx hb dX8_candidates_145 (lv_at hl 0 rfl) ?_
            refine lv_iload_n hx hb dX8_candidates_147 rfl (lv_at hl 1 rfl) ?_
            refine lv_icmp_eq (tgt := 185) hx hb dX8_candidates_148 (by decide) (fun c11 => ?_) (fun c11 => ?_)
            · -- 148 taken
              have c11 := nI_inj (by omega) (by omega) c11
              refine lv_iconst (v := 0) hx hb dX8_candidates_185 (by decide) ?_
              exact J4 0 ((bI_f (by unfold othP; simp only [eq_false c3, eq_true c10, eq_true c11, not_true, not_false_iff, not_true_eq_false, not_false_eq_true, true_or, or_true, false_or, or_false, or_self, and_self, true_and, and_true, false_and, and_false, if_true, if_false])).symm)
            · -- 148 not
              have c11 : ¬ k9 = k8 := fun h9 => c11 (by rw [h9])
              refine lv_aload_n hx hb dX8_candidates_151 rfl (lv_at hl 2 rfl) ?_
              refine lv_aload_n hx hb dX8_candidates_152 rfl (lv_at hl 2 rfl) ?_
              refine va_get (D := D) (ci := 8) (v := .ref ((ad 9))) (C := RX8) (T := TX8) (N := 33) hx hb hts iX8 hown hK.1 hP 0 rfl rfl 9 (by decide) (hts _ q_688) (fun _ h9 => h9) rfl dX8_candidates_153 ?_
              refine lv_iload hx hb dX8_candidates_156 (lv_at hl 0 rfl) ?_
              refine iald_n (f := σ 9) hx hb hK.1 hP 7 0 rfl rfl (k9) rfl (by omega) (by decide) dX8_candidates_158 ?_
              have htyk9 := (heo k9 (by omega)).2
              refine lv_aload_n hx hb dX8_candidates_159 rfl (lv_at hl 2 rfl) ?_
              refine va_get (D := D) (ci := 8) (v := .ref ((ad 9))) (C := RX8) (T := TX8) (N := 33) hx hb hts iX8 hown hK.1 hP 0 rfl rfl 9 (by decide) (hts _ q_688) (fun _ h9 => h9) rfl dX8_candidates_160 ?_
              refine lv_iload_n hx hb dX8_candidates_163 rfl (lv_at hl 1 rfl) ?_
              refine iald_n (f := σ 9) hx hb hK.1 hP 7 0 rfl rfl (k8) rfl (by omega) (by decide) dX8_candidates_164 ?_
              have htyk8 := (heo k8 (by omega)).2
              refine W.eq (g2 := F0 m 165 ls [.int (σ 9 k8), .int (nI (tyE σ k9)), .ref mo]) (congrArg (fun z9 => F0 m 165 ls [.int (σ 9 k8), .int z9, .ref mo]) (heo k9 (by omega)).1) ?_
              refine W.eq (g2 := F0 m 165 ls [.int (nI (tyE σ k8)), .int (nI (tyE σ k9)), .ref mo]) (congrArg (fun z9 => F0 m 165 ls [.int z9, .int (nI (tyE σ k9)), .ref mo]) (heo k8 (by omega)).1) ?_
              refine ro_Vi (D := D) (G := G) (As := [.int (nI (tyE σ k9)), .int (nI (tyE σ k8))]) (rest := []) ⟨hx, hb, hml, hown, hts⟩ (m_lies l D G _ mo ad _ _ hP ((tyE σ k9)) ((tyE σ k8)) (by omega) (by omega) hb6) gV_X8_X8_lies hdV_X8_lies ⟨Nat.le_of_ble_eq_true rfl, Nat.le_of_ble_eq_true rfl⟩ hK (va_recv hK.1 hP (ci := 8) (q0 := 0) rfl rfl) rfl hl.1 rfl (Nat.le_of_ble_eq_true rfl) dX8_candidates_165 ⟨Nat.le_of_ble_eq_true rfl, Nat.le_of_ble_eq_true rfl⟩ (fun r12 e_r12 => ?_)
              subst e_r12
              refine W.eq (g2 := F0 m 168 ls [.int (bI (lyP σ ((tyE σ k9)) ((tyE σ k8))))]) rfl ?_
              refine lv_if_eq (tgt := 185) hx hb dX8_candidates_168 (by decide) (fun c13 => ?_) (fun c13 => ?_)
              · -- 168 taken
                have c13 := bI_0 c13
                refine lv_iconst (v := 0) hx hb dX8_candidates_185 (by decide) ?_
                exact J4 0 ((bI_f (by unfold othP; simp only [eq_false c3, eq_true c10, eq_false c11, eq_false c13, not_true, not_false_iff, not_true_eq_false, not_false_eq_true, true_or, or_true, false_or, or_false, or_self, and_self, true_and, and_true, false_and, and_false, if_true, if_false])).symm)
              · -- 168 not
                have c13 := bI_1 c13
                refine lv_aload_n hx hb dX8_candidates_171 rfl (lv_at hl 2 rfl) ?_
                refine lv_iload hx hb dX8_candidates_172 (lv_at hl 0 rfl) ?_
                refine lv_iload_n hx hb dX8_candidates_174 rfl (lv_at hl 1 rfl) ?_
                refine ro_Vi (D := D) (G := G) (As := [.int (nI k9), .int (nI k8)]) (rest := []) ⟨hx, hb, hml, hown, hts⟩ (m_sameParts l D G _ mo ad _ _ hP (k9) (k8) (by omega) (by omega) (hmo k9 (by omega))) gV_X8_X8_sameParts hdV_X8_sameParts ⟨Nat.le_of_ble_eq_true rfl, Nat.le_of_ble_eq_true rfl⟩ hK (va_recv hK.1 hP (ci := 8) (q0 := 0) rfl rfl) rfl hl.1 rfl (Nat.le_of_ble_eq_true rfl) dX8_candidates_175 ⟨Nat.le_of_ble_eq_true rfl, Nat.le_of_ble_eq_true rfl⟩ (fun r14 e_r14 => ?_)
                subst e_r14
                refine W.eq (g2 := F0 m 178 ls [.int (bI (sameP σ k9 k8))]) rfl ?_
                refine lv_if_eq (tgt := 185) hx hb dX8_candidates_178 (by decide) (fun c15 => ?_) (fun c15 => ?_)
                · -- 178 taken
                  have c15 := bI_0 c15
                  refine lv_iconst (v := 0) hx hb dX8_candidates_185 (by decide) ?_
                  exact J4 0 ((bI_f (by unfold othP; simp only [eq_false c3, eq_true c10, eq_false c11, eq_true c13, eq_false c15, not_true, not_false_iff, not_true_eq_false, not_false_eq_true, true_or, or_true, false_or, or_false, or_self, and_self, true_and, and_true, false_and, and_false, if_true, if_false])).symm)
                · -- 178 not
                  have c15 := bI_1 c15
                  refine lv_iconst (v := 1) hx hb dX8_candidates_181 (by decide) ?_
                  refine lv_goto (tgt := 186) hx hb dX8_candidates_182 (by decide) ?_
                  exact J4 1 ((bI_t (by unfold othP; simp only [eq_false c3, eq_true c10, eq_false c11, eq_true c13, eq_true c15, not_true, not_false_iff, not_true_eq_false, not_false_eq_true, true_or, or_true, false_or, or_false, or_self, and_self, true_and, and_true, false_and, and_false, if_true, if_false])).symm)
  · -- 7 not
    have c1 : ¬ k ≤ k9 := fun h9 => c1 (by rw [h7]; exact (nI_leI (a := k) (b := k9) (by omega) (by omega)).mpr h9)
    refine w_join (P := fun b9 => b9 = bI (isP σ t name k9)) 48 (ls := ls) (rest := []) (fun b17 e_b17 => ?_) (fun J16 => ?_)
    · -- behind the meeting at 48
      subst e_b17
      refine lv_istore (lv' := [(4, .int (bI (isP σ t name k9))), (3, .int (nI k9)), (0, .ref mo), (1, .int (nI t)), (2, .int name)]) hx hb dX8_candidates_48 hl (by decide) rfl (fun ls hl => ?_)
      refine lv_aload_n hx hb dX8_candidates_50 rfl (lv_at hl 2 rfl) ?_
      refine va_get (D := D) (ci := 8) (v := .ref ((ad 30))) (C := RX8) (T := TX8) (N := 33) hx hb hts iX8 hown hK.1 hP 0 rfl rfl 30 (by decide) (hts _ q_709) (fun _ h9 => h9) rfl dX8_candidates_51 ?_
      refine lv_iload_n hx hb dX8_candidates_54 rfl (lv_at hl 1 rfl) ?_
      refine w_join (P := fun b9 => b9 = bI (canP σ t name k9)) 94 (ls := ls) (rest := [.int (nI k9), .ref ((ad 30))]) (fun b19 e_b19 => ?_) (fun J18 => ?_)
      · -- behind the meeting at 94
        subst e_b19
        refine zast_n hx hb hK.1 hP hD hS 24 2 rfl rfl (k9) rfl (by omega) (by decide) bI_b dX8_candidates_94 (fun H locs hP hD hS => ?_)
        have hP : va_P D vwCl (mW G mo ad (st σ 30 (upd (cdF σ t name (σ 30) k9) (k9) (bI (canP σ t name k9)))) (τ)) H := hP
        have hD : va_D A (mW G mo ad (st σ 30 (upd (cdF σ t name (σ 30) k9) (k9) (bI (canP σ t name k9)))) (τ)) := hD
        refine lv_iinc (v := nI (k9 + 1)) (lv' := [(3, .int (nI (k9 + 1))), (4, .int (bI (isP σ t name k9))), (0, .ref mo), (1, .int (nI t)), (2, .int name)]) hx hb dX8_candidates_95 hl (k := 1) rfl (nI_1 _) (by decide) rfl (fun ls hl => ?_)
        refine lv_goto (tgt := 2) hx hb dX8_candidates_98 (by decide) ?_
        exact ih2 _ _ _ (by omega) ⟨lv_sub hl [0, 2, 3, 4] rfl, hP, hD, hS⟩
      · -- up to the meeting at 94
        refine lv_iload hx hb dX8_candidates_55 (lv_at hl 0 rfl) ?_
        refine lv_if_eq (tgt := 93) hx hb dX8_candidates_57 (by decide) (fun c20 => ?_) (fun c20 => ?_)
        · -- 57 taken
          have c20 := bI_0 c20
          refine lv_iconst (v := 0) hx hb dX8_candidates_93 (by decide) ?_
          exact J18 0 ((bI_f (by rw [canP_def]; simp only [eq_false c1, eq_false c20, not_true, not_false_iff, not_true_eq_false, not_false_eq_true, true_or, or_true, false_or, or_false, or_self, and_self, true_and, and_true, false_and, and_false, if_true, if_false])).symm)
        · -- 57 not
          have c20 := bI_1 c20
          refine lv_aload_n hx hb dX8_candidates_60 rfl (lv_at hl 2 rfl) ?_
          refine va_get (D := D) (ci := 8) (v := .ref ((ad 9))) (C := RX8) (T := TX8) (N := 33) hx hb hts iX8 hown hK.1 hP 0 rfl rfl 9 (by decide) (hts _ q_688) (fun _ h9 => h9) rfl dX8_candidates_61 ?_
          refine lv_iload_n hx hb dX8_candidates_64 rfl (lv_at hl 1 rfl) ?_
          refine iald_n (f := σ 9) hx hb hK.1 hP 7 0 rfl rfl (k9) rfl (by omega) (by decide) dX8_candidates_65 ?_
          have htyk9 := (heo k9 (by omega)).2
          refine lv_iload_n hx hb dX8_candidates_66 rfl (lv_at hl 3 rfl) ?_
          refine lv_icmp_eq (tgt := 89) hx hb dX8_candidates_67 (by decide) (fun c21 => ?_) (fun c21 => ?_)
          · -- 67 taken
            refine lv_iconst (v := 1) hx hb dX8_candidates_89 (by decide) ?_
            refine lv_goto (tgt := 94) hx hb dX8_candidates_90 (by decide) ?_
            exact J18 1 ((bI_t (by rw [canP_def]; simp only [eq_false c1, eq_true c20, eq_true c21, not_true, not_false_iff, not_true_eq_false, not_false_eq_true, true_or, or_true, false_or, or_false, or_self, and_self, true_and, and_true, false_and, and_false, if_true, if_false])).symm)
          · -- 67 not
            refine lv_aload_n hx hb dX8_candidates_70 rfl (lv_at hl 2 rfl) ?_
            refine va_get (D := D) (ci := 8) (v := .ref ((ad 13))) (C := RX8) (T := TX8) (N := 33) hx hb hts iX8 hown hK.1 hP 0 rfl rfl 13 (by decide) (hts _ q_692) (fun _ h9 => h9) rfl dX8_candidates_71 ?_
            refine lv_iload_n hx hb dX8_candidates_74 rfl (lv_at hl 1 rfl) ?_
            refine iald_n (f := σ 13) hx hb hK.1 hP 11 0 rfl rfl (k9) rfl (by omega) (by decide) dX8_candidates_75 ?_
            refine lv_iconst (v := 4) hx hb dX8_candidates_76 (by decide) ?_
            refine lv_iand hx hb dX8_candidates_77 ?_
            refine lv_if_ne (tgt := 93) hx hb dX8_candidates_78 (by decide) (fun c22 => ?_) (fun c22 => ?_)
            · -- 78 taken
              refine lv_iconst (v := 0) hx hb dX8_candidates_93 (by decide) ?_
              exact J18 0 ((bI_f (by rw [canP_def]; simp only [eq_false c1, eq_true c20, eq_false c21, eq_false c22, not_true, not_false_iff, not_true_eq_false, not_false_eq_true, true_or, or_true, false_or, or_false, or_self, and_self, true_and, and_true, false_and, and_false, if_true, if_false])).symm)
            · -- 78 not
              refine lv_aload_n hx hb dX8_candidates_81 rfl (lv_at hl 2 rfl) ?_
              refine lv_iload_n hx hb dX8_candidates_82 rfl (lv_at hl 1 rfl) ?_
              refine ro_Vi (D := D) (G := G) (As := [.int (nI k9)]) (rest := [.int (nI k9), .ref ((ad 30))]) ⟨hx, hb, hml, hown, hts⟩ (m_stands l D G _ mo ad _ _ hP (k9) (by omega) (heo k9 (by omega))) gV_X8_X8_stands hdV_X8_stands ⟨Nat.le_of_ble_eq_true rfl, Nat.le_of_ble_eq_true rfl⟩ hK (va_recv hK.1 hP (ci := 8) (q0 := 0) rfl rfl) rfl hl.1 rfl (Nat.le_of_ble_eq_true rfl) dX8_candidates_83 ⟨Nat.le_of_ble_eq_true rfl, Nat.le_of_ble_eq_true rfl⟩ (fun r23 e_r23 => ?_)
              subst e_r23
              refine W.eq (g2 := F0 m 86 ls [.int (bI (stP σ k9)), .int (nI k9), .ref ((ad 30))]) rfl ?_
              refine lv_if_ne (tgt := 93) hx hb dX8_candidates_86 (by decide) (fun c24 => ?_) (fun c24 => ?_)
              · -- 86 taken
                have c24 := bI_1 c24
                refine lv_iconst (v := 0) hx hb dX8_candidates_93 (by decide) ?_
                exact J18 0 ((bI_f (by rw [canP_def]; simp only [eq_false c1, eq_true c20, eq_false c21, eq_true c22, eq_true c24, not_true, not_false_iff, not_true_eq_false, not_false_eq_true, true_or, or_true, false_or, or_false, or_self, and_self, true_and, and_true, false_and, and_false, if_true, if_false])).symm)
              · -- 86 not
                have c24 := bI_0 c24
                refine lv_iconst (v := 1) hx hb dX8_candidates_89 (by decide) ?_
                refine lv_goto (tgt := 94) hx hb dX8_candidates_90 (by decide) ?_
                exact J18 1 ((bI_t (by rw [canP_def]; simp only [eq_false c1, eq_true c20, eq_false c21, eq_true c22, eq_false c24, not_true, not_false_iff, not_true_eq_false, not_false_eq_true, true_or, or_true, false_or, or_false, or_self, and_self, true_and, and_true, false_and, and_false, if_true, if_false])).symm)
    · -- up to the meeting at 48
      refine lv_aload_n hx hb dX8_candidates_10 rfl (lv_at hl 1 rfl) ?_
      refine va_get (D := D) (ci := 8) (v := .ref ((ad 8))) (C := RX8) (T := TX8) (N := 33) hx hb hts iX8 hown hK.1 hP 0 rfl rfl 8 (by decide) (hts _ q_687) (fun _ h9 => h9) rfl dX8_candidates_11 ?_
      refine lv_iload_n hx hb dX8_candidates_14 rfl (lv_at hl 0 rfl) ?_
      refine zald_n (f := σ 8) hx hb hK.1 hP 6 2 rfl rfl (k9) rfl (by omega) (by decide) dX8_candidates_15 ?_
      refine lv_if_eq (tgt := 47) hx hb dX8_candidates_16 (by decide) (fun c25 => ?_) (fun c25 => ?_)
      · -- 16 taken
        refine lv_iconst (v := 0) hx hb dX8_candidates_47 (by decide) ?_
        exact J16 0 ((bI_f (by unfold isP; simp only [eq_false c1, eq_true c25, not_true, not_false_iff, not_true_eq_false, not_false_eq_true, true_or, or_true, false_or, or_false, or_self, and_self, true_and, and_true, false_and, and_false, if_true, if_false])).symm)
      · -- 16 not
        refine lv_aload_n hx hb dX8_candidates_19 rfl (lv_at hl 1 rfl) ?_
        refine va_get (D := D) (ci := 8) (v := .ref ((ad 10))) (C := RX8) (T := TX8) (N := 33) hx hb hts iX8 hown hK.1 hP 0 rfl rfl 10 (by decide) (hts _ q_689) (fun _ h9 => h9) rfl dX8_candidates_20 ?_
        refine lv_iload_n hx hb dX8_candidates_23 rfl (lv_at hl 0 rfl) ?_
        refine iald_n (f := σ 10) hx hb hK.1 hP 8 0 rfl rfl (k9) rfl (by omega) (by decide) dX8_candidates_24 ?_
        refine lv_iload_n hx hb dX8_candidates_25 rfl (lv_at hl 3 rfl) ?_
        refine lv_icmp_ne (tgt := 47) hx hb dX8_candidates_26 (by decide) (fun c26 => ?_) (fun c26 => ?_)
        · -- 26 taken
          refine lv_iconst (v := 0) hx hb dX8_candidates_47 (by decide) ?_
          exact J16 0 ((bI_f (by unfold isP; simp only [eq_false c1, eq_false c25, eq_false c26, not_true, not_false_iff, not_true_eq_false, not_false_eq_true, true_or, or_true, false_or, or_false, or_self, and_self, true_and, and_true, false_and, and_false, if_true, if_false])).symm)
        · -- 26 not
          refine lv_aload_n hx hb dX8_candidates_29 rfl (lv_at hl 1 rfl) ?_
          refine lv_iload_n hx hb dX8_candidates_30 rfl (lv_at hl 2 rfl) ?_
          refine lv_aload_n hx hb dX8_candidates_31 rfl (lv_at hl 1 rfl) ?_
          refine va_get (D := D) (ci := 8) (v := .ref ((ad 9))) (C := RX8) (T := TX8) (N := 33) hx hb hts iX8 hown hK.1 hP 0 rfl rfl 9 (by decide) (hts _ q_688) (fun _ h9 => h9) rfl dX8_candidates_32 ?_
          refine lv_iload_n hx hb dX8_candidates_35 rfl (lv_at hl 0 rfl) ?_
          refine iald_n (f := σ 9) hx hb hK.1 hP 7 0 rfl rfl (k9) rfl (by omega) (by decide) dX8_candidates_36 ?_
          have htyk9 := (heo k9 (by omega)).2
          refine W.eq (g2 := F0 m 37 ls [.int (nI (tyE σ k9)), .int (nI t), .ref mo]) (congrArg (fun z9 => F0 m 37 ls [.int z9, .int (nI t), .ref mo]) (heo k9 (by omega)).1) ?_
          refine ro_Vi (D := D) (G := G) (As := [.int (nI t), .int (nI (tyE σ k9))]) (rest := []) ⟨hx, hb, hml, hown, hts⟩ (m_lies l D G _ mo ad _ _ hP (t) ((tyE σ k9)) (by omega) (by omega) hb6) gV_X8_X8_lies hdV_X8_lies ⟨Nat.le_of_ble_eq_true rfl, Nat.le_of_ble_eq_true rfl⟩ hK (va_recv hK.1 hP (ci := 8) (q0 := 0) rfl rfl) rfl hl.1 rfl (Nat.le_of_ble_eq_true rfl) dX8_candidates_37 ⟨Nat.le_of_ble_eq_true rfl, Nat.le_of_ble_eq_true rfl⟩ (fun r27 e_r27 => ?_)
          subst e_r27
          refine W.eq (g2 := F0 m 40 ls [.int (bI (lyP σ (t) ((tyE σ k9))))]) rfl ?_
          refine lv_if_eq (tgt := 47) hx hb dX8_candidates_40 (by decide) (fun c28 => ?_) (fun c28 => ?_)
          · -- 40 taken
            have c28 := bI_0 c28
            refine lv_iconst (v := 0) hx hb dX8_candidates_47 (by decide) ?_
            exact J16 0 ((bI_f (by unfold isP; simp only [eq_false c1, eq_false c25, eq_true c26, eq_false c28, not_true, not_false_iff, not_true_eq_false, not_false_eq_true, true_or, or_true, false_or, or_false, or_self, and_self, true_and, and_true, false_and, and_false, if_true, if_false])).symm)
          · -- 40 not
            have c28 := bI_1 c28
            refine lv_iconst (v := 1) hx hb dX8_candidates_43 (by decide) ?_
            refine lv_goto (tgt := 48) hx hb dX8_candidates_44 (by decide) ?_
            exact J16 1 ((bI_t (by unfold isP; simp only [eq_false c1, eq_false c25, eq_true c26, eq_true c28, not_true, not_false_iff, not_true_eq_false, not_false_eq_true, true_or, or_true, false_or, or_false, or_self, and_self, true_and, and_true, false_and, and_false, if_true, if_false])).symm)
end
section
theorem zz_last : True := trivial
end
