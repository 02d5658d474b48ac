section
-- ===== PART A: goes FIRST, ahead of the names: the tables' words, and 'selects' of the private methods out of them =====
/-- a private method of a class that the tables say can be made, by its rows of tables_1 -/
def lw_okq (q : MethodName × Nat) : Prop := (q.1.cls ≠ "java/lang/invoke/MethodHandle" ∧ q.1.cls ≠ "java/lang/invoke/VarHandle") ∧ Cond.instantiable q.1.cls q.2 ∈ tables_1 ∧ Cond.privateMethod q.1 ∈ tables_1 ∧ Cond.instanceMethod q.1 ∈ tables_1
theorem lw_p0 : lw_okq (⟨"FieldMember$Types", "allAbove", "(I)I"⟩, 5) := ⟨⟨by decide +kernel, by decide +kernel⟩, List.mem_of_getElem? (i := 30) (by decide +kernel), List.mem_of_getElem? (i := 129) (by decide +kernel), List.mem_of_getElem? (i := 130) (by decide +kernel)⟩
theorem lw_p1 : lw_okq (⟨"FieldMember", "refusalOfNew", "(IIIII)I"⟩, 11) := ⟨⟨by decide +kernel, by decide +kernel⟩, List.mem_of_getElem? (i := 22) (by decide +kernel), List.mem_of_getElem? (i := 176) (by decide +kernel), List.mem_of_getElem? (i := 177) (by decide +kernel)⟩
theorem lw_p2 : lw_okq (⟨"FieldMember", "isUnknownKind", "(I)Z"⟩, 11) := ⟨⟨by decide +kernel, by decide +kernel⟩, List.mem_of_getElem? (i := 22) (by decide +kernel), List.mem_of_getElem? (i := 180) (by decide +kernel), List.mem_of_getElem? (i := 181) (by decide +kernel)⟩
theorem lw_p3 : lw_okq (⟨"FieldMember", "ownField", "(II)I"⟩, 11) := ⟨⟨by decide +kernel, by decide +kernel⟩, List.mem_of_getElem? (i := 22) (by decide +kernel), List.mem_of_getElem? (i := 200) (by decide +kernel), List.mem_of_getElem? (i := 201) (by decide +kernel)⟩
theorem lw_p4 : lw_okq (⟨"FieldMember", "breakRule", "(I)I"⟩, 11) := ⟨⟨by decide +kernel, by decide +kernel⟩, List.mem_of_getElem? (i := 22) (by decide +kernel), List.mem_of_getElem? (i := 205) (by decide +kernel), List.mem_of_getElem? (i := 206) (by decide +kernel)⟩
theorem lw_p5 : lw_okq (⟨"FieldMember", "addEntry", "(LFieldMember$Entry;)I"⟩, 11) := ⟨⟨by decide +kernel, by decide +kernel⟩, List.mem_of_getElem? (i := 22) (by decide +kernel), List.mem_of_getElem? (i := 260) (by decide +kernel), List.mem_of_getElem? (i := 261) (by decide +kernel)⟩
theorem lw_p6 : lw_okq (⟨"FieldMember", "entryAt", "(I)LFieldMember$Entry;"⟩, 11) := ⟨⟨by decide +kernel, by decide +kernel⟩, List.mem_of_getElem? (i := 22) (by decide +kernel), List.mem_of_getElem? (i := 268) (by decide +kernel), List.mem_of_getElem? (i := 269) (by decide +kernel)⟩
theorem lw_p7 : lw_okq (⟨"FieldMember", "isDeclaredTwice", "(LFieldMember$Member;)Z"⟩, 11) := ⟨⟨by decide +kernel, by decide +kernel⟩, List.mem_of_getElem? (i := 22) (by decide +kernel), List.mem_of_getElem? (i := 357) (by decide +kernel), List.mem_of_getElem? (i := 358) (by decide +kernel)⟩
theorem lw_p8 : lw_okq (⟨"FieldMember", "ruleOfMeetings", "(LFieldMember$Member;)I"⟩, 11) := ⟨⟨by decide +kernel, by decide +kernel⟩, List.mem_of_getElem? (i := 22) (by decide +kernel), List.mem_of_getElem? (i := 377) (by decide +kernel), List.mem_of_getElem? (i := 378) (by decide +kernel)⟩
theorem lw_p9 : lw_okq (⟨"FieldMember", "meets", "(LFieldMember$Member;LFieldMember$Member;)Z"⟩, 11) := ⟨⟨by decide +kernel, by decide +kernel⟩, List.mem_of_getElem? (i := 22) (by decide +kernel), List.mem_of_getElem? (i := 381) (by decide +kernel), List.mem_of_getElem? (i := 382) (by decide +kernel)⟩
theorem lw_p10 : lw_okq (⟨"FieldMember", "isStaticOfFace", "(LFieldMember$Member;)Z"⟩, 11) := ⟨⟨by decide +kernel, by decide +kernel⟩, List.mem_of_getElem? (i := 22) (by decide +kernel), List.mem_of_getElem? (i := 388) (by decide +kernel), List.mem_of_getElem? (i := 389) (by decide +kernel)⟩
theorem lw_p11 : lw_okq (⟨"FieldMember", "ruleOfMeeting", "(LFieldMember$Member;LFieldMember$Member;)I"⟩, 11) := ⟨⟨by decide +kernel, by decide +kernel⟩, List.mem_of_getElem? (i := 22) (by decide +kernel), List.mem_of_getElem? (i := 392) (by decide +kernel), List.mem_of_getElem? (i := 393) (by decide +kernel)⟩
theorem lw_p12 : lw_okq (⟨"FieldMember", "mayStandForResult", "(LFieldMember$Member;LFieldMember$Member;)Z"⟩, 11) := ⟨⟨by decide +kernel, by decide +kernel⟩, List.mem_of_getElem? (i := 22) (by decide +kernel), List.mem_of_getElem? (i := 396) (by decide +kernel), List.mem_of_getElem? (i := 397) (by decide +kernel)⟩
theorem lw_p13 : lw_okq (⟨"FieldMember", "areBelow", "(II)Z"⟩, 11) := ⟨⟨by decide +kernel, by decide +kernel⟩, List.mem_of_getElem? (i := 22) (by decide +kernel), List.mem_of_getElem? (i := 400) (by decide +kernel), List.mem_of_getElem? (i := 401) (by decide +kernel)⟩
theorem lw_p14 : lw_okq (⟨"FieldMember", "leastMet", "(LFieldMember$Member;)I"⟩, 11) := ⟨⟨by decide +kernel, by decide +kernel⟩, List.mem_of_getElem? (i := 22) (by decide +kernel), List.mem_of_getElem? (i := 407) (by decide +kernel), List.mem_of_getElem? (i := 408) (by decide +kernel)⟩
theorem lw_p15 : lw_okq (⟨"FieldMember", "fieldFoundIn", "(II)I"⟩, 11) := ⟨⟨by decide +kernel, by decide +kernel⟩, List.mem_of_getElem? (i := 22) (by decide +kernel), List.mem_of_getElem? (i := 423) (by decide +kernel), List.mem_of_getElem? (i := 424) (by decide +kernel)⟩
def lw_privs_1 : List (MethodName × Nat) := [(⟨"FieldMember$Types", "allAbove", "(I)I"⟩, 5), (⟨"FieldMember", "refusalOfNew", "(IIIII)I"⟩, 11), (⟨"FieldMember", "isUnknownKind", "(I)Z"⟩, 11), (⟨"FieldMember", "ownField", "(II)I"⟩, 11), (⟨"FieldMember", "breakRule", "(I)I"⟩, 11), (⟨"FieldMember", "addEntry", "(LFieldMember$Entry;)I"⟩, 11), (⟨"FieldMember", "entryAt", "(I)LFieldMember$Entry;"⟩, 11), (⟨"FieldMember", "isDeclaredTwice", "(LFieldMember$Member;)Z"⟩, 11), (⟨"FieldMember", "ruleOfMeetings", "(LFieldMember$Member;)I"⟩, 11), (⟨"FieldMember", "meets", "(LFieldMember$Member;LFieldMember$Member;)Z"⟩, 11), (⟨"FieldMember", "isStaticOfFace", "(LFieldMember$Member;)Z"⟩, 11), (⟨"FieldMember", "ruleOfMeeting", "(LFieldMember$Member;LFieldMember$Member;)I"⟩, 11), (⟨"FieldMember", "mayStandForResult", "(LFieldMember$Member;LFieldMember$Member;)Z"⟩, 11), (⟨"FieldMember", "areBelow", "(II)Z"⟩, 11), (⟨"FieldMember", "leastMet", "(LFieldMember$Member;)I"⟩, 11), (⟨"FieldMember", "fieldFoundIn", "(II)I"⟩, 11)]
theorem lw_r1 : ∀ q ∈ lw_privs_1, lw_okq q := List.forall_mem_cons.mpr ⟨lw_p0, List.forall_mem_cons.mpr ⟨lw_p1, List.forall_mem_cons.mpr ⟨lw_p2, List.forall_mem_cons.mpr ⟨lw_p3, List.forall_mem_cons.mpr ⟨lw_p4, List.forall_mem_cons.mpr ⟨lw_p5, List.forall_mem_cons.mpr ⟨lw_p6, List.forall_mem_cons.mpr ⟨lw_p7, List.forall_mem_cons.mpr ⟨lw_p8, List.forall_mem_cons.mpr ⟨lw_p9, List.forall_mem_cons.mpr ⟨lw_p10, List.forall_mem_cons.mpr ⟨lw_p11, List.forall_mem_cons.mpr ⟨lw_p12, List.forall_mem_cons.mpr ⟨lw_p13, List.forall_mem_cons.mpr ⟨lw_p14, List.forall_mem_cons.mpr ⟨lw_p15, fun _ h => absurd h List.not_mem_nil⟩⟩⟩⟩⟩⟩⟩⟩⟩⟩⟩⟩⟩⟩⟩⟩
theorem lw_p16 : lw_okq (⟨"FieldMember", "foundThroughParent", "(I)I"⟩, 11) := ⟨⟨by decide +kernel, by decide +kernel⟩, List.mem_of_getElem? (i := 22) (by decide +kernel), List.mem_of_getElem? (i := 428) (by decide +kernel), List.mem_of_getElem? (i := 429) (by decide +kernel)⟩
theorem lw_p17 : lw_okq (⟨"FieldMember", "markCandidates", "(II)V"⟩, 11) := ⟨⟨by decide +kernel, by decide +kernel⟩, List.mem_of_getElem? (i := 22) (by decide +kernel), List.mem_of_getElem? (i := 447) (by decide +kernel), List.mem_of_getElem? (i := 448) (by decide +kernel)⟩
theorem lw_p18 : lw_okq (⟨"FieldMember", "isReachedFrom", "(ILFieldMember$Member;)Z"⟩, 11) := ⟨⟨by decide +kernel, by decide +kernel⟩, List.mem_of_getElem? (i := 22) (by decide +kernel), List.mem_of_getElem? (i := 451) (by decide +kernel), List.mem_of_getElem? (i := 452) (by decide +kernel)⟩
theorem lw_p19 : lw_okq (⟨"FieldMember", "markFitting", "(Z)Z"⟩, 11) := ⟨⟨by decide +kernel, by decide +kernel⟩, List.mem_of_getElem? (i := 22) (by decide +kernel), List.mem_of_getElem? (i := 455) (by decide +kernel), List.mem_of_getElem? (i := 456) (by decide +kernel)⟩
theorem lw_p20 : lw_okq (⟨"FieldMember", "takesArguments", "(LFieldMember$Member;Z)Z"⟩, 11) := ⟨⟨by decide +kernel, by decide +kernel⟩, List.mem_of_getElem? (i := 22) (by decide +kernel), List.mem_of_getElem? (i := 459) (by decide +kernel), List.mem_of_getElem? (i := 460) (by decide +kernel)⟩
theorem lw_p21 : lw_okq (⟨"FieldMember", "mayTakeAsMany", "(LFieldMember$Member;Z)Z"⟩, 11) := ⟨⟨by decide +kernel, by decide +kernel⟩, List.mem_of_getElem? (i := 22) (by decide +kernel), List.mem_of_getElem? (i := 463) (by decide +kernel), List.mem_of_getElem? (i := 464) (by decide +kernel)⟩
theorem lw_p22 : lw_okq (⟨"FieldMember$Member", "isItem", "(I)Z"⟩, 9) := ⟨⟨by decide +kernel, by decide +kernel⟩, List.mem_of_getElem? (i := 308) (by decide +kernel), List.mem_of_getElem? (i := 473) (by decide +kernel), List.mem_of_getElem? (i := 474) (by decide +kernel)⟩
theorem lw_p23 : lw_okq (⟨"FieldMember", "fits", "(IIII)Z"⟩, 11) := ⟨⟨by decide +kernel, by decide +kernel⟩, List.mem_of_getElem? (i := 22) (by decide +kernel), List.mem_of_getElem? (i := 483) (by decide +kernel), List.mem_of_getElem? (i := 484) (by decide +kernel)⟩
theorem lw_p24 : lw_okq (⟨"FieldMember", "isStoodFor", "(LFieldMember$Member;)Z"⟩, 11) := ⟨⟨by decide +kernel, by decide +kernel⟩, List.mem_of_getElem? (i := 22) (by decide +kernel), List.mem_of_getElem? (i := 490) (by decide +kernel), List.mem_of_getElem? (i := 491) (by decide +kernel)⟩
theorem lw_p25 : lw_okq (⟨"FieldMember", "nearestFitting", "(Z)I"⟩, 11) := ⟨⟨by decide +kernel, by decide +kernel⟩, List.mem_of_getElem? (i := 22) (by decide +kernel), List.mem_of_getElem? (i := 494) (by decide +kernel), List.mem_of_getElem? (i := 495) (by decide +kernel)⟩
theorem lw_p26 : lw_okq (⟨"FieldMember", "isNearest", "(LFieldMember$Member;Z)Z"⟩, 11) := ⟨⟨by decide +kernel, by decide +kernel⟩, List.mem_of_getElem? (i := 22) (by decide +kernel), List.mem_of_getElem? (i := 498) (by decide +kernel), List.mem_of_getElem? (i := 499) (by decide +kernel)⟩
theorem lw_p27 : lw_okq (⟨"FieldMember", "fitsPlaceByPlace", "(LFieldMember$Member;LFieldMember$Member;Z)Z"⟩, 11) := ⟨⟨by decide +kernel, by decide +kernel⟩, List.mem_of_getElem? (i := 22) (by decide +kernel), List.mem_of_getElem? (i := 502) (by decide +kernel), List.mem_of_getElem? (i := 503) (by decide +kernel)⟩
theorem lw_p28 : lw_okq (⟨"FieldMember", "isLacking", "(ILFieldMember$Member;)Z"⟩, 11) := ⟨⟨by decide +kernel, by decide +kernel⟩, List.mem_of_getElem? (i := 22) (by decide +kernel), List.mem_of_getElem? (i := 525) (by decide +kernel), List.mem_of_getElem? (i := 526) (by decide +kernel)⟩
theorem lw_p29 : lw_okq (⟨"FieldMember", "mayFill", "(LFieldMember$Member;)Z"⟩, 11) := ⟨⟨by decide +kernel, by decide +kernel⟩, List.mem_of_getElem? (i := 22) (by decide +kernel), List.mem_of_getElem? (i := 529) (by decide +kernel), List.mem_of_getElem? (i := 530) (by decide +kernel)⟩
theorem lw_p30 : lw_okq (⟨"java/lang/Throwable", "fillInStackTrace", "(I)Ljava/lang/Throwable;"⟩, 6) := ⟨⟨by decide +kernel, by decide +kernel⟩, List.mem_of_getElem? (i := 578) (by decide +kernel), List.mem_of_getElem? (i := 576) (by decide +kernel), List.mem_of_getElem? (i := 577) (by decide +kernel)⟩
theorem lw_p31 : lw_okq (⟨"FieldMemberModel", "isType", "(I)Z"⟩, 33) := ⟨⟨by decide +kernel, by decide +kernel⟩, List.mem_of_getElem? (i := 674) (by decide +kernel), List.mem_of_getElem? (i := 792) (by decide +kernel), List.mem_of_getElem? (i := 793) (by decide +kernel)⟩
def lw_privs_2 : List (MethodName × Nat) := [(⟨"FieldMember", "foundThroughParent", "(I)I"⟩, 11), (⟨"FieldMember", "markCandidates", "(II)V"⟩, 11), (⟨"FieldMember", "isReachedFrom", "(ILFieldMember$Member;)Z"⟩, 11), (⟨"FieldMember", "markFitting", "(Z)Z"⟩, 11), (⟨"FieldMember", "takesArguments", "(LFieldMember$Member;Z)Z"⟩, 11), (⟨"FieldMember", "mayTakeAsMany", "(LFieldMember$Member;Z)Z"⟩, 11), (⟨"FieldMember$Member", "isItem", "(I)Z"⟩, 9), (⟨"FieldMember", "fits", "(IIII)Z"⟩, 11), (⟨"FieldMember", "isStoodFor", "(LFieldMember$Member;)Z"⟩, 11), (⟨"FieldMember", "nearestFitting", "(Z)I"⟩, 11), (⟨"FieldMember", "isNearest", "(LFieldMember$Member;Z)Z"⟩, 11), (⟨"FieldMember", "fitsPlaceByPlace", "(LFieldMember$Member;LFieldMember$Member;Z)Z"⟩, 11), (⟨"FieldMember", "isLacking", "(ILFieldMember$Member;)Z"⟩, 11), (⟨"FieldMember", "mayFill", "(LFieldMember$Member;)Z"⟩, 11), (⟨"java/lang/Throwable", "fillInStackTrace", "(I)Ljava/lang/Throwable;"⟩, 6), (⟨"FieldMemberModel", "isType", "(I)Z"⟩, 33)]
theorem lw_r2 : ∀ q ∈ lw_privs_2, lw_okq q := List.forall_mem_cons.mpr ⟨lw_p16, List.forall_mem_cons.mpr ⟨lw_p17, List.forall_mem_cons.mpr ⟨lw_p18, List.forall_mem_cons.mpr ⟨lw_p19, List.forall_mem_cons.mpr ⟨lw_p20, List.forall_mem_cons.mpr ⟨lw_p21, List.forall_mem_cons.mpr ⟨lw_p22, List.forall_mem_cons.mpr ⟨lw_p23, List.forall_mem_cons.mpr ⟨lw_p24, List.forall_mem_cons.mpr ⟨lw_p25, List.forall_mem_cons.mpr ⟨lw_p26, List.forall_mem_cons.mpr ⟨lw_p27, List.forall_mem_cons.mpr ⟨lw_p28, List.forall_mem_cons.mpr ⟨lw_p29, List.forall_mem_cons.mpr ⟨lw_p30, List.forall_mem_cons.mpr ⟨lw_p31, fun _ h => absurd h List.not_mem_nil⟩⟩⟩⟩⟩⟩⟩⟩⟩⟩⟩⟩⟩⟩⟩⟩
theorem lw_p32 : lw_okq (⟨"FieldMemberModel", "reckons", "(I)V"⟩, 33) := ⟨⟨by decide +kernel, by decide +kernel⟩, List.mem_of_getElem? (i := 674) (by decide +kernel), List.mem_of_getElem? (i := 796) (by decide +kernel), List.mem_of_getElem? (i := 797) (by decide +kernel)⟩
theorem lw_p33 : lw_okq (⟨"FieldMemberModel", "adds", "(II)V"⟩, 33) := ⟨⟨by decide +kernel, by decide +kernel⟩, List.mem_of_getElem? (i := 674) (by decide +kernel), List.mem_of_getElem? (i := 800) (by decide +kernel), List.mem_of_getElem? (i := 801) (by decide +kernel)⟩
theorem lw_p34 : lw_okq (⟨"FieldMemberModel", "isFace", "(I)Z"⟩, 33) := ⟨⟨by decide +kernel, by decide +kernel⟩, List.mem_of_getElem? (i := 674) (by decide +kernel), List.mem_of_getElem? (i := 808) (by decide +kernel), List.mem_of_getElem? (i := 809) (by decide +kernel)⟩
theorem lw_p35 : lw_okq (⟨"FieldMemberModel", "lies", "(II)Z"⟩, 33) := ⟨⟨by decide +kernel, by decide +kernel⟩, List.mem_of_getElem? (i := 674) (by decide +kernel), List.mem_of_getElem? (i := 816) (by decide +kernel), List.mem_of_getElem? (i := 817) (by decide +kernel)⟩
theorem lw_p36 : lw_okq (⟨"FieldMemberModel", "refusal", "(IIIII)I"⟩, 33) := ⟨⟨by decide +kernel, by decide +kernel⟩, List.mem_of_getElem? (i := 674) (by decide +kernel), List.mem_of_getElem? (i := 824) (by decide +kernel), List.mem_of_getElem? (i := 825) (by decide +kernel)⟩
theorem lw_p37 : lw_okq (⟨"FieldMemberModel", "noKind", "(I)Z"⟩, 33) := ⟨⟨by decide +kernel, by decide +kernel⟩, List.mem_of_getElem? (i := 674) (by decide +kernel), List.mem_of_getElem? (i := 828) (by decide +kernel), List.mem_of_getElem? (i := 829) (by decide +kernel)⟩
theorem lw_p38 : lw_okq (⟨"FieldMemberModel", "ruleOfField", "(IIII)I"⟩, 33) := ⟨⟨by decide +kernel, by decide +kernel⟩, List.mem_of_getElem? (i := 674) (by decide +kernel), List.mem_of_getElem? (i := 832) (by decide +kernel), List.mem_of_getElem? (i := 833) (by decide +kernel)⟩
theorem lw_p39 : lw_okq (⟨"FieldMemberModel", "fieldOf", "(II)I"⟩, 33) := ⟨⟨by decide +kernel, by decide +kernel⟩, List.mem_of_getElem? (i := 674) (by decide +kernel), List.mem_of_getElem? (i := 839) (by decide +kernel), List.mem_of_getElem? (i := 840) (by decide +kernel)⟩
theorem lw_p40 : lw_okq (⟨"FieldMemberModel", "breaks", "(I)I"⟩, 33) := ⟨⟨by decide +kernel, by decide +kernel⟩, List.mem_of_getElem? (i := 674) (by decide +kernel), List.mem_of_getElem? (i := 843) (by decide +kernel), List.mem_of_getElem? (i := 844) (by decide +kernel)⟩
theorem lw_p41 : lw_okq (⟨"FieldMemberModel", "lays", "(IIIII)V"⟩, 33) := ⟨⟨by decide +kernel, by decide +kernel⟩, List.mem_of_getElem? (i := 674) (by decide +kernel), List.mem_of_getElem? (i := 847) (by decide +kernel), List.mem_of_getElem? (i := 848) (by decide +kernel)⟩
theorem lw_p42 : lw_okq (⟨"FieldMemberModel", "isEntry", "(I)Z"⟩, 33) := ⟨⟨by decide +kernel, by decide +kernel⟩, List.mem_of_getElem? (i := 674) (by decide +kernel), List.mem_of_getElem? (i := 855) (by decide +kernel), List.mem_of_getElem? (i := 856) (by decide +kernel)⟩
theorem lw_p43 : lw_okq (⟨"FieldMemberModel", "ruleOfMember", "(IIZ)I"⟩, 33) := ⟨⟨by decide +kernel, by decide +kernel⟩, List.mem_of_getElem? (i := 674) (by decide +kernel), List.mem_of_getElem? (i := 887) (by decide +kernel), List.mem_of_getElem? (i := 888) (by decide +kernel)⟩
theorem lw_p44 : lw_okq (⟨"FieldMemberModel", "sameParts", "(II)Z"⟩, 33) := ⟨⟨by decide +kernel, by decide +kernel⟩, List.mem_of_getElem? (i := 674) (by decide +kernel), List.mem_of_getElem? (i := 899) (by decide +kernel), List.mem_of_getElem? (i := 900) (by decide +kernel)⟩
theorem lw_p45 : lw_okq (⟨"FieldMemberModel", "meets", "(II)Z"⟩, 33) := ⟨⟨by decide +kernel, by decide +kernel⟩, List.mem_of_getElem? (i := 674) (by decide +kernel), List.mem_of_getElem? (i := 903) (by decide +kernel), List.mem_of_getElem? (i := 904) (by decide +kernel)⟩
theorem lw_p46 : lw_okq (⟨"FieldMemberModel", "stands", "(I)Z"⟩, 33) := ⟨⟨by decide +kernel, by decide +kernel⟩, List.mem_of_getElem? (i := 674) (by decide +kernel), List.mem_of_getElem? (i := 907) (by decide +kernel), List.mem_of_getElem? (i := 908) (by decide +kernel)⟩
theorem lw_p47 : lw_okq (⟨"FieldMemberModel", "ruleAgainst", "(II)I"⟩, 33) := ⟨⟨by decide +kernel, by decide +kernel⟩, List.mem_of_getElem? (i := 674) (by decide +kernel), List.mem_of_getElem? (i := 911) (by decide +kernel), List.mem_of_getElem? (i := 912) (by decide +kernel)⟩
def lw_privs_3 : List (MethodName × Nat) := [(⟨"FieldMemberModel", "reckons", "(I)V"⟩, 33), (⟨"FieldMemberModel", "adds", "(II)V"⟩, 33), (⟨"FieldMemberModel", "isFace", "(I)Z"⟩, 33), (⟨"FieldMemberModel", "lies", "(II)Z"⟩, 33), (⟨"FieldMemberModel", "refusal", "(IIIII)I"⟩, 33), (⟨"FieldMemberModel", "noKind", "(I)Z"⟩, 33), (⟨"FieldMemberModel", "ruleOfField", "(IIII)I"⟩, 33), (⟨"FieldMemberModel", "fieldOf", "(II)I"⟩, 33), (⟨"FieldMemberModel", "breaks", "(I)I"⟩, 33), (⟨"FieldMemberModel", "lays", "(IIIII)V"⟩, 33), (⟨"FieldMemberModel", "isEntry", "(I)Z"⟩, 33), (⟨"FieldMemberModel", "ruleOfMember", "(IIZ)I"⟩, 33), (⟨"FieldMemberModel", "sameParts", "(II)Z"⟩, 33), (⟨"FieldMemberModel", "meets", "(II)Z"⟩, 33), (⟨"FieldMemberModel", "stands", "(I)Z"⟩, 33), (⟨"FieldMemberModel", "ruleAgainst", "(II)I"⟩, 33)]
theorem lw_r3 : ∀ q ∈ lw_privs_3, lw_okq q := List.forall_mem_cons.mpr ⟨lw_p32, List.forall_mem_cons.mpr ⟨lw_p33, List.forall_mem_cons.mpr ⟨lw_p34, List.forall_mem_cons.mpr ⟨lw_p35, List.forall_mem_cons.mpr ⟨lw_p36, List.forall_mem_cons.mpr ⟨lw_p37, List.forall_mem_cons.mpr ⟨lw_p38, List.forall_mem_cons.mpr ⟨lw_p39, List.forall_mem_cons.mpr ⟨lw_p40, List.forall_mem_cons.mpr ⟨lw_p41, List.forall_mem_cons.mpr ⟨lw_p42, List.forall_mem_cons.mpr ⟨lw_p43, List.forall_mem_cons.mpr ⟨lw_p44, List.forall_mem_cons.mpr ⟨lw_p45, List.forall_mem_cons.mpr ⟨lw_p46, List.forall_mem_cons.mpr ⟨lw_p47, fun _ h => absurd h List.not_mem_nil⟩⟩⟩⟩⟩⟩⟩⟩⟩⟩⟩⟩⟩⟩⟩⟩
theorem lw_p48 : lw_okq (⟨"FieldMemberModel", "seen", "(I)I"⟩, 33) := ⟨⟨by decide +kernel, by decide +kernel⟩, List.mem_of_getElem? (i := 674) (by decide +kernel), List.mem_of_getElem? (i := 915) (by decide +kernel), List.mem_of_getElem? (i := 916) (by decide +kernel)⟩
theorem lw_p49 : lw_okq (⟨"FieldMemberModel", "leastMet", "(I)I"⟩, 33) := ⟨⟨by decide +kernel, by decide +kernel⟩, List.mem_of_getElem? (i := 674) (by decide +kernel), List.mem_of_getElem? (i := 919) (by decide +kernel), List.mem_of_getElem? (i := 920) (by decide +kernel)⟩
theorem lw_p50 : lw_okq (⟨"FieldMemberModel", "candidates", "(II)V"⟩, 33) := ⟨⟨by decide +kernel, by decide +kernel⟩, List.mem_of_getElem? (i := 674) (by decide +kernel), List.mem_of_getElem? (i := 950) (by decide +kernel), List.mem_of_getElem? (i := 951) (by decide +kernel)⟩
theorem lw_p51 : lw_okq (⟨"FieldMemberModel", "nearest", "(Z)I"⟩, 33) := ⟨⟨by decide +kernel, by decide +kernel⟩, List.mem_of_getElem? (i := 674) (by decide +kernel), List.mem_of_getElem? (i := 954) (by decide +kernel), List.mem_of_getElem? (i := 955) (by decide +kernel)⟩
theorem lw_p52 : lw_okq (⟨"FieldMemberModel", "takes", "(IZ)Z"⟩, 33) := ⟨⟨by decide +kernel, by decide +kernel⟩, List.mem_of_getElem? (i := 674) (by decide +kernel), List.mem_of_getElem? (i := 958) (by decide +kernel), List.mem_of_getElem? (i := 959) (by decide +kernel)⟩
theorem lw_p53 : lw_okq (⟨"FieldMemberModel", "kindAt", "(IIZ)I"⟩, 33) := ⟨⟨by decide +kernel, by decide +kernel⟩, List.mem_of_getElem? (i := 674) (by decide +kernel), List.mem_of_getElem? (i := 962) (by decide +kernel), List.mem_of_getElem? (i := 963) (by decide +kernel)⟩
theorem lw_p54 : lw_okq (⟨"FieldMemberModel", "dimAt", "(IIZ)I"⟩, 33) := ⟨⟨by decide +kernel, by decide +kernel⟩, List.mem_of_getElem? (i := 674) (by decide +kernel), List.mem_of_getElem? (i := 966) (by decide +kernel), List.mem_of_getElem? (i := 967) (by decide +kernel)⟩
theorem lw_p55 : lw_okq (⟨"FieldMemberModel", "fits", "(IIII)Z"⟩, 33) := ⟨⟨by decide +kernel, by decide +kernel⟩, List.mem_of_getElem? (i := 674) (by decide +kernel), List.mem_of_getElem? (i := 970) (by decide +kernel), List.mem_of_getElem? (i := 971) (by decide +kernel)⟩
theorem lw_p56 : lw_okq (⟨"FieldMemberModel", "isNearer", "(IIZ)Z"⟩, 33) := ⟨⟨by decide +kernel, by decide +kernel⟩, List.mem_of_getElem? (i := 674) (by decide +kernel), List.mem_of_getElem? (i := 977) (by decide +kernel), List.mem_of_getElem? (i := 978) (by decide +kernel)⟩
theorem lw_p57 : lw_okq (⟨"FieldMemberModel", "isLacked", "(II)Z"⟩, 33) := ⟨⟨by decide +kernel, by decide +kernel⟩, List.mem_of_getElem? (i := 674) (by decide +kernel), List.mem_of_getElem? (i := 989) (by decide +kernel), List.mem_of_getElem? (i := 990) (by decide +kernel)⟩
theorem lw_p58 : lw_okq (⟨"FieldMemberModel", "makes", "(III)Z"⟩, 33) := ⟨⟨by decide +kernel, by decide +kernel⟩, List.mem_of_getElem? (i := 674) (by decide +kernel), List.mem_of_getElem? (i := 993) (by decide +kernel), List.mem_of_getElem? (i := 994) (by decide +kernel)⟩
def lw_privs_4 : List (MethodName × Nat) := [(⟨"FieldMemberModel", "seen", "(I)I"⟩, 33), (⟨"FieldMemberModel", "leastMet", "(I)I"⟩, 33), (⟨"FieldMemberModel", "candidates", "(II)V"⟩, 33), (⟨"FieldMemberModel", "nearest", "(Z)I"⟩, 33), (⟨"FieldMemberModel", "takes", "(IZ)Z"⟩, 33), (⟨"FieldMemberModel", "kindAt", "(IIZ)I"⟩, 33), (⟨"FieldMemberModel", "dimAt", "(IIZ)I"⟩, 33), (⟨"FieldMemberModel", "fits", "(IIII)Z"⟩, 33), (⟨"FieldMemberModel", "isNearer", "(IIZ)Z"⟩, 33), (⟨"FieldMemberModel", "isLacked", "(II)Z"⟩, 33), (⟨"FieldMemberModel", "makes", "(III)Z"⟩, 33)]
theorem lw_r4 : ∀ q ∈ lw_privs_4, lw_okq q := List.forall_mem_cons.mpr ⟨lw_p48, List.forall_mem_cons.mpr ⟨lw_p49, List.forall_mem_cons.mpr ⟨lw_p50, List.forall_mem_cons.mpr ⟨lw_p51, List.forall_mem_cons.mpr ⟨lw_p52, List.forall_mem_cons.mpr ⟨lw_p53, List.forall_mem_cons.mpr ⟨lw_p54, List.forall_mem_cons.mpr ⟨lw_p55, List.forall_mem_cons.mpr ⟨lw_p56, List.forall_mem_cons.mpr ⟨lw_p57, List.forall_mem_cons.mpr ⟨lw_p58, fun _ h => absurd h List.not_mem_nil⟩⟩⟩⟩⟩⟩⟩⟩⟩⟩⟩
def lw_privs : List (MethodName × Nat) := lw_privs_1 ++ (lw_privs_2 ++ (lw_privs_3 ++ (lw_privs_4)))
def lw_tbl : List Cond := k2_sels lw_privs ++ tables_1
theorem lw_privs_ok : ∀ q ∈ lw_privs, lw_okq q := by
  show ∀ q ∈ lw_privs_1 ++ (lw_privs_2 ++ (lw_privs_3 ++ (lw_privs_4))), lw_okq q
  exact List.forall_mem_append.mpr ⟨lw_r1, List.forall_mem_append.mpr ⟨lw_r2, List.forall_mem_append.mpr ⟨lw_r3, lw_r4⟩⟩⟩
-- ===== end of PART A; then your names; then what follows =====
end
section
def RX0 : String := "FieldMember$Constants"
def TX0 : u_T := fun k => match k with
  | _ => ("", "", "", false)
def tyX0 : Nat → FieldType := fun k => match k with
  | _ => .int
abbrev wsX00 : List Cond := u_ws RX0 TX0 0
theorem nmX0 : ∀ a, a < 0 → ∀ b, b < 0 → a ≠ b → (TX0 a).2.1 ≠ (TX0 b).2.1 := by decide +kernel
theorem tyX0_ok : ∀ k, k < 0 → parseFieldDescriptor (TX0 k).2.2.1 = some (tyX0 k) := by decide +kernel
abbrev cX0_isOfKind : ByteArray := prog_2_method_2_code
def yX0_isOfKind : MethodName := ⟨RX0, "isOfKind", "(IJ)Z"⟩
abbrev cX0_asLong : ByteArray := prog_2_method_3_code
def yX0_asLong : MethodName := ⟨RX0, "asLong", "(IJ)J"⟩
abbrev cX0_bitsOf : ByteArray := prog_2_method_4_code
def yX0_bitsOf : MethodName := ⟨RX0, "bitsOf", "(JII)J"⟩
abbrev cX0_highestBit : ByteArray := prog_2_method_5_code
def yX0_highestBit : MethodName := ⟨RX0, "highestBit", "(J)I"⟩
abbrev cX0_roundedOff : ByteArray := prog_2_method_6_code
def yX0_roundedOff : MethodName := ⟨RX0, "roundedOff", "(JI)J"⟩
def RX1 : String := "FieldMember$Entry"
def TX1 : u_T := fun k => match k with
  | _ => ("", "", "", false)
def tyX1 : Nat → FieldType := fun k => match k with
  | _ => .int
abbrev wsX10 : List Cond := u_ws RX1 TX1 0
theorem nmX1 : ∀ a, a < 0 → ∀ b, b < 0 → a ≠ b → (TX1 a).2.1 ≠ (TX1 b).2.1 := by decide +kernel
theorem tyX1_ok : ∀ k, k < 0 → parseFieldDescriptor (TX1 k).2.2.1 = some (tyX1 k) := by decide +kernel
abbrev cX1_init : ByteArray := prog_3_method_1_code
def yX1_init : MethodName := ⟨RX1, "<init>", "(IIIII)V"⟩
abbrev cX1_hasAny : ByteArray := prog_3_method_2_code
def yX1_hasAny : MethodName := ⟨RX1, "hasAny", "(I)Z"⟩
def RX2 : String := "FieldMember$Field"
def TX2 : u_T := fun k => match k with
  | 0 => ("FieldMember$Entry", "type", "I", true)
  | 1 => ("FieldMember$Entry", "name", "I", true)
  | 2 => ("FieldMember$Entry", "kind", "I", true)
  | 3 => ("FieldMember$Entry", "dims", "I", true)
  | 4 => ("FieldMember$Entry", "marks", "I", true)
  | 5 => ("FieldMember$Field", "told", "Z", false)
  | _ => ("FieldMember$Field", "constant", "J", false)
def tyX2 : Nat → FieldType := fun k => match k with
  | 0 => .int
  | 1 => .int
  | 2 => .int
  | 3 => .int
  | 4 => .int
  | 5 => .boolean
  | _ => .long
abbrev wsX20 : List Cond := u_ws RX2 TX2 7
theorem nmX2 : ∀ a, a < 7 → ∀ b, b < 7 → a ≠ b → (TX2 a).2.1 ≠ (TX2 b).2.1 := by decide +kernel
theorem tyX2_ok : ∀ k, k < 7 → parseFieldDescriptor (TX2 k).2.2.1 = some (tyX2 k) := by decide +kernel
abbrev cX2_init : ByteArray := prog_4_method_1_code
def yX2_init : MethodName := ⟨RX2, "<init>", "(IIIII)V"⟩
abbrev cX2_mayHaveConstant : ByteArray := prog_4_method_2_code
def yX2_mayHaveConstant : MethodName := ⟨RX2, "mayHaveConstant", "()Z"⟩
def RX3 : String := "FieldMember$Member"
def TX3 : u_T := fun k => match k with
  | 0 => ("FieldMember$Entry", "type", "I", true)
  | 1 => ("FieldMember$Entry", "name", "I", true)
  | 2 => ("FieldMember$Entry", "kind", "I", true)
  | 3 => ("FieldMember$Entry", "dims", "I", true)
  | 4 => ("FieldMember$Entry", "marks", "I", true)
  | 5 => ("FieldMember$Member", "body", "Z", true)
  | 6 => ("FieldMember$Member", "parameters", "LFieldMember$Row;", true)
  | 7 => ("FieldMember$Member", "varied", "Z", false)
  | _ => ("FieldMember$Member", "met", "I", false)
def tyX3 : Nat → FieldType := fun k => match k with
  | 0 => .int
  | 1 => .int
  | 2 => .int
  | 3 => .int
  | 4 => .int
  | 5 => .boolean
  | 6 => .object "FieldMember$Row"
  | 7 => .boolean
  | _ => .int
abbrev wsX30 : List Cond := u_ws RX3 TX3 9
theorem nmX3 : ∀ a, a < 9 → ∀ b, b < 9 → a ≠ b → (TX3 a).2.1 ≠ (TX3 b).2.1 := by decide +kernel
theorem tyX3_ok : ∀ k, k < 9 → parseFieldDescriptor (TX3 k).2.2.1 = some (tyX3 k) := by decide +kernel
abbrev cX3_init : ByteArray := prog_5_method_1_code
def yX3_init : MethodName := ⟨RX3, "<init>", "(IIIIIZ)V"⟩
abbrev cX3_isLike : ByteArray := prog_5_method_2_code
def yX3_isLike : MethodName := ⟨RX3, "isLike", "(LFieldMember$Member;)Z"⟩
abbrev cX3_kindAt : ByteArray := prog_5_method_3_code
def yX3_kindAt : MethodName := ⟨RX3, "kindAt", "(IZ)I"⟩
abbrev cX3_dimsAt : ByteArray := prog_5_method_4_code
def yX3_dimsAt : MethodName := ⟨RX3, "dimsAt", "(IZ)I"⟩
abbrev cX3_isItem : ByteArray := prog_5_method_5_code
def yX3_isItem : MethodName := ⟨RX3, "isItem", "(I)Z"⟩
def RX4 : String := "FieldMember$Row"
def TX4 : u_T := fun k => match k with
  | 0 => ("FieldMember$Row", "kinds", "[I", true)
  | 1 => ("FieldMember$Row", "dims", "[I", true)
  | _ => ("FieldMember$Row", "size", "I", false)
def tyX4 : Nat → FieldType := fun k => match k with
  | 0 => .array .int
  | 1 => .array .int
  | _ => .int
abbrev wsX40 : List Cond := u_ws RX4 TX4 3
theorem nmX4 : ∀ a, a < 3 → ∀ b, b < 3 → a ≠ b → (TX4 a).2.1 ≠ (TX4 b).2.1 := by decide +kernel
theorem tyX4_ok : ∀ k, k < 3 → parseFieldDescriptor (TX4 k).2.2.1 = some (tyX4 k) := by decide +kernel
abbrev cX4_init : ByteArray := prog_6_method_1_code
def yX4_init : MethodName := ⟨RX4, "<init>", "()V"⟩
abbrev cX4_isFull : ByteArray := prog_6_method_2_code
def yX4_isFull : MethodName := ⟨RX4, "isFull", "()Z"⟩
abbrev cX4_add : ByteArray := prog_6_method_3_code
def yX4_add : MethodName := ⟨RX4, "add", "(II)I"⟩
abbrev cX4_empty : ByteArray := prog_6_method_4_code
def yX4_empty : MethodName := ⟨RX4, "empty", "()V"⟩
abbrev cX4_kindAt : ByteArray := prog_6_method_5_code
def yX4_kindAt : MethodName := ⟨RX4, "kindAt", "(I)I"⟩
abbrev cX4_dimsAt : ByteArray := prog_6_method_6_code
def yX4_dimsAt : MethodName := ⟨RX4, "dimsAt", "(I)I"⟩
abbrev cX4_isSame : ByteArray := prog_6_method_7_code
def yX4_isSame : MethodName := ⟨RX4, "isSame", "(LFieldMember$Row;)Z"⟩
def RX5 : String := "FieldMember$Rules"
def TX5 : u_T := fun k => match k with
  | _ => ("", "", "", false)
def tyX5 : Nat → FieldType := fun k => match k with
  | _ => .int
abbrev wsX50 : List Cond := u_ws RX5 TX5 0
theorem nmX5 : ∀ a, a < 0 → ∀ b, b < 0 → a ≠ b → (TX5 a).2.1 ≠ (TX5 b).2.1 := by decide +kernel
theorem tyX5_ok : ∀ k, k < 0 → parseFieldDescriptor (TX5 k).2.2.1 = some (tyX5 k) := by decide +kernel
abbrev cX5_ofField : ByteArray := prog_7_method_2_code
def yX5_ofField : MethodName := ⟨RX5, "ofField", "(IIZ)I"⟩
abbrev cX5_ofFaceMember : ByteArray := prog_7_method_3_code
def yX5_ofFaceMember : MethodName := ⟨RX5, "ofFaceMember", "(IZ)I"⟩
abbrev cX5_ofClassMember : ByteArray := prog_7_method_4_code
def yX5_ofClassMember : MethodName := ⟨RX5, "ofClassMember", "(IZZ)I"⟩
abbrev cX5_ofParameter : ByteArray := prog_7_method_5_code
def yX5_ofParameter : MethodName := ⟨RX5, "ofParameter", "(IIZZ)I"⟩
abbrev cX5_faceMarks : ByteArray := prog_7_method_6_code
def yX5_faceMarks : MethodName := ⟨RX5, "faceMarks", "(I)I"⟩
abbrev cX5_sightOf : ByteArray := prog_7_method_7_code
def yX5_sightOf : MethodName := ⟨RX5, "sightOf", "(I)I"⟩
abbrev cX5_ofAnyMember : ByteArray := prog_7_method_8_code
def yX5_ofAnyMember : MethodName := ⟨RX5, "ofAnyMember", "(I)I"⟩
abbrev cX5_ofBody : ByteArray := prog_7_method_9_code
def yX5_ofBody : MethodName := ⟨RX5, "ofBody", "(ZZ)I"⟩
abbrev cX5_hasAny : ByteArray := prog_7_method_10_code
def yX5_hasAny : MethodName := ⟨RX5, "hasAny", "(II)Z"⟩
abbrev cX5_hasSeveral : ByteArray := prog_7_method_11_code
def yX5_hasSeveral : MethodName := ⟨RX5, "hasSeveral", "(II)Z"⟩
def RX6 : String := "FieldMember$Types"
def TX6 : u_T := fun k => match k with
  | 0 => ("FieldMember$Types", "sorts", "[I", true)
  | 1 => ("FieldMember$Types", "parents", "[I", true)
  | 2 => ("FieldMember$Types", "faces", "[I", true)
  | 3 => ("FieldMember$Types", "above", "[I", true)
  | _ => ("FieldMember$Types", "size", "I", false)
def tyX6 : Nat → FieldType := fun k => match k with
  | 0 => .array .int
  | 1 => .array .int
  | 2 => .array .int
  | 3 => .array .int
  | _ => .int
abbrev wsX60 : List Cond := u_ws RX6 TX6 5
theorem nmX6 : ∀ a, a < 5 → ∀ b, b < 5 → a ≠ b → (TX6 a).2.1 ≠ (TX6 b).2.1 := by decide +kernel
theorem tyX6_ok : ∀ k, k < 5 → parseFieldDescriptor (TX6 k).2.2.1 = some (tyX6 k) := by decide +kernel
abbrev cX6_init : ByteArray := prog_8_method_1_code
def yX6_init : MethodName := ⟨RX6, "<init>", "()V"⟩
abbrev cX6_has : ByteArray := prog_8_method_2_code
def yX6_has : MethodName := ⟨RX6, "has", "(I)Z"⟩
abbrev cX6_sortOf : ByteArray := prog_8_method_3_code
def yX6_sortOf : MethodName := ⟨RX6, "sortOf", "(I)I"⟩
abbrev cX6_parentOf : ByteArray := prog_8_method_4_code
def yX6_parentOf : MethodName := ⟨RX6, "parentOf", "(I)I"⟩
abbrev cX6_isFace : ByteArray := prog_8_method_5_code
def yX6_isFace : MethodName := ⟨RX6, "isFace", "(I)Z"⟩
abbrev cX6_mayBeParent : ByteArray := prog_8_method_6_code
def yX6_mayBeParent : MethodName := ⟨RX6, "mayBeParent", "(I)Z"⟩
abbrev cX6_mustLackNothing : ByteArray := prog_8_method_7_code
def yX6_mustLackNothing : MethodName := ⟨RX6, "mustLackNothing", "(I)Z"⟩
abbrev cX6_hasFace : ByteArray := prog_8_method_8_code
def yX6_hasFace : MethodName := ⟨RX6, "hasFace", "(II)Z"⟩
abbrev cX6_isBelow : ByteArray := prog_8_method_9_code
def yX6_isBelow : MethodName := ⟨RX6, "isBelow", "(II)Z"⟩
abbrev cX6_add : ByteArray := prog_8_method_10_code
def yX6_add : MethodName := ⟨RX6, "add", "(II)I"⟩
abbrev cX6_addFace : ByteArray := prog_8_method_11_code
def yX6_addFace : MethodName := ⟨RX6, "addFace", "(II)I"⟩
abbrev cX6_empty : ByteArray := prog_8_method_12_code
def yX6_empty : MethodName := ⟨RX6, "empty", "()V"⟩
abbrev cX6_allAbove : ByteArray := prog_8_method_13_code
def yX6_allAbove : MethodName := ⟨RX6, "allAbove", "(I)I"⟩
def RX7 : String := "FieldMember"
def TX7 : u_T := fun k => match k with
  | 0 => ("FieldMember", "types", "LFieldMember$Types;", true)
  | 1 => ("FieldMember", "entries", "[LFieldMember$Entry;", true)
  | 2 => ("FieldMember", "entryCount", "I", false)
  | 3 => ("FieldMember", "begun", "LFieldMember$Member;", false)
  | 4 => ("FieldMember", "arguments", "LFieldMember$Row;", true)
  | 5 => ("FieldMember", "latestWay", "I", false)
  | 6 => ("FieldMember", "brokenTimes", "[I", true)
  | 7 => ("FieldMember", "brokenInAll", "I", false)
  | 8 => ("FieldMember", "foundFields", "[I", true)
  | 9 => ("FieldMember", "candidates", "[Z", true)
  | _ => ("FieldMember", "fitting", "[Z", true)
def tyX7 : Nat → FieldType := fun k => match k with
  | 0 => .object "FieldMember$Types"
  | 1 => .array (.object "FieldMember$Entry")
  | 2 => .int
  | 3 => .object "FieldMember$Member"
  | 4 => .object "FieldMember$Row"
  | 5 => .int
  | 6 => .array .int
  | 7 => .int
  | 8 => .array .int
  | 9 => .array .boolean
  | _ => .array .boolean
abbrev wsX70 : List Cond := u_ws RX7 TX7 11
theorem nmX7 : ∀ a, a < 11 → ∀ b, b < 11 → a ≠ b → (TX7 a).2.1 ≠ (TX7 b).2.1 := by decide +kernel
theorem tyX7_ok : ∀ k, k < 11 → parseFieldDescriptor (TX7 k).2.2.1 = some (tyX7 k) := by decide +kernel
abbrev cX7_init : ByteArray := prog_1_method_1_code
def yX7_init : MethodName := ⟨RX7, "<init>", "()V"⟩
abbrev cX7_type : ByteArray := prog_1_method_2_code
def yX7_type : MethodName := ⟨RX7, "type", "(II)I"⟩
abbrev cX7_face : ByteArray := prog_1_method_3_code
def yX7_face : MethodName := ⟨RX7, "face", "(II)I"⟩
abbrev cX7_below : ByteArray := prog_1_method_4_code
def yX7_below : MethodName := ⟨RX7, "below", "(II)I"⟩
abbrev cX7_field : ByteArray := prog_1_method_5_code
def yX7_field : MethodName := ⟨RX7, "field", "(IIIII)I"⟩
abbrev cX7_constant : ByteArray := prog_1_method_6_code
def yX7_constant : MethodName := ⟨RX7, "constant", "(IJ)I"⟩
abbrev cX7_value : ByteArray := prog_1_method_7_code
def yX7_value : MethodName := ⟨RX7, "value", "(I)J"⟩
abbrev cX7_member : ByteArray := prog_1_method_8_code
def yX7_member : MethodName := ⟨RX7, "member", "(IIIIIZ)I"⟩
abbrev cX7_parameter : ByteArray := prog_1_method_9_code
def yX7_parameter : MethodName := ⟨RX7, "parameter", "(IIZ)I"⟩
abbrev cX7_end : ByteArray := prog_1_method_10_code
def yX7_end : MethodName := ⟨RX7, "end", "()I"⟩
abbrev cX7_entry : ByteArray := prog_1_method_11_code
def yX7_entry : MethodName := ⟨RX7, "entry", "(II)I"⟩
abbrev cX7_shape : ByteArray := prog_1_method_12_code
def yX7_shape : MethodName := ⟨RX7, "shape", "(II)I"⟩
abbrev cX7_parameterOf : ByteArray := prog_1_method_13_code
def yX7_parameterOf : MethodName := ⟨RX7, "parameterOf", "(IIZ)I"⟩
abbrev cX7_sought : ByteArray := prog_1_method_14_code
def yX7_sought : MethodName := ⟨RX7, "sought", "(II)I"⟩
abbrev cX7_argument : ByteArray := prog_1_method_15_code
def yX7_argument : MethodName := ⟨RX7, "argument", "(II)I"⟩
abbrev cX7_call : ByteArray := prog_1_method_16_code
def yX7_call : MethodName := ⟨RX7, "call", "(II)I"⟩
abbrev cX7_way : ByteArray := prog_1_method_17_code
def yX7_way : MethodName := ⟨RX7, "way", "()I"⟩
abbrev cX7_lacks : ByteArray := prog_1_method_18_code
def yX7_lacks : MethodName := ⟨RX7, "lacks", "(II)I"⟩
abbrev cX7_count : ByteArray := prog_1_method_19_code
def yX7_count : MethodName := ⟨RX7, "count", "(I)I"⟩
abbrev cX7_broken : ByteArray := prog_1_method_20_code
def yX7_broken : MethodName := ⟨RX7, "broken", "(I)I"⟩
abbrev cX7_clear : ByteArray := prog_1_method_21_code
def yX7_clear : MethodName := ⟨RX7, "clear", "()I"⟩
abbrev cX7_asNumber : ByteArray := prog_1_method_22_code
def yX7_asNumber : MethodName := ⟨RX7, "asNumber", "(Z)I"⟩
abbrev cX7_isName : ByteArray := prog_1_method_23_code
def yX7_isName : MethodName := ⟨RX7, "isName", "(I)Z"⟩
abbrev cX7_isUnknownKind : ByteArray := prog_1_method_24_code
def yX7_isUnknownKind : MethodName := ⟨RX7, "isUnknownKind", "(I)Z"⟩
abbrev cX7_areDims : ByteArray := prog_1_method_25_code
def yX7_areDims : MethodName := ⟨RX7, "areDims", "(I)Z"⟩
abbrev cX7_mayBeDeclared : ByteArray := prog_1_method_26_code
def yX7_mayBeDeclared : MethodName := ⟨RX7, "mayBeDeclared", "(II)Z"⟩
abbrev cX7_mayBeArgument : ByteArray := prog_1_method_27_code
def yX7_mayBeArgument : MethodName := ⟨RX7, "mayBeArgument", "(II)Z"⟩
abbrev cX7_refusalOfNew : ByteArray := prog_1_method_28_code
def yX7_refusalOfNew : MethodName := ⟨RX7, "refusalOfNew", "(IIIII)I"⟩
abbrev cX7_breakRule : ByteArray := prog_1_method_29_code
def yX7_breakRule : MethodName := ⟨RX7, "breakRule", "(I)I"⟩
abbrev cX7_entryAt : ByteArray := prog_1_method_30_code
def yX7_entryAt : MethodName := ⟨RX7, "entryAt", "(I)LFieldMember$Entry;"⟩
abbrev cX7_addEntry : ByteArray := prog_1_method_31_code
def yX7_addEntry : MethodName := ⟨RX7, "addEntry", "(LFieldMember$Entry;)I"⟩
abbrev cX7_ownField : ByteArray := prog_1_method_32_code
def yX7_ownField : MethodName := ⟨RX7, "ownField", "(II)I"⟩
abbrev cX7_isDeclaredTwice : ByteArray := prog_1_method_33_code
def yX7_isDeclaredTwice : MethodName := ⟨RX7, "isDeclaredTwice", "(LFieldMember$Member;)Z"⟩
abbrev cX7_ruleOfMeetings : ByteArray := prog_1_method_34_code
def yX7_ruleOfMeetings : MethodName := ⟨RX7, "ruleOfMeetings", "(LFieldMember$Member;)I"⟩
abbrev cX7_leastMet : ByteArray := prog_1_method_35_code
def yX7_leastMet : MethodName := ⟨RX7, "leastMet", "(LFieldMember$Member;)I"⟩
abbrev cX7_meets : ByteArray := prog_1_method_36_code
def yX7_meets : MethodName := ⟨RX7, "meets", "(LFieldMember$Member;LFieldMember$Member;)Z"⟩
abbrev cX7_isStaticOfFace : ByteArray := prog_1_method_37_code
def yX7_isStaticOfFace : MethodName := ⟨RX7, "isStaticOfFace", "(LFieldMember$Member;)Z"⟩
abbrev cX7_ruleOfMeeting : ByteArray := prog_1_method_38_code
def yX7_ruleOfMeeting : MethodName := ⟨RX7, "ruleOfMeeting", "(LFieldMember$Member;LFieldMember$Member;)I"⟩
abbrev cX7_mayStandForResult : ByteArray := prog_1_method_39_code
def yX7_mayStandForResult : MethodName := ⟨RX7, "mayStandForResult", "(LFieldMember$Member;LFieldMember$Member;)Z"⟩
abbrev cX7_areBelow : ByteArray := prog_1_method_40_code
def yX7_areBelow : MethodName := ⟨RX7, "areBelow", "(II)Z"⟩
abbrev cX7_fieldFoundIn : ByteArray := prog_1_method_41_code
def yX7_fieldFoundIn : MethodName := ⟨RX7, "fieldFoundIn", "(II)I"⟩
abbrev cX7_foundThroughParent : ByteArray := prog_1_method_42_code
def yX7_foundThroughParent : MethodName := ⟨RX7, "foundThroughParent", "(I)I"⟩
abbrev cX7_oneOfBoth : ByteArray := prog_1_method_43_code
def yX7_oneOfBoth : MethodName := ⟨RX7, "oneOfBoth", "(II)I"⟩
abbrev cX7_markCandidates : ByteArray := prog_1_method_44_code
def yX7_markCandidates : MethodName := ⟨RX7, "markCandidates", "(II)V"⟩
abbrev cX7_isReachedFrom : ByteArray := prog_1_method_45_code
def yX7_isReachedFrom : MethodName := ⟨RX7, "isReachedFrom", "(ILFieldMember$Member;)Z"⟩
abbrev cX7_markFitting : ByteArray := prog_1_method_46_code
def yX7_markFitting : MethodName := ⟨RX7, "markFitting", "(Z)Z"⟩
abbrev cX7_isStoodFor : ByteArray := prog_1_method_47_code
def yX7_isStoodFor : MethodName := ⟨RX7, "isStoodFor", "(LFieldMember$Member;)Z"⟩
abbrev cX7_takesArguments : ByteArray := prog_1_method_48_code
def yX7_takesArguments : MethodName := ⟨RX7, "takesArguments", "(LFieldMember$Member;Z)Z"⟩
abbrev cX7_mayTakeAsMany : ByteArray := prog_1_method_49_code
def yX7_mayTakeAsMany : MethodName := ⟨RX7, "mayTakeAsMany", "(LFieldMember$Member;Z)Z"⟩
abbrev cX7_nearestFitting : ByteArray := prog_1_method_50_code
def yX7_nearestFitting : MethodName := ⟨RX7, "nearestFitting", "(Z)I"⟩
abbrev cX7_isNearest : ByteArray := prog_1_method_51_code
def yX7_isNearest : MethodName := ⟨RX7, "isNearest", "(LFieldMember$Member;Z)Z"⟩
abbrev cX7_fitsPlaceByPlace : ByteArray := prog_1_method_52_code
def yX7_fitsPlaceByPlace : MethodName := ⟨RX7, "fitsPlaceByPlace", "(LFieldMember$Member;LFieldMember$Member;Z)Z"⟩
abbrev cX7_fits : ByteArray := prog_1_method_53_code
def yX7_fits : MethodName := ⟨RX7, "fits", "(IIII)Z"⟩
abbrev cX7_widens : ByteArray := prog_1_method_54_code
def yX7_widens : MethodName := ⟨RX7, "widens", "(II)Z"⟩
abbrev cX7_isLacking : ByteArray := prog_1_method_55_code
def yX7_isLacking : MethodName := ⟨RX7, "isLacking", "(ILFieldMember$Member;)Z"⟩
abbrev cX7_mayFill : ByteArray := prog_1_method_56_code
def yX7_mayFill : MethodName := ⟨RX7, "mayFill", "(LFieldMember$Member;)Z"⟩
def RX8 : String := "FieldMemberModel"
def TX8 : u_T := fun k => match k with
  | 0 => ("FieldMemberModel", "fault", "I", false)
  | 1 => ("FieldMemberModel", "types", "I", false)
  | 2 => ("FieldMemberModel", "sorts", "[I", true)
  | 3 => ("FieldMemberModel", "parents", "[I", true)
  | 4 => ("FieldMemberModel", "faces", "[I", true)
  | 5 => ("FieldMemberModel", "faceCount", "[I", true)
  | 6 => ("FieldMemberModel", "isBelow", "[Z", true)
  | 7 => ("FieldMemberModel", "entries", "I", false)
  | 8 => ("FieldMemberModel", "isMember", "[Z", true)
  | 9 => ("FieldMemberModel", "ofType", "[I", true)
  | 10 => ("FieldMemberModel", "names", "[I", true)
  | 11 => ("FieldMemberModel", "kinds", "[I", true)
  | 12 => ("FieldMemberModel", "dims", "[I", true)
  | 13 => ("FieldMemberModel", "marks", "[I", true)
  | 14 => ("FieldMemberModel", "isTold", "[Z", true)
  | 15 => ("FieldMemberModel", "told", "[J", true)
  | 16 => ("FieldMemberModel", "hasBody", "[Z", true)
  | 17 => ("FieldMemberModel", "isVaried", "[Z", true)
  | 18 => ("FieldMemberModel", "many", "[I", true)
  | 19 => ("FieldMemberModel", "partKinds", "[I", true)
  | 20 => ("FieldMemberModel", "partDims", "[I", true)
  | 21 => ("FieldMemberModel", "isBegun", "Z", false)
  | 22 => ("FieldMemberModel", "waits", "I", false)
  | 23 => ("FieldMemberModel", "argumentKinds", "[I", true)
  | 24 => ("FieldMemberModel", "argumentDims", "[I", true)
  | 25 => ("FieldMemberModel", "way", "I", false)
  | 26 => ("FieldMemberModel", "rulesBroken", "I", false)
  | 27 => ("FieldMemberModel", "broken", "[I", true)
  | 28 => ("FieldMemberModel", "met", "[I", true)
  | 29 => ("FieldMemberModel", "foundIn", "[I", true)
  | 30 => ("FieldMemberModel", "isCandidate", "[Z", true)
  | 31 => ("FieldMemberModel", "isFound", "[Z", true)
  | _ => ("FieldMemberModel", "isTaken", "[Z", true)
def tyX8 : Nat → FieldType := fun k => match k with
  | 0 => .int
  | 1 => .int
  | 2 => .array .int
  | 3 => .array .int
  | 4 => .array .int
  | 5 => .array .int
  | 6 => .array .boolean
  | 7 => .int
  | 8 => .array .boolean
  | 9 => .array .int
  | 10 => .array .int
  | 11 => .array .int
  | 12 => .array .int
  | 13 => .array .int
  | 14 => .array .boolean
  | 15 => .array .long
  | 16 => .array .boolean
  | 17 => .array .boolean
  | 18 => .array .int
  | 19 => .array .int
  | 20 => .array .int
  | 21 => .boolean
  | 22 => .int
  | 23 => .array .int
  | 24 => .array .int
  | 25 => .int
  | 26 => .int
  | 27 => .array .int
  | 28 => .array .int
  | 29 => .array .int
  | 30 => .array .boolean
  | 31 => .array .boolean
  | _ => .array .boolean
abbrev wsX80 : List Cond := u_ws RX8 TX8 33
theorem nmX8 : ∀ a, a < 33 → ∀ b, b < 33 → a ≠ b → (TX8 a).2.1 ≠ (TX8 b).2.1 := by decide +kernel
theorem tyX8_ok : ∀ k, k < 33 → parseFieldDescriptor (TX8 k).2.2.1 = some (tyX8 k) := by decide +kernel
abbrev cX8_init : ByteArray := prog_10_method_1_code
def yX8_init : MethodName := ⟨RX8, "<init>", "()V"⟩
abbrev cX8_thrown : ByteArray := prog_10_method_2_code
def yX8_thrown : MethodName := ⟨RX8, "thrown", "()I"⟩
abbrev cX8_in : ByteArray := prog_10_method_3_code
def yX8_in : MethodName := ⟨RX8, "in", "(III)Z"⟩
abbrev cX8_isType : ByteArray := prog_10_method_4_code
def yX8_isType : MethodName := ⟨RX8, "isType", "(I)Z"⟩
abbrev cX8_isFace : ByteArray := prog_10_method_5_code
def yX8_isFace : MethodName := ⟨RX8, "isFace", "(I)Z"⟩
abbrev cX8_breaks : ByteArray := prog_10_method_6_code
def yX8_breaks : MethodName := ⟨RX8, "breaks", "(I)I"⟩
abbrev cX8_bits : ByteArray := prog_10_method_7_code
def yX8_bits : MethodName := ⟨RX8, "bits", "(I)I"⟩
abbrev cX8_type : ByteArray := prog_10_method_8_code
def yX8_type : MethodName := ⟨RX8, "type", "(II)I"⟩
abbrev cX8_reckons : ByteArray := prog_10_method_9_code
def yX8_reckons : MethodName := ⟨RX8, "reckons", "(I)V"⟩
abbrev cX8_adds : ByteArray := prog_10_method_10_code
def yX8_adds : MethodName := ⟨RX8, "adds", "(II)V"⟩
abbrev cX8_face : ByteArray := prog_10_method_11_code
def yX8_face : MethodName := ⟨RX8, "face", "(II)I"⟩
abbrev cX8_lies : ByteArray := prog_10_method_12_code
def yX8_lies : MethodName := ⟨RX8, "lies", "(II)Z"⟩
abbrev cX8_below : ByteArray := prog_10_method_13_code
def yX8_below : MethodName := ⟨RX8, "below", "(II)I"⟩
abbrev cX8_noKind : ByteArray := prog_10_method_14_code
def yX8_noKind : MethodName := ⟨RX8, "noKind", "(I)Z"⟩
abbrev cX8_refusal : ByteArray := prog_10_method_15_code
def yX8_refusal : MethodName := ⟨RX8, "refusal", "(IIIII)I"⟩
abbrev cX8_field : ByteArray := prog_10_method_16_code
def yX8_field : MethodName := ⟨RX8, "field", "(IIIII)I"⟩
abbrev cX8_ruleOfField : ByteArray := prog_10_method_17_code
def yX8_ruleOfField : MethodName := ⟨RX8, "ruleOfField", "(IIII)I"⟩
abbrev cX8_fieldOf : ByteArray := prog_10_method_18_code
def yX8_fieldOf : MethodName := ⟨RX8, "fieldOf", "(II)I"⟩
abbrev cX8_lays : ByteArray := prog_10_method_19_code
def yX8_lays : MethodName := ⟨RX8, "lays", "(IIIII)V"⟩
abbrev cX8_isEntry : ByteArray := prog_10_method_20_code
def yX8_isEntry : MethodName := ⟨RX8, "isEntry", "(I)Z"⟩
abbrev cX8_constant : ByteArray := prog_10_method_21_code
def yX8_constant : MethodName := ⟨RX8, "constant", "(IJ)I"⟩
abbrev cX8_value : ByteArray := prog_10_method_22_code
def yX8_value : MethodName := ⟨RX8, "value", "(I)J"⟩
abbrev cX8_member : ByteArray := prog_10_method_23_code
def yX8_member : MethodName := ⟨RX8, "member", "(IIIIIZ)I"⟩
abbrev cX8_ruleOfMember : ByteArray := prog_10_method_24_code
def yX8_ruleOfMember : MethodName := ⟨RX8, "ruleOfMember", "(IIZ)I"⟩
abbrev cX8_parameter : ByteArray := prog_10_method_25_code
def yX8_parameter : MethodName := ⟨RX8, "parameter", "(IIZ)I"⟩
abbrev cX8_sameParts : ByteArray := prog_10_method_26_code
def yX8_sameParts : MethodName := ⟨RX8, "sameParts", "(II)Z"⟩
abbrev cX8_stands : ByteArray := prog_10_method_27_code
def yX8_stands : MethodName := ⟨RX8, "stands", "(I)Z"⟩
abbrev cX8_meets : ByteArray := prog_10_method_28_code
def yX8_meets : MethodName := ⟨RX8, "meets", "(II)Z"⟩
abbrev cX8_seen : ByteArray := prog_10_method_29_code
def yX8_seen : MethodName := ⟨RX8, "seen", "(I)I"⟩
abbrev cX8_ruleAgainst : ByteArray := prog_10_method_30_code
def yX8_ruleAgainst : MethodName := ⟨RX8, "ruleAgainst", "(II)I"⟩
abbrev cX8_end : ByteArray := prog_10_method_31_code
def yX8_end : MethodName := ⟨RX8, "end", "()I"⟩
abbrev cX8_entry : ByteArray := prog_10_method_32_code
def yX8_entry : MethodName := ⟨RX8, "entry", "(II)I"⟩
abbrev cX8_leastMet : ByteArray := prog_10_method_33_code
def yX8_leastMet : MethodName := ⟨RX8, "leastMet", "(I)I"⟩
abbrev cX8_shape : ByteArray := prog_10_method_34_code
def yX8_shape : MethodName := ⟨RX8, "shape", "(II)I"⟩
abbrev cX8_parameterOf : ByteArray := prog_10_method_35_code
def yX8_parameterOf : MethodName := ⟨RX8, "parameterOf", "(IIZ)I"⟩
abbrev cX8_both : ByteArray := prog_10_method_36_code
def yX8_both : MethodName := ⟨RX8, "both", "(II)I"⟩
abbrev cX8_sought : ByteArray := prog_10_method_37_code
def yX8_sought : MethodName := ⟨RX8, "sought", "(II)I"⟩
abbrev cX8_argument : ByteArray := prog_10_method_38_code
def yX8_argument : MethodName := ⟨RX8, "argument", "(II)I"⟩
abbrev cX8_widens : ByteArray := prog_10_method_39_code
def yX8_widens : MethodName := ⟨RX8, "widens", "(II)Z"⟩
abbrev cX8_fits : ByteArray := prog_10_method_40_code
def yX8_fits : MethodName := ⟨RX8, "fits", "(IIII)Z"⟩
abbrev cX8_candidates : ByteArray := prog_10_method_41_code
def yX8_candidates : MethodName := ⟨RX8, "candidates", "(II)V"⟩
abbrev cX8_kindAt : ByteArray := prog_10_method_42_code
def yX8_kindAt : MethodName := ⟨RX8, "kindAt", "(IIZ)I"⟩
abbrev cX8_dimAt : ByteArray := prog_10_method_43_code
def yX8_dimAt : MethodName := ⟨RX8, "dimAt", "(IIZ)I"⟩
abbrev cX8_takes : ByteArray := prog_10_method_44_code
def yX8_takes : MethodName := ⟨RX8, "takes", "(IZ)Z"⟩
abbrev cX8_isNearer : ByteArray := prog_10_method_45_code
def yX8_isNearer : MethodName := ⟨RX8, "isNearer", "(IIZ)Z"⟩
abbrev cX8_nearest : ByteArray := prog_10_method_46_code
def yX8_nearest : MethodName := ⟨RX8, "nearest", "(Z)I"⟩
abbrev cX8_call : ByteArray := prog_10_method_47_code
def yX8_call : MethodName := ⟨RX8, "call", "(II)I"⟩
abbrev cX8_way : ByteArray := prog_10_method_48_code
def yX8_way : MethodName := ⟨RX8, "way", "()I"⟩
abbrev cX8_makes : ByteArray := prog_10_method_49_code
def yX8_makes : MethodName := ⟨RX8, "makes", "(III)Z"⟩
abbrev cX8_isLacked : ByteArray := prog_10_method_50_code
def yX8_isLacked : MethodName := ⟨RX8, "isLacked", "(II)Z"⟩
abbrev cX8_lacks : ByteArray := prog_10_method_51_code
def yX8_lacks : MethodName := ⟨RX8, "lacks", "(II)I"⟩
abbrev cX8_count : ByteArray := prog_10_method_52_code
def yX8_count : MethodName := ⟨RX8, "count", "(I)I"⟩
abbrev cX8_broken : ByteArray := prog_10_method_53_code
def yX8_broken : MethodName := ⟨RX8, "broken", "(I)I"⟩
abbrev cX8_clear : ByteArray := prog_10_method_54_code
def yX8_clear : MethodName := ⟨RX8, "clear", "()I"⟩
def RJx00060 : String := "java/lang/ArrayIndexOutOfBoundsException"
def TJx00060 : u_T := fun k => match k with
  | 0 => ("java/lang/Throwable", "backtrace", "Ljava/lang/Object;", false)
  | 1 => ("java/lang/Throwable", "detailMessage", "Ljava/lang/String;", false)
  | 2 => ("java/lang/Throwable", "cause", "Ljava/lang/Throwable;", false)
  | 3 => ("java/lang/Throwable", "stackTrace", "[Ljava/lang/StackTraceElement;", false)
  | 4 => ("java/lang/Throwable", "depth", "I", false)
  | _ => ("java/lang/Throwable", "suppressedExceptions", "Ljava/util/List;", false)
def tyJx00060 : Nat → FieldType := fun k => match k with
  | 0 => .object "java/lang/Object"
  | 1 => .object "java/lang/String"
  | 2 => .object "java/lang/Throwable"
  | 3 => .array (.object "java/lang/StackTraceElement")
  | 4 => .int
  | _ => .object "java/util/List"
abbrev wsJx000600 : List Cond := u_ws RJx00060 TJx00060 6
theorem nmJx00060 : ∀ a, a < 6 → ∀ b, b < 6 → a ≠ b → (TJx00060 a).2.1 ≠ (TJx00060 b).2.1 := by decide +kernel
theorem tyJx00060_ok : ∀ k, k < 6 → parseFieldDescriptor (TJx00060 k).2.2.1 = some (tyJx00060 k) := by decide +kernel
abbrev cJx00060_init_a7421 : ByteArray := prog_11_method_2_code
def yJx00060_init_a7421 : MethodName := ⟨RJx00060, "<init>", "(Ljava/lang/String;)V"⟩
def RJx3273f : String := "java/lang/ClassCastException"
def TJx3273f : u_T := fun k => match k with
  | 0 => ("java/lang/Throwable", "backtrace", "Ljava/lang/Object;", false)
  | 1 => ("java/lang/Throwable", "detailMessage", "Ljava/lang/String;", false)
  | 2 => ("java/lang/Throwable", "cause", "Ljava/lang/Throwable;", false)
  | 3 => ("java/lang/Throwable", "stackTrace", "[Ljava/lang/StackTraceElement;", false)
  | 4 => ("java/lang/Throwable", "depth", "I", false)
  | _ => ("java/lang/Throwable", "suppressedExceptions", "Ljava/util/List;", false)
def tyJx3273f : Nat → FieldType := fun k => match k with
  | 0 => .object "java/lang/Object"
  | 1 => .object "java/lang/String"
  | 2 => .object "java/lang/Throwable"
  | 3 => .array (.object "java/lang/StackTraceElement")
  | 4 => .int
  | _ => .object "java/util/List"
abbrev wsJx3273f0 : List Cond := u_ws RJx3273f TJx3273f 6
theorem nmJx3273f : ∀ a, a < 6 → ∀ b, b < 6 → a ≠ b → (TJx3273f a).2.1 ≠ (TJx3273f b).2.1 := by decide +kernel
theorem tyJx3273f_ok : ∀ k, k < 6 → parseFieldDescriptor (TJx3273f k).2.2.1 = some (tyJx3273f k) := by decide +kernel
abbrev cJx3273f_init_a7421 : ByteArray := prog_12_method_2_code
def yJx3273f_init_a7421 : MethodName := ⟨RJx3273f, "<init>", "(Ljava/lang/String;)V"⟩
def RJxe99ae : String := "java/lang/Double"
def TJxe99ae : u_T := fun k => match k with
  | _ => ("", "", "", false)
def tyJxe99ae : Nat → FieldType := fun k => match k with
  | _ => .int
abbrev wsJxe99ae0 : List Cond := u_ws RJxe99ae TJxe99ae 0
theorem nmJxe99ae : ∀ a, a < 0 → ∀ b, b < 0 → a ≠ b → (TJxe99ae a).2.1 ≠ (TJxe99ae b).2.1 := by decide +kernel
theorem tyJxe99ae_ok : ∀ k, k < 0 → parseFieldDescriptor (TJxe99ae k).2.2.1 = some (tyJxe99ae k) := by decide +kernel
abbrev cJxe99ae_isNaN_b9ae7 : ByteArray := prog_13_method_6_code
def yJxe99ae_isNaN_b9ae7 : MethodName := ⟨RJxe99ae, "isNaN", "(D)Z"⟩
abbrev cJxe99ae_doubleToLongBits_ccdee : ByteArray := prog_13_method_23_code
def yJxe99ae_doubleToLongBits_ccdee : MethodName := ⟨RJxe99ae, "doubleToLongBits", "(D)J"⟩
def RJxf58ca : String := "java/lang/Float"
def TJxf58ca : u_T := fun k => match k with
  | _ => ("", "", "", false)
def tyJxf58ca : Nat → FieldType := fun k => match k with
  | _ => .int
abbrev wsJxf58ca0 : List Cond := u_ws RJxf58ca TJxf58ca 0
theorem nmJxf58ca : ∀ a, a < 0 → ∀ b, b < 0 → a ≠ b → (TJxf58ca a).2.1 ≠ (TJxf58ca b).2.1 := by decide +kernel
theorem tyJxf58ca_ok : ∀ k, k < 0 → parseFieldDescriptor (TJxf58ca k).2.2.1 = some (tyJxf58ca k) := by decide +kernel
abbrev cJxf58ca_isNaN_12338 : ByteArray := prog_15_method_6_code
def yJxf58ca_isNaN_12338 : MethodName := ⟨RJxf58ca, "isNaN", "(F)Z"⟩
abbrev cJxf58ca_floatToIntBits_5c35a : ByteArray := prog_15_method_24_code
def yJxf58ca_floatToIntBits_5c35a : MethodName := ⟨RJxf58ca, "floatToIntBits", "(F)I"⟩
def RJ6 : String := "java/lang/Integer"
def TJ6 : u_T := fun k => match k with
  | _ => ("", "", "", false)
def tyJ6 : Nat → FieldType := fun k => match k with
  | _ => .int
abbrev wsJ60 : List Cond := u_ws RJ6 TJ6 0
theorem nmJ6 : ∀ a, a < 0 → ∀ b, b < 0 → a ≠ b → (TJ6 a).2.1 ≠ (TJ6 b).2.1 := by decide +kernel
theorem tyJ6_ok : ∀ k, k < 0 → parseFieldDescriptor (TJ6 k).2.2.1 = some (tyJ6 k) := by decide +kernel
abbrev cJ6_bitCount_0f7a4 : ByteArray := prog_17_method_49_code
def yJ6_bitCount_0f7a4 : MethodName := ⟨RJ6, "bitCount", "(I)I"⟩
def RJ9 : String := "java/lang/Math"
def TJ9 : u_T := fun k => match k with
  | _ => ("", "", "", false)
def tyJ9 : Nat → FieldType := fun k => match k with
  | _ => .int
abbrev wsJ90 : List Cond := u_ws RJ9 TJ9 0
theorem nmJ9 : ∀ a, a < 0 → ∀ b, b < 0 → a ≠ b → (TJ9 a).2.1 ≠ (TJ9 b).2.1 := by decide +kernel
theorem tyJ9_ok : ∀ k, k < 0 → parseFieldDescriptor (TJ9 k).2.2.1 = some (tyJ9 k) := by decide +kernel
abbrev cJ9_max_7cf53 : ByteArray := prog_18_method_65_code
def yJ9_max_7cf53 : MethodName := ⟨RJ9, "max", "(II)I"⟩
def RJ0 : String := "java/lang/String"
def TJ0 : u_T := fun k => match k with
  | 0 => ("java/lang/String", "value", "[B", true)
  | _ => ("java/lang/String", "coder", "B", true)
def tyJ0 : Nat → FieldType := fun k => match k with
  | 0 => .array .byte
  | _ => .byte
abbrev wsJ00 : List Cond := u_ws RJ0 TJ0 2
theorem nmJ0 : ∀ a, a < 2 → ∀ b, b < 2 → a ≠ b → (TJ0 a).2.1 ≠ (TJ0 b).2.1 := by decide +kernel
theorem tyJ0_ok : ∀ k, k < 2 → parseFieldDescriptor (TJ0 k).2.2.1 = some (tyJ0 k) := by decide +kernel
def RL : String := "FieldMemberLaw"
abbrev cL_value : ByteArray := method_3_code
def yL_value : MethodName := ⟨RL, "value", "(LFieldMember;I[J)I"⟩
abbrev cL_parameterOf : ByteArray := method_4_code
def yL_parameterOf : MethodName := ⟨RL, "parameterOf", "(LFieldMember;IIZ[J)I"⟩
abbrev cL_law : ByteArray := code
def yL_law : MethodName := ⟨RL, "law", "([I)Z"⟩
abbrev vwCl : List vw_C := [(RJ0, TJ0, 2), (RJx00060, TJx00060, 6), (RJx3273f, TJx3273f, 6), (RX2, TX2, 7), (RX3, TX3, 9), (RX4, TX4, 3), (RX6, TX6, 5), (RX7, TX7, 11), (RX8, TX8, 33)]
end
section
-- the tables' good words, one list for all methods
def TT : List Cond := lw_tbl.filter goodWord
theorem tt_of {w : Cond} (h : w ∈ lw_tbl) (g : goodWord w = true) : w ∈ TT := List.mem_filter.mpr ⟨h, g⟩
theorem tt_t {w : Cond} {i : Nat} (h : tables_1[i]? = some w) (g : goodWord w = true) : w ∈ TT := tt_of (List.mem_append_right _ (List.mem_of_getElem? h)) g
theorem tt_s {w : Cond} {i : Nat} (h : (k2_sels lw_privs)[i]? = some w) (g : goodWord w = true) : w ∈ TT := tt_of (List.mem_append_left _ (List.mem_of_getElem? h)) g
theorem tt_good {ws : List Cond} (h : ∀ w ∈ ws, w ∈ TT) : GoodIn TT ws := fun w hw => ⟨h w hw, good_of_word (List.mem_filter.mp (h w hw)).2⟩
theorem tt_goodL {ws : List Cond} (h : ∀ w ∈ ws, w ∈ TT) : GoodIn lw_tbl ws := fun w hw => ⟨(List.mem_filter.mp (h w hw)).1, good_of_word (List.mem_filter.mp (h w hw)).2⟩
theorem tt_c {w : Cond} {ws : List Cond} (h : w ∈ TT) (t : ∀ w ∈ ws, w ∈ TT) : ∀ w' ∈ w :: ws, w' ∈ TT := fun w' h' => (List.mem_cons.mp h').elim (fun e => by rw [e]; exact h) (t w')
theorem tt_S {own : String} {idx : Nat} {y : MethodName} {c : Cond} (h1 : Cond.methodLink own idx y ∈ TT) (h2 : Cond.static y ∈ TT) (h3 : Cond.initialized y.cls ∈ TT) (h4 : c ∈ TT) : GoodIn TT (va_wsS own idx y (c :: TT)) := tt_good (tt_c h1 (tt_c h2 (tt_c h3 (tt_c h4 (fun _ h => h)))))
theorem tt_V {own C : String} {idx : Nat} {y : MethodName} {c : Cond} (h1 : Cond.methodLink own idx y ∈ TT) (h2 : Cond.instanceMethod y ∈ TT) (h3 : Cond.selects C y y ∈ TT) (h4 : Cond.initialized C ∈ TT) (h5 : c ∈ TT) : GoodIn TT (wsV own idx C y (c :: TT)) := tt_good (tt_c h1 (tt_c h2 (tt_c h3 (tt_c h4 (tt_c h5 (fun _ h => h))))))
theorem tt_I {c : Cond} (h5 : c ∈ TT) : GoodIn TT (c :: TT) := tt_good (tt_c h5 (fun _ h => h))
abbrev ww (y : MethodName) (cc : ByteArray) (n : Nat) (r : Option FieldType) : List Cond := .code y cc n r :: TT
abbrev rmD (d : Nat) : Room := { frames := d, cells := 0, slots := 0, locals := 40 * d }
abbrev rmC (d mc ms : Nat) : Room := { frames := d, cells := mc, slots := ms, locals := 40 * d }
-- the array classes, and what the tables say beside the good words
abbrev tyG (G : Nat → ClassId) : List (ClassId × FieldType) := [(G 0, .int), (G 1, .long), (G 2, .boolean), (G 3, .object "FieldMember$Entry")]
def XN (U : State) : Prop := va_Nw (.castable "FieldMember$Field" "FieldMember$Field") U ∧ va_Nw (.castable "FieldMember$Member" "FieldMember$Member") U ∧ va_Nw (.castable "FieldMember$Field" "FieldMember$Entry") U ∧ va_Nw (.castable "FieldMember$Member" "FieldMember$Entry") U ∧ va_Nc "FieldMember$Field" "FieldMember$Member" U ∧ va_Nc "FieldMember$Member" "FieldMember$Field" U ∧ va_Nw (.methodLinkNest "FieldMember" 11 ⟨"FieldMember$Types", "<init>", "()V"⟩ "FieldMember") U ∧ va_Nw (.methodLinkNest "FieldMember" 24 ⟨"FieldMember$Row", "<init>", "()V"⟩ "FieldMember") U ∧ va_Nw (.methodLinkNest "FieldMember$Member" 17 ⟨"FieldMember$Row", "<init>", "()V"⟩ "FieldMember") U ∧ va_AO "FieldMember$Entry" U
theorem XN.warm {s U : State} (hW : s.WarmedH U.vm) (h : XN s) : XN U := by
  obtain ⟨h1, h2, h3, h4, h5, h6, h7, h8, h9, h10⟩ := h
  exact ⟨h1.warmC hW, h2.warmC hW, h3.warmC hW, h4.warmC hW, h5.moved hW.alike, h6.moved hW.alike, h7.warmM hW, h8.warmM hW, h9.warmM hW, h10.moved hW.alike⟩
def KK (D : va_G) (G : Nat → ClassId) (U : State) : Prop := va_K D vwCl (tyG G) U ∧ XN U
theorem KK.warm {D : va_G} {G : Nat → ClassId} {s U : State} (hW : s.WarmedH U.vm) (h : KK D G s) : KK D G U := ⟨va_K.moved hW.alike h.1, h.2.warm hW⟩
theorem KK.call {D : va_G} {G : Nat → ClassId} {U : State} {g : JFrame} {mk : MethodId} {a : Array Value} (h : KK D G U) : KK D G (U.calling g mk a) := h
-- a start that only names the heap
abbrev roP (D : va_G) (G : Nat → ClassId) (H : Heap) (As : List Value) : Array Value → State → Prop := va_Pc As (fun U => U.heap = H ∧ KK D G U)
section RO
variable {p : Program} {l : Launch} {e : Env} {R : Room} {s : State} {m : MethodId} {args : Array Value} {below : List Frame} {meth : Method} {c : Code} {H : Heap} {locs : List Loc} {cells slots : Nat} {Q : State → Prop}
variable {cc : ByteArray} {pc : Nat} {ls : Array Slot} {rest st : List Value} {D : va_G} {G : Nat → ClassId} {y : MethodName} {bytes : ByteArray} {maxL nL n idx d : Nat} {ret : Option FieldType} {As : List Value} {own C : String} {b : Nat}
theorem ro_pre (hK : KK D G s) : PreS s H (roP D G H As) As := ⟨fun _ _ _ _ q => ⟨q.1, q.2.1, q.2.2.call⟩, fun _ hU hW => ⟨rfl, hU, hK.warm hW⟩⟩
theorem ro_Si {post : Int32 → Prop} (S : CallFix p m c cc nL s args TT own) (hM : Met l y (.code y bytes maxL ret :: TT) (rmD d) (roP D G H As) (vp_Si post) 0 0 (fun _ => False)) (g : GoodIn TT (va_wsS own idx y (.code y bytes maxL ret :: TT)))
    (hd : y.cls ≠ "java/lang/invoke/MethodHandle" ∧ y.cls ≠ "java/lang/invoke/VarHandle" ∧ (parseMethodDescriptor y.desc).map (fun d => d.parameters.length) = some n) (hR : d + 1 ≤ R.frames ∧ 8 + (maxL + 11) + 40 * d ≤ R.locals) (hK : KK D G s) (hn : As.length = n) (hsize : ls.size = nL) (hstack : st = As.reverse ++ rest) (hW : (rest.map fun v => v.category).sum ≤ 8) (hdg : decode cc pc = .ok (.invokestatic idx, 3)) (hc : cells ≤ R.cells ∧ slots ≤ R.slots)
    (kk : ∀ r : Int32, post r → W p l e R s m args below meth c H locs cells slots Q (F0 m (pc + 3) ls (.int r :: rest))) : W p l e R s m args below meth c H locs cells slots Q (F0 m pc ls st) :=
  vp_callSi (W.runS S hM (va_cwS n S.2.2.2.2 g rfl rfl rfl hd hR) (ro_pre hK) rfl hn hsize hstack (lv_room hW) hdg hc) kk
theorem ro_Sl {post : Int64 → Prop} (S : CallFix p m c cc nL s args TT own) (hM : Met l y (.code y bytes maxL ret :: TT) (rmD d) (roP D G H As) (vp_Sl post) 0 0 (fun _ => False)) (g : GoodIn TT (va_wsS own idx y (.code y bytes maxL ret :: TT)))
    (hd : y.cls ≠ "java/lang/invoke/MethodHandle" ∧ y.cls ≠ "java/lang/invoke/VarHandle" ∧ (parseMethodDescriptor y.desc).map (fun d => d.parameters.length) = some n) (hR : d + 1 ≤ R.frames ∧ 8 + (maxL + 11) + 40 * d ≤ R.locals) (hK : KK D G s) (hn : As.length = n) (hsize : ls.size = nL) (hstack : st = As.reverse ++ rest) (hW : (rest.map fun v => v.category).sum ≤ 8) (hdg : decode cc pc = .ok (.invokestatic idx, 3)) (hc : cells ≤ R.cells ∧ slots ≤ R.slots)
    (kk : ∀ r : Int64, post r → W p l e R s m args below meth c H locs cells slots Q (F0 m (pc + 3) ls (.long r :: rest))) : W p l e R s m args below meth c H locs cells slots Q (F0 m pc ls st) :=
  vp_callSl (W.runS S hM (va_cwS n S.2.2.2.2 g rfl rfl rfl hd hR) (ro_pre hK) rfl hn hsize hstack (lv_room hW) hdg hc) kk
theorem ro_Vi {post : Int32 → Prop} (S : CallFix p m c cc nL s args TT own) (hM : Met l y (.code y bytes maxL ret :: TT) (rmD d) (roP D G H (.ref b :: As)) (vp_Si post) 0 0 (fun _ => False)) (g : GoodIn TT (wsV own idx C y (.code y bytes maxL ret :: TT)))
    (hd : y.cls = C ∧ y.cls ≠ "java/lang/invoke/MethodHandle" ∧ y.cls ≠ "java/lang/invoke/VarHandle" ∧ (parseMethodDescriptor y.desc).map (fun d => d.parameters.length) = some n) (hR : d + 1 ≤ R.frames ∧ 8 + (maxL + 11) + 40 * d ≤ R.locals) (hK : KK D G s) (hrv : ∃ cellB : Cell, H[b]? = some cellB ∧ cellB.vm.isStatics = false ∧ s.vm.findClass C = some cellB.cls) (hn : As.length = n) (hsize : ls.size = nL) (hstack : st = As.reverse ++ .ref b :: rest) (hW : (rest.map fun v => v.category).sum ≤ 8) (hdg : decode cc pc = .ok (.invokevirtual idx, 3)) (hc : cells ≤ R.cells ∧ slots ≤ R.slots)
    (kk : ∀ r : Int32, post r → W p l e R s m args below meth c H locs cells slots Q (F0 m (pc + 3) ls (.int r :: rest))) : W p l e R s m args below meth c H locs cells slots Q (F0 m pc ls st) :=
  vp_callSi (W.runV S hM (cwV n S.2.2.2.2 g rfl rfl rfl hd hR) ⟨(ro_pre (As := .ref b :: As) hK).1, hrv, (ro_pre hK).2⟩ rfl hn hsize hstack (lv_room hW) hdg hc) kk
theorem ro_Vq {post : Option Nat → Prop} (S : CallFix p m c cc nL s args TT own) (hM : Met l y (.code y bytes maxL ret :: TT) (rmD d) (roP D G H (.ref b :: As)) (va_Sq post) 0 0 (fun _ => False)) (g : GoodIn TT (wsV own idx C y (.code y bytes maxL ret :: TT)))
    (hd : y.cls = C ∧ y.cls ≠ "java/lang/invoke/MethodHandle" ∧ y.cls ≠ "java/lang/invoke/VarHandle" ∧ (parseMethodDescriptor y.desc).map (fun d => d.parameters.length) = some n) (hR : d + 1 ≤ R.frames ∧ 8 + (maxL + 11) + 40 * d ≤ R.locals) (hK : KK D G s) (hrv : ∃ cellB : Cell, H[b]? = some cellB ∧ cellB.vm.isStatics = false ∧ s.vm.findClass C = some cellB.cls) (hn : As.length = n) (hsize : ls.size = nL) (hstack : st = As.reverse ++ .ref b :: rest) (hW : (rest.map fun v => v.category).sum ≤ 8) (hdg : decode cc pc = .ok (.invokevirtual idx, 3)) (hc : cells ≤ R.cells ∧ slots ≤ R.slots)
    (kk : ∀ r : Option Nat, post r → W p l e R s m args below meth c H locs cells slots Q (F0 m (pc + 3) ls (va_rf r :: rest))) : W p l e R s m args below meth c H locs cells slots Q (F0 m pc ls st) :=
  va_csq (W.runV S hM (cwV n S.2.2.2.2 g rfl rfl rfl hd hR) ⟨(ro_pre (As := .ref b :: As) hK).1, hrv, (ro_pre hK).2⟩ rfl hn hsize hstack (lv_room hW) hdg hc) kk
-- ends of a method that only reads
theorem ro_iret {v : Int32} {post : Int32 → Prop} {free : Addr → Prop} (hx : p.tables.exec = Jvm.exec) (hb : c.code = cc) (hr : meth.sig.returnType = some .int) (hH : s.heap = H) (hlocks : meth.locks = false) (hdg : decode cc pc = .ok (.ireturn, 1)) (hp : post v) : W p l e R s m args below meth c H [] cells slots (MQ below (vp_Si post) args s cells slots free) (F0 m pc ls [.int v]) :=
  W.iret hx hb hr (fun t ht _ => ⟨v, rfl, hp, ht.trans hH.symm⟩) (fun _ h => nomatch h) hdg hlocks
theorem ro_zret {v : Int32} {post : Int32 → Prop} {free : Addr → Prop} (hx : p.tables.exec = Jvm.exec) (hb : c.code = cc) (hr : meth.sig.returnType = some .boolean) (hH : s.heap = H) (hlocks : meth.locks = false) (hdg : decode cc pc = .ok (.ireturn, 1)) (hv : v = 0 ∨ v = 1) (hp : post v) : W p l e R s m args below meth c H [] cells slots (MQ below (vp_Si post) args s cells slots free) (F0 m pc ls [.int v]) :=
  W.zret hx hb hr (by rcases hv with rfl | rfl <;> rfl) (fun t ht _ => ⟨v, rfl, hp, ht.trans hH.symm⟩) (fun _ h => nomatch h) hdg hlocks
theorem ro_lret {v : Int64} {post : Int64 → Prop} {free : Addr → Prop} (hx : p.tables.exec = Jvm.exec) (hb : c.code = cc) (hr : meth.sig.returnType = some .long) (hH : s.heap = H) (hlocks : meth.locks = false) (hdg : decode cc pc = .ok (.lreturn, 1)) (hp : post v) : W p l e R s m args below meth c H [] cells slots (MQ below (vp_Sl post) args s cells slots free) (F0 m pc ls [.long v]) :=
  W.lret hx hb hr (fun t ht _ => ⟨v, rfl, hp, ht.trans hH.symm⟩) (fun _ h => nomatch h) hdg hlocks
-- array places by naturals
variable {A : Nat → Prop} {a : Nat} {tys : List (ClassId × FieldType)} {ws : va_W} {H0 : Heap} {cl : List vw_C}
theorem in_n {i : Int32} {j n : Nat} (hi : i = nI j) (hj : j < n) (hn : n < 2 ^ 31) : vp_in i n ∧ i.toNatClampNeg = j := by
  subst hi; exact ⟨vp_in_nI hj hn, nI_clamp (by omega)⟩
theorem iald_n (hx : p.tables.exec = Jvm.exec) (hb : c.code = cc) (hK : va_K D cl tys s) (hP : va_P D cl ws H) (q0 t0 : Nat) {cA : ClassId} {n : Nat} {f : Nat → Int32} (ha : ws[q0]? = some (a, .inl (cA, n, .inl f))) (ht : tys[t0]? = some (cA, .int)) {i : Int32} (j : Nat) (hi : i = nI j) (hj : j < n) (hn : n < 2 ^ 31) (hdg : decode cc pc = .ok (.iaload, 1))
    (kk : W p l e R s m args below meth c H locs cells slots Q (F0 m (pc + 1) ls (.int (f j) :: rest))) : W p l e R s m args below meth c H locs cells slots Q (F0 m pc ls (.int i :: .ref a :: rest)) :=
  va_iald hx hb hK hP q0 t0 ha ht (in_n hi hj hn).1 hdg (by rw [(in_n hi hj hn).2]; exact kk)
theorem zald_n (hx : p.tables.exec = Jvm.exec) (hb : c.code = cc) (hK : va_K D cl tys s) (hP : va_P D cl ws H) (q0 t0 : Nat) {cA : ClassId} {n : Nat} {f : Nat → Int32} (ha : ws[q0]? = some (a, .inl (cA, n, .inl f))) (ht : tys[t0]? = some (cA, .boolean)) {i : Int32} (j : Nat) (hi : i = nI j) (hj : j < n) (hn : n < 2 ^ 31) (hdg : decode cc pc = .ok (.baload, 1))
    (kk : W p l e R s m args below meth c H locs cells slots Q (F0 m (pc + 1) ls (.int (f j) :: rest))) : W p l e R s m args below meth c H locs cells slots Q (F0 m pc ls (.int i :: .ref a :: rest)) :=
  va_zald hx hb hK hP q0 t0 ha ht (in_n hi hj hn).1 hdg (by rw [(in_n hi hj hn).2]; exact kk)
theorem lald_n (hx : p.tables.exec = Jvm.exec) (hb : c.code = cc) (hK : va_K D cl tys s) (hP : va_P D cl ws H) (q0 t0 : Nat) {cA : ClassId} {n : Nat} {f : Nat → Int64} (ha : ws[q0]? = some (a, .inl (cA, n, .inr (.inl f)))) (ht : tys[t0]? = some (cA, .long)) {i : Int32} (j : Nat) (hi : i = nI j) (hj : j < n) (hn : n < 2 ^ 31) (hdg : decode cc pc = .ok (.laload, 1))
    (kk : W p l e R s m args below meth c H locs cells slots Q (F0 m (pc + 1) ls (.long (f j) :: rest))) : W p l e R s m args below meth c H locs cells slots Q (F0 m pc ls (.int i :: .ref a :: rest)) :=
  va_lald hx hb hK hP q0 t0 ha ht (in_n hi hj hn).1 hdg (by rw [(in_n hi hj hn).2]; exact kk)
theorem iast_n (hx : p.tables.exec = Jvm.exec) (hb : c.code = cc) (hK : va_K D cl tys s) (hP : va_P D cl ws H) (hD : va_D A ws) (hS : va_S A H0 H locs) (q0 t0 : Nat) {cA : ClassId} {n : Nat} {f : Nat → Int32} (ha : ws[q0]? = some (a, .inl (cA, n, .inl f))) (ht : tys[t0]? = some (cA, .int)) {i x : Int32} (j : Nat) (hi : i = nI j) (hj : j < n) (hn : n < 2 ^ 31) (hdg : decode cc pc = .ok (.iastore, 1))
    (kk : ∀ (H1 : Heap) (locs1 : List Loc), va_P D cl (ws.set q0 (a, .inl (cA, n, .inl (upd f j x)))) H1 → va_D A (ws.set q0 (a, .inl (cA, n, .inl (upd f j x)))) → va_S A H0 H1 locs1 → W p l e R s m args below meth c H1 locs1 cells slots Q (F0 m (pc + 1) ls rest)) : W p l e R s m args below meth c H locs cells slots Q (F0 m pc ls (.int x :: .int i :: .ref a :: rest)) :=
  va_iast hx hb hK hP hD hS q0 t0 ha ht (in_n hi hj hn).1 hdg (by rw [(in_n hi hj hn).2]; exact kk)
theorem zast_n (hx : p.tables.exec = Jvm.exec) (hb : c.code = cc) (hK : va_K D cl tys s) (hP : va_P D cl ws H) (hD : va_D A ws) (hS : va_S A H0 H locs) (q0 t0 : Nat) {cA : ClassId} {n : Nat} {f : Nat → Int32} (ha : ws[q0]? = some (a, .inl (cA, n, .inl f))) (ht : tys[t0]? = some (cA, .boolean)) {i x : Int32} (j : Nat) (hi : i = nI j) (hj : j < n) (hn : n < 2 ^ 31) (hv : x = 0 ∨ x = 1) (hdg : decode cc pc = .ok (.bastore, 1))
    (kk : ∀ (H1 : Heap) (locs1 : List Loc), va_P D cl (ws.set q0 (a, .inl (cA, n, .inl (upd f j x)))) H1 → va_D A (ws.set q0 (a, .inl (cA, n, .inl (upd f j x)))) → va_S A H0 H1 locs1 → W p l e R s m args below meth c H1 locs1 cells slots Q (F0 m (pc + 1) ls rest)) : W p l e R s m args below meth c H locs cells slots Q (F0 m pc ls (.int x :: .int i :: .ref a :: rest)) :=
  va_zast hx hb hK hP hD hS q0 t0 ha ht (in_n hi hj hn).1 hdg (by rw [(in_n hi hj hn).2, show vp_nar .boolean x = x by rcases hv with rfl | rfl <;> rfl]; exact kk)
theorem last_n (hx : p.tables.exec = Jvm.exec) (hb : c.code = cc) (hK : va_K D cl tys s) (hP : va_P D cl ws H) (hD : va_D A ws) (hS : va_S A H0 H locs) (q0 t0 : Nat) {cA : ClassId} {n : Nat} {f : Nat → Int64} (ha : ws[q0]? = some (a, .inl (cA, n, .inr (.inl f)))) (ht : tys[t0]? = some (cA, .long)) {i : Int32} {x : Int64} (j : Nat) (hi : i = nI j) (hj : j < n) (hn : n < 2 ^ 31) (hdg : decode cc pc = .ok (.lastore, 1))
    (kk : ∀ (H1 : Heap) (locs1 : List Loc), va_P D cl (ws.set q0 (a, .inl (cA, n, .inr (.inl (vp_updL f j x))))) H1 → va_D A (ws.set q0 (a, .inl (cA, n, .inr (.inl (vp_updL f j x))))) → va_S A H0 H1 locs1 → W p l e R s m args below meth c H1 locs1 cells slots Q (F0 m (pc + 1) ls rest)) : W p l e R s m args below meth c H locs cells slots Q (F0 m pc ls (.long x :: .int i :: .ref a :: rest)) :=
  va_last hx hb hK hP hD hS q0 t0 ha ht (in_n hi hj hn).1 hdg (by rw [(in_n hi hj hn).2]; exact kk)
end RO
-- truth as an int
def bI (p : Prop) [Decidable p] : Int32 := if p then 1 else 0
theorem bI_t {p : Prop} [Decidable p] (h : p) : bI p = 1 := if_pos h
theorem bI_f {p : Prop} [Decidable p] (h : ¬ p) : bI p = 0 := if_neg h
theorem bI_0 {p : Prop} [Decidable p] (h : bI p = 0) : ¬ p := fun hp => by rw [bI_t hp] at h; exact absurd h (by decide)
theorem bI_1 {p : Prop} [Decidable p] (h : ¬ bI p = 0) : p := Decidable.byContradiction fun hp => h (bI_f hp)
theorem bI_b {p : Prop} [Decidable p] : bI p = 0 ∨ bI p = 1 := by by_cases h : p; exact Or.inr (bI_t h); exact Or.inl (bI_f h)
theorem bI_c {p q : Prop} [Decidable p] [Decidable q] (h : p ↔ q) : bI p = bI q := by unfold bI; simp only [h]
theorem nI_3 : (3 : Int32) = nI 3 := rfl
-- small numbers
theorem n_add {x y : Int32} {a b : Nat} (hx : x = nI a) (hy : y = nI b) : x + y = nI (a + b) := by rw [hx, hy, nI_add]
theorem n_mul {x y : Int32} {a b : Nat} (hx : x = nI a) (hy : y = nI b) : x * y = nI (a * b) := by rw [hx, hy, pk_mul]
theorem n_sub {x y : Int32} {a b : Nat} (hx : x = nI a) (hy : y = nI b) (h : b ≤ a) : x - y = nI (a - b) := by rw [hx, hy, pk_sub h]
theorem n_ti {a : Nat} (h : a < 2 ^ 31) : (nI a).toInt = (a : Int) := nI_toInt h
theorem i_lt {x y : Int32} : x < y ↔ x.toInt < y.toInt := Int32.lt_iff_toInt_lt
theorem i_le {x y : Int32} : x ≤ y ↔ x.toInt ≤ y.toInt := Int32.le_iff_toInt_le
theorem i_eq {x y : Int32} : x = y ↔ x.toInt = y.toInt := Int32.toInt_inj.symm
section LP
variable {p : Program} {l : Launch} {e : Env} {R : Room} {s : State} {m : MethodId} {args : Array Value} {below : List Frame} {meth : Method} {c : Code} {H : Heap} {locs : List Loc} {cells slots : Nat} {Q : State → Prop}
/-- two roads meet with a number on the stack -/
theorem w_join {P : Int32 → Prop} (pcJ : Nat) {ls : Array Slot} {rest : List Value} {g : JFrame} (j : ∀ b : Int32, P b → W p l e R s m args below meth c H locs cells slots Q (F0 m pcJ ls (.int b :: rest))) (k : (∀ b : Int32, P b → W p l e R s m args below meth c H locs cells slots Q (F0 m pcJ ls (.int b :: rest))) → W p l e R s m args below meth c H locs cells slots Q g) : W p l e R s m args below meth c H locs cells slots Q g := k j
/-- a loop whose state is in the locals alone: k goes up to N -/
theorem w_for {N : Nat} (head : Nat) {L : Nat → Array Slot → Prop} (body : ∀ (k : Nat) (ls : Array Slot), k ≤ N → L k ls → (∀ ls' : Array Slot, k < N → L (k + 1) ls' → W p l e R s m args below meth c H locs cells slots Q (F0 m head ls' [])) → W p l e R s m args below meth c H locs cells slots Q (F0 m head ls [])) (k0 : Nat) (ls0 : Array Slot) (h0 : k0 ≤ N) (hL : L k0 ls0) : W p l e R s m args below meth c H locs cells slots Q (F0 m head ls0 []) := by
  obtain ⟨n, hn⟩ : ∃ n, n = N - k0 := ⟨_, rfl⟩
  induction n generalizing k0 ls0 with
  | zero => exact body k0 ls0 h0 hL (fun ls' h _ => absurd h (by omega))
  | succ n ih => exact body k0 ls0 h0 hL (fun ls' h h2 => ih (k0 + 1) ls' (by omega) h2 (by omega))
/-- a loop that writes -/
theorem w_forM {N : Nat} (head : Nat) {L : Nat → Array Slot → Heap → List Loc → Prop} (body : ∀ (k : Nat) (ls : Array Slot) (H : Heap) (locs : List Loc), k ≤ N → L k ls H locs → (∀ (ls' : Array Slot) (H' : Heap) (locs' : List Loc), k < N → L (k + 1) ls' H' locs' → W p l e R s m args below meth c H' locs' cells slots Q (F0 m head ls' [])) → W p l e R s m args below meth c H locs cells slots Q (F0 m head ls [])) (k0 : Nat) (ls0 : Array Slot) (H0 : Heap) (locs0 : List Loc) (h0 : k0 ≤ N) (hL : L k0 ls0 H0 locs0) : W p l e R s m args below meth c H0 locs0 cells slots Q (F0 m head ls0 []) := by
  obtain ⟨n, hn⟩ : ∃ n, n = N - k0 := ⟨_, rfl⟩
  induction n generalizing k0 ls0 H0 locs0 with
  | zero => exact body k0 ls0 H0 locs0 h0 hL (fun ls' _ _ h _ => absurd h (by omega))
  | succ n ih => exact body k0 ls0 H0 locs0 h0 hL (fun ls' H' locs' h h2 => ih (k0 + 1) ls' H' locs' (by omega) h2 (by omega))
end LP
-- places of a list, by a number
def okb (n : Nat) (t : Int32) : Bool := decide (0 ≤ t ∧ t < nI n)
abbrev okN (n : Nat) (t : Int32) : Prop := okb n t = true
theorem okN_def {n : Nat} {t : Int32} : okN n t ↔ (0 ≤ t ∧ t < nI n) := decide_eq_true_iff
theorem okN_ex {n : Nat} {t : Int32} (hn : n < 2 ^ 31) (h : okN n t) : ∃ j : Nat, j < n ∧ t = nI j := by
  have h := okN_def.mp h
  obtain ⟨j, hj, e⟩ := nI_of (x := t) (fun hq => by have h1 := h.1; simp only [i_lt, i_le, Int32.reduceToInt] at h1 hq; omega)
  subst e
  exact ⟨j, (nI_ltI hj hn).mp h.2, rfl⟩
theorem okN_nI {n j : Nat} (hn : n < 2 ^ 31) (h : j < n) : okN n (nI j) := okN_def.mpr ⟨nI_pos' (by omega), nI_lt h hn⟩
theorem okN_iff {n : Nat} {t : Int32} (hn : n < 2 ^ 30) : (0 ≤ t ∧ t ≤ nI n - 1) ↔ okN n t := by
  have h1 : (nI n - 1).toInt = (n : Int) - 1 := pk_sub_toInt (a := n) (b := 1) hn (by decide)
  rw [okN_def]
  simp only [i_le, i_lt, h1, n_ti (show n < 2 ^ 31 by omega), Int32.reduceToInt]
  omega
theorem nI_inj {a b : Nat} (ha : a < 2 ^ 31) (hb : b < 2 ^ 31) (h : nI a = nI b) : a = b := (nI_eq ha hb).mp h
/-- the first place from i on, of f places, with P -/
def fnd (P : Nat → Prop) [DecidablePred P] : Nat → Nat → Int32
  | 0, _ => -1
  | f + 1, i => if P i then nI i else fnd P f (i + 1)
theorem fnd_t {P : Nat → Prop} [DecidablePred P] {f i N : Nat} (h : i < N) (hP : P i) (hf : f = N - i) : fnd P f i = nI i := by
  subst hf; obtain ⟨z, hz⟩ : ∃ z, N - i = z + 1 := ⟨N - i - 1, by omega⟩
  rw [hz]; exact if_pos hP
theorem fnd_f {P : Nat → Prop} [DecidablePred P] {i N : Nat} (h : i < N) (hP : ¬ P i) : fnd P (N - i) i = fnd P (N - (i + 1)) (i + 1) := by
  obtain ⟨z, hz⟩ : ∃ z, N - i = z + 1 := ⟨N - i - 1, by omega⟩
  rw [hz, show N - (i + 1) = z by omega]; exact if_neg hP
theorem bI_self {x : Int32} (h : x = 0 ∨ x = 1) : x = bI (¬ x = 0) := by rcases h with rfl | rfl <;> rfl
theorem and_nn {x c : Int32} (hc : c.toBitVec.msb = false) : 0 ≤ x &&& c := by
  rw [i_le]
  have h : (x &&& c).toBitVec.msb = false := by
    rw [show (x &&& c).toBitVec = x.toBitVec &&& c.toBitVec from rfl, BitVec.msb_and, hc, Bool.and_false]
  rw [BitVec.msb_eq_toInt] at h
  have h2 : ¬ (x &&& c).toBitVec.toInt < 0 := by simpa using h
  show (0 : Int) ≤ (x &&& c).toBitVec.toInt
  omega
theorem and_le {x c : Int32} (hc : c.toBitVec.msb = false) (h : x &&& c ≤ 0) : x &&& c = 0 := by
  have := and_nn (x := x) hc; simp only [i_le, i_eq, Int32.reduceToInt] at *; omega
theorem and_nle {x c : Int32} (h : ¬ x &&& c ≤ 0) : ¬ x &&& c = 0 := fun e => h (by rw [e]; decide)
theorem and_gt {x c : Int32} (h : 0 < x &&& c) : ¬ x &&& c = 0 := fun e => by rw [e] at h; exact absurd h (by decide)
theorem and_ngt {x c : Int32} (hc : c.toBitVec.msb = false) (h : ¬ 0 < x &&& c) : x &&& c = 0 := by
  have := and_nn (x := x) hc; simp only [i_le, i_lt, i_eq, Int32.reduceToInt] at *; omega
abbrev MS : Type := Nat → Nat → Int32
/-- a table of the reference gets v at place i -/
def su (σ : MS) (k i : Nat) (v : Int32) : MS := fun a => if a = k then upd (σ k) i v else σ a
/-- the cells of the reference: its object, its arrays; the fields by their slots: a number is σ k 0, an array is σ k, the longs are τ -/
abbrev mW (G : Nat → ClassId) (mo : Nat) (ad : Nat → Nat) (σ : MS) (τ : Nat → Int64) : va_W := [(mo, .inr (8, [.int (σ 0 0), .int (σ 1 0), .ref (ad 2), .ref (ad 3), .ref (ad 4), .ref (ad 5), .ref (ad 6), .int (σ 7 0), .ref (ad 8), .ref (ad 9), .ref (ad 10), .ref (ad 11), .ref (ad 12), .ref (ad 13), .ref (ad 14), .ref (ad 15), .ref (ad 16), .ref (ad 17), .ref (ad 18), .ref (ad 19), .ref (ad 20), .int (σ 21 0), .int (σ 22 0), .ref (ad 23), .ref (ad 24), .int (σ 25 0), .int (σ 26 0), .ref (ad 27), .ref (ad 28), .ref (ad 29), .ref (ad 30), .ref (ad 31), .ref (ad 32)])), (ad 2, .inl (G 0, 12, .inl (σ 2))), (ad 3, .inl (G 0, 12, .inl (σ 3))), (ad 4, .inl (G 0, 36, .inl (σ 4))), (ad 5, .inl (G 0, 12, .inl (σ 5))), (ad 6, .inl (G 2, 144, .inl (σ 6))), (ad 8, .inl (G 2, 60, .inl (σ 8))), (ad 9, .inl (G 0, 60, .inl (σ 9))), (ad 10, .inl (G 0, 60, .inl (σ 10))), (ad 11, .inl (G 0, 60, .inl (σ 11))), (ad 12, .inl (G 0, 60, .inl (σ 12))), (ad 13, .inl (G 0, 60, .inl (σ 13))), (ad 14, .inl (G 2, 60, .inl (σ 14))), (ad 15, .inl (G 1, 60, .inr (.inl τ))), (ad 16, .inl (G 2, 60, .inl (σ 16))), (ad 17, .inl (G 2, 60, .inl (σ 17))), (ad 18, .inl (G 0, 60, .inl (σ 18))), (ad 19, .inl (G 0, 300, .inl (σ 19))), (ad 20, .inl (G 0, 300, .inl (σ 20))), (ad 23, .inl (G 0, 5, .inl (σ 23))), (ad 24, .inl (G 0, 5, .inl (σ 24))), (ad 27, .inl (G 0, 26, .inl (σ 27))), (ad 28, .inl (G 0, 60, .inl (σ 28))), (ad 29, .inl (G 0, 12, .inl (σ 29))), (ad 30, .inl (G 2, 60, .inl (σ 30))), (ad 31, .inl (G 2, 60, .inl (σ 31))), (ad 32, .inl (G 2, 60, .inl (σ 32)))]
-- what the reference's methods say, by its tables
abbrev lyP (σ : MS) (t o : Nat) : Prop := ¬ σ 6 (12 * t + o) = 0
def nokb (n : Nat) (kind : Int32) : Bool := decide (¬ kind ≤ 9 ∧ ¬ okN n (kind - 10))
abbrev noK (n : Nat) (kind : Int32) : Prop := nokb n kind = true
theorem noK_def {n : Nat} {kind : Int32} : noK n kind ↔ (¬ kind ≤ 9 ∧ ¬ okN n (kind - 10)) := decide_eq_true_iff
def aRef (σ : MS) (n : Nat) (t name kind d m : Int32) : Int32 :=
  if ¬ okN n t ∨ noK n kind then -11
  else if ¬ (0 ≤ name ∧ name ≤ 49) ∨ kind < 0 ∨ kind = 9 ∨ ¬ (0 ≤ d ∧ d ≤ 3) ∨ (kind = 0 ∧ 0 < d) ∨ ¬ (0 ≤ m ∧ m ≤ 2047) then -13
  else if ¬ σ 21 0 = 0 then -14 else if σ 7 0 = 60 then -15 else 0
def bitsF (m : Int32) : Nat → Int32
  | 0 => 0
  | k + 1 => bitsF m k + ((m >>> (nI k &&& 31)) &&& 1)
abbrev fldP (σ : MS) (t name : Int32) (e : Nat) : Prop := σ 8 e = 0 ∧ σ 9 e = t ∧ σ 10 e = name
def fld (σ : MS) (k : Nat) (t name : Int32) : Int32 := fnd (fldP σ t name) k 0
def aRF (σ : MS) (k t : Nat) (name kind m : Int32) : Int32 :=
  if ¬ m ≤ 127 then 1 else if ¬ bitsF (m &&& 7) 11 ≤ 1 then 2 else if ¬ m &&& 16 = 0 ∧ ¬ m &&& 32 = 0 then 3
  else if σ 2 t = 3 ∧ ¬ m &&& (-26) ≤ 0 then 4 else if kind = 0 then 5 else if fld σ k (nI t) name = -1 then 0 else 6
def badb (m : Int32) : Bool := decide (¬ m &&& 786 = 0 ∨ 1 < bitsF (m &&& 1160) 11 ∨ (¬ m &&& 4 = 0 ∧ ¬ m &&& 1152 = 0))
abbrev badF (m : Int32) : Prop := badb m = true
theorem badF_def {m : Int32} : badF m ↔ (¬ m &&& 786 = 0 ∨ 1 < bitsF (m &&& 1160) 11 ∨ (¬ m &&& 4 = 0 ∧ ¬ m &&& 1152 = 0)) := decide_eq_true_iff
def bareb (fc : Prop) [Decidable fc] (m : Int32) : Bool := decide (¬ m &&& 128 = 0 ∨ ¬ m &&& 256 = 0 ∨ (fc ∧ m &&& 1036 = 0))
abbrev bare (fc : Prop) [Decidable fc] (m : Int32) : Prop := bareb fc m = true
theorem bare_def {fc : Prop} [Decidable fc] {m : Int32} : bare fc m ↔ (¬ m &&& 128 = 0 ∨ ¬ m &&& 256 = 0 ∨ (fc ∧ m &&& 1036 = 0)) := decide_eq_true_iff
def aRM (fc : Prop) [Decidable fc] (sort m body : Int32) : Int32 :=
  if ¬ m &&& 96 = 0 then 11 else if ¬ bitsF (m &&& 7) 11 ≤ 1 then 12 else if (fc ∧ badF m) ∨ (¬ fc ∧ ¬ m &&& 1024 = 0) then 13
  else if ¬ fc ∧ ¬ m &&& 128 = 0 ∧ ¬ m &&& 796 = 0 then 14 else if ¬ fc ∧ ¬ m &&& 128 = 0 ∧ ¬ sort = 1 then 15
  else if bI (bare fc m) = body then (if body = 0 then 17 else 16) else 0
abbrev eqP (σ : MS) (a b j : Nat) : Prop := σ 19 (5 * a + j) = σ 19 (5 * b + j) ∧ σ 20 (5 * a + j) = σ 20 (5 * b + j)
def sameb (σ : MS) (na a b : Nat) : Bool := decide (σ 18 a = σ 18 b ∧ ∀ j, j < na → eqP σ a b j)
abbrev sameP (σ : MS) (na a b : Nat) : Prop := sameb σ na a b = true
theorem sameP_def {σ : MS} {na a b : Nat} : sameP σ na a b ↔ (σ 18 a = σ 18 b ∧ ∀ j, j < na → eqP σ a b j) := decide_eq_true_iff
def stb (σ : MS) (e j : Nat) : Bool := decide (¬ σ 13 e &&& 8 = 0 ∧ σ 2 j = 3)
abbrev stP (σ : MS) (e j : Nat) : Prop := stb σ e j = true
theorem stP_def {σ : MS} {e j : Nat} : stP σ e j ↔ (¬ σ 13 e &&& 8 = 0 ∧ σ 2 j = 3) := decide_eq_true_iff
def meetb (σ : MS) (na a b ja jb : Nat) : Bool := decide (¬ σ 8 b = 0 ∧ ¬ a = b ∧ σ 13 a &&& 4 = 0 ∧ σ 13 b &&& 4 = 0 ∧ ¬ stP σ a ja ∧ ¬ stP σ b jb ∧ σ 10 a = σ 10 b ∧ ¬ ja = jb ∧ lyP σ ja jb ∧ sameP σ na a b)
abbrev meetP (σ : MS) (na a b ja jb : Nat) : Prop := meetb σ na a b ja jb = true
theorem meetP_def {σ : MS} {na a b ja jb : Nat} : meetP σ na a b ja jb ↔ (¬ σ 8 b = 0 ∧ ¬ a = b ∧ σ 13 a &&& 4 = 0 ∧ σ 13 b &&& 4 = 0 ∧ ¬ stP σ a ja ∧ ¬ stP σ b jb ∧ σ 10 a = σ 10 b ∧ ¬ ja = jb ∧ lyP σ ja jb ∧ sameP σ na a b) := decide_eq_true_iff
def seenF (m : Int32) : Int32 := if ¬ m &&& 1 = 0 then 3 else if ¬ m &&& 2 = 0 then 2 else if ¬ m &&& 4 = 0 then 0 else 1
/-- the type of a kind -/
abbrev tyK (x : Int32) : Nat := (x - 10).toNatClampNeg
abbrev kdO (x : Int32) : Prop := ¬ x ≤ 9 → ∃ j : Nat, j < 12 ∧ x - 10 = nI j
def undb (σ : MS) (x y : Int32) : Bool := decide (¬ x ≤ 9 ∧ ¬ y ≤ 9 ∧ lyP σ (tyK x) (tyK y))
abbrev undP (σ : MS) (x y : Int32) : Prop := undb σ x y = true
theorem undP_def {σ : MS} {x y : Int32} : undP σ x y ↔ (¬ x ≤ 9 ∧ ¬ y ≤ 9 ∧ lyP σ (tyK x) (tyK y)) := decide_eq_true_iff
theorem tyK_n {x : Int32} {j : Nat} (hj : j < 12) (h : x - 10 = nI j) : tyK x = j := by show (x - 10).toNatClampNeg = j; rw [h]; exact nI_clamp (by omega)
abbrev eqR (σ : MS) (a b : Nat) : Prop := σ 11 a = σ 11 b ∧ σ 12 a = σ 12 b
abbrev unR (σ : MS) (a b : Nat) : Prop := σ 12 a = 0 ∧ σ 12 b = 0 ∧ undP σ (σ 11 a) (σ 11 b)
def aRA (σ : MS) (a b : Nat) : Int32 :=
  if ¬ σ 13 b &&& 16 = 0 then 22 else if ¬ σ 13 a &&& 8 = σ 13 b &&& 8 then 23
  else if ¬ eqR σ a b ∧ ¬ unR σ a b then 24
  else if ¬ seenF (σ 13 b) ≤ seenF (σ 13 a) then 25 else 0
def bothF (a b : Int32) : Int32 := if a = -1 then b else if b = -1 ∨ a = b then a else -2
def wdb (a b : Int32) : Bool := decide (if a = 4 then 5 ≤ b ∧ b ≤ 8 else (2 ≤ a ∧ a ≤ 7) ∧ (3 ≤ b ∧ b ≤ 8) ∧ ¬ b ≤ a ∧ ¬ b = 4)
abbrev wdP (a b : Int32) : Prop := wdb a b = true
theorem wdP_def {a b : Int32} : wdP a b ↔ (if a = 4 then 5 ≤ b ∧ b ≤ 8 else (2 ≤ a ∧ a ≤ 7) ∧ (3 ≤ b ∧ b ≤ 8) ∧ ¬ b ≤ a ∧ ¬ b = 4) := decide_eq_true_iff
def fitb (σ : MS) (k d kind dim : Int32) : Bool := decide ((k = kind ∧ d = dim) ∨ (¬ (k = kind ∧ d = dim) ∧ (if k = 9 then 0 < dim ∨ ¬ kind ≤ 9 else if d = 0 ∧ dim = 0 ∧ ¬ 9 ≤ k then wdP k kind else d = dim ∧ undP σ k kind)))
abbrev fitP (σ : MS) (k d kind dim : Int32) : Prop := fitb σ k d kind dim = true
theorem fitP_def {σ : MS} {k d kind dim : Int32} : fitP σ k d kind dim ↔ ((k = kind ∧ d = dim) ∨ (¬ (k = kind ∧ d = dim) ∧ (if k = 9 then 0 < dim ∨ ¬ kind ≤ 9 else if d = 0 ∧ dim = 0 ∧ ¬ 9 ≤ k then wdP k kind else d = dim ∧ undP σ k kind))) := decide_eq_true_iff
def kindF (σ : MS) (e na p : Nat) (v : Int32) : Int32 := σ 19 (5 * e + if ¬ v = 0 ∧ na ≤ p then na - 1 else p)
def dimF (σ : MS) (e na p : Nat) (v : Int32) : Int32 := if ¬ v = 0 ∧ na ≤ p + 1 then σ 20 (5 * e + (na - 1)) - 1 else σ 20 (5 * e + p)
end
section
theorem q_712 : Cond.lays "FieldMemberModel" "FieldMemberModel" "fault" "I" ∈ TT := tt_t (i := 712) (by decide +kernel) (by decide +kernel)
theorem q_714 : Cond.lays "FieldMemberModel" "FieldMemberModel" "types" "I" ∈ TT := tt_t (i := 714) (by decide +kernel) (by decide +kernel)
theorem q_716 : Cond.laysFinal "FieldMemberModel" "FieldMemberModel" "sorts" "[I" ∈ TT := tt_t (i := 716) (by decide +kernel) (by decide +kernel)
theorem q_718 : Cond.laysFinal "FieldMemberModel" "FieldMemberModel" "parents" "[I" ∈ TT := tt_t (i := 718) (by decide +kernel) (by decide +kernel)
theorem q_720 : Cond.laysFinal "FieldMemberModel" "FieldMemberModel" "faces" "[I" ∈ TT := tt_t (i := 720) (by decide +kernel) (by decide +kernel)
theorem q_722 : Cond.laysFinal "FieldMemberModel" "FieldMemberModel" "faceCount" "[I" ∈ TT := tt_t (i := 722) (by decide +kernel) (by decide +kernel)
theorem q_724 : Cond.laysFinal "FieldMemberModel" "FieldMemberModel" "isBelow" "[Z" ∈ TT := tt_t (i := 724) (by decide +kernel) (by decide +kernel)
theorem q_726 : Cond.lays "FieldMemberModel" "FieldMemberModel" "entries" "I" ∈ TT := tt_t (i := 726) (by decide +kernel) (by decide +kernel)
theorem q_728 : Cond.laysFinal "FieldMemberModel" "FieldMemberModel" "isMember" "[Z" ∈ TT := tt_t (i := 728) (by decide +kernel) (by decide +kernel)
theorem q_730 : Cond.laysFinal "FieldMemberModel" "FieldMemberModel" "ofType" "[I" ∈ TT := tt_t (i := 730) (by decide +kernel) (by decide +kernel)
theorem q_732 : Cond.laysFinal "FieldMemberModel" "FieldMemberModel" "names" "[I" ∈ TT := tt_t (i := 732) (by decide +kernel) (by decide +kernel)
theorem q_734 : Cond.laysFinal "FieldMemberModel" "FieldMemberModel" "kinds" "[I" ∈ TT := tt_t (i := 734) (by decide +kernel) (by decide +kernel)
theorem q_736 : Cond.laysFinal "FieldMemberModel" "FieldMemberModel" "dims" "[I" ∈ TT := tt_t (i := 736) (by decide +kernel) (by decide +kernel)
theorem q_738 : Cond.laysFinal "FieldMemberModel" "FieldMemberModel" "marks" "[I" ∈ TT := tt_t (i := 738) (by decide +kernel) (by decide +kernel)
theorem q_740 : Cond.laysFinal "FieldMemberModel" "FieldMemberModel" "isTold" "[Z" ∈ TT := tt_t (i := 740) (by decide +kernel) (by decide +kernel)
theorem q_742 : Cond.laysFinal "FieldMemberModel" "FieldMemberModel" "told" "[J" ∈ TT := tt_t (i := 742) (by decide +kernel) (by decide +kernel)
theorem q_744 : Cond.laysFinal "FieldMemberModel" "FieldMemberModel" "hasBody" "[Z" ∈ TT := tt_t (i := 744) (by decide +kernel) (by decide +kernel)
theorem q_746 : Cond.laysFinal "FieldMemberModel" "FieldMemberModel" "isVaried" "[Z" ∈ TT := tt_t (i := 746) (by decide +kernel) (by decide +kernel)
theorem q_748 : Cond.laysFinal "FieldMemberModel" "FieldMemberModel" "many" "[I" ∈ TT := tt_t (i := 748) (by decide +kernel) (by decide +kernel)
theorem q_750 : Cond.laysFinal "FieldMemberModel" "FieldMemberModel" "partKinds" "[I" ∈ TT := tt_t (i := 750) (by decide +kernel) (by decide +kernel)
theorem q_752 : Cond.laysFinal "FieldMemberModel" "FieldMemberModel" "partDims" "[I" ∈ TT := tt_t (i := 752) (by decide +kernel) (by decide +kernel)
theorem q_754 : Cond.lays "FieldMemberModel" "FieldMemberModel" "isBegun" "Z" ∈ TT := tt_t (i := 754) (by decide +kernel) (by decide +kernel)
theorem q_756 : Cond.lays "FieldMemberModel" "FieldMemberModel" "waits" "I" ∈ TT := tt_t (i := 756) (by decide +kernel) (by decide +kernel)
theorem q_758 : Cond.laysFinal "FieldMemberModel" "FieldMemberModel" "argumentKinds" "[I" ∈ TT := tt_t (i := 758) (by decide +kernel) (by decide +kernel)
theorem q_760 : Cond.laysFinal "FieldMemberModel" "FieldMemberModel" "argumentDims" "[I" ∈ TT := tt_t (i := 760) (by decide +kernel) (by decide +kernel)
theorem q_762 : Cond.lays "FieldMemberModel" "FieldMemberModel" "way" "I" ∈ TT := tt_t (i := 762) (by decide +kernel) (by decide +kernel)
theorem q_764 : Cond.lays "FieldMemberModel" "FieldMemberModel" "rulesBroken" "I" ∈ TT := tt_t (i := 764) (by decide +kernel) (by decide +kernel)
theorem q_766 : Cond.laysFinal "FieldMemberModel" "FieldMemberModel" "broken" "[I" ∈ TT := tt_t (i := 766) (by decide +kernel) (by decide +kernel)
theorem q_768 : Cond.laysFinal "FieldMemberModel" "FieldMemberModel" "met" "[I" ∈ TT := tt_t (i := 768) (by decide +kernel) (by decide +kernel)
theorem q_770 : Cond.laysFinal "FieldMemberModel" "FieldMemberModel" "foundIn" "[I" ∈ TT := tt_t (i := 770) (by decide +kernel) (by decide +kernel)
theorem q_772 : Cond.laysFinal "FieldMemberModel" "FieldMemberModel" "isCandidate" "[Z" ∈ TT := tt_t (i := 772) (by decide +kernel) (by decide +kernel)
theorem q_774 : Cond.laysFinal "FieldMemberModel" "FieldMemberModel" "isFound" "[Z" ∈ TT := tt_t (i := 774) (by decide +kernel) (by decide +kernel)
theorem q_776 : Cond.laysFinal "FieldMemberModel" "FieldMemberModel" "isTaken" "[Z" ∈ TT := tt_t (i := 776) (by decide +kernel) (by decide +kernel)
theorem iX8 : ∀ w ∈ wsX80, w ∈ TT := by
  have h : wsX80 = [Cond.lays "FieldMemberModel" "FieldMemberModel" "fault" "I", Cond.lays "FieldMemberModel" "FieldMemberModel" "types" "I", Cond.laysFinal "FieldMemberModel" "FieldMemberModel" "sorts" "[I", Cond.laysFinal "FieldMemberModel" "FieldMemberModel" "parents" "[I", Cond.laysFinal "FieldMemberModel" "FieldMemberModel" "faces" "[I", Cond.laysFinal "FieldMemberModel" "FieldMemberModel" "faceCount" "[I", Cond.laysFinal "FieldMemberModel" "FieldMemberModel" "isBelow" "[Z", Cond.lays "FieldMemberModel" "FieldMemberModel" "entries" "I", Cond.laysFinal "FieldMemberModel" "FieldMemberModel" "isMember" "[Z", Cond.laysFinal "FieldMemberModel" "FieldMemberModel" "ofType" "[I", Cond.laysFinal "FieldMemberModel" "FieldMemberModel" "names" "[I", Cond.laysFinal "FieldMemberModel" "FieldMemberModel" "kinds" "[I", Cond.laysFinal "FieldMemberModel" "FieldMemberModel" "dims" "[I", Cond.laysFinal "FieldMemberModel" "FieldMemberModel" "marks" "[I", Cond.laysFinal "FieldMemberModel" "FieldMemberModel" "isTold" "[Z", Cond.laysFinal "FieldMemberModel" "FieldMemberModel" "told" "[J", Cond.laysFinal "FieldMemberModel" "FieldMemberModel" "hasBody" "[Z", Cond.laysFinal "FieldMemberModel" "FieldMemberModel" "isVaried" "[Z", Cond.laysFinal "FieldMemberModel" "FieldMemberModel" "many" "[I", Cond.laysFinal "FieldMemberModel" "FieldMemberModel" "partKinds" "[I", Cond.laysFinal "FieldMemberModel" "FieldMemberModel" "partDims" "[I", Cond.lays "FieldMemberModel" "FieldMemberModel" "isBegun" "Z", Cond.lays "FieldMemberModel" "FieldMemberModel" "waits" "I", Cond.laysFinal "FieldMemberModel" "FieldMemberModel" "argumentKinds" "[I", Cond.laysFinal "FieldMemberModel" "FieldMemberModel" "argumentDims" "[I", Cond.lays "FieldMemberModel" "FieldMemberModel" "way" "I", Cond.lays "FieldMemberModel" "FieldMemberModel" "rulesBroken" "I", Cond.laysFinal "FieldMemberModel" "FieldMemberModel" "broken" "[I", Cond.laysFinal "FieldMemberModel" "FieldMemberModel" "met" "[I", Cond.laysFinal "FieldMemberModel" "FieldMemberModel" "foundIn" "[I", Cond.laysFinal "FieldMemberModel" "FieldMemberModel" "isCandidate" "[Z", Cond.laysFinal "FieldMemberModel" "FieldMemberModel" "isFound" "[Z", Cond.laysFinal "FieldMemberModel" "FieldMemberModel" "isTaken" "[Z"] := by decide +kernel
  rw [h]
  exact tt_c q_712 (tt_c q_714 (tt_c q_716 (tt_c q_718 (tt_c q_720 (tt_c q_722 (tt_c q_724 (tt_c q_726 (tt_c q_728 (tt_c q_730 (tt_c q_732 (tt_c q_734 (tt_c q_736 (tt_c q_738 (tt_c q_740 (tt_c q_742 (tt_c q_744 (tt_c q_746 (tt_c q_748 (tt_c q_750 (tt_c q_752 (tt_c q_754 (tt_c q_756 (tt_c q_758 (tt_c q_760 (tt_c q_762 (tt_c q_764 (tt_c q_766 (tt_c q_768 (tt_c q_770 (tt_c q_772 (tt_c q_774 (tt_c q_776 (fun _ h => nomatch h)))))))))))))))))))))))))))))))))
theorem dX8_thrown_0 : decode cX8_thrown 0 = .ok (.aload_n 0, 1) := by decide +kernel
theorem q_679 : Cond.fieldLink "FieldMemberModel" 90 "FieldMemberModel" "fault" "I" ∈ TT := tt_t (i := 679) (by decide +kernel) (by decide +kernel)
theorem dX8_thrown_1 : decode cX8_thrown 1 = .ok (.getfield 90, 3) := by decide +kernel
theorem dX8_thrown_4 : decode cX8_thrown 4 = .ok (.ireturn, 1) := by decide +kernel
theorem dX8_in_0 : decode cX8_in 0 = .ok (.iload_n 0, 1) := by decide +kernel
theorem dX8_in_1 : decode cX8_in 1 = .ok (.iload_n 1, 1) := by decide +kernel
theorem dX8_in_2 : decode cX8_in 2 = .ok (.if_icmp .lt 12, 3) := by decide +kernel
theorem dX8_in_14 : decode cX8_in 14 = .ok (.iconst 0, 1) := by decide +kernel
theorem dX8_in_15 : decode cX8_in 15 = .ok (.ireturn, 1) := by decide +kernel
theorem dX8_in_5 : decode cX8_in 5 = .ok (.iload_n 0, 1) := by decide +kernel
theorem dX8_in_6 : decode cX8_in 6 = .ok (.iload_n 2, 1) := by decide +kernel
theorem dX8_in_7 : decode cX8_in 7 = .ok (.if_icmp .gt 7, 3) := by decide +kernel
theorem dX8_in_10 : decode cX8_in 10 = .ok (.iconst 1, 1) := by decide +kernel
theorem dX8_in_11 : decode cX8_in 11 = .ok (.goto 4, 3) := by decide +kernel
theorem dX8_isType_0 : decode cX8_isType 0 = .ok (.iload_n 1, 1) := by decide +kernel
theorem dX8_isType_1 : decode cX8_isType 1 = .ok (.iconst 0, 1) := by decide +kernel
theorem dX8_isType_2 : decode cX8_isType 2 = .ok (.aload_n 0, 1) := by decide +kernel
theorem q_680 : Cond.fieldLink "FieldMemberModel" 94 "FieldMemberModel" "types" "I" ∈ TT := tt_t (i := 680) (by decide +kernel) (by decide +kernel)
theorem dX8_isType_3 : decode cX8_isType 3 = .ok (.getfield 94, 3) := by decide +kernel
theorem dX8_isType_6 : decode cX8_isType 6 = .ok (.iconst 1, 1) := by decide +kernel
theorem dX8_isType_7 : decode cX8_isType 7 = .ok (.isub, 1) := by decide +kernel
theorem q_788 : Cond.methodLink "FieldMemberModel" 97 ⟨"FieldMemberModel", "in", "(III)Z"⟩ ∈ TT := tt_t (i := 788) (by decide +kernel) (by decide +kernel)
theorem q_790 : Cond.code ⟨"FieldMemberModel", "in", "(III)Z"⟩ prog_10_method_3_code 3 (some .boolean) ∈ TT := tt_t (i := 790) (by decide +kernel) (by decide +kernel)
theorem q_4 : Cond.initialized "FieldMemberModel" ∈ TT := tt_t (i := 4) (by decide +kernel) (by decide +kernel)
theorem q_789 : Cond.static ⟨"FieldMemberModel", "in", "(III)Z"⟩ ∈ TT := tt_t (i := 789) (by decide +kernel) (by decide +kernel)
theorem gS_X8_X8_in : GoodIn TT (va_wsS RX8 97 yX8_in (ww yX8_in cX8_in 3 (some .boolean))) := tt_S q_788 q_789 q_4 q_790
theorem hdS_X8_in : yX8_in.cls ≠ "java/lang/invoke/MethodHandle" ∧ yX8_in.cls ≠ "java/lang/invoke/VarHandle" ∧ (parseMethodDescriptor yX8_in.desc).map (fun d => d.parameters.length) = some 3 := by decide +kernel
theorem dX8_isType_8 : decode cX8_isType 8 = .ok (.invokestatic 97, 3) := by decide +kernel
theorem dX8_isType_11 : decode cX8_isType 11 = .ok (.ireturn, 1) := by decide +kernel
theorem dX8_isFace_0 : decode cX8_isFace 0 = .ok (.aload_n 0, 1) := by decide +kernel
theorem q_681 : Cond.fieldLink "FieldMemberModel" 7 "FieldMemberModel" "sorts" "[I" ∈ TT := tt_t (i := 681) (by decide +kernel) (by decide +kernel)
theorem dX8_isFace_1 : decode cX8_isFace 1 = .ok (.getfield 7, 3) := by decide +kernel
theorem dX8_isFace_4 : decode cX8_isFace 4 = .ok (.iload_n 1, 1) := by decide +kernel
theorem dX8_isFace_5 : decode cX8_isFace 5 = .ok (.iaload, 1) := by decide +kernel
theorem dX8_isFace_6 : decode cX8_isFace 6 = .ok (.iconst 3, 1) := by decide +kernel
theorem dX8_isFace_7 : decode cX8_isFace 7 = .ok (.if_icmp .ne 7, 3) := by decide +kernel
theorem dX8_isFace_14 : decode cX8_isFace 14 = .ok (.iconst 0, 1) := by decide +kernel
theorem dX8_isFace_15 : decode cX8_isFace 15 = .ok (.ireturn, 1) := by decide +kernel
theorem dX8_isFace_10 : decode cX8_isFace 10 = .ok (.iconst 1, 1) := by decide +kernel
theorem dX8_isFace_11 : decode cX8_isFace 11 = .ok (.goto 4, 3) := by decide +kernel
theorem dX8_lies_0 : decode cX8_lies 0 = .ok (.aload_n 0, 1) := by decide +kernel
theorem q_685 : Cond.fieldLink "FieldMemberModel" 22 "FieldMemberModel" "isBelow" "[Z" ∈ TT := tt_t (i := 685) (by decide +kernel) (by decide +kernel)
theorem dX8_lies_1 : decode cX8_lies 1 = .ok (.getfield 22, 3) := by decide +kernel
theorem dX8_lies_4 : decode cX8_lies 4 = .ok (.bipush 12, 2) := by decide +kernel
theorem dX8_lies_6 : decode cX8_lies 6 = .ok (.iload_n 1, 1) := by decide +kernel
theorem dX8_lies_7 : decode cX8_lies 7 = .ok (.imul, 1) := by decide +kernel
theorem dX8_lies_8 : decode cX8_lies 8 = .ok (.iload_n 2, 1) := by decide +kernel
theorem dX8_lies_9 : decode cX8_lies 9 = .ok (.iadd, 1) := by decide +kernel
theorem dX8_lies_10 : decode cX8_lies 10 = .ok (.baload, 1) := by decide +kernel
theorem dX8_lies_11 : decode cX8_lies 11 = .ok (.ireturn, 1) := by decide +kernel
theorem dX8_noKind_0 : decode cX8_noKind 0 = .ok (.iload_n 1, 1) := by decide +kernel
theorem dX8_noKind_1 : decode cX8_noKind 1 = .ok (.bipush 9, 2) := by decide +kernel
theorem dX8_noKind_3 : decode cX8_noKind 3 = .ok (.if_icmp .le 18, 3) := by decide +kernel
theorem dX8_noKind_21 : decode cX8_noKind 21 = .ok (.iconst 0, 1) := by decide +kernel
theorem dX8_noKind_22 : decode cX8_noKind 22 = .ok (.ireturn, 1) := by decide +kernel
theorem dX8_noKind_6 : decode cX8_noKind 6 = .ok (.aload_n 0, 1) := by decide +kernel
theorem dX8_noKind_7 : decode cX8_noKind 7 = .ok (.iload_n 1, 1) := by decide +kernel
theorem dX8_noKind_8 : decode cX8_noKind 8 = .ok (.bipush 10, 2) := by decide +kernel
theorem dX8_noKind_10 : decode cX8_noKind 10 = .ok (.isub, 1) := by decide +kernel
theorem q_791 : Cond.methodLink "FieldMemberModel" 104 ⟨"FieldMemberModel", "isType", "(I)Z"⟩ ∈ TT := tt_t (i := 791) (by decide +kernel) (by decide +kernel)
theorem q_794 : Cond.code ⟨"FieldMemberModel", "isType", "(I)Z"⟩ prog_10_method_4_code 2 (some .boolean) ∈ TT := tt_t (i := 794) (by decide +kernel) (by decide +kernel)
theorem q_793 : Cond.instanceMethod ⟨"FieldMemberModel", "isType", "(I)Z"⟩ ∈ TT := tt_t (i := 793) (by decide +kernel) (by decide +kernel)
theorem qs_31 : Cond.selects "FieldMemberModel" ⟨"FieldMemberModel", "isType", "(I)Z"⟩ ⟨"FieldMemberModel", "isType", "(I)Z"⟩ ∈ TT := tt_s (i := 31) (by decide +kernel) (by decide +kernel)
theorem gV_X8_X8_isType : GoodIn TT (wsV RX8 104 RX8 yX8_isType (ww yX8_isType cX8_isType 2 (some .boolean))) := tt_V q_791 q_793 qs_31 q_4 q_794
theorem hdV_X8_isType : yX8_isType.cls = RX8 ∧ yX8_isType.cls ≠ "java/lang/invoke/MethodHandle" ∧ yX8_isType.cls ≠ "java/lang/invoke/VarHandle" ∧ (parseMethodDescriptor yX8_isType.desc).map (fun d => d.parameters.length) = some 1 := by decide +kernel
theorem dX8_noKind_11 : decode cX8_noKind 11 = .ok (.invokevirtual 104, 3) := by decide +kernel
theorem dX8_noKind_14 : decode cX8_noKind 14 = .ok (.ifCond .ne 7, 3) := by decide +kernel
theorem dX8_noKind_17 : decode cX8_noKind 17 = .ok (.iconst 1, 1) := by decide +kernel
theorem dX8_noKind_18 : decode cX8_noKind 18 = .ok (.goto 4, 3) := by decide +kernel
theorem dX8_refusal_0 : decode cX8_refusal 0 = .ok (.aload_n 0, 1) := by decide +kernel
theorem dX8_refusal_1 : decode cX8_refusal 1 = .ok (.iload_n 1, 1) := by decide +kernel
theorem dX8_refusal_2 : decode cX8_refusal 2 = .ok (.invokevirtual 104, 3) := by decide +kernel
theorem dX8_refusal_5 : decode cX8_refusal 5 = .ok (.ifCond .eq 11, 3) := by decide +kernel
theorem dX8_refusal_16 : decode cX8_refusal 16 = .ok (.bipush (-11), 2) := by decide +kernel
theorem dX8_refusal_18 : decode cX8_refusal 18 = .ok (.ireturn, 1) := by decide +kernel
theorem dX8_refusal_8 : decode cX8_refusal 8 = .ok (.aload_n 0, 1) := by decide +kernel
theorem dX8_refusal_9 : decode cX8_refusal 9 = .ok (.iload_n 3, 1) := by decide +kernel
theorem q_827 : Cond.methodLink "FieldMemberModel" 130 ⟨"FieldMemberModel", "noKind", "(I)Z"⟩ ∈ TT := tt_t (i := 827) (by decide +kernel) (by decide +kernel)
theorem q_830 : Cond.code ⟨"FieldMemberModel", "noKind", "(I)Z"⟩ prog_10_method_14_code 2 (some .boolean) ∈ TT := tt_t (i := 830) (by decide +kernel) (by decide +kernel)
theorem q_829 : Cond.instanceMethod ⟨"FieldMemberModel", "noKind", "(I)Z"⟩ ∈ TT := tt_t (i := 829) (by decide +kernel) (by decide +kernel)
theorem qs_37 : Cond.selects "FieldMemberModel" ⟨"FieldMemberModel", "noKind", "(I)Z"⟩ ⟨"FieldMemberModel", "noKind", "(I)Z"⟩ ∈ TT := tt_s (i := 37) (by decide +kernel) (by decide +kernel)
theorem gV_X8_X8_noKind : GoodIn TT (wsV RX8 130 RX8 yX8_noKind (ww yX8_noKind cX8_noKind 2 (some .boolean))) := tt_V q_827 q_829 qs_37 q_4 q_830
theorem hdV_X8_noKind : yX8_noKind.cls = RX8 ∧ yX8_noKind.cls ≠ "java/lang/invoke/MethodHandle" ∧ yX8_noKind.cls ≠ "java/lang/invoke/VarHandle" ∧ (parseMethodDescriptor yX8_noKind.desc).map (fun d => d.parameters.length) = some 1 := by decide +kernel
theorem dX8_refusal_10 : decode cX8_refusal 10 = .ok (.invokevirtual 130, 3) := by decide +kernel
theorem dX8_refusal_13 : decode cX8_refusal 13 = .ok (.ifCond .eq 6, 3) := by decide +kernel
theorem dX8_refusal_19 : decode cX8_refusal 19 = .ok (.iload_n 2, 1) := by decide +kernel
theorem dX8_refusal_20 : decode cX8_refusal 20 = .ok (.iconst 0, 1) := by decide +kernel
theorem dX8_refusal_21 : decode cX8_refusal 21 = .ok (.bipush 49, 2) := by decide +kernel
theorem dX8_refusal_23 : decode cX8_refusal 23 = .ok (.invokestatic 97, 3) := by decide +kernel
theorem dX8_refusal_26 : decode cX8_refusal 26 = .ok (.ifCond .eq 44, 3) := by decide +kernel
theorem dX8_refusal_70 : decode cX8_refusal 70 = .ok (.bipush (-13), 2) := by decide +kernel
theorem dX8_refusal_72 : decode cX8_refusal 72 = .ok (.ireturn, 1) := by decide +kernel
theorem dX8_refusal_29 : decode cX8_refusal 29 = .ok (.iload_n 3, 1) := by decide +kernel
theorem dX8_refusal_30 : decode cX8_refusal 30 = .ok (.ifCond .lt 40, 3) := by decide +kernel
theorem dX8_refusal_33 : decode cX8_refusal 33 = .ok (.iload_n 3, 1) := by decide +kernel
theorem dX8_refusal_34 : decode cX8_refusal 34 = .ok (.bipush 9, 2) := by decide +kernel
theorem dX8_refusal_36 : decode cX8_refusal 36 = .ok (.if_icmp .eq 34, 3) := by decide +kernel
theorem dX8_refusal_39 : decode cX8_refusal 39 = .ok (.iload 4, 2) := by decide +kernel
theorem dX8_refusal_41 : decode cX8_refusal 41 = .ok (.iconst 0, 1) := by decide +kernel
theorem dX8_refusal_42 : decode cX8_refusal 42 = .ok (.iconst 3, 1) := by decide +kernel
theorem dX8_refusal_43 : decode cX8_refusal 43 = .ok (.invokestatic 97, 3) := by decide +kernel
theorem dX8_refusal_46 : decode cX8_refusal 46 = .ok (.ifCond .eq 24, 3) := by decide +kernel
theorem dX8_refusal_49 : decode cX8_refusal 49 = .ok (.iload_n 3, 1) := by decide +kernel
theorem dX8_refusal_50 : decode cX8_refusal 50 = .ok (.ifCond .ne 8, 3) := by decide +kernel
theorem dX8_refusal_58 : decode cX8_refusal 58 = .ok (.iload 5, 2) := by decide +kernel
theorem dX8_refusal_60 : decode cX8_refusal 60 = .ok (.iconst 0, 1) := by decide +kernel
theorem dX8_refusal_61 : decode cX8_refusal 61 = .ok (.sipush 2047, 3) := by decide +kernel
theorem dX8_refusal_64 : decode cX8_refusal 64 = .ok (.invokestatic 97, 3) := by decide +kernel
theorem dX8_refusal_67 : decode cX8_refusal 67 = .ok (.ifCond .ne 6, 3) := by decide +kernel
theorem dX8_refusal_73 : decode cX8_refusal 73 = .ok (.aload_n 0, 1) := by decide +kernel
theorem q_700 : Cond.fieldLink "FieldMemberModel" 122 "FieldMemberModel" "isBegun" "Z" ∈ TT := tt_t (i := 700) (by decide +kernel) (by decide +kernel)
theorem dX8_refusal_74 : decode cX8_refusal 74 = .ok (.getfield 122, 3) := by decide +kernel
theorem dX8_refusal_77 : decode cX8_refusal 77 = .ok (.ifCond .eq 8, 3) := by decide +kernel
theorem dX8_refusal_85 : decode cX8_refusal 85 = .ok (.aload_n 0, 1) := by decide +kernel
theorem q_686 : Cond.fieldLink "FieldMemberModel" 119 "FieldMemberModel" "entries" "I" ∈ TT := tt_t (i := 686) (by decide +kernel) (by decide +kernel)
theorem dX8_refusal_86 : decode cX8_refusal 86 = .ok (.getfield 119, 3) := by decide +kernel
theorem dX8_refusal_89 : decode cX8_refusal 89 = .ok (.bipush 60, 2) := by decide +kernel
theorem dX8_refusal_91 : decode cX8_refusal 91 = .ok (.if_icmp .ne 8, 3) := by decide +kernel
theorem dX8_refusal_99 : decode cX8_refusal 99 = .ok (.iconst 0, 1) := by decide +kernel
theorem dX8_refusal_100 : decode cX8_refusal 100 = .ok (.ireturn, 1) := by decide +kernel
theorem dX8_refusal_94 : decode cX8_refusal 94 = .ok (.bipush (-15), 2) := by decide +kernel
theorem dX8_refusal_96 : decode cX8_refusal 96 = .ok (.goto 4, 3) := by decide +kernel
theorem dX8_refusal_80 : decode cX8_refusal 80 = .ok (.bipush (-14), 2) := by decide +kernel
theorem dX8_refusal_82 : decode cX8_refusal 82 = .ok (.goto 18, 3) := by decide +kernel
theorem dX8_refusal_53 : decode cX8_refusal 53 = .ok (.iload 4, 2) := by decide +kernel
theorem dX8_refusal_55 : decode cX8_refusal 55 = .ok (.ifCond .gt 15, 3) := by decide +kernel
theorem dX8_bits_0 : decode cX8_bits 0 = .ok (.iconst 0, 1) := by decide +kernel
theorem dX8_bits_1 : decode cX8_bits 1 = .ok (.istore_n 1, 1) := by decide +kernel
theorem dX8_bits_2 : decode cX8_bits 2 = .ok (.iconst 0, 1) := by decide +kernel
theorem dX8_bits_3 : decode cX8_bits 3 = .ok (.istore_n 2, 1) := by decide +kernel
theorem dX8_bits_4 : decode cX8_bits 4 = .ok (.iload_n 2, 1) := by decide +kernel
theorem dX8_bits_5 : decode cX8_bits 5 = .ok (.bipush 11, 2) := by decide +kernel
theorem dX8_bits_7 : decode cX8_bits 7 = .ok (.if_icmp .ge 17, 3) := by decide +kernel
theorem dX8_bits_24 : decode cX8_bits 24 = .ok (.iload_n 1, 1) := by decide +kernel
theorem dX8_bits_25 : decode cX8_bits 25 = .ok (.ireturn, 1) := by decide +kernel
theorem dX8_bits_10 : decode cX8_bits 10 = .ok (.iload_n 1, 1) := by decide +kernel
theorem dX8_bits_11 : decode cX8_bits 11 = .ok (.iload_n 0, 1) := by decide +kernel
theorem dX8_bits_12 : decode cX8_bits 12 = .ok (.iload_n 2, 1) := by decide +kernel
theorem dX8_bits_13 : decode cX8_bits 13 = .ok (.ishr, 1) := by decide +kernel
theorem dX8_bits_14 : decode cX8_bits 14 = .ok (.iconst 1, 1) := by decide +kernel
theorem dX8_bits_15 : decode cX8_bits 15 = .ok (.iand, 1) := by decide +kernel
theorem dX8_bits_16 : decode cX8_bits 16 = .ok (.iadd, 1) := by decide +kernel
theorem dX8_bits_17 : decode cX8_bits 17 = .ok (.istore_n 1, 1) := by decide +kernel
theorem dX8_bits_18 : decode cX8_bits 18 = .ok (.iinc 2 1, 3) := by decide +kernel
theorem dX8_bits_21 : decode cX8_bits 21 = .ok (.goto (-17), 3) := by decide +kernel
theorem dX8_fieldOf_0 : decode cX8_fieldOf 0 = .ok (.iconst 0, 1) := by decide +kernel
theorem dX8_fieldOf_1 : decode cX8_fieldOf 1 = .ok (.istore_n 3, 1) := by decide +kernel
theorem dX8_fieldOf_2 : decode cX8_fieldOf 2 = .ok (.iload_n 3, 1) := by decide +kernel
theorem dX8_fieldOf_3 : decode cX8_fieldOf 3 = .ok (.aload_n 0, 1) := by decide +kernel
theorem dX8_fieldOf_4 : decode cX8_fieldOf 4 = .ok (.getfield 119, 3) := by decide +kernel
theorem dX8_fieldOf_7 : decode cX8_fieldOf 7 = .ok (.if_icmp .ge 40, 3) := by decide +kernel
theorem dX8_fieldOf_47 : decode cX8_fieldOf 47 = .ok (.iconst (-1), 1) := by decide +kernel
theorem dX8_fieldOf_48 : decode cX8_fieldOf 48 = .ok (.ireturn, 1) := by decide +kernel
theorem dX8_fieldOf_10 : decode cX8_fieldOf 10 = .ok (.aload_n 0, 1) := by decide +kernel
theorem q_687 : Cond.fieldLink "FieldMemberModel" 26 "FieldMemberModel" "isMember" "[Z" ∈ TT := tt_t (i := 687) (by decide +kernel) (by decide +kernel)
theorem dX8_fieldOf_11 : decode cX8_fieldOf 11 = .ok (.getfield 26, 3) := by decide +kernel
theorem dX8_fieldOf_14 : decode cX8_fieldOf 14 = .ok (.iload_n 3, 1) := by decide +kernel
theorem dX8_fieldOf_15 : decode cX8_fieldOf 15 = .ok (.baload, 1) := by decide +kernel
theorem dX8_fieldOf_16 : decode cX8_fieldOf 16 = .ok (.ifCond .ne 25, 3) := by decide +kernel
theorem dX8_fieldOf_41 : decode cX8_fieldOf 41 = .ok (.iinc 3 1, 3) := by decide +kernel
theorem dX8_fieldOf_44 : decode cX8_fieldOf 44 = .ok (.goto (-42), 3) := by decide +kernel
theorem dX8_fieldOf_19 : decode cX8_fieldOf 19 = .ok (.aload_n 0, 1) := by decide +kernel
theorem q_688 : Cond.fieldLink "FieldMemberModel" 29 "FieldMemberModel" "ofType" "[I" ∈ TT := tt_t (i := 688) (by decide +kernel) (by decide +kernel)
theorem dX8_fieldOf_20 : decode cX8_fieldOf 20 = .ok (.getfield 29, 3) := by decide +kernel
theorem dX8_fieldOf_23 : decode cX8_fieldOf 23 = .ok (.iload_n 3, 1) := by decide +kernel
theorem dX8_fieldOf_24 : decode cX8_fieldOf 24 = .ok (.iaload, 1) := by decide +kernel
theorem dX8_fieldOf_25 : decode cX8_fieldOf 25 = .ok (.iload_n 1, 1) := by decide +kernel
theorem dX8_fieldOf_26 : decode cX8_fieldOf 26 = .ok (.if_icmp .ne 15, 3) := by decide +kernel
theorem dX8_fieldOf_29 : decode cX8_fieldOf 29 = .ok (.aload_n 0, 1) := by decide +kernel
theorem q_689 : Cond.fieldLink "FieldMemberModel" 32 "FieldMemberModel" "names" "[I" ∈ TT := tt_t (i := 689) (by decide +kernel) (by decide +kernel)
theorem dX8_fieldOf_30 : decode cX8_fieldOf 30 = .ok (.getfield 32, 3) := by decide +kernel
theorem dX8_fieldOf_33 : decode cX8_fieldOf 33 = .ok (.iload_n 3, 1) := by decide +kernel
theorem dX8_fieldOf_34 : decode cX8_fieldOf 34 = .ok (.iaload, 1) := by decide +kernel
theorem dX8_fieldOf_35 : decode cX8_fieldOf 35 = .ok (.iload_n 2, 1) := by decide +kernel
theorem dX8_fieldOf_36 : decode cX8_fieldOf 36 = .ok (.if_icmp .ne 5, 3) := by decide +kernel
theorem dX8_fieldOf_39 : decode cX8_fieldOf 39 = .ok (.iload_n 3, 1) := by decide +kernel
theorem dX8_fieldOf_40 : decode cX8_fieldOf 40 = .ok (.ireturn, 1) := by decide +kernel
theorem dX8_ruleOfField_0 : decode cX8_ruleOfField 0 = .ok (.iload 4, 2) := by decide +kernel
theorem dX8_ruleOfField_2 : decode cX8_ruleOfField 2 = .ok (.bipush 127, 2) := by decide +kernel
theorem dX8_ruleOfField_4 : decode cX8_ruleOfField 4 = .ok (.if_icmp .le 5, 3) := by decide +kernel
theorem dX8_ruleOfField_9 : decode cX8_ruleOfField 9 = .ok (.iload 4, 2) := by decide +kernel
theorem dX8_ruleOfField_11 : decode cX8_ruleOfField 11 = .ok (.bipush 7, 2) := by decide +kernel
theorem dX8_ruleOfField_13 : decode cX8_ruleOfField 13 = .ok (.iand, 1) := by decide +kernel
theorem q_835 : Cond.methodLink "FieldMemberModel" 149 ⟨"FieldMemberModel", "bits", "(I)I"⟩ ∈ TT := tt_t (i := 835) (by decide +kernel) (by decide +kernel)
theorem q_837 : Cond.code ⟨"FieldMemberModel", "bits", "(I)I"⟩ prog_10_method_7_code 3 (some .int) ∈ TT := tt_t (i := 837) (by decide +kernel) (by decide +kernel)
theorem q_836 : Cond.static ⟨"FieldMemberModel", "bits", "(I)I"⟩ ∈ TT := tt_t (i := 836) (by decide +kernel) (by decide +kernel)
theorem gS_X8_X8_bits : GoodIn TT (va_wsS RX8 149 yX8_bits (ww yX8_bits cX8_bits 3 (some .int))) := tt_S q_835 q_836 q_4 q_837
theorem hdS_X8_bits : yX8_bits.cls ≠ "java/lang/invoke/MethodHandle" ∧ yX8_bits.cls ≠ "java/lang/invoke/VarHandle" ∧ (parseMethodDescriptor yX8_bits.desc).map (fun d => d.parameters.length) = some 1 := by decide +kernel
theorem dX8_ruleOfField_14 : decode cX8_ruleOfField 14 = .ok (.invokestatic 149, 3) := by decide +kernel
theorem dX8_ruleOfField_17 : decode cX8_ruleOfField 17 = .ok (.iconst 1, 1) := by decide +kernel
theorem dX8_ruleOfField_18 : decode cX8_ruleOfField 18 = .ok (.if_icmp .le 5, 3) := by decide +kernel
theorem dX8_ruleOfField_23 : decode cX8_ruleOfField 23 = .ok (.iload 4, 2) := by decide +kernel
theorem dX8_ruleOfField_25 : decode cX8_ruleOfField 25 = .ok (.bipush 16, 2) := by decide +kernel
theorem dX8_ruleOfField_27 : decode cX8_ruleOfField 27 = .ok (.iand, 1) := by decide +kernel
theorem dX8_ruleOfField_28 : decode cX8_ruleOfField 28 = .ok (.ifCond .le 13, 3) := by decide +kernel
theorem dX8_ruleOfField_41 : decode cX8_ruleOfField 41 = .ok (.aload_n 0, 1) := by decide +kernel
theorem dX8_ruleOfField_42 : decode cX8_ruleOfField 42 = .ok (.iload_n 1, 1) := by decide +kernel
theorem q_807 : Cond.methodLink "FieldMemberModel" 116 ⟨"FieldMemberModel", "isFace", "(I)Z"⟩ ∈ TT := tt_t (i := 807) (by decide +kernel) (by decide +kernel)
theorem q_810 : Cond.code ⟨"FieldMemberModel", "isFace", "(I)Z"⟩ prog_10_method_5_code 2 (some .boolean) ∈ TT := tt_t (i := 810) (by decide +kernel) (by decide +kernel)
theorem q_809 : Cond.instanceMethod ⟨"FieldMemberModel", "isFace", "(I)Z"⟩ ∈ TT := tt_t (i := 809) (by decide +kernel) (by decide +kernel)
theorem qs_34 : Cond.selects "FieldMemberModel" ⟨"FieldMemberModel", "isFace", "(I)Z"⟩ ⟨"FieldMemberModel", "isFace", "(I)Z"⟩ ∈ TT := tt_s (i := 34) (by decide +kernel) (by decide +kernel)
theorem gV_X8_X8_isFace : GoodIn TT (wsV RX8 116 RX8 yX8_isFace (ww yX8_isFace cX8_isFace 2 (some .boolean))) := tt_V q_807 q_809 qs_34 q_4 q_810
theorem hdV_X8_isFace : yX8_isFace.cls = RX8 ∧ yX8_isFace.cls ≠ "java/lang/invoke/MethodHandle" ∧ yX8_isFace.cls ≠ "java/lang/invoke/VarHandle" ∧ (parseMethodDescriptor yX8_isFace.desc).map (fun d => d.parameters.length) = some 1 := by decide +kernel
theorem dX8_ruleOfField_43 : decode cX8_ruleOfField 43 = .ok (.invokevirtual 116, 3) := by decide +kernel
theorem dX8_ruleOfField_46 : decode cX8_ruleOfField 46 = .ok (.ifCond .eq 13, 3) := by decide +kernel
theorem dX8_ruleOfField_59 : decode cX8_ruleOfField 59 = .ok (.iload_n 3, 1) := by decide +kernel
theorem dX8_ruleOfField_60 : decode cX8_ruleOfField 60 = .ok (.ifCond .ne 7, 3) := by decide +kernel
theorem dX8_ruleOfField_67 : decode cX8_ruleOfField 67 = .ok (.aload_n 0, 1) := by decide +kernel
theorem dX8_ruleOfField_68 : decode cX8_ruleOfField 68 = .ok (.iload_n 1, 1) := by decide +kernel
theorem dX8_ruleOfField_69 : decode cX8_ruleOfField 69 = .ok (.iload_n 2, 1) := by decide +kernel
theorem q_838 : Cond.methodLink "FieldMemberModel" 152 ⟨"FieldMemberModel", "fieldOf", "(II)I"⟩ ∈ TT := tt_t (i := 838) (by decide +kernel) (by decide +kernel)
theorem q_841 : Cond.code ⟨"FieldMemberModel", "fieldOf", "(II)I"⟩ prog_10_method_18_code 4 (some .int) ∈ TT := tt_t (i := 841) (by decide +kernel) (by decide +kernel)
theorem q_840 : Cond.instanceMethod ⟨"FieldMemberModel", "fieldOf", "(II)I"⟩ ∈ TT := tt_t (i := 840) (by decide +kernel) (by decide +kernel)
theorem qs_39 : Cond.selects "FieldMemberModel" ⟨"FieldMemberModel", "fieldOf", "(II)I"⟩ ⟨"FieldMemberModel", "fieldOf", "(II)I"⟩ ∈ TT := tt_s (i := 39) (by decide +kernel) (by decide +kernel)
theorem gV_X8_X8_fieldOf : GoodIn TT (wsV RX8 152 RX8 yX8_fieldOf (ww yX8_fieldOf cX8_fieldOf 4 (some .int))) := tt_V q_838 q_840 qs_39 q_4 q_841
theorem hdV_X8_fieldOf : yX8_fieldOf.cls = RX8 ∧ yX8_fieldOf.cls ≠ "java/lang/invoke/MethodHandle" ∧ yX8_fieldOf.cls ≠ "java/lang/invoke/VarHandle" ∧ (parseMethodDescriptor yX8_fieldOf.desc).map (fun d => d.parameters.length) = some 2 := by decide +kernel
theorem dX8_ruleOfField_70 : decode cX8_ruleOfField 70 = .ok (.invokevirtual 152, 3) := by decide +kernel
theorem dX8_ruleOfField_73 : decode cX8_ruleOfField 73 = .ok (.iconst (-1), 1) := by decide +kernel
theorem dX8_ruleOfField_74 : decode cX8_ruleOfField 74 = .ok (.if_icmp .ne 7, 3) := by decide +kernel
theorem dX8_ruleOfField_81 : decode cX8_ruleOfField 81 = .ok (.bipush 6, 2) := by decide +kernel
theorem dX8_ruleOfField_83 : decode cX8_ruleOfField 83 = .ok (.ireturn, 1) := by decide +kernel
theorem dX8_ruleOfField_77 : decode cX8_ruleOfField 77 = .ok (.iconst 0, 1) := by decide +kernel
theorem dX8_ruleOfField_78 : decode cX8_ruleOfField 78 = .ok (.goto 5, 3) := by decide +kernel
theorem dX8_ruleOfField_63 : decode cX8_ruleOfField 63 = .ok (.iconst 5, 1) := by decide +kernel
theorem dX8_ruleOfField_64 : decode cX8_ruleOfField 64 = .ok (.goto 19, 3) := by decide +kernel
theorem dX8_ruleOfField_49 : decode cX8_ruleOfField 49 = .ok (.iload 4, 2) := by decide +kernel
theorem dX8_ruleOfField_51 : decode cX8_ruleOfField 51 = .ok (.bipush (-26), 2) := by decide +kernel
theorem dX8_ruleOfField_53 : decode cX8_ruleOfField 53 = .ok (.iand, 1) := by decide +kernel
theorem dX8_ruleOfField_54 : decode cX8_ruleOfField 54 = .ok (.ifCond .le 5, 3) := by decide +kernel
theorem dX8_ruleOfField_57 : decode cX8_ruleOfField 57 = .ok (.iconst 4, 1) := by decide +kernel
theorem dX8_ruleOfField_58 : decode cX8_ruleOfField 58 = .ok (.ireturn, 1) := by decide +kernel
theorem dX8_ruleOfField_31 : decode cX8_ruleOfField 31 = .ok (.iload 4, 2) := by decide +kernel
theorem dX8_ruleOfField_33 : decode cX8_ruleOfField 33 = .ok (.bipush 32, 2) := by decide +kernel
theorem dX8_ruleOfField_35 : decode cX8_ruleOfField 35 = .ok (.iand, 1) := by decide +kernel
theorem dX8_ruleOfField_36 : decode cX8_ruleOfField 36 = .ok (.ifCond .le 5, 3) := by decide +kernel
theorem dX8_ruleOfField_39 : decode cX8_ruleOfField 39 = .ok (.iconst 3, 1) := by decide +kernel
theorem dX8_ruleOfField_40 : decode cX8_ruleOfField 40 = .ok (.ireturn, 1) := by decide +kernel
theorem dX8_ruleOfField_21 : decode cX8_ruleOfField 21 = .ok (.iconst 2, 1) := by decide +kernel
theorem dX8_ruleOfField_22 : decode cX8_ruleOfField 22 = .ok (.ireturn, 1) := by decide +kernel
theorem dX8_ruleOfField_7 : decode cX8_ruleOfField 7 = .ok (.iconst 1, 1) := by decide +kernel
theorem dX8_ruleOfField_8 : decode cX8_ruleOfField 8 = .ok (.ireturn, 1) := by decide +kernel
theorem dX8_isEntry_0 : decode cX8_isEntry 0 = .ok (.iload_n 1, 1) := by decide +kernel
theorem dX8_isEntry_1 : decode cX8_isEntry 1 = .ok (.iconst 0, 1) := by decide +kernel
theorem dX8_isEntry_2 : decode cX8_isEntry 2 = .ok (.aload_n 0, 1) := by decide +kernel
theorem dX8_isEntry_3 : decode cX8_isEntry 3 = .ok (.getfield 119, 3) := by decide +kernel
theorem dX8_isEntry_6 : decode cX8_isEntry 6 = .ok (.iconst 1, 1) := by decide +kernel
theorem dX8_isEntry_7 : decode cX8_isEntry 7 = .ok (.isub, 1) := by decide +kernel
theorem dX8_isEntry_8 : decode cX8_isEntry 8 = .ok (.invokestatic 97, 3) := by decide +kernel
theorem dX8_isEntry_11 : decode cX8_isEntry 11 = .ok (.ireturn, 1) := by decide +kernel
set_option maxHeartbeats 4000000 in
set_option maxRecDepth 100000 in
theorem m_thrown (l : Launch) (D : va_G) (G : Nat → ClassId) (H : Heap) (mo : Nat) (ad : Nat → Nat) (σ : MS) (τ : Nat → Int64) (hP : va_P D vwCl (mW G mo ad σ τ) H)  : Met l yX8_thrown (ww yX8_thrown cX8_thrown 1 (some .int)) (rmD 0) (roP D G H [.ref mo]) (vp_Si (fun r => r = σ 0 0)) 0 0 (fun _ => False) := by
  refine Met.ofW (cc := cX8_thrown) (maxL := 1) (ret := (some .int)) (by decide) rfl ?_
  intro p e s m args below meth c s₁ B hml hv
  obtain ⟨rfl, hH, hK⟩ := hv
  have hx := B.exec
  have hb := B.bytes
  have hr := B.returns
  have hts : ∀ w ∈ TT, w.before _ s = true := fun w h => atoms_spec (ws := ww yX8_thrown cX8_thrown 1 (some .int)) B.pre w (List.mem_cons_of_mem _ h)
  have hown : s.vm.findClass RX8 = some m.cls := findClass_of_methodNamed B.named
  have hlocks := B.notSynchronized
  rw [hH]
  have hl := lv_entry ([.ref mo]) (n := 1) (Nat.le_of_ble_eq_true rfl)
  rw [lg_entry_eq]
  generalize (lg_sl ([.ref mo]) ++ List.replicate (1 - (lg_sl ([.ref mo])).length) Slot.unset).toArray = ls at hl ⊢
  have hl : lv_has ls 1 [(0, .ref mo)] := hl
  refine lv_aload_n hx hb dX8_thrown_0 rfl (lv_at hl 0 rfl) ?_
  refine va_get (D := D) (ci := 8) (v := .int (σ 0 0)) (C := RX8) (T := TX8) (N := 33) hx hb hts iX8 hown hK.1 hP 0 rfl rfl 0 (by decide) (hts _ q_679) (fun _ h9 => h9) rfl dX8_thrown_1 ?_
  exact ro_iret (v := σ 0 0) hx hb hr hH hlocks dX8_thrown_4 (rfl)
set_option maxHeartbeats 4000000 in
set_option maxRecDepth 100000 in
theorem m_in (l : Launch) (D : va_G) (G : Nat → ClassId) (H : Heap) (v : Int32) (lo : Int32) (hi : Int32) : Met l yX8_in (ww yX8_in cX8_in 3 (some .boolean)) (rmD 0) (roP D G H [.int v, .int lo, .int hi]) (vp_Si (fun r => r = bI (lo ≤ v ∧ v ≤ hi))) 0 0 (fun _ => False) := by
  refine Met.ofW (cc := cX8_in) (maxL := 3) (ret := (some .boolean)) (by decide) rfl ?_
  intro p e s m args below meth c s₁ B hml hv
  obtain ⟨rfl, hH, hK⟩ := hv
  have hx := B.exec
  have hb := B.bytes
  have hr := B.returns
  have hts : ∀ w ∈ TT, w.before _ s = true := fun w h => atoms_spec (ws := ww yX8_in cX8_in 3 (some .boolean)) B.pre w (List.mem_cons_of_mem _ h)
  have hown : s.vm.findClass RX8 = some m.cls := findClass_of_methodNamed B.named
  have hlocks := B.notSynchronized
  rw [hH]
  have hl := lv_entry ([.int v, .int lo, .int hi]) (n := 3) (Nat.le_of_ble_eq_true rfl)
  rw [lg_entry_eq]
  generalize (lg_sl ([.int v, .int lo, .int hi]) ++ List.replicate (3 - (lg_sl ([.int v, .int lo, .int hi])).length) Slot.unset).toArray = ls at hl ⊢
  have hl : lv_has ls 3 [(0, .int v), (1, .int lo), (2, .int hi)] := hl
  refine lv_iload_n hx hb dX8_in_0 rfl (lv_at hl 0 rfl) ?_
  refine lv_iload_n hx hb dX8_in_1 rfl (lv_at hl 1 rfl) ?_
  refine lv_icmp_lt (tgt := 14) hx hb dX8_in_2 (by decide) (fun c1 => ?_) (fun c1 => ?_)
  · -- 2 taken
    refine lv_iconst (v := 0) hx hb dX8_in_14 (by decide) ?_
    exact ro_zret (v := 0) hx hb hr hH hlocks dX8_in_15 (Or.inl rfl) ((bI_f (by simp only [i_le, i_lt, i_eq, Int32.reduceToInt] at c1 ⊢; omega)).symm)
  · -- 2 not
    refine lv_iload_n hx hb dX8_in_5 rfl (lv_at hl 0 rfl) ?_
    refine lv_iload_n hx hb dX8_in_6 rfl (lv_at hl 2 rfl) ?_
    refine lv_icmp_gt (tgt := 14) hx hb dX8_in_7 (by decide) (fun c2 => ?_) (fun c2 => ?_)
    · -- 7 taken
      refine lv_iconst (v := 0) hx hb dX8_in_14 (by decide) ?_
      exact ro_zret (v := 0) hx hb hr hH hlocks dX8_in_15 (Or.inl rfl) ((bI_f (by simp only [i_le, i_lt, i_eq, Int32.reduceToInt] at c1 c2 ⊢; omega)).symm)
    · -- 7 not
      refine lv_iconst (v := 1) hx hb dX8_in_10 (by decide) ?_
      refine lv_goto (tgt := 15) hx hb dX8_in_11 (by decide) ?_
      exact ro_zret (v := 1) hx hb hr hH hlocks dX8_in_15 (Or.inr rfl) ((bI_t (by simp only [i_le, i_lt, i_eq, Int32.reduceToInt] at c1 c2 ⊢; omega)).symm)
set_option maxHeartbeats 4000000 in
set_option maxRecDepth 100000 in
theorem m_isType (l : Launch) (D : va_G) (G : Nat → ClassId) (H : Heap) (mo : Nat) (ad : Nat → Nat) (σ : MS) (τ : Nat → Int64) (hP : va_P D vwCl (mW G mo ad σ τ) H) (n : Nat) (h1 : σ 1 0 = nI n) (hn : n ≤ 12) (t : Int32) : Met l yX8_isType (ww yX8_isType cX8_isType 2 (some .boolean)) (rmD 1) (roP D G H [.ref mo, .int t]) (vp_Si (fun r => r = bI (okN n t))) 0 0 (fun _ => False) := by
  refine Met.ofW (cc := cX8_isType) (maxL := 2) (ret := (some .boolean)) (by decide) rfl ?_
  intro p e s m args below meth c s₁ B hml hv
  obtain ⟨rfl, hH, hK⟩ := hv
  have hx := B.exec
  have hb := B.bytes
  have hr := B.returns
  have hts : ∀ w ∈ TT, w.before _ s = true := fun w h => atoms_spec (ws := ww yX8_isType cX8_isType 2 (some .boolean)) B.pre w (List.mem_cons_of_mem _ h)
  have hown : s.vm.findClass RX8 = some m.cls := findClass_of_methodNamed B.named
  have hlocks := B.notSynchronized
  rw [hH]
  have hl := lv_entry ([.ref mo, .int t]) (n := 2) (Nat.le_of_ble_eq_true rfl)
  rw [lg_entry_eq]
  generalize (lg_sl ([.ref mo, .int t]) ++ List.replicate (2 - (lg_sl ([.ref mo, .int t])).length) Slot.unset).toArray = ls at hl ⊢
  have hl : lv_has ls 2 [(0, .ref mo), (1, .int t)] := hl
  refine lv_iload_n hx hb dX8_isType_0 rfl (lv_at hl 1 rfl) ?_
  refine lv_iconst (v := 0) hx hb dX8_isType_1 (by decide) ?_
  refine lv_aload_n hx hb dX8_isType_2 rfl (lv_at hl 0 rfl) ?_
  refine va_get (D := D) (ci := 8) (v := .int (σ 1 0)) (C := RX8) (T := TX8) (N := 33) hx hb hts iX8 hown hK.1 hP 0 rfl rfl 1 (by decide) (hts _ q_680) (fun _ h9 => h9) rfl dX8_isType_3 ?_
  refine lv_iconst (v := 1) hx hb dX8_isType_6 (by decide) ?_
  refine lv_isub hx hb dX8_isType_7 ?_
  refine ro_Si (D := D) (G := G) (As := [.int t, .int 0, .int ((σ 1 0) - 1)]) (rest := []) ⟨hx, hb, hml, hown, hts⟩ (m_in l D G _ t 0 ((σ 1 0) - 1)) gS_X8_X8_in hdS_X8_in ⟨Nat.le_of_ble_eq_true rfl, Nat.le_of_ble_eq_true rfl⟩ hK rfl hl.1 rfl (Nat.le_of_ble_eq_true rfl) dX8_isType_8 ⟨Nat.le_of_ble_eq_true rfl, Nat.le_of_ble_eq_true rfl⟩ (fun r1 e_r1 => ?_)
  subst e_r1
  exact ro_zret (v := bI (0 ≤ t ∧ t ≤ (σ 1 0) - 1)) hx hb hr hH hlocks dX8_isType_11 bI_b (by rw [h1]; exact bI_c (okN_iff (by omega)))
set_option maxHeartbeats 4000000 in
set_option maxRecDepth 100000 in
theorem m_isFace (l : Launch) (D : va_G) (G : Nat → ClassId) (H : Heap) (mo : Nat) (ad : Nat → Nat) (σ : MS) (τ : Nat → Int64) (hP : va_P D vwCl (mW G mo ad σ τ) H) (t : Nat) (ht : t < 12) : Met l yX8_isFace (ww yX8_isFace cX8_isFace 2 (some .boolean)) (rmD 0) (roP D G H [.ref mo, .int (nI t)]) (vp_Si (fun r => r = bI (σ 2 t = 3))) 0 0 (fun _ => False) := by
  refine Met.ofW (cc := cX8_isFace) (maxL := 2) (ret := (some .boolean)) (by decide) rfl ?_
  intro p e s m args below meth c s₁ B hml hv
  obtain ⟨rfl, hH, hK⟩ := hv
  have hx := B.exec
  have hb := B.bytes
  have hr := B.returns
  have hts : ∀ w ∈ TT, w.before _ s = true := fun w h => atoms_spec (ws := ww yX8_isFace cX8_isFace 2 (some .boolean)) B.pre w (List.mem_cons_of_mem _ h)
  have hown : s.vm.findClass RX8 = some m.cls := findClass_of_methodNamed B.named
  have hlocks := B.notSynchronized
  rw [hH]
  have hl := lv_entry ([.ref mo, .int (nI t)]) (n := 2) (Nat.le_of_ble_eq_true rfl)
  rw [lg_entry_eq]
  generalize (lg_sl ([.ref mo, .int (nI t)]) ++ List.replicate (2 - (lg_sl ([.ref mo, .int (nI t)])).length) Slot.unset).toArray = ls at hl ⊢
  have hl : lv_has ls 2 [(0, .ref mo), (1, .int (nI t))] := hl
  refine lv_aload_n hx hb dX8_isFace_0 rfl (lv_at hl 0 rfl) ?_
  refine va_get (D := D) (ci := 8) (v := .ref ((ad 2))) (C := RX8) (T := TX8) (N := 33) hx hb hts iX8 hown hK.1 hP 0 rfl rfl 2 (by decide) (hts _ q_681) (fun _ h9 => h9) rfl dX8_isFace_1 ?_
  refine lv_iload_n hx hb dX8_isFace_4 rfl (lv_at hl 1 rfl) ?_
  refine iald_n (f := σ 2) hx hb hK.1 hP 1 0 rfl rfl (t) rfl (by omega) (by decide) dX8_isFace_5 ?_
  refine lv_iconst (v := 3) hx hb dX8_isFace_6 (by decide) ?_
  refine lv_icmp_ne (tgt := 14) hx hb dX8_isFace_7 (by decide) (fun c1 => ?_) (fun c1 => ?_)
  · -- 7 taken
    refine lv_iconst (v := 0) hx hb dX8_isFace_14 (by decide) ?_
    exact ro_zret (v := 0) hx hb hr hH hlocks dX8_isFace_15 (Or.inl rfl) ((bI_f c1).symm)
  · -- 7 not
    refine lv_iconst (v := 1) hx hb dX8_isFace_10 (by decide) ?_
    refine lv_goto (tgt := 15) hx hb dX8_isFace_11 (by decide) ?_
    exact ro_zret (v := 1) hx hb hr hH hlocks dX8_isFace_15 (Or.inr rfl) ((bI_t c1).symm)
set_option maxHeartbeats 4000000 in
set_option maxRecDepth 100000 in
theorem m_lies (l : Launch) (D : va_G) (G : Nat → ClassId) (H : Heap) (mo : Nat) (ad : Nat → Nat) (σ : MS) (τ : Nat → Int64) (hP : va_P D vwCl (mW G mo ad σ τ) H) (t o : Nat) (ht : t < 12) (ho : o < 12) (hb6 : ∀ i, σ 6 i = 0 ∨ σ 6 i = 1) : Met l yX8_lies (ww yX8_lies cX8_lies 3 (some .boolean)) (rmD 0) (roP D G H [.ref mo, .int (nI t), .int (nI o)]) (vp_Si (fun r => r = bI (lyP σ t o))) 0 0 (fun _ => False) := by
  refine Met.ofW (cc := cX8_lies) (maxL := 3) (ret := (some .boolean)) (by decide) rfl ?_
  intro p e s m args below meth c s₁ B hml hv
  obtain ⟨rfl, hH, hK⟩ := hv
  have hx := B.exec
  have hb := B.bytes
  have hr := B.returns
  have hts : ∀ w ∈ TT, w.before _ s = true := fun w h => atoms_spec (ws := ww yX8_lies cX8_lies 3 (some .boolean)) B.pre w (List.mem_cons_of_mem _ h)
  have hown : s.vm.findClass RX8 = some m.cls := findClass_of_methodNamed B.named
  have hlocks := B.notSynchronized
  rw [hH]
  have hl := lv_entry ([.ref mo, .int (nI t), .int (nI o)]) (n := 3) (Nat.le_of_ble_eq_true rfl)
  rw [lg_entry_eq]
  generalize (lg_sl ([.ref mo, .int (nI t), .int (nI o)]) ++ List.replicate (3 - (lg_sl ([.ref mo, .int (nI t), .int (nI o)])).length) Slot.unset).toArray = ls at hl ⊢
  have hl : lv_has ls 3 [(0, .ref mo), (1, .int (nI t)), (2, .int (nI o))] := hl
  refine lv_aload_n hx hb dX8_lies_0 rfl (lv_at hl 0 rfl) ?_
  refine va_get (D := D) (ci := 8) (v := .ref ((ad 6))) (C := RX8) (T := TX8) (N := 33) hx hb hts iX8 hown hK.1 hP 0 rfl rfl 6 (by decide) (hts _ q_685) (fun _ h9 => h9) rfl dX8_lies_1 ?_
  refine lv_bipush (v := 12) hx hb dX8_lies_4 (by decide) ?_
  refine lv_iload_n hx hb dX8_lies_6 rfl (lv_at hl 1 rfl) ?_
  refine lv_imul hx hb dX8_lies_7 ?_
  refine lv_iload_n hx hb dX8_lies_8 rfl (lv_at hl 2 rfl) ?_
  refine lv_iadd hx hb dX8_lies_9 ?_
  refine zald_n (f := σ 6) hx hb hK.1 hP 5 2 rfl rfl (((12 * t) + o)) (n_add (n_mul rfl rfl) rfl) (by omega) (by decide) dX8_lies_10 ?_
  exact ro_zret (v := σ 6 (((12 * t) + o))) hx hb hr hH hlocks dX8_lies_11 (hb6 _) (bI_self (hb6 _))
set_option maxHeartbeats 4000000 in
set_option maxRecDepth 100000 in
theorem m_noKind (l : Launch) (D : va_G) (G : Nat → ClassId) (H : Heap) (mo : Nat) (ad : Nat → Nat) (σ : MS) (τ : Nat → Int64) (hP : va_P D vwCl (mW G mo ad σ τ) H) (n : Nat) (h1 : σ 1 0 = nI n) (hn : n ≤ 12) (kind : Int32) : Met l yX8_noKind (ww yX8_noKind cX8_noKind 2 (some .boolean)) (rmD 2) (roP D G H [.ref mo, .int kind]) (vp_Si (fun r => r = bI (noK n kind))) 0 0 (fun _ => False) := by
  refine Met.ofW (cc := cX8_noKind) (maxL := 2) (ret := (some .boolean)) (by decide) rfl ?_
  intro p e s m args below meth c s₁ B hml hv
  obtain ⟨rfl, hH, hK⟩ := hv
  have hx := B.exec
  have hb := B.bytes
  have hr := B.returns
  have hts : ∀ w ∈ TT, w.before _ s = true := fun w h => atoms_spec (ws := ww yX8_noKind cX8_noKind 2 (some .boolean)) B.pre w (List.mem_cons_of_mem _ h)
  have hown : s.vm.findClass RX8 = some m.cls := findClass_of_methodNamed B.named
  have hlocks := B.notSynchronized
  rw [hH]
  have hl := lv_entry ([.ref mo, .int kind]) (n := 2) (Nat.le_of_ble_eq_true rfl)
  rw [lg_entry_eq]
  generalize (lg_sl ([.ref mo, .int kind]) ++ List.replicate (2 - (lg_sl ([.ref mo, .int kind])).length) Slot.unset).toArray = ls at hl ⊢
  have hl : lv_has ls 2 [(0, .ref mo), (1, .int kind)] := hl
  refine lv_iload_n hx hb dX8_noKind_0 rfl (lv_at hl 1 rfl) ?_
  refine lv_bipush (v := 9) hx hb dX8_noKind_1 (by decide) ?_
  refine lv_icmp_le (tgt := 21) hx hb dX8_noKind_3 (by decide) (fun c1 => ?_) (fun c1 => ?_)
  · -- 3 taken
    refine lv_iconst (v := 0) hx hb dX8_noKind_21 (by decide) ?_
    exact ro_zret (v := 0) hx hb hr hH hlocks dX8_noKind_22 (Or.inl rfl) ((bI_f (by rw [noK_def]; simp only [eq_true c1, not_true, not_false_iff, true_and, and_true, false_and, and_false])).symm)
  · -- 3 not
    refine lv_aload_n hx hb dX8_noKind_6 rfl (lv_at hl 0 rfl) ?_
    refine lv_iload_n hx hb dX8_noKind_7 rfl (lv_at hl 1 rfl) ?_
    refine lv_bipush (v := 10) hx hb dX8_noKind_8 (by decide) ?_
    refine lv_isub hx hb dX8_noKind_10 ?_
    refine ro_Vi (D := D) (G := G) (As := [.int (kind - 10)]) (rest := []) ⟨hx, hb, hml, hown, hts⟩ (m_isType l D G _ mo ad _ _ hP n h1 hn (kind - 10)) gV_X8_X8_isType hdV_X8_isType ⟨Nat.le_of_ble_eq_true rfl, Nat.le_of_ble_eq_true rfl⟩ hK (va_recv hK.1 hP (ci := 8) (q0 := 0) rfl rfl) rfl hl.1 rfl (Nat.le_of_ble_eq_true rfl) dX8_noKind_11 ⟨Nat.le_of_ble_eq_true rfl, Nat.le_of_ble_eq_true rfl⟩ (fun r2 e_r2 => ?_)
    subst e_r2
    refine lv_if_ne (tgt := 21) hx hb dX8_noKind_14 (by decide) (fun c3 => ?_) (fun c3 => ?_)
    · -- 14 taken
      have c3 := bI_1 c3
      refine lv_iconst (v := 0) hx hb dX8_noKind_21 (by decide) ?_
      exact ro_zret (v := 0) hx hb hr hH hlocks dX8_noKind_22 (Or.inl rfl) ((bI_f (by rw [noK_def]; simp only [eq_false c1, eq_true c3, not_true, not_false_iff, true_and, and_true, false_and, and_false])).symm)
    · -- 14 not
      have c3 := bI_0 c3
      refine lv_iconst (v := 1) hx hb dX8_noKind_17 (by decide) ?_
      refine lv_goto (tgt := 22) hx hb dX8_noKind_18 (by decide) ?_
      exact ro_zret (v := 1) hx hb hr hH hlocks dX8_noKind_22 (Or.inr rfl) ((bI_t (by rw [noK_def]; simp only [eq_false c1, eq_false c3, not_true, not_false_iff, true_and, and_true, false_and, and_false])).symm)
set_option maxHeartbeats 4000000 in
set_option maxRecDepth 100000 in
theorem m_refusal (l : Launch) (D : va_G) (G : Nat → ClassId) (H : Heap) (mo : Nat) (ad : Nat → Nat) (σ : MS) (τ : Nat → Int64) (hP : va_P D vwCl (mW G mo ad σ τ) H) (n : Nat) (h1 : σ 1 0 = nI n) (hn : n ≤ 12) (t : Int32) (name : Int32) (kind : Int32) (dd : Int32) (mm : Int32) : Met l yX8_refusal (ww yX8_refusal cX8_refusal 6 (some .int)) (rmD 3) (roP D G H [.ref mo, .int t, .int name, .int kind, .int dd, .int mm]) (vp_Si (fun r => r = aRef σ n t name kind dd mm)) 0 0 (fun _ => False) := by
  refine Met.ofW (cc := cX8_refusal) (maxL := 6) (ret := (some .int)) (by decide) rfl ?_
  intro p e s m args below meth c s₁ B hml hv
  obtain ⟨rfl, hH, hK⟩ := hv
  have hx := B.exec
  have hb := B.bytes
  have hr := B.returns
  have hts : ∀ w ∈ TT, w.before _ s = true := fun w h => atoms_spec (ws := ww yX8_refusal cX8_refusal 6 (some .int)) B.pre w (List.mem_cons_of_mem _ h)
  have hown : s.vm.findClass RX8 = some m.cls := findClass_of_methodNamed B.named
  have hlocks := B.notSynchronized
  rw [hH]
  have hl := lv_entry ([.ref mo, .int t, .int name, .int kind, .int dd, .int mm]) (n := 6) (Nat.le_of_ble_eq_true rfl)
  rw [lg_entry_eq]
  generalize (lg_sl ([.ref mo, .int t, .int name, .int kind, .int dd, .int mm]) ++ List.replicate (6 - (lg_sl ([.ref mo, .int t, .int name, .int kind, .int dd, .int mm])).length) Slot.unset).toArray = ls at hl ⊢
  have hl : lv_has ls 6 [(0, .ref mo), (1, .int t), (2, .int name), (3, .int kind), (4, .int dd), (5, .int mm)] := hl
  refine lv_aload_n hx hb dX8_refusal_0 rfl (lv_at hl 0 rfl) ?_
  refine lv_iload_n hx hb dX8_refusal_1 rfl (lv_at hl 1 rfl) ?_
  refine ro_Vi (D := D) (G := G) (As := [.int t]) (rest := []) ⟨hx, hb, hml, hown, hts⟩ (m_isType l D G _ mo ad _ _ hP n h1 hn t) gV_X8_X8_isType hdV_X8_isType ⟨Nat.le_of_ble_eq_true rfl, Nat.le_of_ble_eq_true rfl⟩ hK (va_recv hK.1 hP (ci := 8) (q0 := 0) rfl rfl) rfl hl.1 rfl (Nat.le_of_ble_eq_true rfl) dX8_refusal_2 ⟨Nat.le_of_ble_eq_true rfl, Nat.le_of_ble_eq_true rfl⟩ (fun r1 e_r1 => ?_)
  subst e_r1
  refine lv_if_eq (tgt := 16) hx hb dX8_refusal_5 (by decide) (fun c2 => ?_) (fun c2 => ?_)
  · -- 5 taken
    have c2 := bI_0 c2
    refine lv_bipush (v := -11) hx hb dX8_refusal_16 (by decide) ?_
    exact ro_iret (v := (-11)) hx hb hr hH hlocks dX8_refusal_18 (by unfold aRef; simp only [eq_false c2, not_true, not_false_iff, not_true_eq_false, not_false_eq_true, true_or, or_true, false_or, or_false, or_self, and_self, true_and, and_true, false_and, and_false, if_true, if_false])
  · -- 5 not
    have c2 := bI_1 c2
    refine lv_aload_n hx hb dX8_refusal_8 rfl (lv_at hl 0 rfl) ?_
    refine lv_iload_n hx hb dX8_refusal_9 rfl (lv_at hl 3 rfl) ?_
    refine ro_Vi (D := D) (G := G) (As := [.int kind]) (rest := []) ⟨hx, hb, hml, hown, hts⟩ (m_noKind l D G _ mo ad _ _ hP n h1 hn kind) gV_X8_X8_noKind hdV_X8_noKind ⟨Nat.le_of_ble_eq_true rfl, Nat.le_of_ble_eq_true rfl⟩ hK (va_recv hK.1 hP (ci := 8) (q0 := 0) rfl rfl) rfl hl.1 rfl (Nat.le_of_ble_eq_true rfl) dX8_refusal_10 ⟨Nat.le_of_ble_eq_true rfl, Nat.le_of_ble_eq_true rfl⟩ (fun r3 e_r3 => ?_)
    subst e_r3
    refine lv_if_eq (tgt := 19) hx hb dX8_refusal_13 (by decide) (fun c4 => ?_) (fun c4 => ?_)
    · -- 13 taken
      have c4 := bI_0 c4
      refine lv_iload_n hx hb dX8_refusal_19 rfl (lv_at hl 2 rfl) ?_
      refine lv_iconst (v := 0) hx hb dX8_refusal_20 (by decide) ?_
      refine lv_bipush (v := 49) hx hb dX8_refusal_21 (by decide) ?_
      refine ro_Si (D := D) (G := G) (As := [.int name, .int 0, .int 49]) (rest := []) ⟨hx, hb, hml, hown, hts⟩ (m_in l D G _ name 0 49) gS_X8_X8_in hdS_X8_in ⟨Nat.le_of_ble_eq_true rfl, Nat.le_of_ble_eq_true rfl⟩ hK rfl hl.1 rfl (Nat.le_of_ble_eq_true rfl) dX8_refusal_23 ⟨Nat.le_of_ble_eq_true rfl, Nat.le_of_ble_eq_true rfl⟩ (fun r5 e_r5 => ?_)
      subst e_r5
      refine lv_if_eq (tgt := 70) hx hb dX8_refusal_26 (by decide) (fun c6 => ?_) (fun c6 => ?_)
      · -- 26 taken
        have c6 := bI_0 c6
        refine lv_bipush (v := -13) hx hb dX8_refusal_70 (by decide) ?_
        exact ro_iret (v := (-13)) hx hb hr hH hlocks dX8_refusal_72 (by unfold aRef; simp only [eq_true c2, eq_false c4, eq_false c6, not_true, not_false_iff, not_true_eq_false, not_false_eq_true, true_or, or_true, false_or, or_false, or_self, and_self, true_and, and_true, false_and, and_false, if_true, if_false])
      · -- 26 not
        have c6 := bI_1 c6
        refine lv_iload_n hx hb dX8_refusal_29 rfl (lv_at hl 3 rfl) ?_
        refine lv_if_lt (tgt := 70) hx hb dX8_refusal_30 (by decide) (fun c7 => ?_) (fun c7 => ?_)
        · -- 30 taken
          refine lv_bipush (v := -13) hx hb dX8_refusal_70 (by decide) ?_
          exact ro_iret (v := (-13)) hx hb hr hH hlocks dX8_refusal_72 (by unfold aRef; simp only [eq_true c2, eq_false c4, eq_true c6, eq_true c7, not_true, not_false_iff, not_true_eq_false, not_false_eq_true, true_or, or_true, false_or, or_false, or_self, and_self, true_and, and_true, false_and, and_false, if_true, if_false])
        · -- 30 not
          refine lv_iload_n hx hb dX8_refusal_33 rfl (lv_at hl 3 rfl) ?_
          refine lv_bipush (v := 9) hx hb dX8_refusal_34 (by decide) ?_
          refine lv_icmp_eq (tgt := 70) hx hb dX8_refusal_36 (by decide) (fun c8 => ?_) (fun c8 => ?_)
          · -- 36 taken
            refine lv_bipush (v := -13) hx hb dX8_refusal_70 (by decide) ?_
            exact ro_iret (v := (-13)) hx hb hr hH hlocks dX8_refusal_72 (by unfold aRef; simp only [eq_true c2, eq_false c4, eq_true c6, eq_false c7, eq_true c8, not_true, not_false_iff, not_true_eq_false, not_false_eq_true, true_or, or_true, false_or, or_false, or_self, and_self, true_and, and_true, false_and, and_false, if_true, if_false])
          · -- 36 not
            refine lv_iload hx hb dX8_refusal_39 (lv_at hl 4 rfl) ?_
            refine lv_iconst (v := 0) hx hb dX8_refusal_41 (by decide) ?_
            refine lv_iconst (v := 3) hx hb dX8_refusal_42 (by decide) ?_
            refine ro_Si (D := D) (G := G) (As := [.int dd, .int 0, .int 3]) (rest := []) ⟨hx, hb, hml, hown, hts⟩ (m_in l D G _ dd 0 3) gS_X8_X8_in hdS_X8_in ⟨Nat.le_of_ble_eq_true rfl, Nat.le_of_ble_eq_true rfl⟩ hK rfl hl.1 rfl (Nat.le_of_ble_eq_true rfl) dX8_refusal_43 ⟨Nat.le_of_ble_eq_true rfl, Nat.le_of_ble_eq_true rfl⟩ (fun r9 e_r9 => ?_)
            subst e_r9
            refine lv_if_eq (tgt := 70) hx hb dX8_refusal_46 (by decide) (fun c10 => ?_) (fun c10 => ?_)
            · -- 46 taken
              have c10 := bI_0 c10
              refine lv_bipush (v := -13) hx hb dX8_refusal_70 (by decide) ?_
              exact ro_iret (v := (-13)) hx hb hr hH hlocks dX8_refusal_72 (by unfold aRef; simp only [eq_true c2, eq_false c4, eq_true c6, eq_false c7, eq_false c8, eq_false c10, not_true, not_false_iff, not_true_eq_false, not_false_eq_true, true_or, or_true, false_or, or_false, or_self, and_self, true_and, and_true, false_and, and_false, if_true, if_false])
            · -- 46 not
              have c10 := bI_1 c10
              refine lv_iload_n hx hb dX8_refusal_49 rfl (lv_at hl 3 rfl) ?_
              refine lv_if_ne (tgt := 58) hx hb dX8_refusal_50 (by decide) (fun c11 => ?_) (fun c11 => ?_)
              · -- 50 taken
                refine lv_iload hx hb dX8_refusal_58 (lv_at hl 5 rfl) ?_
                refine lv_iconst (v := 0) hx hb dX8_refusal_60 (by decide) ?_
                refine lv_sipush (v := 2047) hx hb dX8_refusal_61 (by decide) ?_
                refine ro_Si (D := D) (G := G) (As := [.int mm, .int 0, .int 2047]) (rest := []) ⟨hx, hb, hml, hown, hts⟩ (m_in l D G _ mm 0 2047) gS_X8_X8_in hdS_X8_in ⟨Nat.le_of_ble_eq_true rfl, Nat.le_of_ble_eq_true rfl⟩ hK rfl hl.1 rfl (Nat.le_of_ble_eq_true rfl) dX8_refusal_64 ⟨Nat.le_of_ble_eq_true rfl, Nat.le_of_ble_eq_true rfl⟩ (fun r12 e_r12 => ?_)
                subst e_r12
                refine lv_if_ne (tgt := 73) hx hb dX8_refusal_67 (by decide) (fun c13 => ?_) (fun c13 => ?_)
                · -- 67 taken
                  have c13 := bI_1 c13
                  refine lv_aload_n hx hb dX8_refusal_73 rfl (lv_at hl 0 rfl) ?_
                  refine va_get (D := D) (ci := 8) (v := .int (σ 21 0)) (C := RX8) (T := TX8) (N := 33) hx hb hts iX8 hown hK.1 hP 0 rfl rfl 21 (by decide) (hts _ q_700) (fun _ h9 => h9) rfl dX8_refusal_74 ?_
                  refine lv_if_eq (tgt := 85) hx hb dX8_refusal_77 (by decide) (fun c14 => ?_) (fun c14 => ?_)
                  · -- 77 taken
                    refine lv_aload_n hx hb dX8_refusal_85 rfl (lv_at hl 0 rfl) ?_
                    refine va_get (D := D) (ci := 8) (v := .int (σ 7 0)) (C := RX8) (T := TX8) (N := 33) hx hb hts iX8 hown hK.1 hP 0 rfl rfl 7 (by decide) (hts _ q_686) (fun _ h9 => h9) rfl dX8_refusal_86 ?_
                    refine lv_bipush (v := 60) hx hb dX8_refusal_89 (by decide) ?_
                    refine lv_icmp_ne (tgt := 99) hx hb dX8_refusal_91 (by decide) (fun c15 => ?_) (fun c15 => ?_)
                    · -- 91 taken
                      refine lv_iconst (v := 0) hx hb dX8_refusal_99 (by decide) ?_
                      exact ro_iret (v := 0) hx hb hr hH hlocks dX8_refusal_100 (by unfold aRef; simp only [eq_true c2, eq_false c4, eq_true c6, eq_false c7, eq_false c8, eq_true c10, eq_false c11, eq_true c13, eq_true c14, eq_false c15, not_true, not_false_iff, not_true_eq_false, not_false_eq_true, true_or, or_true, false_or, or_false, or_self, and_self, true_and, and_true, false_and, and_false, if_true, if_false])
                    · -- 91 not
                      refine lv_bipush (v := -15) hx hb dX8_refusal_94 (by decide) ?_
                      refine lv_goto (tgt := 100) hx hb dX8_refusal_96 (by decide) ?_
                      exact ro_iret (v := (-15)) hx hb hr hH hlocks dX8_refusal_100 (by unfold aRef; simp only [eq_true c2, eq_false c4, eq_true c6, eq_false c7, eq_false c8, eq_true c10, eq_false c11, eq_true c13, eq_true c14, eq_true c15, not_true, not_false_iff, not_true_eq_false, not_false_eq_true, true_or, or_true, false_or, or_false, or_self, and_self, true_and, and_true, false_and, and_false, if_true, if_false])
                  · -- 77 not
                    refine lv_bipush (v := -14) hx hb dX8_refusal_80 (by decide) ?_
                    refine lv_goto (tgt := 100) hx hb dX8_refusal_82 (by decide) ?_
                    exact ro_iret (v := (-14)) hx hb hr hH hlocks dX8_refusal_100 (by unfold aRef; simp only [eq_true c2, eq_false c4, eq_true c6, eq_false c7, eq_false c8, eq_true c10, eq_false c11, eq_true c13, eq_false c14, not_true, not_false_iff, not_true_eq_false, not_false_eq_true, true_or, or_true, false_or, or_false, or_self, and_self, true_and, and_true, false_and, and_false, if_true, if_false])
                · -- 67 not
                  have c13 := bI_0 c13
                  refine lv_bipush (v := -13) hx hb dX8_refusal_70 (by decide) ?_
                  exact ro_iret (v := (-13)) hx hb hr hH hlocks dX8_refusal_72 (by unfold aRef; simp only [eq_true c2, eq_false c4, eq_true c6, eq_false c7, eq_false c8, eq_true c10, eq_false c11, eq_false c13, not_true, not_false_iff, not_true_eq_false, not_false_eq_true, true_or, or_true, false_or, or_false, or_self, and_self, true_and, and_true, false_and, and_false, if_true, if_false])
              · -- 50 not
                refine lv_iload hx hb dX8_refusal_53 (lv_at hl 4 rfl) ?_
                refine lv_if_gt (tgt := 70) hx hb dX8_refusal_55 (by decide) (fun c16 => ?_) (fun c16 => ?_)
                · -- 55 taken
                  refine lv_bipush (v := -13) hx hb dX8_refusal_70 (by decide) ?_
                  exact ro_iret (v := (-13)) hx hb hr hH hlocks dX8_refusal_72 (by unfold aRef; simp only [eq_true c2, eq_false c4, eq_true c6, eq_false c7, eq_false c8, eq_true c10, eq_true c11, eq_true c16, not_true, not_false_iff, not_true_eq_false, not_false_eq_true, true_or, or_true, false_or, or_false, or_self, and_self, true_and, and_true, false_and, and_false, if_true, if_false])
                · -- 55 not
                  refine lv_iload hx hb dX8_refusal_58 (lv_at hl 5 rfl) ?_
                  refine lv_iconst (v := 0) hx hb dX8_refusal_60 (by decide) ?_
                  refine lv_sipush (v := 2047) hx hb dX8_refusal_61 (by decide) ?_
                  refine ro_Si (D := D) (G := G) (As := [.int mm, .int 0, .int 2047]) (rest := []) ⟨hx, hb, hml, hown, hts⟩ (m_in l D G _ mm 0 2047) gS_X8_X8_in hdS_X8_in ⟨Nat.le_of_ble_eq_true rfl, Nat.le_of_ble_eq_true rfl⟩ hK rfl hl.1 rfl (Nat.le_of_ble_eq_true rfl) dX8_refusal_64 ⟨Nat.le_of_ble_eq_true rfl, Nat.le_of_ble_eq_true rfl⟩ (fun r17 e_r17 => ?_)
                  subst e_r17
                  refine lv_if_ne (tgt := 73) hx hb dX8_refusal_67 (by decide) (fun c18 => ?_) (fun c18 => ?_)
                  · -- 67 taken
                    have c18 := bI_1 c18
                    refine lv_aload_n hx hb dX8_refusal_73 rfl (lv_at hl 0 rfl) ?_
                    refine va_get (D := D) (ci := 8) (v := .int (σ 21 0)) (C := RX8) (T := TX8) (N := 33) hx hb hts iX8 hown hK.1 hP 0 rfl rfl 21 (by decide) (hts _ q_700) (fun _ h9 => h9) rfl dX8_refusal_74 ?_
                    refine lv_if_eq (tgt := 85) hx hb dX8_refusal_77 (by decide) (fun c19 => ?_) (fun c19 => ?_)
                    · -- 77 taken
                      refine lv_aload_n hx hb dX8_refusal_85 rfl (lv_at hl 0 rfl) ?_
                      refine va_get (D := D) (ci := 8) (v := .int (σ 7 0)) (C := RX8) (T := TX8) (N := 33) hx hb hts iX8 hown hK.1 hP 0 rfl rfl 7 (by decide) (hts _ q_686) (fun _ h9 => h9) rfl dX8_refusal_86 ?_
                      refine lv_bipush (v := 60) hx hb dX8_refusal_89 (by decide) ?_
                      refine lv_icmp_ne (tgt := 99) hx hb dX8_refusal_91 (by decide) (fun c20 => ?_) (fun c20 => ?_)
                      · -- 91 taken
                        refine lv_iconst (v := 0) hx hb dX8_refusal_99 (by decide) ?_
                        exact ro_iret (v := 0) hx hb hr hH hlocks dX8_refusal_100 (by unfold aRef; simp only [eq_true c2, eq_false c4, eq_true c6, eq_false c7, eq_false c8, eq_true c10, eq_true c11, eq_false c16, eq_true c18, eq_true c19, eq_false c20, not_true, not_false_iff, not_true_eq_false, not_false_eq_true, true_or, or_true, false_or, or_false, or_self, and_self, true_and, and_true, false_and, and_false, if_true, if_false])
                      · -- 91 not
                        refine lv_bipush (v := -15) hx hb dX8_refusal_94 (by decide) ?_
                        refine lv_goto (tgt := 100) hx hb dX8_refusal_96 (by decide) ?_
                        exact ro_iret (v := (-15)) hx hb hr hH hlocks dX8_refusal_100 (by unfold aRef; simp only [eq_true c2, eq_false c4, eq_true c6, eq_false c7, eq_false c8, eq_true c10, eq_true c11, eq_false c16, eq_true c18, eq_true c19, eq_true c20, not_true, not_false_iff, not_true_eq_false, not_false_eq_true, true_or, or_true, false_or, or_false, or_self, and_self, true_and, and_true, false_and, and_false, if_true, if_false])
                    · -- 77 not
                      refine lv_bipush (v := -14) hx hb dX8_refusal_80 (by decide) ?_
                      refine lv_goto (tgt := 100) hx hb dX8_refusal_82 (by decide) ?_
                      exact ro_iret (v := (-14)) hx hb hr hH hlocks dX8_refusal_100 (by unfold aRef; simp only [eq_true c2, eq_false c4, eq_true c6, eq_false c7, eq_false c8, eq_true c10, eq_true c11, eq_false c16, eq_true c18, eq_false c19, not_true, not_false_iff, not_true_eq_false, not_false_eq_true, true_or, or_true, false_or, or_false, or_self, and_self, true_and, and_true, false_and, and_false, if_true, if_false])
                  · -- 67 not
                    have c18 := bI_0 c18
                    refine lv_bipush (v := -13) hx hb dX8_refusal_70 (by decide) ?_
                    exact ro_iret (v := (-13)) hx hb hr hH hlocks dX8_refusal_72 (by unfold aRef; simp only [eq_true c2, eq_false c4, eq_true c6, eq_false c7, eq_false c8, eq_true c10, eq_true c11, eq_false c16, eq_false c18, not_true, not_false_iff, not_true_eq_false, not_false_eq_true, true_or, or_true, false_or, or_false, or_self, and_self, true_and, and_true, false_and, and_false, if_true, if_false])
    · -- 13 not
      have c4 := bI_1 c4
      refine lv_bipush (v := -11) hx hb dX8_refusal_16 (by decide) ?_
      exact ro_iret (v := (-11)) hx hb hr hH hlocks dX8_refusal_18 (by unfold aRef; simp only [eq_true c2, eq_true c4, not_true, not_false_iff, not_true_eq_false, not_false_eq_true, true_or, or_true, false_or, or_false, or_self, and_self, true_and, and_true, false_and, and_false, if_true, if_false])
set_option maxHeartbeats 4000000 in
set_option maxRecDepth 100000 in
theorem m_bits (l : Launch) (D : va_G) (G : Nat → ClassId) (H : Heap) (x : Int32) : Met l yX8_bits (ww yX8_bits cX8_bits 3 (some .int)) (rmD 0) (roP D G H [.int x]) (vp_Si (fun r => r = bitsF x 11)) 0 0 (fun _ => False) := by
  refine Met.ofW (cc := cX8_bits) (maxL := 3) (ret := (some .int)) (by decide) rfl ?_
  intro p e s m args below meth c s₁ B hml hv
  obtain ⟨rfl, hH, hK⟩ := hv
  have hx := B.exec
  have hb := B.bytes
  have hr := B.returns
  have hts : ∀ w ∈ TT, w.before _ s = true := fun w h => atoms_spec (ws := ww yX8_bits cX8_bits 3 (some .int)) B.pre w (List.mem_cons_of_mem _ h)
  have hown : s.vm.findClass RX8 = some m.cls := findClass_of_methodNamed B.named
  have hlocks := B.notSynchronized
  rw [hH]
  have hl := lv_entry ([.int x]) (n := 3) (Nat.le_of_ble_eq_true rfl)
  rw [lg_entry_eq]
  generalize (lg_sl ([.int x]) ++ List.replicate (3 - (lg_sl ([.int x])).length) Slot.unset).toArray = ls at hl ⊢
  have hl : lv_has ls 3 [(0, .int x)] := hl
  refine lv_iconst (v := 0) hx hb dX8_bits_0 (by decide) ?_
  refine lv_istore_n (lv' := [(1, .int 0), (0, .int x)]) hx hb dX8_bits_1 rfl hl (by decide) rfl (fun ls hl => ?_)
  refine lv_iconst (v := 0) hx hb dX8_bits_2 (by decide) ?_
  refine lv_istore_n (lv' := [(2, .int 0), (1, .int 0), (0, .int x)]) hx hb dX8_bits_3 rfl hl (by decide) rfl (fun ls hl => ?_)
  refine w_for (N := 11) 4 (L := fun k9 ls => lv_has ls 3 [(2, .int (nI k9)), (1, .int (bitsF x k9)), (0, .int x)]) (fun k ls hk hL ih => ?_) 0 ls (Nat.zero_le _) (hl)
  have hl := hL
  have hl : lv_has ls 3 [(2, .int (nI k)), (1, .int (bitsF x k)), (0, .int x)] := hl
  refine lv_iload_n hx hb dX8_bits_4 rfl (lv_at hl 0 rfl) ?_
  refine lv_bipush (v := 11) hx hb dX8_bits_5 (by decide) ?_
  refine lv_icmp_ge (tgt := 24) hx hb dX8_bits_7 (by decide) (fun c1 => ?_) (fun c1 => ?_)
  · -- 7 taken
    refine lv_iload_n hx hb dX8_bits_24 rfl (lv_at hl 1 rfl) ?_
    exact ro_iret (v := bitsF x k) hx hb hr hH hlocks dX8_bits_25 (by rw [show k = 11 by simp only [i_le, n_ti (show k < 2 ^ 31 by omega), Int32.reduceToInt] at c1; omega])
  · -- 7 not
    have hk2 : k < 11 := by simp only [i_le, n_ti (show k < 2 ^ 31 by omega), Int32.reduceToInt] at c1; omega
    refine lv_iload_n hx hb dX8_bits_10 rfl (lv_at hl 1 rfl) ?_
    refine lv_iload_n hx hb dX8_bits_11 rfl (lv_at hl 2 rfl) ?_
    refine lv_iload_n hx hb dX8_bits_12 rfl (lv_at hl 0 rfl) ?_
    refine lv_ishr hx hb dX8_bits_13 ?_
    refine lv_iconst (v := 1) hx hb dX8_bits_14 (by decide) ?_
    refine lv_iand hx hb dX8_bits_15 ?_
    refine lv_iadd hx hb dX8_bits_16 ?_
    refine lv_istore_n (lv' := [(1, .int ((bitsF x k) + ((x >>> ((nI k) &&& 31)) &&& 1))), (2, .int (nI k)), (0, .int x)]) hx hb dX8_bits_17 rfl hl (by decide) rfl (fun ls hl => ?_)
    refine lv_iinc (v := nI (k + 1)) (lv' := [(2, .int (nI (k + 1))), (1, .int ((bitsF x k) + ((x >>> ((nI k) &&& 31)) &&& 1))), (0, .int x)]) hx hb dX8_bits_18 hl (k := 1) rfl (nI_1 _) (by decide) rfl (fun ls hl => ?_)
    refine lv_goto (tgt := 4) hx hb dX8_bits_21 (by decide) ?_
    exact ih _ (by omega) (lv_sub hl [0, 1, 2] rfl)
set_option maxHeartbeats 4000000 in
set_option maxRecDepth 100000 in
theorem m_fieldOf (l : Launch) (D : va_G) (G : Nat → ClassId) (H : Heap) (mo : Nat) (ad : Nat → Nat) (σ : MS) (τ : Nat → Int64) (hP : va_P D vwCl (mW G mo ad σ τ) H) (k : Nat) (h7 : σ 7 0 = nI k) (hk60 : k ≤ 60) (t : Int32) (name : Int32) : Met l yX8_fieldOf (ww yX8_fieldOf cX8_fieldOf 4 (some .int)) (rmD 0) (roP D G H [.ref mo, .int t, .int name]) (vp_Si (fun r => r = fld σ k t name)) 0 0 (fun _ => False) := by
  refine Met.ofW (cc := cX8_fieldOf) (maxL := 4) (ret := (some .int)) (by decide) rfl ?_
  intro p e s m args below meth c s₁ B hml hv
  obtain ⟨rfl, hH, hK⟩ := hv
  have hx := B.exec
  have hb := B.bytes
  have hr := B.returns
  have hts : ∀ w ∈ TT, w.before _ s = true := fun w h => atoms_spec (ws := ww yX8_fieldOf cX8_fieldOf 4 (some .int)) B.pre w (List.mem_cons_of_mem _ h)
  have hown : s.vm.findClass RX8 = some m.cls := findClass_of_methodNamed B.named
  have hlocks := B.notSynchronized
  rw [hH]
  have hl := lv_entry ([.ref mo, .int t, .int name]) (n := 4) (Nat.le_of_ble_eq_true rfl)
  rw [lg_entry_eq]
  generalize (lg_sl ([.ref mo, .int t, .int name]) ++ List.replicate (4 - (lg_sl ([.ref mo, .int t, .int name])).length) Slot.unset).toArray = ls at hl ⊢
  have hl : lv_has ls 4 [(0, .ref mo), (1, .int t), (2, .int name)] := hl
  refine lv_iconst (v := 0) hx hb dX8_fieldOf_0 (by decide) ?_
  refine lv_istore_n (lv' := [(3, .int 0), (0, .ref mo), (1, .int t), (2, .int name)]) hx hb dX8_fieldOf_1 rfl hl (by decide) rfl (fun ls hl => ?_)
  refine w_for (N := k) 2 (L := fun k9 ls => lv_has ls 4 [(3, .int (nI k9)), (0, .ref mo), (1, .int t), (2, .int name)] ∧ fnd (fldP σ t name) k 0 = fnd (fldP σ t name) (k - k9) k9) (fun k9 ls hk hL ih => ?_) 0 ls (Nat.zero_le _) ⟨hl, by rw [Nat.sub_zero]⟩
  obtain ⟨hl, hi⟩ := hL
  have hl : lv_has ls 4 [(3, .int (nI k9)), (0, .ref mo), (1, .int t), (2, .int name)] := hl
  refine lv_iload_n hx hb dX8_fieldOf_2 rfl (lv_at hl 0 rfl) ?_
  refine lv_aload_n hx hb dX8_fieldOf_3 rfl (lv_at hl 1 rfl) ?_
  refine va_get (D := D) (ci := 8) (v := .int (σ 7 0)) (C := RX8) (T := TX8) (N := 33) hx hb hts iX8 hown hK.1 hP 0 rfl rfl 7 (by decide) (hts _ q_686) (fun _ h9 => h9) rfl dX8_fieldOf_4 ?_
  refine lv_icmp_ge (tgt := 47) hx hb dX8_fieldOf_7 (by decide) (fun c1 => ?_) (fun c1 => ?_)
  · -- 7 taken
    have hke : k9 = k := by simp only [i_le, h7, n_ti (show k9 < 2 ^ 31 by omega), n_ti (show k < 2 ^ 31 by omega), Int32.reduceToInt] at c1; omega
    refine lv_iconst (v := -1) hx hb dX8_fieldOf_47 (by decide) ?_
    exact ro_iret (v := (-1)) hx hb hr hH hlocks dX8_fieldOf_48 (by unfold fld; rw [hi, hke, Nat.sub_self]; rfl)
  · -- 7 not
    have hkl : k9 < k := by simp only [i_le, h7, n_ti (show k9 < 2 ^ 31 by omega), n_ti (show k < 2 ^ 31 by omega), Int32.reduceToInt] at c1; omega
    refine lv_aload_n hx hb dX8_fieldOf_10 rfl (lv_at hl 1 rfl) ?_
    refine va_get (D := D) (ci := 8) (v := .ref ((ad 8))) (C := RX8) (T := TX8) (N := 33) hx hb hts iX8 hown hK.1 hP 0 rfl rfl 8 (by decide) (hts _ q_687) (fun _ h9 => h9) rfl dX8_fieldOf_11 ?_
    refine lv_iload_n hx hb dX8_fieldOf_14 rfl (lv_at hl 0 rfl) ?_
    refine zald_n (f := σ 8) hx hb hK.1 hP 6 2 rfl rfl (k9) rfl (by omega) (by decide) dX8_fieldOf_15 ?_
    refine lv_if_ne (tgt := 41) hx hb dX8_fieldOf_16 (by decide) (fun c2 => ?_) (fun c2 => ?_)
    · -- 16 taken
      refine lv_iinc (v := nI (k9 + 1)) (lv' := [(3, .int (nI (k9 + 1))), (0, .ref mo), (1, .int t), (2, .int name)]) hx hb dX8_fieldOf_41 hl (k := 0) rfl (nI_1 _) (by decide) rfl (fun ls hl => ?_)
      refine lv_goto (tgt := 2) hx hb dX8_fieldOf_44 (by decide) ?_
      have hi := hi.trans (fnd_f hkl (fun h9 => absurd h9.1 c2))
      exact ih _ (by omega) ⟨lv_sub hl [0, 1, 2, 3] rfl, hi⟩
    · -- 16 not
      refine lv_aload_n hx hb dX8_fieldOf_19 rfl (lv_at hl 1 rfl) ?_
      refine va_get (D := D) (ci := 8) (v := .ref ((ad 9))) (C := RX8) (T := TX8) (N := 33) hx hb hts iX8 hown hK.1 hP 0 rfl rfl 9 (by decide) (hts _ q_688) (fun _ h9 => h9) rfl dX8_fieldOf_20 ?_
      refine lv_iload_n hx hb dX8_fieldOf_23 rfl (lv_at hl 0 rfl) ?_
      refine iald_n (f := σ 9) hx hb hK.1 hP 7 0 rfl rfl (k9) rfl (by omega) (by decide) dX8_fieldOf_24 ?_
      refine lv_iload_n hx hb dX8_fieldOf_25 rfl (lv_at hl 2 rfl) ?_
      refine lv_icmp_ne (tgt := 41) hx hb dX8_fieldOf_26 (by decide) (fun c3 => ?_) (fun c3 => ?_)
      · -- 26 taken
        refine lv_iinc (v := nI (k9 + 1)) (lv' := [(3, .int (nI (k9 + 1))), (0, .ref mo), (1, .int t), (2, .int name)]) hx hb dX8_fieldOf_41 hl (k := 0) rfl (nI_1 _) (by decide) rfl (fun ls hl => ?_)
        refine lv_goto (tgt := 2) hx hb dX8_fieldOf_44 (by decide) ?_
        have hi := hi.trans (fnd_f hkl (fun h9 => absurd h9.2.1 c3))
        exact ih _ (by omega) ⟨lv_sub hl [0, 1, 2, 3] rfl, hi⟩
      · -- 26 not
        refine lv_aload_n hx hb dX8_fieldOf_29 rfl (lv_at hl 1 rfl) ?_
        refine va_get (D := D) (ci := 8) (v := .ref ((ad 10))) (C := RX8) (T := TX8) (N := 33) hx hb hts iX8 hown hK.1 hP 0 rfl rfl 10 (by decide) (hts _ q_689) (fun _ h9 => h9) rfl dX8_fieldOf_30 ?_
        refine lv_iload_n hx hb dX8_fieldOf_33 rfl (lv_at hl 0 rfl) ?_
        refine iald_n (f := σ 10) hx hb hK.1 hP 8 0 rfl rfl (k9) rfl (by omega) (by decide) dX8_fieldOf_34 ?_
        refine lv_iload_n hx hb dX8_fieldOf_35 rfl (lv_at hl 3 rfl) ?_
        refine lv_icmp_ne (tgt := 41) hx hb dX8_fieldOf_36 (by decide) (fun c4 => ?_) (fun c4 => ?_)
        · -- 36 taken
          refine lv_iinc (v := nI (k9 + 1)) (lv' := [(3, .int (nI (k9 + 1))), (0, .ref mo), (1, .int t), (2, .int name)]) hx hb dX8_fieldOf_41 hl (k := 0) rfl (nI_1 _) (by decide) rfl (fun ls hl => ?_)
          refine lv_goto (tgt := 2) hx hb dX8_fieldOf_44 (by decide) ?_
          have hi := hi.trans (fnd_f hkl (fun h9 => absurd h9.2.2 c4))
          exact ih _ (by omega) ⟨lv_sub hl [0, 1, 2, 3] rfl, hi⟩
        · -- 36 not
          refine lv_iload_n hx hb dX8_fieldOf_39 rfl (lv_at hl 0 rfl) ?_
          exact ro_iret (v := nI k9) hx hb hr hH hlocks dX8_fieldOf_40 (by unfold fld; rw [hi]; exact (fnd_t hkl ⟨c2, c3, c4⟩ rfl).symm)
set_option maxHeartbeats 4000000 in
set_option maxRecDepth 100000 in
theorem m_ruleOfField (l : Launch) (D : va_G) (G : Nat → ClassId) (H : Heap) (mo : Nat) (ad : Nat → Nat) (σ : MS) (τ : Nat → Int64) (hP : va_P D vwCl (mW G mo ad σ τ) H) (k : Nat) (h7 : σ 7 0 = nI k) (hk60 : k ≤ 60) (t : Nat) (ht : t < 12) (name : Int32) (kind : Int32) (mm : Int32) : Met l yX8_ruleOfField (ww yX8_ruleOfField cX8_ruleOfField 5 (some .int)) (rmD 1) (roP D G H [.ref mo, .int (nI t), .int name, .int kind, .int mm]) (vp_Si (fun r => r = aRF σ k t name kind mm)) 0 0 (fun _ => False) := by
  refine Met.ofW (cc := cX8_ruleOfField) (maxL := 5) (ret := (some .int)) (by decide) rfl ?_
  intro p e s m args below meth c s₁ B hml hv
  obtain ⟨rfl, hH, hK⟩ := hv
  have hx := B.exec
  have hb := B.bytes
  have hr := B.returns
  have hts : ∀ w ∈ TT, w.before _ s = true := fun w h => atoms_spec (ws := ww yX8_ruleOfField cX8_ruleOfField 5 (some .int)) B.pre w (List.mem_cons_of_mem _ h)
  have hown : s.vm.findClass RX8 = some m.cls := findClass_of_methodNamed B.named
  have hlocks := B.notSynchronized
  rw [hH]
  have hl := lv_entry ([.ref mo, .int (nI t), .int name, .int kind, .int mm]) (n := 5) (Nat.le_of_ble_eq_true rfl)
  rw [lg_entry_eq]
  generalize (lg_sl ([.ref mo, .int (nI t), .int name, .int kind, .int mm]) ++ List.replicate (5 - (lg_sl ([.ref mo, .int (nI t), .int name, .int kind, .int mm])).length) Slot.unset).toArray = ls at hl ⊢
  have hl : lv_has ls 5 [(0, .ref mo), (1, .int (nI t)), (2, .int name), (3, .int kind), (4, .int mm)] := hl
  refine lv_iload hx hb dX8_ruleOfField_0 (lv_at hl 4 rfl) ?_
  refine lv_bipush (v := 127) hx hb dX8_ruleOfField_2 (by decide) ?_
  refine lv_icmp_le (tgt := 9) hx hb dX8_ruleOfField_4 (by decide) (fun c1 => ?_) (fun c1 => ?_)
  · -- 4 taken
    refine lv_iload hx hb dX8_ruleOfField_9 (lv_at hl 4 rfl) ?_
    refine lv_bipush (v := 7) hx hb dX8_ruleOfField_11 (by decide) ?_
    refine lv_iand hx hb dX8_ruleOfField_13 ?_
    refine ro_Si (D := D) (G := G) (As := [.int (mm &&& 7)]) (rest := []) ⟨hx, hb, hml, hown, hts⟩ (m_bits l D G _ (mm &&& 7)) gS_X8_X8_bits hdS_X8_bits ⟨Nat.le_of_ble_eq_true rfl, Nat.le_of_ble_eq_true rfl⟩ hK rfl hl.1 rfl (Nat.le_of_ble_eq_true rfl) dX8_ruleOfField_14 ⟨Nat.le_of_ble_eq_true rfl, Nat.le_of_ble_eq_true rfl⟩ (fun r2 e_r2 => ?_)
    subst e_r2
    refine lv_iconst (v := 1) hx hb dX8_ruleOfField_17 (by decide) ?_
    refine lv_icmp_le (tgt := 23) hx hb dX8_ruleOfField_18 (by decide) (fun c3 => ?_) (fun c3 => ?_)
    · -- 18 taken
      refine lv_iload hx hb dX8_ruleOfField_23 (lv_at hl 4 rfl) ?_
      refine lv_bipush (v := 16) hx hb dX8_ruleOfField_25 (by decide) ?_
      refine lv_iand hx hb dX8_ruleOfField_27 ?_
      refine lv_if_le (tgt := 41) hx hb dX8_ruleOfField_28 (by decide) (fun c4 => ?_) (fun c4 => ?_)
      · -- 28 taken
        have c4 := and_le (by decide) c4
        refine lv_aload_n hx hb dX8_ruleOfField_41 rfl (lv_at hl 0 rfl) ?_
        refine lv_iload_n hx hb dX8_ruleOfField_42 rfl (lv_at hl 1 rfl) ?_
        refine ro_Vi (D := D) (G := G) (As := [.int (nI t)]) (rest := []) ⟨hx, hb, hml, hown, hts⟩ (m_isFace l D G _ mo ad _ _ hP (t) (by omega)) gV_X8_X8_isFace hdV_X8_isFace ⟨Nat.le_of_ble_eq_true rfl, Nat.le_of_ble_eq_true rfl⟩ hK (va_recv hK.1 hP (ci := 8) (q0 := 0) rfl rfl) rfl hl.1 rfl (Nat.le_of_ble_eq_true rfl) dX8_ruleOfField_43 ⟨Nat.le_of_ble_eq_true rfl, Nat.le_of_ble_eq_true rfl⟩ (fun r5 e_r5 => ?_)
        subst e_r5
        refine lv_if_eq (tgt := 59) hx hb dX8_ruleOfField_46 (by decide) (fun c6 => ?_) (fun c6 => ?_)
        · -- 46 taken
          have c6 := bI_0 c6
          refine lv_iload_n hx hb dX8_ruleOfField_59 rfl (lv_at hl 3 rfl) ?_
          refine lv_if_ne (tgt := 67) hx hb dX8_ruleOfField_60 (by decide) (fun c7 => ?_) (fun c7 => ?_)
          · -- 60 taken
            refine lv_aload_n hx hb dX8_ruleOfField_67 rfl (lv_at hl 0 rfl) ?_
            refine lv_iload_n hx hb dX8_ruleOfField_68 rfl (lv_at hl 1 rfl) ?_
            refine lv_iload_n hx hb dX8_ruleOfField_69 rfl (lv_at hl 2 rfl) ?_
            refine ro_Vi (D := D) (G := G) (As := [.int (nI t), .int name]) (rest := []) ⟨hx, hb, hml, hown, hts⟩ (m_fieldOf l D G _ mo ad _ _ hP k h7 hk60 (nI t) name) gV_X8_X8_fieldOf hdV_X8_fieldOf ⟨Nat.le_of_ble_eq_true rfl, Nat.le_of_ble_eq_true rfl⟩ hK (va_recv hK.1 hP (ci := 8) (q0 := 0) rfl rfl) rfl hl.1 rfl (Nat.le_of_ble_eq_true rfl) dX8_ruleOfField_70 ⟨Nat.le_of_ble_eq_true rfl, Nat.le_of_ble_eq_true rfl⟩ (fun r8 e_r8 => ?_)
            subst e_r8
            refine lv_iconst (v := -1) hx hb dX8_ruleOfField_73 (by decide) ?_
            refine lv_icmp_ne (tgt := 81) hx hb dX8_ruleOfField_74 (by decide) (fun c9 => ?_) (fun c9 => ?_)
            · -- 74 taken
              refine lv_bipush (v := 6) hx hb dX8_ruleOfField_81 (by decide) ?_
              exact ro_iret (v := 6) hx hb hr hH hlocks dX8_ruleOfField_83 (by unfold aRF; simp only [eq_true c1, eq_true c3, eq_true c4, eq_false c6, eq_false c7, eq_false c9, not_true, not_false_iff, not_true_eq_false, not_false_eq_true, true_or, or_true, false_or, or_false, or_self, and_self, true_and, and_true, false_and, and_false, if_true, if_false])
            · -- 74 not
              refine lv_iconst (v := 0) hx hb dX8_ruleOfField_77 (by decide) ?_
              refine lv_goto (tgt := 83) hx hb dX8_ruleOfField_78 (by decide) ?_
              exact ro_iret (v := 0) hx hb hr hH hlocks dX8_ruleOfField_83 (by unfold aRF; simp only [eq_true c1, eq_true c3, eq_true c4, eq_false c6, eq_false c7, eq_true c9, not_true, not_false_iff, not_true_eq_false, not_false_eq_true, true_or, or_true, false_or, or_false, or_self, and_self, true_and, and_true, false_and, and_false, if_true, if_false])
          · -- 60 not
            refine lv_iconst (v := 5) hx hb dX8_ruleOfField_63 (by decide) ?_
            refine lv_goto (tgt := 83) hx hb dX8_ruleOfField_64 (by decide) ?_
            exact ro_iret (v := 5) hx hb hr hH hlocks dX8_ruleOfField_83 (by unfold aRF; simp only [eq_true c1, eq_true c3, eq_true c4, eq_false c6, eq_true c7, not_true, not_false_iff, not_true_eq_false, not_false_eq_true, true_or, or_true, false_or, or_false, or_self, and_self, true_and, and_true, false_and, and_false, if_true, if_false])
        · -- 46 not
          have c6 := bI_1 c6
          refine lv_iload hx hb dX8_ruleOfField_49 (lv_at hl 4 rfl) ?_
          refine lv_bipush (v := -26) hx hb dX8_ruleOfField_51 (by decide) ?_
          refine lv_iand hx hb dX8_ruleOfField_53 ?_
          refine lv_if_le (tgt := 59) hx hb dX8_ruleOfField_54 (by decide) (fun c10 => ?_) (fun c10 => ?_)
          · -- 54 taken
            refine lv_iload_n hx hb dX8_ruleOfField_59 rfl (lv_at hl 3 rfl) ?_
            refine lv_if_ne (tgt := 67) hx hb dX8_ruleOfField_60 (by decide) (fun c11 => ?_) (fun c11 => ?_)
            · -- 60 taken
              refine lv_aload_n hx hb dX8_ruleOfField_67 rfl (lv_at hl 0 rfl) ?_
              refine lv_iload_n hx hb dX8_ruleOfField_68 rfl (lv_at hl 1 rfl) ?_
              refine lv_iload_n hx hb dX8_ruleOfField_69 rfl (lv_at hl 2 rfl) ?_
              refine ro_Vi (D := D) (G := G) (As := [.int (nI t), .int name]) (rest := []) ⟨hx, hb, hml, hown, hts⟩ (m_fieldOf l D G _ mo ad _ _ hP k h7 hk60 (nI t) name) gV_X8_X8_fieldOf hdV_X8_fieldOf ⟨Nat.le_of_ble_eq_true rfl, Nat.le_of_ble_eq_true rfl⟩ hK (va_recv hK.1 hP (ci := 8) (q0 := 0) rfl rfl) rfl hl.1 rfl (Nat.le_of_ble_eq_true rfl) dX8_ruleOfField_70 ⟨Nat.le_of_ble_eq_true rfl, Nat.le_of_ble_eq_true rfl⟩ (fun r12 e_r12 => ?_)
              subst e_r12
              refine lv_iconst (v := -1) hx hb dX8_ruleOfField_73 (by decide) ?_
              refine lv_icmp_ne (tgt := 81) hx hb dX8_ruleOfField_74 (by decide) (fun c13 => ?_) (fun c13 => ?_)
              · -- 74 taken
                refine lv_bipush (v := 6) hx hb dX8_ruleOfField_81 (by decide) ?_
                exact ro_iret (v := 6) hx hb hr hH hlocks dX8_ruleOfField_83 (by unfold aRF; simp only [eq_true c1, eq_true c3, eq_true c4, eq_true c6, eq_true c10, eq_false c11, eq_false c13, not_true, not_false_iff, not_true_eq_false, not_false_eq_true, true_or, or_true, false_or, or_false, or_self, and_self, true_and, and_true, false_and, and_false, if_true, if_false])
              · -- 74 not
                refine lv_iconst (v := 0) hx hb dX8_ruleOfField_77 (by decide) ?_
                refine lv_goto (tgt := 83) hx hb dX8_ruleOfField_78 (by decide) ?_
                exact ro_iret (v := 0) hx hb hr hH hlocks dX8_ruleOfField_83 (by unfold aRF; simp only [eq_true c1, eq_true c3, eq_true c4, eq_true c6, eq_true c10, eq_false c11, eq_true c13, not_true, not_false_iff, not_true_eq_false, not_false_eq_true, true_or, or_true, false_or, or_false, or_self, and_self, true_and, and_true, false_and, and_false, if_true, if_false])
            · -- 60 not
              refine lv_iconst (v := 5) hx hb dX8_ruleOfField_63 (by decide) ?_
              refine lv_goto (tgt := 83) hx hb dX8_ruleOfField_64 (by decide) ?_
              exact ro_iret (v := 5) hx hb hr hH hlocks dX8_ruleOfField_83 (by unfold aRF; simp only [eq_true c1, eq_true c3, eq_true c4, eq_true c6, eq_true c10, eq_true c11, not_true, not_false_iff, not_true_eq_false, not_false_eq_true, true_or, or_true, false_or, or_false, or_self, and_self, true_and, and_true, false_and, and_false, if_true, if_false])
          · -- 54 not
            refine lv_iconst (v := 4) hx hb dX8_ruleOfField_57 (by decide) ?_
            exact ro_iret (v := 4) hx hb hr hH hlocks dX8_ruleOfField_58 (by unfold aRF; simp only [eq_true c1, eq_true c3, eq_true c4, eq_true c6, eq_false c10, not_true, not_false_iff, not_true_eq_false, not_false_eq_true, true_or, or_true, false_or, or_false, or_self, and_self, true_and, and_true, false_and, and_false, if_true, if_false])
      · -- 28 not
        have c4 := and_nle c4
        refine lv_iload hx hb dX8_ruleOfField_31 (lv_at hl 4 rfl) ?_
        refine lv_bipush (v := 32) hx hb dX8_ruleOfField_33 (by decide) ?_
        refine lv_iand hx hb dX8_ruleOfField_35 ?_
        refine lv_if_le (tgt := 41) hx hb dX8_ruleOfField_36 (by decide) (fun c14 => ?_) (fun c14 => ?_)
        · -- 36 taken
          have c14 := and_le (by decide) c14
          refine lv_aload_n hx hb dX8_ruleOfField_41 rfl (lv_at hl 0 rfl) ?_
          refine lv_iload_n hx hb dX8_ruleOfField_42 rfl (lv_at hl 1 rfl) ?_
          refine ro_Vi (D := D) (G := G) (As := [.int (nI t)]) (rest := []) ⟨hx, hb, hml, hown, hts⟩ (m_isFace l D G _ mo ad _ _ hP (t) (by omega)) gV_X8_X8_isFace hdV_X8_isFace ⟨Nat.le_of_ble_eq_true rfl, Nat.le_of_ble_eq_true rfl⟩ hK (va_recv hK.1 hP (ci := 8) (q0 := 0) rfl rfl) rfl hl.1 rfl (Nat.le_of_ble_eq_true rfl) dX8_ruleOfField_43 ⟨Nat.le_of_ble_eq_true rfl, Nat.le_of_ble_eq_true rfl⟩ (fun r15 e_r15 => ?_)
          subst e_r15
          refine lv_if_eq (tgt := 59) hx hb dX8_ruleOfField_46 (by decide) (fun c16 => ?_) (fun c16 => ?_)
          · -- 46 taken
            have c16 := bI_0 c16
            refine lv_iload_n hx hb dX8_ruleOfField_59 rfl (lv_at hl 3 rfl) ?_
            refine lv_if_ne (tgt := 67) hx hb dX8_ruleOfField_60 (by decide) (fun c17 => ?_) (fun c17 => ?_)
            · -- 60 taken
              refine lv_aload_n hx hb dX8_ruleOfField_67 rfl (lv_at hl 0 rfl) ?_
              refine lv_iload_n hx hb dX8_ruleOfField_68 rfl (lv_at hl 1 rfl) ?_
              refine lv_iload_n hx hb dX8_ruleOfField_69 rfl (lv_at hl 2 rfl) ?_
              refine ro_Vi (D := D) (G := G) (As := [.int (nI t), .int name]) (rest := []) ⟨hx, hb, hml, hown, hts⟩ (m_fieldOf l D G _ mo ad _ _ hP k h7 hk60 (nI t) name) gV_X8_X8_fieldOf hdV_X8_fieldOf ⟨Nat.le_of_ble_eq_true rfl, Nat.le_of_ble_eq_true rfl⟩ hK (va_recv hK.1 hP (ci := 8) (q0 := 0) rfl rfl) rfl hl.1 rfl (Nat.le_of_ble_eq_true rfl) dX8_ruleOfField_70 ⟨Nat.le_of_ble_eq_true rfl, Nat.le_of_ble_eq_true rfl⟩ (fun r18 e_r18 => ?_)
              subst e_r18
              refine lv_iconst (v := -1) hx hb dX8_ruleOfField_73 (by decide) ?_
              refine lv_icmp_ne (tgt := 81) hx hb dX8_ruleOfField_74 (by decide) (fun c19 => ?_) (fun c19 => ?_)
              · -- 74 taken
                refine lv_bipush (v := 6) hx hb dX8_ruleOfField_81 (by decide) ?_
                exact ro_iret (v := 6) hx hb hr hH hlocks dX8_ruleOfField_83 (by unfold aRF; simp only [eq_true c1, eq_true c3, eq_false c4, eq_true c14, eq_false c16, eq_false c17, eq_false c19, not_true, not_false_iff, not_true_eq_false, not_false_eq_true, true_or, or_true, false_or, or_false, or_self, and_self, true_and, and_true, false_and, and_false, if_true, if_false])
              · -- 74 not
                refine lv_iconst (v := 0) hx hb dX8_ruleOfField_77 (by decide) ?_
                refine lv_goto (tgt := 83) hx hb dX8_ruleOfField_78 (by decide) ?_
                exact ro_iret (v := 0) hx hb hr hH hlocks dX8_ruleOfField_83 (by unfold aRF; simp only [eq_true c1, eq_true c3, eq_false c4, eq_true c14, eq_false c16, eq_false c17, eq_true c19, not_true, not_false_iff, not_true_eq_false, not_false_eq_true, true_or, or_true, false_or, or_false, or_self, and_self, true_and, and_true, false_and, and_false, if_true, if_false])
            · -- 60 not
              refine lv_iconst (v := 5) hx hb dX8_ruleOfField_63 (by decide) ?_
              refine lv_goto (tgt := 83) hx hb dX8_ruleOfField_64 (by decide) ?_
              exact ro_iret (v := 5) hx hb hr hH hlocks dX8_ruleOfField_83 (by unfold aRF; simp only [eq_true c1, eq_true c3, eq_false c4, eq_true c14, eq_false c16, eq_true c17, not_true, not_false_iff, not_true_eq_false, not_false_eq_true, true_or, or_true, false_or, or_false, or_self, and_self, true_and, and_true, false_and, and_false, if_true, if_false])
          · -- 46 not
            have c16 := bI_1 c16
            refine lv_iload hx hb dX8_ruleOfField_49 (lv_at hl 4 rfl) ?_
            refine lv_bipush (v := -26) hx hb dX8_ruleOfField_51 (by decide) ?_
            refine lv_iand hx hb dX8_ruleOfField_53 ?_
            refine lv_if_le (tgt := 59) hx hb dX8_ruleOfField_54 (by decide) (fun c20 => ?_) (fun c20 => ?_)
            · -- 54 taken
              refine lv_iload_n hx hb dX8_ruleOfField_59 rfl (lv_at hl 3 rfl) ?_
              refine lv_if_ne (tgt := 67) hx hb dX8_ruleOfField_60 (by decide) (fun c21 => ?_) (fun c21 => ?_)
              · -- 60 taken
                refine lv_aload_n hx hb dX8_ruleOfField_67 rfl (lv_at hl 0 rfl) ?_
                refine lv_iload_n hx hb dX8_ruleOfField_68 rfl (lv_at hl 1 rfl) ?_
                refine lv_iload_n hx hb dX8_ruleOfField_69 rfl (lv_at hl 2 rfl) ?_
                refine ro_Vi (D := D) (G := G) (As := [.int (nI t), .int name]) (rest := []) ⟨hx, hb, hml, hown, hts⟩ (m_fieldOf l D G _ mo ad _ _ hP k h7 hk60 (nI t) name) gV_X8_X8_fieldOf hdV_X8_fieldOf ⟨Nat.le_of_ble_eq_true rfl, Nat.le_of_ble_eq_true rfl⟩ hK (va_recv hK.1 hP (ci := 8) (q0 := 0) rfl rfl) rfl hl.1 rfl (Nat.le_of_ble_eq_true rfl) dX8_ruleOfField_70 ⟨Nat.le_of_ble_eq_true rfl, Nat.le_of_ble_eq_true rfl⟩ (fun r22 e_r22 => ?_)
                subst e_r22
                refine lv_iconst (v := -1) hx hb dX8_ruleOfField_73 (by decide) ?_
                refine lv_icmp_ne (tgt := 81) hx hb dX8_ruleOfField_74 (by decide) (fun c23 => ?_) (fun c23 => ?_)
                · -- 74 taken
                  refine lv_bipush (v := 6) hx hb dX8_ruleOfField_81 (by decide) ?_
                  exact ro_iret (v := 6) hx hb hr hH hlocks dX8_ruleOfField_83 (by unfold aRF; simp only [eq_true c1, eq_true c3, eq_false c4, eq_true c14, eq_true c16, eq_true c20, eq_false c21, eq_false c23, not_true, not_false_iff, not_true_eq_false, not_false_eq_true, true_or, or_true, false_or, or_false, or_self, and_self, true_and, and_true, false_and, and_false, if_true, if_false])
                · -- 74 not
                  refine lv_iconst (v := 0) hx hb dX8_ruleOfField_77 (by decide) ?_
                  refine lv_goto (tgt := 83) hx hb dX8_ruleOfField_78 (by decide) ?_
                  exact ro_iret (v := 0) hx hb hr hH hlocks dX8_ruleOfField_83 (by unfold aRF; simp only [eq_true c1, eq_true c3, eq_false c4, eq_true c14, eq_true c16, eq_true c20, eq_false c21, eq_true c23, not_true, not_false_iff, not_true_eq_false, not_false_eq_true, true_or, or_true, false_or, or_false, or_self, and_self, true_and, and_true, false_and, and_false, if_true, if_false])
              · -- 60 not
                refine lv_iconst (v := 5) hx hb dX8_ruleOfField_63 (by decide) ?_
                refine lv_goto (tgt := 83) hx hb dX8_ruleOfField_64 (by decide) ?_
                exact ro_iret (v := 5) hx hb hr hH hlocks dX8_ruleOfField_83 (by unfold aRF; simp only [eq_true c1, eq_true c3, eq_false c4, eq_true c14, eq_true c16, eq_true c20, eq_true c21, not_true, not_false_iff, not_true_eq_false, not_false_eq_true, true_or, or_true, false_or, or_false, or_self, and_self, true_and, and_true, false_and, and_false, if_true, if_false])
            · -- 54 not
              refine lv_iconst (v := 4) hx hb dX8_ruleOfField_57 (by decide) ?_
              exact ro_iret (v := 4) hx hb hr hH hlocks dX8_ruleOfField_58 (by unfold aRF; simp only [eq_true c1, eq_true c3, eq_false c4, eq_true c14, eq_true c16, eq_false c20, not_true, not_false_iff, not_true_eq_false, not_false_eq_true, true_or, or_true, false_or, or_false, or_self, and_self, true_and, and_true, false_and, and_false, if_true, if_false])
        · -- 36 not
          have c14 := and_nle c14
          refine lv_iconst (v := 3) hx hb dX8_ruleOfField_39 (by decide) ?_
          exact ro_iret (v := 3) hx hb hr hH hlocks dX8_ruleOfField_40 (by unfold aRF; simp only [eq_true c1, eq_true c3, eq_false c4, eq_false c14, not_true, not_false_iff, not_true_eq_false, not_false_eq_true, true_or, or_true, false_or, or_false, or_self, and_self, true_and, and_true, false_and, and_false, if_true, if_false])
    · -- 18 not
      refine lv_iconst (v := 2) hx hb dX8_ruleOfField_21 (by decide) ?_
      exact ro_iret (v := 2) hx hb hr hH hlocks dX8_ruleOfField_22 (by unfold aRF; simp only [eq_true c1, eq_false c3, not_true, not_false_iff, not_true_eq_false, not_false_eq_true, true_or, or_true, false_or, or_false, or_self, and_self, true_and, and_true, false_and, and_false, if_true, if_false])
  · -- 4 not
    refine lv_iconst (v := 1) hx hb dX8_ruleOfField_7 (by decide) ?_
    exact ro_iret (v := 1) hx hb hr hH hlocks dX8_ruleOfField_8 (by unfold aRF; simp only [eq_false c1, not_true, not_false_iff, not_true_eq_false, not_false_eq_true, true_or, or_true, false_or, or_false, or_self, and_self, true_and, and_true, false_and, and_false, if_true, if_false])
set_option maxHeartbeats 4000000 in
set_option maxRecDepth 100000 in
theorem m_isEntry (l : Launch) (D : va_G) (G : Nat → ClassId) (H : Heap) (mo : Nat) (ad : Nat → Nat) (σ : MS) (τ : Nat → Int64) (hP : va_P D vwCl (mW G mo ad σ τ) H) (k : Nat) (h7 : σ 7 0 = nI k) (hk60 : k ≤ 60) (en : Int32) : Met l yX8_isEntry (ww yX8_isEntry cX8_isEntry 2 (some .boolean)) (rmD 1) (roP D G H [.ref mo, .int en]) (vp_Si (fun r => r = bI (okN k en))) 0 0 (fun _ => False) := by
  refine Met.ofW (cc := cX8_isEntry) (maxL := 2) (ret := (some .boolean)) (by decide) rfl ?_
  intro p e s m args below meth c s₁ B hml hv
  obtain ⟨rfl, hH, hK⟩ := hv
  have hx := B.exec
  have hb := B.bytes
  have hr := B.returns
  have hts : ∀ w ∈ TT, w.before _ s = true := fun w h => atoms_spec (ws := ww yX8_isEntry cX8_isEntry 2 (some .boolean)) B.pre w (List.mem_cons_of_mem _ h)
  have hown : s.vm.findClass RX8 = some m.cls := findClass_of_methodNamed B.named
  have hlocks := B.notSynchronized
  rw [hH]
  have hl := lv_entry ([.ref mo, .int en]) (n := 2) (Nat.le_of_ble_eq_true rfl)
  rw [lg_entry_eq]
  generalize (lg_sl ([.ref mo, .int en]) ++ List.replicate (2 - (lg_sl ([.ref mo, .int en])).length) Slot.unset).toArray = ls at hl ⊢
  have hl : lv_has ls 2 [(0, .ref mo), (1, .int en)] := hl
  refine lv_iload_n hx hb dX8_isEntry_0 rfl (lv_at hl 1 rfl) ?_
  refine lv_iconst (v := 0) hx hb dX8_isEntry_1 (by decide) ?_
  refine lv_aload_n hx hb dX8_isEntry_2 rfl (lv_at hl 0 rfl) ?_
  refine va_get (D := D) (ci := 8) (v := .int (σ 7 0)) (C := RX8) (T := TX8) (N := 33) hx hb hts iX8 hown hK.1 hP 0 rfl rfl 7 (by decide) (hts _ q_686) (fun _ h9 => h9) rfl dX8_isEntry_3 ?_
  refine lv_iconst (v := 1) hx hb dX8_isEntry_6 (by decide) ?_
  refine lv_isub hx hb dX8_isEntry_7 ?_
  refine ro_Si (D := D) (G := G) (As := [.int en, .int 0, .int ((σ 7 0) - 1)]) (rest := []) ⟨hx, hb, hml, hown, hts⟩ (m_in l D G _ en 0 ((σ 7 0) - 1)) gS_X8_X8_in hdS_X8_in ⟨Nat.le_of_ble_eq_true rfl, Nat.le_of_ble_eq_true rfl⟩ hK rfl hl.1 rfl (Nat.le_of_ble_eq_true rfl) dX8_isEntry_8 ⟨Nat.le_of_ble_eq_true rfl, Nat.le_of_ble_eq_true rfl⟩ (fun r1 e_r1 => ?_)
  subst e_r1
  exact ro_zret (v := bI (0 ≤ en ∧ en ≤ (σ 7 0) - 1)) hx hb hr hH hlocks dX8_isEntry_11 bI_b (by rw [h7]; exact bI_c (okN_iff (by omega)))
end
section
theorem zz_last : True := trivial
end
