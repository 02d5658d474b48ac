theorem dX7_foundThroughParent_0 : decode cX7_foundThroughParent 0 = .ok (.iload_n 1, 1) := by decide +kernel
theorem dX7_foundThroughParent_1 : decode cX7_foundThroughParent 1 = .ok (.ifCond .lt 9, 3) := by decide +kernel
theorem dX7_foundThroughParent_10 : decode cX7_foundThroughParent 10 = .ok (.iconst (-1), 1) := by decide +kernel
theorem dX7_foundThroughParent_11 : decode cX7_foundThroughParent 11 = .ok (.ireturn, 1) := by decide +kernel
theorem dX7_foundThroughParent_4 : decode cX7_foundThroughParent 4 = .ok (.iload_n 1, 1) := by decide +kernel
theorem dX7_foundThroughParent_5 : decode cX7_foundThroughParent 5 = .ok (.bipush 12, 2) := by decide +kernel
theorem dX7_foundThroughParent_7 : decode cX7_foundThroughParent 7 = .ok (.if_icmp .lt 5, 3) := by decide +kernel
theorem dX7_foundThroughParent_12 : decode cX7_foundThroughParent 12 = .ok (.aload_n 0, 1) := by decide +kernel
theorem dX7_foundThroughParent_13 : decode cX7_foundThroughParent 13 = .ok (.aload_n 0, 1) := by decide +kernel
theorem q_81 : Cond.fieldLink "FieldMember" 33 "FieldMember" "foundFields" "[I" ∈ TT := tt_t (i := 81) (by decide +kernel) (by decide +kernel)
theorem dX7_foundThroughParent_14 : decode cX7_foundThroughParent 14 = .ok (.getfield 33, 3) := by decide +kernel
theorem dX7_foundThroughParent_17 : decode cX7_foundThroughParent 17 = .ok (.iload_n 1, 1) := by decide +kernel
theorem dX7_foundThroughParent_18 : decode cX7_foundThroughParent 18 = .ok (.iaload, 1) := by decide +kernel
theorem q_267 : Cond.methodLink "FieldMember" 105 ⟨"FieldMember", "entryAt", "(I)LFieldMember$Entry;"⟩ ∈ TT := tt_t (i := 267) (by decide +kernel) (by decide +kernel)
theorem q_270 : Cond.code ⟨"FieldMember", "entryAt", "(I)LFieldMember$Entry;"⟩ prog_1_method_30_code 2 (some (.object "FieldMember$Entry")) ∈ TT := tt_t (i := 270) (by decide +kernel) (by decide +kernel)
theorem q_269 : Cond.instanceMethod ⟨"FieldMember", "entryAt", "(I)LFieldMember$Entry;"⟩ ∈ TT := tt_t (i := 269) (by decide +kernel) (by decide +kernel)
theorem qs_6 : Cond.selects "FieldMember" ⟨"FieldMember", "entryAt", "(I)LFieldMember$Entry;"⟩ ⟨"FieldMember", "entryAt", "(I)LFieldMember$Entry;"⟩ ∈ TT := tt_s (i := 6) (by decide +kernel) (by decide +kernel)
theorem gV_X7_X7_entryAt : GoodIn TT (wsV RX7 105 RX7 yX7_entryAt (ww yX7_entryAt cX7_entryAt 2 (some (.object "FieldMember$Entry")))) := tt_V q_267 q_269 qs_6 q_1 q_270
theorem hdV_X7_entryAt : yX7_entryAt.cls = RX7 ∧ yX7_entryAt.cls ≠ "java/lang/invoke/MethodHandle" ∧ yX7_entryAt.cls ≠ "java/lang/invoke/VarHandle" ∧ (parseMethodDescriptor yX7_entryAt.desc).map (fun d => d.parameters.length) = some 1 := by decide +kernel
theorem dX7_foundThroughParent_19 : decode cX7_foundThroughParent 19 = .ok (.invokevirtual 105, 3) := by decide +kernel
theorem dX7_foundThroughParent_22 : decode cX7_foundThroughParent 22 = .ok (.astore_n 2, 1) := by decide +kernel
theorem dX7_foundThroughParent_23 : decode cX7_foundThroughParent 23 = .ok (.aload_n 2, 1) := by decide +kernel
theorem dX7_foundThroughParent_24 : decode cX7_foundThroughParent 24 = .ok (.ifnull 15, 3) := by decide +kernel
theorem dX7_foundThroughParent_27 : decode cX7_foundThroughParent 27 = .ok (.aload_n 2, 1) := by decide +kernel
theorem dX7_foundThroughParent_28 : decode cX7_foundThroughParent 28 = .ok (.iconst 4, 1) := by decide +kernel
theorem q_431 : Cond.methodLink "FieldMember" 308 ⟨"FieldMember$Entry", "hasAny", "(I)Z"⟩ ∈ TT := tt_t (i := 431) (by decide +kernel) (by decide +kernel)
theorem q_1009 : Cond.sameMethod "FieldMember$Entry" "FieldMember$Entry" "hasAny" "(I)Z" ∈ TT := tt_t (i := 1009) (by decide +kernel) (by decide +kernel)
theorem q_1010 : Cond.selects "FieldMember$Field" ⟨"FieldMember$Entry", "hasAny", "(I)Z"⟩ ⟨"FieldMember$Entry", "hasAny", "(I)Z"⟩ ∈ TT := tt_t (i := 1010) (by decide +kernel) (by decide +kernel)
theorem gU_X7_308_X2 : GoodIn TT (va_wsU RX7 308 RX2 "FieldMember$Entry" ⟨"FieldMember$Entry", "hasAny", "(I)Z"⟩ yX1_hasAny (ww yX1_hasAny cX1_hasAny 2 (some .boolean))) := tt_U q_431 q_1009 q_1010 q_279 q_7 q_280
theorem dX7_foundThroughParent_29 : decode cX7_foundThroughParent 29 = .ok (.invokevirtual 308, 3) := by decide +kernel
theorem dX7_foundThroughParent_32 : decode cX7_foundThroughParent 32 = .ok (.ifCond .eq 7, 3) := by decide +kernel
theorem dX7_foundThroughParent_39 : decode cX7_foundThroughParent 39 = .ok (.aload_n 0, 1) := by decide +kernel
theorem dX7_foundThroughParent_40 : decode cX7_foundThroughParent 40 = .ok (.getfield 33, 3) := by decide +kernel
theorem dX7_foundThroughParent_43 : decode cX7_foundThroughParent 43 = .ok (.iload_n 1, 1) := by decide +kernel
theorem dX7_foundThroughParent_44 : decode cX7_foundThroughParent 44 = .ok (.iaload, 1) := by decide +kernel
theorem dX7_foundThroughParent_45 : decode cX7_foundThroughParent 45 = .ok (.ireturn, 1) := by decide +kernel
theorem dX7_foundThroughParent_35 : decode cX7_foundThroughParent 35 = .ok (.iconst (-1), 1) := by decide +kernel
theorem dX7_foundThroughParent_36 : decode cX7_foundThroughParent 36 = .ok (.goto 9, 3) := by decide +kernel
theorem dX7_fieldFoundIn_0 : decode cX7_fieldFoundIn 0 = .ok (.aload_n 0, 1) := by decide +kernel
theorem dX7_fieldFoundIn_1 : decode cX7_fieldFoundIn 1 = .ok (.iload_n 1, 1) := by decide +kernel
theorem dX7_fieldFoundIn_2 : decode cX7_fieldFoundIn 2 = .ok (.iload_n 2, 1) := by decide +kernel
theorem q_199 : Cond.methodLink "FieldMember" 89 ⟨"FieldMember", "ownField", "(II)I"⟩ ∈ TT := tt_t (i := 199) (by decide +kernel) (by decide +kernel)
theorem q_202 : Cond.code ⟨"FieldMember", "ownField", "(II)I"⟩ prog_1_method_32_code 5 (some .int) ∈ TT := tt_t (i := 202) (by decide +kernel) (by decide +kernel)
theorem q_201 : Cond.instanceMethod ⟨"FieldMember", "ownField", "(II)I"⟩ ∈ TT := tt_t (i := 201) (by decide +kernel) (by decide +kernel)
theorem qs_3 : Cond.selects "FieldMember" ⟨"FieldMember", "ownField", "(II)I"⟩ ⟨"FieldMember", "ownField", "(II)I"⟩ ∈ TT := tt_s (i := 3) (by decide +kernel) (by decide +kernel)
theorem gV_X7_X7_ownField : GoodIn TT (wsV RX7 89 RX7 yX7_ownField (ww yX7_ownField cX7_ownField 5 (some .int))) := tt_V q_199 q_201 qs_3 q_1 q_202
theorem hdV_X7_ownField : yX7_ownField.cls = RX7 ∧ yX7_ownField.cls ≠ "java/lang/invoke/MethodHandle" ∧ yX7_ownField.cls ≠ "java/lang/invoke/VarHandle" ∧ (parseMethodDescriptor yX7_ownField.desc).map (fun d => d.parameters.length) = some 2 := by decide +kernel
theorem dX7_fieldFoundIn_3 : decode cX7_fieldFoundIn 3 = .ok (.invokevirtual 89, 3) := by decide +kernel
theorem dX7_fieldFoundIn_6 : decode cX7_fieldFoundIn 6 = .ok (.istore_n 3, 1) := by decide +kernel
theorem dX7_fieldFoundIn_7 : decode cX7_fieldFoundIn 7 = .ok (.iload_n 3, 1) := by decide +kernel
theorem dX7_fieldFoundIn_8 : decode cX7_fieldFoundIn 8 = .ok (.iconst (-1), 1) := by decide +kernel
theorem dX7_fieldFoundIn_9 : decode cX7_fieldFoundIn 9 = .ok (.if_icmp .eq 5, 3) := by decide +kernel
theorem dX7_fieldFoundIn_14 : decode cX7_fieldFoundIn 14 = .ok (.aload_n 0, 1) := by decide +kernel
theorem dX7_fieldFoundIn_15 : decode cX7_fieldFoundIn 15 = .ok (.aload_n 0, 1) := by decide +kernel
theorem dX7_fieldFoundIn_16 : decode cX7_fieldFoundIn 16 = .ok (.getfield 12, 3) := by decide +kernel
theorem dX7_fieldFoundIn_19 : decode cX7_fieldFoundIn 19 = .ok (.iload_n 1, 1) := by decide +kernel
theorem q_426 : Cond.methodLink "FieldMember" 299 ⟨"FieldMember$Types", "parentOf", "(I)I"⟩ ∈ TT := tt_t (i := 426) (by decide +kernel) (by decide +kernel)
theorem q_135 : Cond.code ⟨"FieldMember$Types", "parentOf", "(I)I"⟩ prog_8_method_4_code 2 (some .int) ∈ TT := tt_t (i := 135) (by decide +kernel) (by decide +kernel)
theorem q_133 : Cond.instanceMethod ⟨"FieldMember$Types", "parentOf", "(I)I"⟩ ∈ TT := tt_t (i := 133) (by decide +kernel) (by decide +kernel)
theorem q_134 : Cond.selects "FieldMember$Types" ⟨"FieldMember$Types", "parentOf", "(I)I"⟩ ⟨"FieldMember$Types", "parentOf", "(I)I"⟩ ∈ TT := tt_t (i := 134) (by decide +kernel) (by decide +kernel)
theorem gV_X7_X6_parentOf : GoodIn TT (wsV RX7 299 RX6 yX6_parentOf (ww yX6_parentOf cX6_parentOf 2 (some .int))) := tt_V q_426 q_133 q_134 q_2 q_135
theorem hdV_X6_parentOf : yX6_parentOf.cls = RX6 ∧ yX6_parentOf.cls ≠ "java/lang/invoke/MethodHandle" ∧ yX6_parentOf.cls ≠ "java/lang/invoke/VarHandle" ∧ (parseMethodDescriptor yX6_parentOf.desc).map (fun d => d.parameters.length) = some 1 := by decide +kernel
theorem dX7_fieldFoundIn_20 : decode cX7_fieldFoundIn 20 = .ok (.invokevirtual 299, 3) := by decide +kernel
theorem q_427 : Cond.methodLink "FieldMember" 302 ⟨"FieldMember", "foundThroughParent", "(I)I"⟩ ∈ TT := tt_t (i := 427) (by decide +kernel) (by decide +kernel)
theorem q_430 : Cond.code ⟨"FieldMember", "foundThroughParent", "(I)I"⟩ prog_1_method_42_code 3 (some .int) ∈ TT := tt_t (i := 430) (by decide +kernel) (by decide +kernel)
theorem q_429 : Cond.instanceMethod ⟨"FieldMember", "foundThroughParent", "(I)I"⟩ ∈ TT := tt_t (i := 429) (by decide +kernel) (by decide +kernel)
theorem qs_16 : Cond.selects "FieldMember" ⟨"FieldMember", "foundThroughParent", "(I)I"⟩ ⟨"FieldMember", "foundThroughParent", "(I)I"⟩ ∈ TT := tt_s (i := 16) (by decide +kernel) (by decide +kernel)
theorem gV_X7_X7_foundThroughParent : GoodIn TT (wsV RX7 302 RX7 yX7_foundThroughParent (ww yX7_foundThroughParent cX7_foundThroughParent 3 (some .int))) := tt_V q_427 q_429 qs_16 q_1 q_430
theorem hdV_X7_foundThroughParent : yX7_foundThroughParent.cls = RX7 ∧ yX7_foundThroughParent.cls ≠ "java/lang/invoke/MethodHandle" ∧ yX7_foundThroughParent.cls ≠ "java/lang/invoke/VarHandle" ∧ (parseMethodDescriptor yX7_foundThroughParent.desc).map (fun d => d.parameters.length) = some 1 := by decide +kernel
theorem dX7_fieldFoundIn_23 : decode cX7_fieldFoundIn 23 = .ok (.invokevirtual 302, 3) := by decide +kernel
theorem dX7_fieldFoundIn_26 : decode cX7_fieldFoundIn 26 = .ok (.istore 4, 2) := by decide +kernel
theorem dX7_fieldFoundIn_28 : decode cX7_fieldFoundIn 28 = .ok (.iconst 0, 1) := by decide +kernel
theorem dX7_fieldFoundIn_29 : decode cX7_fieldFoundIn 29 = .ok (.istore 5, 2) := by decide +kernel
theorem dX7_fieldFoundIn_31 : decode cX7_fieldFoundIn 31 = .ok (.iload 5, 2) := by decide +kernel
theorem dX7_fieldFoundIn_33 : decode cX7_fieldFoundIn 33 = .ok (.iload_n 1, 1) := by decide +kernel
theorem dX7_fieldFoundIn_34 : decode cX7_fieldFoundIn 34 = .ok (.if_icmp .ge 43, 3) := by decide +kernel
theorem dX7_fieldFoundIn_77 : decode cX7_fieldFoundIn 77 = .ok (.iload 4, 2) := by decide +kernel
theorem dX7_fieldFoundIn_79 : decode cX7_fieldFoundIn 79 = .ok (.ireturn, 1) := by decide +kernel
theorem dX7_fieldFoundIn_37 : decode cX7_fieldFoundIn 37 = .ok (.iload 5, 2) := by decide +kernel
theorem dX7_fieldFoundIn_39 : decode cX7_fieldFoundIn 39 = .ok (.bipush 12, 2) := by decide +kernel
theorem dX7_fieldFoundIn_41 : decode cX7_fieldFoundIn 41 = .ok (.if_icmp .ge 36, 3) := by decide +kernel
theorem dX7_fieldFoundIn_44 : decode cX7_fieldFoundIn 44 = .ok (.aload_n 0, 1) := by decide +kernel
theorem dX7_fieldFoundIn_45 : decode cX7_fieldFoundIn 45 = .ok (.getfield 12, 3) := by decide +kernel
theorem dX7_fieldFoundIn_48 : decode cX7_fieldFoundIn 48 = .ok (.iload_n 1, 1) := by decide +kernel
theorem dX7_fieldFoundIn_49 : decode cX7_fieldFoundIn 49 = .ok (.iload 5, 2) := by decide +kernel
theorem q_149 : Cond.methodLink "FieldMember" 57 ⟨"FieldMember$Types", "hasFace", "(II)Z"⟩ ∈ TT := tt_t (i := 149) (by decide +kernel) (by decide +kernel)
theorem q_139 : Cond.code ⟨"FieldMember$Types", "hasFace", "(II)Z"⟩ prog_8_method_8_code 3 (some .boolean) ∈ TT := tt_t (i := 139) (by decide +kernel) (by decide +kernel)
theorem q_137 : Cond.instanceMethod ⟨"FieldMember$Types", "hasFace", "(II)Z"⟩ ∈ TT := tt_t (i := 137) (by decide +kernel) (by decide +kernel)
theorem q_138 : Cond.selects "FieldMember$Types" ⟨"FieldMember$Types", "hasFace", "(II)Z"⟩ ⟨"FieldMember$Types", "hasFace", "(II)Z"⟩ ∈ TT := tt_t (i := 138) (by decide +kernel) (by decide +kernel)
theorem gV_X7_X6_hasFace : GoodIn TT (wsV RX7 57 RX6 yX6_hasFace (ww yX6_hasFace cX6_hasFace 3 (some .boolean))) := tt_V q_149 q_137 q_138 q_2 q_139
theorem hdV_X6_hasFace : yX6_hasFace.cls = RX6 ∧ yX6_hasFace.cls ≠ "java/lang/invoke/MethodHandle" ∧ yX6_hasFace.cls ≠ "java/lang/invoke/VarHandle" ∧ (parseMethodDescriptor yX6_hasFace.desc).map (fun d => d.parameters.length) = some 2 := by decide +kernel
theorem dX7_fieldFoundIn_51 : decode cX7_fieldFoundIn 51 = .ok (.invokevirtual 57, 3) := by decide +kernel
theorem dX7_fieldFoundIn_54 : decode cX7_fieldFoundIn 54 = .ok (.ifCond .eq 17, 3) := by decide +kernel
theorem dX7_fieldFoundIn_71 : decode cX7_fieldFoundIn 71 = .ok (.iinc 5 1, 3) := by decide +kernel
theorem dX7_fieldFoundIn_74 : decode cX7_fieldFoundIn 74 = .ok (.goto (-43), 3) := by decide +kernel
theorem dX7_fieldFoundIn_57 : decode cX7_fieldFoundIn 57 = .ok (.iload 4, 2) := by decide +kernel
theorem dX7_fieldFoundIn_59 : decode cX7_fieldFoundIn 59 = .ok (.aload_n 0, 1) := by decide +kernel
theorem dX7_fieldFoundIn_60 : decode cX7_fieldFoundIn 60 = .ok (.getfield 33, 3) := by decide +kernel
theorem dX7_fieldFoundIn_63 : decode cX7_fieldFoundIn 63 = .ok (.iload 5, 2) := by decide +kernel
theorem dX7_fieldFoundIn_65 : decode cX7_fieldFoundIn 65 = .ok (.iaload, 1) := by decide +kernel
theorem q_432 : Cond.methodLink "FieldMember" 305 ⟨"FieldMember", "oneOfBoth", "(II)I"⟩ ∈ TT := tt_t (i := 432) (by decide +kernel) (by decide +kernel)
theorem q_434 : Cond.code ⟨"FieldMember", "oneOfBoth", "(II)I"⟩ prog_1_method_43_code 2 (some .int) ∈ TT := tt_t (i := 434) (by decide +kernel) (by decide +kernel)
theorem q_433 : Cond.static ⟨"FieldMember", "oneOfBoth", "(II)I"⟩ ∈ TT := tt_t (i := 433) (by decide +kernel) (by decide +kernel)
theorem gS_X7_X7_oneOfBoth : GoodIn TT (va_wsS RX7 305 yX7_oneOfBoth (ww yX7_oneOfBoth cX7_oneOfBoth 2 (some .int))) := tt_S q_432 q_433 q_1 q_434
theorem hdS_X7_oneOfBoth : yX7_oneOfBoth.cls ≠ "java/lang/invoke/MethodHandle" ∧ yX7_oneOfBoth.cls ≠ "java/lang/invoke/VarHandle" ∧ (parseMethodDescriptor yX7_oneOfBoth.desc).map (fun d => d.parameters.length) = some 2 := by decide +kernel
theorem dX7_fieldFoundIn_66 : decode cX7_fieldFoundIn 66 = .ok (.invokestatic 305, 3) := by decide +kernel
theorem dX7_fieldFoundIn_69 : decode cX7_fieldFoundIn 69 = .ok (.istore 4, 2) := by decide +kernel
theorem dX7_fieldFoundIn_12 : decode cX7_fieldFoundIn 12 = .ok (.iload_n 3, 1) := by decide +kernel
theorem dX7_fieldFoundIn_13 : decode cX7_fieldFoundIn 13 = .ok (.ireturn, 1) := by decide +kernel
theorem dX7_way_0 : decode cX7_way 0 = .ok (.aload_n 0, 1) := by decide +kernel
theorem q_78 : Cond.fieldLink "FieldMember" 248 "FieldMember" "latestWay" "I" ∈ TT := tt_t (i := 78) (by decide +kernel) (by decide +kernel)
theorem dX7_way_1 : decode cX7_way 1 = .ok (.getfield 248, 3) := by decide +kernel
theorem dX7_way_4 : decode cX7_way 4 = .ok (.ireturn, 1) := by decide +kernel
theorem dX7_below_0 : decode cX7_below 0 = .ok (.aload_n 0, 1) := by decide +kernel
theorem dX7_below_1 : decode cX7_below 1 = .ok (.getfield 12, 3) := by decide +kernel
theorem dX7_below_4 : decode cX7_below 4 = .ok (.iload_n 1, 1) := by decide +kernel
theorem dX7_below_5 : decode cX7_below 5 = .ok (.invokevirtual 51, 3) := by decide +kernel
theorem dX7_below_8 : decode cX7_below 8 = .ok (.ifCond .eq 14, 3) := by decide +kernel
theorem dX7_below_22 : decode cX7_below 22 = .ok (.bipush (-11), 2) := by decide +kernel
theorem dX7_below_24 : decode cX7_below 24 = .ok (.ireturn, 1) := by decide +kernel
theorem dX7_below_11 : decode cX7_below 11 = .ok (.aload_n 0, 1) := by decide +kernel
theorem dX7_below_12 : decode cX7_below 12 = .ok (.getfield 12, 3) := by decide +kernel
theorem dX7_below_15 : decode cX7_below 15 = .ok (.iload_n 2, 1) := by decide +kernel
theorem dX7_below_16 : decode cX7_below 16 = .ok (.invokevirtual 51, 3) := by decide +kernel
theorem dX7_below_19 : decode cX7_below 19 = .ok (.ifCond .ne 6, 3) := by decide +kernel
theorem dX7_below_25 : decode cX7_below 25 = .ok (.aload_n 0, 1) := by decide +kernel
theorem dX7_below_26 : decode cX7_below 26 = .ok (.getfield 12, 3) := by decide +kernel
theorem dX7_below_29 : decode cX7_below 29 = .ok (.iload_n 1, 1) := by decide +kernel
theorem dX7_below_30 : decode cX7_below 30 = .ok (.iload_n 2, 1) := by decide +kernel
theorem dX7_below_31 : decode cX7_below 31 = .ok (.invokevirtual 72, 3) := by decide +kernel
theorem q_168 : Cond.methodLink "FieldMember" 75 ⟨"FieldMember", "asNumber", "(Z)I"⟩ ∈ TT := tt_t (i := 168) (by decide +kernel) (by decide +kernel)
theorem q_170 : Cond.code ⟨"FieldMember", "asNumber", "(Z)I"⟩ prog_1_method_22_code 1 (some .int) ∈ TT := tt_t (i := 170) (by decide +kernel) (by decide +kernel)
theorem q_169 : Cond.static ⟨"FieldMember", "asNumber", "(Z)I"⟩ ∈ TT := tt_t (i := 169) (by decide +kernel) (by decide +kernel)
theorem gS_X7_X7_asNumber : GoodIn TT (va_wsS RX7 75 yX7_asNumber (ww yX7_asNumber cX7_asNumber 1 (some .int))) := tt_S q_168 q_169 q_1 q_170
theorem hdS_X7_asNumber : yX7_asNumber.cls ≠ "java/lang/invoke/MethodHandle" ∧ yX7_asNumber.cls ≠ "java/lang/invoke/VarHandle" ∧ (parseMethodDescriptor yX7_asNumber.desc).map (fun d => d.parameters.length) = some 1 := by decide +kernel
theorem dX7_below_34 : decode cX7_below 34 = .ok (.invokestatic 75, 3) := by decide +kernel
theorem dX7_below_37 : decode cX7_below 37 = .ok (.ireturn, 1) := by decide +kernel
theorem dX7_entry_0 : decode cX7_entry 0 = .ok (.aload_n 0, 1) := by decide +kernel
theorem dX7_entry_1 : decode cX7_entry 1 = .ok (.iload_n 1, 1) := by decide +kernel
theorem dX7_entry_2 : decode cX7_entry 2 = .ok (.invokevirtual 105, 3) := by decide +kernel
theorem dX7_entry_5 : decode cX7_entry 5 = .ok (.astore_n 3, 1) := by decide +kernel
theorem dX7_entry_6 : decode cX7_entry 6 = .ok (.aload_n 3, 1) := by decide +kernel
theorem dX7_entry_7 : decode cX7_entry 7 = .ok (.ifnonnull 6, 3) := by decide +kernel
theorem dX7_entry_13 : decode cX7_entry 13 = .ok (.iload_n 2, 1) := by decide +kernel
theorem dX7_entry_14 : decode cX7_entry 14 = .ok (.tableswitch 71 0 5 #[38, 46, 51, 56, 61, 66], 38) := by decide +kernel
theorem dX7_entry_52 : decode cX7_entry 52 = .ok (.aload_n 3, 1) := by decide +kernel
theorem dX7_entry_53 : decode cX7_entry 53 = .ok (.instanceof 160, 3) := by decide +kernel
theorem dX7_entry_56 : decode cX7_entry 56 = .ok (.invokestatic 75, 3) := by decide +kernel
theorem dX7_entry_59 : decode cX7_entry 59 = .ok (.ireturn, 1) := by decide +kernel
theorem dX7_entry_60 : decode cX7_entry 60 = .ok (.aload_n 3, 1) := by decide +kernel
theorem dX7_entry_61 : decode cX7_entry 61 = .ok (.getfield 199, 3) := by decide +kernel
theorem dX7_entry_64 : decode cX7_entry 64 = .ok (.ireturn, 1) := by decide +kernel
theorem dX7_entry_65 : decode cX7_entry 65 = .ok (.aload_n 3, 1) := by decide +kernel
theorem dX7_entry_66 : decode cX7_entry 66 = .ok (.getfield 202, 3) := by decide +kernel
theorem dX7_entry_69 : decode cX7_entry 69 = .ok (.ireturn, 1) := by decide +kernel
theorem dX7_entry_70 : decode cX7_entry 70 = .ok (.aload_n 3, 1) := by decide +kernel
theorem q_231 : Cond.fieldLink "FieldMember" 205 "FieldMember$Entry" "kind" "I" ∈ TT := tt_t (i := 231) (by decide +kernel) (by decide +kernel)
theorem dX7_entry_71 : decode cX7_entry 71 = .ok (.getfield 205, 3) := by decide +kernel
theorem dX7_entry_74 : decode cX7_entry 74 = .ok (.ireturn, 1) := by decide +kernel
theorem dX7_entry_75 : decode cX7_entry 75 = .ok (.aload_n 3, 1) := by decide +kernel
theorem q_237 : Cond.fieldLink "FieldMember" 206 "FieldMember$Entry" "dims" "I" ∈ TT := tt_t (i := 237) (by decide +kernel) (by decide +kernel)
theorem dX7_entry_76 : decode cX7_entry 76 = .ok (.getfield 206, 3) := by decide +kernel
theorem dX7_entry_79 : decode cX7_entry 79 = .ok (.ireturn, 1) := by decide +kernel
theorem dX7_entry_80 : decode cX7_entry 80 = .ok (.aload_n 3, 1) := by decide +kernel
theorem q_241 : Cond.fieldLink "FieldMember" 209 "FieldMember$Entry" "marks" "I" ∈ TT := tt_t (i := 241) (by decide +kernel) (by decide +kernel)
theorem dX7_entry_81 : decode cX7_entry 81 = .ok (.getfield 209, 3) := by decide +kernel
theorem dX7_entry_84 : decode cX7_entry 84 = .ok (.ireturn, 1) := by decide +kernel
theorem dX7_entry_85 : decode cX7_entry 85 = .ok (.bipush (-13), 2) := by decide +kernel
theorem dX7_entry_87 : decode cX7_entry 87 = .ok (.ireturn, 1) := by decide +kernel
theorem dX7_entry_10 : decode cX7_entry 10 = .ok (.bipush (-11), 2) := by decide +kernel
theorem dX7_entry_12 : decode cX7_entry 12 = .ok (.ireturn, 1) := by decide +kernel
theorem dX7_shape_0 : decode cX7_shape 0 = .ok (.aload_n 0, 1) := by decide +kernel
theorem dX7_shape_1 : decode cX7_shape 1 = .ok (.iload_n 1, 1) := by decide +kernel
theorem dX7_shape_2 : decode cX7_shape 2 = .ok (.invokevirtual 105, 3) := by decide +kernel
theorem dX7_shape_5 : decode cX7_shape 5 = .ok (.astore_n 3, 1) := by decide +kernel
theorem dX7_shape_6 : decode cX7_shape 6 = .ok (.aload_n 3, 1) := by decide +kernel
theorem dX7_shape_7 : decode cX7_shape 7 = .ok (.ifnonnull 6, 3) := by decide +kernel
theorem dX7_shape_13 : decode cX7_shape 13 = .ok (.aload_n 3, 1) := by decide +kernel
theorem dX7_shape_14 : decode cX7_shape 14 = .ok (.instanceof 160, 3) := by decide +kernel
theorem dX7_shape_17 : decode cX7_shape 17 = .ok (.ifCond .eq 12, 3) := by decide +kernel
theorem dX7_shape_29 : decode cX7_shape 29 = .ok (.bipush (-12), 2) := by decide +kernel
theorem dX7_shape_31 : decode cX7_shape 31 = .ok (.ireturn, 1) := by decide +kernel
theorem dX7_shape_20 : decode cX7_shape 20 = .ok (.aload_n 3, 1) := by decide +kernel
theorem dX7_shape_21 : decode cX7_shape 21 = .ok (.checkcast 160, 3) := by decide +kernel
theorem dX7_shape_24 : decode cX7_shape 24 = .ok (.astore 4, 2) := by decide +kernel
theorem dX7_shape_26 : decode cX7_shape 26 = .ok (.goto 6, 3) := by decide +kernel
theorem dX7_shape_32 : decode cX7_shape 32 = .ok (.iload_n 2, 1) := by decide +kernel
theorem dX7_shape_33 : decode cX7_shape 33 = .ok (.tableswitch 64 0 3 #[31, 40, 49, 58], 31) := by decide +kernel
theorem dX7_shape_64 : decode cX7_shape 64 = .ok (.aload 4, 2) := by decide +kernel
theorem dX7_shape_66 : decode cX7_shape 66 = .ok (.getfield 171, 3) := by decide +kernel
theorem dX7_shape_69 : decode cX7_shape 69 = .ok (.getfield 212, 3) := by decide +kernel
theorem dX7_shape_72 : decode cX7_shape 72 = .ok (.ireturn, 1) := by decide +kernel
theorem dX7_shape_73 : decode cX7_shape 73 = .ok (.aload 4, 2) := by decide +kernel
theorem dX7_shape_75 : decode cX7_shape 75 = .ok (.getfield 177, 3) := by decide +kernel
theorem dX7_shape_78 : decode cX7_shape 78 = .ok (.invokestatic 75, 3) := by decide +kernel
theorem dX7_shape_81 : decode cX7_shape 81 = .ok (.ireturn, 1) := by decide +kernel
theorem dX7_shape_82 : decode cX7_shape 82 = .ok (.aload 4, 2) := by decide +kernel
theorem dX7_shape_84 : decode cX7_shape 84 = .ok (.getfield 215, 3) := by decide +kernel
theorem dX7_shape_87 : decode cX7_shape 87 = .ok (.invokestatic 75, 3) := by decide +kernel
theorem dX7_shape_90 : decode cX7_shape 90 = .ok (.ireturn, 1) := by decide +kernel
theorem dX7_shape_91 : decode cX7_shape 91 = .ok (.aload 4, 2) := by decide +kernel
theorem q_321 : Cond.fieldLink "FieldMember" 196 "FieldMember$Member" "met" "I" ∈ TT := tt_t (i := 321) (by decide +kernel) (by decide +kernel)
theorem dX7_shape_93 : decode cX7_shape 93 = .ok (.getfield 196, 3) := by decide +kernel
theorem dX7_shape_96 : decode cX7_shape 96 = .ok (.ireturn, 1) := by decide +kernel
theorem dX7_shape_97 : decode cX7_shape 97 = .ok (.bipush (-13), 2) := by decide +kernel
theorem dX7_shape_99 : decode cX7_shape 99 = .ok (.ireturn, 1) := by decide +kernel
theorem dX7_shape_10 : decode cX7_shape 10 = .ok (.bipush (-11), 2) := by decide +kernel
theorem dX7_shape_12 : decode cX7_shape 12 = .ok (.ireturn, 1) := by decide +kernel
theorem dX7_count_0 : decode cX7_count 0 = .ok (.iload_n 1, 1) := by decide +kernel
theorem dX7_count_1 : decode cX7_count 1 = .ok (.tableswitch 103 0 5 #[39, 47, 52, 68, 90, 98], 39) := by decide +kernel
theorem dX7_count_40 : decode cX7_count 40 = .ok (.aload_n 0, 1) := by decide +kernel
theorem dX7_count_41 : decode cX7_count 41 = .ok (.getfield 12, 3) := by decide +kernel
theorem q_40 : Cond.fieldLink "FieldMember" 261 "FieldMember$Types" "size" "I" ∈ TT := tt_t (i := 40) (by decide +kernel) (by decide +kernel)
theorem dX7_count_44 : decode cX7_count 44 = .ok (.getfield 261, 3) := by decide +kernel
theorem dX7_count_47 : decode cX7_count 47 = .ok (.ireturn, 1) := by decide +kernel
theorem dX7_count_48 : decode cX7_count 48 = .ok (.aload_n 0, 1) := by decide +kernel
theorem dX7_count_49 : decode cX7_count 49 = .ok (.getfield 61, 3) := by decide +kernel
theorem dX7_count_52 : decode cX7_count 52 = .ok (.ireturn, 1) := by decide +kernel
theorem dX7_count_53 : decode cX7_count 53 = .ok (.aload_n 0, 1) := by decide +kernel
theorem dX7_count_54 : decode cX7_count 54 = .ok (.getfield 65, 3) := by decide +kernel
theorem dX7_count_57 : decode cX7_count 57 = .ok (.ifnull 7, 3) := by decide +kernel
theorem dX7_count_64 : decode cX7_count 64 = .ok (.iconst 0, 1) := by decide +kernel
theorem dX7_count_65 : decode cX7_count 65 = .ok (.invokestatic 75, 3) := by decide +kernel
theorem dX7_count_68 : decode cX7_count 68 = .ok (.ireturn, 1) := by decide +kernel
theorem dX7_count_60 : decode cX7_count 60 = .ok (.iconst 1, 1) := by decide +kernel
theorem dX7_count_61 : decode cX7_count 61 = .ok (.goto 4, 3) := by decide +kernel
theorem dX7_count_69 : decode cX7_count 69 = .ok (.aload_n 0, 1) := by decide +kernel
theorem dX7_count_70 : decode cX7_count 70 = .ok (.getfield 65, 3) := by decide +kernel
theorem dX7_count_73 : decode cX7_count 73 = .ok (.ifnonnull 7, 3) := by decide +kernel
theorem dX7_count_76 : decode cX7_count 76 = .ok (.iconst 0, 1) := by decide +kernel
theorem dX7_count_77 : decode cX7_count 77 = .ok (.goto 13, 3) := by decide +kernel
theorem dX7_count_90 : decode cX7_count 90 = .ok (.ireturn, 1) := by decide +kernel
theorem dX7_count_80 : decode cX7_count 80 = .ok (.aload_n 0, 1) := by decide +kernel
theorem dX7_count_81 : decode cX7_count 81 = .ok (.getfield 65, 3) := by decide +kernel
theorem dX7_count_84 : decode cX7_count 84 = .ok (.getfield 171, 3) := by decide +kernel
theorem dX7_count_87 : decode cX7_count 87 = .ok (.getfield 212, 3) := by decide +kernel
theorem dX7_count_91 : decode cX7_count 91 = .ok (.aload_n 0, 1) := by decide +kernel
theorem dX7_count_92 : decode cX7_count 92 = .ok (.getfield 25, 3) := by decide +kernel
theorem dX7_count_95 : decode cX7_count 95 = .ok (.getfield 212, 3) := by decide +kernel
theorem dX7_count_98 : decode cX7_count 98 = .ok (.ireturn, 1) := by decide +kernel
theorem dX7_count_99 : decode cX7_count 99 = .ok (.aload_n 0, 1) := by decide +kernel
theorem q_80 : Cond.fieldLink "FieldMember" 262 "FieldMember" "brokenInAll" "I" ∈ TT := tt_t (i := 80) (by decide +kernel) (by decide +kernel)
theorem dX7_count_100 : decode cX7_count 100 = .ok (.getfield 262, 3) := by decide +kernel
theorem dX7_count_103 : decode cX7_count 103 = .ok (.ireturn, 1) := by decide +kernel
theorem dX7_count_104 : decode cX7_count 104 = .ok (.bipush (-13), 2) := by decide +kernel
theorem dX7_count_106 : decode cX7_count 106 = .ok (.ireturn, 1) := by decide +kernel
theorem dX7_broken_0 : decode cX7_broken 0 = .ok (.iload_n 1, 1) := by decide +kernel
theorem dX7_broken_1 : decode cX7_broken 1 = .ok (.iconst 1, 1) := by decide +kernel
theorem dX7_broken_2 : decode cX7_broken 2 = .ok (.if_icmp .lt 18, 3) := by decide +kernel
theorem dX7_broken_20 : decode cX7_broken 20 = .ok (.bipush (-13), 2) := by decide +kernel
theorem dX7_broken_22 : decode cX7_broken 22 = .ok (.ireturn, 1) := by decide +kernel
theorem dX7_broken_5 : decode cX7_broken 5 = .ok (.iload_n 1, 1) := by decide +kernel
theorem dX7_broken_6 : decode cX7_broken 6 = .ok (.bipush 25, 2) := by decide +kernel
theorem dX7_broken_8 : decode cX7_broken 8 = .ok (.if_icmp .gt 12, 3) := by decide +kernel
theorem dX7_broken_11 : decode cX7_broken 11 = .ok (.aload_n 0, 1) := by decide +kernel
theorem q_79 : Cond.fieldLink "FieldMember" 29 "FieldMember" "brokenTimes" "[I" ∈ TT := tt_t (i := 79) (by decide +kernel) (by decide +kernel)
theorem dX7_broken_12 : decode cX7_broken 12 = .ok (.getfield 29, 3) := by decide +kernel
theorem dX7_broken_15 : decode cX7_broken 15 = .ok (.iload_n 1, 1) := by decide +kernel
theorem dX7_broken_16 : decode cX7_broken 16 = .ok (.iaload, 1) := by decide +kernel
theorem dX7_broken_17 : decode cX7_broken 17 = .ok (.goto 5, 3) := by decide +kernel
theorem c_parentOfN (l : Launch) (D : va_G) (G : Nat → ClassId) (H : Heap) (ca : Nat → Nat) (σ x : MS) (hP : va_P D vwCl (tyW G ca σ x) H) (n : Nat) (h1 : σ 1 0 = nI n) (hn : n ≤ 12) (t : Nat) (ht : t < n) : Met l yX6_parentOf (ww yX6_parentOf cX6_parentOf 2 (some .int)) (rmD 1) (roP D G H [.ref (ca 1), .int (nI t)]) (vp_Si (fun r => r = σ 3 t)) 0 0 (fun _ => False) := by
  have h := c_parentOf l D G H ca σ x hP n h1 hn (nI t)
  rwa [soF_n hn ht] at h
theorem c_hasFaceN (l : Launch) (D : va_G) (G : Nat → ClassId) (H : Heap) (ca : Nat → Nat) (σ x : MS) (hP : va_P D vwCl (tyW G ca σ x) H) (n : Nat) (h1 : σ 1 0 = nI n) (hn : n ≤ 12) (t o : Nat) (ht : t < n) (ho : o < n) : Met l yX6_hasFace (ww yX6_hasFace cX6_hasFace 3 (some .boolean)) (rmD 1) (roP D G H [.ref (ca 1), .int (nI t), .int (nI o)]) (vp_Si (fun r => r = bI (bitP (x 0 t) o))) 0 0 (fun _ => False) := by
  have h := c_hasFace l D G H ca σ x hP n h1 hn (nI t) (nI o)
  rwa [bI_c (bitN_n hn ht ho)] at h
set_option maxHeartbeats 4000000 in
set_option maxRecDepth 100000 in
theorem c_foundThroughParent (l : Launch) (D : va_G) (G : Nat → ClassId) (H : Heap) (ca : Nat → Nat) (bg : Value) (ea : Nat → Nat → Nat) (n k w0 : Nat) (σ x : MS) (κ : Nat → Int64) (hP : va_P D vwCl (cF G ca bg (enF ea k) σ x) H) (hE : ∀ e, e < k → va_P D vwCl (eW G (ea e) σ κ e) H) (hI : cI σ x n k w0) (pa : Int32) (hff : ∀ i, i < 12 → pa = nI i → okN k (x 2 i) → σ 8 (x 2 i).toNatClampNeg = 0) : Met l yX7_foundThroughParent (ww yX7_foundThroughParent cX7_foundThroughParent 3 (some .int)) (rmD 1) (roP D G H [.ref ((ca 0)), .int pa]) (vp_Si (fun r => r = cpV σ k (x 2) pa)) 0 0 (fun _ => False) := by
  refine Met.ofW (cc := cX7_foundThroughParent) (maxL := 3) (ret := (some .int)) (by decide) rfl ?_
  intro p e s m args below meth c s₁ B hml hv
  obtain ⟨rfl, hH, hK⟩ := hv
  have hx := B.exec
  have hb := B.bytes
  have hr := B.returns
  have hts : ∀ w ∈ TT, w.before _ s = true := fun w h => atoms_spec (ws := ww yX7_foundThroughParent cX7_foundThroughParent 3 (some .int)) B.pre w (List.mem_cons_of_mem _ h)
  have hown : s.vm.findClass RX7 = some m.cls := findClass_of_methodNamed B.named
  have hlocks := B.notSynchronized
  rw [hH]
  have hI0 := hI
  obtain ⟨h1, hn, h7, hk60, h22, hw, hab, hfa, hmi, hak, hrf⟩ := hI
  have hl := lv_entry ([.ref ((ca 0)), .int pa]) (n := 3) (Nat.le_of_ble_eq_true rfl)
  rw [lg_entry_eq]
  generalize (lg_sl ([.ref ((ca 0)), .int pa]) ++ List.replicate (3 - (lg_sl ([.ref ((ca 0)), .int pa])).length) Slot.unset).toArray = ls at hl ⊢
  have hl : lv_has ls 3 [(0, .ref ((ca 0))), (1, .int pa)] := hl
  refine lv_iload_n hx hb dX7_foundThroughParent_0 rfl (lv_at hl 1 rfl) ?_
  refine lv_if_lt (tgt := 10) hx hb dX7_foundThroughParent_1 (by decide) (fun c1 => ?_) (fun c1 => ?_)
  · -- 1 taken
    refine lv_iconst (v := -1) hx hb dX7_foundThroughParent_10 (by decide) ?_
    exact ro_iret (v := (-1)) hx hb hr hH hlocks dX7_foundThroughParent_11 (by unfold cpV; simp only [eq_true c1, not_true, not_false_iff, not_true_eq_false, not_false_eq_true, true_or, or_true, false_or, or_false, or_self, and_self, true_and, and_true, false_and, and_false, if_true, if_false])
  · -- 1 not
    refine lv_iload_n hx hb dX7_foundThroughParent_4 rfl (lv_at hl 1 rfl) ?_
    refine lv_bipush (v := 12) hx hb dX7_foundThroughParent_5 (by decide) ?_
    refine lv_icmp_lt (tgt := 12) hx hb dX7_foundThroughParent_7 (by decide) (fun c2 => ?_) (fun c2 => ?_)
    · -- 7 taken
      obtain ⟨p0, h_p0, rfl⟩ := okN_ex (n := 12) (by omega) (lt12 c1 c2)
      refine lv_aload_n hx hb dX7_foundThroughParent_12 rfl (lv_at hl 0 rfl) ?_
      refine lv_aload_n hx hb dX7_foundThroughParent_13 rfl (lv_at hl 0 rfl) ?_
      refine va_get (D := D) (ci := 7) (v := .ref ((ca 11))) (C := RX7) (T := TX7) (N := 11) hx hb hts iX7 hown hK.1 hP 0 rfl rfl 8 (by decide) (hts _ q_81) (fun _ h9 => h9) rfl dX7_foundThroughParent_14 ?_
      refine lv_iload_n hx hb dX7_foundThroughParent_17 rfl (lv_at hl 1 rfl) ?_
      refine iald_n (f := x 2) hx hb hK.1 hP 11 0 rfl rfl (p0) rfl (by omega) (by decide) dX7_foundThroughParent_18 ?_
      refine ro_Vq (D := D) (G := G) (As := [.int (x 2 p0)]) (rest := []) ⟨hx, hb, hml, hown, hts⟩ (c_entryAt l D G _ ca _ ea n k w0 σ x κ hP hE hI0 (x 2 p0)) gV_X7_X7_entryAt hdV_X7_entryAt ⟨Nat.le_of_ble_eq_true rfl, Nat.le_of_ble_eq_true rfl⟩ hK (va_recv hK.1 hP (ci := 7) (q0 := 0) rfl rfl) rfl hl.1 rfl (Nat.le_of_ble_eq_true rfl) dX7_foundThroughParent_19 ⟨Nat.le_of_ble_eq_true rfl, Nat.le_of_ble_eq_true rfl⟩ (fun r3 e_r3 => ?_)
      subst e_r3
      by_cases ce4 : okN k (x 2 p0)
      · -- entry: True
        obtain ⟨j5, h_j5, q_j5⟩ := okN_ex (by omega) ce4
        refine W.eq (g2 := F0 m 22 ls (.ref (ea j5 0) :: [])) (congrArg (fun z9 => F0 m 22 ls (va_rf z9 :: [])) ((congrArg (eaF ea k) q_j5).trans (eaF_t h_j5 hk60))) ?_
        refine lv_astore_n (lv' := [(2, .ref ((ea j5 0))), (0, .ref ((ca 0))), (1, .int (nI p0))]) hx hb dX7_foundThroughParent_22 rfl hl (by decide) rfl (fun ls hl => ?_)
        have hc8 : σ 8 j5 = 0 := by have h9 := hff p0 (by omega) rfl ce4; rw [q_j5, nI_clamp (by omega)] at h9; exact h9
        have hcj : (x 2 p0).toNatClampNeg = j5 := by rw [q_j5]; exact nI_clamp (by omega)
        refine lv_aload_n hx hb dX7_foundThroughParent_23 rfl (lv_at hl 0 rfl) ?_
        refine lv_ifnull hx hb dX7_foundThroughParent_24 ?_
        refine lv_aload_n hx hb dX7_foundThroughParent_27 rfl (lv_at hl 0 rfl) ?_
        refine lv_iconst (v := 4) hx hb dX7_foundThroughParent_28 (by decide) ?_
        have hF_j5 := eW_f (hE j5 (by omega)) hc8
        have hmi_j5 := hmi j5 (by omega)
        have ht_j5 := hmi_j5.1.2
        have hz_j5 := hmi_j5.2.1.2
        refine ro_Ui (D := D) (G := G) (As := [.int 4]) (rest := []) ⟨hx, hb, hml, hown, hts⟩ (c_hasAnyF l D G _ _ σ κ (j5) hF_j5 4) gU_X7_308_X2 rfl (by decide +kernel) ⟨Nat.le_of_ble_eq_true rfl, Nat.le_of_ble_eq_true rfl⟩ hK (va_recv hK.1 hF_j5 (ci := 3) (q0 := 0) rfl rfl) rfl hl.1 rfl (Nat.le_of_ble_eq_true rfl) dX7_foundThroughParent_29 ⟨Nat.le_of_ble_eq_true rfl, Nat.le_of_ble_eq_true rfl⟩ (fun r6 e_r6 => ?_)
        subst e_r6
        refine lv_if_eq (tgt := 39) hx hb dX7_foundThroughParent_32 (by decide) (fun c7 => ?_) (fun c7 => ?_)
        · -- 32 taken
          have c7 := bI_0 c7
          refine lv_aload_n hx hb dX7_foundThroughParent_39 rfl (lv_at hl 1 rfl) ?_
          refine va_get (D := D) (ci := 7) (v := .ref ((ca 11))) (C := RX7) (T := TX7) (N := 11) hx hb hts iX7 hown hK.1 hP 0 rfl rfl 8 (by decide) (hts _ q_81) (fun _ h9 => h9) rfl dX7_foundThroughParent_40 ?_
          refine lv_iload_n hx hb dX7_foundThroughParent_43 rfl (lv_at hl 2 rfl) ?_
          refine iald_n (f := x 2) hx hb hK.1 hP 11 0 rfl rfl (p0) rfl (by omega) (by decide) dX7_foundThroughParent_44 ?_
          exact ro_iret (v := x 2 p0) hx hb hr hH hlocks dX7_foundThroughParent_45 (by unfold cpV; simp only [eq_false c1, eq_true c2, eq_true ce4, eq_true (Decidable.of_not_not c7), nI_clamp (show p0 < 2 ^ 31 by omega), nI_clamp (show j5 < 2 ^ 31 by omega), hcj, not_true, not_false_iff, not_true_eq_false, not_false_eq_true, true_or, or_true, false_or, or_false, or_self, and_self, true_and, and_true, false_and, and_false, if_true, if_false])
        · -- 32 not
          have c7 := bI_1 c7
          refine lv_iconst (v := -1) hx hb dX7_foundThroughParent_35 (by decide) ?_
          refine lv_goto (tgt := 45) hx hb dX7_foundThroughParent_36 (by decide) ?_
          exact ro_iret (v := (-1)) hx hb hr hH hlocks dX7_foundThroughParent_45 (by unfold cpV; simp only [eq_false c1, eq_true c2, eq_true ce4, eq_false c7, nI_clamp (show p0 < 2 ^ 31 by omega), nI_clamp (show j5 < 2 ^ 31 by omega), hcj, not_true, not_false_iff, not_true_eq_false, not_false_eq_true, true_or, or_true, false_or, or_false, or_self, and_self, true_and, and_true, false_and, and_false, if_true, if_false])
      · -- entry: False
        refine W.eq (g2 := F0 m 22 ls (.null :: [])) (congrArg (fun z9 => F0 m 22 ls (va_rf z9 :: [])) (eaF_f ce4)) ?_
        refine lv_astore_nN (lv' := [(2, .null), (0, .ref ((ca 0))), (1, .int (nI p0))]) hx hb dX7_foundThroughParent_22 rfl hl (by decide) rfl (fun ls hl => ?_)
        refine lv_aload_nN hx hb dX7_foundThroughParent_23 rfl (lv_at hl 0 rfl) ?_
        refine lv_ifnullN (tgt := 39) hx hb dX7_foundThroughParent_24 (by decide) ?_
        refine lv_aload_n hx hb dX7_foundThroughParent_39 rfl (lv_at hl 1 rfl) ?_
        refine va_get (D := D) (ci := 7) (v := .ref ((ca 11))) (C := RX7) (T := TX7) (N := 11) hx hb hts iX7 hown hK.1 hP 0 rfl rfl 8 (by decide) (hts _ q_81) (fun _ h9 => h9) rfl dX7_foundThroughParent_40 ?_
        refine lv_iload_n hx hb dX7_foundThroughParent_43 rfl (lv_at hl 2 rfl) ?_
        refine iald_n (f := x 2) hx hb hK.1 hP 11 0 rfl rfl (p0) rfl (by omega) (by decide) dX7_foundThroughParent_44 ?_
        exact ro_iret (v := x 2 p0) hx hb hr hH hlocks dX7_foundThroughParent_45 (by unfold cpV; simp only [eq_false c1, eq_true c2, eq_false ce4, nI_clamp (show p0 < 2 ^ 31 by omega), not_true, not_false_iff, not_true_eq_false, not_false_eq_true, true_or, or_true, false_or, or_false, or_self, and_self, true_and, and_true, false_and, and_false, if_true, if_false])
    · -- 7 not
      refine lv_iconst (v := -1) hx hb dX7_foundThroughParent_10 (by decide) ?_
      exact ro_iret (v := (-1)) hx hb hr hH hlocks dX7_foundThroughParent_11 (by unfold cpV; simp only [eq_false c1, eq_false c2, not_true, not_false_iff, not_true_eq_false, not_false_eq_true, true_or, or_true, false_or, or_false, or_self, and_self, true_and, and_true, false_and, and_false, if_true, if_false])
set_option maxHeartbeats 4000000 in
set_option maxRecDepth 100000 in
theorem c_fieldFoundIn (l : Launch) (D : va_G) (G : Nat → ClassId) (H : Heap) (ca : Nat → Nat) (bg : Value) (ea : Nat → Nat → Nat) (n k w0 : Nat) (σ x : MS) (κ : Nat → Int64) (hP : va_P D vwCl (cF G ca bg (enF ea k) σ x) H) (hE : ∀ e, e < k → va_P D vwCl (eW G (ea e) σ κ e) H) (hI : cI σ x n k w0) (t : Nat) (ht : t < n) (name : Int32) (hff : ∀ i, i < t → okN k (x 2 i) → σ 8 (x 2 i).toNatClampNeg = 0) (hpt : ∀ i, i < 12 → σ 3 t = nI i → i < t) : Met l yX7_fieldFoundIn (ww yX7_fieldFoundIn cX7_fieldFoundIn 6 (some .int)) (rmD 2) (roP D G H [.ref ((ca 0)), .int (nI t), .int name]) (vp_Si (fun r => r = cfV σ k name (x 0 t) (x 2) t)) 0 0 (fun _ => False) := by
  refine Met.ofW (cc := cX7_fieldFoundIn) (maxL := 6) (ret := (some .int)) (by decide) rfl ?_
  intro p e s m args below meth c s₁ B hml hv
  obtain ⟨rfl, hH, hK⟩ := hv
  have hx := B.exec
  have hb := B.bytes
  have hr := B.returns
  have hts : ∀ w ∈ TT, w.before _ s = true := fun w h => atoms_spec (ws := ww yX7_fieldFoundIn cX7_fieldFoundIn 6 (some .int)) B.pre w (List.mem_cons_of_mem _ h)
  have hown : s.vm.findClass RX7 = some m.cls := findClass_of_methodNamed B.named
  have hlocks := B.notSynchronized
  rw [hH]
  have hI0 := hI
  obtain ⟨h1, hn, h7, hk60, h22, hw, hab, hfa, hmi, hak, hrf⟩ := hI
  have hl := lv_entry ([.ref ((ca 0)), .int (nI t), .int name]) (n := 6) (Nat.le_of_ble_eq_true rfl)
  rw [lg_entry_eq]
  generalize (lg_sl ([.ref ((ca 0)), .int (nI t), .int name]) ++ List.replicate (6 - (lg_sl ([.ref ((ca 0)), .int (nI t), .int name])).length) Slot.unset).toArray = ls at hl ⊢
  have hl : lv_has ls 6 [(0, .ref ((ca 0))), (1, .int (nI t)), (2, .int name)] := hl
  refine lv_aload_n hx hb dX7_fieldFoundIn_0 rfl (lv_at hl 0 rfl) ?_
  refine lv_iload_n hx hb dX7_fieldFoundIn_1 rfl (lv_at hl 1 rfl) ?_
  refine lv_iload_n hx hb dX7_fieldFoundIn_2 rfl (lv_at hl 2 rfl) ?_
  refine ro_Vi (D := D) (G := G) (As := [.int (nI t), .int name]) (rest := []) ⟨hx, hb, hml, hown, hts⟩ (c_ownField l D G _ ca _ ea n k w0 σ x κ hP hE hI0 (nI t) name) gV_X7_X7_ownField hdV_X7_ownField ⟨Nat.le_of_ble_eq_true rfl, Nat.le_of_ble_eq_true rfl⟩ hK (va_recv hK.1 hP (ci := 7) (q0 := 0) rfl rfl) rfl hl.1 rfl (Nat.le_of_ble_eq_true rfl) dX7_fieldFoundIn_3 ⟨Nat.le_of_ble_eq_true rfl, Nat.le_of_ble_eq_true rfl⟩ (fun r1 e_r1 => ?_)
  subst e_r1
  refine lv_istore_n (lv' := [(3, .int (fld σ k (nI t) name)), (0, .ref ((ca 0))), (1, .int (nI t)), (2, .int name)]) hx hb dX7_fieldFoundIn_6 rfl hl (by decide) rfl (fun ls hl => ?_)
  refine lv_iload_n hx hb dX7_fieldFoundIn_7 rfl (lv_at hl 0 rfl) ?_
  refine lv_iconst (v := -1) hx hb dX7_fieldFoundIn_8 (by decide) ?_
  refine lv_icmp_eq (tgt := 14) hx hb dX7_fieldFoundIn_9 (by decide) (fun c2 => ?_) (fun c2 => ?_)
  · -- 9 taken
    refine lv_aload_n hx hb dX7_fieldFoundIn_14 rfl (lv_at hl 1 rfl) ?_
    refine lv_aload_n hx hb dX7_fieldFoundIn_15 rfl (lv_at hl 1 rfl) ?_
    refine va_get (D := D) (ci := 7) (v := .ref ((ca 1))) (C := RX7) (T := TX7) (N := 11) hx hb hts iX7 hown hK.1 hP 0 rfl rfl 0 (by decide) (hts _ q_73) (fun _ h9 => h9) rfl dX7_fieldFoundIn_16 ?_
    refine lv_iload_n hx hb dX7_fieldFoundIn_19 rfl (lv_at hl 2 rfl) ?_
    refine ro_Vi (D := D) (G := G) (As := [.int (nI t)]) (rest := [.ref ((ca 0))]) ⟨hx, hb, hml, hown, hts⟩ (c_parentOfN l D G _ ca σ x (cF_ty hP) n h1 hn (t) (by omega)) gV_X7_X6_parentOf hdV_X6_parentOf ⟨Nat.le_of_ble_eq_true rfl, Nat.le_of_ble_eq_true rfl⟩ hK (va_recv hK.1 hP (ci := 6) (q0 := 1) rfl rfl) rfl hl.1 rfl (Nat.le_of_ble_eq_true rfl) dX7_fieldFoundIn_20 ⟨Nat.le_of_ble_eq_true rfl, Nat.le_of_ble_eq_true rfl⟩ (fun r3 e_r3 => ?_)
    subst e_r3
    refine ro_Vi (D := D) (G := G) (As := [.int (σ 3 t)]) (rest := []) ⟨hx, hb, hml, hown, hts⟩ (c_foundThroughParent l D G _ ca _ ea n k w0 σ x κ hP hE hI0 (σ 3 t) (fun i h8 h9 => hff i (hpt i h8 h9))) gV_X7_X7_foundThroughParent hdV_X7_foundThroughParent ⟨Nat.le_of_ble_eq_true rfl, Nat.le_of_ble_eq_true rfl⟩ hK (va_recv hK.1 hP (ci := 7) (q0 := 0) rfl rfl) rfl hl.1 rfl (Nat.le_of_ble_eq_true rfl) dX7_fieldFoundIn_23 ⟨Nat.le_of_ble_eq_true rfl, Nat.le_of_ble_eq_true rfl⟩ (fun r4 e_r4 => ?_)
    subst e_r4
    refine lv_istore (lv' := [(4, .int (cpV σ k (x 2) (σ 3 t))), (3, .int (fld σ k (nI t) name)), (0, .ref ((ca 0))), (1, .int (nI t)), (2, .int name)]) hx hb dX7_fieldFoundIn_26 hl (by decide) rfl (fun ls hl => ?_)
    refine lv_iconst (v := 0) hx hb dX7_fieldFoundIn_28 (by decide) ?_
    refine lv_istore (lv' := [(5, .int 0), (4, .int (cpV σ k (x 2) (σ 3 t))), (3, .int (fld σ k (nI t) name)), (0, .ref ((ca 0))), (1, .int (nI t)), (2, .int name)]) hx hb dX7_fieldFoundIn_29 hl (by decide) rfl (fun ls hl => ?_)
    refine w_for (N := t) 31 (L := fun q9 ls => lv_has ls 6 [(5, .int (nI q9)), (4, .int (cbF (x 0 t) (x 2) (cpV σ k (x 2) (σ 3 t)) q9)), (3, .int (fld σ k (nI t) name)), (0, .ref ((ca 0))), (1, .int (nI t)), (2, .int name)]) (fun k9 ls hk hL ih => ?_) 0 ls (Nat.zero_le _) (hl)
    have hl := hL
    have hl : lv_has ls 6 [(5, .int (nI k9)), (4, .int (cbF (x 0 t) (x 2) (cpV σ k (x 2) (σ 3 t)) k9)), (3, .int (fld σ k (nI t) name)), (0, .ref ((ca 0))), (1, .int (nI t)), (2, .int name)] := hl
    refine lv_iload hx hb dX7_fieldFoundIn_31 (lv_at hl 0 rfl) ?_
    refine lv_iload_n hx hb dX7_fieldFoundIn_33 rfl (lv_at hl 4 rfl) ?_
    refine lv_icmp_ge (tgt := 77) hx hb dX7_fieldFoundIn_34 (by decide) (fun c5 => ?_) (fun c5 => ?_)
    · -- 34 taken
      have c5 : t ≤ k9 := (nI_leI (a := t) (b := k9) (by omega) (by omega)).mp (by have h8 := c5; exact h8)
      refine lv_iload hx hb dX7_fieldFoundIn_77 (lv_at hl 1 rfl) ?_
      exact ro_iret (v := cbF (x 0 t) (x 2) (cpV σ k (x 2) (σ 3 t)) k9) hx hb hr hH hlocks dX7_fieldFoundIn_79 (by unfold cfV; rw [if_neg (fun h9 => h9 c2), show k9 = t by omega])
    · -- 34 not
      have c5 : ¬ t ≤ k9 := fun h9 => c5 (by exact (nI_leI (a := t) (b := k9) (by omega) (by omega)).mpr h9)
      refine lv_iload hx hb dX7_fieldFoundIn_37 (lv_at hl 0 rfl) ?_
      refine lv_bipush (v := 12) hx hb dX7_fieldFoundIn_39 (by decide) ?_
      refine lv_icmp_ge (tgt := 77) hx hb dX7_fieldFoundIn_41 (by decide) (fun c6 => ?_) (fun c6 => ?_)
      · -- 41 taken
        have c6 : 12 ≤ k9 := (nI_leI (a := 12) (b := k9) (by omega) (by omega)).mp (by have h8 := c6; exact h8)
        exfalso; omega
      · -- 41 not
        have c6 : ¬ 12 ≤ k9 := fun h9 => c6 (by exact (nI_leI (a := 12) (b := k9) (by omega) (by omega)).mpr h9)
        refine lv_aload_n hx hb dX7_fieldFoundIn_44 rfl (lv_at hl 3 rfl) ?_
        refine va_get (D := D) (ci := 7) (v := .ref ((ca 1))) (C := RX7) (T := TX7) (N := 11) hx hb hts iX7 hown hK.1 hP 0 rfl rfl 0 (by decide) (hts _ q_73) (fun _ h9 => h9) rfl dX7_fieldFoundIn_45 ?_
        refine lv_iload_n hx hb dX7_fieldFoundIn_48 rfl (lv_at hl 4 rfl) ?_
        refine lv_iload hx hb dX7_fieldFoundIn_49 (lv_at hl 0 rfl) ?_
        refine ro_Vi (D := D) (G := G) (As := [.int (nI t), .int (nI k9)]) (rest := []) ⟨hx, hb, hml, hown, hts⟩ (c_hasFaceN l D G _ ca σ x (cF_ty hP) n h1 hn (t) (k9) (by omega) (by omega)) gV_X7_X6_hasFace hdV_X6_hasFace ⟨Nat.le_of_ble_eq_true rfl, Nat.le_of_ble_eq_true rfl⟩ hK (va_recv hK.1 hP (ci := 6) (q0 := 1) rfl rfl) rfl hl.1 rfl (Nat.le_of_ble_eq_true rfl) dX7_fieldFoundIn_51 ⟨Nat.le_of_ble_eq_true rfl, Nat.le_of_ble_eq_true rfl⟩ (fun r7 e_r7 => ?_)
        subst e_r7
        refine lv_if_eq (tgt := 71) hx hb dX7_fieldFoundIn_54 (by decide) (fun c8 => ?_) (fun c8 => ?_)
        · -- 54 taken
          have c8 := bI_0 c8
          refine lv_iinc (v := nI (k9 + 1)) (lv' := [(5, .int (nI (k9 + 1))), (4, .int (cbF (x 0 t) (x 2) (cpV σ k (x 2) (σ 3 t)) k9)), (3, .int (fld σ k (nI t) name)), (0, .ref ((ca 0))), (1, .int (nI t)), (2, .int name)]) hx hb dX7_fieldFoundIn_71 hl (k := 0) rfl (nI_1 _) (by decide) rfl (fun ls hl => ?_)
          refine lv_goto (tgt := 31) hx hb dX7_fieldFoundIn_74 (by decide) ?_
          rw [show cbF (x 0 t) (x 2) (cpV σ k (x 2) (σ 3 t)) k9 = cbF (x 0 t) (x 2) (cpV σ k (x 2) (σ 3 t)) (k9 + 1) from (if_neg c8).symm] at hl
          exact ih _ (by omega) (lv_sub hl [0, 1, 2, 3, 4, 5] rfl)
        · -- 54 not
          have c8 := bI_1 c8
          refine lv_iload hx hb dX7_fieldFoundIn_57 (lv_at hl 1 rfl) ?_
          refine lv_aload_n hx hb dX7_fieldFoundIn_59 rfl (lv_at hl 3 rfl) ?_
          refine va_get (D := D) (ci := 7) (v := .ref ((ca 11))) (C := RX7) (T := TX7) (N := 11) hx hb hts iX7 hown hK.1 hP 0 rfl rfl 8 (by decide) (hts _ q_81) (fun _ h9 => h9) rfl dX7_fieldFoundIn_60 ?_
          refine lv_iload hx hb dX7_fieldFoundIn_63 (lv_at hl 0 rfl) ?_
          refine iald_n (f := x 2) hx hb hK.1 hP 11 0 rfl rfl (k9) rfl (by omega) (by decide) dX7_fieldFoundIn_65 ?_
          refine ro_Si (D := D) (G := G) (As := [.int (cbF (x 0 t) (x 2) (cpV σ k (x 2) (σ 3 t)) k9), .int (x 2 k9)]) (rest := []) ⟨hx, hb, hml, hown, hts⟩ (c_oneOfBoth l D G _ (cbF (x 0 t) (x 2) (cpV σ k (x 2) (σ 3 t)) k9) (x 2 k9)) gS_X7_X7_oneOfBoth hdS_X7_oneOfBoth ⟨Nat.le_of_ble_eq_true rfl, Nat.le_of_ble_eq_true rfl⟩ hK rfl hl.1 rfl (Nat.le_of_ble_eq_true rfl) dX7_fieldFoundIn_66 ⟨Nat.le_of_ble_eq_true rfl, Nat.le_of_ble_eq_true rfl⟩ (fun r9 e_r9 => ?_)
          subst e_r9
          refine lv_istore (lv' := [(4, .int (bothF (cbF (x 0 t) (x 2) (cpV σ k (x 2) (σ 3 t)) k9) (x 2 k9))), (5, .int (nI k9)), (3, .int (fld σ k (nI t) name)), (0, .ref ((ca 0))), (1, .int (nI t)), (2, .int name)]) hx hb dX7_fieldFoundIn_69 hl (by decide) rfl (fun ls hl => ?_)
          refine lv_iinc (v := nI (k9 + 1)) (lv' := [(5, .int (nI (k9 + 1))), (4, .int (bothF (cbF (x 0 t) (x 2) (cpV σ k (x 2) (σ 3 t)) k9) (x 2 k9))), (3, .int (fld σ k (nI t) name)), (0, .ref ((ca 0))), (1, .int (nI t)), (2, .int name)]) hx hb dX7_fieldFoundIn_71 hl (k := 1) rfl (nI_1 _) (by decide) rfl (fun ls hl => ?_)
          refine lv_goto (tgt := 31) hx hb dX7_fieldFoundIn_74 (by decide) ?_
          rw [show bothF (cbF (x 0 t) (x 2) (cpV σ k (x 2) (σ 3 t)) k9) (x 2 k9) = cbF (x 0 t) (x 2) (cpV σ k (x 2) (σ 3 t)) (k9 + 1) from (if_pos c8).symm] at hl
          exact ih _ (by omega) (lv_sub hl [0, 1, 2, 3, 4, 5] rfl)
  · -- 9 not
    refine lv_iload_n hx hb dX7_fieldFoundIn_12 rfl (lv_at hl 0 rfl) ?_
    exact ro_iret (v := fld σ k (nI t) name) hx hb hr hH hlocks dX7_fieldFoundIn_13 (by unfold cfV; rw [if_pos c2])
set_option maxHeartbeats 4000000 in
set_option maxRecDepth 100000 in
theorem c_way (l : Launch) (D : va_G) (G : Nat → ClassId) (H : Heap) (ca : Nat → Nat) (bg : Value) (ea : Nat → Nat → Nat) (n k w0 : Nat) (σ x : MS) (κ : Nat → Int64) (hP : va_P D vwCl (cF G ca bg (enF ea k) σ x) H) (hE : ∀ e, e < k → va_P D vwCl (eW G (ea e) σ κ e) H) (hI : cI σ x n k w0)  : Met l yX7_way (ww yX7_way cX7_way 1 (some .int)) (rmD 0) (roP D G H [.ref ((ca 0))]) (vp_Si (fun r => r = σ 25 0)) 0 0 (fun _ => False) := by
  refine Met.ofW (cc := cX7_way) (maxL := 1) (ret := (some .int)) (by decide) rfl ?_
  intro p e s m args below meth c s₁ B hml hv
  obtain ⟨rfl, hH, hK⟩ := hv
  have hx := B.exec
  have hb := B.bytes
  have hr := B.returns
  have hts : ∀ w ∈ TT, w.before _ s = true := fun w h => atoms_spec (ws := ww yX7_way cX7_way 1 (some .int)) B.pre w (List.mem_cons_of_mem _ h)
  have hown : s.vm.findClass RX7 = some m.cls := findClass_of_methodNamed B.named
  have hlocks := B.notSynchronized
  rw [hH]
  have hI0 := hI
  obtain ⟨h1, hn, h7, hk60, h22, hw, hab, hfa, hmi, hak, hrf⟩ := hI
  have hl := lv_entry ([.ref ((ca 0))]) (n := 1) (Nat.le_of_ble_eq_true rfl)
  rw [lg_entry_eq]
  generalize (lg_sl ([.ref ((ca 0))]) ++ List.replicate (1 - (lg_sl ([.ref ((ca 0))])).length) Slot.unset).toArray = ls at hl ⊢
  have hl : lv_has ls 1 [(0, .ref ((ca 0)))] := hl
  refine lv_aload_n hx hb dX7_way_0 rfl (lv_at hl 0 rfl) ?_
  refine va_get (D := D) (ci := 7) (v := .int (σ 25 0)) (C := RX7) (T := TX7) (N := 11) hx hb hts iX7 hown hK.1 hP 0 rfl rfl 5 (by decide) (hts _ q_78) (fun _ h9 => h9) rfl dX7_way_1 ?_
  exact ro_iret (v := σ 25 0) hx hb hr hH hlocks dX7_way_4 (rfl)
set_option maxHeartbeats 4000000 in
set_option maxRecDepth 100000 in
theorem c_below (l : Launch) (D : va_G) (G : Nat → ClassId) (H : Heap) (ca : Nat → Nat) (bg : Value) (ea : Nat → Nat → Nat) (n k w0 : Nat) (σ x : MS) (κ : Nat → Int64) (hP : va_P D vwCl (cF G ca bg (enF ea k) σ x) H) (hE : ∀ e, e < k → va_P D vwCl (eW G (ea e) σ κ e) H) (hI : cI σ x n k w0) (t : Int32) (o : Int32) (τ : Nat → Int64) : Met l yX7_below (ww yX7_below cX7_below 3 (some .int)) (rmD 1) (roP D G H [.ref ((ca 0)), .int t, .int o]) (vp_Si (fun r => r = (oBelow σ τ n t o).1)) 0 0 (fun _ => False) := by
  refine Met.ofW (cc := cX7_below) (maxL := 3) (ret := (some .int)) (by decide) rfl ?_
  intro p e s m args below meth c s₁ B hml hv
  obtain ⟨rfl, hH, hK⟩ := hv
  have hx := B.exec
  have hb := B.bytes
  have hr := B.returns
  have hts : ∀ w ∈ TT, w.before _ s = true := fun w h => atoms_spec (ws := ww yX7_below cX7_below 3 (some .int)) B.pre w (List.mem_cons_of_mem _ h)
  have hown : s.vm.findClass RX7 = some m.cls := findClass_of_methodNamed B.named
  have hlocks := B.notSynchronized
  rw [hH]
  have hI0 := hI
  obtain ⟨h1, hn, h7, hk60, h22, hw, hab, hfa, hmi, hak, hrf⟩ := hI
  have hl := lv_entry ([.ref ((ca 0)), .int t, .int o]) (n := 3) (Nat.le_of_ble_eq_true rfl)
  rw [lg_entry_eq]
  generalize (lg_sl ([.ref ((ca 0)), .int t, .int o]) ++ List.replicate (3 - (lg_sl ([.ref ((ca 0)), .int t, .int o])).length) Slot.unset).toArray = ls at hl ⊢
  have hl : lv_has ls 3 [(0, .ref ((ca 0))), (1, .int t), (2, .int o)] := hl
  refine lv_aload_n hx hb dX7_below_0 rfl (lv_at hl 0 rfl) ?_
  refine va_get (D := D) (ci := 7) (v := .ref ((ca 1))) (C := RX7) (T := TX7) (N := 11) hx hb hts iX7 hown hK.1 hP 0 rfl rfl 0 (by decide) (hts _ q_73) (fun _ h9 => h9) rfl dX7_below_1 ?_
  refine lv_iload_n hx hb dX7_below_4 rfl (lv_at hl 1 rfl) ?_
  refine ro_Vi (D := D) (G := G) (As := [.int t]) (rest := []) ⟨hx, hb, hml, hown, hts⟩ (c_has l D G _ ca σ x (cF_ty hP) n h1 hn t) gV_X7_X6_has hdV_X6_has ⟨Nat.le_of_ble_eq_true rfl, Nat.le_of_ble_eq_true rfl⟩ hK (va_recv hK.1 hP (ci := 6) (q0 := 1) rfl rfl) rfl hl.1 rfl (Nat.le_of_ble_eq_true rfl) dX7_below_5 ⟨Nat.le_of_ble_eq_true rfl, Nat.le_of_ble_eq_true rfl⟩ (fun r1 e_r1 => ?_)
  subst e_r1
  refine lv_if_eq (tgt := 22) hx hb dX7_below_8 (by decide) (fun c2 => ?_) (fun c2 => ?_)
  · -- 8 taken
    have c2 := bI_0 c2
    refine lv_bipush (v := -11) hx hb dX7_below_22 (by decide) ?_
    exact ro_iret (v := (-11)) hx hb hr hH hlocks dX7_below_24 (by unfold oBelow; simp only [eq_false c2, not_true, not_false_iff, not_true_eq_false, not_false_eq_true, true_or, or_true, false_or, or_false, or_self, and_self, true_and, and_true, false_and, and_false, if_true, if_false]; try rfl)
  · -- 8 not
    have c2 := bI_1 c2
    obtain ⟨j3, h_j3, rfl⟩ := okN_ex (by omega) c2
    refine lv_aload_n hx hb dX7_below_11 rfl (lv_at hl 0 rfl) ?_
    refine va_get (D := D) (ci := 7) (v := .ref ((ca 1))) (C := RX7) (T := TX7) (N := 11) hx hb hts iX7 hown hK.1 hP 0 rfl rfl 0 (by decide) (hts _ q_73) (fun _ h9 => h9) rfl dX7_below_12 ?_
    refine lv_iload_n hx hb dX7_below_15 rfl (lv_at hl 2 rfl) ?_
    refine ro_Vi (D := D) (G := G) (As := [.int o]) (rest := []) ⟨hx, hb, hml, hown, hts⟩ (c_has l D G _ ca σ x (cF_ty hP) n h1 hn o) gV_X7_X6_has hdV_X6_has ⟨Nat.le_of_ble_eq_true rfl, Nat.le_of_ble_eq_true rfl⟩ hK (va_recv hK.1 hP (ci := 6) (q0 := 1) rfl rfl) rfl hl.1 rfl (Nat.le_of_ble_eq_true rfl) dX7_below_16 ⟨Nat.le_of_ble_eq_true rfl, Nat.le_of_ble_eq_true rfl⟩ (fun r4 e_r4 => ?_)
    subst e_r4
    refine lv_if_ne (tgt := 25) hx hb dX7_below_19 (by decide) (fun c5 => ?_) (fun c5 => ?_)
    · -- 19 taken
      have c5 := bI_1 c5
      obtain ⟨j6, h_j6, rfl⟩ := okN_ex (by omega) c5
      refine lv_aload_n hx hb dX7_below_25 rfl (lv_at hl 0 rfl) ?_
      refine va_get (D := D) (ci := 7) (v := .ref ((ca 1))) (C := RX7) (T := TX7) (N := 11) hx hb hts iX7 hown hK.1 hP 0 rfl rfl 0 (by decide) (hts _ q_73) (fun _ h9 => h9) rfl dX7_below_26 ?_
      refine lv_iload_n hx hb dX7_below_29 rfl (lv_at hl 1 rfl) ?_
      refine lv_iload_n hx hb dX7_below_30 rfl (lv_at hl 2 rfl) ?_
      refine ro_Vi (D := D) (G := G) (As := [.int (nI j3), .int (nI j6)]) (rest := []) ⟨hx, hb, hml, hown, hts⟩ (c_isBelowN l D G _ ca σ x (cF_ty hP) n h1 hn hab (j3) (j6) (by omega) (by omega)) gV_X7_X6_isBelow hdV_X6_isBelow ⟨Nat.le_of_ble_eq_true rfl, Nat.le_of_ble_eq_true rfl⟩ hK (va_recv hK.1 hP (ci := 6) (q0 := 1) rfl rfl) rfl hl.1 rfl (Nat.le_of_ble_eq_true rfl) dX7_below_31 ⟨Nat.le_of_ble_eq_true rfl, Nat.le_of_ble_eq_true rfl⟩ (fun r7 e_r7 => ?_)
      subst e_r7
      refine ro_Si (D := D) (G := G) (As := [.int (bI (lyP σ j3 j6))]) (rest := []) ⟨hx, hb, hml, hown, hts⟩ (c_asNumber l D G _ (bI (lyP σ j3 j6))) gS_X7_X7_asNumber hdS_X7_asNumber ⟨Nat.le_of_ble_eq_true rfl, Nat.le_of_ble_eq_true rfl⟩ hK rfl hl.1 rfl (Nat.le_of_ble_eq_true rfl) dX7_below_34 ⟨Nat.le_of_ble_eq_true rfl, Nat.le_of_ble_eq_true rfl⟩ (fun r8 e_r8 => ?_)
      subst e_r8
      exact ro_iret (v := (if (bI (lyP σ j3 j6)) = 0 then 0 else 1 : Int32)) hx hb hr hH hlocks dX7_below_37 (by unfold oBelow; simp only [asN, eq_true c2, eq_true c5, nI_clamp (show j3 < 2 ^ 31 by omega), nI_clamp (show j6 < 2 ^ 31 by omega), not_true, not_false_iff, not_true_eq_false, not_false_eq_true, true_or, or_true, false_or, or_false, or_self, and_self, true_and, and_true, false_and, and_false, if_true, if_false]; split <;> rfl)
    · -- 19 not
      have c5 := bI_0 c5
      refine lv_bipush (v := -11) hx hb dX7_below_22 (by decide) ?_
      exact ro_iret (v := (-11)) hx hb hr hH hlocks dX7_below_24 (by unfold oBelow; simp only [eq_true c2, eq_false c5, nI_clamp (show j3 < 2 ^ 31 by omega), not_true, not_false_iff, not_true_eq_false, not_false_eq_true, true_or, or_true, false_or, or_false, or_self, and_self, true_and, and_true, false_and, and_false, if_true, if_false]; try rfl)
set_option maxHeartbeats 4000000 in
set_option maxRecDepth 100000 in
theorem c_entry (l : Launch) (D : va_G) (G : Nat → ClassId) (H : Heap) (ca : Nat → Nat) (bg : Value) (ea : Nat → Nat → Nat) (n k w0 : Nat) (σ x : MS) (κ : Nat → Int64) (hP : va_P D vwCl (cF G ca bg (enF ea k) σ x) H) (hE : ∀ e, e < k → va_P D vwCl (eW G (ea e) σ κ e) H) (hI : cI σ x n k w0) (en : Int32) (what : Int32) (τ : Nat → Int64) : Met l yX7_entry (ww yX7_entry cX7_entry 4 (some .int)) (rmD 1) (roP D G H [.ref ((ca 0)), .int en, .int what]) (vp_Si (fun r => r = (oEntry σ τ k en what).1)) 0 0 (fun _ => False) := by
  refine Met.ofW (cc := cX7_entry) (maxL := 4) (ret := (some .int)) (by decide) rfl ?_
  intro p e s m args below meth c s₁ B hml hv
  obtain ⟨rfl, hH, hK⟩ := hv
  have hx := B.exec
  have hb := B.bytes
  have hr := B.returns
  have hts : ∀ w ∈ TT, w.before _ s = true := fun w h => atoms_spec (ws := ww yX7_entry cX7_entry 4 (some .int)) B.pre w (List.mem_cons_of_mem _ h)
  have hown : s.vm.findClass RX7 = some m.cls := findClass_of_methodNamed B.named
  have hlocks := B.notSynchronized
  rw [hH]
  have hI0 := hI
  obtain ⟨h1, hn, h7, hk60, h22, hw, hab, hfa, hmi, hak, hrf⟩ := hI
  have hl := lv_entry ([.ref ((ca 0)), .int en, .int what]) (n := 4) (Nat.le_of_ble_eq_true rfl)
  rw [lg_entry_eq]
  generalize (lg_sl ([.ref ((ca 0)), .int en, .int what]) ++ List.replicate (4 - (lg_sl ([.ref ((ca 0)), .int en, .int what])).length) Slot.unset).toArray = ls at hl ⊢
  have hl : lv_has ls 4 [(0, .ref ((ca 0))), (1, .int en), (2, .int what)] := hl
  refine lv_aload_n hx hb dX7_entry_0 rfl (lv_at hl 0 rfl) ?_
  refine lv_iload_n hx hb dX7_entry_1 rfl (lv_at hl 1 rfl) ?_
  refine ro_Vq (D := D) (G := G) (As := [.int en]) (rest := []) ⟨hx, hb, hml, hown, hts⟩ (c_entryAt l D G _ ca _ ea n k w0 σ x κ hP hE hI0 en) gV_X7_X7_entryAt hdV_X7_entryAt ⟨Nat.le_of_ble_eq_true rfl, Nat.le_of_ble_eq_true rfl⟩ hK (va_recv hK.1 hP (ci := 7) (q0 := 0) rfl rfl) rfl hl.1 rfl (Nat.le_of_ble_eq_true rfl) dX7_entry_2 ⟨Nat.le_of_ble_eq_true rfl, Nat.le_of_ble_eq_true rfl⟩ (fun r1 e_r1 => ?_)
  subst e_r1
  by_cases ce2 : okN k en
  · -- entry: True
    obtain ⟨j3, h_j3, rfl⟩ := okN_ex (by omega) ce2
    refine W.eq (g2 := F0 m 5 ls (.ref (ea j3 0) :: [])) (congrArg (fun z9 => F0 m 5 ls (va_rf z9 :: [])) (eaF_t h_j3 hk60)) ?_
    refine lv_astore_n (lv' := [(3, .ref ((ea j3 0))), (0, .ref ((ca 0))), (1, .int (nI j3)), (2, .int what)]) hx hb dX7_entry_5 rfl hl (by decide) rfl (fun ls hl => ?_)
    refine lv_aload_n hx hb dX7_entry_6 rfl (lv_at hl 0 rfl) ?_
    refine lv_ifnonnull (tgt := 13) hx hb dX7_entry_7 (by decide) ?_
    refine lv_iload_n hx hb dX7_entry_13 rfl (lv_at hl 3 rfl) ?_
    by_cases c4 : what = 0
    · -- case 0
      refine lv_tableIn (tgt := 52) hx hb dX7_entry_14 (by rw [c4]; decide) (by rw [c4]; decide) (by rw [c4]; rfl) (by decide) ?_
      refine lv_aload_n hx hb dX7_entry_52 rfl (lv_at hl 0 rfl) ?_
      refine inst_m hx hb hown (hts _ q_307) hK (hE j3 (by omega)) dX7_entry_53 ?_
      refine ro_Si (D := D) (G := G) (As := [.int (bI (¬ σ 8 j3 = 0))]) (rest := []) ⟨hx, hb, hml, hown, hts⟩ (c_asNumber l D G _ (bI (¬ σ 8 j3 = 0))) gS_X7_X7_asNumber hdS_X7_asNumber ⟨Nat.le_of_ble_eq_true rfl, Nat.le_of_ble_eq_true rfl⟩ hK rfl hl.1 rfl (Nat.le_of_ble_eq_true rfl) dX7_entry_56 ⟨Nat.le_of_ble_eq_true rfl, Nat.le_of_ble_eq_true rfl⟩ (fun r5 e_r5 => ?_)
      subst e_r5
      exact ro_iret (v := (if (bI (¬ σ 8 j3 = 0)) = 0 then 0 else 1 : Int32)) hx hb hr hH hlocks dX7_entry_59 (by unfold oEntry; simp only [asN, ite_not, eq_true ce2, eq_true c4, nI_clamp (show j3 < 2 ^ 31 by omega), not_true, not_false_iff, not_true_eq_false, not_false_eq_true, true_or, or_true, false_or, or_false, or_self, and_self, true_and, and_true, false_and, and_false, if_true, if_false]; try (split <;> rfl))
    by_cases c6 : what = 1
    · -- case 1
      refine lv_tableIn (tgt := 60) hx hb dX7_entry_14 (by rw [c6]; decide) (by rw [c6]; decide) (by rw [c6]; rfl) (by decide) ?_
      refine lv_aload_n hx hb dX7_entry_60 rfl (lv_at hl 0 rfl) ?_
      by_cases c87 : σ 8 j3 = 0
      · -- a field: True
        have hF_j3 := eW_f (hE j3 (by omega)) c87
        have hmi_j3 := hmi j3 (by omega)
        have ht_j3 := hmi_j3.1.2
        have hz_j3 := hmi_j3.2.1.2
        refine va_get (D := D) (ci := 3) (v := .int (σ 9 j3)) (C := RX2) (T := TX2) (N := 7) hx hb hts iX2 hown hK.1 hF_j3 0 rfl rfl 0 (by decide) (hts _ q_219) (fun _ h9 => h9) rfl dX7_entry_61 ?_
        exact ro_iret (v := σ 9 j3) hx hb hr hH hlocks dX7_entry_64 (by unfold oEntry; simp only [asN, ite_not, eq_true ce2, eq_false c4, eq_true c6, nI_clamp (show j3 < 2 ^ 31 by omega), not_true, not_false_iff, not_true_eq_false, not_false_eq_true, true_or, or_true, false_or, or_false, or_self, and_self, true_and, and_true, false_and, and_false, if_true, if_false]; try rfl)
      · -- a field: False
        have hM_j3 := eW_m (hE j3 (by omega)) c87
        have hmi_j3 := mJ_m (hmi j3 (by omega)) c87
        have ht_j3 := hmi_j3.1.2
        have hz_j3 := hmi_j3.2.1.2
        refine va_get (D := D) (ci := 4) (v := .int (σ 9 j3)) (C := RX3) (T := TX3) (N := 9) hx hb hts iX3 hown hK.1 hM_j3 0 rfl rfl 0 (by decide) (hts _ q_219) (fun _ h9 => h9) rfl dX7_entry_61 ?_
        exact ro_iret (v := σ 9 j3) hx hb hr hH hlocks dX7_entry_64 (by unfold oEntry; simp only [asN, ite_not, eq_true ce2, eq_false c4, eq_true c6, nI_clamp (show j3 < 2 ^ 31 by omega), not_true, not_false_iff, not_true_eq_false, not_false_eq_true, true_or, or_true, false_or, or_false, or_self, and_self, true_and, and_true, false_and, and_false, if_true, if_false]; try rfl)
    by_cases c8 : what = 2
    · -- case 2
      refine lv_tableIn (tgt := 65) hx hb dX7_entry_14 (by rw [c8]; decide) (by rw [c8]; decide) (by rw [c8]; rfl) (by decide) ?_
      refine lv_aload_n hx hb dX7_entry_65 rfl (lv_at hl 0 rfl) ?_
      by_cases c89 : σ 8 j3 = 0
      · -- a field: True
        have hF_j3 := eW_f (hE j3 (by omega)) c89
        have hmi_j3 := hmi j3 (by omega)
        have ht_j3 := hmi_j3.1.2
        have hz_j3 := hmi_j3.2.1.2
        refine va_get (D := D) (ci := 3) (v := .int (σ 10 j3)) (C := RX2) (T := TX2) (N := 7) hx hb hts iX2 hown hK.1 hF_j3 0 rfl rfl 1 (by decide) (hts _ q_225) (fun _ h9 => h9) rfl dX7_entry_66 ?_
        exact ro_iret (v := σ 10 j3) hx hb hr hH hlocks dX7_entry_69 (by unfold oEntry; simp only [asN, ite_not, eq_true ce2, eq_false c4, eq_false c6, eq_true c8, nI_clamp (show j3 < 2 ^ 31 by omega), not_true, not_false_iff, not_true_eq_false, not_false_eq_true, true_or, or_true, false_or, or_false, or_self, and_self, true_and, and_true, false_and, and_false, if_true, if_false]; try rfl)
      · -- a field: False
        have hM_j3 := eW_m (hE j3 (by omega)) c89
        have hmi_j3 := mJ_m (hmi j3 (by omega)) c89
        have ht_j3 := hmi_j3.1.2
        have hz_j3 := hmi_j3.2.1.2
        refine va_get (D := D) (ci := 4) (v := .int (σ 10 j3)) (C := RX3) (T := TX3) (N := 9) hx hb hts iX3 hown hK.1 hM_j3 0 rfl rfl 1 (by decide) (hts _ q_225) (fun _ h9 => h9) rfl dX7_entry_66 ?_
        exact ro_iret (v := σ 10 j3) hx hb hr hH hlocks dX7_entry_69 (by unfold oEntry; simp only [asN, ite_not, eq_true ce2, eq_false c4, eq_false c6, eq_true c8, nI_clamp (show j3 < 2 ^ 31 by omega), not_true, not_false_iff, not_true_eq_false, not_false_eq_true, true_or, or_true, false_or, or_false, or_self, and_self, true_and, and_true, false_and, and_false, if_true, if_false]; try rfl)
    by_cases c10 : what = 3
    · -- case 3
      refine lv_tableIn (tgt := 70) hx hb dX7_entry_14 (by rw [c10]; decide) (by rw [c10]; decide) (by rw [c10]; rfl) (by decide) ?_
      refine lv_aload_n hx hb dX7_entry_70 rfl (lv_at hl 0 rfl) ?_
      by_cases c811 : σ 8 j3 = 0
      · -- a field: True
        have hF_j3 := eW_f (hE j3 (by omega)) c811
        have hmi_j3 := hmi j3 (by omega)
        have ht_j3 := hmi_j3.1.2
        have hz_j3 := hmi_j3.2.1.2
        refine va_get (D := D) (ci := 3) (v := .int (σ 11 j3)) (C := RX2) (T := TX2) (N := 7) hx hb hts iX2 hown hK.1 hF_j3 0 rfl rfl 2 (by decide) (hts _ q_231) (fun _ h9 => h9) rfl dX7_entry_71 ?_
        exact ro_iret (v := σ 11 j3) hx hb hr hH hlocks dX7_entry_74 (by unfold oEntry; simp only [asN, ite_not, eq_true ce2, eq_false c4, eq_false c6, eq_false c8, eq_true c10, nI_clamp (show j3 < 2 ^ 31 by omega), not_true, not_false_iff, not_true_eq_false, not_false_eq_true, true_or, or_true, false_or, or_false, or_self, and_self, true_and, and_true, false_and, and_false, if_true, if_false]; try rfl)
      · -- a field: False
        have hM_j3 := eW_m (hE j3 (by omega)) c811
        have hmi_j3 := mJ_m (hmi j3 (by omega)) c811
        have ht_j3 := hmi_j3.1.2
        have hz_j3 := hmi_j3.2.1.2
        refine va_get (D := D) (ci := 4) (v := .int (σ 11 j3)) (C := RX3) (T := TX3) (N := 9) hx hb hts iX3 hown hK.1 hM_j3 0 rfl rfl 2 (by decide) (hts _ q_231) (fun _ h9 => h9) rfl dX7_entry_71 ?_
        exact ro_iret (v := σ 11 j3) hx hb hr hH hlocks dX7_entry_74 (by unfold oEntry; simp only [asN, ite_not, eq_true ce2, eq_false c4, eq_false c6, eq_false c8, eq_true c10, nI_clamp (show j3 < 2 ^ 31 by omega), not_true, not_false_iff, not_true_eq_false, not_false_eq_true, true_or, or_true, false_or, or_false, or_self, and_self, true_and, and_true, false_and, and_false, if_true, if_false]; try rfl)
    by_cases c12 : what = 4
    · -- case 4
      refine lv_tableIn (tgt := 75) hx hb dX7_entry_14 (by rw [c12]; decide) (by rw [c12]; decide) (by rw [c12]; rfl) (by decide) ?_
      refine lv_aload_n hx hb dX7_entry_75 rfl (lv_at hl 0 rfl) ?_
      by_cases c813 : σ 8 j3 = 0
      · -- a field: True
        have hF_j3 := eW_f (hE j3 (by omega)) c813
        have hmi_j3 := hmi j3 (by omega)
        have ht_j3 := hmi_j3.1.2
        have hz_j3 := hmi_j3.2.1.2
        refine va_get (D := D) (ci := 3) (v := .int (σ 12 j3)) (C := RX2) (T := TX2) (N := 7) hx hb hts iX2 hown hK.1 hF_j3 0 rfl rfl 3 (by decide) (hts _ q_237) (fun _ h9 => h9) rfl dX7_entry_76 ?_
        exact ro_iret (v := σ 12 j3) hx hb hr hH hlocks dX7_entry_79 (by unfold oEntry; simp only [asN, ite_not, eq_true ce2, eq_false c4, eq_false c6, eq_false c8, eq_false c10, eq_true c12, nI_clamp (show j3 < 2 ^ 31 by omega), not_true, not_false_iff, not_true_eq_false, not_false_eq_true, true_or, or_true, false_or, or_false, or_self, and_self, true_and, and_true, false_and, and_false, if_true, if_false]; try rfl)
      · -- a field: False
        have hM_j3 := eW_m (hE j3 (by omega)) c813
        have hmi_j3 := mJ_m (hmi j3 (by omega)) c813
        have ht_j3 := hmi_j3.1.2
        have hz_j3 := hmi_j3.2.1.2
        refine va_get (D := D) (ci := 4) (v := .int (σ 12 j3)) (C := RX3) (T := TX3) (N := 9) hx hb hts iX3 hown hK.1 hM_j3 0 rfl rfl 3 (by decide) (hts _ q_237) (fun _ h9 => h9) rfl dX7_entry_76 ?_
        exact ro_iret (v := σ 12 j3) hx hb hr hH hlocks dX7_entry_79 (by unfold oEntry; simp only [asN, ite_not, eq_true ce2, eq_false c4, eq_false c6, eq_false c8, eq_false c10, eq_true c12, nI_clamp (show j3 < 2 ^ 31 by omega), not_true, not_false_iff, not_true_eq_false, not_false_eq_true, true_or, or_true, false_or, or_false, or_self, and_self, true_and, and_true, false_and, and_false, if_true, if_false]; try rfl)
    by_cases c14 : what = 5
    · -- case 5
      refine lv_tableIn (tgt := 80) hx hb dX7_entry_14 (by rw [c14]; decide) (by rw [c14]; decide) (by rw [c14]; rfl) (by decide) ?_
      refine lv_aload_n hx hb dX7_entry_80 rfl (lv_at hl 0 rfl) ?_
      by_cases c815 : σ 8 j3 = 0
      · -- a field: True
        have hF_j3 := eW_f (hE j3 (by omega)) c815
        have hmi_j3 := hmi j3 (by omega)
        have ht_j3 := hmi_j3.1.2
        have hz_j3 := hmi_j3.2.1.2
        refine va_get (D := D) (ci := 3) (v := .int (σ 13 j3)) (C := RX2) (T := TX2) (N := 7) hx hb hts iX2 hown hK.1 hF_j3 0 rfl rfl 4 (by decide) (hts _ q_241) (fun _ h9 => h9) rfl dX7_entry_81 ?_
        exact ro_iret (v := σ 13 j3) hx hb hr hH hlocks dX7_entry_84 (by unfold oEntry; simp only [asN, ite_not, eq_true ce2, eq_false c4, eq_false c6, eq_false c8, eq_false c10, eq_false c12, eq_true c14, nI_clamp (show j3 < 2 ^ 31 by omega), not_true, not_false_iff, not_true_eq_false, not_false_eq_true, true_or, or_true, false_or, or_false, or_self, and_self, true_and, and_true, false_and, and_false, if_true, if_false]; try rfl)
      · -- a field: False
        have hM_j3 := eW_m (hE j3 (by omega)) c815
        have hmi_j3 := mJ_m (hmi j3 (by omega)) c815
        have ht_j3 := hmi_j3.1.2
        have hz_j3 := hmi_j3.2.1.2
        refine va_get (D := D) (ci := 4) (v := .int (σ 13 j3)) (C := RX3) (T := TX3) (N := 9) hx hb hts iX3 hown hK.1 hM_j3 0 rfl rfl 4 (by decide) (hts _ q_241) (fun _ h9 => h9) rfl dX7_entry_81 ?_
        exact ro_iret (v := σ 13 j3) hx hb hr hH hlocks dX7_entry_84 (by unfold oEntry; simp only [asN, ite_not, eq_true ce2, eq_false c4, eq_false c6, eq_false c8, eq_false c10, eq_false c12, eq_true c14, nI_clamp (show j3 < 2 ^ 31 by omega), not_true, not_false_iff, not_true_eq_false, not_false_eq_true, true_or, or_true, false_or, or_false, or_self, and_self, true_and, and_true, false_and, and_false, if_true, if_false]; try rfl)
    refine lv_tableOut (tgt := 85) hx hb dX7_entry_14 (by simp only [i_eq, Int32.reduceToInt] at c4 c6 c8 c10 c12 c14; omega) (by decide) ?_
    refine lv_bipush (v := -13) hx hb dX7_entry_85 (by decide) ?_
    exact ro_iret (v := (-13)) hx hb hr hH hlocks dX7_entry_87 (by unfold oEntry; simp only [asN, ite_not, eq_true ce2, eq_false c4, eq_false c6, eq_false c8, eq_false c10, eq_false c12, eq_false c14, nI_clamp (show j3 < 2 ^ 31 by omega), not_true, not_false_iff, not_true_eq_false, not_false_eq_true, true_or, or_true, false_or, or_false, or_self, and_self, true_and, and_true, false_and, and_false, if_true, if_false]; try rfl)
  · -- entry: False
    refine W.eq (g2 := F0 m 5 ls (.null :: [])) (congrArg (fun z9 => F0 m 5 ls (va_rf z9 :: [])) (eaF_f ce2)) ?_
    refine lv_astore_nN (lv' := [(3, .null), (0, .ref ((ca 0))), (1, .int en), (2, .int what)]) hx hb dX7_entry_5 rfl hl (by decide) rfl (fun ls hl => ?_)
    refine lv_aload_nN hx hb dX7_entry_6 rfl (lv_at hl 0 rfl) ?_
    refine lv_ifnonnullN hx hb dX7_entry_7 ?_
    refine lv_bipush (v := -11) hx hb dX7_entry_10 (by decide) ?_
    exact ro_iret (v := (-11)) hx hb hr hH hlocks dX7_entry_12 (by unfold oEntry; simp only [asN, ite_not, eq_false ce2, not_true, not_false_iff, not_true_eq_false, not_false_eq_true, true_or, or_true, false_or, or_false, or_self, and_self, true_and, and_true, false_and, and_false, if_true, if_false]; try rfl)
set_option maxHeartbeats 4000000 in
set_option maxRecDepth 100000 in
theorem c_shape (l : Launch) (D : va_G) (G : Nat → ClassId) (H : Heap) (ca : Nat → Nat) (bg : Value) (ea : Nat → Nat → Nat) (n k w0 : Nat) (σ x : MS) (κ : Nat → Int64) (hP : va_P D vwCl (cF G ca bg (enF ea k) σ x) H) (hE : ∀ e, e < k → va_P D vwCl (eW G (ea e) σ κ e) H) (hI : cI σ x n k w0) (en : Int32) (what : Int32) (τ : Nat → Int64) : Met l yX7_shape (ww yX7_shape cX7_shape 5 (some .int)) (rmD 1) (roP D G H [.ref ((ca 0)), .int en, .int what]) (vp_Si (fun r => r = (oShape σ τ k en what).1)) 0 0 (fun _ => False) := by
  refine Met.ofW (cc := cX7_shape) (maxL := 5) (ret := (some .int)) (by decide) rfl ?_
  intro p e s m args below meth c s₁ B hml hv
  obtain ⟨rfl, hH, hK⟩ := hv
  have hx := B.exec
  have hb := B.bytes
  have hr := B.returns
  have hts : ∀ w ∈ TT, w.before _ s = true := fun w h => atoms_spec (ws := ww yX7_shape cX7_shape 5 (some .int)) B.pre w (List.mem_cons_of_mem _ h)
  have hown : s.vm.findClass RX7 = some m.cls := findClass_of_methodNamed B.named
  have hlocks := B.notSynchronized
  rw [hH]
  have hI0 := hI
  obtain ⟨h1, hn, h7, hk60, h22, hw, hab, hfa, hmi, hak, hrf⟩ := hI
  have hl := lv_entry ([.ref ((ca 0)), .int en, .int what]) (n := 5) (Nat.le_of_ble_eq_true rfl)
  rw [lg_entry_eq]
  generalize (lg_sl ([.ref ((ca 0)), .int en, .int what]) ++ List.replicate (5 - (lg_sl ([.ref ((ca 0)), .int en, .int what])).length) Slot.unset).toArray = ls at hl ⊢
  have hl : lv_has ls 5 [(0, .ref ((ca 0))), (1, .int en), (2, .int what)] := hl
  refine lv_aload_n hx hb dX7_shape_0 rfl (lv_at hl 0 rfl) ?_
  refine lv_iload_n hx hb dX7_shape_1 rfl (lv_at hl 1 rfl) ?_
  refine ro_Vq (D := D) (G := G) (As := [.int en]) (rest := []) ⟨hx, hb, hml, hown, hts⟩ (c_entryAt l D G _ ca _ ea n k w0 σ x κ hP hE hI0 en) gV_X7_X7_entryAt hdV_X7_entryAt ⟨Nat.le_of_ble_eq_true rfl, Nat.le_of_ble_eq_true rfl⟩ hK (va_recv hK.1 hP (ci := 7) (q0 := 0) rfl rfl) rfl hl.1 rfl (Nat.le_of_ble_eq_true rfl) dX7_shape_2 ⟨Nat.le_of_ble_eq_true rfl, Nat.le_of_ble_eq_true rfl⟩ (fun r1 e_r1 => ?_)
  subst e_r1
  by_cases ce2 : okN k en
  · -- entry: True
    obtain ⟨j3, h_j3, rfl⟩ := okN_ex (by omega) ce2
    refine W.eq (g2 := F0 m 5 ls (.ref (ea j3 0) :: [])) (congrArg (fun z9 => F0 m 5 ls (va_rf z9 :: [])) (eaF_t h_j3 hk60)) ?_
    refine lv_astore_n (lv' := [(3, .ref ((ea j3 0))), (0, .ref ((ca 0))), (1, .int (nI j3)), (2, .int what)]) hx hb dX7_shape_5 rfl hl (by decide) rfl (fun ls hl => ?_)
    refine lv_aload_n hx hb dX7_shape_6 rfl (lv_at hl 0 rfl) ?_
    refine lv_ifnonnull (tgt := 13) hx hb dX7_shape_7 (by decide) ?_
    refine lv_aload_n hx hb dX7_shape_13 rfl (lv_at hl 0 rfl) ?_
    refine inst_m hx hb hown (hts _ q_307) hK (hE j3 (by omega)) dX7_shape_14 ?_
    refine lv_if_eq (tgt := 29) hx hb dX7_shape_17 (by decide) (fun c4 => ?_) (fun c4 => ?_)
    · -- 17 taken
      have c4 := bI_0 c4
      refine lv_bipush (v := -12) hx hb dX7_shape_29 (by decide) ?_
      exact ro_iret (v := (-12)) hx hb hr hH hlocks dX7_shape_31 (by unfold oShape; simp only [eq_true ce2, eq_true (Decidable.of_not_not c4), nI_clamp (show j3 < 2 ^ 31 by omega), not_true, not_false_iff, not_true_eq_false, not_false_eq_true, true_or, or_true, false_or, or_false, or_self, and_self, true_and, and_true, false_and, and_false, if_true, if_false]; try rfl)
    · -- 17 not
      have c4 := bI_1 c4
      refine lv_aload_n hx hb dX7_shape_20 rfl (lv_at hl 0 rfl) ?_
      have hM_j3 := eW_m (hE j3 (by omega)) c4
      have hmi_j3 := mJ_m (hmi j3 (by omega)) c4
      have ht_j3 := hmi_j3.1.2
      have hz_j3 := hmi_j3.2.1.2
      refine va_castY (C := RX3) hx hb hown (hts _ q_307) hK.2.2.1 (va_recv hK.1 hM_j3 (ci := 4) (q0 := 0) rfl rfl) dX7_shape_21 ?_
      refine lv_astore (lv' := [(4, .ref ((ea j3 0))), (3, .ref ((ea j3 0))), (0, .ref ((ca 0))), (1, .int (nI j3)), (2, .int what)]) hx hb dX7_shape_24 hl (by decide) rfl (fun ls hl => ?_)
      refine lv_goto (tgt := 32) hx hb dX7_shape_26 (by decide) ?_
      refine lv_iload_n hx hb dX7_shape_32 rfl (lv_at hl 4 rfl) ?_
      by_cases c5 : what = 0
      · -- case 0
        refine lv_tableIn (tgt := 64) hx hb dX7_shape_33 (by rw [c5]; decide) (by rw [c5]; decide) (by rw [c5]; rfl) (by decide) ?_
        refine lv_aload hx hb dX7_shape_64 (lv_at hl 0 rfl) ?_
        refine va_get (D := D) (ci := 4) (v := .ref ((ea j3 1))) (C := RX3) (T := TX3) (N := 9) hx hb hts iX3 hown hK.1 hM_j3 0 rfl rfl 6 (by decide) (hts _ q_318) (fun _ h9 => h9) rfl dX7_shape_66 ?_
        refine va_get (D := D) (ci := 5) (v := .int (σ 18 j3)) (C := RX4) (T := TX4) (N := 3) hx hb hts iX4 hown hK.1 hM_j3 1 rfl rfl 2 (by decide) (hts _ q_65) (fun _ h9 => h9) rfl dX7_shape_69 ?_
        exact ro_iret (v := σ 18 j3) hx hb hr hH hlocks dX7_shape_72 (by unfold oShape; simp only [eq_true ce2, eq_false c4, eq_true c5, nI_clamp (show j3 < 2 ^ 31 by omega), not_true, not_false_iff, not_true_eq_false, not_false_eq_true, true_or, or_true, false_or, or_false, or_self, and_self, true_and, and_true, false_and, and_false, if_true, if_false]; try rfl)
      by_cases c6 : what = 1
      · -- case 1
        refine lv_tableIn (tgt := 73) hx hb dX7_shape_33 (by rw [c6]; decide) (by rw [c6]; decide) (by rw [c6]; rfl) (by decide) ?_
        refine lv_aload hx hb dX7_shape_73 (lv_at hl 0 rfl) ?_
        refine va_get (D := D) (ci := 4) (v := .int (σ 17 j3)) (C := RX3) (T := TX3) (N := 9) hx hb hts iX3 hown hK.1 hM_j3 0 rfl rfl 7 (by decide) (hts _ q_319) (fun _ h9 => h9) rfl dX7_shape_75 ?_
        refine ro_Si (D := D) (G := G) (As := [.int (σ 17 j3)]) (rest := []) ⟨hx, hb, hml, hown, hts⟩ (c_asNumber l D G _ (σ 17 j3)) gS_X7_X7_asNumber hdS_X7_asNumber ⟨Nat.le_of_ble_eq_true rfl, Nat.le_of_ble_eq_true rfl⟩ hK rfl hl.1 rfl (Nat.le_of_ble_eq_true rfl) dX7_shape_78 ⟨Nat.le_of_ble_eq_true rfl, Nat.le_of_ble_eq_true rfl⟩ (fun r7 e_r7 => ?_)
        subst e_r7
        exact ro_iret (v := (if (σ 17 j3) = 0 then 0 else 1 : Int32)) hx hb hr hH hlocks dX7_shape_81 (by unfold oShape; simp only [eq_true ce2, eq_false c4, eq_false c5, eq_true c6, nI_clamp (show j3 < 2 ^ 31 by omega), not_true, not_false_iff, not_true_eq_false, not_false_eq_true, true_or, or_true, false_or, or_false, or_self, and_self, true_and, and_true, false_and, and_false, if_true, if_false]; try (split <;> rfl))
      by_cases c8 : what = 2
      · -- case 2
        refine lv_tableIn (tgt := 82) hx hb dX7_shape_33 (by rw [c8]; decide) (by rw [c8]; decide) (by rw [c8]; rfl) (by decide) ?_
        refine lv_aload hx hb dX7_shape_82 (lv_at hl 0 rfl) ?_
        refine va_get (D := D) (ci := 4) (v := .int (σ 16 j3)) (C := RX3) (T := TX3) (N := 9) hx hb hts iX3 hown hK.1 hM_j3 0 rfl rfl 5 (by decide) (hts _ q_316) (fun _ h9 => h9) rfl dX7_shape_84 ?_
        refine ro_Si (D := D) (G := G) (As := [.int (σ 16 j3)]) (rest := []) ⟨hx, hb, hml, hown, hts⟩ (c_asNumber l D G _ (σ 16 j3)) gS_X7_X7_asNumber hdS_X7_asNumber ⟨Nat.le_of_ble_eq_true rfl, Nat.le_of_ble_eq_true rfl⟩ hK rfl hl.1 rfl (Nat.le_of_ble_eq_true rfl) dX7_shape_87 ⟨Nat.le_of_ble_eq_true rfl, Nat.le_of_ble_eq_true rfl⟩ (fun r9 e_r9 => ?_)
        subst e_r9
        exact ro_iret (v := (if (σ 16 j3) = 0 then 0 else 1 : Int32)) hx hb hr hH hlocks dX7_shape_90 (by unfold oShape; simp only [eq_true ce2, eq_false c4, eq_false c5, eq_false c6, eq_true c8, nI_clamp (show j3 < 2 ^ 31 by omega), not_true, not_false_iff, not_true_eq_false, not_false_eq_true, true_or, or_true, false_or, or_false, or_self, and_self, true_and, and_true, false_and, and_false, if_true, if_false]; try (split <;> rfl))
      by_cases c10 : what = 3
      · -- case 3
        refine lv_tableIn (tgt := 91) hx hb dX7_shape_33 (by rw [c10]; decide) (by rw [c10]; decide) (by rw [c10]; rfl) (by decide) ?_
        refine lv_aload hx hb dX7_shape_91 (lv_at hl 0 rfl) ?_
        refine va_get (D := D) (ci := 4) (v := .int (σ 28 j3)) (C := RX3) (T := TX3) (N := 9) hx hb hts iX3 hown hK.1 hM_j3 0 rfl rfl 8 (by decide) (hts _ q_321) (fun _ h9 => h9) rfl dX7_shape_93 ?_
        exact ro_iret (v := σ 28 j3) hx hb hr hH hlocks dX7_shape_96 (by unfold oShape; simp only [eq_true ce2, eq_false c4, eq_false c5, eq_false c6, eq_false c8, eq_true c10, nI_clamp (show j3 < 2 ^ 31 by omega), not_true, not_false_iff, not_true_eq_false, not_false_eq_true, true_or, or_true, false_or, or_false, or_self, and_self, true_and, and_true, false_and, and_false, if_true, if_false]; try rfl)
      refine lv_tableOut (tgt := 97) hx hb dX7_shape_33 (by simp only [i_eq, Int32.reduceToInt] at c5 c6 c8 c10; omega) (by decide) ?_
      refine lv_bipush (v := -13) hx hb dX7_shape_97 (by decide) ?_
      exact ro_iret (v := (-13)) hx hb hr hH hlocks dX7_shape_99 (by unfold oShape; simp only [eq_true ce2, eq_false c4, eq_false c5, eq_false c6, eq_false c8, eq_false c10, nI_clamp (show j3 < 2 ^ 31 by omega), not_true, not_false_iff, not_true_eq_false, not_false_eq_true, true_or, or_true, false_or, or_false, or_self, and_self, true_and, and_true, false_and, and_false, if_true, if_false]; try rfl)
  · -- entry: False
    refine W.eq (g2 := F0 m 5 ls (.null :: [])) (congrArg (fun z9 => F0 m 5 ls (va_rf z9 :: [])) (eaF_f ce2)) ?_
    refine lv_astore_nN (lv' := [(3, .null), (0, .ref ((ca 0))), (1, .int en), (2, .int what)]) hx hb dX7_shape_5 rfl hl (by decide) rfl (fun ls hl => ?_)
    refine lv_aload_nN hx hb dX7_shape_6 rfl (lv_at hl 0 rfl) ?_
    refine lv_ifnonnullN hx hb dX7_shape_7 ?_
    refine lv_bipush (v := -11) hx hb dX7_shape_10 (by decide) ?_
    exact ro_iret (v := (-11)) hx hb hr hH hlocks dX7_shape_12 (by unfold oShape; simp only [eq_false ce2, not_true, not_false_iff, not_true_eq_false, not_false_eq_true, true_or, or_true, false_or, or_false, or_self, and_self, true_and, and_true, false_and, and_false, if_true, if_false]; try rfl)
set_option maxHeartbeats 4000000 in
set_option maxRecDepth 100000 in
theorem c_count (l : Launch) (D : va_G) (G : Nat → ClassId) (H : Heap) (ca : Nat → Nat) (bg : Value) (ea : Nat → Nat → Nat) (n k w0 : Nat) (σ x : MS) (κ : Nat → Int64) (hP : va_P D vwCl (cF G ca bg (enF ea k) σ x) H) (hE : ∀ e, e < k → va_P D vwCl (eW G (ea e) σ κ e) H) (hI : cI σ x n k w0) (ba : Nat → Nat) (hbg : (bg = .null ∧ σ 21 0 = 0) ∨ (bg = .ref (ba 0) ∧ ¬ σ 21 0 = 0 ∧ va_P D vwCl (mbW G ba σ k (-1)) H ∧ mI σ n k)) (what : Int32) (τ : Nat → Int64) : Met l yX7_count (ww yX7_count cX7_count 2 (some .int)) (rmD 1) (roP D G H [.ref ((ca 0)), .int what]) (vp_Si (fun r => r = (oCount σ τ k what).1)) 0 0 (fun _ => False) := by
  refine Met.ofW (cc := cX7_count) (maxL := 2) (ret := (some .int)) (by decide) rfl ?_
  intro p e s m args below meth c s₁ B hml hv
  obtain ⟨rfl, hH, hK⟩ := hv
  have hx := B.exec
  have hb := B.bytes
  have hr := B.returns
  have hts : ∀ w ∈ TT, w.before _ s = true := fun w h => atoms_spec (ws := ww yX7_count cX7_count 2 (some .int)) B.pre w (List.mem_cons_of_mem _ h)
  have hown : s.vm.findClass RX7 = some m.cls := findClass_of_methodNamed B.named
  have hlocks := B.notSynchronized
  rw [hH]
  have hI0 := hI
  obtain ⟨h1, hn, h7, hk60, h22, hw, hab, hfa, hmi, hak, hrf⟩ := hI
  have hl := lv_entry ([.ref ((ca 0)), .int what]) (n := 2) (Nat.le_of_ble_eq_true rfl)
  rw [lg_entry_eq]
  generalize (lg_sl ([.ref ((ca 0)), .int what]) ++ List.replicate (2 - (lg_sl ([.ref ((ca 0)), .int what])).length) Slot.unset).toArray = ls at hl ⊢
  have hl : lv_has ls 2 [(0, .ref ((ca 0))), (1, .int what)] := hl
  refine lv_iload_n hx hb dX7_count_0 rfl (lv_at hl 1 rfl) ?_
  by_cases c1 : what = 0
  · -- case 0
    refine lv_tableIn (tgt := 40) hx hb dX7_count_1 (by rw [c1]; decide) (by rw [c1]; decide) (by rw [c1]; rfl) (by decide) ?_
    refine lv_aload_n hx hb dX7_count_40 rfl (lv_at hl 0 rfl) ?_
    refine va_get (D := D) (ci := 7) (v := .ref ((ca 1))) (C := RX7) (T := TX7) (N := 11) hx hb hts iX7 hown hK.1 hP 0 rfl rfl 0 (by decide) (hts _ q_73) (fun _ h9 => h9) rfl dX7_count_41 ?_
    refine va_get (D := D) (ci := 6) (v := .int (σ 1 0)) (C := RX6) (T := TX6) (N := 5) hx hb hts iX6 hown hK.1 hP 1 rfl rfl 4 (by decide) (hts _ q_40) (fun _ h9 => h9) rfl dX7_count_44 ?_
    exact ro_iret (v := σ 1 0) hx hb hr hH hlocks dX7_count_47 (by unfold oCount; simp only [eq_true c1, not_true, not_false_iff, not_true_eq_false, not_false_eq_true, true_or, or_true, false_or, or_false, or_self, and_self, true_and, and_true, false_and, and_false, if_true, if_false]; try rfl)
  by_cases c2 : what = 1
  · -- case 1
    refine lv_tableIn (tgt := 48) hx hb dX7_count_1 (by rw [c2]; decide) (by rw [c2]; decide) (by rw [c2]; rfl) (by decide) ?_
    refine lv_aload_n hx hb dX7_count_48 rfl (lv_at hl 0 rfl) ?_
    refine va_get (D := D) (ci := 7) (v := .int (σ 7 0)) (C := RX7) (T := TX7) (N := 11) hx hb hts iX7 hown hK.1 hP 0 rfl rfl 2 (by decide) (hts _ q_75) (fun _ h9 => h9) rfl dX7_count_49 ?_
    exact ro_iret (v := σ 7 0) hx hb hr hH hlocks dX7_count_52 (by unfold oCount; simp only [eq_false c1, eq_true c2, not_true, not_false_iff, not_true_eq_false, not_false_eq_true, true_or, or_true, false_or, or_false, or_self, and_self, true_and, and_true, false_and, and_false, if_true, if_false]; exact h7)
  by_cases c3 : what = 2
  · -- case 2
    refine lv_tableIn (tgt := 53) hx hb dX7_count_1 (by rw [c3]; decide) (by rw [c3]; decide) (by rw [c3]; rfl) (by decide) ?_
    refine lv_aload_n hx hb dX7_count_53 rfl (lv_at hl 0 rfl) ?_
    refine va_get (D := D) (ci := 7) (v := bg) (C := RX7) (T := TX7) (N := 11) hx hb hts iX7 hown hK.1 hP 0 rfl rfl 3 (by decide) (hts _ q_76) (fun _ h9 => h9) rfl dX7_count_54 ?_
    rcases hbg with ⟨hbn, c21⟩ | ⟨hbn, c21, hB, hoB⟩
    · -- begun: n
      subst hbn
      refine lv_ifnullN (tgt := 64) hx hb dX7_count_57 (by decide) ?_
      refine lv_iconst (v := 0) hx hb dX7_count_64 (by decide) ?_
      refine ro_Si (D := D) (G := G) (As := [.int 0]) (rest := []) ⟨hx, hb, hml, hown, hts⟩ (c_asNumber l D G _ 0) gS_X7_X7_asNumber hdS_X7_asNumber ⟨Nat.le_of_ble_eq_true rfl, Nat.le_of_ble_eq_true rfl⟩ hK rfl hl.1 rfl (Nat.le_of_ble_eq_true rfl) dX7_count_65 ⟨Nat.le_of_ble_eq_true rfl, Nat.le_of_ble_eq_true rfl⟩ (fun r4 e_r4 => ?_)
      subst e_r4
      exact ro_iret (v := (if 0 = 0 then 0 else 1 : Int32)) hx hb hr hH hlocks dX7_count_68 (by unfold oCount; simp only [eq_false c1, eq_false c2, eq_true c3, eq_true c21, not_true, not_false_iff, not_true_eq_false, not_false_eq_true, true_or, or_true, false_or, or_false, or_self, and_self, true_and, and_true, false_and, and_false, if_true, if_false]; try rfl)
    · -- begun: a
      subst hbn
      have hoo := hoB
      obtain ⟨heB, hmB, hkB, hpB⟩ := hoB
      have htB := heB.2
      have hzB := hmB.2
      refine lv_ifnull hx hb dX7_count_57 ?_
      refine lv_iconst (v := 1) hx hb dX7_count_60 (by decide) ?_
      refine lv_goto (tgt := 65) hx hb dX7_count_61 (by decide) ?_
      refine ro_Si (D := D) (G := G) (As := [.int 1]) (rest := []) ⟨hx, hb, hml, hown, hts⟩ (c_asNumber l D G _ 1) gS_X7_X7_asNumber hdS_X7_asNumber ⟨Nat.le_of_ble_eq_true rfl, Nat.le_of_ble_eq_true rfl⟩ hK rfl hl.1 rfl (Nat.le_of_ble_eq_true rfl) dX7_count_65 ⟨Nat.le_of_ble_eq_true rfl, Nat.le_of_ble_eq_true rfl⟩ (fun r5 e_r5 => ?_)
      subst e_r5
      exact ro_iret (v := (if 1 = 0 then 0 else 1 : Int32)) hx hb hr hH hlocks dX7_count_68 (by unfold oCount; simp only [eq_false c1, eq_false c2, eq_true c3, eq_false c21, not_true, not_false_iff, not_true_eq_false, not_false_eq_true, true_or, or_true, false_or, or_false, or_self, and_self, true_and, and_true, false_and, and_false, if_true, if_false]; try rfl)
  by_cases c6 : what = 3
  · -- case 3
    refine lv_tableIn (tgt := 69) hx hb dX7_count_1 (by rw [c6]; decide) (by rw [c6]; decide) (by rw [c6]; rfl) (by decide) ?_
    refine lv_aload_n hx hb dX7_count_69 rfl (lv_at hl 0 rfl) ?_
    refine va_get (D := D) (ci := 7) (v := bg) (C := RX7) (T := TX7) (N := 11) hx hb hts iX7 hown hK.1 hP 0 rfl rfl 3 (by decide) (hts _ q_76) (fun _ h9 => h9) rfl dX7_count_70 ?_
    rcases hbg with ⟨hbn, c21⟩ | ⟨hbn, c21, hB, hoB⟩
    · -- begun: n
      subst hbn
      refine lv_ifnonnullN hx hb dX7_count_73 ?_
      refine lv_iconst (v := 0) hx hb dX7_count_76 (by decide) ?_
      refine lv_goto (tgt := 90) hx hb dX7_count_77 (by decide) ?_
      exact ro_iret (v := 0) hx hb hr hH hlocks dX7_count_90 (by unfold oCount; simp only [eq_false c1, eq_false c2, eq_false c3, eq_true c6, eq_true c21, not_true, not_false_iff, not_true_eq_false, not_false_eq_true, true_or, or_true, false_or, or_false, or_self, and_self, true_and, and_true, false_and, and_false, if_true, if_false]; try rfl)
    · -- begun: a
      subst hbn
      have hoo := hoB
      obtain ⟨heB, hmB, hkB, hpB⟩ := hoB
      have htB := heB.2
      have hzB := hmB.2
      refine lv_ifnonnull (tgt := 80) hx hb dX7_count_73 (by decide) ?_
      refine lv_aload_n hx hb dX7_count_80 rfl (lv_at hl 0 rfl) ?_
      refine va_get (D := D) (ci := 7) (v := .ref ((ba 0))) (C := RX7) (T := TX7) (N := 11) hx hb hts iX7 hown hK.1 hP 0 rfl rfl 3 (by decide) (hts _ q_76) (fun _ h9 => h9) rfl dX7_count_81 ?_
      refine va_get (D := D) (ci := 4) (v := .ref ((ba 1))) (C := RX3) (T := TX3) (N := 9) hx hb hts iX3 hown hK.1 hB 0 rfl rfl 6 (by decide) (hts _ q_318) (fun _ h9 => h9) rfl dX7_count_84 ?_
      refine va_get (D := D) (ci := 5) (v := .int (σ 18 k)) (C := RX4) (T := TX4) (N := 3) hx hb hts iX4 hown hK.1 hB 1 rfl rfl 2 (by decide) (hts _ q_65) (fun _ h9 => h9) rfl dX7_count_87 ?_
      exact ro_iret (v := σ 18 k) hx hb hr hH hlocks dX7_count_90 (by unfold oCount; simp only [eq_false c1, eq_false c2, eq_false c3, eq_true c6, eq_false c21, not_true, not_false_iff, not_true_eq_false, not_false_eq_true, true_or, or_true, false_or, or_false, or_self, and_self, true_and, and_true, false_and, and_false, if_true, if_false]; try rfl)
  by_cases c7 : what = 4
  · -- case 4
    refine lv_tableIn (tgt := 91) hx hb dX7_count_1 (by rw [c7]; decide) (by rw [c7]; decide) (by rw [c7]; rfl) (by decide) ?_
    refine lv_aload_n hx hb dX7_count_91 rfl (lv_at hl 0 rfl) ?_
    refine va_get (D := D) (ci := 7) (v := .ref ((ca 7))) (C := RX7) (T := TX7) (N := 11) hx hb hts iX7 hown hK.1 hP 0 rfl rfl 4 (by decide) (hts _ q_77) (fun _ h9 => h9) rfl dX7_count_92 ?_
    refine va_get (D := D) (ci := 5) (v := .int (σ 22 0)) (C := RX4) (T := TX4) (N := 3) hx hb hts iX4 hown hK.1 hP 7 rfl rfl 2 (by decide) (hts _ q_65) (fun _ h9 => h9) rfl dX7_count_95 ?_
    exact ro_iret (v := σ 22 0) hx hb hr hH hlocks dX7_count_98 (by unfold oCount; simp only [eq_false c1, eq_false c2, eq_false c3, eq_false c6, eq_true c7, not_true, not_false_iff, not_true_eq_false, not_false_eq_true, true_or, or_true, false_or, or_false, or_self, and_self, true_and, and_true, false_and, and_false, if_true, if_false]; try rfl)
  by_cases c8 : what = 5
  · -- case 5
    refine lv_tableIn (tgt := 99) hx hb dX7_count_1 (by rw [c8]; decide) (by rw [c8]; decide) (by rw [c8]; rfl) (by decide) ?_
    refine lv_aload_n hx hb dX7_count_99 rfl (lv_at hl 0 rfl) ?_
    refine va_get (D := D) (ci := 7) (v := .int (σ 26 0)) (C := RX7) (T := TX7) (N := 11) hx hb hts iX7 hown hK.1 hP 0 rfl rfl 7 (by decide) (hts _ q_80) (fun _ h9 => h9) rfl dX7_count_100 ?_
    exact ro_iret (v := σ 26 0) hx hb hr hH hlocks dX7_count_103 (by unfold oCount; simp only [eq_false c1, eq_false c2, eq_false c3, eq_false c6, eq_false c7, eq_true c8, not_true, not_false_iff, not_true_eq_false, not_false_eq_true, true_or, or_true, false_or, or_false, or_self, and_self, true_and, and_true, false_and, and_false, if_true, if_false]; try rfl)
  refine lv_tableOut (tgt := 104) hx hb dX7_count_1 (by simp only [i_eq, Int32.reduceToInt] at c1 c2 c3 c6 c7 c8; omega) (by decide) ?_
  refine lv_bipush (v := -13) hx hb dX7_count_104 (by decide) ?_
  exact ro_iret (v := (-13)) hx hb hr hH hlocks dX7_count_106 (by unfold oCount; simp only [eq_false c1, eq_false c2, eq_false c3, eq_false c6, eq_false c7, eq_false c8, not_true, not_false_iff, not_true_eq_false, not_false_eq_true, true_or, or_true, false_or, or_false, or_self, and_self, true_and, and_true, false_and, and_false, if_true, if_false]; try rfl)
set_option maxHeartbeats 4000000 in
set_option maxRecDepth 100000 in
theorem c_broken (l : Launch) (D : va_G) (G : Nat → ClassId) (H : Heap) (ca : Nat → Nat) (bg : Value) (ea : Nat → Nat → Nat) (n k w0 : Nat) (σ x : MS) (κ : Nat → Int64) (hP : va_P D vwCl (cF G ca bg (enF ea k) σ x) H) (hE : ∀ e, e < k → va_P D vwCl (eW G (ea e) σ κ e) H) (hI : cI σ x n k w0) (rr : Int32) (τ : Nat → Int64) : Met l yX7_broken (ww yX7_broken cX7_broken 2 (some .int)) (rmD 1) (roP D G H [.ref ((ca 0)), .int rr]) (vp_Si (fun r => r = (oBroken σ τ rr).1)) 0 0 (fun _ => False) := by
  refine Met.ofW (cc := cX7_broken) (maxL := 2) (ret := (some .int)) (by decide) rfl ?_
  intro p e s m args below meth c s₁ B hml hv
  obtain ⟨rfl, hH, hK⟩ := hv
  have hx := B.exec
  have hb := B.bytes
  have hr := B.returns
  have hts : ∀ w ∈ TT, w.before _ s = true := fun w h => atoms_spec (ws := ww yX7_broken cX7_broken 2 (some .int)) B.pre w (List.mem_cons_of_mem _ h)
  have hown : s.vm.findClass RX7 = some m.cls := findClass_of_methodNamed B.named
  have hlocks := B.notSynchronized
  rw [hH]
  have hI0 := hI
  obtain ⟨h1, hn, h7, hk60, h22, hw, hab, hfa, hmi, hak, hrf⟩ := hI
  have hl := lv_entry ([.ref ((ca 0)), .int rr]) (n := 2) (Nat.le_of_ble_eq_true rfl)
  rw [lg_entry_eq]
  generalize (lg_sl ([.ref ((ca 0)), .int rr]) ++ List.replicate (2 - (lg_sl ([.ref ((ca 0)), .int rr])).length) Slot.unset).toArray = ls at hl ⊢
  have hl : lv_has ls 2 [(0, .ref ((ca 0))), (1, .int rr)] := hl
  refine lv_iload_n hx hb dX7_broken_0 rfl (lv_at hl 1 rfl) ?_
  refine lv_iconst (v := 1) hx hb dX7_broken_1 (by decide) ?_
  refine lv_icmp_lt (tgt := 20) hx hb dX7_broken_2 (by decide) (fun c1 => ?_) (fun c1 => ?_)
  · -- 2 taken
    refine lv_bipush (v := -13) hx hb dX7_broken_20 (by decide) ?_
    exact ro_iret (v := (-13)) hx hb hr hH hlocks dX7_broken_22 (by unfold oBroken; rw [if_pos (fun h9 => by simp only [i_le, i_lt, Int32.reduceToInt] at c1 h9; omega)])
  · -- 2 not
    refine lv_iload_n hx hb dX7_broken_5 rfl (lv_at hl 1 rfl) ?_
    refine lv_bipush (v := 25) hx hb dX7_broken_6 (by decide) ?_
    refine lv_icmp_gt (tgt := 20) hx hb dX7_broken_8 (by decide) (fun c2 => ?_) (fun c2 => ?_)
    · -- 8 taken
      refine lv_bipush (v := -13) hx hb dX7_broken_20 (by decide) ?_
      exact ro_iret (v := (-13)) hx hb hr hH hlocks dX7_broken_22 (by unfold oBroken; rw [if_pos (fun h9 => by simp only [i_le, i_lt, Int32.reduceToInt] at c1 c2 h9; omega)])
    · -- 8 not
      have hbr : 1 ≤ rr ∧ rr ≤ 25 := by simp only [i_le, i_lt, Int32.reduceToInt] at c1 c2 ⊢; omega
      obtain ⟨j1, h_j1, rfl⟩ := iN_ex hbr
      refine lv_aload_n hx hb dX7_broken_11 rfl (lv_at hl 0 rfl) ?_
      refine va_get (D := D) (ci := 7) (v := .ref ((ca 10))) (C := RX7) (T := TX7) (N := 11) hx hb hts iX7 hown hK.1 hP 0 rfl rfl 6 (by decide) (hts _ q_79) (fun _ h9 => h9) rfl dX7_broken_12 ?_
      refine lv_iload_n hx hb dX7_broken_15 rfl (lv_at hl 1 rfl) ?_
      refine iald_n (f := σ 27) hx hb hK.1 hP 10 0 rfl rfl (j1) rfl (by omega) (by decide) dX7_broken_16 ?_
      refine lv_goto (tgt := 22) hx hb dX7_broken_17 (by decide) ?_
      exact ro_iret (v := σ 27 j1) hx hb hr hH hlocks dX7_broken_22 (by unfold oBroken; rw [if_neg (fun h9 => h9 hbr), nI_clamp (by omega)])
