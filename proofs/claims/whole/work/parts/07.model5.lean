theorem dX8_way_0 : decode cX8_way 0 = .ok (.aload_n 0, 1) := by decide +kernel
theorem dX8_way_1 : decode cX8_way 1 = .ok (.iconst 0, 1) := by decide +kernel
theorem dX8_way_2 : decode cX8_way 2 = .ok (.putfield 90, 3) := by decide +kernel
theorem dX8_way_5 : decode cX8_way 5 = .ok (.aload_n 0, 1) := by decide +kernel
theorem q_704 : Cond.fieldLink "FieldMemberModel" 227 "FieldMemberModel" "way" "I" ∈ TT := tt_t (i := 704) (by decide +kernel) (by decide +kernel)
theorem dX8_way_6 : decode cX8_way 6 = .ok (.getfield 227, 3) := by decide +kernel
theorem dX8_way_9 : decode cX8_way 9 = .ok (.ireturn, 1) := by decide +kernel
theorem dX8_below_0 : decode cX8_below 0 = .ok (.aload_n 0, 1) := by decide +kernel
theorem dX8_below_1 : decode cX8_below 1 = .ok (.iconst 0, 1) := by decide +kernel
theorem dX8_below_2 : decode cX8_below 2 = .ok (.putfield 90, 3) := by decide +kernel
theorem dX8_below_5 : decode cX8_below 5 = .ok (.aload_n 0, 1) := by decide +kernel
theorem dX8_below_6 : decode cX8_below 6 = .ok (.iload_n 1, 1) := by decide +kernel
theorem dX8_below_7 : decode cX8_below 7 = .ok (.invokevirtual 104, 3) := by decide +kernel
theorem dX8_below_10 : decode cX8_below 10 = .ok (.ifCond .eq 11, 3) := by decide +kernel
theorem dX8_below_21 : decode cX8_below 21 = .ok (.bipush (-11), 2) := by decide +kernel
theorem dX8_below_23 : decode cX8_below 23 = .ok (.goto 17, 3) := by decide +kernel
theorem dX8_below_40 : decode cX8_below 40 = .ok (.ireturn, 1) := by decide +kernel
theorem dX8_below_13 : decode cX8_below 13 = .ok (.aload_n 0, 1) := by decide +kernel
theorem dX8_below_14 : decode cX8_below 14 = .ok (.iload_n 2, 1) := by decide +kernel
theorem dX8_below_15 : decode cX8_below 15 = .ok (.invokevirtual 104, 3) := by decide +kernel
theorem dX8_below_18 : decode cX8_below 18 = .ok (.ifCond .ne 8, 3) := by decide +kernel
theorem dX8_below_26 : decode cX8_below 26 = .ok (.aload_n 0, 1) := by decide +kernel
theorem dX8_below_27 : decode cX8_below 27 = .ok (.iload_n 1, 1) := by decide +kernel
theorem dX8_below_28 : decode cX8_below 28 = .ok (.iload_n 2, 1) := by decide +kernel
theorem dX8_below_29 : decode cX8_below 29 = .ok (.invokevirtual 126, 3) := by decide +kernel
theorem dX8_below_32 : decode cX8_below 32 = .ok (.ifCond .eq 7, 3) := by decide +kernel
theorem dX8_below_39 : decode cX8_below 39 = .ok (.iconst 0, 1) := by decide +kernel
theorem dX8_below_35 : decode cX8_below 35 = .ok (.iconst 1, 1) := by decide +kernel
theorem dX8_below_36 : decode cX8_below 36 = .ok (.goto 4, 3) := by decide +kernel
theorem dX8_lays_0 : decode cX8_lays 0 = .ok (.aload_n 0, 1) := by decide +kernel
theorem dX8_lays_1 : decode cX8_lays 1 = .ok (.getfield 29, 3) := by decide +kernel
theorem dX8_lays_4 : decode cX8_lays 4 = .ok (.aload_n 0, 1) := by decide +kernel
theorem dX8_lays_5 : decode cX8_lays 5 = .ok (.getfield 119, 3) := by decide +kernel
theorem dX8_lays_8 : decode cX8_lays 8 = .ok (.iload_n 1, 1) := by decide +kernel
theorem dX8_lays_9 : decode cX8_lays 9 = .ok (.iastore, 1) := by decide +kernel
theorem dX8_lays_10 : decode cX8_lays 10 = .ok (.aload_n 0, 1) := by decide +kernel
theorem dX8_lays_11 : decode cX8_lays 11 = .ok (.getfield 32, 3) := by decide +kernel
theorem dX8_lays_14 : decode cX8_lays 14 = .ok (.aload_n 0, 1) := by decide +kernel
theorem dX8_lays_15 : decode cX8_lays 15 = .ok (.getfield 119, 3) := by decide +kernel
theorem dX8_lays_18 : decode cX8_lays 18 = .ok (.iload_n 2, 1) := by decide +kernel
theorem dX8_lays_19 : decode cX8_lays 19 = .ok (.iastore, 1) := by decide +kernel
theorem dX8_lays_20 : decode cX8_lays 20 = .ok (.aload_n 0, 1) := by decide +kernel
theorem dX8_lays_21 : decode cX8_lays 21 = .ok (.getfield 35, 3) := by decide +kernel
theorem dX8_lays_24 : decode cX8_lays 24 = .ok (.aload_n 0, 1) := by decide +kernel
theorem dX8_lays_25 : decode cX8_lays 25 = .ok (.getfield 119, 3) := by decide +kernel
theorem dX8_lays_28 : decode cX8_lays 28 = .ok (.iload_n 3, 1) := by decide +kernel
theorem dX8_lays_29 : decode cX8_lays 29 = .ok (.iastore, 1) := by decide +kernel
theorem dX8_lays_30 : decode cX8_lays 30 = .ok (.aload_n 0, 1) := by decide +kernel
theorem dX8_lays_31 : decode cX8_lays 31 = .ok (.getfield 38, 3) := by decide +kernel
theorem dX8_lays_34 : decode cX8_lays 34 = .ok (.aload_n 0, 1) := by decide +kernel
theorem dX8_lays_35 : decode cX8_lays 35 = .ok (.getfield 119, 3) := by decide +kernel
theorem dX8_lays_38 : decode cX8_lays 38 = .ok (.iload 4, 2) := by decide +kernel
theorem dX8_lays_40 : decode cX8_lays 40 = .ok (.iastore, 1) := by decide +kernel
theorem dX8_lays_41 : decode cX8_lays 41 = .ok (.aload_n 0, 1) := by decide +kernel
theorem dX8_lays_42 : decode cX8_lays 42 = .ok (.getfield 41, 3) := by decide +kernel
theorem dX8_lays_45 : decode cX8_lays 45 = .ok (.aload_n 0, 1) := by decide +kernel
theorem dX8_lays_46 : decode cX8_lays 46 = .ok (.getfield 119, 3) := by decide +kernel
theorem dX8_lays_49 : decode cX8_lays 49 = .ok (.iload 5, 2) := by decide +kernel
theorem dX8_lays_51 : decode cX8_lays 51 = .ok (.iastore, 1) := by decide +kernel
theorem dX8_lays_52 : decode cX8_lays 52 = .ok (.return_, 1) := by decide +kernel
theorem dX8_field_0 : decode cX8_field 0 = .ok (.aload_n 0, 1) := by decide +kernel
theorem dX8_field_1 : decode cX8_field 1 = .ok (.iconst 0, 1) := by decide +kernel
theorem dX8_field_2 : decode cX8_field 2 = .ok (.putfield 90, 3) := by decide +kernel
theorem dX8_field_5 : decode cX8_field 5 = .ok (.aload_n 0, 1) := by decide +kernel
theorem dX8_field_6 : decode cX8_field 6 = .ok (.iload_n 1, 1) := by decide +kernel
theorem dX8_field_7 : decode cX8_field 7 = .ok (.iload_n 2, 1) := by decide +kernel
theorem dX8_field_8 : decode cX8_field 8 = .ok (.iload_n 3, 1) := by decide +kernel
theorem dX8_field_9 : decode cX8_field 9 = .ok (.iload 4, 2) := by decide +kernel
theorem dX8_field_11 : decode cX8_field 11 = .ok (.iload 5, 2) := by decide +kernel
theorem q_823 : Cond.methodLink "FieldMemberModel" 133 ⟨"FieldMemberModel", "refusal", "(IIIII)I"⟩ ∈ TT := tt_t (i := 823) (by decide +kernel) (by decide +kernel)
theorem q_826 : Cond.code ⟨"FieldMemberModel", "refusal", "(IIIII)I"⟩ prog_10_method_15_code 6 (some .int) ∈ TT := tt_t (i := 826) (by decide +kernel) (by decide +kernel)
theorem q_825 : Cond.instanceMethod ⟨"FieldMemberModel", "refusal", "(IIIII)I"⟩ ∈ TT := tt_t (i := 825) (by decide +kernel) (by decide +kernel)
theorem qs_36 : Cond.selects "FieldMemberModel" ⟨"FieldMemberModel", "refusal", "(IIIII)I"⟩ ⟨"FieldMemberModel", "refusal", "(IIIII)I"⟩ ∈ TT := tt_s (i := 36) (by decide +kernel) (by decide +kernel)
theorem gV_X8_X8_refusal : GoodIn TT (wsV RX8 133 RX8 yX8_refusal (ww yX8_refusal cX8_refusal 6 (some .int))) := tt_V q_823 q_825 qs_36 q_4 q_826
theorem hdV_X8_refusal : yX8_refusal.cls = RX8 ∧ yX8_refusal.cls ≠ "java/lang/invoke/MethodHandle" ∧ yX8_refusal.cls ≠ "java/lang/invoke/VarHandle" ∧ (parseMethodDescriptor yX8_refusal.desc).map (fun d => d.parameters.length) = some 5 := by decide +kernel
theorem dX8_field_13 : decode cX8_field 13 = .ok (.invokevirtual 133, 3) := by decide +kernel
theorem dX8_field_16 : decode cX8_field 16 = .ok (.istore 6, 2) := by decide +kernel
theorem dX8_field_18 : decode cX8_field 18 = .ok (.iload 6, 2) := by decide +kernel
theorem dX8_field_20 : decode cX8_field 20 = .ok (.ifCond .ge 6, 3) := by decide +kernel
theorem dX8_field_26 : decode cX8_field 26 = .ok (.aload_n 0, 1) := by decide +kernel
theorem dX8_field_27 : decode cX8_field 27 = .ok (.iload_n 1, 1) := by decide +kernel
theorem dX8_field_28 : decode cX8_field 28 = .ok (.iload_n 2, 1) := by decide +kernel
theorem dX8_field_29 : decode cX8_field 29 = .ok (.iload_n 3, 1) := by decide +kernel
theorem dX8_field_30 : decode cX8_field 30 = .ok (.iload 5, 2) := by decide +kernel
theorem q_831 : Cond.methodLink "FieldMemberModel" 137 ⟨"FieldMemberModel", "ruleOfField", "(IIII)I"⟩ ∈ TT := tt_t (i := 831) (by decide +kernel) (by decide +kernel)
theorem q_834 : Cond.code ⟨"FieldMemberModel", "ruleOfField", "(IIII)I"⟩ prog_10_method_17_code 5 (some .int) ∈ TT := tt_t (i := 834) (by decide +kernel) (by decide +kernel)
theorem q_833 : Cond.instanceMethod ⟨"FieldMemberModel", "ruleOfField", "(IIII)I"⟩ ∈ TT := tt_t (i := 833) (by decide +kernel) (by decide +kernel)
theorem qs_38 : Cond.selects "FieldMemberModel" ⟨"FieldMemberModel", "ruleOfField", "(IIII)I"⟩ ⟨"FieldMemberModel", "ruleOfField", "(IIII)I"⟩ ∈ TT := tt_s (i := 38) (by decide +kernel) (by decide +kernel)
theorem gV_X8_X8_ruleOfField : GoodIn TT (wsV RX8 137 RX8 yX8_ruleOfField (ww yX8_ruleOfField cX8_ruleOfField 5 (some .int))) := tt_V q_831 q_833 qs_38 q_4 q_834
theorem hdV_X8_ruleOfField : yX8_ruleOfField.cls = RX8 ∧ yX8_ruleOfField.cls ≠ "java/lang/invoke/MethodHandle" ∧ yX8_ruleOfField.cls ≠ "java/lang/invoke/VarHandle" ∧ (parseMethodDescriptor yX8_ruleOfField.desc).map (fun d => d.parameters.length) = some 4 := by decide +kernel
theorem dX8_field_32 : decode cX8_field 32 = .ok (.invokevirtual 137, 3) := by decide +kernel
theorem dX8_field_35 : decode cX8_field 35 = .ok (.istore 7, 2) := by decide +kernel
theorem dX8_field_37 : decode cX8_field 37 = .ok (.iload 7, 2) := by decide +kernel
theorem dX8_field_39 : decode cX8_field 39 = .ok (.ifCond .le 10, 3) := by decide +kernel
theorem dX8_field_49 : decode cX8_field 49 = .ok (.aload_n 0, 1) := by decide +kernel
theorem dX8_field_50 : decode cX8_field 50 = .ok (.iload_n 1, 1) := by decide +kernel
theorem dX8_field_51 : decode cX8_field 51 = .ok (.iload_n 2, 1) := by decide +kernel
theorem dX8_field_52 : decode cX8_field 52 = .ok (.iload_n 3, 1) := by decide +kernel
theorem dX8_field_53 : decode cX8_field 53 = .ok (.iload 4, 2) := by decide +kernel
theorem dX8_field_55 : decode cX8_field 55 = .ok (.aload_n 0, 1) := by decide +kernel
theorem dX8_field_56 : decode cX8_field 56 = .ok (.iload_n 1, 1) := by decide +kernel
theorem dX8_field_57 : decode cX8_field 57 = .ok (.invokevirtual 116, 3) := by decide +kernel
theorem dX8_field_60 : decode cX8_field 60 = .ok (.ifCond .eq 16, 3) := by decide +kernel
theorem dX8_field_76 : decode cX8_field 76 = .ok (.iload 5, 2) := by decide +kernel
theorem q_846 : Cond.methodLink "FieldMemberModel" 145 ⟨"FieldMemberModel", "lays", "(IIIII)V"⟩ ∈ TT := tt_t (i := 846) (by decide +kernel) (by decide +kernel)
theorem q_849 : Cond.code ⟨"FieldMemberModel", "lays", "(IIIII)V"⟩ prog_10_method_19_code 6 none ∈ TT := tt_t (i := 849) (by decide +kernel) (by decide +kernel)
theorem q_848 : Cond.instanceMethod ⟨"FieldMemberModel", "lays", "(IIIII)V"⟩ ∈ TT := tt_t (i := 848) (by decide +kernel) (by decide +kernel)
theorem qs_41 : Cond.selects "FieldMemberModel" ⟨"FieldMemberModel", "lays", "(IIIII)V"⟩ ⟨"FieldMemberModel", "lays", "(IIIII)V"⟩ ∈ TT := tt_s (i := 41) (by decide +kernel) (by decide +kernel)
theorem gV_X8_X8_lays : GoodIn TT (wsV RX8 145 RX8 yX8_lays (ww yX8_lays cX8_lays 6 none)) := tt_V q_846 q_848 qs_41 q_4 q_849
theorem hdV_X8_lays : yX8_lays.cls = RX8 ∧ yX8_lays.cls ≠ "java/lang/invoke/MethodHandle" ∧ yX8_lays.cls ≠ "java/lang/invoke/VarHandle" ∧ (parseMethodDescriptor yX8_lays.desc).map (fun d => d.parameters.length) = some 5 := by decide +kernel
theorem dX8_field_78 : decode cX8_field 78 = .ok (.invokevirtual 145, 3) := by decide +kernel
theorem dX8_field_81 : decode cX8_field 81 = .ok (.aload_n 0, 1) := by decide +kernel
theorem dX8_field_82 : decode cX8_field 82 = .ok (.getfield 26, 3) := by decide +kernel
theorem dX8_field_85 : decode cX8_field 85 = .ok (.aload_n 0, 1) := by decide +kernel
theorem dX8_field_86 : decode cX8_field 86 = .ok (.getfield 119, 3) := by decide +kernel
theorem dX8_field_89 : decode cX8_field 89 = .ok (.iconst 0, 1) := by decide +kernel
theorem dX8_field_90 : decode cX8_field 90 = .ok (.bastore, 1) := by decide +kernel
theorem dX8_field_91 : decode cX8_field 91 = .ok (.aload_n 0, 1) := by decide +kernel
theorem q_693 : Cond.fieldLink "FieldMemberModel" 44 "FieldMemberModel" "isTold" "[Z" ∈ TT := tt_t (i := 693) (by decide +kernel) (by decide +kernel)
theorem dX8_field_92 : decode cX8_field 92 = .ok (.getfield 44, 3) := by decide +kernel
theorem dX8_field_95 : decode cX8_field 95 = .ok (.aload_n 0, 1) := by decide +kernel
theorem dX8_field_96 : decode cX8_field 96 = .ok (.getfield 119, 3) := by decide +kernel
theorem dX8_field_99 : decode cX8_field 99 = .ok (.iconst 0, 1) := by decide +kernel
theorem dX8_field_100 : decode cX8_field 100 = .ok (.bastore, 1) := by decide +kernel
theorem dX8_field_101 : decode cX8_field 101 = .ok (.aload_n 0, 1) := by decide +kernel
theorem dX8_field_102 : decode cX8_field 102 = .ok (.dup, 1) := by decide +kernel
theorem dX8_field_103 : decode cX8_field 103 = .ok (.getfield 119, 3) := by decide +kernel
theorem dX8_field_106 : decode cX8_field 106 = .ok (.iconst 1, 1) := by decide +kernel
theorem dX8_field_107 : decode cX8_field 107 = .ok (.iadd, 1) := by decide +kernel
theorem dX8_field_108 : decode cX8_field 108 = .ok (.putfield 119, 3) := by decide +kernel
theorem dX8_field_111 : decode cX8_field 111 = .ok (.aload_n 0, 1) := by decide +kernel
theorem dX8_field_112 : decode cX8_field 112 = .ok (.getfield 119, 3) := by decide +kernel
theorem dX8_field_115 : decode cX8_field 115 = .ok (.iconst 1, 1) := by decide +kernel
theorem dX8_field_116 : decode cX8_field 116 = .ok (.isub, 1) := by decide +kernel
theorem dX8_field_117 : decode cX8_field 117 = .ok (.ireturn, 1) := by decide +kernel
theorem dX8_field_63 : decode cX8_field 63 = .ok (.iload 5, 2) := by decide +kernel
theorem dX8_field_65 : decode cX8_field 65 = .ok (.iconst 1, 1) := by decide +kernel
theorem dX8_field_66 : decode cX8_field 66 = .ok (.ior, 1) := by decide +kernel
theorem dX8_field_67 : decode cX8_field 67 = .ok (.bipush 8, 2) := by decide +kernel
theorem dX8_field_69 : decode cX8_field 69 = .ok (.ior, 1) := by decide +kernel
theorem dX8_field_70 : decode cX8_field 70 = .ok (.bipush 16, 2) := by decide +kernel
theorem dX8_field_72 : decode cX8_field 72 = .ok (.ior, 1) := by decide +kernel
theorem dX8_field_73 : decode cX8_field 73 = .ok (.goto 5, 3) := by decide +kernel
theorem dX8_field_42 : decode cX8_field 42 = .ok (.aload_n 0, 1) := by decide +kernel
theorem dX8_field_43 : decode cX8_field 43 = .ok (.iload 7, 2) := by decide +kernel
theorem q_842 : Cond.methodLink "FieldMemberModel" 141 ⟨"FieldMemberModel", "breaks", "(I)I"⟩ ∈ TT := tt_t (i := 842) (by decide +kernel) (by decide +kernel)
theorem q_845 : Cond.code ⟨"FieldMemberModel", "breaks", "(I)I"⟩ prog_10_method_6_code 2 (some .int) ∈ TT := tt_t (i := 845) (by decide +kernel) (by decide +kernel)
theorem q_844 : Cond.instanceMethod ⟨"FieldMemberModel", "breaks", "(I)I"⟩ ∈ TT := tt_t (i := 844) (by decide +kernel) (by decide +kernel)
theorem qs_40 : Cond.selects "FieldMemberModel" ⟨"FieldMemberModel", "breaks", "(I)I"⟩ ⟨"FieldMemberModel", "breaks", "(I)I"⟩ ∈ TT := tt_s (i := 40) (by decide +kernel) (by decide +kernel)
theorem gV_X8_X8_breaks : GoodIn TT (wsV RX8 141 RX8 yX8_breaks (ww yX8_breaks cX8_breaks 2 (some .int))) := tt_V q_842 q_844 qs_40 q_4 q_845
theorem hdV_X8_breaks : yX8_breaks.cls = RX8 ∧ yX8_breaks.cls ≠ "java/lang/invoke/MethodHandle" ∧ yX8_breaks.cls ≠ "java/lang/invoke/VarHandle" ∧ (parseMethodDescriptor yX8_breaks.desc).map (fun d => d.parameters.length) = some 1 := by decide +kernel
theorem dX8_field_45 : decode cX8_field 45 = .ok (.invokevirtual 141, 3) := by decide +kernel
theorem dX8_field_48 : decode cX8_field 48 = .ok (.ireturn, 1) := by decide +kernel
theorem dX8_field_23 : decode cX8_field 23 = .ok (.iload 6, 2) := by decide +kernel
theorem dX8_field_25 : decode cX8_field 25 = .ok (.ireturn, 1) := by decide +kernel
theorem dX8_member_0 : decode cX8_member 0 = .ok (.aload_n 0, 1) := by decide +kernel
theorem dX8_member_1 : decode cX8_member 1 = .ok (.iconst 0, 1) := by decide +kernel
theorem dX8_member_2 : decode cX8_member 2 = .ok (.putfield 90, 3) := by decide +kernel
theorem dX8_member_5 : decode cX8_member 5 = .ok (.aload_n 0, 1) := by decide +kernel
theorem dX8_member_6 : decode cX8_member 6 = .ok (.iload_n 1, 1) := by decide +kernel
theorem dX8_member_7 : decode cX8_member 7 = .ok (.iload_n 2, 1) := by decide +kernel
theorem dX8_member_8 : decode cX8_member 8 = .ok (.iload_n 3, 1) := by decide +kernel
theorem dX8_member_9 : decode cX8_member 9 = .ok (.iload 4, 2) := by decide +kernel
theorem dX8_member_11 : decode cX8_member 11 = .ok (.iload 5, 2) := by decide +kernel
theorem dX8_member_13 : decode cX8_member 13 = .ok (.invokevirtual 133, 3) := by decide +kernel
theorem dX8_member_16 : decode cX8_member 16 = .ok (.istore 7, 2) := by decide +kernel
theorem dX8_member_18 : decode cX8_member 18 = .ok (.iload 7, 2) := by decide +kernel
theorem dX8_member_20 : decode cX8_member 20 = .ok (.ifCond .ge 6, 3) := by decide +kernel
theorem dX8_member_26 : decode cX8_member 26 = .ok (.aload_n 0, 1) := by decide +kernel
theorem dX8_member_27 : decode cX8_member 27 = .ok (.iload_n 1, 1) := by decide +kernel
theorem dX8_member_28 : decode cX8_member 28 = .ok (.iload 5, 2) := by decide +kernel
theorem dX8_member_30 : decode cX8_member 30 = .ok (.iload 6, 2) := by decide +kernel
theorem q_886 : Cond.methodLink "FieldMemberModel" 171 ⟨"FieldMemberModel", "ruleOfMember", "(IIZ)I"⟩ ∈ TT := tt_t (i := 886) (by decide +kernel) (by decide +kernel)
theorem q_889 : Cond.code ⟨"FieldMemberModel", "ruleOfMember", "(IIZ)I"⟩ prog_10_method_24_code 8 (some .int) ∈ TT := tt_t (i := 889) (by decide +kernel) (by decide +kernel)
theorem q_888 : Cond.instanceMethod ⟨"FieldMemberModel", "ruleOfMember", "(IIZ)I"⟩ ∈ TT := tt_t (i := 888) (by decide +kernel) (by decide +kernel)
theorem qs_43 : Cond.selects "FieldMemberModel" ⟨"FieldMemberModel", "ruleOfMember", "(IIZ)I"⟩ ⟨"FieldMemberModel", "ruleOfMember", "(IIZ)I"⟩ ∈ TT := tt_s (i := 43) (by decide +kernel) (by decide +kernel)
theorem gV_X8_X8_ruleOfMember : GoodIn TT (wsV RX8 171 RX8 yX8_ruleOfMember (ww yX8_ruleOfMember cX8_ruleOfMember 8 (some .int))) := tt_V q_886 q_888 qs_43 q_4 q_889
theorem hdV_X8_ruleOfMember : yX8_ruleOfMember.cls = RX8 ∧ yX8_ruleOfMember.cls ≠ "java/lang/invoke/MethodHandle" ∧ yX8_ruleOfMember.cls ≠ "java/lang/invoke/VarHandle" ∧ (parseMethodDescriptor yX8_ruleOfMember.desc).map (fun d => d.parameters.length) = some 3 := by decide +kernel
theorem dX8_member_32 : decode cX8_member 32 = .ok (.invokevirtual 171, 3) := by decide +kernel
theorem dX8_member_35 : decode cX8_member 35 = .ok (.istore 8, 2) := by decide +kernel
theorem dX8_member_37 : decode cX8_member 37 = .ok (.iload 8, 2) := by decide +kernel
theorem dX8_member_39 : decode cX8_member 39 = .ok (.ifCond .le 10, 3) := by decide +kernel
theorem dX8_member_49 : decode cX8_member 49 = .ok (.iload 5, 2) := by decide +kernel
theorem dX8_member_51 : decode cX8_member 51 = .ok (.istore 9, 2) := by decide +kernel
theorem dX8_member_53 : decode cX8_member 53 = .ok (.aload_n 0, 1) := by decide +kernel
theorem dX8_member_54 : decode cX8_member 54 = .ok (.iload_n 1, 1) := by decide +kernel
theorem dX8_member_55 : decode cX8_member 55 = .ok (.invokevirtual 116, 3) := by decide +kernel
theorem dX8_member_58 : decode cX8_member 58 = .ok (.ifCond .eq 41, 3) := by decide +kernel
theorem dX8_member_99 : decode cX8_member 99 = .ok (.aload_n 0, 1) := by decide +kernel
theorem dX8_member_100 : decode cX8_member 100 = .ok (.iload_n 1, 1) := by decide +kernel
theorem dX8_member_101 : decode cX8_member 101 = .ok (.iload_n 2, 1) := by decide +kernel
theorem dX8_member_102 : decode cX8_member 102 = .ok (.iload_n 3, 1) := by decide +kernel
theorem dX8_member_103 : decode cX8_member 103 = .ok (.iload 4, 2) := by decide +kernel
theorem dX8_member_105 : decode cX8_member 105 = .ok (.iload 9, 2) := by decide +kernel
theorem dX8_member_107 : decode cX8_member 107 = .ok (.invokevirtual 145, 3) := by decide +kernel
theorem dX8_member_110 : decode cX8_member 110 = .ok (.aload_n 0, 1) := by decide +kernel
theorem dX8_member_111 : decode cX8_member 111 = .ok (.getfield 51, 3) := by decide +kernel
theorem dX8_member_114 : decode cX8_member 114 = .ok (.aload_n 0, 1) := by decide +kernel
theorem dX8_member_115 : decode cX8_member 115 = .ok (.getfield 119, 3) := by decide +kernel
theorem dX8_member_118 : decode cX8_member 118 = .ok (.iload 6, 2) := by decide +kernel
theorem dX8_member_120 : decode cX8_member 120 = .ok (.bastore, 1) := by decide +kernel
theorem dX8_member_121 : decode cX8_member 121 = .ok (.aload_n 0, 1) := by decide +kernel
theorem dX8_member_122 : decode cX8_member 122 = .ok (.getfield 54, 3) := by decide +kernel
theorem dX8_member_125 : decode cX8_member 125 = .ok (.aload_n 0, 1) := by decide +kernel
theorem dX8_member_126 : decode cX8_member 126 = .ok (.getfield 119, 3) := by decide +kernel
theorem dX8_member_129 : decode cX8_member 129 = .ok (.iconst 0, 1) := by decide +kernel
theorem dX8_member_130 : decode cX8_member 130 = .ok (.bastore, 1) := by decide +kernel
theorem dX8_member_131 : decode cX8_member 131 = .ok (.aload_n 0, 1) := by decide +kernel
theorem dX8_member_132 : decode cX8_member 132 = .ok (.getfield 57, 3) := by decide +kernel
theorem dX8_member_135 : decode cX8_member 135 = .ok (.aload_n 0, 1) := by decide +kernel
theorem dX8_member_136 : decode cX8_member 136 = .ok (.getfield 119, 3) := by decide +kernel
theorem dX8_member_139 : decode cX8_member 139 = .ok (.iconst 0, 1) := by decide +kernel
theorem dX8_member_140 : decode cX8_member 140 = .ok (.iastore, 1) := by decide +kernel
theorem dX8_member_141 : decode cX8_member 141 = .ok (.aload_n 0, 1) := by decide +kernel
theorem dX8_member_142 : decode cX8_member 142 = .ok (.iconst 1, 1) := by decide +kernel
theorem dX8_member_143 : decode cX8_member 143 = .ok (.putfield 122, 3) := by decide +kernel
theorem dX8_member_146 : decode cX8_member 146 = .ok (.iconst 1, 1) := by decide +kernel
theorem dX8_member_147 : decode cX8_member 147 = .ok (.ireturn, 1) := by decide +kernel
theorem dX8_member_61 : decode cX8_member 61 = .ok (.iload 9, 2) := by decide +kernel
theorem dX8_member_63 : decode cX8_member 63 = .ok (.iload 5, 2) := by decide +kernel
theorem dX8_member_65 : decode cX8_member 65 = .ok (.iconst 4, 1) := by decide +kernel
theorem dX8_member_66 : decode cX8_member 66 = .ok (.iand, 1) := by decide +kernel
theorem dX8_member_67 : decode cX8_member 67 = .ok (.ifCond .ne 7, 3) := by decide +kernel
theorem dX8_member_74 : decode cX8_member 74 = .ok (.iconst 0, 1) := by decide +kernel
theorem dX8_member_75 : decode cX8_member 75 = .ok (.ior, 1) := by decide +kernel
theorem dX8_member_76 : decode cX8_member 76 = .ok (.istore 9, 2) := by decide +kernel
theorem dX8_member_78 : decode cX8_member 78 = .ok (.iload 9, 2) := by decide +kernel
theorem dX8_member_80 : decode cX8_member 80 = .ok (.iload 5, 2) := by decide +kernel
theorem dX8_member_82 : decode cX8_member 82 = .ok (.sipush 1036, 3) := by decide +kernel
theorem dX8_member_85 : decode cX8_member 85 = .ok (.iand, 1) := by decide +kernel
theorem dX8_member_86 : decode cX8_member 86 = .ok (.ifCond .ne 9, 3) := by decide +kernel
theorem dX8_member_95 : decode cX8_member 95 = .ok (.iconst 0, 1) := by decide +kernel
theorem dX8_member_96 : decode cX8_member 96 = .ok (.ior, 1) := by decide +kernel
theorem dX8_member_97 : decode cX8_member 97 = .ok (.istore 9, 2) := by decide +kernel
theorem dX8_member_89 : decode cX8_member 89 = .ok (.sipush 128, 3) := by decide +kernel
theorem dX8_member_92 : decode cX8_member 92 = .ok (.goto 4, 3) := by decide +kernel
theorem dX8_member_70 : decode cX8_member 70 = .ok (.iconst 1, 1) := by decide +kernel
theorem dX8_member_71 : decode cX8_member 71 = .ok (.goto 4, 3) := by decide +kernel
theorem dX8_member_42 : decode cX8_member 42 = .ok (.aload_n 0, 1) := by decide +kernel
theorem dX8_member_43 : decode cX8_member 43 = .ok (.iload 8, 2) := by decide +kernel
theorem dX8_member_45 : decode cX8_member 45 = .ok (.invokevirtual 141, 3) := by decide +kernel
theorem dX8_member_48 : decode cX8_member 48 = .ok (.ireturn, 1) := by decide +kernel
theorem dX8_member_23 : decode cX8_member 23 = .ok (.iload 7, 2) := by decide +kernel
theorem dX8_member_25 : decode cX8_member 25 = .ok (.ireturn, 1) := by decide +kernel
theorem dX8_value_0 : decode cX8_value 0 = .ok (.aload_n 0, 1) := by decide +kernel
theorem dX8_value_1 : decode cX8_value 1 = .ok (.aload_n 0, 1) := by decide +kernel
theorem dX8_value_2 : decode cX8_value 2 = .ok (.iload_n 1, 1) := by decide +kernel
theorem q_854 : Cond.methodLink "FieldMemberModel" 156 ⟨"FieldMemberModel", "isEntry", "(I)Z"⟩ ∈ TT := tt_t (i := 854) (by decide +kernel) (by decide +kernel)
theorem q_857 : Cond.code ⟨"FieldMemberModel", "isEntry", "(I)Z"⟩ prog_10_method_20_code 2 (some .boolean) ∈ TT := tt_t (i := 857) (by decide +kernel) (by decide +kernel)
theorem q_856 : Cond.instanceMethod ⟨"FieldMemberModel", "isEntry", "(I)Z"⟩ ∈ TT := tt_t (i := 856) (by decide +kernel) (by decide +kernel)
theorem qs_42 : Cond.selects "FieldMemberModel" ⟨"FieldMemberModel", "isEntry", "(I)Z"⟩ ⟨"FieldMemberModel", "isEntry", "(I)Z"⟩ ∈ TT := tt_s (i := 42) (by decide +kernel) (by decide +kernel)
theorem gV_X8_X8_isEntry : GoodIn TT (wsV RX8 156 RX8 yX8_isEntry (ww yX8_isEntry cX8_isEntry 2 (some .boolean))) := tt_V q_854 q_856 qs_42 q_4 q_857
theorem hdV_X8_isEntry : yX8_isEntry.cls = RX8 ∧ yX8_isEntry.cls ≠ "java/lang/invoke/MethodHandle" ∧ yX8_isEntry.cls ≠ "java/lang/invoke/VarHandle" ∧ (parseMethodDescriptor yX8_isEntry.desc).map (fun d => d.parameters.length) = some 1 := by decide +kernel
theorem dX8_value_3 : decode cX8_value 3 = .ok (.invokevirtual 156, 3) := by decide +kernel
theorem dX8_value_6 : decode cX8_value 6 = .ok (.ifCond .ne 7, 3) := by decide +kernel
theorem dX8_value_13 : decode cX8_value 13 = .ok (.aload_n 0, 1) := by decide +kernel
theorem dX8_value_14 : decode cX8_value 14 = .ok (.getfield 26, 3) := by decide +kernel
theorem dX8_value_17 : decode cX8_value 17 = .ok (.iload_n 1, 1) := by decide +kernel
theorem dX8_value_18 : decode cX8_value 18 = .ok (.baload, 1) := by decide +kernel
theorem dX8_value_19 : decode cX8_value 19 = .ok (.ifCond .eq 7, 3) := by decide +kernel
theorem dX8_value_26 : decode cX8_value 26 = .ok (.iconst 0, 1) := by decide +kernel
theorem dX8_value_27 : decode cX8_value 27 = .ok (.putfield 90, 3) := by decide +kernel
theorem dX8_value_30 : decode cX8_value 30 = .ok (.aload_n 0, 1) := by decide +kernel
theorem dX8_value_31 : decode cX8_value 31 = .ok (.getfield 90, 3) := by decide +kernel
theorem dX8_value_34 : decode cX8_value 34 = .ok (.ifCond .ne 21, 3) := by decide +kernel
theorem dX8_value_37 : decode cX8_value 37 = .ok (.aload_n 0, 1) := by decide +kernel
theorem dX8_value_38 : decode cX8_value 38 = .ok (.getfield 44, 3) := by decide +kernel
theorem dX8_value_41 : decode cX8_value 41 = .ok (.iload_n 1, 1) := by decide +kernel
theorem dX8_value_42 : decode cX8_value 42 = .ok (.baload, 1) := by decide +kernel
theorem dX8_value_43 : decode cX8_value 43 = .ok (.ifCond .eq 12, 3) := by decide +kernel
theorem dX8_value_55 : decode cX8_value 55 = .ok (.lconst 0, 1) := by decide +kernel
theorem dX8_value_56 : decode cX8_value 56 = .ok (.lreturn, 1) := by decide +kernel
theorem dX8_value_46 : decode cX8_value 46 = .ok (.aload_n 0, 1) := by decide +kernel
theorem q_694 : Cond.fieldLink "FieldMemberModel" 47 "FieldMemberModel" "told" "[J" ∈ TT := tt_t (i := 694) (by decide +kernel) (by decide +kernel)
theorem dX8_value_47 : decode cX8_value 47 = .ok (.getfield 47, 3) := by decide +kernel
theorem dX8_value_50 : decode cX8_value 50 = .ok (.iload_n 1, 1) := by decide +kernel
theorem dX8_value_51 : decode cX8_value 51 = .ok (.laload, 1) := by decide +kernel
theorem dX8_value_52 : decode cX8_value 52 = .ok (.goto 4, 3) := by decide +kernel
theorem dX8_value_22 : decode cX8_value 22 = .ok (.iconst 1, 1) := by decide +kernel
theorem dX8_value_23 : decode cX8_value 23 = .ok (.goto 4, 3) := by decide +kernel
theorem dX8_value_9 : decode cX8_value 9 = .ok (.iconst 2, 1) := by decide +kernel
theorem dX8_value_10 : decode cX8_value 10 = .ok (.goto 17, 3) := by decide +kernel
theorem dX8_entry_0 : decode cX8_entry 0 = .ok (.aload_n 0, 1) := by decide +kernel
theorem dX8_entry_1 : decode cX8_entry 1 = .ok (.iconst 0, 1) := by decide +kernel
theorem dX8_entry_2 : decode cX8_entry 2 = .ok (.putfield 90, 3) := by decide +kernel
theorem dX8_entry_5 : decode cX8_entry 5 = .ok (.aload_n 0, 1) := by decide +kernel
theorem dX8_entry_6 : decode cX8_entry 6 = .ok (.iload_n 1, 1) := by decide +kernel
theorem dX8_entry_7 : decode cX8_entry 7 = .ok (.invokevirtual 156, 3) := by decide +kernel
theorem dX8_entry_10 : decode cX8_entry 10 = .ok (.ifCond .ne 6, 3) := by decide +kernel
theorem dX8_entry_16 : decode cX8_entry 16 = .ok (.iload_n 2, 1) := by decide +kernel
theorem dX8_entry_17 : decode cX8_entry 17 = .ok (.tableswitch 89 0 5 #[39, 54, 61, 68, 75, 82], 39) := by decide +kernel
theorem dX8_entry_56 : decode cX8_entry 56 = .ok (.aload_n 0, 1) := by decide +kernel
theorem dX8_entry_57 : decode cX8_entry 57 = .ok (.getfield 26, 3) := by decide +kernel
theorem dX8_entry_60 : decode cX8_entry 60 = .ok (.iload_n 1, 1) := by decide +kernel
theorem dX8_entry_61 : decode cX8_entry 61 = .ok (.baload, 1) := by decide +kernel
theorem dX8_entry_62 : decode cX8_entry 62 = .ok (.ifCond .eq 7, 3) := by decide +kernel
theorem dX8_entry_69 : decode cX8_entry 69 = .ok (.iconst 0, 1) := by decide +kernel
theorem dX8_entry_70 : decode cX8_entry 70 = .ok (.ireturn, 1) := by decide +kernel
theorem dX8_entry_65 : decode cX8_entry 65 = .ok (.iconst 1, 1) := by decide +kernel
theorem dX8_entry_66 : decode cX8_entry 66 = .ok (.goto 4, 3) := by decide +kernel
theorem dX8_entry_71 : decode cX8_entry 71 = .ok (.aload_n 0, 1) := by decide +kernel
theorem dX8_entry_72 : decode cX8_entry 72 = .ok (.getfield 29, 3) := by decide +kernel
theorem dX8_entry_75 : decode cX8_entry 75 = .ok (.iload_n 1, 1) := by decide +kernel
theorem dX8_entry_76 : decode cX8_entry 76 = .ok (.iaload, 1) := by decide +kernel
theorem dX8_entry_77 : decode cX8_entry 77 = .ok (.ireturn, 1) := by decide +kernel
theorem dX8_entry_78 : decode cX8_entry 78 = .ok (.aload_n 0, 1) := by decide +kernel
theorem dX8_entry_79 : decode cX8_entry 79 = .ok (.getfield 32, 3) := by decide +kernel
theorem dX8_entry_82 : decode cX8_entry 82 = .ok (.iload_n 1, 1) := by decide +kernel
theorem dX8_entry_83 : decode cX8_entry 83 = .ok (.iaload, 1) := by decide +kernel
theorem dX8_entry_84 : decode cX8_entry 84 = .ok (.ireturn, 1) := by decide +kernel
theorem dX8_entry_85 : decode cX8_entry 85 = .ok (.aload_n 0, 1) := by decide +kernel
theorem dX8_entry_86 : decode cX8_entry 86 = .ok (.getfield 35, 3) := by decide +kernel
theorem dX8_entry_89 : decode cX8_entry 89 = .ok (.iload_n 1, 1) := by decide +kernel
theorem dX8_entry_90 : decode cX8_entry 90 = .ok (.iaload, 1) := by decide +kernel
theorem dX8_entry_91 : decode cX8_entry 91 = .ok (.ireturn, 1) := by decide +kernel
theorem dX8_entry_92 : decode cX8_entry 92 = .ok (.aload_n 0, 1) := by decide +kernel
theorem dX8_entry_93 : decode cX8_entry 93 = .ok (.getfield 38, 3) := by decide +kernel
theorem dX8_entry_96 : decode cX8_entry 96 = .ok (.iload_n 1, 1) := by decide +kernel
theorem dX8_entry_97 : decode cX8_entry 97 = .ok (.iaload, 1) := by decide +kernel
theorem dX8_entry_98 : decode cX8_entry 98 = .ok (.ireturn, 1) := by decide +kernel
theorem dX8_entry_99 : decode cX8_entry 99 = .ok (.aload_n 0, 1) := by decide +kernel
theorem dX8_entry_100 : decode cX8_entry 100 = .ok (.getfield 41, 3) := by decide +kernel
theorem dX8_entry_103 : decode cX8_entry 103 = .ok (.iload_n 1, 1) := by decide +kernel
theorem dX8_entry_104 : decode cX8_entry 104 = .ok (.iaload, 1) := by decide +kernel
theorem dX8_entry_105 : decode cX8_entry 105 = .ok (.ireturn, 1) := by decide +kernel
theorem dX8_entry_106 : decode cX8_entry 106 = .ok (.bipush (-13), 2) := by decide +kernel
theorem dX8_entry_108 : decode cX8_entry 108 = .ok (.ireturn, 1) := by decide +kernel
theorem dX8_entry_13 : decode cX8_entry 13 = .ok (.bipush (-11), 2) := by decide +kernel
theorem dX8_entry_15 : decode cX8_entry 15 = .ok (.ireturn, 1) := by decide +kernel
theorem dX8_shape_0 : decode cX8_shape 0 = .ok (.aload_n 0, 1) := by decide +kernel
theorem dX8_shape_1 : decode cX8_shape 1 = .ok (.iconst 0, 1) := by decide +kernel
theorem dX8_shape_2 : decode cX8_shape 2 = .ok (.putfield 90, 3) := by decide +kernel
theorem dX8_shape_5 : decode cX8_shape 5 = .ok (.aload_n 0, 1) := by decide +kernel
theorem dX8_shape_6 : decode cX8_shape 6 = .ok (.iload_n 1, 1) := by decide +kernel
theorem dX8_shape_7 : decode cX8_shape 7 = .ok (.invokevirtual 156, 3) := by decide +kernel
theorem dX8_shape_10 : decode cX8_shape 10 = .ok (.ifCond .ne 6, 3) := by decide +kernel
theorem dX8_shape_16 : decode cX8_shape 16 = .ok (.aload_n 0, 1) := by decide +kernel
theorem dX8_shape_17 : decode cX8_shape 17 = .ok (.getfield 26, 3) := by decide +kernel
theorem dX8_shape_20 : decode cX8_shape 20 = .ok (.iload_n 1, 1) := by decide +kernel
theorem dX8_shape_21 : decode cX8_shape 21 = .ok (.baload, 1) := by decide +kernel
theorem dX8_shape_22 : decode cX8_shape 22 = .ok (.ifCond .ne 6, 3) := by decide +kernel
theorem dX8_shape_28 : decode cX8_shape 28 = .ok (.iload_n 2, 1) := by decide +kernel
theorem dX8_shape_29 : decode cX8_shape 29 = .ok (.tableswitch 75 0 3 #[31, 38, 53, 68], 31) := by decide +kernel
theorem dX8_shape_60 : decode cX8_shape 60 = .ok (.aload_n 0, 1) := by decide +kernel
theorem dX8_shape_61 : decode cX8_shape 61 = .ok (.getfield 57, 3) := by decide +kernel
theorem dX8_shape_64 : decode cX8_shape 64 = .ok (.iload_n 1, 1) := by decide +kernel
theorem dX8_shape_65 : decode cX8_shape 65 = .ok (.iaload, 1) := by decide +kernel
theorem dX8_shape_66 : decode cX8_shape 66 = .ok (.ireturn, 1) := by decide +kernel
theorem dX8_shape_67 : decode cX8_shape 67 = .ok (.aload_n 0, 1) := by decide +kernel
theorem dX8_shape_68 : decode cX8_shape 68 = .ok (.getfield 54, 3) := by decide +kernel
theorem dX8_shape_71 : decode cX8_shape 71 = .ok (.iload_n 1, 1) := by decide +kernel
theorem dX8_shape_72 : decode cX8_shape 72 = .ok (.baload, 1) := by decide +kernel
theorem dX8_shape_73 : decode cX8_shape 73 = .ok (.ifCond .eq 7, 3) := by decide +kernel
theorem dX8_shape_80 : decode cX8_shape 80 = .ok (.iconst 0, 1) := by decide +kernel
theorem dX8_shape_81 : decode cX8_shape 81 = .ok (.ireturn, 1) := by decide +kernel
theorem dX8_shape_76 : decode cX8_shape 76 = .ok (.iconst 1, 1) := by decide +kernel
theorem dX8_shape_77 : decode cX8_shape 77 = .ok (.goto 4, 3) := by decide +kernel
theorem dX8_shape_82 : decode cX8_shape 82 = .ok (.aload_n 0, 1) := by decide +kernel
theorem dX8_shape_83 : decode cX8_shape 83 = .ok (.getfield 51, 3) := by decide +kernel
theorem dX8_shape_86 : decode cX8_shape 86 = .ok (.iload_n 1, 1) := by decide +kernel
theorem dX8_shape_87 : decode cX8_shape 87 = .ok (.baload, 1) := by decide +kernel
theorem dX8_shape_88 : decode cX8_shape 88 = .ok (.ifCond .eq 7, 3) := by decide +kernel
theorem dX8_shape_95 : decode cX8_shape 95 = .ok (.iconst 0, 1) := by decide +kernel
theorem dX8_shape_96 : decode cX8_shape 96 = .ok (.ireturn, 1) := by decide +kernel
theorem dX8_shape_91 : decode cX8_shape 91 = .ok (.iconst 1, 1) := by decide +kernel
theorem dX8_shape_92 : decode cX8_shape 92 = .ok (.goto 4, 3) := by decide +kernel
theorem dX8_shape_97 : decode cX8_shape 97 = .ok (.aload_n 0, 1) := by decide +kernel
theorem q_707 : Cond.fieldLink "FieldMemberModel" 75 "FieldMemberModel" "met" "[I" ∈ TT := tt_t (i := 707) (by decide +kernel) (by decide +kernel)
theorem dX8_shape_98 : decode cX8_shape 98 = .ok (.getfield 75, 3) := by decide +kernel
theorem dX8_shape_101 : decode cX8_shape 101 = .ok (.iload_n 1, 1) := by decide +kernel
theorem dX8_shape_102 : decode cX8_shape 102 = .ok (.iaload, 1) := by decide +kernel
theorem dX8_shape_103 : decode cX8_shape 103 = .ok (.ireturn, 1) := by decide +kernel
theorem dX8_shape_104 : decode cX8_shape 104 = .ok (.bipush (-13), 2) := by decide +kernel
theorem dX8_shape_106 : decode cX8_shape 106 = .ok (.ireturn, 1) := by decide +kernel
theorem dX8_shape_25 : decode cX8_shape 25 = .ok (.bipush (-12), 2) := by decide +kernel
theorem dX8_shape_27 : decode cX8_shape 27 = .ok (.ireturn, 1) := by decide +kernel
theorem dX8_shape_13 : decode cX8_shape 13 = .ok (.bipush (-11), 2) := by decide +kernel
theorem dX8_shape_15 : decode cX8_shape 15 = .ok (.ireturn, 1) := by decide +kernel
theorem dX8_count_0 : decode cX8_count 0 = .ok (.aload_n 0, 1) := by decide +kernel
theorem dX8_count_1 : decode cX8_count 1 = .ok (.iconst 0, 1) := by decide +kernel
theorem dX8_count_2 : decode cX8_count 2 = .ok (.putfield 90, 3) := by decide +kernel
theorem dX8_count_5 : decode cX8_count 5 = .ok (.iload_n 1, 1) := by decide +kernel
theorem dX8_count_6 : decode cX8_count 6 = .ok (.tableswitch 92 0 5 #[38, 43, 48, 61, 82, 87], 38) := by decide +kernel
theorem dX8_count_44 : decode cX8_count 44 = .ok (.aload_n 0, 1) := by decide +kernel
theorem dX8_count_45 : decode cX8_count 45 = .ok (.getfield 94, 3) := by decide +kernel
theorem dX8_count_48 : decode cX8_count 48 = .ok (.ireturn, 1) := by decide +kernel
theorem dX8_count_49 : decode cX8_count 49 = .ok (.aload_n 0, 1) := by decide +kernel
theorem dX8_count_50 : decode cX8_count 50 = .ok (.getfield 119, 3) := by decide +kernel
theorem dX8_count_53 : decode cX8_count 53 = .ok (.ireturn, 1) := by decide +kernel
theorem dX8_count_54 : decode cX8_count 54 = .ok (.aload_n 0, 1) := by decide +kernel
theorem dX8_count_55 : decode cX8_count 55 = .ok (.getfield 122, 3) := by decide +kernel
theorem dX8_count_58 : decode cX8_count 58 = .ok (.ifCond .eq 7, 3) := by decide +kernel
theorem dX8_count_65 : decode cX8_count 65 = .ok (.iconst 0, 1) := by decide +kernel
theorem dX8_count_66 : decode cX8_count 66 = .ok (.ireturn, 1) := by decide +kernel
theorem dX8_count_61 : decode cX8_count 61 = .ok (.iconst 1, 1) := by decide +kernel
theorem dX8_count_62 : decode cX8_count 62 = .ok (.goto 4, 3) := by decide +kernel
theorem dX8_count_67 : decode cX8_count 67 = .ok (.aload_n 0, 1) := by decide +kernel
theorem dX8_count_68 : decode cX8_count 68 = .ok (.getfield 122, 3) := by decide +kernel
theorem dX8_count_71 : decode cX8_count 71 = .ok (.ifCond .eq 15, 3) := by decide +kernel
theorem dX8_count_86 : decode cX8_count 86 = .ok (.iconst 0, 1) := by decide +kernel
theorem dX8_count_87 : decode cX8_count 87 = .ok (.ireturn, 1) := by decide +kernel
theorem dX8_count_74 : decode cX8_count 74 = .ok (.aload_n 0, 1) := by decide +kernel
theorem dX8_count_75 : decode cX8_count 75 = .ok (.getfield 57, 3) := by decide +kernel
theorem dX8_count_78 : decode cX8_count 78 = .ok (.aload_n 0, 1) := by decide +kernel
theorem dX8_count_79 : decode cX8_count 79 = .ok (.getfield 119, 3) := by decide +kernel
theorem dX8_count_82 : decode cX8_count 82 = .ok (.iaload, 1) := by decide +kernel
theorem dX8_count_83 : decode cX8_count 83 = .ok (.goto 4, 3) := by decide +kernel
theorem dX8_count_88 : decode cX8_count 88 = .ok (.aload_n 0, 1) := by decide +kernel
theorem dX8_count_89 : decode cX8_count 89 = .ok (.getfield 196, 3) := by decide +kernel
theorem dX8_count_92 : decode cX8_count 92 = .ok (.ireturn, 1) := by decide +kernel
theorem dX8_count_93 : decode cX8_count 93 = .ok (.aload_n 0, 1) := by decide +kernel
theorem dX8_count_94 : decode cX8_count 94 = .ok (.getfield 101, 3) := by decide +kernel
theorem dX8_count_97 : decode cX8_count 97 = .ok (.ireturn, 1) := by decide +kernel
theorem dX8_count_98 : decode cX8_count 98 = .ok (.bipush (-13), 2) := by decide +kernel
theorem dX8_count_100 : decode cX8_count 100 = .ok (.ireturn, 1) := by decide +kernel
theorem dX8_broken_0 : decode cX8_broken 0 = .ok (.aload_n 0, 1) := by decide +kernel
theorem dX8_broken_1 : decode cX8_broken 1 = .ok (.iconst 0, 1) := by decide +kernel
theorem dX8_broken_2 : decode cX8_broken 2 = .ok (.putfield 90, 3) := by decide +kernel
theorem dX8_broken_5 : decode cX8_broken 5 = .ok (.iload_n 1, 1) := by decide +kernel
theorem dX8_broken_6 : decode cX8_broken 6 = .ok (.iconst 1, 1) := by decide +kernel
theorem dX8_broken_7 : decode cX8_broken 7 = .ok (.bipush 25, 2) := by decide +kernel
theorem dX8_broken_9 : decode cX8_broken 9 = .ok (.invokestatic 97, 3) := by decide +kernel
theorem dX8_broken_12 : decode cX8_broken 12 = .ok (.ifCond .eq 12, 3) := by decide +kernel
theorem dX8_broken_24 : decode cX8_broken 24 = .ok (.bipush (-13), 2) := by decide +kernel
theorem dX8_broken_26 : decode cX8_broken 26 = .ok (.ireturn, 1) := by decide +kernel
theorem dX8_broken_15 : decode cX8_broken 15 = .ok (.aload_n 0, 1) := by decide +kernel
theorem dX8_broken_16 : decode cX8_broken 16 = .ok (.getfield 72, 3) := by decide +kernel
theorem dX8_broken_19 : decode cX8_broken 19 = .ok (.iload_n 1, 1) := by decide +kernel
theorem dX8_broken_20 : decode cX8_broken 20 = .ok (.iaload, 1) := by decide +kernel
theorem dX8_broken_21 : decode cX8_broken 21 = .ok (.goto 5, 3) := by decide +kernel
set_option maxHeartbeats 4000000 in
set_option maxRecDepth 100000 in
theorem m_way (l : Launch) (D : va_G) (G : Nat → ClassId) (mo : Nat) (ad : Nat → Nat) (σ : MS) (τ : Nat → Int64) (sz : Nat)  : Met l yX8_way (ww yX8_way cX8_way 1 (some .int)) (rmD 0) (muP D G sz mo ad (σ, τ) [.ref mo]) (muQi D G mo ad (muA G mo ad (σ, τ) sz) ((σ 25 0, (su σ 0 0 0, τ))).1 ((σ 25 0, (su σ 0 0 0, τ))).2) 0 0 (muA G mo ad (σ, τ) sz) := by
  refine Met.ofW (cc := cX8_way) (maxL := 1) (ret := (some .int)) (by decide) rfl ?_
  intro p e s m args below meth c s₁ B hml hv
  obtain ⟨rfl, hsz, hP, hK, hD0⟩ := hv
  have hx := B.exec
  have hb := B.bytes
  have hr := B.returns
  have hts : ∀ w ∈ TT, w.before _ s = true := fun w h => atoms_spec (ws := ww yX8_way cX8_way 1 (some .int)) B.pre w (List.mem_cons_of_mem _ h)
  have hown : s.vm.findClass RX8 = some m.cls := findClass_of_methodNamed B.named
  have hlocks := B.notSynchronized
  subst hsz
  have hD : va_D (muA G mo ad (σ, τ) s.heap.size) (mW G mo ad σ τ) := hD0.self
  generalize hAe : muA G mo ad (σ, τ) s.heap.size = A at hD ⊢
  have hA : ∀ q : Nat, s.heap.size ≤ q → A q := fun q h => by rw [← hAe]; exact Or.inr h
  have hS : va_S A s.heap s.heap [] := va_S.rf
  have hP : va_P D vwCl (mW G mo ad σ τ) s.heap := hP
  have hl := lv_entry ([.ref mo]) (n := 1) (Nat.le_of_ble_eq_true rfl)
  rw [lg_entry_eq]
  generalize (lg_sl ([.ref mo]) ++ List.replicate (1 - (lg_sl ([.ref mo])).length) Slot.unset).toArray = ls at hl ⊢
  have hl : lv_has ls 1 [(0, .ref mo)] := hl
  refine lv_aload_n hx hb dX8_way_0 rfl (lv_at hl 0 rfl) ?_
  refine lv_iconst (v := 0) hx hb dX8_way_1 (by decide) ?_
  refine va_put (D := D) (ci := 8) (v := .int 0) (ty := .int) (C := RX8) (T := TX8) (N := 33) hx hb hts iX8 tyX8 tyX8_ok nmX8 hown hK.1 hP hD hS 0 rfl rfl 0 (by decide) (hts _ q_679) (fun _ h9 => h9) rfl (by decide +kernel) rfl rfl (Nat.le_of_ble_eq_true rfl) dX8_way_2 (fun H locs hP hD hS => ?_)
  have hP : va_P D vwCl (mW G mo ad (su σ 0 (0) (0)) (τ)) H := hP
  have hD : va_D A (mW G mo ad (su σ 0 (0) (0)) (τ)) := hD
  refine lv_aload_n hx hb dX8_way_5 rfl (lv_at hl 0 rfl) ?_
  refine va_get (D := D) (ci := 8) (v := .int (σ 25 0)) (C := RX8) (T := TX8) (N := 33) hx hb hts iX8 hown hK.1 hP 0 rfl rfl 25 (by decide) (hts _ q_704) (fun _ h9 => h9) rfl dX8_way_6 ?_
  have ho : (σ 25 0, (su σ 0 0 0, τ)) = (σ 25 0, su σ 0 (0) (0), τ) := rfl
  exact mu_iret (v0 := σ 25 0) (z := (su σ 0 (0) (0), τ)) hx hb hr hlocks hP hD hS dX8_way_9 (by rw [ho]) (by rw [ho])
set_option maxHeartbeats 4000000 in
set_option maxRecDepth 100000 in
theorem m_below (l : Launch) (D : va_G) (G : Nat → ClassId) (mo : Nat) (ad : Nat → Nat) (σ : MS) (τ : Nat → Int64) (sz : Nat) (n : Nat) (h1 : σ 1 0 = nI n) (hn : n ≤ 12) (t : Int32) (o : Int32) (hb6 : ∀ i, σ 6 i = 0 ∨ σ 6 i = 1) : Met l yX8_below (ww yX8_below cX8_below 3 (some .int)) (rmD 2) (muP D G sz mo ad (σ, τ) [.ref mo, .int t, .int o]) (muQi D G mo ad (muA G mo ad (σ, τ) sz) (oBelow σ τ n t o).1 (oBelow σ τ n t o).2) 0 0 (muA G mo ad (σ, τ) sz) := by
  refine Met.ofW (cc := cX8_below) (maxL := 3) (ret := (some .int)) (by decide) rfl ?_
  intro p e s m args below meth c s₁ B hml hv
  obtain ⟨rfl, hsz, hP, hK, hD0⟩ := hv
  have hx := B.exec
  have hb := B.bytes
  have hr := B.returns
  have hts : ∀ w ∈ TT, w.before _ s = true := fun w h => atoms_spec (ws := ww yX8_below cX8_below 3 (some .int)) B.pre w (List.mem_cons_of_mem _ h)
  have hown : s.vm.findClass RX8 = some m.cls := findClass_of_methodNamed B.named
  have hlocks := B.notSynchronized
  subst hsz
  have hD : va_D (muA G mo ad (σ, τ) s.heap.size) (mW G mo ad σ τ) := hD0.self
  generalize hAe : muA G mo ad (σ, τ) s.heap.size = A at hD ⊢
  have hA : ∀ q : Nat, s.heap.size ≤ q → A q := fun q h => by rw [← hAe]; exact Or.inr h
  have hS : va_S A s.heap s.heap [] := va_S.rf
  have hP : va_P D vwCl (mW G mo ad σ τ) s.heap := hP
  have hl := lv_entry ([.ref mo, .int t, .int o]) (n := 3) (Nat.le_of_ble_eq_true rfl)
  rw [lg_entry_eq]
  generalize (lg_sl ([.ref mo, .int t, .int o]) ++ List.replicate (3 - (lg_sl ([.ref mo, .int t, .int o])).length) Slot.unset).toArray = ls at hl ⊢
  have hl : lv_has ls 3 [(0, .ref mo), (1, .int t), (2, .int o)] := hl
  refine lv_aload_n hx hb dX8_below_0 rfl (lv_at hl 0 rfl) ?_
  refine lv_iconst (v := 0) hx hb dX8_below_1 (by decide) ?_
  refine va_put (D := D) (ci := 8) (v := .int 0) (ty := .int) (C := RX8) (T := TX8) (N := 33) hx hb hts iX8 tyX8 tyX8_ok nmX8 hown hK.1 hP hD hS 0 rfl rfl 0 (by decide) (hts _ q_679) (fun _ h9 => h9) rfl (by decide +kernel) rfl rfl (Nat.le_of_ble_eq_true rfl) dX8_below_2 (fun H locs hP hD hS => ?_)
  have hP : va_P D vwCl (mW G mo ad (su σ 0 (0) (0)) (τ)) H := hP
  have hD : va_D A (mW G mo ad (su σ 0 (0) (0)) (τ)) := hD
  refine lv_aload_n hx hb dX8_below_5 rfl (lv_at hl 0 rfl) ?_
  refine lv_iload_n hx hb dX8_below_6 rfl (lv_at hl 1 rfl) ?_
  refine ro_Vi (D := D) (G := G) (As := [.int t]) (rest := []) ⟨hx, hb, hml, hown, hts⟩ (m_isType l D G _ mo ad _ _ hP n h1 hn t) gV_X8_X8_isType hdV_X8_isType ⟨Nat.le_of_ble_eq_true rfl, Nat.le_of_ble_eq_true rfl⟩ hK (va_recv hK.1 hP (ci := 8) (q0 := 0) rfl rfl) rfl hl.1 rfl (Nat.le_of_ble_eq_true rfl) dX8_below_7 ⟨Nat.le_of_ble_eq_true rfl, Nat.le_of_ble_eq_true rfl⟩ (fun r1 e_r1 => ?_)
  subst e_r1
  refine W.eq (g2 := F0 m 10 ls [.int (bI (okN n t))]) rfl ?_
  refine lv_if_eq (tgt := 21) hx hb dX8_below_10 (by decide) (fun c2 => ?_) (fun c2 => ?_)
  · -- 10 taken
    have c2 := bI_0 c2
    refine lv_bipush (v := -11) hx hb dX8_below_21 (by decide) ?_
    refine lv_goto (tgt := 40) hx hb dX8_below_23 (by decide) ?_
    have ho : oBelow σ τ n t o = ((-11), su σ 0 (0) (0), τ) := by unfold oBelow; simp only [eq_false c2, not_true, not_false_iff, not_true_eq_false, not_false_eq_true, true_or, or_true, false_or, or_false, or_self, and_self, true_and, and_true, false_and, and_false, if_true, if_false]; try rfl
    exact mu_iret (v0 := (-11)) (z := (su σ 0 (0) (0), τ)) hx hb hr hlocks hP hD hS dX8_below_40 (by rw [ho]) (by rw [ho])
  · -- 10 not
    have c2 := bI_1 c2
    obtain ⟨j3, h_j3, rfl⟩ := okN_ex (by omega) c2
    refine lv_aload_n hx hb dX8_below_13 rfl (lv_at hl 0 rfl) ?_
    refine lv_iload_n hx hb dX8_below_14 rfl (lv_at hl 2 rfl) ?_
    refine ro_Vi (D := D) (G := G) (As := [.int o]) (rest := []) ⟨hx, hb, hml, hown, hts⟩ (m_isType l D G _ mo ad _ _ hP n h1 hn o) gV_X8_X8_isType hdV_X8_isType ⟨Nat.le_of_ble_eq_true rfl, Nat.le_of_ble_eq_true rfl⟩ hK (va_recv hK.1 hP (ci := 8) (q0 := 0) rfl rfl) rfl hl.1 rfl (Nat.le_of_ble_eq_true rfl) dX8_below_15 ⟨Nat.le_of_ble_eq_true rfl, Nat.le_of_ble_eq_true rfl⟩ (fun r4 e_r4 => ?_)
    subst e_r4
    refine W.eq (g2 := F0 m 18 ls [.int (bI (okN n o))]) rfl ?_
    refine lv_if_ne (tgt := 26) hx hb dX8_below_18 (by decide) (fun c5 => ?_) (fun c5 => ?_)
    · -- 18 taken
      have c5 := bI_1 c5
      obtain ⟨j6, h_j6, rfl⟩ := okN_ex (by omega) c5
      refine lv_aload_n hx hb dX8_below_26 rfl (lv_at hl 0 rfl) ?_
      refine lv_iload_n hx hb dX8_below_27 rfl (lv_at hl 1 rfl) ?_
      refine lv_iload_n hx hb dX8_below_28 rfl (lv_at hl 2 rfl) ?_
      refine ro_Vi (D := D) (G := G) (As := [.int (nI j3), .int (nI j6)]) (rest := []) ⟨hx, hb, hml, hown, hts⟩ (m_lies l D G _ mo ad _ _ hP (j3) (j6) (by omega) (by omega) hb6) gV_X8_X8_lies hdV_X8_lies ⟨Nat.le_of_ble_eq_true rfl, Nat.le_of_ble_eq_true rfl⟩ hK (va_recv hK.1 hP (ci := 8) (q0 := 0) rfl rfl) rfl hl.1 rfl (Nat.le_of_ble_eq_true rfl) dX8_below_29 ⟨Nat.le_of_ble_eq_true rfl, Nat.le_of_ble_eq_true rfl⟩ (fun r7 e_r7 => ?_)
      subst e_r7
      refine W.eq (g2 := F0 m 32 ls [.int (bI (lyP σ (j3) (j6)))]) rfl ?_
      refine lv_if_eq (tgt := 39) hx hb dX8_below_32 (by decide) (fun c8 => ?_) (fun c8 => ?_)
      · -- 32 taken
        have c8 := bI_0 c8
        refine lv_iconst (v := 0) hx hb dX8_below_39 (by decide) ?_
        have ho : oBelow σ τ n (nI j3) (nI j6) = (0, su σ 0 (0) (0), τ) := by unfold oBelow; simp only [eq_true c2, eq_true c5, eq_false c8, nI_clamp (show j3 < 2 ^ 31 by omega), nI_clamp (show j6 < 2 ^ 31 by omega), not_true, not_false_iff, not_true_eq_false, not_false_eq_true, true_or, or_true, false_or, or_false, or_self, and_self, true_and, and_true, false_and, and_false, if_true, if_false]; try rfl
        exact mu_iret (v0 := 0) (z := (su σ 0 (0) (0), τ)) hx hb hr hlocks hP hD hS dX8_below_40 (by rw [ho]) (by rw [ho])
      · -- 32 not
        have c8 := bI_1 c8
        refine lv_iconst (v := 1) hx hb dX8_below_35 (by decide) ?_
        refine lv_goto (tgt := 40) hx hb dX8_below_36 (by decide) ?_
        have ho : oBelow σ τ n (nI j3) (nI j6) = (1, su σ 0 (0) (0), τ) := by unfold oBelow; simp only [eq_true c2, eq_true c5, eq_true c8, nI_clamp (show j3 < 2 ^ 31 by omega), nI_clamp (show j6 < 2 ^ 31 by omega), not_true, not_false_iff, not_true_eq_false, not_false_eq_true, true_or, or_true, false_or, or_false, or_self, and_self, true_and, and_true, false_and, and_false, if_true, if_false]; try rfl
        exact mu_iret (v0 := 1) (z := (su σ 0 (0) (0), τ)) hx hb hr hlocks hP hD hS dX8_below_40 (by rw [ho]) (by rw [ho])
    · -- 18 not
      have c5 := bI_0 c5
      refine lv_bipush (v := -11) hx hb dX8_below_21 (by decide) ?_
      refine lv_goto (tgt := 40) hx hb dX8_below_23 (by decide) ?_
      have ho : oBelow σ τ n (nI j3) o = ((-11), su σ 0 (0) (0), τ) := by unfold oBelow; simp only [eq_true c2, eq_false c5, nI_clamp (show j3 < 2 ^ 31 by omega), not_true, not_false_iff, not_true_eq_false, not_false_eq_true, true_or, or_true, false_or, or_false, or_self, and_self, true_and, and_true, false_and, and_false, if_true, if_false]; try rfl
      exact mu_iret (v0 := (-11)) (z := (su σ 0 (0) (0), τ)) hx hb hr hlocks hP hD hS dX8_below_40 (by rw [ho]) (by rw [ho])
set_option maxHeartbeats 4000000 in
set_option maxRecDepth 100000 in
theorem m_lays (l : Launch) (D : va_G) (G : Nat → ClassId) (mo : Nat) (ad : Nat → Nat) (σ : MS) (τ : Nat → Int64) (sz : Nat) (k : Nat) (h7 : σ 7 0 = nI k) (hk60 : k ≤ 60) (hk59 : k < 60) (t : Int32) (name : Int32) (kind : Int32) (dd : Int32) (mm : Int32) : Met l yX8_lays (ww yX8_lays cX8_lays 6 none) (rmD 0) (muP D G sz mo ad (σ, τ) [.ref mo, .int t, .int name, .int kind, .int dd, .int mm]) (muQv D G mo ad (muA G mo ad (σ, τ) sz) ((layS σ k t name kind dd mm, τ))) 0 0 (muA G mo ad (σ, τ) sz) := by
  refine Met.ofW (cc := cX8_lays) (maxL := 6) (ret := none) (by decide) rfl ?_
  intro p e s m args below meth c s₁ B hml hv
  obtain ⟨rfl, hsz, hP, hK, hD0⟩ := hv
  have hx := B.exec
  have hb := B.bytes
  have hr := B.returns
  have hts : ∀ w ∈ TT, w.before _ s = true := fun w h => atoms_spec (ws := ww yX8_lays cX8_lays 6 none) B.pre w (List.mem_cons_of_mem _ h)
  have hown : s.vm.findClass RX8 = some m.cls := findClass_of_methodNamed B.named
  have hlocks := B.notSynchronized
  subst hsz
  have hD : va_D (muA G mo ad (σ, τ) s.heap.size) (mW G mo ad σ τ) := hD0.self
  generalize hAe : muA G mo ad (σ, τ) s.heap.size = A at hD ⊢
  have hA : ∀ q : Nat, s.heap.size ≤ q → A q := fun q h => by rw [← hAe]; exact Or.inr h
  have hS : va_S A s.heap s.heap [] := va_S.rf
  have hP : va_P D vwCl (mW G mo ad σ τ) s.heap := hP
  have hl := lv_entry ([.ref mo, .int t, .int name, .int kind, .int dd, .int mm]) (n := 6) (Nat.le_of_ble_eq_true rfl)
  rw [lg_entry_eq]
  generalize (lg_sl ([.ref mo, .int t, .int name, .int kind, .int dd, .int mm]) ++ List.replicate (6 - (lg_sl ([.ref mo, .int t, .int name, .int kind, .int dd, .int mm])).length) Slot.unset).toArray = ls at hl ⊢
  have hl : lv_has ls 6 [(0, .ref mo), (1, .int t), (2, .int name), (3, .int kind), (4, .int dd), (5, .int mm)] := hl
  refine lv_aload_n hx hb dX8_lays_0 rfl (lv_at hl 0 rfl) ?_
  refine va_get (D := D) (ci := 8) (v := .ref ((ad 9))) (C := RX8) (T := TX8) (N := 33) hx hb hts iX8 hown hK.1 hP 0 rfl rfl 9 (by decide) (hts _ q_688) (fun _ h9 => h9) rfl dX8_lays_1 ?_
  refine lv_aload_n hx hb dX8_lays_4 rfl (lv_at hl 0 rfl) ?_
  refine va_get (D := D) (ci := 8) (v := .int (σ 7 0)) (C := RX8) (T := TX8) (N := 33) hx hb hts iX8 hown hK.1 hP 0 rfl rfl 7 (by decide) (hts _ q_686) (fun _ h9 => h9) rfl dX8_lays_5 ?_
  refine lv_iload_n hx hb dX8_lays_8 rfl (lv_at hl 1 rfl) ?_
  refine iast_n hx hb hK.1 hP hD hS 7 0 rfl rfl (k) h7 (by omega) (by decide) dX8_lays_9 (fun H locs hP hD hS => ?_)
  have hP : va_P D vwCl (mW G mo ad (su σ 9 (k) (t)) (τ)) H := hP
  have hD : va_D A (mW G mo ad (su σ 9 (k) (t)) (τ)) := hD
  refine lv_aload_n hx hb dX8_lays_10 rfl (lv_at hl 0 rfl) ?_
  refine va_get (D := D) (ci := 8) (v := .ref ((ad 10))) (C := RX8) (T := TX8) (N := 33) hx hb hts iX8 hown hK.1 hP 0 rfl rfl 10 (by decide) (hts _ q_689) (fun _ h9 => h9) rfl dX8_lays_11 ?_
  refine lv_aload_n hx hb dX8_lays_14 rfl (lv_at hl 0 rfl) ?_
  refine va_get (D := D) (ci := 8) (v := .int (σ 7 0)) (C := RX8) (T := TX8) (N := 33) hx hb hts iX8 hown hK.1 hP 0 rfl rfl 7 (by decide) (hts _ q_686) (fun _ h9 => h9) rfl dX8_lays_15 ?_
  refine lv_iload_n hx hb dX8_lays_18 rfl (lv_at hl 2 rfl) ?_
  refine iast_n hx hb hK.1 hP hD hS 8 0 rfl rfl (k) h7 (by omega) (by decide) dX8_lays_19 (fun H locs hP hD hS => ?_)
  have hP : va_P D vwCl (mW G mo ad (su (su σ 9 (k) (t)) 10 (k) (name)) (τ)) H := hP
  have hD : va_D A (mW G mo ad (su (su σ 9 (k) (t)) 10 (k) (name)) (τ)) := hD
  refine lv_aload_n hx hb dX8_lays_20 rfl (lv_at hl 0 rfl) ?_
  refine va_get (D := D) (ci := 8) (v := .ref ((ad 11))) (C := RX8) (T := TX8) (N := 33) hx hb hts iX8 hown hK.1 hP 0 rfl rfl 11 (by decide) (hts _ q_690) (fun _ h9 => h9) rfl dX8_lays_21 ?_
  refine lv_aload_n hx hb dX8_lays_24 rfl (lv_at hl 0 rfl) ?_
  refine va_get (D := D) (ci := 8) (v := .int (σ 7 0)) (C := RX8) (T := TX8) (N := 33) hx hb hts iX8 hown hK.1 hP 0 rfl rfl 7 (by decide) (hts _ q_686) (fun _ h9 => h9) rfl dX8_lays_25 ?_
  refine lv_iload_n hx hb dX8_lays_28 rfl (lv_at hl 3 rfl) ?_
  refine iast_n hx hb hK.1 hP hD hS 9 0 rfl rfl (k) h7 (by omega) (by decide) dX8_lays_29 (fun H locs hP hD hS => ?_)
  have hP : va_P D vwCl (mW G mo ad (su (su (su σ 9 (k) (t)) 10 (k) (name)) 11 (k) (kind)) (τ)) H := hP
  have hD : va_D A (mW G mo ad (su (su (su σ 9 (k) (t)) 10 (k) (name)) 11 (k) (kind)) (τ)) := hD
  refine lv_aload_n hx hb dX8_lays_30 rfl (lv_at hl 0 rfl) ?_
  refine va_get (D := D) (ci := 8) (v := .ref ((ad 12))) (C := RX8) (T := TX8) (N := 33) hx hb hts iX8 hown hK.1 hP 0 rfl rfl 12 (by decide) (hts _ q_691) (fun _ h9 => h9) rfl dX8_lays_31 ?_
  refine lv_aload_n hx hb dX8_lays_34 rfl (lv_at hl 0 rfl) ?_
  refine va_get (D := D) (ci := 8) (v := .int (σ 7 0)) (C := RX8) (T := TX8) (N := 33) hx hb hts iX8 hown hK.1 hP 0 rfl rfl 7 (by decide) (hts _ q_686) (fun _ h9 => h9) rfl dX8_lays_35 ?_
  refine lv_iload hx hb dX8_lays_38 (lv_at hl 4 rfl) ?_
  refine iast_n hx hb hK.1 hP hD hS 10 0 rfl rfl (k) h7 (by omega) (by decide) dX8_lays_40 (fun H locs hP hD hS => ?_)
  have hP : va_P D vwCl (mW G mo ad (su (su (su (su σ 9 (k) (t)) 10 (k) (name)) 11 (k) (kind)) 12 (k) (dd)) (τ)) H := hP
  have hD : va_D A (mW G mo ad (su (su (su (su σ 9 (k) (t)) 10 (k) (name)) 11 (k) (kind)) 12 (k) (dd)) (τ)) := hD
  refine lv_aload_n hx hb dX8_lays_41 rfl (lv_at hl 0 rfl) ?_
  refine va_get (D := D) (ci := 8) (v := .ref ((ad 13))) (C := RX8) (T := TX8) (N := 33) hx hb hts iX8 hown hK.1 hP 0 rfl rfl 13 (by decide) (hts _ q_692) (fun _ h9 => h9) rfl dX8_lays_42 ?_
  refine lv_aload_n hx hb dX8_lays_45 rfl (lv_at hl 0 rfl) ?_
  refine va_get (D := D) (ci := 8) (v := .int (σ 7 0)) (C := RX8) (T := TX8) (N := 33) hx hb hts iX8 hown hK.1 hP 0 rfl rfl 7 (by decide) (hts _ q_686) (fun _ h9 => h9) rfl dX8_lays_46 ?_
  refine lv_iload hx hb dX8_lays_49 (lv_at hl 5 rfl) ?_
  refine iast_n hx hb hK.1 hP hD hS 11 0 rfl rfl (k) h7 (by omega) (by decide) dX8_lays_51 (fun H locs hP hD hS => ?_)
  have hP : va_P D vwCl (mW G mo ad (su (su (su (su (su σ 9 (k) (t)) 10 (k) (name)) 11 (k) (kind)) 12 (k) (dd)) 13 (k) (mm)) (τ)) H := hP
  have hD : va_D A (mW G mo ad (su (su (su (su (su σ 9 (k) (t)) 10 (k) (name)) 11 (k) (kind)) 12 (k) (dd)) 13 (k) (mm)) (τ)) := hD
  have ho : (layS σ k t name kind dd mm, τ) = (su (su (su (su (su σ 9 (k) (t)) 10 (k) (name)) 11 (k) (kind)) 12 (k) (dd)) 13 (k) (mm), τ) := rfl
  exact mu_vret (z := (su (su (su (su (su σ 9 (k) (t)) 10 (k) (name)) 11 (k) (kind)) 12 (k) (dd)) 13 (k) (mm), τ)) hx hb hr hlocks hP hD hS dX8_lays_52 (by rw [ho])
set_option maxHeartbeats 4000000 in
set_option maxRecDepth 100000 in
theorem m_field (l : Launch) (D : va_G) (G : Nat → ClassId) (mo : Nat) (ad : Nat → Nat) (σ : MS) (τ : Nat → Int64) (sz : Nat) (n : Nat) (h1 : σ 1 0 = nI n) (hn : n ≤ 12) (k : Nat) (h7 : σ 7 0 = nI k) (hk60 : k ≤ 60) (t : Int32) (name : Int32) (kind : Int32) (dd : Int32) (mm : Int32) : Met l yX8_field (ww yX8_field cX8_field 8 (some .int)) (rmD 4) (muP D G sz mo ad (σ, τ) [.ref mo, .int t, .int name, .int kind, .int dd, .int mm]) (muQi D G mo ad (muA G mo ad (σ, τ) sz) (oField σ τ n k t name kind dd mm).1 (oField σ τ n k t name kind dd mm).2) 0 0 (muA G mo ad (σ, τ) sz) := by
  refine Met.ofW (cc := cX8_field) (maxL := 8) (ret := (some .int)) (by decide) rfl ?_
  intro p e s m args below meth c s₁ B hml hv
  obtain ⟨rfl, hsz, hP, hK, hD0⟩ := hv
  have hx := B.exec
  have hb := B.bytes
  have hr := B.returns
  have hts : ∀ w ∈ TT, w.before _ s = true := fun w h => atoms_spec (ws := ww yX8_field cX8_field 8 (some .int)) B.pre w (List.mem_cons_of_mem _ h)
  have hown : s.vm.findClass RX8 = some m.cls := findClass_of_methodNamed B.named
  have hlocks := B.notSynchronized
  subst hsz
  have hD : va_D (muA G mo ad (σ, τ) s.heap.size) (mW G mo ad σ τ) := hD0.self
  generalize hAe : muA G mo ad (σ, τ) s.heap.size = A at hD ⊢
  have hA : ∀ q : Nat, s.heap.size ≤ q → A q := fun q h => by rw [← hAe]; exact Or.inr h
  have hS : va_S A s.heap s.heap [] := va_S.rf
  have hP : va_P D vwCl (mW G mo ad σ τ) s.heap := hP
  have hl := lv_entry ([.ref mo, .int t, .int name, .int kind, .int dd, .int mm]) (n := 8) (Nat.le_of_ble_eq_true rfl)
  rw [lg_entry_eq]
  generalize (lg_sl ([.ref mo, .int t, .int name, .int kind, .int dd, .int mm]) ++ List.replicate (8 - (lg_sl ([.ref mo, .int t, .int name, .int kind, .int dd, .int mm])).length) Slot.unset).toArray = ls at hl ⊢
  have hl : lv_has ls 8 [(0, .ref mo), (1, .int t), (2, .int name), (3, .int kind), (4, .int dd), (5, .int mm)] := hl
  refine lv_aload_n hx hb dX8_field_0 rfl (lv_at hl 0 rfl) ?_
  refine lv_iconst (v := 0) hx hb dX8_field_1 (by decide) ?_
  refine va_put (D := D) (ci := 8) (v := .int 0) (ty := .int) (C := RX8) (T := TX8) (N := 33) hx hb hts iX8 tyX8 tyX8_ok nmX8 hown hK.1 hP hD hS 0 rfl rfl 0 (by decide) (hts _ q_679) (fun _ h9 => h9) rfl (by decide +kernel) rfl rfl (Nat.le_of_ble_eq_true rfl) dX8_field_2 (fun H locs hP hD hS => ?_)
  have hP : va_P D vwCl (mW G mo ad (su σ 0 (0) (0)) (τ)) H := hP
  have hD : va_D A (mW G mo ad (su σ 0 (0) (0)) (τ)) := hD
  refine lv_aload_n hx hb dX8_field_5 rfl (lv_at hl 0 rfl) ?_
  refine lv_iload_n hx hb dX8_field_6 rfl (lv_at hl 1 rfl) ?_
  refine lv_iload_n hx hb dX8_field_7 rfl (lv_at hl 2 rfl) ?_
  refine lv_iload_n hx hb dX8_field_8 rfl (lv_at hl 3 rfl) ?_
  refine lv_iload hx hb dX8_field_9 (lv_at hl 4 rfl) ?_
  refine lv_iload hx hb dX8_field_11 (lv_at hl 5 rfl) ?_
  refine ro_Vi (D := D) (G := G) (As := [.int t, .int name, .int kind, .int dd, .int mm]) (rest := []) ⟨hx, hb, hml, hown, hts⟩ (m_refusal l D G _ mo ad _ _ hP n h1 hn t name kind dd mm) gV_X8_X8_refusal hdV_X8_refusal ⟨Nat.le_of_ble_eq_true rfl, Nat.le_of_ble_eq_true rfl⟩ hK (va_recv hK.1 hP (ci := 8) (q0 := 0) rfl rfl) rfl hl.1 rfl (Nat.le_of_ble_eq_true rfl) dX8_field_13 ⟨Nat.le_of_ble_eq_true rfl, Nat.le_of_ble_eq_true rfl⟩ (fun r1 e_r1 => ?_)
  subst e_r1
  refine W.eq (g2 := F0 m 16 ls [.int (aRef σ n t name kind dd mm)]) rfl ?_
  refine lv_istore (lv' := [(6, .int (aRef σ n t name kind dd mm)), (0, .ref mo), (1, .int t), (2, .int name), (3, .int kind), (4, .int dd), (5, .int mm)]) hx hb dX8_field_16 hl (by decide) rfl (fun ls hl => ?_)
  refine lv_iload hx hb dX8_field_18 (lv_at hl 0 rfl) ?_
  refine lv_if_ge (tgt := 26) hx hb dX8_field_20 (by decide) (fun c2 => ?_) (fun c2 => ?_)
  · -- 20 taken
    have hr0 := aRef_ok c2
    have hk59 : k < 60 := by rcases Nat.lt_or_ge k 60 with h9 | h9; exact h9; exact absurd (by rw [h7, show k = 60 by omega]; rfl) hr0.2.2.2.2.2.2.2.2.2
    obtain ⟨j, h_j, rfl⟩ := okN_ex (by omega) hr0.1
    refine lv_aload_n hx hb dX8_field_26 rfl (lv_at hl 1 rfl) ?_
    refine lv_iload_n hx hb dX8_field_27 rfl (lv_at hl 2 rfl) ?_
    refine lv_iload_n hx hb dX8_field_28 rfl (lv_at hl 3 rfl) ?_
    refine lv_iload_n hx hb dX8_field_29 rfl (lv_at hl 4 rfl) ?_
    refine lv_iload hx hb dX8_field_30 (lv_at hl 6 rfl) ?_
    refine ro_Vi (D := D) (G := G) (As := [.int (nI j), .int name, .int kind, .int mm]) (rest := []) ⟨hx, hb, hml, hown, hts⟩ (m_ruleOfField l D G _ mo ad _ _ hP k h7 hk60 (j) (by omega) name kind mm) gV_X8_X8_ruleOfField hdV_X8_ruleOfField ⟨Nat.le_of_ble_eq_true rfl, Nat.le_of_ble_eq_true rfl⟩ hK (va_recv hK.1 hP (ci := 8) (q0 := 0) rfl rfl) rfl hl.1 rfl (Nat.le_of_ble_eq_true rfl) dX8_field_32 ⟨Nat.le_of_ble_eq_true rfl, Nat.le_of_ble_eq_true rfl⟩ (fun r3 e_r3 => ?_)
    subst e_r3
    refine W.eq (g2 := F0 m 35 ls [.int (aRF σ k j name kind mm)]) rfl ?_
    refine lv_istore (lv' := [(7, .int (aRF σ k j name kind mm)), (6, .int (aRef σ n (nI j) name kind dd mm)), (0, .ref mo), (1, .int (nI j)), (2, .int name), (3, .int kind), (4, .int dd), (5, .int mm)]) hx hb dX8_field_35 hl (by decide) rfl (fun ls hl => ?_)
    refine lv_iload hx hb dX8_field_37 (lv_at hl 0 rfl) ?_
    refine lv_if_le (tgt := 49) hx hb dX8_field_39 (by decide) (fun c4 => ?_) (fun c4 => ?_)
    · -- 39 taken
      refine lv_aload_n hx hb dX8_field_49 rfl (lv_at hl 2 rfl) ?_
      refine lv_iload_n hx hb dX8_field_50 rfl (lv_at hl 3 rfl) ?_
      refine lv_iload_n hx hb dX8_field_51 rfl (lv_at hl 4 rfl) ?_
      refine lv_iload_n hx hb dX8_field_52 rfl (lv_at hl 5 rfl) ?_
      refine lv_iload hx hb dX8_field_53 (lv_at hl 6 rfl) ?_
      refine lv_aload_n hx hb dX8_field_55 rfl (lv_at hl 2 rfl) ?_
      refine lv_iload_n hx hb dX8_field_56 rfl (lv_at hl 3 rfl) ?_
      refine ro_Vi (D := D) (G := G) (As := [.int (nI j)]) (rest := [.int dd, .int kind, .int name, .int (nI j), .ref mo]) ⟨hx, hb, hml, hown, hts⟩ (m_isFace l D G _ mo ad _ _ hP (j) (by omega)) gV_X8_X8_isFace hdV_X8_isFace ⟨Nat.le_of_ble_eq_true rfl, Nat.le_of_ble_eq_true rfl⟩ hK (va_recv hK.1 hP (ci := 8) (q0 := 0) rfl rfl) rfl hl.1 rfl (Nat.le_of_ble_eq_true rfl) dX8_field_57 ⟨Nat.le_of_ble_eq_true rfl, Nat.le_of_ble_eq_true rfl⟩ (fun r5 e_r5 => ?_)
      subst e_r5
      refine W.eq (g2 := F0 m 60 ls [.int (bI (σ 2 (j) = 3)), .int dd, .int kind, .int name, .int (nI j), .ref mo]) rfl ?_
      refine lv_if_eq (tgt := 76) hx hb dX8_field_60 (by decide) (fun c6 => ?_) (fun c6 => ?_)
      · -- 60 taken
        have c6 := bI_0 c6
        refine lv_iload hx hb dX8_field_76 (lv_at hl 7 rfl) ?_
        refine mu_Vv (D := D) (G := G) (mo := mo) (ad := ad) (u := (su σ 0 (0) (0), τ)) (As := [.int (nI j), .int name, .int kind, .int dd, .int mm]) (rest := []) ⟨hx, hb, hml, hown, hts⟩ (m_lays l D G mo ad (su σ 0 (0) (0)) (τ) _ k h7 hk60 hk59 (nI j) name kind dd mm) gV_X8_X8_lays hdV_X8_lays ⟨Nat.le_of_ble_eq_true rfl, Nat.le_of_ble_eq_true rfl⟩ hK hP hD hS hA rfl hl.1 rfl (Nat.le_of_ble_eq_true rfl) dX8_field_78 ⟨Nat.le_of_ble_eq_true rfl, Nat.le_of_ble_eq_true rfl⟩ (fun H locs hP hD hS => ?_)
        have hP : va_P D vwCl (mW G mo ad (su (su (su (su (su (su σ 0 (0) (0)) 9 (k) (nI j)) 10 (k) (name)) 11 (k) (kind)) 12 (k) (dd)) 13 (k) (mm)) (τ)) H := hP
        have hD : va_D A (mW G mo ad (su (su (su (su (su (su σ 0 (0) (0)) 9 (k) (nI j)) 10 (k) (name)) 11 (k) (kind)) 12 (k) (dd)) 13 (k) (mm)) (τ)) := hD
        refine lv_aload_n hx hb dX8_field_81 rfl (lv_at hl 2 rfl) ?_
        refine va_get (D := D) (ci := 8) (v := .ref ((ad 8))) (C := RX8) (T := TX8) (N := 33) hx hb hts iX8 hown hK.1 hP 0 rfl rfl 8 (by decide) (hts _ q_687) (fun _ h9 => h9) rfl dX8_field_82 ?_
        refine lv_aload_n hx hb dX8_field_85 rfl (lv_at hl 2 rfl) ?_
        refine va_get (D := D) (ci := 8) (v := .int (σ 7 0)) (C := RX8) (T := TX8) (N := 33) hx hb hts iX8 hown hK.1 hP 0 rfl rfl 7 (by decide) (hts _ q_686) (fun _ h9 => h9) rfl dX8_field_86 ?_
        refine lv_iconst (v := 0) hx hb dX8_field_89 (by decide) ?_
        refine zast_n hx hb hK.1 hP hD hS 6 2 rfl rfl (k) h7 (by omega) (by decide) (Or.inl rfl) dX8_field_90 (fun H locs hP hD hS => ?_)
        have hP : va_P D vwCl (mW G mo ad (su (su (su (su (su (su (su σ 0 (0) (0)) 9 (k) (nI j)) 10 (k) (name)) 11 (k) (kind)) 12 (k) (dd)) 13 (k) (mm)) 8 (k) (0)) (τ)) H := hP
        have hD : va_D A (mW G mo ad (su (su (su (su (su (su (su σ 0 (0) (0)) 9 (k) (nI j)) 10 (k) (name)) 11 (k) (kind)) 12 (k) (dd)) 13 (k) (mm)) 8 (k) (0)) (τ)) := hD
        refine lv_aload_n hx hb dX8_field_91 rfl (lv_at hl 2 rfl) ?_
        refine va_get (D := D) (ci := 8) (v := .ref ((ad 14))) (C := RX8) (T := TX8) (N := 33) hx hb hts iX8 hown hK.1 hP 0 rfl rfl 14 (by decide) (hts _ q_693) (fun _ h9 => h9) rfl dX8_field_92 ?_
        refine lv_aload_n hx hb dX8_field_95 rfl (lv_at hl 2 rfl) ?_
        refine va_get (D := D) (ci := 8) (v := .int (σ 7 0)) (C := RX8) (T := TX8) (N := 33) hx hb hts iX8 hown hK.1 hP 0 rfl rfl 7 (by decide) (hts _ q_686) (fun _ h9 => h9) rfl dX8_field_96 ?_
        refine lv_iconst (v := 0) hx hb dX8_field_99 (by decide) ?_
        refine zast_n hx hb hK.1 hP hD hS 12 2 rfl rfl (k) h7 (by omega) (by decide) (Or.inl rfl) dX8_field_100 (fun H locs hP hD hS => ?_)
        have hP : va_P D vwCl (mW G mo ad (su (su (su (su (su (su (su (su σ 0 (0) (0)) 9 (k) (nI j)) 10 (k) (name)) 11 (k) (kind)) 12 (k) (dd)) 13 (k) (mm)) 8 (k) (0)) 14 (k) (0)) (τ)) H := hP
        have hD : va_D A (mW G mo ad (su (su (su (su (su (su (su (su σ 0 (0) (0)) 9 (k) (nI j)) 10 (k) (name)) 11 (k) (kind)) 12 (k) (dd)) 13 (k) (mm)) 8 (k) (0)) 14 (k) (0)) (τ)) := hD
        refine lv_aload_n hx hb dX8_field_101 rfl (lv_at hl 2 rfl) ?_
        refine lv_dup hx hb dX8_field_102 rfl ?_
        refine va_get (D := D) (ci := 8) (v := .int (σ 7 0)) (C := RX8) (T := TX8) (N := 33) hx hb hts iX8 hown hK.1 hP 0 rfl rfl 7 (by decide) (hts _ q_686) (fun _ h9 => h9) rfl dX8_field_103 ?_
        refine lv_iconst (v := 1) hx hb dX8_field_106 (by decide) ?_
        refine lv_iadd hx hb dX8_field_107 ?_
        refine W.eq (g2 := F0 m 108 ls [.int (nI (k + 1)), .ref mo]) (congrArg (fun z9 => F0 m 108 ls [.int z9, .ref mo]) (n_add (a := k) (b := 1) h7 (rfl : (1 : Int32) = nI 1))) ?_
        refine va_put (D := D) (ci := 8) (v := .int (nI (k + 1))) (ty := .int) (C := RX8) (T := TX8) (N := 33) hx hb hts iX8 tyX8 tyX8_ok nmX8 hown hK.1 hP hD hS 0 rfl rfl 7 (by decide) (hts _ q_686) (fun _ h9 => h9) rfl (by decide +kernel) rfl rfl (Nat.le_of_ble_eq_true rfl) dX8_field_108 (fun H locs hP hD hS => ?_)
        have hP : va_P D vwCl (mW G mo ad (su (su (su (su (su (su (su (su (su σ 0 (0) (0)) 9 (k) (nI j)) 10 (k) (name)) 11 (k) (kind)) 12 (k) (dd)) 13 (k) (mm)) 8 (k) (0)) 14 (k) (0)) 7 (0) (nI (k + 1))) (τ)) H := hP
        have hD : va_D A (mW G mo ad (su (su (su (su (su (su (su (su (su σ 0 (0) (0)) 9 (k) (nI j)) 10 (k) (name)) 11 (k) (kind)) 12 (k) (dd)) 13 (k) (mm)) 8 (k) (0)) 14 (k) (0)) 7 (0) (nI (k + 1))) (τ)) := hD
        refine lv_aload_n hx hb dX8_field_111 rfl (lv_at hl 2 rfl) ?_
        refine va_get (D := D) (ci := 8) (v := .int (nI (k + 1))) (C := RX8) (T := TX8) (N := 33) hx hb hts iX8 hown hK.1 hP 0 rfl rfl 7 (by decide) (hts _ q_686) (fun _ h9 => h9) rfl dX8_field_112 ?_
        refine lv_iconst (v := 1) hx hb dX8_field_115 (by decide) ?_
        refine lv_isub hx hb dX8_field_116 ?_
        refine W.eq (g2 := F0 m 117 ls [.int (nI k)]) (congrArg (fun z9 => F0 m 117 ls [.int z9]) (nI_pred k)) ?_
        have ho : oField σ τ n k (nI j) name kind dd mm = (nI k, su (su (su (su (su (su (su (su (su σ 0 (0) (0)) 9 (k) (nI j)) 10 (k) (name)) 11 (k) (kind)) 12 (k) (dd)) 13 (k) (mm)) 8 (k) (0)) 14 (k) (0)) 7 (0) (nI (k + 1)), τ) := by unfold oField; simp only [eq_true c2, eq_true c4, eq_false c6, nI_clamp (show j < 2 ^ 31 by omega), not_true, not_false_iff, not_true_eq_false, not_false_eq_true, true_or, or_true, false_or, or_false, or_self, and_self, true_and, and_true, false_and, and_false, if_true, if_false]; try rfl
        exact mu_iret (v0 := nI k) (z := (su (su (su (su (su (su (su (su (su σ 0 (0) (0)) 9 (k) (nI j)) 10 (k) (name)) 11 (k) (kind)) 12 (k) (dd)) 13 (k) (mm)) 8 (k) (0)) 14 (k) (0)) 7 (0) (nI (k + 1)), τ)) hx hb hr hlocks hP hD hS dX8_field_117 (by rw [ho]) (by rw [ho])
      · -- 60 not
        have c6 := bI_1 c6
        refine lv_iload hx hb dX8_field_63 (lv_at hl 7 rfl) ?_
        refine lv_iconst (v := 1) hx hb dX8_field_65 (by decide) ?_
        refine lv_ior hx hb dX8_field_66 ?_
        refine lv_bipush (v := 8) hx hb dX8_field_67 (by decide) ?_
        refine lv_ior hx hb dX8_field_69 ?_
        refine lv_bipush (v := 16) hx hb dX8_field_70 (by decide) ?_
        refine lv_ior hx hb dX8_field_72 ?_
        refine lv_goto (tgt := 78) hx hb dX8_field_73 (by decide) ?_
        refine mu_Vv (D := D) (G := G) (mo := mo) (ad := ad) (u := (su σ 0 (0) (0), τ)) (As := [.int (nI j), .int name, .int kind, .int dd, .int (((mm ||| 1) ||| 8) ||| 16)]) (rest := []) ⟨hx, hb, hml, hown, hts⟩ (m_lays l D G mo ad (su σ 0 (0) (0)) (τ) _ k h7 hk60 hk59 (nI j) name kind dd (((mm ||| 1) ||| 8) ||| 16)) gV_X8_X8_lays hdV_X8_lays ⟨Nat.le_of_ble_eq_true rfl, Nat.le_of_ble_eq_true rfl⟩ hK hP hD hS hA rfl hl.1 rfl (Nat.le_of_ble_eq_true rfl) dX8_field_78 ⟨Nat.le_of_ble_eq_true rfl, Nat.le_of_ble_eq_true rfl⟩ (fun H locs hP hD hS => ?_)
        have hP : va_P D vwCl (mW G mo ad (su (su (su (su (su (su σ 0 (0) (0)) 9 (k) (nI j)) 10 (k) (name)) 11 (k) (kind)) 12 (k) (dd)) 13 (k) (((mm ||| 1) ||| 8) ||| 16)) (τ)) H := hP
        have hD : va_D A (mW G mo ad (su (su (su (su (su (su σ 0 (0) (0)) 9 (k) (nI j)) 10 (k) (name)) 11 (k) (kind)) 12 (k) (dd)) 13 (k) (((mm ||| 1) ||| 8) ||| 16)) (τ)) := hD
        refine lv_aload_n hx hb dX8_field_81 rfl (lv_at hl 2 rfl) ?_
        refine va_get (D := D) (ci := 8) (v := .ref ((ad 8))) (C := RX8) (T := TX8) (N := 33) hx hb hts iX8 hown hK.1 hP 0 rfl rfl 8 (by decide) (hts _ q_687) (fun _ h9 => h9) rfl dX8_field_82 ?_
        refine lv_aload_n hx hb dX8_field_85 rfl (lv_at hl 2 rfl) ?_
        refine va_get (D := D) (ci := 8) (v := .int (σ 7 0)) (C := RX8) (T := TX8) (N := 33) hx hb hts iX8 hown hK.1 hP 0 rfl rfl 7 (by decide) (hts _ q_686) (fun _ h9 => h9) rfl dX8_field_86 ?_
        refine lv_iconst (v := 0) hx hb dX8_field_89 (by decide) ?_
        refine zast_n hx hb hK.1 hP hD hS 6 2 rfl rfl (k) h7 (by omega) (by decide) (Or.inl rfl) dX8_field_90 (fun H locs hP hD hS => ?_)
        have hP : va_P D vwCl (mW G mo ad (su (su (su (su (su (su (su σ 0 (0) (0)) 9 (k) (nI j)) 10 (k) (name)) 11 (k) (kind)) 12 (k) (dd)) 13 (k) (((mm ||| 1) ||| 8) ||| 16)) 8 (k) (0)) (τ)) H := hP
        have hD : va_D A (mW G mo ad (su (su (su (su (su (su (su σ 0 (0) (0)) 9 (k) (nI j)) 10 (k) (name)) 11 (k) (kind)) 12 (k) (dd)) 13 (k) (((mm ||| 1) ||| 8) ||| 16)) 8 (k) (0)) (τ)) := hD
        refine lv_aload_n hx hb dX8_field_91 rfl (lv_at hl 2 rfl) ?_
        refine va_get (D := D) (ci := 8) (v := .ref ((ad 14))) (C := RX8) (T := TX8) (N := 33) hx hb hts iX8 hown hK.1 hP 0 rfl rfl 14 (by decide) (hts _ q_693) (fun _ h9 => h9) rfl dX8_field_92 ?_
        refine lv_aload_n hx hb dX8_field_95 rfl (lv_at hl 2 rfl) ?_
        refine va_get (D := D) (ci := 8) (v := .int (σ 7 0)) (C := RX8) (T := TX8) (N := 33) hx hb hts iX8 hown hK.1 hP 0 rfl rfl 7 (by decide) (hts _ q_686) (fun _ h9 => h9) rfl dX8_field_96 ?_
        refine lv_iconst (v := 0) hx hb dX8_field_99 (by decide) ?_
        refine zast_n hx hb hK.1 hP hD hS 12 2 rfl rfl (k) h7 (by omega) (by decide) (Or.inl rfl) dX8_field_100 (fun H locs hP hD hS => ?_)
        have hP : va_P D vwCl (mW G mo ad (su (su (su (su (su (su (su (su σ 0 (0) (0)) 9 (k) (nI j)) 10 (k) (name)) 11 (k) (kind)) 12 (k) (dd)) 13 (k) (((mm ||| 1) ||| 8) ||| 16)) 8 (k) (0)) 14 (k) (0)) (τ)) H := hP
        have hD : va_D A (mW G mo ad (su (su (su (su (su (su (su (su σ 0 (0) (0)) 9 (k) (nI j)) 10 (k) (name)) 11 (k) (kind)) 12 (k) (dd)) 13 (k) (((mm ||| 1) ||| 8) ||| 16)) 8 (k) (0)) 14 (k) (0)) (τ)) := hD
        refine lv_aload_n hx hb dX8_field_101 rfl (lv_at hl 2 rfl) ?_
        refine lv_dup hx hb dX8_field_102 rfl ?_
        refine va_get (D := D) (ci := 8) (v := .int (σ 7 0)) (C := RX8) (T := TX8) (N := 33) hx hb hts iX8 hown hK.1 hP 0 rfl rfl 7 (by decide) (hts _ q_686) (fun _ h9 => h9) rfl dX8_field_103 ?_
        refine lv_iconst (v := 1) hx hb dX8_field_106 (by decide) ?_
        refine lv_iadd hx hb dX8_field_107 ?_
        refine W.eq (g2 := F0 m 108 ls [.int (nI (k + 1)), .ref mo]) (congrArg (fun z9 => F0 m 108 ls [.int z9, .ref mo]) (n_add (a := k) (b := 1) h7 (rfl : (1 : Int32) = nI 1))) ?_
        refine va_put (D := D) (ci := 8) (v := .int (nI (k + 1))) (ty := .int) (C := RX8) (T := TX8) (N := 33) hx hb hts iX8 tyX8 tyX8_ok nmX8 hown hK.1 hP hD hS 0 rfl rfl 7 (by decide) (hts _ q_686) (fun _ h9 => h9) rfl (by decide +kernel) rfl rfl (Nat.le_of_ble_eq_true rfl) dX8_field_108 (fun H locs hP hD hS => ?_)
        have hP : va_P D vwCl (mW G mo ad (su (su (su (su (su (su (su (su (su σ 0 (0) (0)) 9 (k) (nI j)) 10 (k) (name)) 11 (k) (kind)) 12 (k) (dd)) 13 (k) (((mm ||| 1) ||| 8) ||| 16)) 8 (k) (0)) 14 (k) (0)) 7 (0) (nI (k + 1))) (τ)) H := hP
        have hD : va_D A (mW G mo ad (su (su (su (su (su (su (su (su (su σ 0 (0) (0)) 9 (k) (nI j)) 10 (k) (name)) 11 (k) (kind)) 12 (k) (dd)) 13 (k) (((mm ||| 1) ||| 8) ||| 16)) 8 (k) (0)) 14 (k) (0)) 7 (0) (nI (k + 1))) (τ)) := hD
        refine lv_aload_n hx hb dX8_field_111 rfl (lv_at hl 2 rfl) ?_
        refine va_get (D := D) (ci := 8) (v := .int (nI (k + 1))) (C := RX8) (T := TX8) (N := 33) hx hb hts iX8 hown hK.1 hP 0 rfl rfl 7 (by decide) (hts _ q_686) (fun _ h9 => h9) rfl dX8_field_112 ?_
        refine lv_iconst (v := 1) hx hb dX8_field_115 (by decide) ?_
        refine lv_isub hx hb dX8_field_116 ?_
        refine W.eq (g2 := F0 m 117 ls [.int (nI k)]) (congrArg (fun z9 => F0 m 117 ls [.int z9]) (nI_pred k)) ?_
        have ho : oField σ τ n k (nI j) name kind dd mm = (nI k, su (su (su (su (su (su (su (su (su σ 0 (0) (0)) 9 (k) (nI j)) 10 (k) (name)) 11 (k) (kind)) 12 (k) (dd)) 13 (k) (((mm ||| 1) ||| 8) ||| 16)) 8 (k) (0)) 14 (k) (0)) 7 (0) (nI (k + 1)), τ) := by unfold oField; simp only [eq_true c2, eq_true c4, eq_true c6, nI_clamp (show j < 2 ^ 31 by omega), not_true, not_false_iff, not_true_eq_false, not_false_eq_true, true_or, or_true, false_or, or_false, or_self, and_self, true_and, and_true, false_and, and_false, if_true, if_false]; try rfl
        exact mu_iret (v0 := nI k) (z := (su (su (su (su (su (su (su (su (su σ 0 (0) (0)) 9 (k) (nI j)) 10 (k) (name)) 11 (k) (kind)) 12 (k) (dd)) 13 (k) (((mm ||| 1) ||| 8) ||| 16)) 8 (k) (0)) 14 (k) (0)) 7 (0) (nI (k + 1)), τ)) hx hb hr hlocks hP hD hS dX8_field_117 (by rw [ho]) (by rw [ho])
    · -- 39 not
      refine lv_aload_n hx hb dX8_field_42 rfl (lv_at hl 2 rfl) ?_
      refine lv_iload hx hb dX8_field_43 (lv_at hl 0 rfl) ?_
      have hok : okR (aRF σ k j name kind mm) := aRF_ok
      refine W.eq (g2 := F0 m 45 ls [.int (nI ((aRF σ k j name kind mm).toNatClampNeg)), .ref mo]) (congrArg (fun z9 => F0 m 45 ls [.int z9, .ref mo]) hok.1) ?_
      refine mu_Vi (D := D) (G := G) (mo := mo) (ad := ad) (u := (su σ 0 (0) (0), τ)) (As := [.int (nI ((aRF σ k j name kind mm).toNatClampNeg))]) (rest := []) ⟨hx, hb, hml, hown, hts⟩ (m_breaks l D G mo ad (su σ 0 (0) (0)) (τ) _ (((aRF σ k j name kind mm).toNatClampNeg)) (by omega)) gV_X8_X8_breaks hdV_X8_breaks ⟨Nat.le_of_ble_eq_true rfl, Nat.le_of_ble_eq_true rfl⟩ hK hP hD hS hA rfl hl.1 rfl (Nat.le_of_ble_eq_true rfl) dX8_field_45 ⟨Nat.le_of_ble_eq_true rfl, Nat.le_of_ble_eq_true rfl⟩ (fun H locs hP hD hS => ?_)
      have hP : va_P D vwCl (mW G mo ad (su (su (su σ 0 (0) (0)) 27 (((aRF σ k j name kind mm).toNatClampNeg)) (σ 27 (((aRF σ k j name kind mm).toNatClampNeg)) + 1)) 26 (0) (σ 26 0 + 1)) (τ)) H := hP
      have hD : va_D A (mW G mo ad (su (su (su σ 0 (0) (0)) 27 (((aRF σ k j name kind mm).toNatClampNeg)) (σ 27 (((aRF σ k j name kind mm).toNatClampNeg)) + 1)) 26 (0) (σ 26 0 + 1)) (τ)) := hD
      refine W.eq (g2 := F0 m 48 ls [.int ((-40) - nI ((aRF σ k j name kind mm).toNatClampNeg))]) rfl ?_
      have ho : oField σ τ n k (nI j) name kind dd mm = ((-40) - nI ((aRF σ k j name kind mm).toNatClampNeg), su (su (su σ 0 (0) (0)) 27 (((aRF σ k j name kind mm).toNatClampNeg)) (σ 27 (((aRF σ k j name kind mm).toNatClampNeg)) + 1)) 26 (0) (σ 26 0 + 1), τ) := by unfold oField; simp only [eq_true c2, eq_false c4, nI_clamp (show j < 2 ^ 31 by omega), not_true, not_false_iff, not_true_eq_false, not_false_eq_true, true_or, or_true, false_or, or_false, or_self, and_self, true_and, and_true, false_and, and_false, if_true, if_false]; try rfl
      exact mu_iret (v0 := (-40) - nI ((aRF σ k j name kind mm).toNatClampNeg)) (z := (su (su (su σ 0 (0) (0)) 27 (((aRF σ k j name kind mm).toNatClampNeg)) (σ 27 (((aRF σ k j name kind mm).toNatClampNeg)) + 1)) 26 (0) (σ 26 0 + 1), τ)) hx hb hr hlocks hP hD hS dX8_field_48 (by rw [ho]) (by rw [ho])
  · -- 20 not
    refine lv_iload hx hb dX8_field_23 (lv_at hl 0 rfl) ?_
    have ho : oField σ τ n k t name kind dd mm = (aRef σ n t name kind dd mm, su σ 0 (0) (0), τ) := by unfold oField; simp only [eq_false c2, not_true, not_false_iff, not_true_eq_false, not_false_eq_true, true_or, or_true, false_or, or_false, or_self, and_self, true_and, and_true, false_and, and_false, if_true, if_false]; try rfl
    exact mu_iret (v0 := aRef σ n t name kind dd mm) (z := (su σ 0 (0) (0), τ)) hx hb hr hlocks hP hD hS dX8_field_25 (by rw [ho]) (by rw [ho])
set_option maxHeartbeats 4000000 in
set_option maxRecDepth 100000 in
theorem m_member (l : Launch) (D : va_G) (G : Nat → ClassId) (mo : Nat) (ad : Nat → Nat) (σ : MS) (τ : Nat → Int64) (sz : Nat) (n : Nat) (h1 : σ 1 0 = nI n) (hn : n ≤ 12) (k : Nat) (h7 : σ 7 0 = nI k) (hk60 : k ≤ 60) (t : Int32) (name : Int32) (kind : Int32) (dd : Int32) (mm : Int32) (bd : Int32) (hbd : bd = 0 ∨ bd = 1) : Met l yX8_member (ww yX8_member cX8_member 10 (some .int)) (rmD 4) (muP D G sz mo ad (σ, τ) [.ref mo, .int t, .int name, .int kind, .int dd, .int mm, .int bd]) (muQi D G mo ad (muA G mo ad (σ, τ) sz) (oMember σ τ n k t name kind dd mm bd).1 (oMember σ τ n k t name kind dd mm bd).2) 0 0 (muA G mo ad (σ, τ) sz) := by
  refine Met.ofW (cc := cX8_member) (maxL := 10) (ret := (some .int)) (by decide) rfl ?_
  intro p e s m args below meth c s₁ B hml hv
  obtain ⟨rfl, hsz, hP, hK, hD0⟩ := hv
  have hx := B.exec
  have hb := B.bytes
  have hr := B.returns
  have hts : ∀ w ∈ TT, w.before _ s = true := fun w h => atoms_spec (ws := ww yX8_member cX8_member 10 (some .int)) B.pre w (List.mem_cons_of_mem _ h)
  have hown : s.vm.findClass RX8 = some m.cls := findClass_of_methodNamed B.named
  have hlocks := B.notSynchronized
  subst hsz
  have hD : va_D (muA G mo ad (σ, τ) s.heap.size) (mW G mo ad σ τ) := hD0.self
  generalize hAe : muA G mo ad (σ, τ) s.heap.size = A at hD ⊢
  have hA : ∀ q : Nat, s.heap.size ≤ q → A q := fun q h => by rw [← hAe]; exact Or.inr h
  have hS : va_S A s.heap s.heap [] := va_S.rf
  have hP : va_P D vwCl (mW G mo ad σ τ) s.heap := hP
  have hl := lv_entry ([.ref mo, .int t, .int name, .int kind, .int dd, .int mm, .int bd]) (n := 10) (Nat.le_of_ble_eq_true rfl)
  rw [lg_entry_eq]
  generalize (lg_sl ([.ref mo, .int t, .int name, .int kind, .int dd, .int mm, .int bd]) ++ List.replicate (10 - (lg_sl ([.ref mo, .int t, .int name, .int kind, .int dd, .int mm, .int bd])).length) Slot.unset).toArray = ls at hl ⊢
  have hl : lv_has ls 10 [(0, .ref mo), (1, .int t), (2, .int name), (3, .int kind), (4, .int dd), (5, .int mm), (6, .int bd)] := hl
  refine lv_aload_n hx hb dX8_member_0 rfl (lv_at hl 0 rfl) ?_
  refine lv_iconst (v := 0) hx hb dX8_member_1 (by decide) ?_
  refine va_put (D := D) (ci := 8) (v := .int 0) (ty := .int) (C := RX8) (T := TX8) (N := 33) hx hb hts iX8 tyX8 tyX8_ok nmX8 hown hK.1 hP hD hS 0 rfl rfl 0 (by decide) (hts _ q_679) (fun _ h9 => h9) rfl (by decide +kernel) rfl rfl (Nat.le_of_ble_eq_true rfl) dX8_member_2 (fun H locs hP hD hS => ?_)
  have hP : va_P D vwCl (mW G mo ad (su σ 0 (0) (0)) (τ)) H := hP
  have hD : va_D A (mW G mo ad (su σ 0 (0) (0)) (τ)) := hD
  refine lv_aload_n hx hb dX8_member_5 rfl (lv_at hl 0 rfl) ?_
  refine lv_iload_n hx hb dX8_member_6 rfl (lv_at hl 1 rfl) ?_
  refine lv_iload_n hx hb dX8_member_7 rfl (lv_at hl 2 rfl) ?_
  refine lv_iload_n hx hb dX8_member_8 rfl (lv_at hl 3 rfl) ?_
  refine lv_iload hx hb dX8_member_9 (lv_at hl 4 rfl) ?_
  refine lv_iload hx hb dX8_member_11 (lv_at hl 5 rfl) ?_
  refine ro_Vi (D := D) (G := G) (As := [.int t, .int name, .int kind, .int dd, .int mm]) (rest := []) ⟨hx, hb, hml, hown, hts⟩ (m_refusal l D G _ mo ad _ _ hP n h1 hn t name kind dd mm) gV_X8_X8_refusal hdV_X8_refusal ⟨Nat.le_of_ble_eq_true rfl, Nat.le_of_ble_eq_true rfl⟩ hK (va_recv hK.1 hP (ci := 8) (q0 := 0) rfl rfl) rfl hl.1 rfl (Nat.le_of_ble_eq_true rfl) dX8_member_13 ⟨Nat.le_of_ble_eq_true rfl, Nat.le_of_ble_eq_true rfl⟩ (fun r1 e_r1 => ?_)
  subst e_r1
  refine W.eq (g2 := F0 m 16 ls [.int (aRef σ n t name kind dd mm)]) rfl ?_
  refine lv_istore (lv' := [(7, .int (aRef σ n t name kind dd mm)), (0, .ref mo), (1, .int t), (2, .int name), (3, .int kind), (4, .int dd), (5, .int mm), (6, .int bd)]) hx hb dX8_member_16 hl (by decide) rfl (fun ls hl => ?_)
  refine lv_iload hx hb dX8_member_18 (lv_at hl 0 rfl) ?_
  refine lv_if_ge (tgt := 26) hx hb dX8_member_20 (by decide) (fun c2 => ?_) (fun c2 => ?_)
  · -- 20 taken
    have hr0 := aRef_ok c2
    have hk59 : k < 60 := by rcases Nat.lt_or_ge k 60 with h9 | h9; exact h9; exact absurd (by rw [h7, show k = 60 by omega]; rfl) hr0.2.2.2.2.2.2.2.2.2
    obtain ⟨j, h_j, rfl⟩ := okN_ex (by omega) hr0.1
    refine lv_aload_n hx hb dX8_member_26 rfl (lv_at hl 1 rfl) ?_
    refine lv_iload_n hx hb dX8_member_27 rfl (lv_at hl 2 rfl) ?_
    refine lv_iload hx hb dX8_member_28 (lv_at hl 6 rfl) ?_
    refine lv_iload hx hb dX8_member_30 (lv_at hl 7 rfl) ?_
    refine ro_Vi (D := D) (G := G) (As := [.int (nI j), .int mm, .int bd]) (rest := []) ⟨hx, hb, hml, hown, hts⟩ (m_ruleOfMember l D G _ mo ad _ _ hP (j) (by omega) mm bd) gV_X8_X8_ruleOfMember hdV_X8_ruleOfMember ⟨Nat.le_of_ble_eq_true rfl, Nat.le_of_ble_eq_true rfl⟩ hK (va_recv hK.1 hP (ci := 8) (q0 := 0) rfl rfl) rfl hl.1 rfl (Nat.le_of_ble_eq_true rfl) dX8_member_32 ⟨Nat.le_of_ble_eq_true rfl, Nat.le_of_ble_eq_true rfl⟩ (fun r3 e_r3 => ?_)
    subst e_r3
    refine W.eq (g2 := F0 m 35 ls [.int (aRM (σ 2 j) mm bd)]) rfl ?_
    refine lv_istore (lv' := [(8, .int (aRM (σ 2 j) mm bd)), (7, .int (aRef σ n (nI j) name kind dd mm)), (0, .ref mo), (1, .int (nI j)), (2, .int name), (3, .int kind), (4, .int dd), (5, .int mm), (6, .int bd)]) hx hb dX8_member_35 hl (by decide) rfl (fun ls hl => ?_)
    refine lv_iload hx hb dX8_member_37 (lv_at hl 0 rfl) ?_
    refine lv_if_le (tgt := 49) hx hb dX8_member_39 (by decide) (fun c4 => ?_) (fun c4 => ?_)
    · -- 39 taken
      refine lv_iload hx hb dX8_member_49 (lv_at hl 7 rfl) ?_
      refine lv_istore (lv' := [(9, .int mm), (8, .int (aRM (σ 2 j) mm bd)), (7, .int (aRef σ n (nI j) name kind dd mm)), (0, .ref mo), (1, .int (nI j)), (2, .int name), (3, .int kind), (4, .int dd), (5, .int mm), (6, .int bd)]) hx hb dX8_member_51 hl (by decide) rfl (fun ls hl => ?_)
      refine lv_aload_n hx hb dX8_member_53 rfl (lv_at hl 3 rfl) ?_
      refine lv_iload_n hx hb dX8_member_54 rfl (lv_at hl 4 rfl) ?_
      refine ro_Vi (D := D) (G := G) (As := [.int (nI j)]) (rest := []) ⟨hx, hb, hml, hown, hts⟩ (m_isFace l D G _ mo ad _ _ hP (j) (by omega)) gV_X8_X8_isFace hdV_X8_isFace ⟨Nat.le_of_ble_eq_true rfl, Nat.le_of_ble_eq_true rfl⟩ hK (va_recv hK.1 hP (ci := 8) (q0 := 0) rfl rfl) rfl hl.1 rfl (Nat.le_of_ble_eq_true rfl) dX8_member_55 ⟨Nat.le_of_ble_eq_true rfl, Nat.le_of_ble_eq_true rfl⟩ (fun r5 e_r5 => ?_)
      subst e_r5
      refine W.eq (g2 := F0 m 58 ls [.int (bI (σ 2 (j) = 3))]) rfl ?_
      refine lv_if_eq (tgt := 99) hx hb dX8_member_58 (by decide) (fun c6 => ?_) (fun c6 => ?_)
      · -- 58 taken
        have c6 := bI_0 c6
        refine lv_aload_n hx hb dX8_member_99 rfl (lv_at hl 3 rfl) ?_
        refine lv_iload_n hx hb dX8_member_100 rfl (lv_at hl 4 rfl) ?_
        refine lv_iload_n hx hb dX8_member_101 rfl (lv_at hl 5 rfl) ?_
        refine lv_iload_n hx hb dX8_member_102 rfl (lv_at hl 6 rfl) ?_
        refine lv_iload hx hb dX8_member_103 (lv_at hl 7 rfl) ?_
        refine lv_iload hx hb dX8_member_105 (lv_at hl 0 rfl) ?_
        refine mu_Vv (D := D) (G := G) (mo := mo) (ad := ad) (u := (su σ 0 (0) (0), τ)) (As := [.int (nI j), .int name, .int kind, .int dd, .int mm]) (rest := []) ⟨hx, hb, hml, hown, hts⟩ (m_lays l D G mo ad (su σ 0 (0) (0)) (τ) _ k h7 hk60 hk59 (nI j) name kind dd mm) gV_X8_X8_lays hdV_X8_lays ⟨Nat.le_of_ble_eq_true rfl, Nat.le_of_ble_eq_true rfl⟩ hK hP hD hS hA rfl hl.1 rfl (Nat.le_of_ble_eq_true rfl) dX8_member_107 ⟨Nat.le_of_ble_eq_true rfl, Nat.le_of_ble_eq_true rfl⟩ (fun H locs hP hD hS => ?_)
        have hP : va_P D vwCl (mW G mo ad (su (su (su (su (su (su σ 0 (0) (0)) 9 (k) (nI j)) 10 (k) (name)) 11 (k) (kind)) 12 (k) (dd)) 13 (k) (mm)) (τ)) H := hP
        have hD : va_D A (mW G mo ad (su (su (su (su (su (su σ 0 (0) (0)) 9 (k) (nI j)) 10 (k) (name)) 11 (k) (kind)) 12 (k) (dd)) 13 (k) (mm)) (τ)) := hD
        refine lv_aload_n hx hb dX8_member_110 rfl (lv_at hl 3 rfl) ?_
        refine va_get (D := D) (ci := 8) (v := .ref ((ad 16))) (C := RX8) (T := TX8) (N := 33) hx hb hts iX8 hown hK.1 hP 0 rfl rfl 16 (by decide) (hts _ q_695) (fun _ h9 => h9) rfl dX8_member_111 ?_
        refine lv_aload_n hx hb dX8_member_114 rfl (lv_at hl 3 rfl) ?_
        refine va_get (D := D) (ci := 8) (v := .int (σ 7 0)) (C := RX8) (T := TX8) (N := 33) hx hb hts iX8 hown hK.1 hP 0 rfl rfl 7 (by decide) (hts _ q_686) (fun _ h9 => h9) rfl dX8_member_115 ?_
        refine lv_iload hx hb dX8_member_118 (lv_at hl 9 rfl) ?_
        refine zast_n hx hb hK.1 hP hD hS 14 2 rfl rfl (k) h7 (by omega) (by decide) hbd dX8_member_120 (fun H locs hP hD hS => ?_)
        have hP : va_P D vwCl (mW G mo ad (su (su (su (su (su (su (su σ 0 (0) (0)) 9 (k) (nI j)) 10 (k) (name)) 11 (k) (kind)) 12 (k) (dd)) 13 (k) (mm)) 16 (k) (bd)) (τ)) H := hP
        have hD : va_D A (mW G mo ad (su (su (su (su (su (su (su σ 0 (0) (0)) 9 (k) (nI j)) 10 (k) (name)) 11 (k) (kind)) 12 (k) (dd)) 13 (k) (mm)) 16 (k) (bd)) (τ)) := hD
        refine lv_aload_n hx hb dX8_member_121 rfl (lv_at hl 3 rfl) ?_
        refine va_get (D := D) (ci := 8) (v := .ref ((ad 17))) (C := RX8) (T := TX8) (N := 33) hx hb hts iX8 hown hK.1 hP 0 rfl rfl 17 (by decide) (hts _ q_696) (fun _ h9 => h9) rfl dX8_member_122 ?_
        refine lv_aload_n hx hb dX8_member_125 rfl (lv_at hl 3 rfl) ?_
        refine va_get (D := D) (ci := 8) (v := .int (σ 7 0)) (C := RX8) (T := TX8) (N := 33) hx hb hts iX8 hown hK.1 hP 0 rfl rfl 7 (by decide) (hts _ q_686) (fun _ h9 => h9) rfl dX8_member_126 ?_
        refine lv_iconst (v := 0) hx hb dX8_member_129 (by decide) ?_
        refine zast_n hx hb hK.1 hP hD hS 15 2 rfl rfl (k) h7 (by omega) (by decide) (Or.inl rfl) dX8_member_130 (fun H locs hP hD hS => ?_)
        have hP : va_P D vwCl (mW G mo ad (su (su (su (su (su (su (su (su σ 0 (0) (0)) 9 (k) (nI j)) 10 (k) (name)) 11 (k) (kind)) 12 (k) (dd)) 13 (k) (mm)) 16 (k) (bd)) 17 (k) (0)) (τ)) H := hP
        have hD : va_D A (mW G mo ad (su (su (su (su (su (su (su (su σ 0 (0) (0)) 9 (k) (nI j)) 10 (k) (name)) 11 (k) (kind)) 12 (k) (dd)) 13 (k) (mm)) 16 (k) (bd)) 17 (k) (0)) (τ)) := hD
        refine lv_aload_n hx hb dX8_member_131 rfl (lv_at hl 3 rfl) ?_
        refine va_get (D := D) (ci := 8) (v := .ref ((ad 18))) (C := RX8) (T := TX8) (N := 33) hx hb hts iX8 hown hK.1 hP 0 rfl rfl 18 (by decide) (hts _ q_697) (fun _ h9 => h9) rfl dX8_member_132 ?_
        refine lv_aload_n hx hb dX8_member_135 rfl (lv_at hl 3 rfl) ?_
        refine va_get (D := D) (ci := 8) (v := .int (σ 7 0)) (C := RX8) (T := TX8) (N := 33) hx hb hts iX8 hown hK.1 hP 0 rfl rfl 7 (by decide) (hts _ q_686) (fun _ h9 => h9) rfl dX8_member_136 ?_
        refine lv_iconst (v := 0) hx hb dX8_member_139 (by decide) ?_
        refine iast_n hx hb hK.1 hP hD hS 16 0 rfl rfl (k) h7 (by omega) (by decide) dX8_member_140 (fun H locs hP hD hS => ?_)
        have hP : va_P D vwCl (mW G mo ad (su (su (su (su (su (su (su (su (su σ 0 (0) (0)) 9 (k) (nI j)) 10 (k) (name)) 11 (k) (kind)) 12 (k) (dd)) 13 (k) (mm)) 16 (k) (bd)) 17 (k) (0)) 18 (k) (0)) (τ)) H := hP
        have hD : va_D A (mW G mo ad (su (su (su (su (su (su (su (su (su σ 0 (0) (0)) 9 (k) (nI j)) 10 (k) (name)) 11 (k) (kind)) 12 (k) (dd)) 13 (k) (mm)) 16 (k) (bd)) 17 (k) (0)) 18 (k) (0)) (τ)) := hD
        refine lv_aload_n hx hb dX8_member_141 rfl (lv_at hl 3 rfl) ?_
        refine lv_iconst (v := 1) hx hb dX8_member_142 (by decide) ?_
        refine va_put (D := D) (ci := 8) (v := .int 1) (ty := .boolean) (C := RX8) (T := TX8) (N := 33) hx hb hts iX8 tyX8 tyX8_ok nmX8 hown hK.1 hP hD hS 0 rfl rfl 21 (by decide) (hts _ q_700) (fun _ h9 => h9) rfl (by decide +kernel) rfl rfl (Nat.le_of_ble_eq_true rfl) dX8_member_143 (fun H locs hP hD hS => ?_)
        have hP : va_P D vwCl (mW G mo ad (su (su (su (su (su (su (su (su (su (su σ 0 (0) (0)) 9 (k) (nI j)) 10 (k) (name)) 11 (k) (kind)) 12 (k) (dd)) 13 (k) (mm)) 16 (k) (bd)) 17 (k) (0)) 18 (k) (0)) 21 (0) (1)) (τ)) H := hP
        have hD : va_D A (mW G mo ad (su (su (su (su (su (su (su (su (su (su σ 0 (0) (0)) 9 (k) (nI j)) 10 (k) (name)) 11 (k) (kind)) 12 (k) (dd)) 13 (k) (mm)) 16 (k) (bd)) 17 (k) (0)) 18 (k) (0)) 21 (0) (1)) (τ)) := hD
        refine lv_iconst (v := 1) hx hb dX8_member_146 (by decide) ?_
        have ho : oMember σ τ n k (nI j) name kind dd mm bd = (1, su (su (su (su (su (su (su (su (su (su σ 0 (0) (0)) 9 (k) (nI j)) 10 (k) (name)) 11 (k) (kind)) 12 (k) (dd)) 13 (k) (mm)) 16 (k) (bd)) 17 (k) (0)) 18 (k) (0)) 21 (0) (1), τ) := by unfold oMember allM; simp only [eq_true c2, eq_true c4, eq_false c6, nI_clamp (show j < 2 ^ 31 by omega), not_true, not_false_iff, not_true_eq_false, not_false_eq_true, true_or, or_true, false_or, or_false, or_self, and_self, true_and, and_true, false_and, and_false, if_true, if_false]; try rfl
        exact mu_iret (v0 := 1) (z := (su (su (su (su (su (su (su (su (su (su σ 0 (0) (0)) 9 (k) (nI j)) 10 (k) (name)) 11 (k) (kind)) 12 (k) (dd)) 13 (k) (mm)) 16 (k) (bd)) 17 (k) (0)) 18 (k) (0)) 21 (0) (1), τ)) hx hb hr hlocks hP hD hS dX8_member_147 (by rw [ho]) (by rw [ho])
      · -- 58 not
        have c6 := bI_1 c6
        refine lv_iload hx hb dX8_member_61 (lv_at hl 0 rfl) ?_
        refine lv_iload hx hb dX8_member_63 (lv_at hl 8 rfl) ?_
        refine lv_iconst (v := 4) hx hb dX8_member_65 (by decide) ?_
        refine lv_iand hx hb dX8_member_66 ?_
        refine lv_if_ne (tgt := 74) hx hb dX8_member_67 (by decide) (fun c7 => ?_) (fun c7 => ?_)
        · -- 67 taken
          refine lv_iconst (v := 0) hx hb dX8_member_74 (by decide) ?_
          refine lv_ior hx hb dX8_member_75 ?_
          refine lv_istore (lv' := [(9, .int (mm ||| 0)), (8, .int (aRM (σ 2 j) mm bd)), (7, .int (aRef σ n (nI j) name kind dd mm)), (0, .ref mo), (1, .int (nI j)), (2, .int name), (3, .int kind), (4, .int dd), (5, .int mm), (6, .int bd)]) hx hb dX8_member_76 hl (by decide) rfl (fun ls hl => ?_)
          refine lv_iload hx hb dX8_member_78 (lv_at hl 0 rfl) ?_
          refine lv_iload hx hb dX8_member_80 (lv_at hl 8 rfl) ?_
          refine lv_sipush (v := 1036) hx hb dX8_member_82 (by decide) ?_
          refine lv_iand hx hb dX8_member_85 ?_
          refine lv_if_ne (tgt := 95) hx hb dX8_member_86 (by decide) (fun c8 => ?_) (fun c8 => ?_)
          · -- 86 taken
            refine lv_iconst (v := 0) hx hb dX8_member_95 (by decide) ?_
            refine lv_ior hx hb dX8_member_96 ?_
            refine lv_istore (lv' := [(9, .int ((mm ||| 0) ||| 0)), (8, .int (aRM (σ 2 j) mm bd)), (7, .int (aRef σ n (nI j) name kind dd mm)), (0, .ref mo), (1, .int (nI j)), (2, .int name), (3, .int kind), (4, .int dd), (5, .int mm), (6, .int bd)]) hx hb dX8_member_97 hl (by decide) rfl (fun ls hl => ?_)
            refine lv_aload_n hx hb dX8_member_99 rfl (lv_at hl 3 rfl) ?_
            refine lv_iload_n hx hb dX8_member_100 rfl (lv_at hl 4 rfl) ?_
            refine lv_iload_n hx hb dX8_member_101 rfl (lv_at hl 5 rfl) ?_
            refine lv_iload_n hx hb dX8_member_102 rfl (lv_at hl 6 rfl) ?_
            refine lv_iload hx hb dX8_member_103 (lv_at hl 7 rfl) ?_
            refine lv_iload hx hb dX8_member_105 (lv_at hl 0 rfl) ?_
            refine mu_Vv (D := D) (G := G) (mo := mo) (ad := ad) (u := (su σ 0 (0) (0), τ)) (As := [.int (nI j), .int name, .int kind, .int dd, .int ((mm ||| 0) ||| 0)]) (rest := []) ⟨hx, hb, hml, hown, hts⟩ (m_lays l D G mo ad (su σ 0 (0) (0)) (τ) _ k h7 hk60 hk59 (nI j) name kind dd ((mm ||| 0) ||| 0)) gV_X8_X8_lays hdV_X8_lays ⟨Nat.le_of_ble_eq_true rfl, Nat.le_of_ble_eq_true rfl⟩ hK hP hD hS hA rfl hl.1 rfl (Nat.le_of_ble_eq_true rfl) dX8_member_107 ⟨Nat.le_of_ble_eq_true rfl, Nat.le_of_ble_eq_true rfl⟩ (fun H locs hP hD hS => ?_)
            have hP : va_P D vwCl (mW G mo ad (su (su (su (su (su (su σ 0 (0) (0)) 9 (k) (nI j)) 10 (k) (name)) 11 (k) (kind)) 12 (k) (dd)) 13 (k) ((mm ||| 0) ||| 0)) (τ)) H := hP
            have hD : va_D A (mW G mo ad (su (su (su (su (su (su σ 0 (0) (0)) 9 (k) (nI j)) 10 (k) (name)) 11 (k) (kind)) 12 (k) (dd)) 13 (k) ((mm ||| 0) ||| 0)) (τ)) := hD
            refine lv_aload_n hx hb dX8_member_110 rfl (lv_at hl 3 rfl) ?_
            refine va_get (D := D) (ci := 8) (v := .ref ((ad 16))) (C := RX8) (T := TX8) (N := 33) hx hb hts iX8 hown hK.1 hP 0 rfl rfl 16 (by decide) (hts _ q_695) (fun _ h9 => h9) rfl dX8_member_111 ?_
            refine lv_aload_n hx hb dX8_member_114 rfl (lv_at hl 3 rfl) ?_
            refine va_get (D := D) (ci := 8) (v := .int (σ 7 0)) (C := RX8) (T := TX8) (N := 33) hx hb hts iX8 hown hK.1 hP 0 rfl rfl 7 (by decide) (hts _ q_686) (fun _ h9 => h9) rfl dX8_member_115 ?_
            refine lv_iload hx hb dX8_member_118 (lv_at hl 9 rfl) ?_
            refine zast_n hx hb hK.1 hP hD hS 14 2 rfl rfl (k) h7 (by omega) (by decide) hbd dX8_member_120 (fun H locs hP hD hS => ?_)
            have hP : va_P D vwCl (mW G mo ad (su (su (su (su (su (su (su σ 0 (0) (0)) 9 (k) (nI j)) 10 (k) (name)) 11 (k) (kind)) 12 (k) (dd)) 13 (k) ((mm ||| 0) ||| 0)) 16 (k) (bd)) (τ)) H := hP
            have hD : va_D A (mW G mo ad (su (su (su (su (su (su (su σ 0 (0) (0)) 9 (k) (nI j)) 10 (k) (name)) 11 (k) (kind)) 12 (k) (dd)) 13 (k) ((mm ||| 0) ||| 0)) 16 (k) (bd)) (τ)) := hD
            refine lv_aload_n hx hb dX8_member_121 rfl (lv_at hl 3 rfl) ?_
            refine va_get (D := D) (ci := 8) (v := .ref ((ad 17))) (C := RX8) (T := TX8) (N := 33) hx hb hts iX8 hown hK.1 hP 0 rfl rfl 17 (by decide) (hts _ q_696) (fun _ h9 => h9) rfl dX8_member_122 ?_
            refine lv_aload_n hx hb dX8_member_125 rfl (lv_at hl 3 rfl) ?_
            refine va_get (D := D) (ci := 8) (v := .int (σ 7 0)) (C := RX8) (T := TX8) (N := 33) hx hb hts iX8 hown hK.1 hP 0 rfl rfl 7 (by decide) (hts _ q_686) (fun _ h9 => h9) rfl dX8_member_126 ?_
            refine lv_iconst (v := 0) hx hb dX8_member_129 (by decide) ?_
            refine zast_n hx hb hK.1 hP hD hS 15 2 rfl rfl (k) h7 (by omega) (by decide) (Or.inl rfl) dX8_member_130 (fun H locs hP hD hS => ?_)
            have hP : va_P D vwCl (mW G mo ad (su (su (su (su (su (su (su (su σ 0 (0) (0)) 9 (k) (nI j)) 10 (k) (name)) 11 (k) (kind)) 12 (k) (dd)) 13 (k) ((mm ||| 0) ||| 0)) 16 (k) (bd)) 17 (k) (0)) (τ)) H := hP
            have hD : va_D A (mW G mo ad (su (su (su (su (su (su (su (su σ 0 (0) (0)) 9 (k) (nI j)) 10 (k) (name)) 11 (k) (kind)) 12 (k) (dd)) 13 (k) ((mm ||| 0) ||| 0)) 16 (k) (bd)) 17 (k) (0)) (τ)) := hD
            refine lv_aload_n hx hb dX8_member_131 rfl (lv_at hl 3 rfl) ?_
            refine va_get (D := D) (ci := 8) (v := .ref ((ad 18))) (C := RX8) (T := TX8) (N := 33) hx hb hts iX8 hown hK.1 hP 0 rfl rfl 18 (by decide) (hts _ q_697) (fun _ h9 => h9) rfl dX8_member_132 ?_
            refine lv_aload_n hx hb dX8_member_135 rfl (lv_at hl 3 rfl) ?_
            refine va_get (D := D) (ci := 8) (v := .int (σ 7 0)) (C := RX8) (T := TX8) (N := 33) hx hb hts iX8 hown hK.1 hP 0 rfl rfl 7 (by decide) (hts _ q_686) (fun _ h9 => h9) rfl dX8_member_136 ?_
            refine lv_iconst (v := 0) hx hb dX8_member_139 (by decide) ?_
            refine iast_n hx hb hK.1 hP hD hS 16 0 rfl rfl (k) h7 (by omega) (by decide) dX8_member_140 (fun H locs hP hD hS => ?_)
            have hP : va_P D vwCl (mW G mo ad (su (su (su (su (su (su (su (su (su σ 0 (0) (0)) 9 (k) (nI j)) 10 (k) (name)) 11 (k) (kind)) 12 (k) (dd)) 13 (k) ((mm ||| 0) ||| 0)) 16 (k) (bd)) 17 (k) (0)) 18 (k) (0)) (τ)) H := hP
            have hD : va_D A (mW G mo ad (su (su (su (su (su (su (su (su (su σ 0 (0) (0)) 9 (k) (nI j)) 10 (k) (name)) 11 (k) (kind)) 12 (k) (dd)) 13 (k) ((mm ||| 0) ||| 0)) 16 (k) (bd)) 17 (k) (0)) 18 (k) (0)) (τ)) := hD
            refine lv_aload_n hx hb dX8_member_141 rfl (lv_at hl 3 rfl) ?_
            refine lv_iconst (v := 1) hx hb dX8_member_142 (by decide) ?_
            refine va_put (D := D) (ci := 8) (v := .int 1) (ty := .boolean) (C := RX8) (T := TX8) (N := 33) hx hb hts iX8 tyX8 tyX8_ok nmX8 hown hK.1 hP hD hS 0 rfl rfl 21 (by decide) (hts _ q_700) (fun _ h9 => h9) rfl (by decide +kernel) rfl rfl (Nat.le_of_ble_eq_true rfl) dX8_member_143 (fun H locs hP hD hS => ?_)
            have hP : va_P D vwCl (mW G mo ad (su (su (su (su (su (su (su (su (su (su σ 0 (0) (0)) 9 (k) (nI j)) 10 (k) (name)) 11 (k) (kind)) 12 (k) (dd)) 13 (k) ((mm ||| 0) ||| 0)) 16 (k) (bd)) 17 (k) (0)) 18 (k) (0)) 21 (0) (1)) (τ)) H := hP
            have hD : va_D A (mW G mo ad (su (su (su (su (su (su (su (su (su (su σ 0 (0) (0)) 9 (k) (nI j)) 10 (k) (name)) 11 (k) (kind)) 12 (k) (dd)) 13 (k) ((mm ||| 0) ||| 0)) 16 (k) (bd)) 17 (k) (0)) 18 (k) (0)) 21 (0) (1)) (τ)) := hD
            refine lv_iconst (v := 1) hx hb dX8_member_146 (by decide) ?_
            have ho : oMember σ τ n k (nI j) name kind dd mm bd = (1, su (su (su (su (su (su (su (su (su (su σ 0 (0) (0)) 9 (k) (nI j)) 10 (k) (name)) 11 (k) (kind)) 12 (k) (dd)) 13 (k) ((mm ||| 0) ||| 0)) 16 (k) (bd)) 17 (k) (0)) 18 (k) (0)) 21 (0) (1), τ) := by unfold oMember allM; simp only [eq_true c2, eq_true c4, eq_true c6, eq_false c7, eq_false c8, nI_clamp (show j < 2 ^ 31 by omega), not_true, not_false_iff, not_true_eq_false, not_false_eq_true, true_or, or_true, false_or, or_false, or_self, and_self, true_and, and_true, false_and, and_false, if_true, if_false]; try rfl
            exact mu_iret (v0 := 1) (z := (su (su (su (su (su (su (su (su (su (su σ 0 (0) (0)) 9 (k) (nI j)) 10 (k) (name)) 11 (k) (kind)) 12 (k) (dd)) 13 (k) ((mm ||| 0) ||| 0)) 16 (k) (bd)) 17 (k) (0)) 18 (k) (0)) 21 (0) (1), τ)) hx hb hr hlocks hP hD hS dX8_member_147 (by rw [ho]) (by rw [ho])
          · -- 86 not
            refine lv_sipush (v := 128) hx hb dX8_member_89 (by decide) ?_
            refine lv_goto (tgt := 96) hx hb dX8_member_92 (by decide) ?_
            refine lv_ior hx hb dX8_member_96 ?_
            refine lv_istore (lv' := [(9, .int ((mm ||| 0) ||| 128)), (8, .int (aRM (σ 2 j) mm bd)), (7, .int (aRef σ n (nI j) name kind dd mm)), (0, .ref mo), (1, .int (nI j)), (2, .int name), (3, .int kind), (4, .int dd), (5, .int mm), (6, .int bd)]) hx hb dX8_member_97 hl (by decide) rfl (fun ls hl => ?_)
            refine lv_aload_n hx hb dX8_member_99 rfl (lv_at hl 3 rfl) ?_
            refine lv_iload_n hx hb dX8_member_100 rfl (lv_at hl 4 rfl) ?_
            refine lv_iload_n hx hb dX8_member_101 rfl (lv_at hl 5 rfl) ?_
            refine lv_iload_n hx hb dX8_member_102 rfl (lv_at hl 6 rfl) ?_
            refine lv_iload hx hb dX8_member_103 (lv_at hl 7 rfl) ?_
            refine lv_iload hx hb dX8_member_105 (lv_at hl 0 rfl) ?_
            refine mu_Vv (D := D) (G := G) (mo := mo) (ad := ad) (u := (su σ 0 (0) (0), τ)) (As := [.int (nI j), .int name, .int kind, .int dd, .int ((mm ||| 0) ||| 128)]) (rest := []) ⟨hx, hb, hml, hown, hts⟩ (m_lays l D G mo ad (su σ 0 (0) (0)) (τ) _ k h7 hk60 hk59 (nI j) name kind dd ((mm ||| 0) ||| 128)) gV_X8_X8_lays hdV_X8_lays ⟨Nat.le_of_ble_eq_true rfl, Nat.le_of_ble_eq_true rfl⟩ hK hP hD hS hA rfl hl.1 rfl (Nat.le_of_ble_eq_true rfl) dX8_member_107 ⟨Nat.le_of_ble_eq_true rfl, Nat.le_of_ble_eq_true rfl⟩ (fun H locs hP hD hS => ?_)
            have hP : va_P D vwCl (mW G mo ad (su (su (su (su (su (su σ 0 (0) (0)) 9 (k) (nI j)) 10 (k) (name)) 11 (k) (kind)) 12 (k) (dd)) 13 (k) ((mm ||| 0) ||| 128)) (τ)) H := hP
            have hD : va_D A (mW G mo ad (su (su (su (su (su (su σ 0 (0) (0)) 9 (k) (nI j)) 10 (k) (name)) 11 (k) (kind)) 12 (k) (dd)) 13 (k) ((mm ||| 0) ||| 128)) (τ)) := hD
            refine lv_aload_n hx hb dX8_member_110 rfl (lv_at hl 3 rfl) ?_
            refine va_get (D := D) (ci := 8) (v := .ref ((ad 16))) (C := RX8) (T := TX8) (N := 33) hx hb hts iX8 hown hK.1 hP 0 rfl rfl 16 (by decide) (hts _ q_695) (fun _ h9 => h9) rfl dX8_member_111 ?_
            refine lv_aload_n hx hb dX8_member_114 rfl (lv_at hl 3 rfl) ?_
            refine va_get (D := D) (ci := 8) (v := .int (σ 7 0)) (C := RX8) (T := TX8) (N := 33) hx hb hts iX8 hown hK.1 hP 0 rfl rfl 7 (by decide) (hts _ q_686) (fun _ h9 => h9) rfl dX8_member_115 ?_
            refine lv_iload hx hb dX8_member_118 (lv_at hl 9 rfl) ?_
            refine zast_n hx hb hK.1 hP hD hS 14 2 rfl rfl (k) h7 (by omega) (by decide) hbd dX8_member_120 (fun H locs hP hD hS => ?_)
            have hP : va_P D vwCl (mW G mo ad (su (su (su (su (su (su (su σ 0 (0) (0)) 9 (k) (nI j)) 10 (k) (name)) 11 (k) (kind)) 12 (k) (dd)) 13 (k) ((mm ||| 0) ||| 128)) 16 (k) (bd)) (τ)) H := hP
            have hD : va_D A (mW G mo ad (su (su (su (su (su (su (su σ 0 (0) (0)) 9 (k) (nI j)) 10 (k) (name)) 11 (k) (kind)) 12 (k) (dd)) 13 (k) ((mm ||| 0) ||| 128)) 16 (k) (bd)) (τ)) := hD
            refine lv_aload_n hx hb dX8_member_121 rfl (lv_at hl 3 rfl) ?_
            refine va_get (D := D) (ci := 8) (v := .ref ((ad 17))) (C := RX8) (T := TX8) (N := 33) hx hb hts iX8 hown hK.1 hP 0 rfl rfl 17 (by decide) (hts _ q_696) (fun _ h9 => h9) rfl dX8_member_122 ?_
            refine lv_aload_n hx hb dX8_member_125 rfl (lv_at hl 3 rfl) ?_
            refine va_get (D := D) (ci := 8) (v := .int (σ 7 0)) (C := RX8) (T := TX8) (N := 33) hx hb hts iX8 hown hK.1 hP 0 rfl rfl 7 (by decide) (hts _ q_686) (fun _ h9 => h9) rfl dX8_member_126 ?_
            refine lv_iconst (v := 0) hx hb dX8_member_129 (by decide) ?_
            refine zast_n hx hb hK.1 hP hD hS 15 2 rfl rfl (k) h7 (by omega) (by decide) (Or.inl rfl) dX8_member_130 (fun H locs hP hD hS => ?_)
            have hP : va_P D vwCl (mW G mo ad (su (su (su (su (su (su (su (su σ 0 (0) (0)) 9 (k) (nI j)) 10 (k) (name)) 11 (k) (kind)) 12 (k) (dd)) 13 (k) ((mm ||| 0) ||| 128)) 16 (k) (bd)) 17 (k) (0)) (τ)) H := hP
            have hD : va_D A (mW G mo ad (su (su (su (su (su (su (su (su σ 0 (0) (0)) 9 (k) (nI j)) 10 (k) (name)) 11 (k) (kind)) 12 (k) (dd)) 13 (k) ((mm ||| 0) ||| 128)) 16 (k) (bd)) 17 (k) (0)) (τ)) := hD
            refine lv_aload_n hx hb dX8_member_131 rfl (lv_at hl 3 rfl) ?_
            refine va_get (D := D) (ci := 8) (v := .ref ((ad 18))) (C := RX8) (T := TX8) (N := 33) hx hb hts iX8 hown hK.1 hP 0 rfl rfl 18 (by decide) (hts _ q_697) (fun _ h9 => h9) rfl dX8_member_132 ?_
            refine lv_aload_n hx hb dX8_member_135 rfl (lv_at hl 3 rfl) ?_
            refine va_get (D := D) (ci := 8) (v := .int (σ 7 0)) (C := RX8) (T := TX8) (N := 33) hx hb hts iX8 hown hK.1 hP 0 rfl rfl 7 (by decide) (hts _ q_686) (fun _ h9 => h9) rfl dX8_member_136 ?_
            refine lv_iconst (v := 0) hx hb dX8_member_139 (by decide) ?_
            refine iast_n hx hb hK.1 hP hD hS 16 0 rfl rfl (k) h7 (by omega) (by decide) dX8_member_140 (fun H locs hP hD hS => ?_)
            have hP : va_P D vwCl (mW G mo ad (su (su (su (su (su (su (su (su (su σ 0 (0) (0)) 9 (k) (nI j)) 10 (k) (name)) 11 (k) (kind)) 12 (k) (dd)) 13 (k) ((mm ||| 0) ||| 128)) 16 (k) (bd)) 17 (k) (0)) 18 (k) (0)) (τ)) H := hP
            have hD : va_D A (mW G mo ad (su (su (su (su (su (su (su (su (su σ 0 (0) (0)) 9 (k) (nI j)) 10 (k) (name)) 11 (k) (kind)) 12 (k) (dd)) 13 (k) ((mm ||| 0) ||| 128)) 16 (k) (bd)) 17 (k) (0)) 18 (k) (0)) (τ)) := hD
            refine lv_aload_n hx hb dX8_member_141 rfl (lv_at hl 3 rfl) ?_
            refine lv_iconst (v := 1) hx hb dX8_member_142 (by decide) ?_
            refine va_put (D := D) (ci := 8) (v := .int 1) (ty := .boolean) (C := RX8) (T := TX8) (N := 33) hx hb hts iX8 tyX8 tyX8_ok nmX8 hown hK.1 hP hD hS 0 rfl rfl 21 (by decide) (hts _ q_700) (fun _ h9 => h9) rfl (by decide +kernel) rfl rfl (Nat.le_of_ble_eq_true rfl) dX8_member_143 (fun H locs hP hD hS => ?_)
            have hP : va_P D vwCl (mW G mo ad (su (su (su (su (su (su (su (su (su (su σ 0 (0) (0)) 9 (k) (nI j)) 10 (k) (name)) 11 (k) (kind)) 12 (k) (dd)) 13 (k) ((mm ||| 0) ||| 128)) 16 (k) (bd)) 17 (k) (0)) 18 (k) (0)) 21 (0) (1)) (τ)) H := hP
            have hD : va_D A (mW G mo ad (su (su (su (su (su (su (su (su (su (su σ 0 (0) (0)) 9 (k) (nI j)) 10 (k) (name)) 11 (k) (kind)) 12 (k) (dd)) 13 (k) ((mm ||| 0) ||| 128)) 16 (k) (bd)) 17 (k) (0)) 18 (k) (0)) 21 (0) (1)) (τ)) := hD
            refine lv_iconst (v := 1) hx hb dX8_member_146 (by decide) ?_
            have ho : oMember σ τ n k (nI j) name kind dd mm bd = (1, su (su (su (su (su (su (su (su (su (su σ 0 (0) (0)) 9 (k) (nI j)) 10 (k) (name)) 11 (k) (kind)) 12 (k) (dd)) 13 (k) ((mm ||| 0) ||| 128)) 16 (k) (bd)) 17 (k) (0)) 18 (k) (0)) 21 (0) (1), τ) := by unfold oMember allM; simp only [eq_true c2, eq_true c4, eq_true c6, eq_false c7, eq_true c8, nI_clamp (show j < 2 ^ 31 by omega), not_true, not_false_iff, not_true_eq_false, not_false_eq_true, true_or, or_true, false_or, or_false, or_self, and_self, true_and, and_true, false_and, and_false, if_true, if_false]; try rfl
            exact mu_iret (v0 := 1) (z := (su (su (su (su (su (su (su (su (su (su σ 0 (0) (0)) 9 (k) (nI j)) 10 (k) (name)) 11 (k) (kind)) 12 (k) (dd)) 13 (k) ((mm ||| 0) ||| 128)) 16 (k) (bd)) 17 (k) (0)) 18 (k) (0)) 21 (0) (1), τ)) hx hb hr hlocks hP hD hS dX8_member_147 (by rw [ho]) (by rw [ho])
        · -- 67 not
          refine lv_iconst (v := 1) hx hb dX8_member_70 (by decide) ?_
          refine lv_goto (tgt := 75) hx hb dX8_member_71 (by decide) ?_
          refine lv_ior hx hb dX8_member_75 ?_
          refine lv_istore (lv' := [(9, .int (mm ||| 1)), (8, .int (aRM (σ 2 j) mm bd)), (7, .int (aRef σ n (nI j) name kind dd mm)), (0, .ref mo), (1, .int (nI j)), (2, .int name), (3, .int kind), (4, .int dd), (5, .int mm), (6, .int bd)]) hx hb dX8_member_76 hl (by decide) rfl (fun ls hl => ?_)
          refine lv_iload hx hb dX8_member_78 (lv_at hl 0 rfl) ?_
          refine lv_iload hx hb dX8_member_80 (lv_at hl 8 rfl) ?_
          refine lv_sipush (v := 1036) hx hb dX8_member_82 (by decide) ?_
          refine lv_iand hx hb dX8_member_85 ?_
          refine lv_if_ne (tgt := 95) hx hb dX8_member_86 (by decide) (fun c9 => ?_) (fun c9 => ?_)
          · -- 86 taken
            refine lv_iconst (v := 0) hx hb dX8_member_95 (by decide) ?_
            refine lv_ior hx hb dX8_member_96 ?_
            refine lv_istore (lv' := [(9, .int ((mm ||| 1) ||| 0)), (8, .int (aRM (σ 2 j) mm bd)), (7, .int (aRef σ n (nI j) name kind dd mm)), (0, .ref mo), (1, .int (nI j)), (2, .int name), (3, .int kind), (4, .int dd), (5, .int mm), (6, .int bd)]) hx hb dX8_member_97 hl (by decide) rfl (fun ls hl => ?_)
            refine lv_aload_n hx hb dX8_member_99 rfl (lv_at hl 3 rfl) ?_
            refine lv_iload_n hx hb dX8_member_100 rfl (lv_at hl 4 rfl) ?_
            refine lv_iload_n hx hb dX8_member_101 rfl (lv_at hl 5 rfl) ?_
            refine lv_iload_n hx hb dX8_member_102 rfl (lv_at hl 6 rfl) ?_
            refine lv_iload hx hb dX8_member_103 (lv_at hl 7 rfl) ?_
            refine lv_iload hx hb dX8_member_105 (lv_at hl 0 rfl) ?_
            refine mu_Vv (D := D) (G := G) (mo := mo) (ad := ad) (u := (su σ 0 (0) (0), τ)) (As := [.int (nI j), .int name, .int kind, .int dd, .int ((mm ||| 1) ||| 0)]) (rest := []) ⟨hx, hb, hml, hown, hts⟩ (m_lays l D G mo ad (su σ 0 (0) (0)) (τ) _ k h7 hk60 hk59 (nI j) name kind dd ((mm ||| 1) ||| 0)) gV_X8_X8_lays hdV_X8_lays ⟨Nat.le_of_ble_eq_true rfl, Nat.le_of_ble_eq_true rfl⟩ hK hP hD hS hA rfl hl.1 rfl (Nat.le_of_ble_eq_true rfl) dX8_member_107 ⟨Nat.le_of_ble_eq_true rfl, Nat.le_of_ble_eq_true rfl⟩ (fun H locs hP hD hS => ?_)
            have hP : va_P D vwCl (mW G mo ad (su (su (su (su (su (su σ 0 (0) (0)) 9 (k) (nI j)) 10 (k) (name)) 11 (k) (kind)) 12 (k) (dd)) 13 (k) ((mm ||| 1) ||| 0)) (τ)) H := hP
            have hD : va_D A (mW G mo ad (su (su (su (su (su (su σ 0 (0) (0)) 9 (k) (nI j)) 10 (k) (name)) 11 (k) (kind)) 12 (k) (dd)) 13 (k) ((mm ||| 1) ||| 0)) (τ)) := hD
            refine lv_aload_n hx hb dX8_member_110 rfl (lv_at hl 3 rfl) ?_
            refine va_get (D := D) (ci := 8) (v := .ref ((ad 16))) (C := RX8) (T := TX8) (N := 33) hx hb hts iX8 hown hK.1 hP 0 rfl rfl 16 (by decide) (hts _ q_695) (fun _ h9 => h9) rfl dX8_member_111 ?_
            refine lv_aload_n hx hb dX8_member_114 rfl (lv_at hl 3 rfl) ?_
            refine va_get (D := D) (ci := 8) (v := .int (σ 7 0)) (C := RX8) (T := TX8) (N := 33) hx hb hts iX8 hown hK.1 hP 0 rfl rfl 7 (by decide) (hts _ q_686) (fun _ h9 => h9) rfl dX8_member_115 ?_
            refine lv_iload hx hb dX8_member_118 (lv_at hl 9 rfl) ?_
            refine zast_n hx hb hK.1 hP hD hS 14 2 rfl rfl (k) h7 (by omega) (by decide) hbd dX8_member_120 (fun H locs hP hD hS => ?_)
            have hP : va_P D vwCl (mW G mo ad (su (su (su (su (su (su (su σ 0 (0) (0)) 9 (k) (nI j)) 10 (k) (name)) 11 (k) (kind)) 12 (k) (dd)) 13 (k) ((mm ||| 1) ||| 0)) 16 (k) (bd)) (τ)) H := hP
            have hD : va_D A (mW G mo ad (su (su (su (su (su (su (su σ 0 (0) (0)) 9 (k) (nI j)) 10 (k) (name)) 11 (k) (kind)) 12 (k) (dd)) 13 (k) ((mm ||| 1) ||| 0)) 16 (k) (bd)) (τ)) := hD
            refine lv_aload_n hx hb dX8_member_121 rfl (lv_at hl 3 rfl) ?_
            refine va_get (D := D) (ci := 8) (v := .ref ((ad 17))) (C := RX8) (T := TX8) (N := 33) hx hb hts iX8 hown hK.1 hP 0 rfl rfl 17 (by decide) (hts _ q_696) (fun _ h9 => h9) rfl dX8_member_122 ?_
            refine lv_aload_n hx hb dX8_member_125 rfl (lv_at hl 3 rfl) ?_
            refine va_get (D := D) (ci := 8) (v := .int (σ 7 0)) (C := RX8) (T := TX8) (N := 33) hx hb hts iX8 hown hK.1 hP 0 rfl rfl 7 (by decide) (hts _ q_686) (fun _ h9 => h9) rfl dX8_member_126 ?_
            refine lv_iconst (v := 0) hx hb dX8_member_129 (by decide) ?_
            refine zast_n hx hb hK.1 hP hD hS 15 2 rfl rfl (k) h7 (by omega) (by decide) (Or.inl rfl) dX8_member_130 (fun H locs hP hD hS => ?_)
            have hP : va_P D vwCl (mW G mo ad (su (su (su (su (su (su (su (su σ 0 (0) (0)) 9 (k) (nI j)) 10 (k) (name)) 11 (k) (kind)) 12 (k) (dd)) 13 (k) ((mm ||| 1) ||| 0)) 16 (k) (bd)) 17 (k) (0)) (τ)) H := hP
            have hD : va_D A (mW G mo ad (su (su (su (su (su (su (su (su σ 0 (0) (0)) 9 (k) (nI j)) 10 (k) (name)) 11 (k) (kind)) 12 (k) (dd)) 13 (k) ((mm ||| 1) ||| 0)) 16 (k) (bd)) 17 (k) (0)) (τ)) := hD
            refine lv_aload_n hx hb dX8_member_131 rfl (lv_at hl 3 rfl) ?_
            refine va_get (D := D) (ci := 8) (v := .ref ((ad 18))) (C := RX8) (T := TX8) (N := 33) hx hb hts iX8 hown hK.1 hP 0 rfl rfl 18 (by decide) (hts _ q_697) (fun _ h9 => h9) rfl dX8_member_132 ?_
            refine lv_aload_n hx hb dX8_member_135 rfl (lv_at hl 3 rfl) ?_
            refine va_get (D := D) (ci := 8) (v := .int (σ 7 0)) (C := RX8) (T := TX8) (N := 33) hx hb hts iX8 hown hK.1 hP 0 rfl rfl 7 (by decide) (hts _ q_686) (fun _ h9 => h9) rfl dX8_member_136 ?_
            refine lv_iconst (v := 0) hx hb dX8_member_139 (by decide) ?_
            refine iast_n hx hb hK.1 hP hD hS 16 0 rfl rfl (k) h7 (by omega) (by decide) dX8_member_140 (fun H locs hP hD hS => ?_)
            have hP : va_P D vwCl (mW G mo ad (su (su (su (su (su (su (su (su (su σ 0 (0) (0)) 9 (k) (nI j)) 10 (k) (name)) 11 (k) (kind)) 12 (k) (dd)) 13 (k) ((mm ||| 1) ||| 0)) 16 (k) (bd)) 17 (k) (0)) 18 (k) (0)) (τ)) H := hP
            have hD : va_D A (mW G mo ad (su (su (su (su (su (su (su (su (su σ 0 (0) (0)) 9 (k) (nI j)) 10 (k) (name)) 11 (k) (kind)) 12 (k) (dd)) 13 (k) ((mm ||| 1) ||| 0)) 16 (k) (bd)) 17 (k) (0)) 18 (k) (0)) (τ)) := hD
            refine lv_aload_n hx hb dX8_member_141 rfl (lv_at hl 3 rfl) ?_
            refine lv_iconst (v := 1) hx hb dX8_member_142 (by decide) ?_
            refine va_put (D := D) (ci := 8) (v := .int 1) (ty := .boolean) (C := RX8) (T := TX8) (N := 33) hx hb hts iX8 tyX8 tyX8_ok nmX8 hown hK.1 hP hD hS 0 rfl rfl 21 (by decide) (hts _ q_700) (fun _ h9 => h9) rfl (by decide +kernel) rfl rfl (Nat.le_of_ble_eq_true rfl) dX8_member_143 (fun H locs hP hD hS => ?_)
            have hP : va_P D vwCl (mW G mo ad (su (su (su (su (su (su (su (su (su (su σ 0 (0) (0)) 9 (k) (nI j)) 10 (k) (name)) 11 (k) (kind)) 12 (k) (dd)) 13 (k) ((mm ||| 1) ||| 0)) 16 (k) (bd)) 17 (k) (0)) 18 (k) (0)) 21 (0) (1)) (τ)) H := hP
            have hD : va_D A (mW G mo ad (su (su (su (su (su (su (su (su (su (su σ 0 (0) (0)) 9 (k) (nI j)) 10 (k) (name)) 11 (k) (kind)) 12 (k) (dd)) 13 (k) ((mm ||| 1) ||| 0)) 16 (k) (bd)) 17 (k) (0)) 18 (k) (0)) 21 (0) (1)) (τ)) := hD
            refine lv_iconst (v := 1) hx hb dX8_member_146 (by decide) ?_
            have ho : oMember σ τ n k (nI j) name kind dd mm bd = (1, su (su (su (su (su (su (su (su (su (su σ 0 (0) (0)) 9 (k) (nI j)) 10 (k) (name)) 11 (k) (kind)) 12 (k) (dd)) 13 (k) ((mm ||| 1) ||| 0)) 16 (k) (bd)) 17 (k) (0)) 18 (k) (0)) 21 (0) (1), τ) := by unfold oMember allM; simp only [eq_true c2, eq_true c4, eq_true c6, eq_true c7, eq_false c9, nI_clamp (show j < 2 ^ 31 by omega), not_true, not_false_iff, not_true_eq_false, not_false_eq_true, true_or, or_true, false_or, or_false, or_self, and_self, true_and, and_true, false_and, and_false, if_true, if_false]; try rfl
            exact mu_iret (v0 := 1) (z := (su (su (su (su (su (su (su (su (su (su σ 0 (0) (0)) 9 (k) (nI j)) 10 (k) (name)) 11 (k) (kind)) 12 (k) (dd)) 13 (k) ((mm ||| 1) ||| 0)) 16 (k) (bd)) 17 (k) (0)) 18 (k) (0)) 21 (0) (1), τ)) hx hb hr hlocks hP hD hS dX8_member_147 (by rw [ho]) (by rw [ho])
          · -- 86 not
            refine lv_sipush (v := 128) hx hb dX8_member_89 (by decide) ?_
            refine lv_goto (tgt := 96) hx hb dX8_member_92 (by decide) ?_
            refine lv_ior hx hb dX8_member_96 ?_
            refine lv_istore (lv' := [(9, .int ((mm ||| 1) ||| 128)), (8, .int (aRM (σ 2 j) mm bd)), (7, .int (aRef σ n (nI j) name kind dd mm)), (0, .ref mo), (1, .int (nI j)), (2, .int name), (3, .int kind), (4, .int dd), (5, .int mm), (6, .int bd)]) hx hb dX8_member_97 hl (by decide) rfl (fun ls hl => ?_)
            refine lv_aload_n hx hb dX8_member_99 rfl (lv_at hl 3 rfl) ?_
            refine lv_iload_n hx hb dX8_member_100 rfl (lv_at hl 4 rfl) ?_
            refine lv_iload_n hx hb dX8_member_101 rfl (lv_at hl 5 rfl) ?_
            refine lv_iload_n hx hb dX8_member_102 rfl (lv_at hl 6 rfl) ?_
            refine lv_iload hx hb dX8_member_103 (lv_at hl 7 rfl) ?_
            refine lv_iload hx hb dX8_member_105 (lv_at hl 0 rfl) ?_
            refine mu_Vv (D := D) (G := G) (mo := mo) (ad := ad) (u := (su σ 0 (0) (0), τ)) (As := [.int (nI j), .int name, .int kind, .int dd, .int ((mm ||| 1) ||| 128)]) (rest := []) ⟨hx, hb, hml, hown, hts⟩ (m_lays l D G mo ad (su σ 0 (0) (0)) (τ) _ k h7 hk60 hk59 (nI j) name kind dd ((mm ||| 1) ||| 128)) gV_X8_X8_lays hdV_X8_lays ⟨Nat.le_of_ble_eq_true rfl, Nat.le_of_ble_eq_true rfl⟩ hK hP hD hS hA rfl hl.1 rfl (Nat.le_of_ble_eq_true rfl) dX8_member_107 ⟨Nat.le_of_ble_eq_true rfl, Nat.le_of_ble_eq_true rfl⟩ (fun H locs hP hD hS => ?_)
            have hP : va_P D vwCl (mW G mo ad (su (su (su (su (su (su σ 0 (0) (0)) 9 (k) (nI j)) 10 (k) (name)) 11 (k) (kind)) 12 (k) (dd)) 13 (k) ((mm ||| 1) ||| 128)) (τ)) H := hP
            have hD : va_D A (mW G mo ad (su (su (su (su (su (su σ 0 (0) (0)) 9 (k) (nI j)) 10 (k) (name)) 11 (k) (kind)) 12 (k) (dd)) 13 (k) ((mm ||| 1) ||| 128)) (τ)) := hD
            refine lv_aload_n hx hb dX8_member_110 rfl (lv_at hl 3 rfl) ?_
            refine va_get (D := D) (ci := 8) (v := .ref ((ad 16))) (C := RX8) (T := TX8) (N := 33) hx hb hts iX8 hown hK.1 hP 0 rfl rfl 16 (by decide) (hts _ q_695) (fun _ h9 => h9) rfl dX8_member_111 ?_
            refine lv_aload_n hx hb dX8_member_114 rfl (lv_at hl 3 rfl) ?_
            refine va_get (D := D) (ci := 8) (v := .int (σ 7 0)) (C := RX8) (T := TX8) (N := 33) hx hb hts iX8 hown hK.1 hP 0 rfl rfl 7 (by decide) (hts _ q_686) (fun _ h9 => h9) rfl dX8_member_115 ?_
            refine lv_iload hx hb dX8_member_118 (lv_at hl 9 rfl) ?_
            refine zast_n hx hb hK.1 hP hD hS 14 2 rfl rfl (k) h7 (by omega) (by decide) hbd dX8_member_120 (fun H locs hP hD hS => ?_)
            have hP : va_P D vwCl (mW G mo ad (su (su (su (su (su (su (su σ 0 (0) (0)) 9 (k) (nI j)) 10 (k) (name)) 11 (k) (kind)) 12 (k) (dd)) 13 (k) ((mm ||| 1) ||| 128)) 16 (k) (bd)) (τ)) H := hP
            have hD : va_D A (mW G mo ad (su (su (su (su (su (su (su σ 0 (0) (0)) 9 (k) (nI j)) 10 (k) (name)) 11 (k) (kind)) 12 (k) (dd)) 13 (k) ((mm ||| 1) ||| 128)) 16 (k) (bd)) (τ)) := hD
            refine lv_aload_n hx hb dX8_member_121 rfl (lv_at hl 3 rfl) ?_
            refine va_get (D := D) (ci := 8) (v := .ref ((ad 17))) (C := RX8) (T := TX8) (N := 33) hx hb hts iX8 hown hK.1 hP 0 rfl rfl 17 (by decide) (hts _ q_696) (fun _ h9 => h9) rfl dX8_member_122 ?_
            refine lv_aload_n hx hb dX8_member_125 rfl (lv_at hl 3 rfl) ?_
            refine va_get (D := D) (ci := 8) (v := .int (σ 7 0)) (C := RX8) (T := TX8) (N := 33) hx hb hts iX8 hown hK.1 hP 0 rfl rfl 7 (by decide) (hts _ q_686) (fun _ h9 => h9) rfl dX8_member_126 ?_
            refine lv_iconst (v := 0) hx hb dX8_member_129 (by decide) ?_
            refine zast_n hx hb hK.1 hP hD hS 15 2 rfl rfl (k) h7 (by omega) (by decide) (Or.inl rfl) dX8_member_130 (fun H locs hP hD hS => ?_)
            have hP : va_P D vwCl (mW G mo ad (su (su (su (su (su (su (su (su σ 0 (0) (0)) 9 (k) (nI j)) 10 (k) (name)) 11 (k) (kind)) 12 (k) (dd)) 13 (k) ((mm ||| 1) ||| 128)) 16 (k) (bd)) 17 (k) (0)) (τ)) H := hP
            have hD : va_D A (mW G mo ad (su (su (su (su (su (su (su (su σ 0 (0) (0)) 9 (k) (nI j)) 10 (k) (name)) 11 (k) (kind)) 12 (k) (dd)) 13 (k) ((mm ||| 1) ||| 128)) 16 (k) (bd)) 17 (k) (0)) (τ)) := hD
            refine lv_aload_n hx hb dX8_member_131 rfl (lv_at hl 3 rfl) ?_
            refine va_get (D := D) (ci := 8) (v := .ref ((ad 18))) (C := RX8) (T := TX8) (N := 33) hx hb hts iX8 hown hK.1 hP 0 rfl rfl 18 (by decide) (hts _ q_697) (fun _ h9 => h9) rfl dX8_member_132 ?_
            refine lv_aload_n hx hb dX8_member_135 rfl (lv_at hl 3 rfl) ?_
            refine va_get (D := D) (ci := 8) (v := .int (σ 7 0)) (C := RX8) (T := TX8) (N := 33) hx hb hts iX8 hown hK.1 hP 0 rfl rfl 7 (by decide) (hts _ q_686) (fun _ h9 => h9) rfl dX8_member_136 ?_
            refine lv_iconst (v := 0) hx hb dX8_member_139 (by decide) ?_
            refine iast_n hx hb hK.1 hP hD hS 16 0 rfl rfl (k) h7 (by omega) (by decide) dX8_member_140 (fun H locs hP hD hS => ?_)
            have hP : va_P D vwCl (mW G mo ad (su (su (su (su (su (su (su (su (su σ 0 (0) (0)) 9 (k) (nI j)) 10 (k) (name)) 11 (k) (kind)) 12 (k) (dd)) 13 (k) ((mm ||| 1) ||| 128)) 16 (k) (bd)) 17 (k) (0)) 18 (k) (0)) (τ)) H := hP
            have hD : va_D A (mW G mo ad (su (su (su (su (su (su (su (su (su σ 0 (0) (0)) 9 (k) (nI j)) 10 (k) (name)) 11 (k) (kind)) 12 (k) (dd)) 13 (k) ((mm ||| 1) ||| 128)) 16 (k) (bd)) 17 (k) (0)) 18 (k) (0)) (τ)) := hD
            refine lv_aload_n hx hb dX8_member_141 rfl (lv_at hl 3 rfl) ?_
            refine lv_iconst (v := 1) hx hb dX8_member_142 (by decide) ?_
            refine va_put (D := D) (ci := 8) (v := .int 1) (ty := .boolean) (C := RX8) (T := TX8) (N := 33) hx hb hts iX8 tyX8 tyX8_ok nmX8 hown hK.1 hP hD hS 0 rfl rfl 21 (by decide) (hts _ q_700) (fun _ h9 => h9) rfl (by decide +kernel) rfl rfl (Nat.le_of_ble_eq_true rfl) dX8_member_143 (fun H locs hP hD hS => ?_)
            have hP : va_P D vwCl (mW G mo ad (su (su (su (su (su (su (su (su (su (su σ 0 (0) (0)) 9 (k) (nI j)) 10 (k) (name)) 11 (k) (kind)) 12 (k) (dd)) 13 (k) ((mm ||| 1) ||| 128)) 16 (k) (bd)) 17 (k) (0)) 18 (k) (0)) 21 (0) (1)) (τ)) H := hP
            have hD : va_D A (mW G mo ad (su (su (su (su (su (su (su (su (su (su σ 0 (0) (0)) 9 (k) (nI j)) 10 (k) (name)) 11 (k) (kind)) 12 (k) (dd)) 13 (k) ((mm ||| 1) ||| 128)) 16 (k) (bd)) 17 (k) (0)) 18 (k) (0)) 21 (0) (1)) (τ)) := hD
            refine lv_iconst (v := 1) hx hb dX8_member_146 (by decide) ?_
            have ho : oMember σ τ n k (nI j) name kind dd mm bd = (1, su (su (su (su (su (su (su (su (su (su σ 0 (0) (0)) 9 (k) (nI j)) 10 (k) (name)) 11 (k) (kind)) 12 (k) (dd)) 13 (k) ((mm ||| 1) ||| 128)) 16 (k) (bd)) 17 (k) (0)) 18 (k) (0)) 21 (0) (1), τ) := by unfold oMember allM; simp only [eq_true c2, eq_true c4, eq_true c6, eq_true c7, eq_true c9, nI_clamp (show j < 2 ^ 31 by omega), not_true, not_false_iff, not_true_eq_false, not_false_eq_true, true_or, or_true, false_or, or_false, or_self, and_self, true_and, and_true, false_and, and_false, if_true, if_false]; try rfl
            exact mu_iret (v0 := 1) (z := (su (su (su (su (su (su (su (su (su (su σ 0 (0) (0)) 9 (k) (nI j)) 10 (k) (name)) 11 (k) (kind)) 12 (k) (dd)) 13 (k) ((mm ||| 1) ||| 128)) 16 (k) (bd)) 17 (k) (0)) 18 (k) (0)) 21 (0) (1), τ)) hx hb hr hlocks hP hD hS dX8_member_147 (by rw [ho]) (by rw [ho])
    · -- 39 not
      refine lv_aload_n hx hb dX8_member_42 rfl (lv_at hl 2 rfl) ?_
      refine lv_iload hx hb dX8_member_43 (lv_at hl 0 rfl) ?_
      have hok : okR (aRM (σ 2 j) mm bd) := aRM_ok
      refine W.eq (g2 := F0 m 45 ls [.int (nI ((aRM (σ 2 j) mm bd).toNatClampNeg)), .ref mo]) (congrArg (fun z9 => F0 m 45 ls [.int z9, .ref mo]) hok.1) ?_
      refine mu_Vi (D := D) (G := G) (mo := mo) (ad := ad) (u := (su σ 0 (0) (0), τ)) (As := [.int (nI ((aRM (σ 2 j) mm bd).toNatClampNeg))]) (rest := []) ⟨hx, hb, hml, hown, hts⟩ (m_breaks l D G mo ad (su σ 0 (0) (0)) (τ) _ (((aRM (σ 2 j) mm bd).toNatClampNeg)) (by omega)) gV_X8_X8_breaks hdV_X8_breaks ⟨Nat.le_of_ble_eq_true rfl, Nat.le_of_ble_eq_true rfl⟩ hK hP hD hS hA rfl hl.1 rfl (Nat.le_of_ble_eq_true rfl) dX8_member_45 ⟨Nat.le_of_ble_eq_true rfl, Nat.le_of_ble_eq_true rfl⟩ (fun H locs hP hD hS => ?_)
      have hP : va_P D vwCl (mW G mo ad (su (su (su σ 0 (0) (0)) 27 (((aRM (σ 2 j) mm bd).toNatClampNeg)) (σ 27 (((aRM (σ 2 j) mm bd).toNatClampNeg)) + 1)) 26 (0) (σ 26 0 + 1)) (τ)) H := hP
      have hD : va_D A (mW G mo ad (su (su (su σ 0 (0) (0)) 27 (((aRM (σ 2 j) mm bd).toNatClampNeg)) (σ 27 (((aRM (σ 2 j) mm bd).toNatClampNeg)) + 1)) 26 (0) (σ 26 0 + 1)) (τ)) := hD
      refine W.eq (g2 := F0 m 48 ls [.int ((-40) - nI ((aRM (σ 2 j) mm bd).toNatClampNeg))]) rfl ?_
      have ho : oMember σ τ n k (nI j) name kind dd mm bd = ((-40) - nI ((aRM (σ 2 j) mm bd).toNatClampNeg), su (su (su σ 0 (0) (0)) 27 (((aRM (σ 2 j) mm bd).toNatClampNeg)) (σ 27 (((aRM (σ 2 j) mm bd).toNatClampNeg)) + 1)) 26 (0) (σ 26 0 + 1), τ) := by unfold oMember; simp only [eq_true c2, eq_false c4, nI_clamp (show j < 2 ^ 31 by omega), not_true, not_false_iff, not_true_eq_false, not_false_eq_true, true_or, or_true, false_or, or_false, or_self, and_self, true_and, and_true, false_and, and_false, if_true, if_false]; try rfl
      exact mu_iret (v0 := (-40) - nI ((aRM (σ 2 j) mm bd).toNatClampNeg)) (z := (su (su (su σ 0 (0) (0)) 27 (((aRM (σ 2 j) mm bd).toNatClampNeg)) (σ 27 (((aRM (σ 2 j) mm bd).toNatClampNeg)) + 1)) 26 (0) (σ 26 0 + 1), τ)) hx hb hr hlocks hP hD hS dX8_member_48 (by rw [ho]) (by rw [ho])
  · -- 20 not
    refine lv_iload hx hb dX8_member_23 (lv_at hl 0 rfl) ?_
    have ho : oMember σ τ n k t name kind dd mm bd = (aRef σ n t name kind dd mm, su σ 0 (0) (0), τ) := by unfold oMember; simp only [eq_false c2, not_true, not_false_iff, not_true_eq_false, not_false_eq_true, true_or, or_true, false_or, or_false, or_self, and_self, true_and, and_true, false_and, and_false, if_true, if_false]; try rfl
    exact mu_iret (v0 := aRef σ n t name kind dd mm) (z := (su σ 0 (0) (0), τ)) hx hb hr hlocks hP hD hS dX8_member_25 (by rw [ho]) (by rw [ho])
set_option maxHeartbeats 4000000 in
set_option maxRecDepth 100000 in
theorem m_value (l : Launch) (D : va_G) (G : Nat → ClassId) (mo : Nat) (ad : Nat → Nat) (σ : MS) (τ : Nat → Int64) (sz : Nat) (k : Nat) (h7 : σ 7 0 = nI k) (hk60 : k ≤ 60) (en : Int32) : Met l yX8_value (ww yX8_value cX8_value 2 (some .long)) (rmD 2) (muP D G sz mo ad (σ, τ) [.ref mo, .int en]) (muQl D G mo ad (muA G mo ad (σ, τ) sz) (oValue σ τ k en).1 (oValue σ τ k en).2) 0 0 (muA G mo ad (σ, τ) sz) := by
  refine Met.ofW (cc := cX8_value) (maxL := 2) (ret := (some .long)) (by decide) rfl ?_
  intro p e s m args below meth c s₁ B hml hv
  obtain ⟨rfl, hsz, hP, hK, hD0⟩ := hv
  have hx := B.exec
  have hb := B.bytes
  have hr := B.returns
  have hts : ∀ w ∈ TT, w.before _ s = true := fun w h => atoms_spec (ws := ww yX8_value cX8_value 2 (some .long)) B.pre w (List.mem_cons_of_mem _ h)
  have hown : s.vm.findClass RX8 = some m.cls := findClass_of_methodNamed B.named
  have hlocks := B.notSynchronized
  subst hsz
  have hD : va_D (muA G mo ad (σ, τ) s.heap.size) (mW G mo ad σ τ) := hD0.self
  generalize hAe : muA G mo ad (σ, τ) s.heap.size = A at hD ⊢
  have hA : ∀ q : Nat, s.heap.size ≤ q → A q := fun q h => by rw [← hAe]; exact Or.inr h
  have hS : va_S A s.heap s.heap [] := va_S.rf
  have hP : va_P D vwCl (mW G mo ad σ τ) s.heap := hP
  have hl := lv_entry ([.ref mo, .int en]) (n := 2) (Nat.le_of_ble_eq_true rfl)
  rw [lg_entry_eq]
  generalize (lg_sl ([.ref mo, .int en]) ++ List.replicate (2 - (lg_sl ([.ref mo, .int en])).length) Slot.unset).toArray = ls at hl ⊢
  have hl : lv_has ls 2 [(0, .ref mo), (1, .int en)] := hl
  refine lv_aload_n hx hb dX8_value_0 rfl (lv_at hl 0 rfl) ?_
  refine lv_aload_n hx hb dX8_value_1 rfl (lv_at hl 0 rfl) ?_
  refine lv_iload_n hx hb dX8_value_2 rfl (lv_at hl 1 rfl) ?_
  refine ro_Vi (D := D) (G := G) (As := [.int en]) (rest := [.ref mo]) ⟨hx, hb, hml, hown, hts⟩ (m_isEntry l D G _ mo ad _ _ hP k h7 hk60 en) gV_X8_X8_isEntry hdV_X8_isEntry ⟨Nat.le_of_ble_eq_true rfl, Nat.le_of_ble_eq_true rfl⟩ hK (va_recv hK.1 hP (ci := 8) (q0 := 0) rfl rfl) rfl hl.1 rfl (Nat.le_of_ble_eq_true rfl) dX8_value_3 ⟨Nat.le_of_ble_eq_true rfl, Nat.le_of_ble_eq_true rfl⟩ (fun r1 e_r1 => ?_)
  subst e_r1
  refine W.eq (g2 := F0 m 6 ls [.int (bI (okN k en)), .ref mo]) rfl ?_
  refine lv_if_ne (tgt := 13) hx hb dX8_value_6 (by decide) (fun c2 => ?_) (fun c2 => ?_)
  · -- 6 taken
    have c2 := bI_1 c2
    obtain ⟨j3, h_j3, rfl⟩ := okN_ex (by omega) c2
    refine lv_aload_n hx hb dX8_value_13 rfl (lv_at hl 0 rfl) ?_
    refine va_get (D := D) (ci := 8) (v := .ref ((ad 8))) (C := RX8) (T := TX8) (N := 33) hx hb hts iX8 hown hK.1 hP 0 rfl rfl 8 (by decide) (hts _ q_687) (fun _ h9 => h9) rfl dX8_value_14 ?_
    refine lv_iload_n hx hb dX8_value_17 rfl (lv_at hl 1 rfl) ?_
    refine zald_n (f := σ 8) hx hb hK.1 hP 6 2 rfl rfl (j3) rfl (by omega) (by decide) dX8_value_18 ?_
    refine lv_if_eq (tgt := 26) hx hb dX8_value_19 (by decide) (fun c4 => ?_) (fun c4 => ?_)
    · -- 19 taken
      refine lv_iconst (v := 0) hx hb dX8_value_26 (by decide) ?_
      refine va_put (D := D) (ci := 8) (v := .int 0) (ty := .int) (C := RX8) (T := TX8) (N := 33) hx hb hts iX8 tyX8 tyX8_ok nmX8 hown hK.1 hP hD hS 0 rfl rfl 0 (by decide) (hts _ q_679) (fun _ h9 => h9) rfl (by decide +kernel) rfl rfl (Nat.le_of_ble_eq_true rfl) dX8_value_27 (fun H locs hP hD hS => ?_)
      have hP : va_P D vwCl (mW G mo ad (su σ 0 (0) (0)) (τ)) H := hP
      have hD : va_D A (mW G mo ad (su σ 0 (0) (0)) (τ)) := hD
      refine lv_aload_n hx hb dX8_value_30 rfl (lv_at hl 0 rfl) ?_
      refine va_get (D := D) (ci := 8) (v := .int 0) (C := RX8) (T := TX8) (N := 33) hx hb hts iX8 hown hK.1 hP 0 rfl rfl 0 (by decide) (hts _ q_679) (fun _ h9 => h9) rfl dX8_value_31 ?_
      refine lv_if_ne (tgt := 55) hx hb dX8_value_34 (by decide) (fun hh => absurd (by decide) hh) (fun hh => ?_)
      refine lv_aload_n hx hb dX8_value_37 rfl (lv_at hl 0 rfl) ?_
      refine va_get (D := D) (ci := 8) (v := .ref ((ad 14))) (C := RX8) (T := TX8) (N := 33) hx hb hts iX8 hown hK.1 hP 0 rfl rfl 14 (by decide) (hts _ q_693) (fun _ h9 => h9) rfl dX8_value_38 ?_
      refine lv_iload_n hx hb dX8_value_41 rfl (lv_at hl 1 rfl) ?_
      refine zald_n (f := σ 14) hx hb hK.1 hP 12 2 rfl rfl (j3) rfl (by omega) (by decide) dX8_value_42 ?_
      refine lv_if_eq (tgt := 55) hx hb dX8_value_43 (by decide) (fun c5 => ?_) (fun c5 => ?_)
      · -- 43 taken
        refine lv_lconst (v := 0) hx hb dX8_value_55 (by decide) ?_
        have ho : oValue σ τ k (nI j3) = (0, su σ 0 (0) (0), τ) := by unfold oValue; simp only [eq_true c2, eq_true c4, eq_true c5, nI_clamp (show j3 < 2 ^ 31 by omega), not_true, not_false_iff, not_true_eq_false, not_false_eq_true, true_or, or_true, false_or, or_false, or_self, and_self, true_and, and_true, false_and, and_false, if_true, if_false]; try rfl
        exact mu_lret (v0 := 0) (z := (su σ 0 (0) (0), τ)) hx hb hr hlocks hP hD hS dX8_value_56 (by rw [ho]) (by rw [ho])
      · -- 43 not
        refine lv_aload_n hx hb dX8_value_46 rfl (lv_at hl 0 rfl) ?_
        refine va_get (D := D) (ci := 8) (v := .ref ((ad 15))) (C := RX8) (T := TX8) (N := 33) hx hb hts iX8 hown hK.1 hP 0 rfl rfl 15 (by decide) (hts _ q_694) (fun _ h9 => h9) rfl dX8_value_47 ?_
        refine lv_iload_n hx hb dX8_value_50 rfl (lv_at hl 1 rfl) ?_
        refine lald_n (f := τ) hx hb hK.1 hP 13 1 rfl rfl (j3) rfl (by omega) (by decide) dX8_value_51 ?_
        refine lv_goto (tgt := 56) hx hb dX8_value_52 (by decide) ?_
        have ho : oValue σ τ k (nI j3) = (τ j3, su σ 0 (0) (0), τ) := by unfold oValue; simp only [eq_true c2, eq_true c4, eq_false c5, nI_clamp (show j3 < 2 ^ 31 by omega), not_true, not_false_iff, not_true_eq_false, not_false_eq_true, true_or, or_true, false_or, or_false, or_self, and_self, true_and, and_true, false_and, and_false, if_true, if_false]; try rfl
        exact mu_lret (v0 := τ j3) (z := (su σ 0 (0) (0), τ)) hx hb hr hlocks hP hD hS dX8_value_56 (by rw [ho]) (by rw [ho])
    · -- 19 not
      refine lv_iconst (v := 1) hx hb dX8_value_22 (by decide) ?_
      refine lv_goto (tgt := 27) hx hb dX8_value_23 (by decide) ?_
      refine va_put (D := D) (ci := 8) (v := .int 1) (ty := .int) (C := RX8) (T := TX8) (N := 33) hx hb hts iX8 tyX8 tyX8_ok nmX8 hown hK.1 hP hD hS 0 rfl rfl 0 (by decide) (hts _ q_679) (fun _ h9 => h9) rfl (by decide +kernel) rfl rfl (Nat.le_of_ble_eq_true rfl) dX8_value_27 (fun H locs hP hD hS => ?_)
      have hP : va_P D vwCl (mW G mo ad (su σ 0 (0) (1)) (τ)) H := hP
      have hD : va_D A (mW G mo ad (su σ 0 (0) (1)) (τ)) := hD
      refine lv_aload_n hx hb dX8_value_30 rfl (lv_at hl 0 rfl) ?_
      refine va_get (D := D) (ci := 8) (v := .int 1) (C := RX8) (T := TX8) (N := 33) hx hb hts iX8 hown hK.1 hP 0 rfl rfl 0 (by decide) (hts _ q_679) (fun _ h9 => h9) rfl dX8_value_31 ?_
      refine lv_if_ne (tgt := 55) hx hb dX8_value_34 (by decide) (fun hh => ?_) (fun hh => absurd hh (by decide))
      refine lv_lconst (v := 0) hx hb dX8_value_55 (by decide) ?_
      have ho : oValue σ τ k (nI j3) = (0, su σ 0 (0) (1), τ) := by unfold oValue; simp only [eq_true c2, eq_false c4, nI_clamp (show j3 < 2 ^ 31 by omega), not_true, not_false_iff, not_true_eq_false, not_false_eq_true, true_or, or_true, false_or, or_false, or_self, and_self, true_and, and_true, false_and, and_false, if_true, if_false]; try rfl
      exact mu_lret (v0 := 0) (z := (su σ 0 (0) (1), τ)) hx hb hr hlocks hP hD hS dX8_value_56 (by rw [ho]) (by rw [ho])
  · -- 6 not
    have c2 := bI_0 c2
    refine lv_iconst (v := 2) hx hb dX8_value_9 (by decide) ?_
    refine lv_goto (tgt := 27) hx hb dX8_value_10 (by decide) ?_
    refine va_put (D := D) (ci := 8) (v := .int 2) (ty := .int) (C := RX8) (T := TX8) (N := 33) hx hb hts iX8 tyX8 tyX8_ok nmX8 hown hK.1 hP hD hS 0 rfl rfl 0 (by decide) (hts _ q_679) (fun _ h9 => h9) rfl (by decide +kernel) rfl rfl (Nat.le_of_ble_eq_true rfl) dX8_value_27 (fun H locs hP hD hS => ?_)
    have hP : va_P D vwCl (mW G mo ad (su σ 0 (0) (2)) (τ)) H := hP
    have hD : va_D A (mW G mo ad (su σ 0 (0) (2)) (τ)) := hD
    refine lv_aload_n hx hb dX8_value_30 rfl (lv_at hl 0 rfl) ?_
    refine va_get (D := D) (ci := 8) (v := .int 2) (C := RX8) (T := TX8) (N := 33) hx hb hts iX8 hown hK.1 hP 0 rfl rfl 0 (by decide) (hts _ q_679) (fun _ h9 => h9) rfl dX8_value_31 ?_
    refine lv_if_ne (tgt := 55) hx hb dX8_value_34 (by decide) (fun hh => ?_) (fun hh => absurd hh (by decide))
    refine lv_lconst (v := 0) hx hb dX8_value_55 (by decide) ?_
    have ho : oValue σ τ k en = (0, su σ 0 (0) (2), τ) := by unfold oValue; simp only [eq_false c2, not_true, not_false_iff, not_true_eq_false, not_false_eq_true, true_or, or_true, false_or, or_false, or_self, and_self, true_and, and_true, false_and, and_false, if_true, if_false]; try rfl
    exact mu_lret (v0 := 0) (z := (su σ 0 (0) (2), τ)) hx hb hr hlocks hP hD hS dX8_value_56 (by rw [ho]) (by rw [ho])
set_option maxHeartbeats 4000000 in
set_option maxRecDepth 100000 in
theorem m_entry (l : Launch) (D : va_G) (G : Nat → ClassId) (mo : Nat) (ad : Nat → Nat) (σ : MS) (τ : Nat → Int64) (sz : Nat) (k : Nat) (h7 : σ 7 0 = nI k) (hk60 : k ≤ 60) (en : Int32) (what : Int32) : Met l yX8_entry (ww yX8_entry cX8_entry 3 (some .int)) (rmD 2) (muP D G sz mo ad (σ, τ) [.ref mo, .int en, .int what]) (muQi D G mo ad (muA G mo ad (σ, τ) sz) (oEntry σ τ k en what).1 (oEntry σ τ k en what).2) 0 0 (muA G mo ad (σ, τ) sz) := by
  refine Met.ofW (cc := cX8_entry) (maxL := 3) (ret := (some .int)) (by decide) rfl ?_
  intro p e s m args below meth c s₁ B hml hv
  obtain ⟨rfl, hsz, hP, hK, hD0⟩ := hv
  have hx := B.exec
  have hb := B.bytes
  have hr := B.returns
  have hts : ∀ w ∈ TT, w.before _ s = true := fun w h => atoms_spec (ws := ww yX8_entry cX8_entry 3 (some .int)) B.pre w (List.mem_cons_of_mem _ h)
  have hown : s.vm.findClass RX8 = some m.cls := findClass_of_methodNamed B.named
  have hlocks := B.notSynchronized
  subst hsz
  have hD : va_D (muA G mo ad (σ, τ) s.heap.size) (mW G mo ad σ τ) := hD0.self
  generalize hAe : muA G mo ad (σ, τ) s.heap.size = A at hD ⊢
  have hA : ∀ q : Nat, s.heap.size ≤ q → A q := fun q h => by rw [← hAe]; exact Or.inr h
  have hS : va_S A s.heap s.heap [] := va_S.rf
  have hP : va_P D vwCl (mW G mo ad σ τ) s.heap := hP
  have hl := lv_entry ([.ref mo, .int en, .int what]) (n := 3) (Nat.le_of_ble_eq_true rfl)
  rw [lg_entry_eq]
  generalize (lg_sl ([.ref mo, .int en, .int what]) ++ List.replicate (3 - (lg_sl ([.ref mo, .int en, .int what])).length) Slot.unset).toArray = ls at hl ⊢
  have hl : lv_has ls 3 [(0, .ref mo), (1, .int en), (2, .int what)] := hl
  refine lv_aload_n hx hb dX8_entry_0 rfl (lv_at hl 0 rfl) ?_
  refine lv_iconst (v := 0) hx hb dX8_entry_1 (by decide) ?_
  refine va_put (D := D) (ci := 8) (v := .int 0) (ty := .int) (C := RX8) (T := TX8) (N := 33) hx hb hts iX8 tyX8 tyX8_ok nmX8 hown hK.1 hP hD hS 0 rfl rfl 0 (by decide) (hts _ q_679) (fun _ h9 => h9) rfl (by decide +kernel) rfl rfl (Nat.le_of_ble_eq_true rfl) dX8_entry_2 (fun H locs hP hD hS => ?_)
  have hP : va_P D vwCl (mW G mo ad (su σ 0 (0) (0)) (τ)) H := hP
  have hD : va_D A (mW G mo ad (su σ 0 (0) (0)) (τ)) := hD
  refine lv_aload_n hx hb dX8_entry_5 rfl (lv_at hl 0 rfl) ?_
  refine lv_iload_n hx hb dX8_entry_6 rfl (lv_at hl 1 rfl) ?_
  refine ro_Vi (D := D) (G := G) (As := [.int en]) (rest := []) ⟨hx, hb, hml, hown, hts⟩ (m_isEntry l D G _ mo ad _ _ hP k h7 hk60 en) gV_X8_X8_isEntry hdV_X8_isEntry ⟨Nat.le_of_ble_eq_true rfl, Nat.le_of_ble_eq_true rfl⟩ hK (va_recv hK.1 hP (ci := 8) (q0 := 0) rfl rfl) rfl hl.1 rfl (Nat.le_of_ble_eq_true rfl) dX8_entry_7 ⟨Nat.le_of_ble_eq_true rfl, Nat.le_of_ble_eq_true rfl⟩ (fun r1 e_r1 => ?_)
  subst e_r1
  refine W.eq (g2 := F0 m 10 ls [.int (bI (okN k en))]) rfl ?_
  refine lv_if_ne (tgt := 16) hx hb dX8_entry_10 (by decide) (fun c2 => ?_) (fun c2 => ?_)
  · -- 10 taken
    have c2 := bI_1 c2
    obtain ⟨j3, h_j3, rfl⟩ := okN_ex (by omega) c2
    refine lv_iload_n hx hb dX8_entry_16 rfl (lv_at hl 2 rfl) ?_
    by_cases c4 : what = 0
    · -- case 0
      refine lv_tableIn (tgt := 56) hx hb dX8_entry_17 (by rw [c4]; decide) (by rw [c4]; decide) (by rw [c4]; rfl) (by decide) ?_
      refine lv_aload_n hx hb dX8_entry_56 rfl (lv_at hl 0 rfl) ?_
      refine va_get (D := D) (ci := 8) (v := .ref ((ad 8))) (C := RX8) (T := TX8) (N := 33) hx hb hts iX8 hown hK.1 hP 0 rfl rfl 8 (by decide) (hts _ q_687) (fun _ h9 => h9) rfl dX8_entry_57 ?_
      refine lv_iload_n hx hb dX8_entry_60 rfl (lv_at hl 1 rfl) ?_
      refine zald_n (f := σ 8) hx hb hK.1 hP 6 2 rfl rfl (j3) rfl (by omega) (by decide) dX8_entry_61 ?_
      refine lv_if_eq (tgt := 69) hx hb dX8_entry_62 (by decide) (fun c5 => ?_) (fun c5 => ?_)
      · -- 62 taken
        refine lv_iconst (v := 0) hx hb dX8_entry_69 (by decide) ?_
        have ho : oEntry σ τ k (nI j3) what = (0, su σ 0 (0) (0), τ) := by unfold oEntry; simp only [eq_true c2, eq_true c4, eq_true c5, nI_clamp (show j3 < 2 ^ 31 by omega), not_true, not_false_iff, not_true_eq_false, not_false_eq_true, true_or, or_true, false_or, or_false, or_self, and_self, true_and, and_true, false_and, and_false, if_true, if_false]; try rfl
        exact mu_iret (v0 := 0) (z := (su σ 0 (0) (0), τ)) hx hb hr hlocks hP hD hS dX8_entry_70 (by rw [ho]) (by rw [ho])
      · -- 62 not
        refine lv_iconst (v := 1) hx hb dX8_entry_65 (by decide) ?_
        refine lv_goto (tgt := 70) hx hb dX8_entry_66 (by decide) ?_
        have ho : oEntry σ τ k (nI j3) what = (1, su σ 0 (0) (0), τ) := by unfold oEntry; simp only [eq_true c2, eq_true c4, eq_false c5, nI_clamp (show j3 < 2 ^ 31 by omega), not_true, not_false_iff, not_true_eq_false, not_false_eq_true, true_or, or_true, false_or, or_false, or_self, and_self, true_and, and_true, false_and, and_false, if_true, if_false]; try rfl
        exact mu_iret (v0 := 1) (z := (su σ 0 (0) (0), τ)) hx hb hr hlocks hP hD hS dX8_entry_70 (by rw [ho]) (by rw [ho])
    by_cases c6 : what = 1
    · -- case 1
      refine lv_tableIn (tgt := 71) hx hb dX8_entry_17 (by rw [c6]; decide) (by rw [c6]; decide) (by rw [c6]; rfl) (by decide) ?_
      refine lv_aload_n hx hb dX8_entry_71 rfl (lv_at hl 0 rfl) ?_
      refine va_get (D := D) (ci := 8) (v := .ref ((ad 9))) (C := RX8) (T := TX8) (N := 33) hx hb hts iX8 hown hK.1 hP 0 rfl rfl 9 (by decide) (hts _ q_688) (fun _ h9 => h9) rfl dX8_entry_72 ?_
      refine lv_iload_n hx hb dX8_entry_75 rfl (lv_at hl 1 rfl) ?_
      refine iald_n (f := σ 9) hx hb hK.1 hP 7 0 rfl rfl (j3) rfl (by omega) (by decide) dX8_entry_76 ?_
      have ho : oEntry σ τ k (nI j3) what = (σ 9 j3, su σ 0 (0) (0), τ) := by unfold oEntry; simp only [eq_true c2, eq_false c4, eq_true c6, nI_clamp (show j3 < 2 ^ 31 by omega), not_true, not_false_iff, not_true_eq_false, not_false_eq_true, true_or, or_true, false_or, or_false, or_self, and_self, true_and, and_true, false_and, and_false, if_true, if_false]; try rfl
      exact mu_iret (v0 := σ 9 j3) (z := (su σ 0 (0) (0), τ)) hx hb hr hlocks hP hD hS dX8_entry_77 (by rw [ho]) (by rw [ho])
    by_cases c7 : what = 2
    · -- case 2
      refine lv_tableIn (tgt := 78) hx hb dX8_entry_17 (by rw [c7]; decide) (by rw [c7]; decide) (by rw [c7]; rfl) (by decide) ?_
      refine lv_aload_n hx hb dX8_entry_78 rfl (lv_at hl 0 rfl) ?_
      refine va_get (D := D) (ci := 8) (v := .ref ((ad 10))) (C := RX8) (T := TX8) (N := 33) hx hb hts iX8 hown hK.1 hP 0 rfl rfl 10 (by decide) (hts _ q_689) (fun _ h9 => h9) rfl dX8_entry_79 ?_
      refine lv_iload_n hx hb dX8_entry_82 rfl (lv_at hl 1 rfl) ?_
      refine iald_n (f := σ 10) hx hb hK.1 hP 8 0 rfl rfl (j3) rfl (by omega) (by decide) dX8_entry_83 ?_
      have ho : oEntry σ τ k (nI j3) what = (σ 10 j3, su σ 0 (0) (0), τ) := by unfold oEntry; simp only [eq_true c2, eq_false c4, eq_false c6, eq_true c7, nI_clamp (show j3 < 2 ^ 31 by omega), not_true, not_false_iff, not_true_eq_false, not_false_eq_true, true_or, or_true, false_or, or_false, or_self, and_self, true_and, and_true, false_and, and_false, if_true, if_false]; try rfl
      exact mu_iret (v0 := σ 10 j3) (z := (su σ 0 (0) (0), τ)) hx hb hr hlocks hP hD hS dX8_entry_84 (by rw [ho]) (by rw [ho])
    by_cases c8 : what = 3
    · -- case 3
      refine lv_tableIn (tgt := 85) hx hb dX8_entry_17 (by rw [c8]; decide) (by rw [c8]; decide) (by rw [c8]; rfl) (by decide) ?_
      refine lv_aload_n hx hb dX8_entry_85 rfl (lv_at hl 0 rfl) ?_
      refine va_get (D := D) (ci := 8) (v := .ref ((ad 11))) (C := RX8) (T := TX8) (N := 33) hx hb hts iX8 hown hK.1 hP 0 rfl rfl 11 (by decide) (hts _ q_690) (fun _ h9 => h9) rfl dX8_entry_86 ?_
      refine lv_iload_n hx hb dX8_entry_89 rfl (lv_at hl 1 rfl) ?_
      refine iald_n (f := σ 11) hx hb hK.1 hP 9 0 rfl rfl (j3) rfl (by omega) (by decide) dX8_entry_90 ?_
      have ho : oEntry σ τ k (nI j3) what = (σ 11 j3, su σ 0 (0) (0), τ) := by unfold oEntry; simp only [eq_true c2, eq_false c4, eq_false c6, eq_false c7, eq_true c8, nI_clamp (show j3 < 2 ^ 31 by omega), not_true, not_false_iff, not_true_eq_false, not_false_eq_true, true_or, or_true, false_or, or_false, or_self, and_self, true_and, and_true, false_and, and_false, if_true, if_false]; try rfl
      exact mu_iret (v0 := σ 11 j3) (z := (su σ 0 (0) (0), τ)) hx hb hr hlocks hP hD hS dX8_entry_91 (by rw [ho]) (by rw [ho])
    by_cases c9 : what = 4
    · -- case 4
      refine lv_tableIn (tgt := 92) hx hb dX8_entry_17 (by rw [c9]; decide) (by rw [c9]; decide) (by rw [c9]; rfl) (by decide) ?_
      refine lv_aload_n hx hb dX8_entry_92 rfl (lv_at hl 0 rfl) ?_
      refine va_get (D := D) (ci := 8) (v := .ref ((ad 12))) (C := RX8) (T := TX8) (N := 33) hx hb hts iX8 hown hK.1 hP 0 rfl rfl 12 (by decide) (hts _ q_691) (fun _ h9 => h9) rfl dX8_entry_93 ?_
      refine lv_iload_n hx hb dX8_entry_96 rfl (lv_at hl 1 rfl) ?_
      refine iald_n (f := σ 12) hx hb hK.1 hP 10 0 rfl rfl (j3) rfl (by omega) (by decide) dX8_entry_97 ?_
      have ho : oEntry σ τ k (nI j3) what = (σ 12 j3, su σ 0 (0) (0), τ) := by unfold oEntry; simp only [eq_true c2, eq_false c4, eq_false c6, eq_false c7, eq_false c8, eq_true c9, nI_clamp (show j3 < 2 ^ 31 by omega), not_true, not_false_iff, not_true_eq_false, not_false_eq_true, true_or, or_true, false_or, or_false, or_self, and_self, true_and, and_true, false_and, and_false, if_true, if_false]; try rfl
      exact mu_iret (v0 := σ 12 j3) (z := (su σ 0 (0) (0), τ)) hx hb hr hlocks hP hD hS dX8_entry_98 (by rw [ho]) (by rw [ho])
    by_cases c10 : what = 5
    · -- case 5
      refine lv_tableIn (tgt := 99) hx hb dX8_entry_17 (by rw [c10]; decide) (by rw [c10]; decide) (by rw [c10]; rfl) (by decide) ?_
      refine lv_aload_n hx hb dX8_entry_99 rfl (lv_at hl 0 rfl) ?_
      refine va_get (D := D) (ci := 8) (v := .ref ((ad 13))) (C := RX8) (T := TX8) (N := 33) hx hb hts iX8 hown hK.1 hP 0 rfl rfl 13 (by decide) (hts _ q_692) (fun _ h9 => h9) rfl dX8_entry_100 ?_
      refine lv_iload_n hx hb dX8_entry_103 rfl (lv_at hl 1 rfl) ?_
      refine iald_n (f := σ 13) hx hb hK.1 hP 11 0 rfl rfl (j3) rfl (by omega) (by decide) dX8_entry_104 ?_
      have ho : oEntry σ τ k (nI j3) what = (σ 13 j3, su σ 0 (0) (0), τ) := by unfold oEntry; simp only [eq_true c2, eq_false c4, eq_false c6, eq_false c7, eq_false c8, eq_false c9, eq_true c10, nI_clamp (show j3 < 2 ^ 31 by omega), not_true, not_false_iff, not_true_eq_false, not_false_eq_true, true_or, or_true, false_or, or_false, or_self, and_self, true_and, and_true, false_and, and_false, if_true, if_false]; try rfl
      exact mu_iret (v0 := σ 13 j3) (z := (su σ 0 (0) (0), τ)) hx hb hr hlocks hP hD hS dX8_entry_105 (by rw [ho]) (by rw [ho])
    refine lv_tableOut (tgt := 106) hx hb dX8_entry_17 (by simp only [i_eq, Int32.reduceToInt] at c4 c6 c7 c8 c9 c10; omega) (by decide) ?_
    refine lv_bipush (v := -13) hx hb dX8_entry_106 (by decide) ?_
    have ho : oEntry σ τ k (nI j3) what = ((-13), su σ 0 (0) (0), τ) := by unfold oEntry; simp only [eq_true c2, eq_false c4, eq_false c6, eq_false c7, eq_false c8, eq_false c9, eq_false c10, nI_clamp (show j3 < 2 ^ 31 by omega), not_true, not_false_iff, not_true_eq_false, not_false_eq_true, true_or, or_true, false_or, or_false, or_self, and_self, true_and, and_true, false_and, and_false, if_true, if_false]; try rfl
    exact mu_iret (v0 := (-13)) (z := (su σ 0 (0) (0), τ)) hx hb hr hlocks hP hD hS dX8_entry_108 (by rw [ho]) (by rw [ho])
  · -- 10 not
    have c2 := bI_0 c2
    refine lv_bipush (v := -11) hx hb dX8_entry_13 (by decide) ?_
    have ho : oEntry σ τ k en what = ((-11), su σ 0 (0) (0), τ) := by unfold oEntry; simp only [eq_false c2, not_true, not_false_iff, not_true_eq_false, not_false_eq_true, true_or, or_true, false_or, or_false, or_self, and_self, true_and, and_true, false_and, and_false, if_true, if_false]; try rfl
    exact mu_iret (v0 := (-11)) (z := (su σ 0 (0) (0), τ)) hx hb hr hlocks hP hD hS dX8_entry_15 (by rw [ho]) (by rw [ho])
set_option maxHeartbeats 4000000 in
set_option maxRecDepth 100000 in
theorem m_shape (l : Launch) (D : va_G) (G : Nat → ClassId) (mo : Nat) (ad : Nat → Nat) (σ : MS) (τ : Nat → Int64) (sz : Nat) (k : Nat) (h7 : σ 7 0 = nI k) (hk60 : k ≤ 60) (en : Int32) (what : Int32) : Met l yX8_shape (ww yX8_shape cX8_shape 3 (some .int)) (rmD 2) (muP D G sz mo ad (σ, τ) [.ref mo, .int en, .int what]) (muQi D G mo ad (muA G mo ad (σ, τ) sz) (oShape σ τ k en what).1 (oShape σ τ k en what).2) 0 0 (muA G mo ad (σ, τ) sz) := by
  refine Met.ofW (cc := cX8_shape) (maxL := 3) (ret := (some .int)) (by decide) rfl ?_
  intro p e s m args below meth c s₁ B hml hv
  obtain ⟨rfl, hsz, hP, hK, hD0⟩ := hv
  have hx := B.exec
  have hb := B.bytes
  have hr := B.returns
  have hts : ∀ w ∈ TT, w.before _ s = true := fun w h => atoms_spec (ws := ww yX8_shape cX8_shape 3 (some .int)) B.pre w (List.mem_cons_of_mem _ h)
  have hown : s.vm.findClass RX8 = some m.cls := findClass_of_methodNamed B.named
  have hlocks := B.notSynchronized
  subst hsz
  have hD : va_D (muA G mo ad (σ, τ) s.heap.size) (mW G mo ad σ τ) := hD0.self
  generalize hAe : muA G mo ad (σ, τ) s.heap.size = A at hD ⊢
  have hA : ∀ q : Nat, s.heap.size ≤ q → A q := fun q h => by rw [← hAe]; exact Or.inr h
  have hS : va_S A s.heap s.heap [] := va_S.rf
  have hP : va_P D vwCl (mW G mo ad σ τ) s.heap := hP
  have hl := lv_entry ([.ref mo, .int en, .int what]) (n := 3) (Nat.le_of_ble_eq_true rfl)
  rw [lg_entry_eq]
  generalize (lg_sl ([.ref mo, .int en, .int what]) ++ List.replicate (3 - (lg_sl ([.ref mo, .int en, .int what])).length) Slot.unset).toArray = ls at hl ⊢
  have hl : lv_has ls 3 [(0, .ref mo), (1, .int en), (2, .int what)] := hl
  refine lv_aload_n hx hb dX8_shape_0 rfl (lv_at hl 0 rfl) ?_
  refine lv_iconst (v := 0) hx hb dX8_shape_1 (by decide) ?_
  refine va_put (D := D) (ci := 8) (v := .int 0) (ty := .int) (C := RX8) (T := TX8) (N := 33) hx hb hts iX8 tyX8 tyX8_ok nmX8 hown hK.1 hP hD hS 0 rfl rfl 0 (by decide) (hts _ q_679) (fun _ h9 => h9) rfl (by decide +kernel) rfl rfl (Nat.le_of_ble_eq_true rfl) dX8_shape_2 (fun H locs hP hD hS => ?_)
  have hP : va_P D vwCl (mW G mo ad (su σ 0 (0) (0)) (τ)) H := hP
  have hD : va_D A (mW G mo ad (su σ 0 (0) (0)) (τ)) := hD
  refine lv_aload_n hx hb dX8_shape_5 rfl (lv_at hl 0 rfl) ?_
  refine lv_iload_n hx hb dX8_shape_6 rfl (lv_at hl 1 rfl) ?_
  refine ro_Vi (D := D) (G := G) (As := [.int en]) (rest := []) ⟨hx, hb, hml, hown, hts⟩ (m_isEntry l D G _ mo ad _ _ hP k h7 hk60 en) gV_X8_X8_isEntry hdV_X8_isEntry ⟨Nat.le_of_ble_eq_true rfl, Nat.le_of_ble_eq_true rfl⟩ hK (va_recv hK.1 hP (ci := 8) (q0 := 0) rfl rfl) rfl hl.1 rfl (Nat.le_of_ble_eq_true rfl) dX8_shape_7 ⟨Nat.le_of_ble_eq_true rfl, Nat.le_of_ble_eq_true rfl⟩ (fun r1 e_r1 => ?_)
  subst e_r1
  refine W.eq (g2 := F0 m 10 ls [.int (bI (okN k en))]) rfl ?_
  refine lv_if_ne (tgt := 16) hx hb dX8_shape_10 (by decide) (fun c2 => ?_) (fun c2 => ?_)
  · -- 10 taken
    have c2 := bI_1 c2
    obtain ⟨j3, h_j3, rfl⟩ := okN_ex (by omega) c2
    refine lv_aload_n hx hb dX8_shape_16 rfl (lv_at hl 0 rfl) ?_
    refine va_get (D := D) (ci := 8) (v := .ref ((ad 8))) (C := RX8) (T := TX8) (N := 33) hx hb hts iX8 hown hK.1 hP 0 rfl rfl 8 (by decide) (hts _ q_687) (fun _ h9 => h9) rfl dX8_shape_17 ?_
    refine lv_iload_n hx hb dX8_shape_20 rfl (lv_at hl 1 rfl) ?_
    refine zald_n (f := σ 8) hx hb hK.1 hP 6 2 rfl rfl (j3) rfl (by omega) (by decide) dX8_shape_21 ?_
    refine lv_if_ne (tgt := 28) hx hb dX8_shape_22 (by decide) (fun c4 => ?_) (fun c4 => ?_)
    · -- 22 taken
      refine lv_iload_n hx hb dX8_shape_28 rfl (lv_at hl 2 rfl) ?_
      by_cases c5 : what = 0
      · -- case 0
        refine lv_tableIn (tgt := 60) hx hb dX8_shape_29 (by rw [c5]; decide) (by rw [c5]; decide) (by rw [c5]; rfl) (by decide) ?_
        refine lv_aload_n hx hb dX8_shape_60 rfl (lv_at hl 0 rfl) ?_
        refine va_get (D := D) (ci := 8) (v := .ref ((ad 18))) (C := RX8) (T := TX8) (N := 33) hx hb hts iX8 hown hK.1 hP 0 rfl rfl 18 (by decide) (hts _ q_697) (fun _ h9 => h9) rfl dX8_shape_61 ?_
        refine lv_iload_n hx hb dX8_shape_64 rfl (lv_at hl 1 rfl) ?_
        refine iald_n (f := σ 18) hx hb hK.1 hP 16 0 rfl rfl (j3) rfl (by omega) (by decide) dX8_shape_65 ?_
        have ho : oShape σ τ k (nI j3) what = (σ 18 j3, su σ 0 (0) (0), τ) := by unfold oShape; simp only [eq_true c2, eq_false c4, eq_true c5, nI_clamp (show j3 < 2 ^ 31 by omega), not_true, not_false_iff, not_true_eq_false, not_false_eq_true, true_or, or_true, false_or, or_false, or_self, and_self, true_and, and_true, false_and, and_false, if_true, if_false]; try rfl
        exact mu_iret (v0 := σ 18 j3) (z := (su σ 0 (0) (0), τ)) hx hb hr hlocks hP hD hS dX8_shape_66 (by rw [ho]) (by rw [ho])
      by_cases c6 : what = 1
      · -- case 1
        refine lv_tableIn (tgt := 67) hx hb dX8_shape_29 (by rw [c6]; decide) (by rw [c6]; decide) (by rw [c6]; rfl) (by decide) ?_
        refine lv_aload_n hx hb dX8_shape_67 rfl (lv_at hl 0 rfl) ?_
        refine va_get (D := D) (ci := 8) (v := .ref ((ad 17))) (C := RX8) (T := TX8) (N := 33) hx hb hts iX8 hown hK.1 hP 0 rfl rfl 17 (by decide) (hts _ q_696) (fun _ h9 => h9) rfl dX8_shape_68 ?_
        refine lv_iload_n hx hb dX8_shape_71 rfl (lv_at hl 1 rfl) ?_
        refine zald_n (f := σ 17) hx hb hK.1 hP 15 2 rfl rfl (j3) rfl (by omega) (by decide) dX8_shape_72 ?_
        refine lv_if_eq (tgt := 80) hx hb dX8_shape_73 (by decide) (fun c7 => ?_) (fun c7 => ?_)
        · -- 73 taken
          refine lv_iconst (v := 0) hx hb dX8_shape_80 (by decide) ?_
          have ho : oShape σ τ k (nI j3) what = (0, su σ 0 (0) (0), τ) := by unfold oShape; simp only [eq_true c2, eq_false c4, eq_false c5, eq_true c6, eq_true c7, nI_clamp (show j3 < 2 ^ 31 by omega), not_true, not_false_iff, not_true_eq_false, not_false_eq_true, true_or, or_true, false_or, or_false, or_self, and_self, true_and, and_true, false_and, and_false, if_true, if_false]; try rfl
          exact mu_iret (v0 := 0) (z := (su σ 0 (0) (0), τ)) hx hb hr hlocks hP hD hS dX8_shape_81 (by rw [ho]) (by rw [ho])
        · -- 73 not
          refine lv_iconst (v := 1) hx hb dX8_shape_76 (by decide) ?_
          refine lv_goto (tgt := 81) hx hb dX8_shape_77 (by decide) ?_
          have ho : oShape σ τ k (nI j3) what = (1, su σ 0 (0) (0), τ) := by unfold oShape; simp only [eq_true c2, eq_false c4, eq_false c5, eq_true c6, eq_false c7, nI_clamp (show j3 < 2 ^ 31 by omega), not_true, not_false_iff, not_true_eq_false, not_false_eq_true, true_or, or_true, false_or, or_false, or_self, and_self, true_and, and_true, false_and, and_false, if_true, if_false]; try rfl
          exact mu_iret (v0 := 1) (z := (su σ 0 (0) (0), τ)) hx hb hr hlocks hP hD hS dX8_shape_81 (by rw [ho]) (by rw [ho])
      by_cases c8 : what = 2
      · -- case 2
        refine lv_tableIn (tgt := 82) hx hb dX8_shape_29 (by rw [c8]; decide) (by rw [c8]; decide) (by rw [c8]; rfl) (by decide) ?_
        refine lv_aload_n hx hb dX8_shape_82 rfl (lv_at hl 0 rfl) ?_
        refine va_get (D := D) (ci := 8) (v := .ref ((ad 16))) (C := RX8) (T := TX8) (N := 33) hx hb hts iX8 hown hK.1 hP 0 rfl rfl 16 (by decide) (hts _ q_695) (fun _ h9 => h9) rfl dX8_shape_83 ?_
        refine lv_iload_n hx hb dX8_shape_86 rfl (lv_at hl 1 rfl) ?_
        refine zald_n (f := σ 16) hx hb hK.1 hP 14 2 rfl rfl (j3) rfl (by omega) (by decide) dX8_shape_87 ?_
        refine lv_if_eq (tgt := 95) hx hb dX8_shape_88 (by decide) (fun c9 => ?_) (fun c9 => ?_)
        · -- 88 taken
          refine lv_iconst (v := 0) hx hb dX8_shape_95 (by decide) ?_
          have ho : oShape σ τ k (nI j3) what = (0, su σ 0 (0) (0), τ) := by unfold oShape; simp only [eq_true c2, eq_false c4, eq_false c5, eq_false c6, eq_true c8, eq_true c9, nI_clamp (show j3 < 2 ^ 31 by omega), not_true, not_false_iff, not_true_eq_false, not_false_eq_true, true_or, or_true, false_or, or_false, or_self, and_self, true_and, and_true, false_and, and_false, if_true, if_false]; try rfl
          exact mu_iret (v0 := 0) (z := (su σ 0 (0) (0), τ)) hx hb hr hlocks hP hD hS dX8_shape_96 (by rw [ho]) (by rw [ho])
        · -- 88 not
          refine lv_iconst (v := 1) hx hb dX8_shape_91 (by decide) ?_
          refine lv_goto (tgt := 96) hx hb dX8_shape_92 (by decide) ?_
          have ho : oShape σ τ k (nI j3) what = (1, su σ 0 (0) (0), τ) := by unfold oShape; simp only [eq_true c2, eq_false c4, eq_false c5, eq_false c6, eq_true c8, eq_false c9, nI_clamp (show j3 < 2 ^ 31 by omega), not_true, not_false_iff, not_true_eq_false, not_false_eq_true, true_or, or_true, false_or, or_false, or_self, and_self, true_and, and_true, false_and, and_false, if_true, if_false]; try rfl
          exact mu_iret (v0 := 1) (z := (su σ 0 (0) (0), τ)) hx hb hr hlocks hP hD hS dX8_shape_96 (by rw [ho]) (by rw [ho])
      by_cases c10 : what = 3
      · -- case 3
        refine lv_tableIn (tgt := 97) hx hb dX8_shape_29 (by rw [c10]; decide) (by rw [c10]; decide) (by rw [c10]; rfl) (by decide) ?_
        refine lv_aload_n hx hb dX8_shape_97 rfl (lv_at hl 0 rfl) ?_
        refine va_get (D := D) (ci := 8) (v := .ref ((ad 28))) (C := RX8) (T := TX8) (N := 33) hx hb hts iX8 hown hK.1 hP 0 rfl rfl 28 (by decide) (hts _ q_707) (fun _ h9 => h9) rfl dX8_shape_98 ?_
        refine lv_iload_n hx hb dX8_shape_101 rfl (lv_at hl 1 rfl) ?_
        refine iald_n (f := σ 28) hx hb hK.1 hP 22 0 rfl rfl (j3) rfl (by omega) (by decide) dX8_shape_102 ?_
        have ho : oShape σ τ k (nI j3) what = (σ 28 j3, su σ 0 (0) (0), τ) := by unfold oShape; simp only [eq_true c2, eq_false c4, eq_false c5, eq_false c6, eq_false c8, eq_true c10, nI_clamp (show j3 < 2 ^ 31 by omega), not_true, not_false_iff, not_true_eq_false, not_false_eq_true, true_or, or_true, false_or, or_false, or_self, and_self, true_and, and_true, false_and, and_false, if_true, if_false]; try rfl
        exact mu_iret (v0 := σ 28 j3) (z := (su σ 0 (0) (0), τ)) hx hb hr hlocks hP hD hS dX8_shape_103 (by rw [ho]) (by rw [ho])
      refine lv_tableOut (tgt := 104) hx hb dX8_shape_29 (by simp only [i_eq, Int32.reduceToInt] at c5 c6 c8 c10; omega) (by decide) ?_
      refine lv_bipush (v := -13) hx hb dX8_shape_104 (by decide) ?_
      have ho : oShape σ τ k (nI j3) what = ((-13), su σ 0 (0) (0), τ) := by unfold oShape; simp only [eq_true c2, eq_false c4, eq_false c5, eq_false c6, eq_false c8, eq_false c10, nI_clamp (show j3 < 2 ^ 31 by omega), not_true, not_false_iff, not_true_eq_false, not_false_eq_true, true_or, or_true, false_or, or_false, or_self, and_self, true_and, and_true, false_and, and_false, if_true, if_false]; try rfl
      exact mu_iret (v0 := (-13)) (z := (su σ 0 (0) (0), τ)) hx hb hr hlocks hP hD hS dX8_shape_106 (by rw [ho]) (by rw [ho])
    · -- 22 not
      refine lv_bipush (v := -12) hx hb dX8_shape_25 (by decide) ?_
      have ho : oShape σ τ k (nI j3) what = ((-12), su σ 0 (0) (0), τ) := by unfold oShape; simp only [eq_true c2, eq_true c4, nI_clamp (show j3 < 2 ^ 31 by omega), not_true, not_false_iff, not_true_eq_false, not_false_eq_true, true_or, or_true, false_or, or_false, or_self, and_self, true_and, and_true, false_and, and_false, if_true, if_false]; try rfl
      exact mu_iret (v0 := (-12)) (z := (su σ 0 (0) (0), τ)) hx hb hr hlocks hP hD hS dX8_shape_27 (by rw [ho]) (by rw [ho])
  · -- 10 not
    have c2 := bI_0 c2
    refine lv_bipush (v := -11) hx hb dX8_shape_13 (by decide) ?_
    have ho : oShape σ τ k en what = ((-11), su σ 0 (0) (0), τ) := by unfold oShape; simp only [eq_false c2, not_true, not_false_iff, not_true_eq_false, not_false_eq_true, true_or, or_true, false_or, or_false, or_self, and_self, true_and, and_true, false_and, and_false, if_true, if_false]; try rfl
    exact mu_iret (v0 := (-11)) (z := (su σ 0 (0) (0), τ)) hx hb hr hlocks hP hD hS dX8_shape_15 (by rw [ho]) (by rw [ho])
set_option maxHeartbeats 4000000 in
set_option maxRecDepth 100000 in
theorem m_count (l : Launch) (D : va_G) (G : Nat → ClassId) (mo : Nat) (ad : Nat → Nat) (σ : MS) (τ : Nat → Int64) (sz : Nat) (k : Nat) (h7 : σ 7 0 = nI k) (hk60 : k ≤ 60) (hk59 : ¬ σ 21 0 = 0 → k < 60) (what : Int32) : Met l yX8_count (ww yX8_count cX8_count 2 (some .int)) (rmD 0) (muP D G sz mo ad (σ, τ) [.ref mo, .int what]) (muQi D G mo ad (muA G mo ad (σ, τ) sz) (oCount σ τ k what).1 (oCount σ τ k what).2) 0 0 (muA G mo ad (σ, τ) sz) := by
  refine Met.ofW (cc := cX8_count) (maxL := 2) (ret := (some .int)) (by decide) rfl ?_
  intro p e s m args below meth c s₁ B hml hv
  obtain ⟨rfl, hsz, hP, hK, hD0⟩ := hv
  have hx := B.exec
  have hb := B.bytes
  have hr := B.returns
  have hts : ∀ w ∈ TT, w.before _ s = true := fun w h => atoms_spec (ws := ww yX8_count cX8_count 2 (some .int)) B.pre w (List.mem_cons_of_mem _ h)
  have hown : s.vm.findClass RX8 = some m.cls := findClass_of_methodNamed B.named
  have hlocks := B.notSynchronized
  subst hsz
  have hD : va_D (muA G mo ad (σ, τ) s.heap.size) (mW G mo ad σ τ) := hD0.self
  generalize hAe : muA G mo ad (σ, τ) s.heap.size = A at hD ⊢
  have hA : ∀ q : Nat, s.heap.size ≤ q → A q := fun q h => by rw [← hAe]; exact Or.inr h
  have hS : va_S A s.heap s.heap [] := va_S.rf
  have hP : va_P D vwCl (mW G mo ad σ τ) s.heap := hP
  have hl := lv_entry ([.ref mo, .int what]) (n := 2) (Nat.le_of_ble_eq_true rfl)
  rw [lg_entry_eq]
  generalize (lg_sl ([.ref mo, .int what]) ++ List.replicate (2 - (lg_sl ([.ref mo, .int what])).length) Slot.unset).toArray = ls at hl ⊢
  have hl : lv_has ls 2 [(0, .ref mo), (1, .int what)] := hl
  refine lv_aload_n hx hb dX8_count_0 rfl (lv_at hl 0 rfl) ?_
  refine lv_iconst (v := 0) hx hb dX8_count_1 (by decide) ?_
  refine va_put (D := D) (ci := 8) (v := .int 0) (ty := .int) (C := RX8) (T := TX8) (N := 33) hx hb hts iX8 tyX8 tyX8_ok nmX8 hown hK.1 hP hD hS 0 rfl rfl 0 (by decide) (hts _ q_679) (fun _ h9 => h9) rfl (by decide +kernel) rfl rfl (Nat.le_of_ble_eq_true rfl) dX8_count_2 (fun H locs hP hD hS => ?_)
  have hP : va_P D vwCl (mW G mo ad (su σ 0 (0) (0)) (τ)) H := hP
  have hD : va_D A (mW G mo ad (su σ 0 (0) (0)) (τ)) := hD
  refine lv_iload_n hx hb dX8_count_5 rfl (lv_at hl 1 rfl) ?_
  by_cases c1 : what = 0
  · -- case 0
    refine lv_tableIn (tgt := 44) hx hb dX8_count_6 (by rw [c1]; decide) (by rw [c1]; decide) (by rw [c1]; rfl) (by decide) ?_
    refine lv_aload_n hx hb dX8_count_44 rfl (lv_at hl 0 rfl) ?_
    refine va_get (D := D) (ci := 8) (v := .int (σ 1 0)) (C := RX8) (T := TX8) (N := 33) hx hb hts iX8 hown hK.1 hP 0 rfl rfl 1 (by decide) (hts _ q_680) (fun _ h9 => h9) rfl dX8_count_45 ?_
    have ho : oCount σ τ k what = (σ 1 0, su σ 0 (0) (0), τ) := by unfold oCount; simp only [eq_true c1, not_true, not_false_iff, not_true_eq_false, not_false_eq_true, true_or, or_true, false_or, or_false, or_self, and_self, true_and, and_true, false_and, and_false, if_true, if_false]; try rfl
    exact mu_iret (v0 := σ 1 0) (z := (su σ 0 (0) (0), τ)) hx hb hr hlocks hP hD hS dX8_count_48 (by rw [ho]) (by rw [ho])
  by_cases c2 : what = 1
  · -- case 1
    refine lv_tableIn (tgt := 49) hx hb dX8_count_6 (by rw [c2]; decide) (by rw [c2]; decide) (by rw [c2]; rfl) (by decide) ?_
    refine lv_aload_n hx hb dX8_count_49 rfl (lv_at hl 0 rfl) ?_
    refine va_get (D := D) (ci := 8) (v := .int (σ 7 0)) (C := RX8) (T := TX8) (N := 33) hx hb hts iX8 hown hK.1 hP 0 rfl rfl 7 (by decide) (hts _ q_686) (fun _ h9 => h9) rfl dX8_count_50 ?_
    refine W.eq (g2 := F0 m 53 ls [.int (nI k)]) (congrArg (fun z9 => F0 m 53 ls [.int z9]) h7) ?_
    have ho : oCount σ τ k what = (nI k, su σ 0 (0) (0), τ) := by unfold oCount; simp only [eq_false c1, eq_true c2, not_true, not_false_iff, not_true_eq_false, not_false_eq_true, true_or, or_true, false_or, or_false, or_self, and_self, true_and, and_true, false_and, and_false, if_true, if_false]; try rfl
    exact mu_iret (v0 := nI k) (z := (su σ 0 (0) (0), τ)) hx hb hr hlocks hP hD hS dX8_count_53 (by rw [ho]) (by rw [ho])
  by_cases c3 : what = 2
  · -- case 2
    refine lv_tableIn (tgt := 54) hx hb dX8_count_6 (by rw [c3]; decide) (by rw [c3]; decide) (by rw [c3]; rfl) (by decide) ?_
    refine lv_aload_n hx hb dX8_count_54 rfl (lv_at hl 0 rfl) ?_
    refine va_get (D := D) (ci := 8) (v := .int (σ 21 0)) (C := RX8) (T := TX8) (N := 33) hx hb hts iX8 hown hK.1 hP 0 rfl rfl 21 (by decide) (hts _ q_700) (fun _ h9 => h9) rfl dX8_count_55 ?_
    refine lv_if_eq (tgt := 65) hx hb dX8_count_58 (by decide) (fun c4 => ?_) (fun c4 => ?_)
    · -- 58 taken
      refine lv_iconst (v := 0) hx hb dX8_count_65 (by decide) ?_
      have ho : oCount σ τ k what = (0, su σ 0 (0) (0), τ) := by unfold oCount; simp only [eq_false c1, eq_false c2, eq_true c3, eq_true c4, not_true, not_false_iff, not_true_eq_false, not_false_eq_true, true_or, or_true, false_or, or_false, or_self, and_self, true_and, and_true, false_and, and_false, if_true, if_false]; try rfl
      exact mu_iret (v0 := 0) (z := (su σ 0 (0) (0), τ)) hx hb hr hlocks hP hD hS dX8_count_66 (by rw [ho]) (by rw [ho])
    · -- 58 not
      refine lv_iconst (v := 1) hx hb dX8_count_61 (by decide) ?_
      refine lv_goto (tgt := 66) hx hb dX8_count_62 (by decide) ?_
      have ho : oCount σ τ k what = (1, su σ 0 (0) (0), τ) := by unfold oCount; simp only [eq_false c1, eq_false c2, eq_true c3, eq_false c4, not_true, not_false_iff, not_true_eq_false, not_false_eq_true, true_or, or_true, false_or, or_false, or_self, and_self, true_and, and_true, false_and, and_false, if_true, if_false]; try rfl
      exact mu_iret (v0 := 1) (z := (su σ 0 (0) (0), τ)) hx hb hr hlocks hP hD hS dX8_count_66 (by rw [ho]) (by rw [ho])
  by_cases c5 : what = 3
  · -- case 3
    refine lv_tableIn (tgt := 67) hx hb dX8_count_6 (by rw [c5]; decide) (by rw [c5]; decide) (by rw [c5]; rfl) (by decide) ?_
    refine lv_aload_n hx hb dX8_count_67 rfl (lv_at hl 0 rfl) ?_
    refine va_get (D := D) (ci := 8) (v := .int (σ 21 0)) (C := RX8) (T := TX8) (N := 33) hx hb hts iX8 hown hK.1 hP 0 rfl rfl 21 (by decide) (hts _ q_700) (fun _ h9 => h9) rfl dX8_count_68 ?_
    refine lv_if_eq (tgt := 86) hx hb dX8_count_71 (by decide) (fun c6 => ?_) (fun c6 => ?_)
    · -- 71 taken
      refine lv_iconst (v := 0) hx hb dX8_count_86 (by decide) ?_
      have ho : oCount σ τ k what = (0, su σ 0 (0) (0), τ) := by unfold oCount; simp only [eq_false c1, eq_false c2, eq_false c3, eq_true c5, eq_true c6, not_true, not_false_iff, not_true_eq_false, not_false_eq_true, true_or, or_true, false_or, or_false, or_self, and_self, true_and, and_true, false_and, and_false, if_true, if_false]; try rfl
      exact mu_iret (v0 := 0) (z := (su σ 0 (0) (0), τ)) hx hb hr hlocks hP hD hS dX8_count_87 (by rw [ho]) (by rw [ho])
    · -- 71 not
      have hk59 := hk59 c6
      refine lv_aload_n hx hb dX8_count_74 rfl (lv_at hl 0 rfl) ?_
      refine va_get (D := D) (ci := 8) (v := .ref ((ad 18))) (C := RX8) (T := TX8) (N := 33) hx hb hts iX8 hown hK.1 hP 0 rfl rfl 18 (by decide) (hts _ q_697) (fun _ h9 => h9) rfl dX8_count_75 ?_
      refine lv_aload_n hx hb dX8_count_78 rfl (lv_at hl 0 rfl) ?_
      refine va_get (D := D) (ci := 8) (v := .int (σ 7 0)) (C := RX8) (T := TX8) (N := 33) hx hb hts iX8 hown hK.1 hP 0 rfl rfl 7 (by decide) (hts _ q_686) (fun _ h9 => h9) rfl dX8_count_79 ?_
      refine iald_n (f := σ 18) hx hb hK.1 hP 16 0 rfl rfl (k) h7 (by omega) (by decide) dX8_count_82 ?_
      refine lv_goto (tgt := 87) hx hb dX8_count_83 (by decide) ?_
      have ho : oCount σ τ k what = (σ 18 k, su σ 0 (0) (0), τ) := by unfold oCount; simp only [eq_false c1, eq_false c2, eq_false c3, eq_true c5, eq_false c6, not_true, not_false_iff, not_true_eq_false, not_false_eq_true, true_or, or_true, false_or, or_false, or_self, and_self, true_and, and_true, false_and, and_false, if_true, if_false]; try rfl
      exact mu_iret (v0 := σ 18 k) (z := (su σ 0 (0) (0), τ)) hx hb hr hlocks hP hD hS dX8_count_87 (by rw [ho]) (by rw [ho])
  by_cases c7 : what = 4
  · -- case 4
    refine lv_tableIn (tgt := 88) hx hb dX8_count_6 (by rw [c7]; decide) (by rw [c7]; decide) (by rw [c7]; rfl) (by decide) ?_
    refine lv_aload_n hx hb dX8_count_88 rfl (lv_at hl 0 rfl) ?_
    refine va_get (D := D) (ci := 8) (v := .int (σ 22 0)) (C := RX8) (T := TX8) (N := 33) hx hb hts iX8 hown hK.1 hP 0 rfl rfl 22 (by decide) (hts _ q_701) (fun _ h9 => h9) rfl dX8_count_89 ?_
    have ho : oCount σ τ k what = (σ 22 0, su σ 0 (0) (0), τ) := by unfold oCount; simp only [eq_false c1, eq_false c2, eq_false c3, eq_false c5, eq_true c7, not_true, not_false_iff, not_true_eq_false, not_false_eq_true, true_or, or_true, false_or, or_false, or_self, and_self, true_and, and_true, false_and, and_false, if_true, if_false]; try rfl
    exact mu_iret (v0 := σ 22 0) (z := (su σ 0 (0) (0), τ)) hx hb hr hlocks hP hD hS dX8_count_92 (by rw [ho]) (by rw [ho])
  by_cases c8 : what = 5
  · -- case 5
    refine lv_tableIn (tgt := 93) hx hb dX8_count_6 (by rw [c8]; decide) (by rw [c8]; decide) (by rw [c8]; rfl) (by decide) ?_
    refine lv_aload_n hx hb dX8_count_93 rfl (lv_at hl 0 rfl) ?_
    refine va_get (D := D) (ci := 8) (v := .int (σ 26 0)) (C := RX8) (T := TX8) (N := 33) hx hb hts iX8 hown hK.1 hP 0 rfl rfl 26 (by decide) (hts _ q_705) (fun _ h9 => h9) rfl dX8_count_94 ?_
    have ho : oCount σ τ k what = (σ 26 0, su σ 0 (0) (0), τ) := by unfold oCount; simp only [eq_false c1, eq_false c2, eq_false c3, eq_false c5, eq_false c7, eq_true c8, not_true, not_false_iff, not_true_eq_false, not_false_eq_true, true_or, or_true, false_or, or_false, or_self, and_self, true_and, and_true, false_and, and_false, if_true, if_false]; try rfl
    exact mu_iret (v0 := σ 26 0) (z := (su σ 0 (0) (0), τ)) hx hb hr hlocks hP hD hS dX8_count_97 (by rw [ho]) (by rw [ho])
  refine lv_tableOut (tgt := 98) hx hb dX8_count_6 (by simp only [i_eq, Int32.reduceToInt] at c1 c2 c3 c5 c7 c8; omega) (by decide) ?_
  refine lv_bipush (v := -13) hx hb dX8_count_98 (by decide) ?_
  have ho : oCount σ τ k what = ((-13), su σ 0 (0) (0), τ) := by unfold oCount; simp only [eq_false c1, eq_false c2, eq_false c3, eq_false c5, eq_false c7, eq_false c8, not_true, not_false_iff, not_true_eq_false, not_false_eq_true, true_or, or_true, false_or, or_false, or_self, and_self, true_and, and_true, false_and, and_false, if_true, if_false]; try rfl
  exact mu_iret (v0 := (-13)) (z := (su σ 0 (0) (0), τ)) hx hb hr hlocks hP hD hS dX8_count_100 (by rw [ho]) (by rw [ho])
set_option maxHeartbeats 4000000 in
set_option maxRecDepth 100000 in
theorem m_broken (l : Launch) (D : va_G) (G : Nat → ClassId) (mo : Nat) (ad : Nat → Nat) (σ : MS) (τ : Nat → Int64) (sz : Nat) (rr : Int32) : Met l yX8_broken (ww yX8_broken cX8_broken 2 (some .int)) (rmD 1) (muP D G sz mo ad (σ, τ) [.ref mo, .int rr]) (muQi D G mo ad (muA G mo ad (σ, τ) sz) (oBroken σ τ rr).1 (oBroken σ τ rr).2) 0 0 (muA G mo ad (σ, τ) sz) := by
  refine Met.ofW (cc := cX8_broken) (maxL := 2) (ret := (some .int)) (by decide) rfl ?_
  intro p e s m args below meth c s₁ B hml hv
  obtain ⟨rfl, hsz, hP, hK, hD0⟩ := hv
  have hx := B.exec
  have hb := B.bytes
  have hr := B.returns
  have hts : ∀ w ∈ TT, w.before _ s = true := fun w h => atoms_spec (ws := ww yX8_broken cX8_broken 2 (some .int)) B.pre w (List.mem_cons_of_mem _ h)
  have hown : s.vm.findClass RX8 = some m.cls := findClass_of_methodNamed B.named
  have hlocks := B.notSynchronized
  subst hsz
  have hD : va_D (muA G mo ad (σ, τ) s.heap.size) (mW G mo ad σ τ) := hD0.self
  generalize hAe : muA G mo ad (σ, τ) s.heap.size = A at hD ⊢
  have hA : ∀ q : Nat, s.heap.size ≤ q → A q := fun q h => by rw [← hAe]; exact Or.inr h
  have hS : va_S A s.heap s.heap [] := va_S.rf
  have hP : va_P D vwCl (mW G mo ad σ τ) s.heap := hP
  have hl := lv_entry ([.ref mo, .int rr]) (n := 2) (Nat.le_of_ble_eq_true rfl)
  rw [lg_entry_eq]
  generalize (lg_sl ([.ref mo, .int rr]) ++ List.replicate (2 - (lg_sl ([.ref mo, .int rr])).length) Slot.unset).toArray = ls at hl ⊢
  have hl : lv_has ls 2 [(0, .ref mo), (1, .int rr)] := hl
  refine lv_aload_n hx hb dX8_broken_0 rfl (lv_at hl 0 rfl) ?_
  refine lv_iconst (v := 0) hx hb dX8_broken_1 (by decide) ?_
  refine va_put (D := D) (ci := 8) (v := .int 0) (ty := .int) (C := RX8) (T := TX8) (N := 33) hx hb hts iX8 tyX8 tyX8_ok nmX8 hown hK.1 hP hD hS 0 rfl rfl 0 (by decide) (hts _ q_679) (fun _ h9 => h9) rfl (by decide +kernel) rfl rfl (Nat.le_of_ble_eq_true rfl) dX8_broken_2 (fun H locs hP hD hS => ?_)
  have hP : va_P D vwCl (mW G mo ad (su σ 0 (0) (0)) (τ)) H := hP
  have hD : va_D A (mW G mo ad (su σ 0 (0) (0)) (τ)) := hD
  refine lv_iload_n hx hb dX8_broken_5 rfl (lv_at hl 1 rfl) ?_
  refine lv_iconst (v := 1) hx hb dX8_broken_6 (by decide) ?_
  refine lv_bipush (v := 25) hx hb dX8_broken_7 (by decide) ?_
  refine ro_Si (D := D) (G := G) (As := [.int rr, .int 1, .int 25]) (rest := []) ⟨hx, hb, hml, hown, hts⟩ (m_in l D G _ rr 1 25) gS_X8_X8_in hdS_X8_in ⟨Nat.le_of_ble_eq_true rfl, Nat.le_of_ble_eq_true rfl⟩ hK rfl hl.1 rfl (Nat.le_of_ble_eq_true rfl) dX8_broken_9 ⟨Nat.le_of_ble_eq_true rfl, Nat.le_of_ble_eq_true rfl⟩ (fun r1 e_r1 => ?_)
  subst e_r1
  refine W.eq (g2 := F0 m 12 ls [.int (bI (1 ≤ rr ∧ rr ≤ 25))]) rfl ?_
  refine lv_if_eq (tgt := 24) hx hb dX8_broken_12 (by decide) (fun c2 => ?_) (fun c2 => ?_)
  · -- 12 taken
    have c2 := bI_0 c2
    refine lv_bipush (v := -13) hx hb dX8_broken_24 (by decide) ?_
    have ho : oBroken σ τ rr = ((-13), su σ 0 (0) (0), τ) := by unfold oBroken; simp only [eq_false c2, not_true, not_false_iff, not_true_eq_false, not_false_eq_true, true_or, or_true, false_or, or_false, or_self, and_self, true_and, and_true, false_and, and_false, if_true, if_false]; try rfl
    exact mu_iret (v0 := (-13)) (z := (su σ 0 (0) (0), τ)) hx hb hr hlocks hP hD hS dX8_broken_26 (by rw [ho]) (by rw [ho])
  · -- 12 not
    have c2 := bI_1 c2
    obtain ⟨j, h_j, rfl⟩ := iN_ex c2
    refine lv_aload_n hx hb dX8_broken_15 rfl (lv_at hl 0 rfl) ?_
    refine va_get (D := D) (ci := 8) (v := .ref ((ad 27))) (C := RX8) (T := TX8) (N := 33) hx hb hts iX8 hown hK.1 hP 0 rfl rfl 27 (by decide) (hts _ q_706) (fun _ h9 => h9) rfl dX8_broken_16 ?_
    refine lv_iload_n hx hb dX8_broken_19 rfl (lv_at hl 1 rfl) ?_
    refine iald_n (f := σ 27) hx hb hK.1 hP 21 0 rfl rfl (j) rfl (by omega) (by decide) dX8_broken_20 ?_
    refine lv_goto (tgt := 26) hx hb dX8_broken_21 (by decide) ?_
    have ho : oBroken σ τ (nI j) = (σ 27 j, su σ 0 (0) (0), τ) := by unfold oBroken; simp only [eq_true c2, nI_clamp (show j < 2 ^ 31 by omega), not_true, not_false_iff, not_true_eq_false, not_false_eq_true, true_or, or_true, false_or, or_false, or_self, and_self, true_and, and_true, false_and, and_false, if_true, if_false]; try rfl
    exact mu_iret (v0 := σ 27 j) (z := (su σ 0 (0) (0), τ)) hx hb hr hlocks hP hD hS dX8_broken_26 (by rw [ho]) (by rw [ho])
