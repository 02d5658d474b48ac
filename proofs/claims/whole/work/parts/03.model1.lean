theorem q_712 : Cond.lays "FieldMemberModel" "FieldMemberModel" "fault" "I" ∈ TT := tt_t (i := 712) (by decide +kernel) (by decide +kernel)
theorem q_714 : Cond.lays "FieldMemberModel" "FieldMemberModel" "types" "I" ∈ TT := tt_t (i := 714) (by decide +kernel) (by decide +kernel)
theorem q_716 : Cond.laysFinal "FieldMemberModel" "FieldMemberModel" "sorts" "[I" ∈ TT := tt_t (i := 716) (by decide +kernel) (by decide +kernel)
theorem q_718 : Cond.laysFinal "FieldMemberModel" "FieldMemberModel" "parents" "[I" ∈ TT := tt_t (i := 718) (by decide +kernel) (by decide +kernel)
theorem q_720 : Cond.laysFinal "FieldMemberModel" "FieldMemberModel" "faces" "[I" ∈ TT := tt_t (i := 720) (by decide +kernel) (by decide +kernel)
theorem q_722 : Cond.laysFinal "FieldMemberModel" "FieldMemberModel" "faceCount" "[I" ∈ TT := tt_t (i := 722) (by decide +kernel) (by decide +kernel)
theorem q_724 : Cond.laysFinal "FieldMemberModel" "FieldMemberModel" "isBelow" "[Z" ∈ TT := tt_t (i := 724) (by decide +kernel) (by decide +kernel)
theorem q_726 : Cond.lays "FieldMemberModel" "FieldMemberModel" "entries" "I" ∈ TT := tt_t (i := 726) (by decide +kernel) (by decide +kernel)
theorem q_728 : Cond.laysFinal "FieldMemberModel" "FieldMemberModel" "isMember" "[Z" ∈ TT := tt_t (i := 728) (by decide +kernel) (by decide +kernel)
theorem q_730 : Cond.laysFinal "FieldMemberModel" "FieldMemberModel" "ofType" "[I" ∈ TT := tt_t (i := 730) (by decide +kernel) (by decide +kernel)
theorem q_732 : Cond.laysFinal "FieldMemberModel" "FieldMemberModel" "names" "[I" ∈ TT := tt_t (i := 732) (by decide +kernel) (by decide +kernel)
theorem q_734 : Cond.laysFinal "FieldMemberModel" "FieldMemberModel" "kinds" "[I" ∈ TT := tt_t (i := 734) (by decide +kernel) (by decide +kernel)
theorem q_736 : Cond.laysFinal "FieldMemberModel" "FieldMemberModel" "dims" "[I" ∈ TT := tt_t (i := 736) (by decide +kernel) (by decide +kernel)
theorem q_738 : Cond.laysFinal "FieldMemberModel" "FieldMemberModel" "marks" "[I" ∈ TT := tt_t (i := 738) (by decide +kernel) (by decide +kernel)
theorem q_740 : Cond.laysFinal "FieldMemberModel" "FieldMemberModel" "isTold" "[Z" ∈ TT := tt_t (i := 740) (by decide +kernel) (by decide +kernel)
theorem q_742 : Cond.laysFinal "FieldMemberModel" "FieldMemberModel" "told" "[J" ∈ TT := tt_t (i := 742) (by decide +kernel) (by decide +kernel)
theorem q_744 : Cond.laysFinal "FieldMemberModel" "FieldMemberModel" "hasBody" "[Z" ∈ TT := tt_t (i := 744) (by decide +kernel) (by decide +kernel)
theorem q_746 : Cond.laysFinal "FieldMemberModel" "FieldMemberModel" "isVaried" "[Z" ∈ TT := tt_t (i := 746) (by decide +kernel) (by decide +kernel)
theorem q_748 : Cond.laysFinal "FieldMemberModel" "FieldMemberModel" "many" "[I" ∈ TT := tt_t (i := 748) (by decide +kernel) (by decide +kernel)
theorem q_750 : Cond.laysFinal "FieldMemberModel" "FieldMemberModel" "partKinds" "[I" ∈ TT := tt_t (i := 750) (by decide +kernel) (by decide +kernel)
theorem q_752 : Cond.laysFinal "FieldMemberModel" "FieldMemberModel" "partDims" "[I" ∈ TT := tt_t (i := 752) (by decide +kernel) (by decide +kernel)
theorem q_754 : Cond.lays "FieldMemberModel" "FieldMemberModel" "isBegun" "Z" ∈ TT := tt_t (i := 754) (by decide +kernel) (by decide +kernel)
theorem q_756 : Cond.lays "FieldMemberModel" "FieldMemberModel" "waits" "I" ∈ TT := tt_t (i := 756) (by decide +kernel) (by decide +kernel)
theorem q_758 : Cond.laysFinal "FieldMemberModel" "FieldMemberModel" "argumentKinds" "[I" ∈ TT := tt_t (i := 758) (by decide +kernel) (by decide +kernel)
theorem q_760 : Cond.laysFinal "FieldMemberModel" "FieldMemberModel" "argumentDims" "[I" ∈ TT := tt_t (i := 760) (by decide +kernel) (by decide +kernel)
theorem q_762 : Cond.lays "FieldMemberModel" "FieldMemberModel" "way" "I" ∈ TT := tt_t (i := 762) (by decide +kernel) (by decide +kernel)
theorem q_764 : Cond.lays "FieldMemberModel" "FieldMemberModel" "rulesBroken" "I" ∈ TT := tt_t (i := 764) (by decide +kernel) (by decide +kernel)
theorem q_766 : Cond.laysFinal "FieldMemberModel" "FieldMemberModel" "broken" "[I" ∈ TT := tt_t (i := 766) (by decide +kernel) (by decide +kernel)
theorem q_768 : Cond.laysFinal "FieldMemberModel" "FieldMemberModel" "met" "[I" ∈ TT := tt_t (i := 768) (by decide +kernel) (by decide +kernel)
theorem q_770 : Cond.laysFinal "FieldMemberModel" "FieldMemberModel" "foundIn" "[I" ∈ TT := tt_t (i := 770) (by decide +kernel) (by decide +kernel)
theorem q_772 : Cond.laysFinal "FieldMemberModel" "FieldMemberModel" "isCandidate" "[Z" ∈ TT := tt_t (i := 772) (by decide +kernel) (by decide +kernel)
theorem q_774 : Cond.laysFinal "FieldMemberModel" "FieldMemberModel" "isFound" "[Z" ∈ TT := tt_t (i := 774) (by decide +kernel) (by decide +kernel)
theorem q_776 : Cond.laysFinal "FieldMemberModel" "FieldMemberModel" "isTaken" "[Z" ∈ TT := tt_t (i := 776) (by decide +kernel) (by decide +kernel)
theorem iX8 : ∀ w ∈ wsX80, w ∈ TT := by
  have h : wsX80 = [Cond.lays "FieldMemberModel" "FieldMemberModel" "fault" "I", Cond.lays "FieldMemberModel" "FieldMemberModel" "types" "I", Cond.laysFinal "FieldMemberModel" "FieldMemberModel" "sorts" "[I", Cond.laysFinal "FieldMemberModel" "FieldMemberModel" "parents" "[I", Cond.laysFinal "FieldMemberModel" "FieldMemberModel" "faces" "[I", Cond.laysFinal "FieldMemberModel" "FieldMemberModel" "faceCount" "[I", Cond.laysFinal "FieldMemberModel" "FieldMemberModel" "isBelow" "[Z", Cond.lays "FieldMemberModel" "FieldMemberModel" "entries" "I", Cond.laysFinal "FieldMemberModel" "FieldMemberModel" "isMember" "[Z", Cond.laysFinal "FieldMemberModel" "FieldMemberModel" "ofType" "[I", Cond.laysFinal "FieldMemberModel" "FieldMemberModel" "names" "[I", Cond.laysFinal "FieldMemberModel" "FieldMemberModel" "kinds" "[I", Cond.laysFinal "FieldMemberModel" "FieldMemberModel" "dims" "[I", Cond.laysFinal "FieldMemberModel" "FieldMemberModel" "marks" "[I", Cond.laysFinal "FieldMemberModel" "FieldMemberModel" "isTold" "[Z", Cond.laysFinal "FieldMemberModel" "FieldMemberModel" "told" "[J", Cond.laysFinal "FieldMemberModel" "FieldMemberModel" "hasBody" "[Z", Cond.laysFinal "FieldMemberModel" "FieldMemberModel" "isVaried" "[Z", Cond.laysFinal "FieldMemberModel" "FieldMemberModel" "many" "[I", Cond.laysFinal "FieldMemberModel" "FieldMemberModel" "partKinds" "[I", Cond.laysFinal "FieldMemberModel" "FieldMemberModel" "partDims" "[I", Cond.lays "FieldMemberModel" "FieldMemberModel" "isBegun" "Z", Cond.lays "FieldMemberModel" "FieldMemberModel" "waits" "I", Cond.laysFinal "FieldMemberModel" "FieldMemberModel" "argumentKinds" "[I", Cond.laysFinal "FieldMemberModel" "FieldMemberModel" "argumentDims" "[I", Cond.lays "FieldMemberModel" "FieldMemberModel" "way" "I", Cond.lays "FieldMemberModel" "FieldMemberModel" "rulesBroken" "I", Cond.laysFinal "FieldMemberModel" "FieldMemberModel" "broken" "[I", Cond.laysFinal "FieldMemberModel" "FieldMemberModel" "met" "[I", Cond.laysFinal "FieldMemberModel" "FieldMemberModel" "foundIn" "[I", Cond.laysFinal "FieldMemberModel" "FieldMemberModel" "isCandidate" "[Z", Cond.laysFinal "FieldMemberModel" "FieldMemberModel" "isFound" "[Z", Cond.laysFinal "FieldMemberModel" "FieldMemberModel" "isTaken" "[Z"] := by decide +kernel
  rw [h]
  exact tt_c q_712 (tt_c q_714 (tt_c q_716 (tt_c q_718 (tt_c q_720 (tt_c q_722 (tt_c q_724 (tt_c q_726 (tt_c q_728 (tt_c q_730 (tt_c q_732 (tt_c q_734 (tt_c q_736 (tt_c q_738 (tt_c q_740 (tt_c q_742 (tt_c q_744 (tt_c q_746 (tt_c q_748 (tt_c q_750 (tt_c q_752 (tt_c q_754 (tt_c q_756 (tt_c q_758 (tt_c q_760 (tt_c q_762 (tt_c q_764 (tt_c q_766 (tt_c q_768 (tt_c q_770 (tt_c q_772 (tt_c q_774 (tt_c q_776 (fun _ h => nomatch h)))))))))))))))))))))))))))))))))
theorem dX8_thrown_0 : decode cX8_thrown 0 = .ok (.aload_n 0, 1) := by decide +kernel
theorem q_679 : Cond.fieldLink "FieldMemberModel" 90 "FieldMemberModel" "fault" "I" ∈ TT := tt_t (i := 679) (by decide +kernel) (by decide +kernel)
theorem dX8_thrown_1 : decode cX8_thrown 1 = .ok (.getfield 90, 3) := by decide +kernel
theorem dX8_thrown_4 : decode cX8_thrown 4 = .ok (.ireturn, 1) := by decide +kernel
theorem dX8_in_0 : decode cX8_in 0 = .ok (.iload_n 0, 1) := by decide +kernel
theorem dX8_in_1 : decode cX8_in 1 = .ok (.iload_n 1, 1) := by decide +kernel
theorem dX8_in_2 : decode cX8_in 2 = .ok (.if_icmp .lt 12, 3) := by decide +kernel
theorem dX8_in_14 : decode cX8_in 14 = .ok (.iconst 0, 1) := by decide +kernel
theorem dX8_in_15 : decode cX8_in 15 = .ok (.ireturn, 1) := by decide +kernel
theorem dX8_in_5 : decode cX8_in 5 = .ok (.iload_n 0, 1) := by decide +kernel
theorem dX8_in_6 : decode cX8_in 6 = .ok (.iload_n 2, 1) := by decide +kernel
theorem dX8_in_7 : decode cX8_in 7 = .ok (.if_icmp .gt 7, 3) := by decide +kernel
theorem dX8_in_10 : decode cX8_in 10 = .ok (.iconst 1, 1) := by decide +kernel
theorem dX8_in_11 : decode cX8_in 11 = .ok (.goto 4, 3) := by decide +kernel
theorem dX8_isType_0 : decode cX8_isType 0 = .ok (.iload_n 1, 1) := by decide +kernel
theorem dX8_isType_1 : decode cX8_isType 1 = .ok (.iconst 0, 1) := by decide +kernel
theorem dX8_isType_2 : decode cX8_isType 2 = .ok (.aload_n 0, 1) := by decide +kernel
theorem q_680 : Cond.fieldLink "FieldMemberModel" 94 "FieldMemberModel" "types" "I" ∈ TT := tt_t (i := 680) (by decide +kernel) (by decide +kernel)
theorem dX8_isType_3 : decode cX8_isType 3 = .ok (.getfield 94, 3) := by decide +kernel
theorem dX8_isType_6 : decode cX8_isType 6 = .ok (.iconst 1, 1) := by decide +kernel
theorem dX8_isType_7 : decode cX8_isType 7 = .ok (.isub, 1) := by decide +kernel
theorem q_788 : Cond.methodLink "FieldMemberModel" 97 ⟨"FieldMemberModel", "in", "(III)Z"⟩ ∈ TT := tt_t (i := 788) (by decide +kernel) (by decide +kernel)
theorem q_790 : Cond.code ⟨"FieldMemberModel", "in", "(III)Z"⟩ prog_10_method_3_code 3 (some .boolean) ∈ TT := tt_t (i := 790) (by decide +kernel) (by decide +kernel)
theorem q_4 : Cond.initialized "FieldMemberModel" ∈ TT := tt_t (i := 4) (by decide +kernel) (by decide +kernel)
theorem q_789 : Cond.static ⟨"FieldMemberModel", "in", "(III)Z"⟩ ∈ TT := tt_t (i := 789) (by decide +kernel) (by decide +kernel)
theorem gS_X8_X8_in : GoodIn TT (va_wsS RX8 97 yX8_in (ww yX8_in cX8_in 3 (some .boolean))) := tt_S q_788 q_789 q_4 q_790
theorem hdS_X8_in : yX8_in.cls ≠ "java/lang/invoke/MethodHandle" ∧ yX8_in.cls ≠ "java/lang/invoke/VarHandle" ∧ (parseMethodDescriptor yX8_in.desc).map (fun d => d.parameters.length) = some 3 := by decide +kernel
theorem dX8_isType_8 : decode cX8_isType 8 = .ok (.invokestatic 97, 3) := by decide +kernel
theorem dX8_isType_11 : decode cX8_isType 11 = .ok (.ireturn, 1) := by decide +kernel
theorem dX8_isFace_0 : decode cX8_isFace 0 = .ok (.aload_n 0, 1) := by decide +kernel
theorem q_681 : Cond.fieldLink "FieldMemberModel" 7 "FieldMemberModel" "sorts" "[I" ∈ TT := tt_t (i := 681) (by decide +kernel) (by decide +kernel)
theorem dX8_isFace_1 : decode cX8_isFace 1 = .ok (.getfield 7, 3) := by decide +kernel
theorem dX8_isFace_4 : decode cX8_isFace 4 = .ok (.iload_n 1, 1) := by decide +kernel
theorem dX8_isFace_5 : decode cX8_isFace 5 = .ok (.iaload, 1) := by decide +kernel
theorem dX8_isFace_6 : decode cX8_isFace 6 = .ok (.iconst 3, 1) := by decide +kernel
theorem dX8_isFace_7 : decode cX8_isFace 7 = .ok (.if_icmp .ne 7, 3) := by decide +kernel
theorem dX8_isFace_14 : decode cX8_isFace 14 = .ok (.iconst 0, 1) := by decide +kernel
theorem dX8_isFace_15 : decode cX8_isFace 15 = .ok (.ireturn, 1) := by decide +kernel
theorem dX8_isFace_10 : decode cX8_isFace 10 = .ok (.iconst 1, 1) := by decide +kernel
theorem dX8_isFace_11 : decode cX8_isFace 11 = .ok (.goto 4, 3) := by decide +kernel
theorem dX8_lies_0 : decode cX8_lies 0 = .ok (.aload_n 0, 1) := by decide +kernel
theorem q_685 : Cond.fieldLink "FieldMemberModel" 22 "FieldMemberModel" "isBelow" "[Z" ∈ TT := tt_t (i := 685) (by decide +kernel) (by decide +kernel)
theorem dX8_lies_1 : decode cX8_lies 1 = .ok (.getfield 22, 3) := by decide +kernel
theorem dX8_lies_4 : decode cX8_lies 4 = .ok (.bipush 12, 2) := by decide +kernel
theorem dX8_lies_6 : decode cX8_lies 6 = .ok (.iload_n 1, 1) := by decide +kernel
theorem dX8_lies_7 : decode cX8_lies 7 = .ok (.imul, 1) := by decide +kernel
theorem dX8_lies_8 : decode cX8_lies 8 = .ok (.iload_n 2, 1) := by decide +kernel
theorem dX8_lies_9 : decode cX8_lies 9 = .ok (.iadd, 1) := by decide +kernel
theorem dX8_lies_10 : decode cX8_lies 10 = .ok (.baload, 1) := by decide +kernel
theorem dX8_lies_11 : decode cX8_lies 11 = .ok (.ireturn, 1) := by decide +kernel
theorem dX8_noKind_0 : decode cX8_noKind 0 = .ok (.iload_n 1, 1) := by decide +kernel
theorem dX8_noKind_1 : decode cX8_noKind 1 = .ok (.bipush 9, 2) := by decide +kernel
theorem dX8_noKind_3 : decode cX8_noKind 3 = .ok (.if_icmp .le 18, 3) := by decide +kernel
theorem dX8_noKind_21 : decode cX8_noKind 21 = .ok (.iconst 0, 1) := by decide +kernel
theorem dX8_noKind_22 : decode cX8_noKind 22 = .ok (.ireturn, 1) := by decide +kernel
theorem dX8_noKind_6 : decode cX8_noKind 6 = .ok (.aload_n 0, 1) := by decide +kernel
theorem dX8_noKind_7 : decode cX8_noKind 7 = .ok (.iload_n 1, 1) := by decide +kernel
theorem dX8_noKind_8 : decode cX8_noKind 8 = .ok (.bipush 10, 2) := by decide +kernel
theorem dX8_noKind_10 : decode cX8_noKind 10 = .ok (.isub, 1) := by decide +kernel
theorem q_791 : Cond.methodLink "FieldMemberModel" 104 ⟨"FieldMemberModel", "isType", "(I)Z"⟩ ∈ TT := tt_t (i := 791) (by decide +kernel) (by decide +kernel)
theorem q_794 : Cond.code ⟨"FieldMemberModel", "isType", "(I)Z"⟩ prog_10_method_4_code 2 (some .boolean) ∈ TT := tt_t (i := 794) (by decide +kernel) (by decide +kernel)
theorem q_793 : Cond.instanceMethod ⟨"FieldMemberModel", "isType", "(I)Z"⟩ ∈ TT := tt_t (i := 793) (by decide +kernel) (by decide +kernel)
theorem qs_31 : Cond.selects "FieldMemberModel" ⟨"FieldMemberModel", "isType", "(I)Z"⟩ ⟨"FieldMemberModel", "isType", "(I)Z"⟩ ∈ TT := tt_s (i := 31) (by decide +kernel) (by decide +kernel)
theorem gV_X8_X8_isType : GoodIn TT (wsV RX8 104 RX8 yX8_isType (ww yX8_isType cX8_isType 2 (some .boolean))) := tt_V q_791 q_793 qs_31 q_4 q_794
theorem hdV_X8_isType : yX8_isType.cls = RX8 ∧ yX8_isType.cls ≠ "java/lang/invoke/MethodHandle" ∧ yX8_isType.cls ≠ "java/lang/invoke/VarHandle" ∧ (parseMethodDescriptor yX8_isType.desc).map (fun d => d.parameters.length) = some 1 := by decide +kernel
theorem dX8_noKind_11 : decode cX8_noKind 11 = .ok (.invokevirtual 104, 3) := by decide +kernel
theorem dX8_noKind_14 : decode cX8_noKind 14 = .ok (.ifCond .ne 7, 3) := by decide +kernel
theorem dX8_noKind_17 : decode cX8_noKind 17 = .ok (.iconst 1, 1) := by decide +kernel
theorem dX8_noKind_18 : decode cX8_noKind 18 = .ok (.goto 4, 3) := by decide +kernel
theorem dX8_refusal_0 : decode cX8_refusal 0 = .ok (.aload_n 0, 1) := by decide +kernel
theorem dX8_refusal_1 : decode cX8_refusal 1 = .ok (.iload_n 1, 1) := by decide +kernel
theorem dX8_refusal_2 : decode cX8_refusal 2 = .ok (.invokevirtual 104, 3) := by decide +kernel
theorem dX8_refusal_5 : decode cX8_refusal 5 = .ok (.ifCond .eq 11, 3) := by decide +kernel
theorem dX8_refusal_16 : decode cX8_refusal 16 = .ok (.bipush (-11), 2) := by decide +kernel
theorem dX8_refusal_18 : decode cX8_refusal 18 = .ok (.ireturn, 1) := by decide +kernel
theorem dX8_refusal_8 : decode cX8_refusal 8 = .ok (.aload_n 0, 1) := by decide +kernel
theorem dX8_refusal_9 : decode cX8_refusal 9 = .ok (.iload_n 3, 1) := by decide +kernel
theorem q_827 : Cond.methodLink "FieldMemberModel" 130 ⟨"FieldMemberModel", "noKind", "(I)Z"⟩ ∈ TT := tt_t (i := 827) (by decide +kernel) (by decide +kernel)
theorem q_830 : Cond.code ⟨"FieldMemberModel", "noKind", "(I)Z"⟩ prog_10_method_14_code 2 (some .boolean) ∈ TT := tt_t (i := 830) (by decide +kernel) (by decide +kernel)
theorem q_829 : Cond.instanceMethod ⟨"FieldMemberModel", "noKind", "(I)Z"⟩ ∈ TT := tt_t (i := 829) (by decide +kernel) (by decide +kernel)
theorem qs_37 : Cond.selects "FieldMemberModel" ⟨"FieldMemberModel", "noKind", "(I)Z"⟩ ⟨"FieldMemberModel", "noKind", "(I)Z"⟩ ∈ TT := tt_s (i := 37) (by decide +kernel) (by decide +kernel)
theorem gV_X8_X8_noKind : GoodIn TT (wsV RX8 130 RX8 yX8_noKind (ww yX8_noKind cX8_noKind 2 (some .boolean))) := tt_V q_827 q_829 qs_37 q_4 q_830
theorem hdV_X8_noKind : yX8_noKind.cls = RX8 ∧ yX8_noKind.cls ≠ "java/lang/invoke/MethodHandle" ∧ yX8_noKind.cls ≠ "java/lang/invoke/VarHandle" ∧ (parseMethodDescriptor yX8_noKind.desc).map (fun d => d.parameters.length) = some 1 := by decide +kernel
theorem dX8_refusal_10 : decode cX8_refusal 10 = .ok (.invokevirtual 130, 3) := by decide +kernel
theorem dX8_refusal_13 : decode cX8_refusal 13 = .ok (.ifCond .eq 6, 3) := by decide +kernel
theorem dX8_refusal_19 : decode cX8_refusal 19 = .ok (.iload_n 2, 1) := by decide +kernel
theorem dX8_refusal_20 : decode cX8_refusal 20 = .ok (.iconst 0, 1) := by decide +kernel
theorem dX8_refusal_21 : decode cX8_refusal 21 = .ok (.bipush 49, 2) := by decide +kernel
theorem dX8_refusal_23 : decode cX8_refusal 23 = .ok (.invokestatic 97, 3) := by decide +kernel
theorem dX8_refusal_26 : decode cX8_refusal 26 = .ok (.ifCond .eq 44, 3) := by decide +kernel
theorem dX8_refusal_70 : decode cX8_refusal 70 = .ok (.bipush (-13), 2) := by decide +kernel
theorem dX8_refusal_72 : decode cX8_refusal 72 = .ok (.ireturn, 1) := by decide +kernel
theorem dX8_refusal_29 : decode cX8_refusal 29 = .ok (.iload_n 3, 1) := by decide +kernel
theorem dX8_refusal_30 : decode cX8_refusal 30 = .ok (.ifCond .lt 40, 3) := by decide +kernel
theorem dX8_refusal_33 : decode cX8_refusal 33 = .ok (.iload_n 3, 1) := by decide +kernel
theorem dX8_refusal_34 : decode cX8_refusal 34 = .ok (.bipush 9, 2) := by decide +kernel
theorem dX8_refusal_36 : decode cX8_refusal 36 = .ok (.if_icmp .eq 34, 3) := by decide +kernel
theorem dX8_refusal_39 : decode cX8_refusal 39 = .ok (.iload 4, 2) := by decide +kernel
theorem dX8_refusal_41 : decode cX8_refusal 41 = .ok (.iconst 0, 1) := by decide +kernel
theorem dX8_refusal_42 : decode cX8_refusal 42 = .ok (.iconst 3, 1) := by decide +kernel
theorem dX8_refusal_43 : decode cX8_refusal 43 = .ok (.invokestatic 97, 3) := by decide +kernel
theorem dX8_refusal_46 : decode cX8_refusal 46 = .ok (.ifCond .eq 24, 3) := by decide +kernel
theorem dX8_refusal_49 : decode cX8_refusal 49 = .ok (.iload_n 3, 1) := by decide +kernel
theorem dX8_refusal_50 : decode cX8_refusal 50 = .ok (.ifCond .ne 8, 3) := by decide +kernel
theorem dX8_refusal_58 : decode cX8_refusal 58 = .ok (.iload 5, 2) := by decide +kernel
theorem dX8_refusal_60 : decode cX8_refusal 60 = .ok (.iconst 0, 1) := by decide +kernel
theorem dX8_refusal_61 : decode cX8_refusal 61 = .ok (.sipush 2047, 3) := by decide +kernel
theorem dX8_refusal_64 : decode cX8_refusal 64 = .ok (.invokestatic 97, 3) := by decide +kernel
theorem dX8_refusal_67 : decode cX8_refusal 67 = .ok (.ifCond .ne 6, 3) := by decide +kernel
theorem dX8_refusal_73 : decode cX8_refusal 73 = .ok (.aload_n 0, 1) := by decide +kernel
theorem q_700 : Cond.fieldLink "FieldMemberModel" 122 "FieldMemberModel" "isBegun" "Z" ∈ TT := tt_t (i := 700) (by decide +kernel) (by decide +kernel)
theorem dX8_refusal_74 : decode cX8_refusal 74 = .ok (.getfield 122, 3) := by decide +kernel
theorem dX8_refusal_77 : decode cX8_refusal 77 = .ok (.ifCond .eq 8, 3) := by decide +kernel
theorem dX8_refusal_85 : decode cX8_refusal 85 = .ok (.aload_n 0, 1) := by decide +kernel
theorem q_686 : Cond.fieldLink "FieldMemberModel" 119 "FieldMemberModel" "entries" "I" ∈ TT := tt_t (i := 686) (by decide +kernel) (by decide +kernel)
theorem dX8_refusal_86 : decode cX8_refusal 86 = .ok (.getfield 119, 3) := by decide +kernel
theorem dX8_refusal_89 : decode cX8_refusal 89 = .ok (.bipush 60, 2) := by decide +kernel
theorem dX8_refusal_91 : decode cX8_refusal 91 = .ok (.if_icmp .ne 8, 3) := by decide +kernel
theorem dX8_refusal_99 : decode cX8_refusal 99 = .ok (.iconst 0, 1) := by decide +kernel
theorem dX8_refusal_100 : decode cX8_refusal 100 = .ok (.ireturn, 1) := by decide +kernel
theorem dX8_refusal_94 : decode cX8_refusal 94 = .ok (.bipush (-15), 2) := by decide +kernel
theorem dX8_refusal_96 : decode cX8_refusal 96 = .ok (.goto 4, 3) := by decide +kernel
theorem dX8_refusal_80 : decode cX8_refusal 80 = .ok (.bipush (-14), 2) := by decide +kernel
theorem dX8_refusal_82 : decode cX8_refusal 82 = .ok (.goto 18, 3) := by decide +kernel
theorem dX8_refusal_53 : decode cX8_refusal 53 = .ok (.iload 4, 2) := by decide +kernel
theorem dX8_refusal_55 : decode cX8_refusal 55 = .ok (.ifCond .gt 15, 3) := by decide +kernel
theorem dX8_bits_0 : decode cX8_bits 0 = .ok (.iconst 0, 1) := by decide +kernel
theorem dX8_bits_1 : decode cX8_bits 1 = .ok (.istore_n 1, 1) := by decide +kernel
theorem dX8_bits_2 : decode cX8_bits 2 = .ok (.iconst 0, 1) := by decide +kernel
theorem dX8_bits_3 : decode cX8_bits 3 = .ok (.istore_n 2, 1) := by decide +kernel
theorem dX8_bits_4 : decode cX8_bits 4 = .ok (.iload_n 2, 1) := by decide +kernel
theorem dX8_bits_5 : decode cX8_bits 5 = .ok (.bipush 11, 2) := by decide +kernel
theorem dX8_bits_7 : decode cX8_bits 7 = .ok (.if_icmp .ge 17, 3) := by decide +kernel
theorem dX8_bits_24 : decode cX8_bits 24 = .ok (.iload_n 1, 1) := by decide +kernel
theorem dX8_bits_25 : decode cX8_bits 25 = .ok (.ireturn, 1) := by decide +kernel
theorem dX8_bits_10 : decode cX8_bits 10 = .ok (.iload_n 1, 1) := by decide +kernel
theorem dX8_bits_11 : decode cX8_bits 11 = .ok (.iload_n 0, 1) := by decide +kernel
theorem dX8_bits_12 : decode cX8_bits 12 = .ok (.iload_n 2, 1) := by decide +kernel
theorem dX8_bits_13 : decode cX8_bits 13 = .ok (.ishr, 1) := by decide +kernel
theorem dX8_bits_14 : decode cX8_bits 14 = .ok (.iconst 1, 1) := by decide +kernel
theorem dX8_bits_15 : decode cX8_bits 15 = .ok (.iand, 1) := by decide +kernel
theorem dX8_bits_16 : decode cX8_bits 16 = .ok (.iadd, 1) := by decide +kernel
theorem dX8_bits_17 : decode cX8_bits 17 = .ok (.istore_n 1, 1) := by decide +kernel
theorem dX8_bits_18 : decode cX8_bits 18 = .ok (.iinc 2 1, 3) := by decide +kernel
theorem dX8_bits_21 : decode cX8_bits 21 = .ok (.goto (-17), 3) := by decide +kernel
theorem dX8_fieldOf_0 : decode cX8_fieldOf 0 = .ok (.iconst 0, 1) := by decide +kernel
theorem dX8_fieldOf_1 : decode cX8_fieldOf 1 = .ok (.istore_n 3, 1) := by decide +kernel
theorem dX8_fieldOf_2 : decode cX8_fieldOf 2 = .ok (.iload_n 3, 1) := by decide +kernel
theorem dX8_fieldOf_3 : decode cX8_fieldOf 3 = .ok (.aload_n 0, 1) := by decide +kernel
theorem dX8_fieldOf_4 : decode cX8_fieldOf 4 = .ok (.getfield 119, 3) := by decide +kernel
theorem dX8_fieldOf_7 : decode cX8_fieldOf 7 = .ok (.if_icmp .ge 40, 3) := by decide +kernel
theorem dX8_fieldOf_47 : decode cX8_fieldOf 47 = .ok (.iconst (-1), 1) := by decide +kernel
theorem dX8_fieldOf_48 : decode cX8_fieldOf 48 = .ok (.ireturn, 1) := by decide +kernel
theorem dX8_fieldOf_10 : decode cX8_fieldOf 10 = .ok (.aload_n 0, 1) := by decide +kernel
theorem q_687 : Cond.fieldLink "FieldMemberModel" 26 "FieldMemberModel" "isMember" "[Z" ∈ TT := tt_t (i := 687) (by decide +kernel) (by decide +kernel)
theorem dX8_fieldOf_11 : decode cX8_fieldOf 11 = .ok (.getfield 26, 3) := by decide +kernel
theorem dX8_fieldOf_14 : decode cX8_fieldOf 14 = .ok (.iload_n 3, 1) := by decide +kernel
theorem dX8_fieldOf_15 : decode cX8_fieldOf 15 = .ok (.baload, 1) := by decide +kernel
theorem dX8_fieldOf_16 : decode cX8_fieldOf 16 = .ok (.ifCond .ne 25, 3) := by decide +kernel
theorem dX8_fieldOf_41 : decode cX8_fieldOf 41 = .ok (.iinc 3 1, 3) := by decide +kernel
theorem dX8_fieldOf_44 : decode cX8_fieldOf 44 = .ok (.goto (-42), 3) := by decide +kernel
theorem dX8_fieldOf_19 : decode cX8_fieldOf 19 = .ok (.aload_n 0, 1) := by decide +kernel
theorem q_688 : Cond.fieldLink "FieldMemberModel" 29 "FieldMemberModel" "ofType" "[I" ∈ TT := tt_t (i := 688) (by decide +kernel) (by decide +kernel)
theorem dX8_fieldOf_20 : decode cX8_fieldOf 20 = .ok (.getfield 29, 3) := by decide +kernel
theorem dX8_fieldOf_23 : decode cX8_fieldOf 23 = .ok (.iload_n 3, 1) := by decide +kernel
theorem dX8_fieldOf_24 : decode cX8_fieldOf 24 = .ok (.iaload, 1) := by decide +kernel
theorem dX8_fieldOf_25 : decode cX8_fieldOf 25 = .ok (.iload_n 1, 1) := by decide +kernel
theorem dX8_fieldOf_26 : decode cX8_fieldOf 26 = .ok (.if_icmp .ne 15, 3) := by decide +kernel
theorem dX8_fieldOf_29 : decode cX8_fieldOf 29 = .ok (.aload_n 0, 1) := by decide +kernel
theorem q_689 : Cond.fieldLink "FieldMemberModel" 32 "FieldMemberModel" "names" "[I" ∈ TT := tt_t (i := 689) (by decide +kernel) (by decide +kernel)
theorem dX8_fieldOf_30 : decode cX8_fieldOf 30 = .ok (.getfield 32, 3) := by decide +kernel
theorem dX8_fieldOf_33 : decode cX8_fieldOf 33 = .ok (.iload_n 3, 1) := by decide +kernel
theorem dX8_fieldOf_34 : decode cX8_fieldOf 34 = .ok (.iaload, 1) := by decide +kernel
theorem dX8_fieldOf_35 : decode cX8_fieldOf 35 = .ok (.iload_n 2, 1) := by decide +kernel
theorem dX8_fieldOf_36 : decode cX8_fieldOf 36 = .ok (.if_icmp .ne 5, 3) := by decide +kernel
theorem dX8_fieldOf_39 : decode cX8_fieldOf 39 = .ok (.iload_n 3, 1) := by decide +kernel
theorem dX8_fieldOf_40 : decode cX8_fieldOf 40 = .ok (.ireturn, 1) := by decide +kernel
theorem dX8_ruleOfField_0 : decode cX8_ruleOfField 0 = .ok (.iload 4, 2) := by decide +kernel
theorem dX8_ruleOfField_2 : decode cX8_ruleOfField 2 = .ok (.bipush 127, 2) := by decide +kernel
theorem dX8_ruleOfField_4 : decode cX8_ruleOfField 4 = .ok (.if_icmp .le 5, 3) := by decide +kernel
theorem dX8_ruleOfField_9 : decode cX8_ruleOfField 9 = .ok (.iload 4, 2) := by decide +kernel
theorem dX8_ruleOfField_11 : decode cX8_ruleOfField 11 = .ok (.bipush 7, 2) := by decide +kernel
theorem dX8_ruleOfField_13 : decode cX8_ruleOfField 13 = .ok (.iand, 1) := by decide +kernel
theorem q_835 : Cond.methodLink "FieldMemberModel" 149 ⟨"FieldMemberModel", "bits", "(I)I"⟩ ∈ TT := tt_t (i := 835) (by decide +kernel) (by decide +kernel)
theorem q_837 : Cond.code ⟨"FieldMemberModel", "bits", "(I)I"⟩ prog_10_method_7_code 3 (some .int) ∈ TT := tt_t (i := 837) (by decide +kernel) (by decide +kernel)
theorem q_836 : Cond.static ⟨"FieldMemberModel", "bits", "(I)I"⟩ ∈ TT := tt_t (i := 836) (by decide +kernel) (by decide +kernel)
theorem gS_X8_X8_bits : GoodIn TT (va_wsS RX8 149 yX8_bits (ww yX8_bits cX8_bits 3 (some .int))) := tt_S q_835 q_836 q_4 q_837
theorem hdS_X8_bits : yX8_bits.cls ≠ "java/lang/invoke/MethodHandle" ∧ yX8_bits.cls ≠ "java/lang/invoke/VarHandle" ∧ (parseMethodDescriptor yX8_bits.desc).map (fun d => d.parameters.length) = some 1 := by decide +kernel
theorem dX8_ruleOfField_14 : decode cX8_ruleOfField 14 = .ok (.invokestatic 149, 3) := by decide +kernel
theorem dX8_ruleOfField_17 : decode cX8_ruleOfField 17 = .ok (.iconst 1, 1) := by decide +kernel
theorem dX8_ruleOfField_18 : decode cX8_ruleOfField 18 = .ok (.if_icmp .le 5, 3) := by decide +kernel
theorem dX8_ruleOfField_23 : decode cX8_ruleOfField 23 = .ok (.iload 4, 2) := by decide +kernel
theorem dX8_ruleOfField_25 : decode cX8_ruleOfField 25 = .ok (.bipush 16, 2) := by decide +kernel
theorem dX8_ruleOfField_27 : decode cX8_ruleOfField 27 = .ok (.iand, 1) := by decide +kernel
theorem dX8_ruleOfField_28 : decode cX8_ruleOfField 28 = .ok (.ifCond .le 13, 3) := by decide +kernel
theorem dX8_ruleOfField_41 : decode cX8_ruleOfField 41 = .ok (.aload_n 0, 1) := by decide +kernel
theorem dX8_ruleOfField_42 : decode cX8_ruleOfField 42 = .ok (.iload_n 1, 1) := by decide +kernel
theorem q_807 : Cond.methodLink "FieldMemberModel" 116 ⟨"FieldMemberModel", "isFace", "(I)Z"⟩ ∈ TT := tt_t (i := 807) (by decide +kernel) (by decide +kernel)
theorem q_810 : Cond.code ⟨"FieldMemberModel", "isFace", "(I)Z"⟩ prog_10_method_5_code 2 (some .boolean) ∈ TT := tt_t (i := 810) (by decide +kernel) (by decide +kernel)
theorem q_809 : Cond.instanceMethod ⟨"FieldMemberModel", "isFace", "(I)Z"⟩ ∈ TT := tt_t (i := 809) (by decide +kernel) (by decide +kernel)
theorem qs_34 : Cond.selects "FieldMemberModel" ⟨"FieldMemberModel", "isFace", "(I)Z"⟩ ⟨"FieldMemberModel", "isFace", "(I)Z"⟩ ∈ TT := tt_s (i := 34) (by decide +kernel) (by decide +kernel)
theorem gV_X8_X8_isFace : GoodIn TT (wsV RX8 116 RX8 yX8_isFace (ww yX8_isFace cX8_isFace 2 (some .boolean))) := tt_V q_807 q_809 qs_34 q_4 q_810
theorem hdV_X8_isFace : yX8_isFace.cls = RX8 ∧ yX8_isFace.cls ≠ "java/lang/invoke/MethodHandle" ∧ yX8_isFace.cls ≠ "java/lang/invoke/VarHandle" ∧ (parseMethodDescriptor yX8_isFace.desc).map (fun d => d.parameters.length) = some 1 := by decide +kernel
theorem dX8_ruleOfField_43 : decode cX8_ruleOfField 43 = .ok (.invokevirtual 116, 3) := by decide +kernel
theorem dX8_ruleOfField_46 : decode cX8_ruleOfField 46 = .ok (.ifCond .eq 13, 3) := by decide +kernel
theorem dX8_ruleOfField_59 : decode cX8_ruleOfField 59 = .ok (.iload_n 3, 1) := by decide +kernel
theorem dX8_ruleOfField_60 : decode cX8_ruleOfField 60 = .ok (.ifCond .ne 7, 3) := by decide +kernel
theorem dX8_ruleOfField_67 : decode cX8_ruleOfField 67 = .ok (.aload_n 0, 1) := by decide +kernel
theorem dX8_ruleOfField_68 : decode cX8_ruleOfField 68 = .ok (.iload_n 1, 1) := by decide +kernel
theorem dX8_ruleOfField_69 : decode cX8_ruleOfField 69 = .ok (.iload_n 2, 1) := by decide +kernel
theorem q_838 : Cond.methodLink "FieldMemberModel" 152 ⟨"FieldMemberModel", "fieldOf", "(II)I"⟩ ∈ TT := tt_t (i := 838) (by decide +kernel) (by decide +kernel)
theorem q_841 : Cond.code ⟨"FieldMemberModel", "fieldOf", "(II)I"⟩ prog_10_method_18_code 4 (some .int) ∈ TT := tt_t (i := 841) (by decide +kernel) (by decide +kernel)
theorem q_840 : Cond.instanceMethod ⟨"FieldMemberModel", "fieldOf", "(II)I"⟩ ∈ TT := tt_t (i := 840) (by decide +kernel) (by decide +kernel)
theorem qs_39 : Cond.selects "FieldMemberModel" ⟨"FieldMemberModel", "fieldOf", "(II)I"⟩ ⟨"FieldMemberModel", "fieldOf", "(II)I"⟩ ∈ TT := tt_s (i := 39) (by decide +kernel) (by decide +kernel)
theorem gV_X8_X8_fieldOf : GoodIn TT (wsV RX8 152 RX8 yX8_fieldOf (ww yX8_fieldOf cX8_fieldOf 4 (some .int))) := tt_V q_838 q_840 qs_39 q_4 q_841
theorem hdV_X8_fieldOf : yX8_fieldOf.cls = RX8 ∧ yX8_fieldOf.cls ≠ "java/lang/invoke/MethodHandle" ∧ yX8_fieldOf.cls ≠ "java/lang/invoke/VarHandle" ∧ (parseMethodDescriptor yX8_fieldOf.desc).map (fun d => d.parameters.length) = some 2 := by decide +kernel
theorem dX8_ruleOfField_70 : decode cX8_ruleOfField 70 = .ok (.invokevirtual 152, 3) := by decide +kernel
theorem dX8_ruleOfField_73 : decode cX8_ruleOfField 73 = .ok (.iconst (-1), 1) := by decide +kernel
theorem dX8_ruleOfField_74 : decode cX8_ruleOfField 74 = .ok (.if_icmp .ne 7, 3) := by decide +kernel
theorem dX8_ruleOfField_81 : decode cX8_ruleOfField 81 = .ok (.bipush 6, 2) := by decide +kernel
theorem dX8_ruleOfField_83 : decode cX8_ruleOfField 83 = .ok (.ireturn, 1) := by decide +kernel
theorem dX8_ruleOfField_77 : decode cX8_ruleOfField 77 = .ok (.iconst 0, 1) := by decide +kernel
theorem dX8_ruleOfField_78 : decode cX8_ruleOfField 78 = .ok (.goto 5, 3) := by decide +kernel
theorem dX8_ruleOfField_63 : decode cX8_ruleOfField 63 = .ok (.iconst 5, 1) := by decide +kernel
theorem dX8_ruleOfField_64 : decode cX8_ruleOfField 64 = .ok (.goto 19, 3) := by decide +kernel
theorem dX8_ruleOfField_49 : decode cX8_ruleOfField 49 = .ok (.iload 4, 2) := by decide +kernel
theorem dX8_ruleOfField_51 : decode cX8_ruleOfField 51 = .ok (.bipush (-26), 2) := by decide +kernel
theorem dX8_ruleOfField_53 : decode cX8_ruleOfField 53 = .ok (.iand, 1) := by decide +kernel
theorem dX8_ruleOfField_54 : decode cX8_ruleOfField 54 = .ok (.ifCond .le 5, 3) := by decide +kernel
theorem dX8_ruleOfField_57 : decode cX8_ruleOfField 57 = .ok (.iconst 4, 1) := by decide +kernel
theorem dX8_ruleOfField_58 : decode cX8_ruleOfField 58 = .ok (.ireturn, 1) := by decide +kernel
theorem dX8_ruleOfField_31 : decode cX8_ruleOfField 31 = .ok (.iload 4, 2) := by decide +kernel
theorem dX8_ruleOfField_33 : decode cX8_ruleOfField 33 = .ok (.bipush 32, 2) := by decide +kernel
theorem dX8_ruleOfField_35 : decode cX8_ruleOfField 35 = .ok (.iand, 1) := by decide +kernel
theorem dX8_ruleOfField_36 : decode cX8_ruleOfField 36 = .ok (.ifCond .le 5, 3) := by decide +kernel
theorem dX8_ruleOfField_39 : decode cX8_ruleOfField 39 = .ok (.iconst 3, 1) := by decide +kernel
theorem dX8_ruleOfField_40 : decode cX8_ruleOfField 40 = .ok (.ireturn, 1) := by decide +kernel
theorem dX8_ruleOfField_21 : decode cX8_ruleOfField 21 = .ok (.iconst 2, 1) := by decide +kernel
theorem dX8_ruleOfField_22 : decode cX8_ruleOfField 22 = .ok (.ireturn, 1) := by decide +kernel
theorem dX8_ruleOfField_7 : decode cX8_ruleOfField 7 = .ok (.iconst 1, 1) := by decide +kernel
theorem dX8_ruleOfField_8 : decode cX8_ruleOfField 8 = .ok (.ireturn, 1) := by decide +kernel
theorem dX8_isEntry_0 : decode cX8_isEntry 0 = .ok (.iload_n 1, 1) := by decide +kernel
theorem dX8_isEntry_1 : decode cX8_isEntry 1 = .ok (.iconst 0, 1) := by decide +kernel
theorem dX8_isEntry_2 : decode cX8_isEntry 2 = .ok (.aload_n 0, 1) := by decide +kernel
theorem dX8_isEntry_3 : decode cX8_isEntry 3 = .ok (.getfield 119, 3) := by decide +kernel
theorem dX8_isEntry_6 : decode cX8_isEntry 6 = .ok (.iconst 1, 1) := by decide +kernel
theorem dX8_isEntry_7 : decode cX8_isEntry 7 = .ok (.isub, 1) := by decide +kernel
theorem dX8_isEntry_8 : decode cX8_isEntry 8 = .ok (.invokestatic 97, 3) := by decide +kernel
theorem dX8_isEntry_11 : decode cX8_isEntry 11 = .ok (.ireturn, 1) := by decide +kernel
set_option maxHeartbeats 4000000 in
set_option maxRecDepth 100000 in
theorem m_thrown (l : Launch) (D : va_G) (G : Nat → ClassId) (H : Heap) (mo : Nat) (ad : Nat → Nat) (σ : MS) (τ : Nat → Int64) (hP : va_P D vwCl (mW G mo ad σ τ) H)  : Met l yX8_thrown (ww yX8_thrown cX8_thrown 1 (some .int)) (rmD 0) (roP D G H [.ref mo]) (vp_Si (fun r => r = σ 0 0)) 0 0 (fun _ => False) := by
  refine Met.ofW (cc := cX8_thrown) (maxL := 1) (ret := (some .int)) (by decide) rfl ?_
  intro p e s m args below meth c s₁ B hml hv
  obtain ⟨rfl, hH, hK⟩ := hv
  have hx := B.exec
  have hb := B.bytes
  have hr := B.returns
  have hts : ∀ w ∈ TT, w.before _ s = true := fun w h => atoms_spec (ws := ww yX8_thrown cX8_thrown 1 (some .int)) B.pre w (List.mem_cons_of_mem _ h)
  have hown : s.vm.findClass RX8 = some m.cls := findClass_of_methodNamed B.named
  have hlocks := B.notSynchronized
  rw [hH]
  have hl := lv_entry ([.ref mo]) (n := 1) (Nat.le_of_ble_eq_true rfl)
  rw [lg_entry_eq]
  generalize (lg_sl ([.ref mo]) ++ List.replicate (1 - (lg_sl ([.ref mo])).length) Slot.unset).toArray = ls at hl ⊢
  have hl : lv_has ls 1 [(0, .ref mo)] := hl
  refine lv_aload_n hx hb dX8_thrown_0 rfl (lv_at hl 0 rfl) ?_
  refine va_get (D := D) (ci := 8) (v := .int (σ 0 0)) (C := RX8) (T := TX8) (N := 33) hx hb hts iX8 hown hK.1 hP 0 rfl rfl 0 (by decide) (hts _ q_679) (fun _ h9 => h9) rfl dX8_thrown_1 ?_
  exact ro_iret (v := σ 0 0) hx hb hr hH hlocks dX8_thrown_4 (rfl)
set_option maxHeartbeats 4000000 in
set_option maxRecDepth 100000 in
theorem m_in (l : Launch) (D : va_G) (G : Nat → ClassId) (H : Heap) (v : Int32) (lo : Int32) (hi : Int32) : Met l yX8_in (ww yX8_in cX8_in 3 (some .boolean)) (rmD 0) (roP D G H [.int v, .int lo, .int hi]) (vp_Si (fun r => r = bI (lo ≤ v ∧ v ≤ hi))) 0 0 (fun _ => False) := by
  refine Met.ofW (cc := cX8_in) (maxL := 3) (ret := (some .boolean)) (by decide) rfl ?_
  intro p e s m args below meth c s₁ B hml hv
  obtain ⟨rfl, hH, hK⟩ := hv
  have hx := B.exec
  have hb := B.bytes
  have hr := B.returns
  have hts : ∀ w ∈ TT, w.before _ s = true := fun w h => atoms_spec (ws := ww yX8_in cX8_in 3 (some .boolean)) B.pre w (List.mem_cons_of_mem _ h)
  have hown : s.vm.findClass RX8 = some m.cls := findClass_of_methodNamed B.named
  have hlocks := B.notSynchronized
  rw [hH]
  have hl := lv_entry ([.int v, .int lo, .int hi]) (n := 3) (Nat.le_of_ble_eq_true rfl)
  rw [lg_entry_eq]
  generalize (lg_sl ([.int v, .int lo, .int hi]) ++ List.replicate (3 - (lg_sl ([.int v, .int lo, .int hi])).length) Slot.unset).toArray = ls at hl ⊢
  have hl : lv_has ls 3 [(0, .int v), (1, .int lo), (2, .int hi)] := hl
  refine lv_iload_n hx hb dX8_in_0 rfl (lv_at hl 0 rfl) ?_
  refine lv_iload_n hx hb dX8_in_1 rfl (lv_at hl 1 rfl) ?_
  refine lv_icmp_lt (tgt := 14) hx hb dX8_in_2 (by decide) (fun c1 => ?_) (fun c1 => ?_)
  · -- 2 taken
    refine lv_iconst (v := 0) hx hb dX8_in_14 (by decide) ?_
    exact ro_zret (v := 0) hx hb hr hH hlocks dX8_in_15 (Or.inl rfl) ((bI_f (by simp only [i_le, i_lt, i_eq, Int32.reduceToInt] at c1 ⊢; omega)).symm)
  · -- 2 not
    refine lv_iload_n hx hb dX8_in_5 rfl (lv_at hl 0 rfl) ?_
    refine lv_iload_n hx hb dX8_in_6 rfl (lv_at hl 2 rfl) ?_
    refine lv_icmp_gt (tgt := 14) hx hb dX8_in_7 (by decide) (fun c2 => ?_) (fun c2 => ?_)
    · -- 7 taken
      refine lv_iconst (v := 0) hx hb dX8_in_14 (by decide) ?_
      exact ro_zret (v := 0) hx hb hr hH hlocks dX8_in_15 (Or.inl rfl) ((bI_f (by simp only [i_le, i_lt, i_eq, Int32.reduceToInt] at c1 c2 ⊢; omega)).symm)
    · -- 7 not
      refine lv_iconst (v := 1) hx hb dX8_in_10 (by decide) ?_
      refine lv_goto (tgt := 15) hx hb dX8_in_11 (by decide) ?_
      exact ro_zret (v := 1) hx hb hr hH hlocks dX8_in_15 (Or.inr rfl) ((bI_t (by simp only [i_le, i_lt, i_eq, Int32.reduceToInt] at c1 c2 ⊢; omega)).symm)
set_option maxHeartbeats 4000000 in
set_option maxRecDepth 100000 in
theorem m_isType (l : Launch) (D : va_G) (G : Nat → ClassId) (H : Heap) (mo : Nat) (ad : Nat → Nat) (σ : MS) (τ : Nat → Int64) (hP : va_P D vwCl (mW G mo ad σ τ) H) (n : Nat) (h1 : σ 1 0 = nI n) (hn : n ≤ 12) (t : Int32) : Met l yX8_isType (ww yX8_isType cX8_isType 2 (some .boolean)) (rmD 1) (roP D G H [.ref mo, .int t]) (vp_Si (fun r => r = bI (okN n t))) 0 0 (fun _ => False) := by
  refine Met.ofW (cc := cX8_isType) (maxL := 2) (ret := (some .boolean)) (by decide) rfl ?_
  intro p e s m args below meth c s₁ B hml hv
  obtain ⟨rfl, hH, hK⟩ := hv
  have hx := B.exec
  have hb := B.bytes
  have hr := B.returns
  have hts : ∀ w ∈ TT, w.before _ s = true := fun w h => atoms_spec (ws := ww yX8_isType cX8_isType 2 (some .boolean)) B.pre w (List.mem_cons_of_mem _ h)
  have hown : s.vm.findClass RX8 = some m.cls := findClass_of_methodNamed B.named
  have hlocks := B.notSynchronized
  rw [hH]
  have hl := lv_entry ([.ref mo, .int t]) (n := 2) (Nat.le_of_ble_eq_true rfl)
  rw [lg_entry_eq]
  generalize (lg_sl ([.ref mo, .int t]) ++ List.replicate (2 - (lg_sl ([.ref mo, .int t])).length) Slot.unset).toArray = ls at hl ⊢
  have hl : lv_has ls 2 [(0, .ref mo), (1, .int t)] := hl
  refine lv_iload_n hx hb dX8_isType_0 rfl (lv_at hl 1 rfl) ?_
  refine lv_iconst (v := 0) hx hb dX8_isType_1 (by decide) ?_
  refine lv_aload_n hx hb dX8_isType_2 rfl (lv_at hl 0 rfl) ?_
  refine va_get (D := D) (ci := 8) (v := .int (σ 1 0)) (C := RX8) (T := TX8) (N := 33) hx hb hts iX8 hown hK.1 hP 0 rfl rfl 1 (by decide) (hts _ q_680) (fun _ h9 => h9) rfl dX8_isType_3 ?_
  refine lv_iconst (v := 1) hx hb dX8_isType_6 (by decide) ?_
  refine lv_isub hx hb dX8_isType_7 ?_
  refine ro_Si (D := D) (G := G) (As := [.int t, .int 0, .int ((σ 1 0) - 1)]) (rest := []) ⟨hx, hb, hml, hown, hts⟩ (m_in l D G _ t 0 ((σ 1 0) - 1)) gS_X8_X8_in hdS_X8_in ⟨Nat.le_of_ble_eq_true rfl, Nat.le_of_ble_eq_true rfl⟩ hK rfl hl.1 rfl (Nat.le_of_ble_eq_true rfl) dX8_isType_8 ⟨Nat.le_of_ble_eq_true rfl, Nat.le_of_ble_eq_true rfl⟩ (fun r1 e_r1 => ?_)
  subst e_r1
  exact ro_zret (v := bI (0 ≤ t ∧ t ≤ (σ 1 0) - 1)) hx hb hr hH hlocks dX8_isType_11 bI_b (by rw [h1]; exact bI_c (okN_iff (by omega)))
set_option maxHeartbeats 4000000 in
set_option maxRecDepth 100000 in
theorem m_isFace (l : Launch) (D : va_G) (G : Nat → ClassId) (H : Heap) (mo : Nat) (ad : Nat → Nat) (σ : MS) (τ : Nat → Int64) (hP : va_P D vwCl (mW G mo ad σ τ) H) (t : Nat) (ht : t < 12) : Met l yX8_isFace (ww yX8_isFace cX8_isFace 2 (some .boolean)) (rmD 0) (roP D G H [.ref mo, .int (nI t)]) (vp_Si (fun r => r = bI (σ 2 t = 3))) 0 0 (fun _ => False) := by
  refine Met.ofW (cc := cX8_isFace) (maxL := 2) (ret := (some .boolean)) (by decide) rfl ?_
  intro p e s m args below meth c s₁ B hml hv
  obtain ⟨rfl, hH, hK⟩ := hv
  have hx := B.exec
  have hb := B.bytes
  have hr := B.returns
  have hts : ∀ w ∈ TT, w.before _ s = true := fun w h => atoms_spec (ws := ww yX8_isFace cX8_isFace 2 (some .boolean)) B.pre w (List.mem_cons_of_mem _ h)
  have hown : s.vm.findClass RX8 = some m.cls := findClass_of_methodNamed B.named
  have hlocks := B.notSynchronized
  rw [hH]
  have hl := lv_entry ([.ref mo, .int (nI t)]) (n := 2) (Nat.le_of_ble_eq_true rfl)
  rw [lg_entry_eq]
  generalize (lg_sl ([.ref mo, .int (nI t)]) ++ List.replicate (2 - (lg_sl ([.ref mo, .int (nI t)])).length) Slot.unset).toArray = ls at hl ⊢
  have hl : lv_has ls 2 [(0, .ref mo), (1, .int (nI t))] := hl
  refine lv_aload_n hx hb dX8_isFace_0 rfl (lv_at hl 0 rfl) ?_
  refine va_get (D := D) (ci := 8) (v := .ref ((ad 2))) (C := RX8) (T := TX8) (N := 33) hx hb hts iX8 hown hK.1 hP 0 rfl rfl 2 (by decide) (hts _ q_681) (fun _ h9 => h9) rfl dX8_isFace_1 ?_
  refine lv_iload_n hx hb dX8_isFace_4 rfl (lv_at hl 1 rfl) ?_
  refine iald_n (f := σ 2) hx hb hK.1 hP 1 0 rfl rfl (t) rfl (by omega) (by decide) dX8_isFace_5 ?_
  refine lv_iconst (v := 3) hx hb dX8_isFace_6 (by decide) ?_
  refine lv_icmp_ne (tgt := 14) hx hb dX8_isFace_7 (by decide) (fun c1 => ?_) (fun c1 => ?_)
  · -- 7 taken
    refine lv_iconst (v := 0) hx hb dX8_isFace_14 (by decide) ?_
    exact ro_zret (v := 0) hx hb hr hH hlocks dX8_isFace_15 (Or.inl rfl) ((bI_f c1).symm)
  · -- 7 not
    refine lv_iconst (v := 1) hx hb dX8_isFace_10 (by decide) ?_
    refine lv_goto (tgt := 15) hx hb dX8_isFace_11 (by decide) ?_
    exact ro_zret (v := 1) hx hb hr hH hlocks dX8_isFace_15 (Or.inr rfl) ((bI_t c1).symm)
set_option maxHeartbeats 4000000 in
set_option maxRecDepth 100000 in
theorem m_lies (l : Launch) (D : va_G) (G : Nat → ClassId) (H : Heap) (mo : Nat) (ad : Nat → Nat) (σ : MS) (τ : Nat → Int64) (hP : va_P D vwCl (mW G mo ad σ τ) H) (t o : Nat) (ht : t < 12) (ho : o < 12) (hb6 : ∀ i, σ 6 i = 0 ∨ σ 6 i = 1) : Met l yX8_lies (ww yX8_lies cX8_lies 3 (some .boolean)) (rmD 0) (roP D G H [.ref mo, .int (nI t), .int (nI o)]) (vp_Si (fun r => r = bI (lyP σ t o))) 0 0 (fun _ => False) := by
  refine Met.ofW (cc := cX8_lies) (maxL := 3) (ret := (some .boolean)) (by decide) rfl ?_
  intro p e s m args below meth c s₁ B hml hv
  obtain ⟨rfl, hH, hK⟩ := hv
  have hx := B.exec
  have hb := B.bytes
  have hr := B.returns
  have hts : ∀ w ∈ TT, w.before _ s = true := fun w h => atoms_spec (ws := ww yX8_lies cX8_lies 3 (some .boolean)) B.pre w (List.mem_cons_of_mem _ h)
  have hown : s.vm.findClass RX8 = some m.cls := findClass_of_methodNamed B.named
  have hlocks := B.notSynchronized
  rw [hH]
  have hl := lv_entry ([.ref mo, .int (nI t), .int (nI o)]) (n := 3) (Nat.le_of_ble_eq_true rfl)
  rw [lg_entry_eq]
  generalize (lg_sl ([.ref mo, .int (nI t), .int (nI o)]) ++ List.replicate (3 - (lg_sl ([.ref mo, .int (nI t), .int (nI o)])).length) Slot.unset).toArray = ls at hl ⊢
  have hl : lv_has ls 3 [(0, .ref mo), (1, .int (nI t)), (2, .int (nI o))] := hl
  refine lv_aload_n hx hb dX8_lies_0 rfl (lv_at hl 0 rfl) ?_
  refine va_get (D := D) (ci := 8) (v := .ref ((ad 6))) (C := RX8) (T := TX8) (N := 33) hx hb hts iX8 hown hK.1 hP 0 rfl rfl 6 (by decide) (hts _ q_685) (fun _ h9 => h9) rfl dX8_lies_1 ?_
  refine lv_bipush (v := 12) hx hb dX8_lies_4 (by decide) ?_
  refine lv_iload_n hx hb dX8_lies_6 rfl (lv_at hl 1 rfl) ?_
  refine lv_imul hx hb dX8_lies_7 ?_
  refine lv_iload_n hx hb dX8_lies_8 rfl (lv_at hl 2 rfl) ?_
  refine lv_iadd hx hb dX8_lies_9 ?_
  refine zald_n (f := σ 6) hx hb hK.1 hP 5 2 rfl rfl (((12 * t) + o)) (n_add (a := (12 * t)) (b := o) (n_mul (a := 12) (b := t) (rfl : (12 : Int32) = nI 12) rfl) rfl) (by omega) (by decide) dX8_lies_10 ?_
  exact ro_zret (v := σ 6 (((12 * t) + o))) hx hb hr hH hlocks dX8_lies_11 (hb6 _) (bI_self (hb6 _))
set_option maxHeartbeats 4000000 in
set_option maxRecDepth 100000 in
theorem m_noKind (l : Launch) (D : va_G) (G : Nat → ClassId) (H : Heap) (mo : Nat) (ad : Nat → Nat) (σ : MS) (τ : Nat → Int64) (hP : va_P D vwCl (mW G mo ad σ τ) H) (n : Nat) (h1 : σ 1 0 = nI n) (hn : n ≤ 12) (kind : Int32) : Met l yX8_noKind (ww yX8_noKind cX8_noKind 2 (some .boolean)) (rmD 2) (roP D G H [.ref mo, .int kind]) (vp_Si (fun r => r = bI (noK n kind))) 0 0 (fun _ => False) := by
  refine Met.ofW (cc := cX8_noKind) (maxL := 2) (ret := (some .boolean)) (by decide) rfl ?_
  intro p e s m args below meth c s₁ B hml hv
  obtain ⟨rfl, hH, hK⟩ := hv
  have hx := B.exec
  have hb := B.bytes
  have hr := B.returns
  have hts : ∀ w ∈ TT, w.before _ s = true := fun w h => atoms_spec (ws := ww yX8_noKind cX8_noKind 2 (some .boolean)) B.pre w (List.mem_cons_of_mem _ h)
  have hown : s.vm.findClass RX8 = some m.cls := findClass_of_methodNamed B.named
  have hlocks := B.notSynchronized
  rw [hH]
  have hl := lv_entry ([.ref mo, .int kind]) (n := 2) (Nat.le_of_ble_eq_true rfl)
  rw [lg_entry_eq]
  generalize (lg_sl ([.ref mo, .int kind]) ++ List.replicate (2 - (lg_sl ([.ref mo, .int kind])).length) Slot.unset).toArray = ls at hl ⊢
  have hl : lv_has ls 2 [(0, .ref mo), (1, .int kind)] := hl
  refine lv_iload_n hx hb dX8_noKind_0 rfl (lv_at hl 1 rfl) ?_
  refine lv_bipush (v := 9) hx hb dX8_noKind_1 (by decide) ?_
  refine lv_icmp_le (tgt := 21) hx hb dX8_noKind_3 (by decide) (fun c1 => ?_) (fun c1 => ?_)
  · -- 3 taken
    refine lv_iconst (v := 0) hx hb dX8_noKind_21 (by decide) ?_
    exact ro_zret (v := 0) hx hb hr hH hlocks dX8_noKind_22 (Or.inl rfl) ((bI_f (by rw [noK_def]; simp only [eq_true c1, not_true, not_false_iff, true_and, and_true, false_and, and_false])).symm)
  · -- 3 not
    refine lv_aload_n hx hb dX8_noKind_6 rfl (lv_at hl 0 rfl) ?_
    refine lv_iload_n hx hb dX8_noKind_7 rfl (lv_at hl 1 rfl) ?_
    refine lv_bipush (v := 10) hx hb dX8_noKind_8 (by decide) ?_
    refine lv_isub hx hb dX8_noKind_10 ?_
    refine ro_Vi (D := D) (G := G) (As := [.int (kind - 10)]) (rest := []) ⟨hx, hb, hml, hown, hts⟩ (m_isType l D G _ mo ad _ _ hP n h1 hn (kind - 10)) gV_X8_X8_isType hdV_X8_isType ⟨Nat.le_of_ble_eq_true rfl, Nat.le_of_ble_eq_true rfl⟩ hK (va_recv hK.1 hP (ci := 8) (q0 := 0) rfl rfl) rfl hl.1 rfl (Nat.le_of_ble_eq_true rfl) dX8_noKind_11 ⟨Nat.le_of_ble_eq_true rfl, Nat.le_of_ble_eq_true rfl⟩ (fun r2 e_r2 => ?_)
    subst e_r2
    refine lv_if_ne (tgt := 21) hx hb dX8_noKind_14 (by decide) (fun c3 => ?_) (fun c3 => ?_)
    · -- 14 taken
      have c3 := bI_1 c3
      refine lv_iconst (v := 0) hx hb dX8_noKind_21 (by decide) ?_
      exact ro_zret (v := 0) hx hb hr hH hlocks dX8_noKind_22 (Or.inl rfl) ((bI_f (by rw [noK_def]; simp only [eq_false c1, eq_true c3, not_true, not_false_iff, true_and, and_true, false_and, and_false])).symm)
    · -- 14 not
      have c3 := bI_0 c3
      refine lv_iconst (v := 1) hx hb dX8_noKind_17 (by decide) ?_
      refine lv_goto (tgt := 22) hx hb dX8_noKind_18 (by decide) ?_
      exact ro_zret (v := 1) hx hb hr hH hlocks dX8_noKind_22 (Or.inr rfl) ((bI_t (by rw [noK_def]; simp only [eq_false c1, eq_false c3, not_true, not_false_iff, true_and, and_true, false_and, and_false])).symm)
set_option maxHeartbeats 4000000 in
set_option maxRecDepth 100000 in
theorem m_refusal (l : Launch) (D : va_G) (G : Nat → ClassId) (H : Heap) (mo : Nat) (ad : Nat → Nat) (σ : MS) (τ : Nat → Int64) (hP : va_P D vwCl (mW G mo ad σ τ) H) (n : Nat) (h1 : σ 1 0 = nI n) (hn : n ≤ 12) (t : Int32) (name : Int32) (kind : Int32) (dd : Int32) (mm : Int32) : Met l yX8_refusal (ww yX8_refusal cX8_refusal 6 (some .int)) (rmD 3) (roP D G H [.ref mo, .int t, .int name, .int kind, .int dd, .int mm]) (vp_Si (fun r => r = aRef σ n t name kind dd mm)) 0 0 (fun _ => False) := by
  refine Met.ofW (cc := cX8_refusal) (maxL := 6) (ret := (some .int)) (by decide) rfl ?_
  intro p e s m args below meth c s₁ B hml hv
  obtain ⟨rfl, hH, hK⟩ := hv
  have hx := B.exec
  have hb := B.bytes
  have hr := B.returns
  have hts : ∀ w ∈ TT, w.before _ s = true := fun w h => atoms_spec (ws := ww yX8_refusal cX8_refusal 6 (some .int)) B.pre w (List.mem_cons_of_mem _ h)
  have hown : s.vm.findClass RX8 = some m.cls := findClass_of_methodNamed B.named
  have hlocks := B.notSynchronized
  rw [hH]
  have hl := lv_entry ([.ref mo, .int t, .int name, .int kind, .int dd, .int mm]) (n := 6) (Nat.le_of_ble_eq_true rfl)
  rw [lg_entry_eq]
  generalize (lg_sl ([.ref mo, .int t, .int name, .int kind, .int dd, .int mm]) ++ List.replicate (6 - (lg_sl ([.ref mo, .int t, .int name, .int kind, .int dd, .int mm])).length) Slot.unset).toArray = ls at hl ⊢
  have hl : lv_has ls 6 [(0, .ref mo), (1, .int t), (2, .int name), (3, .int kind), (4, .int dd), (5, .int mm)] := hl
  refine lv_aload_n hx hb dX8_refusal_0 rfl (lv_at hl 0 rfl) ?_
  refine lv_iload_n hx hb dX8_refusal_1 rfl (lv_at hl 1 rfl) ?_
  refine ro_Vi (D := D) (G := G) (As := [.int t]) (rest := []) ⟨hx, hb, hml, hown, hts⟩ (m_isType l D G _ mo ad _ _ hP n h1 hn t) gV_X8_X8_isType hdV_X8_isType ⟨Nat.le_of_ble_eq_true rfl, Nat.le_of_ble_eq_true rfl⟩ hK (va_recv hK.1 hP (ci := 8) (q0 := 0) rfl rfl) rfl hl.1 rfl (Nat.le_of_ble_eq_true rfl) dX8_refusal_2 ⟨Nat.le_of_ble_eq_true rfl, Nat.le_of_ble_eq_true rfl⟩ (fun r1 e_r1 => ?_)
  subst e_r1
  refine lv_if_eq (tgt := 16) hx hb dX8_refusal_5 (by decide) (fun c2 => ?_) (fun c2 => ?_)
  · -- 5 taken
    have c2 := bI_0 c2
    refine lv_bipush (v := -11) hx hb dX8_refusal_16 (by decide) ?_
    exact ro_iret (v := (-11)) hx hb hr hH hlocks dX8_refusal_18 (by unfold aRef; simp only [eq_false c2, not_true, not_false_iff, not_true_eq_false, not_false_eq_true, true_or, or_true, false_or, or_false, or_self, and_self, true_and, and_true, false_and, and_false, if_true, if_false])
  · -- 5 not
    have c2 := bI_1 c2
    refine lv_aload_n hx hb dX8_refusal_8 rfl (lv_at hl 0 rfl) ?_
    refine lv_iload_n hx hb dX8_refusal_9 rfl (lv_at hl 3 rfl) ?_
    refine ro_Vi (D := D) (G := G) (As := [.int kind]) (rest := []) ⟨hx, hb, hml, hown, hts⟩ (m_noKind l D G _ mo ad _ _ hP n h1 hn kind) gV_X8_X8_noKind hdV_X8_noKind ⟨Nat.le_of_ble_eq_true rfl, Nat.le_of_ble_eq_true rfl⟩ hK (va_recv hK.1 hP (ci := 8) (q0 := 0) rfl rfl) rfl hl.1 rfl (Nat.le_of_ble_eq_true rfl) dX8_refusal_10 ⟨Nat.le_of_ble_eq_true rfl, Nat.le_of_ble_eq_true rfl⟩ (fun r3 e_r3 => ?_)
    subst e_r3
    refine lv_if_eq (tgt := 19) hx hb dX8_refusal_13 (by decide) (fun c4 => ?_) (fun c4 => ?_)
    · -- 13 taken
      have c4 := bI_0 c4
      refine lv_iload_n hx hb dX8_refusal_19 rfl (lv_at hl 2 rfl) ?_
      refine lv_iconst (v := 0) hx hb dX8_refusal_20 (by decide) ?_
      refine lv_bipush (v := 49) hx hb dX8_refusal_21 (by decide) ?_
      refine ro_Si (D := D) (G := G) (As := [.int name, .int 0, .int 49]) (rest := []) ⟨hx, hb, hml, hown, hts⟩ (m_in l D G _ name 0 49) gS_X8_X8_in hdS_X8_in ⟨Nat.le_of_ble_eq_true rfl, Nat.le_of_ble_eq_true rfl⟩ hK rfl hl.1 rfl (Nat.le_of_ble_eq_true rfl) dX8_refusal_23 ⟨Nat.le_of_ble_eq_true rfl, Nat.le_of_ble_eq_true rfl⟩ (fun r5 e_r5 => ?_)
      subst e_r5
      refine lv_if_eq (tgt := 70) hx hb dX8_refusal_26 (by decide) (fun c6 => ?_) (fun c6 => ?_)
      · -- 26 taken
        have c6 := bI_0 c6
        refine lv_bipush (v := -13) hx hb dX8_refusal_70 (by decide) ?_
        exact ro_iret (v := (-13)) hx hb hr hH hlocks dX8_refusal_72 (by unfold aRef; simp only [eq_true c2, eq_false c4, eq_false c6, not_true, not_false_iff, not_true_eq_false, not_false_eq_true, true_or, or_true, false_or, or_false, or_self, and_self, true_and, and_true, false_and, and_false, if_true, if_false])
      · -- 26 not
        have c6 := bI_1 c6
        refine lv_iload_n hx hb dX8_refusal_29 rfl (lv_at hl 3 rfl) ?_
        refine lv_if_lt (tgt := 70) hx hb dX8_refusal_30 (by decide) (fun c7 => ?_) (fun c7 => ?_)
        · -- 30 taken
          refine lv_bipush (v := -13) hx hb dX8_refusal_70 (by decide) ?_
          exact ro_iret (v := (-13)) hx hb hr hH hlocks dX8_refusal_72 (by unfold aRef; simp only [eq_true c2, eq_false c4, eq_true c6, eq_true c7, not_true, not_false_iff, not_true_eq_false, not_false_eq_true, true_or, or_true, false_or, or_false, or_self, and_self, true_and, and_true, false_and, and_false, if_true, if_false])
        · -- 30 not
          refine lv_iload_n hx hb dX8_refusal_33 rfl (lv_at hl 3 rfl) ?_
          refine lv_bipush (v := 9) hx hb dX8_refusal_34 (by decide) ?_
          refine lv_icmp_eq (tgt := 70) hx hb dX8_refusal_36 (by decide) (fun c8 => ?_) (fun c8 => ?_)
          · -- 36 taken
            refine lv_bipush (v := -13) hx hb dX8_refusal_70 (by decide) ?_
            exact ro_iret (v := (-13)) hx hb hr hH hlocks dX8_refusal_72 (by unfold aRef; simp only [eq_true c2, eq_false c4, eq_true c6, eq_false c7, eq_true c8, not_true, not_false_iff, not_true_eq_false, not_false_eq_true, true_or, or_true, false_or, or_false, or_self, and_self, true_and, and_true, false_and, and_false, if_true, if_false])
          · -- 36 not
            refine lv_iload hx hb dX8_refusal_39 (lv_at hl 4 rfl) ?_
            refine lv_iconst (v := 0) hx hb dX8_refusal_41 (by decide) ?_
            refine lv_iconst (v := 3) hx hb dX8_refusal_42 (by decide) ?_
            refine ro_Si (D := D) (G := G) (As := [.int dd, .int 0, .int 3]) (rest := []) ⟨hx, hb, hml, hown, hts⟩ (m_in l D G _ dd 0 3) gS_X8_X8_in hdS_X8_in ⟨Nat.le_of_ble_eq_true rfl, Nat.le_of_ble_eq_true rfl⟩ hK rfl hl.1 rfl (Nat.le_of_ble_eq_true rfl) dX8_refusal_43 ⟨Nat.le_of_ble_eq_true rfl, Nat.le_of_ble_eq_true rfl⟩ (fun r9 e_r9 => ?_)
            subst e_r9
            refine lv_if_eq (tgt := 70) hx hb dX8_refusal_46 (by decide) (fun c10 => ?_) (fun c10 => ?_)
            · -- 46 taken
              have c10 := bI_0 c10
              refine lv_bipush (v := -13) hx hb dX8_refusal_70 (by decide) ?_
              exact ro_iret (v := (-13)) hx hb hr hH hlocks dX8_refusal_72 (by unfold aRef; simp only [eq_true c2, eq_false c4, eq_true c6, eq_false c7, eq_false c8, eq_false c10, not_true, not_false_iff, not_true_eq_false, not_false_eq_true, true_or, or_true, false_or, or_false, or_self, and_self, true_and, and_true, false_and, and_false, if_true, if_false])
            · -- 46 not
              have c10 := bI_1 c10
              refine lv_iload_n hx hb dX8_refusal_49 rfl (lv_at hl 3 rfl) ?_
              refine lv_if_ne (tgt := 58) hx hb dX8_refusal_50 (by decide) (fun c11 => ?_) (fun c11 => ?_)
              · -- 50 taken
                refine lv_iload hx hb dX8_refusal_58 (lv_at hl 5 rfl) ?_
                refine lv_iconst (v := 0) hx hb dX8_refusal_60 (by decide) ?_
                refine lv_sipush (v := 2047) hx hb dX8_refusal_61 (by decide) ?_
                refine ro_Si (D := D) (G := G) (As := [.int mm, .int 0, .int 2047]) (rest := []) ⟨hx, hb, hml, hown, hts⟩ (m_in l D G _ mm 0 2047) gS_X8_X8_in hdS_X8_in ⟨Nat.le_of_ble_eq_true rfl, Nat.le_of_ble_eq_true rfl⟩ hK rfl hl.1 rfl (Nat.le_of_ble_eq_true rfl) dX8_refusal_64 ⟨Nat.le_of_ble_eq_true rfl, Nat.le_of_ble_eq_true rfl⟩ (fun r12 e_r12 => ?_)
                subst e_r12
                refine lv_if_ne (tgt := 73) hx hb dX8_refusal_67 (by decide) (fun c13 => ?_) (fun c13 => ?_)
                · -- 67 taken
                  have c13 := bI_1 c13
                  refine lv_aload_n hx hb dX8_refusal_73 rfl (lv_at hl 0 rfl) ?_
                  refine va_get (D := D) (ci := 8) (v := .int (σ 21 0)) (C := RX8) (T := TX8) (N := 33) hx hb hts iX8 hown hK.1 hP 0 rfl rfl 21 (by decide) (hts _ q_700) (fun _ h9 => h9) rfl dX8_refusal_74 ?_
                  refine lv_if_eq (tgt := 85) hx hb dX8_refusal_77 (by decide) (fun c14 => ?_) (fun c14 => ?_)
                  · -- 77 taken
                    refine lv_aload_n hx hb dX8_refusal_85 rfl (lv_at hl 0 rfl) ?_
                    refine va_get (D := D) (ci := 8) (v := .int (σ 7 0)) (C := RX8) (T := TX8) (N := 33) hx hb hts iX8 hown hK.1 hP 0 rfl rfl 7 (by decide) (hts _ q_686) (fun _ h9 => h9) rfl dX8_refusal_86 ?_
                    refine lv_bipush (v := 60) hx hb dX8_refusal_89 (by decide) ?_
                    refine lv_icmp_ne (tgt := 99) hx hb dX8_refusal_91 (by decide) (fun c15 => ?_) (fun c15 => ?_)
                    · -- 91 taken
                      refine lv_iconst (v := 0) hx hb dX8_refusal_99 (by decide) ?_
                      exact ro_iret (v := 0) hx hb hr hH hlocks dX8_refusal_100 (by unfold aRef; simp only [eq_true c2, eq_false c4, eq_true c6, eq_false c7, eq_false c8, eq_true c10, eq_false c11, eq_true c13, eq_true c14, eq_false c15, not_true, not_false_iff, not_true_eq_false, not_false_eq_true, true_or, or_true, false_or, or_false, or_self, and_self, true_and, and_true, false_and, and_false, if_true, if_false])
                    · -- 91 not
                      refine lv_bipush (v := -15) hx hb dX8_refusal_94 (by decide) ?_
                      refine lv_goto (tgt := 100) hx hb dX8_refusal_96 (by decide) ?_
                      exact ro_iret (v := (-15)) hx hb hr hH hlocks dX8_refusal_100 (by unfold aRef; simp only [eq_true c2, eq_false c4, eq_true c6, eq_false c7, eq_false c8, eq_true c10, eq_false c11, eq_true c13, eq_true c14, eq_true c15, not_true, not_false_iff, not_true_eq_false, not_false_eq_true, true_or, or_true, false_or, or_false, or_self, and_self, true_and, and_true, false_and, and_false, if_true, if_false])
                  · -- 77 not
                    refine lv_bipush (v := -14) hx hb dX8_refusal_80 (by decide) ?_
                    refine lv_goto (tgt := 100) hx hb dX8_refusal_82 (by decide) ?_
                    exact ro_iret (v := (-14)) hx hb hr hH hlocks dX8_refusal_100 (by unfold aRef; simp only [eq_true c2, eq_false c4, eq_true c6, eq_false c7, eq_false c8, eq_true c10, eq_false c11, eq_true c13, eq_false c14, not_true, not_false_iff, not_true_eq_false, not_false_eq_true, true_or, or_true, false_or, or_false, or_self, and_self, true_and, and_true, false_and, and_false, if_true, if_false])
                · -- 67 not
                  have c13 := bI_0 c13
                  refine lv_bipush (v := -13) hx hb dX8_refusal_70 (by decide) ?_
                  exact ro_iret (v := (-13)) hx hb hr hH hlocks dX8_refusal_72 (by unfold aRef; simp only [eq_true c2, eq_false c4, eq_true c6, eq_false c7, eq_false c8, eq_true c10, eq_false c11, eq_false c13, not_true, not_false_iff, not_true_eq_false, not_false_eq_true, true_or, or_true, false_or, or_false, or_self, and_self, true_and, and_true, false_and, and_false, if_true, if_false])
              · -- 50 not
                refine lv_iload hx hb dX8_refusal_53 (lv_at hl 4 rfl) ?_
                refine lv_if_gt (tgt := 70) hx hb dX8_refusal_55 (by decide) (fun c16 => ?_) (fun c16 => ?_)
                · -- 55 taken
                  refine lv_bipush (v := -13) hx hb dX8_refusal_70 (by decide) ?_
                  exact ro_iret (v := (-13)) hx hb hr hH hlocks dX8_refusal_72 (by unfold aRef; simp only [eq_true c2, eq_false c4, eq_true c6, eq_false c7, eq_false c8, eq_true c10, eq_true c11, eq_true c16, not_true, not_false_iff, not_true_eq_false, not_false_eq_true, true_or, or_true, false_or, or_false, or_self, and_self, true_and, and_true, false_and, and_false, if_true, if_false])
                · -- 55 not
                  refine lv_iload hx hb dX8_refusal_58 (lv_at hl 5 rfl) ?_
                  refine lv_iconst (v := 0) hx hb dX8_refusal_60 (by decide) ?_
                  refine lv_sipush (v := 2047) hx hb dX8_refusal_61 (by decide) ?_
                  refine ro_Si (D := D) (G := G) (As := [.int mm, .int 0, .int 2047]) (rest := []) ⟨hx, hb, hml, hown, hts⟩ (m_in l D G _ mm 0 2047) gS_X8_X8_in hdS_X8_in ⟨Nat.le_of_ble_eq_true rfl, Nat.le_of_ble_eq_true rfl⟩ hK rfl hl.1 rfl (Nat.le_of_ble_eq_true rfl) dX8_refusal_64 ⟨Nat.le_of_ble_eq_true rfl, Nat.le_of_ble_eq_true rfl⟩ (fun r17 e_r17 => ?_)
                  subst e_r17
                  refine lv_if_ne (tgt := 73) hx hb dX8_refusal_67 (by decide) (fun c18 => ?_) (fun c18 => ?_)
                  · -- 67 taken
                    have c18 := bI_1 c18
                    refine lv_aload_n hx hb dX8_refusal_73 rfl (lv_at hl 0 rfl) ?_
                    refine va_get (D := D) (ci := 8) (v := .int (σ 21 0)) (C := RX8) (T := TX8) (N := 33) hx hb hts iX8 hown hK.1 hP 0 rfl rfl 21 (by decide) (hts _ q_700) (fun _ h9 => h9) rfl dX8_refusal_74 ?_
                    refine lv_if_eq (tgt := 85) hx hb dX8_refusal_77 (by decide) (fun c19 => ?_) (fun c19 => ?_)
                    · -- 77 taken
                      refine lv_aload_n hx hb dX8_refusal_85 rfl (lv_at hl 0 rfl) ?_
                      refine va_get (D := D) (ci := 8) (v := .int (σ 7 0)) (C := RX8) (T := TX8) (N := 33) hx hb hts iX8 hown hK.1 hP 0 rfl rfl 7 (by decide) (hts _ q_686) (fun _ h9 => h9) rfl dX8_refusal_86 ?_
                      refine lv_bipush (v := 60) hx hb dX8_refusal_89 (by decide) ?_
                      refine lv_icmp_ne (tgt := 99) hx hb dX8_refusal_91 (by decide) (fun c20 => ?_) (fun c20 => ?_)
                      · -- 91 taken
                        refine lv_iconst (v := 0) hx hb dX8_refusal_99 (by decide) ?_
                        exact ro_iret (v := 0) hx hb hr hH hlocks dX8_refusal_100 (by unfold aRef; simp only [eq_true c2, eq_false c4, eq_true c6, eq_false c7, eq_false c8, eq_true c10, eq_true c11, eq_false c16, eq_true c18, eq_true c19, eq_false c20, not_true, not_false_iff, not_true_eq_false, not_false_eq_true, true_or, or_true, false_or, or_false, or_self, and_self, true_and, and_true, false_and, and_false, if_true, if_false])
                      · -- 91 not
                        refine lv_bipush (v := -15) hx hb dX8_refusal_94 (by decide) ?_
                        refine lv_goto (tgt := 100) hx hb dX8_refusal_96 (by decide) ?_
                        exact ro_iret (v := (-15)) hx hb hr hH hlocks dX8_refusal_100 (by unfold aRef; simp only [eq_true c2, eq_false c4, eq_true c6, eq_false c7, eq_false c8, eq_true c10, eq_true c11, eq_false c16, eq_true c18, eq_true c19, eq_true c20, not_true, not_false_iff, not_true_eq_false, not_false_eq_true, true_or, or_true, false_or, or_false, or_self, and_self, true_and, and_true, false_and, and_false, if_true, if_false])
                    · -- 77 not
                      refine lv_bipush (v := -14) hx hb dX8_refusal_80 (by decide) ?_
                      refine lv_goto (tgt := 100) hx hb dX8_refusal_82 (by decide) ?_
                      exact ro_iret (v := (-14)) hx hb hr hH hlocks dX8_refusal_100 (by unfold aRef; simp only [eq_true c2, eq_false c4, eq_true c6, eq_false c7, eq_false c8, eq_true c10, eq_true c11, eq_false c16, eq_true c18, eq_false c19, not_true, not_false_iff, not_true_eq_false, not_false_eq_true, true_or, or_true, false_or, or_false, or_self, and_self, true_and, and_true, false_and, and_false, if_true, if_false])
                  · -- 67 not
                    have c18 := bI_0 c18
                    refine lv_bipush (v := -13) hx hb dX8_refusal_70 (by decide) ?_
                    exact ro_iret (v := (-13)) hx hb hr hH hlocks dX8_refusal_72 (by unfold aRef; simp only [eq_true c2, eq_false c4, eq_true c6, eq_false c7, eq_false c8, eq_true c10, eq_true c11, eq_false c16, eq_false c18, not_true, not_false_iff, not_true_eq_false, not_false_eq_true, true_or, or_true, false_or, or_false, or_self, and_self, true_and, and_true, false_and, and_false, if_true, if_false])
    · -- 13 not
      have c4 := bI_1 c4
      refine lv_bipush (v := -11) hx hb dX8_refusal_16 (by decide) ?_
      exact ro_iret (v := (-11)) hx hb hr hH hlocks dX8_refusal_18 (by unfold aRef; simp only [eq_true c2, eq_true c4, not_true, not_false_iff, not_true_eq_false, not_false_eq_true, true_or, or_true, false_or, or_false, or_self, and_self, true_and, and_true, false_and, and_false, if_true, if_false])
set_option maxHeartbeats 4000000 in
set_option maxRecDepth 100000 in
theorem m_bits (l : Launch) (D : va_G) (G : Nat → ClassId) (H : Heap) (x : Int32) : Met l yX8_bits (ww yX8_bits cX8_bits 3 (some .int)) (rmD 0) (roP D G H [.int x]) (vp_Si (fun r => r = bitsF x 11)) 0 0 (fun _ => False) := by
  refine Met.ofW (cc := cX8_bits) (maxL := 3) (ret := (some .int)) (by decide) rfl ?_
  intro p e s m args below meth c s₁ B hml hv
  obtain ⟨rfl, hH, hK⟩ := hv
  have hx := B.exec
  have hb := B.bytes
  have hr := B.returns
  have hts : ∀ w ∈ TT, w.before _ s = true := fun w h => atoms_spec (ws := ww yX8_bits cX8_bits 3 (some .int)) B.pre w (List.mem_cons_of_mem _ h)
  have hown : s.vm.findClass RX8 = some m.cls := findClass_of_methodNamed B.named
  have hlocks := B.notSynchronized
  rw [hH]
  have hl := lv_entry ([.int x]) (n := 3) (Nat.le_of_ble_eq_true rfl)
  rw [lg_entry_eq]
  generalize (lg_sl ([.int x]) ++ List.replicate (3 - (lg_sl ([.int x])).length) Slot.unset).toArray = ls at hl ⊢
  have hl : lv_has ls 3 [(0, .int x)] := hl
  refine lv_iconst (v := 0) hx hb dX8_bits_0 (by decide) ?_
  refine lv_istore_n (lv' := [(1, .int 0), (0, .int x)]) hx hb dX8_bits_1 rfl hl (by decide) rfl (fun ls hl => ?_)
  refine lv_iconst (v := 0) hx hb dX8_bits_2 (by decide) ?_
  refine lv_istore_n (lv' := [(2, .int 0), (1, .int 0), (0, .int x)]) hx hb dX8_bits_3 rfl hl (by decide) rfl (fun ls hl => ?_)
  refine w_for (N := 11) 4 (L := fun q9 ls => lv_has ls 3 [(2, .int (nI q9)), (1, .int (bitsF x q9)), (0, .int x)]) (fun k ls hk hL ih => ?_) 0 ls (Nat.zero_le _) (hl)
  have hl := hL
  have hl : lv_has ls 3 [(2, .int (nI k)), (1, .int (bitsF x k)), (0, .int x)] := hl
  refine lv_iload_n hx hb dX8_bits_4 rfl (lv_at hl 0 rfl) ?_
  refine lv_bipush (v := 11) hx hb dX8_bits_5 (by decide) ?_
  refine lv_icmp_ge (tgt := 24) hx hb dX8_bits_7 (by decide) (fun c1 => ?_) (fun c1 => ?_)
  · -- 7 taken
    refine lv_iload_n hx hb dX8_bits_24 rfl (lv_at hl 1 rfl) ?_
    exact ro_iret (v := bitsF x k) hx hb hr hH hlocks dX8_bits_25 (by rw [show k = 11 by simp only [i_le, n_ti (show k < 2 ^ 31 by omega), Int32.reduceToInt] at c1; omega])
  · -- 7 not
    have hk2 : k < 11 := by simp only [i_le, n_ti (show k < 2 ^ 31 by omega), Int32.reduceToInt] at c1; omega
    refine lv_iload_n hx hb dX8_bits_10 rfl (lv_at hl 1 rfl) ?_
    refine lv_iload_n hx hb dX8_bits_11 rfl (lv_at hl 2 rfl) ?_
    refine lv_iload_n hx hb dX8_bits_12 rfl (lv_at hl 0 rfl) ?_
    refine lv_ishr hx hb dX8_bits_13 ?_
    refine lv_iconst (v := 1) hx hb dX8_bits_14 (by decide) ?_
    refine lv_iand hx hb dX8_bits_15 ?_
    refine lv_iadd hx hb dX8_bits_16 ?_
    refine lv_istore_n (lv' := [(1, .int ((bitsF x k) + ((x >>> ((nI k) &&& 31)) &&& 1))), (2, .int (nI k)), (0, .int x)]) hx hb dX8_bits_17 rfl hl (by decide) rfl (fun ls hl => ?_)
    refine lv_iinc (v := nI (k + 1)) (lv' := [(2, .int (nI (k + 1))), (1, .int ((bitsF x k) + ((x >>> ((nI k) &&& 31)) &&& 1))), (0, .int x)]) hx hb dX8_bits_18 hl (k := 1) rfl (nI_1 _) (by decide) rfl (fun ls hl => ?_)
    refine lv_goto (tgt := 4) hx hb dX8_bits_21 (by decide) ?_
    exact ih _ (by omega) (lv_sub hl [0, 1, 2] rfl)
set_option maxHeartbeats 4000000 in
set_option maxRecDepth 100000 in
theorem m_fieldOf (l : Launch) (D : va_G) (G : Nat → ClassId) (H : Heap) (mo : Nat) (ad : Nat → Nat) (σ : MS) (τ : Nat → Int64) (hP : va_P D vwCl (mW G mo ad σ τ) H) (k : Nat) (h7 : σ 7 0 = nI k) (hk60 : k ≤ 60) (t : Int32) (name : Int32) : Met l yX8_fieldOf (ww yX8_fieldOf cX8_fieldOf 4 (some .int)) (rmD 0) (roP D G H [.ref mo, .int t, .int name]) (vp_Si (fun r => r = fld σ k t name)) 0 0 (fun _ => False) := by
  refine Met.ofW (cc := cX8_fieldOf) (maxL := 4) (ret := (some .int)) (by decide) rfl ?_
  intro p e s m args below meth c s₁ B hml hv
  obtain ⟨rfl, hH, hK⟩ := hv
  have hx := B.exec
  have hb := B.bytes
  have hr := B.returns
  have hts : ∀ w ∈ TT, w.before _ s = true := fun w h => atoms_spec (ws := ww yX8_fieldOf cX8_fieldOf 4 (some .int)) B.pre w (List.mem_cons_of_mem _ h)
  have hown : s.vm.findClass RX8 = some m.cls := findClass_of_methodNamed B.named
  have hlocks := B.notSynchronized
  rw [hH]
  have hl := lv_entry ([.ref mo, .int t, .int name]) (n := 4) (Nat.le_of_ble_eq_true rfl)
  rw [lg_entry_eq]
  generalize (lg_sl ([.ref mo, .int t, .int name]) ++ List.replicate (4 - (lg_sl ([.ref mo, .int t, .int name])).length) Slot.unset).toArray = ls at hl ⊢
  have hl : lv_has ls 4 [(0, .ref mo), (1, .int t), (2, .int name)] := hl
  refine lv_iconst (v := 0) hx hb dX8_fieldOf_0 (by decide) ?_
  refine lv_istore_n (lv' := [(3, .int 0), (0, .ref mo), (1, .int t), (2, .int name)]) hx hb dX8_fieldOf_1 rfl hl (by decide) rfl (fun ls hl => ?_)
  refine w_for (N := k) 2 (L := fun q9 ls => lv_has ls 4 [(3, .int (nI q9)), (0, .ref mo), (1, .int t), (2, .int name)] ∧ fnd (fldP σ t name) k 0 = fnd (fldP σ t name) (k - q9) q9) (fun k9 ls hk hL ih => ?_) 0 ls (Nat.zero_le _) ⟨hl, by rw [Nat.sub_zero]⟩
  obtain ⟨hl, hi⟩ := hL
  have hl : lv_has ls 4 [(3, .int (nI k9)), (0, .ref mo), (1, .int t), (2, .int name)] := hl
  refine lv_iload_n hx hb dX8_fieldOf_2 rfl (lv_at hl 0 rfl) ?_
  refine lv_aload_n hx hb dX8_fieldOf_3 rfl (lv_at hl 1 rfl) ?_
  refine va_get (D := D) (ci := 8) (v := .int (σ 7 0)) (C := RX8) (T := TX8) (N := 33) hx hb hts iX8 hown hK.1 hP 0 rfl rfl 7 (by decide) (hts _ q_686) (fun _ h9 => h9) rfl dX8_fieldOf_4 ?_
  refine lv_icmp_ge (tgt := 47) hx hb dX8_fieldOf_7 (by decide) (fun c1 => ?_) (fun c1 => ?_)
  · -- 7 taken
    have hke : k9 = k := by simp only [i_le, h7, n_ti (show k9 < 2 ^ 31 by omega), n_ti (show k < 2 ^ 31 by omega), Int32.reduceToInt] at c1; omega
    refine lv_iconst (v := -1) hx hb dX8_fieldOf_47 (by decide) ?_
    exact ro_iret (v := (-1)) hx hb hr hH hlocks dX8_fieldOf_48 (by unfold fld; rw [hi, hke, Nat.sub_self]; rfl)
  · -- 7 not
    have hkl : k9 < k := by simp only [i_le, h7, n_ti (show k9 < 2 ^ 31 by omega), n_ti (show k < 2 ^ 31 by omega), Int32.reduceToInt] at c1; omega
    refine lv_aload_n hx hb dX8_fieldOf_10 rfl (lv_at hl 1 rfl) ?_
    refine va_get (D := D) (ci := 8) (v := .ref ((ad 8))) (C := RX8) (T := TX8) (N := 33) hx hb hts iX8 hown hK.1 hP 0 rfl rfl 8 (by decide) (hts _ q_687) (fun _ h9 => h9) rfl dX8_fieldOf_11 ?_
    refine lv_iload_n hx hb dX8_fieldOf_14 rfl (lv_at hl 0 rfl) ?_
    refine zald_n (f := σ 8) hx hb hK.1 hP 6 2 rfl rfl (k9) rfl (by omega) (by decide) dX8_fieldOf_15 ?_
    refine lv_if_ne (tgt := 41) hx hb dX8_fieldOf_16 (by decide) (fun c2 => ?_) (fun c2 => ?_)
    · -- 16 taken
      refine lv_iinc (v := nI (k9 + 1)) (lv' := [(3, .int (nI (k9 + 1))), (0, .ref mo), (1, .int t), (2, .int name)]) hx hb dX8_fieldOf_41 hl (k := 0) rfl (nI_1 _) (by decide) rfl (fun ls hl => ?_)
      refine lv_goto (tgt := 2) hx hb dX8_fieldOf_44 (by decide) ?_
      have hi := hi.trans (fnd_f hkl (fun h9 => absurd h9.1 c2))
      exact ih _ (by omega) ⟨lv_sub hl [0, 1, 2, 3] rfl, hi⟩
    · -- 16 not
      refine lv_aload_n hx hb dX8_fieldOf_19 rfl (lv_at hl 1 rfl) ?_
      refine va_get (D := D) (ci := 8) (v := .ref ((ad 9))) (C := RX8) (T := TX8) (N := 33) hx hb hts iX8 hown hK.1 hP 0 rfl rfl 9 (by decide) (hts _ q_688) (fun _ h9 => h9) rfl dX8_fieldOf_20 ?_
      refine lv_iload_n hx hb dX8_fieldOf_23 rfl (lv_at hl 0 rfl) ?_
      refine iald_n (f := σ 9) hx hb hK.1 hP 7 0 rfl rfl (k9) rfl (by omega) (by decide) dX8_fieldOf_24 ?_
      refine lv_iload_n hx hb dX8_fieldOf_25 rfl (lv_at hl 2 rfl) ?_
      refine lv_icmp_ne (tgt := 41) hx hb dX8_fieldOf_26 (by decide) (fun c3 => ?_) (fun c3 => ?_)
      · -- 26 taken
        refine lv_iinc (v := nI (k9 + 1)) (lv' := [(3, .int (nI (k9 + 1))), (0, .ref mo), (1, .int t), (2, .int name)]) hx hb dX8_fieldOf_41 hl (k := 0) rfl (nI_1 _) (by decide) rfl (fun ls hl => ?_)
        refine lv_goto (tgt := 2) hx hb dX8_fieldOf_44 (by decide) ?_
        have hi := hi.trans (fnd_f hkl (fun h9 => absurd h9.2.1 c3))
        exact ih _ (by omega) ⟨lv_sub hl [0, 1, 2, 3] rfl, hi⟩
      · -- 26 not
        refine lv_aload_n hx hb dX8_fieldOf_29 rfl (lv_at hl 1 rfl) ?_
        refine va_get (D := D) (ci := 8) (v := .ref ((ad 10))) (C := RX8) (T := TX8) (N := 33) hx hb hts iX8 hown hK.1 hP 0 rfl rfl 10 (by decide) (hts _ q_689) (fun _ h9 => h9) rfl dX8_fieldOf_30 ?_
        refine lv_iload_n hx hb dX8_fieldOf_33 rfl (lv_at hl 0 rfl) ?_
        refine iald_n (f := σ 10) hx hb hK.1 hP 8 0 rfl rfl (k9) rfl (by omega) (by decide) dX8_fieldOf_34 ?_
        refine lv_iload_n hx hb dX8_fieldOf_35 rfl (lv_at hl 3 rfl) ?_
        refine lv_icmp_ne (tgt := 41) hx hb dX8_fieldOf_36 (by decide) (fun c4 => ?_) (fun c4 => ?_)
        · -- 36 taken
          refine lv_iinc (v := nI (k9 + 1)) (lv' := [(3, .int (nI (k9 + 1))), (0, .ref mo), (1, .int t), (2, .int name)]) hx hb dX8_fieldOf_41 hl (k := 0) rfl (nI_1 _) (by decide) rfl (fun ls hl => ?_)
          refine lv_goto (tgt := 2) hx hb dX8_fieldOf_44 (by decide) ?_
          have hi := hi.trans (fnd_f hkl (fun h9 => absurd h9.2.2 c4))
          exact ih _ (by omega) ⟨lv_sub hl [0, 1, 2, 3] rfl, hi⟩
        · -- 36 not
          refine lv_iload_n hx hb dX8_fieldOf_39 rfl (lv_at hl 0 rfl) ?_
          exact ro_iret (v := nI k9) hx hb hr hH hlocks dX8_fieldOf_40 (by unfold fld; rw [hi]; exact (fnd_t hkl ⟨c2, c3, c4⟩ rfl).symm)
set_option maxHeartbeats 4000000 in
set_option maxRecDepth 100000 in
theorem m_ruleOfField (l : Launch) (D : va_G) (G : Nat → ClassId) (H : Heap) (mo : Nat) (ad : Nat → Nat) (σ : MS) (τ : Nat → Int64) (hP : va_P D vwCl (mW G mo ad σ τ) H) (k : Nat) (h7 : σ 7 0 = nI k) (hk60 : k ≤ 60) (t : Nat) (ht : t < 12) (name : Int32) (kind : Int32) (mm : Int32) : Met l yX8_ruleOfField (ww yX8_ruleOfField cX8_ruleOfField 5 (some .int)) (rmD 1) (roP D G H [.ref mo, .int (nI t), .int name, .int kind, .int mm]) (vp_Si (fun r => r = aRF σ k t name kind mm)) 0 0 (fun _ => False) := by
  refine Met.ofW (cc := cX8_ruleOfField) (maxL := 5) (ret := (some .int)) (by decide) rfl ?_
  intro p e s m args below meth c s₁ B hml hv
  obtain ⟨rfl, hH, hK⟩ := hv
  have hx := B.exec
  have hb := B.bytes
  have hr := B.returns
  have hts : ∀ w ∈ TT, w.before _ s = true := fun w h => atoms_spec (ws := ww yX8_ruleOfField cX8_ruleOfField 5 (some .int)) B.pre w (List.mem_cons_of_mem _ h)
  have hown : s.vm.findClass RX8 = some m.cls := findClass_of_methodNamed B.named
  have hlocks := B.notSynchronized
  rw [hH]
  have hl := lv_entry ([.ref mo, .int (nI t), .int name, .int kind, .int mm]) (n := 5) (Nat.le_of_ble_eq_true rfl)
  rw [lg_entry_eq]
  generalize (lg_sl ([.ref mo, .int (nI t), .int name, .int kind, .int mm]) ++ List.replicate (5 - (lg_sl ([.ref mo, .int (nI t), .int name, .int kind, .int mm])).length) Slot.unset).toArray = ls at hl ⊢
  have hl : lv_has ls 5 [(0, .ref mo), (1, .int (nI t)), (2, .int name), (3, .int kind), (4, .int mm)] := hl
  refine lv_iload hx hb dX8_ruleOfField_0 (lv_at hl 4 rfl) ?_
  refine lv_bipush (v := 127) hx hb dX8_ruleOfField_2 (by decide) ?_
  refine lv_icmp_le (tgt := 9) hx hb dX8_ruleOfField_4 (by decide) (fun c1 => ?_) (fun c1 => ?_)
  · -- 4 taken
    refine lv_iload hx hb dX8_ruleOfField_9 (lv_at hl 4 rfl) ?_
    refine lv_bipush (v := 7) hx hb dX8_ruleOfField_11 (by decide) ?_
    refine lv_iand hx hb dX8_ruleOfField_13 ?_
    refine ro_Si (D := D) (G := G) (As := [.int (mm &&& 7)]) (rest := []) ⟨hx, hb, hml, hown, hts⟩ (m_bits l D G _ (mm &&& 7)) gS_X8_X8_bits hdS_X8_bits ⟨Nat.le_of_ble_eq_true rfl, Nat.le_of_ble_eq_true rfl⟩ hK rfl hl.1 rfl (Nat.le_of_ble_eq_true rfl) dX8_ruleOfField_14 ⟨Nat.le_of_ble_eq_true rfl, Nat.le_of_ble_eq_true rfl⟩ (fun r2 e_r2 => ?_)
    subst e_r2
    refine lv_iconst (v := 1) hx hb dX8_ruleOfField_17 (by decide) ?_
    refine lv_icmp_le (tgt := 23) hx hb dX8_ruleOfField_18 (by decide) (fun c3 => ?_) (fun c3 => ?_)
    · -- 18 taken
      refine lv_iload hx hb dX8_ruleOfField_23 (lv_at hl 4 rfl) ?_
      refine lv_bipush (v := 16) hx hb dX8_ruleOfField_25 (by decide) ?_
      refine lv_iand hx hb dX8_ruleOfField_27 ?_
      refine lv_if_le (tgt := 41) hx hb dX8_ruleOfField_28 (by decide) (fun c4 => ?_) (fun c4 => ?_)
      · -- 28 taken
        have c4 := and_le (by decide) c4
        refine lv_aload_n hx hb dX8_ruleOfField_41 rfl (lv_at hl 0 rfl) ?_
        refine lv_iload_n hx hb dX8_ruleOfField_42 rfl (lv_at hl 1 rfl) ?_
        refine ro_Vi (D := D) (G := G) (As := [.int (nI t)]) (rest := []) ⟨hx, hb, hml, hown, hts⟩ (m_isFace l D G _ mo ad _ _ hP (t) (by omega)) gV_X8_X8_isFace hdV_X8_isFace ⟨Nat.le_of_ble_eq_true rfl, Nat.le_of_ble_eq_true rfl⟩ hK (va_recv hK.1 hP (ci := 8) (q0 := 0) rfl rfl) rfl hl.1 rfl (Nat.le_of_ble_eq_true rfl) dX8_ruleOfField_43 ⟨Nat.le_of_ble_eq_true rfl, Nat.le_of_ble_eq_true rfl⟩ (fun r5 e_r5 => ?_)
        subst e_r5
        refine lv_if_eq (tgt := 59) hx hb dX8_ruleOfField_46 (by decide) (fun c6 => ?_) (fun c6 => ?_)
        · -- 46 taken
          have c6 := bI_0 c6
          refine lv_iload_n hx hb dX8_ruleOfField_59 rfl (lv_at hl 3 rfl) ?_
          refine lv_if_ne (tgt := 67) hx hb dX8_ruleOfField_60 (by decide) (fun c7 => ?_) (fun c7 => ?_)
          · -- 60 taken
            refine lv_aload_n hx hb dX8_ruleOfField_67 rfl (lv_at hl 0 rfl) ?_
            refine lv_iload_n hx hb dX8_ruleOfField_68 rfl (lv_at hl 1 rfl) ?_
            refine lv_iload_n hx hb dX8_ruleOfField_69 rfl (lv_at hl 2 rfl) ?_
            refine ro_Vi (D := D) (G := G) (As := [.int (nI t), .int name]) (rest := []) ⟨hx, hb, hml, hown, hts⟩ (m_fieldOf l D G _ mo ad _ _ hP k h7 hk60 (nI t) name) gV_X8_X8_fieldOf hdV_X8_fieldOf ⟨Nat.le_of_ble_eq_true rfl, Nat.le_of_ble_eq_true rfl⟩ hK (va_recv hK.1 hP (ci := 8) (q0 := 0) rfl rfl) rfl hl.1 rfl (Nat.le_of_ble_eq_true rfl) dX8_ruleOfField_70 ⟨Nat.le_of_ble_eq_true rfl, Nat.le_of_ble_eq_true rfl⟩ (fun r8 e_r8 => ?_)
            subst e_r8
            refine lv_iconst (v := -1) hx hb dX8_ruleOfField_73 (by decide) ?_
            refine lv_icmp_ne (tgt := 81) hx hb dX8_ruleOfField_74 (by decide) (fun c9 => ?_) (fun c9 => ?_)
            · -- 74 taken
              refine lv_bipush (v := 6) hx hb dX8_ruleOfField_81 (by decide) ?_
              exact ro_iret (v := 6) hx hb hr hH hlocks dX8_ruleOfField_83 (by unfold aRF; simp only [eq_true c1, eq_true c3, eq_true c4, eq_false c6, eq_false c7, eq_false c9, not_true, not_false_iff, not_true_eq_false, not_false_eq_true, true_or, or_true, false_or, or_false, or_self, and_self, true_and, and_true, false_and, and_false, if_true, if_false])
            · -- 74 not
              refine lv_iconst (v := 0) hx hb dX8_ruleOfField_77 (by decide) ?_
              refine lv_goto (tgt := 83) hx hb dX8_ruleOfField_78 (by decide) ?_
              exact ro_iret (v := 0) hx hb hr hH hlocks dX8_ruleOfField_83 (by unfold aRF; simp only [eq_true c1, eq_true c3, eq_true c4, eq_false c6, eq_false c7, eq_true c9, not_true, not_false_iff, not_true_eq_false, not_false_eq_true, true_or, or_true, false_or, or_false, or_self, and_self, true_and, and_true, false_and, and_false, if_true, if_false])
          · -- 60 not
            refine lv_iconst (v := 5) hx hb dX8_ruleOfField_63 (by decide) ?_
            refine lv_goto (tgt := 83) hx hb dX8_ruleOfField_64 (by decide) ?_
            exact ro_iret (v := 5) hx hb hr hH hlocks dX8_ruleOfField_83 (by unfold aRF; simp only [eq_true c1, eq_true c3, eq_true c4, eq_false c6, eq_true c7, not_true, not_false_iff, not_true_eq_false, not_false_eq_true, true_or, or_true, false_or, or_false, or_self, and_self, true_and, and_true, false_and, and_false, if_true, if_false])
        · -- 46 not
          have c6 := bI_1 c6
          refine lv_iload hx hb dX8_ruleOfField_49 (lv_at hl 4 rfl) ?_
          refine lv_bipush (v := -26) hx hb dX8_ruleOfField_51 (by decide) ?_
          refine lv_iand hx hb dX8_ruleOfField_53 ?_
          refine lv_if_le (tgt := 59) hx hb dX8_ruleOfField_54 (by decide) (fun c10 => ?_) (fun c10 => ?_)
          · -- 54 taken
            refine lv_iload_n hx hb dX8_ruleOfField_59 rfl (lv_at hl 3 rfl) ?_
            refine lv_if_ne (tgt := 67) hx hb dX8_ruleOfField_60 (by decide) (fun c11 => ?_) (fun c11 => ?_)
            · -- 60 taken
              refine lv_aload_n hx hb dX8_ruleOfField_67 rfl (lv_at hl 0 rfl) ?_
              refine lv_iload_n hx hb dX8_ruleOfField_68 rfl (lv_at hl 1 rfl) ?_
              refine lv_iload_n hx hb dX8_ruleOfField_69 rfl (lv_at hl 2 rfl) ?_
              refine ro_Vi (D := D) (G := G) (As := [.int (nI t), .int name]) (rest := []) ⟨hx, hb, hml, hown, hts⟩ (m_fieldOf l D G _ mo ad _ _ hP k h7 hk60 (nI t) name) gV_X8_X8_fieldOf hdV_X8_fieldOf ⟨Nat.le_of_ble_eq_true rfl, Nat.le_of_ble_eq_true rfl⟩ hK (va_recv hK.1 hP (ci := 8) (q0 := 0) rfl rfl) rfl hl.1 rfl (Nat.le_of_ble_eq_true rfl) dX8_ruleOfField_70 ⟨Nat.le_of_ble_eq_true rfl, Nat.le_of_ble_eq_true rfl⟩ (fun r12 e_r12 => ?_)
              subst e_r12
              refine lv_iconst (v := -1) hx hb dX8_ruleOfField_73 (by decide) ?_
              refine lv_icmp_ne (tgt := 81) hx hb dX8_ruleOfField_74 (by decide) (fun c13 => ?_) (fun c13 => ?_)
              · -- 74 taken
                refine lv_bipush (v := 6) hx hb dX8_ruleOfField_81 (by decide) ?_
                exact ro_iret (v := 6) hx hb hr hH hlocks dX8_ruleOfField_83 (by unfold aRF; simp only [eq_true c1, eq_true c3, eq_true c4, eq_true c6, eq_true c10, eq_false c11, eq_false c13, not_true, not_false_iff, not_true_eq_false, not_false_eq_true, true_or, or_true, false_or, or_false, or_self, and_self, true_and, and_true, false_and, and_false, if_true, if_false])
              · -- 74 not
                refine lv_iconst (v := 0) hx hb dX8_ruleOfField_77 (by decide) ?_
                refine lv_goto (tgt := 83) hx hb dX8_ruleOfField_78 (by decide) ?_
                exact ro_iret (v := 0) hx hb hr hH hlocks dX8_ruleOfField_83 (by unfold aRF; simp only [eq_true c1, eq_true c3, eq_true c4, eq_true c6, eq_true c10, eq_false c11, eq_true c13, not_true, not_false_iff, not_true_eq_false, not_false_eq_true, true_or, or_true, false_or, or_false, or_self, and_self, true_and, and_true, false_and, and_false, if_true, if_false])
            · -- 60 not
              refine lv_iconst (v := 5) hx hb dX8_ruleOfField_63 (by decide) ?_
              refine lv_goto (tgt := 83) hx hb dX8_ruleOfField_64 (by decide) ?_
              exact ro_iret (v := 5) hx hb hr hH hlocks dX8_ruleOfField_83 (by unfold aRF; simp only [eq_true c1, eq_true c3, eq_true c4, eq_true c6, eq_true c10, eq_true c11, not_true, not_false_iff, not_true_eq_false, not_false_eq_true, true_or, or_true, false_or, or_false, or_self, and_self, true_and, and_true, false_and, and_false, if_true, if_false])
          · -- 54 not
            refine lv_iconst (v := 4) hx hb dX8_ruleOfField_57 (by decide) ?_
            exact ro_iret (v := 4) hx hb hr hH hlocks dX8_ruleOfField_58 (by unfold aRF; simp only [eq_true c1, eq_true c3, eq_true c4, eq_true c6, eq_false c10, not_true, not_false_iff, not_true_eq_false, not_false_eq_true, true_or, or_true, false_or, or_false, or_self, and_self, true_and, and_true, false_and, and_false, if_true, if_false])
      · -- 28 not
        have c4 := and_nle c4
        refine lv_iload hx hb dX8_ruleOfField_31 (lv_at hl 4 rfl) ?_
        refine lv_bipush (v := 32) hx hb dX8_ruleOfField_33 (by decide) ?_
        refine lv_iand hx hb dX8_ruleOfField_35 ?_
        refine lv_if_le (tgt := 41) hx hb dX8_ruleOfField_36 (by decide) (fun c14 => ?_) (fun c14 => ?_)
        · -- 36 taken
          have c14 := and_le (by decide) c14
          refine lv_aload_n hx hb dX8_ruleOfField_41 rfl (lv_at hl 0 rfl) ?_
          refine lv_iload_n hx hb dX8_ruleOfField_42 rfl (lv_at hl 1 rfl) ?_
          refine ro_Vi (D := D) (G := G) (As := [.int (nI t)]) (rest := []) ⟨hx, hb, hml, hown, hts⟩ (m_isFace l D G _ mo ad _ _ hP (t) (by omega)) gV_X8_X8_isFace hdV_X8_isFace ⟨Nat.le_of_ble_eq_true rfl, Nat.le_of_ble_eq_true rfl⟩ hK (va_recv hK.1 hP (ci := 8) (q0 := 0) rfl rfl) rfl hl.1 rfl (Nat.le_of_ble_eq_true rfl) dX8_ruleOfField_43 ⟨Nat.le_of_ble_eq_true rfl, Nat.le_of_ble_eq_true rfl⟩ (fun r15 e_r15 => ?_)
          subst e_r15
          refine lv_if_eq (tgt := 59) hx hb dX8_ruleOfField_46 (by decide) (fun c16 => ?_) (fun c16 => ?_)
          · -- 46 taken
            have c16 := bI_0 c16
            refine lv_iload_n hx hb dX8_ruleOfField_59 rfl (lv_at hl 3 rfl) ?_
            refine lv_if_ne (tgt := 67) hx hb dX8_ruleOfField_60 (by decide) (fun c17 => ?_) (fun c17 => ?_)
            · -- 60 taken
              refine lv_aload_n hx hb dX8_ruleOfField_67 rfl (lv_at hl 0 rfl) ?_
              refine lv_iload_n hx hb dX8_ruleOfField_68 rfl (lv_at hl 1 rfl) ?_
              refine lv_iload_n hx hb dX8_ruleOfField_69 rfl (lv_at hl 2 rfl) ?_
              refine ro_Vi (D := D) (G := G) (As := [.int (nI t), .int name]) (rest := []) ⟨hx, hb, hml, hown, hts⟩ (m_fieldOf l D G _ mo ad _ _ hP k h7 hk60 (nI t) name) gV_X8_X8_fieldOf hdV_X8_fieldOf ⟨Nat.le_of_ble_eq_true rfl, Nat.le_of_ble_eq_true rfl⟩ hK (va_recv hK.1 hP (ci := 8) (q0 := 0) rfl rfl) rfl hl.1 rfl (Nat.le_of_ble_eq_true rfl) dX8_ruleOfField_70 ⟨Nat.le_of_ble_eq_true rfl, Nat.le_of_ble_eq_true rfl⟩ (fun r18 e_r18 => ?_)
              subst e_r18
              refine lv_iconst (v := -1) hx hb dX8_ruleOfField_73 (by decide) ?_
              refine lv_icmp_ne (tgt := 81) hx hb dX8_ruleOfField_74 (by decide) (fun c19 => ?_) (fun c19 => ?_)
              · -- 74 taken
                refine lv_bipush (v := 6) hx hb dX8_ruleOfField_81 (by decide) ?_
                exact ro_iret (v := 6) hx hb hr hH hlocks dX8_ruleOfField_83 (by unfold aRF; simp only [eq_true c1, eq_true c3, eq_false c4, eq_true c14, eq_false c16, eq_false c17, eq_false c19, not_true, not_false_iff, not_true_eq_false, not_false_eq_true, true_or, or_true, false_or, or_false, or_self, and_self, true_and, and_true, false_and, and_false, if_true, if_false])
              · -- 74 not
                refine lv_iconst (v := 0) hx hb dX8_ruleOfField_77 (by decide) ?_
                refine lv_goto (tgt := 83) hx hb dX8_ruleOfField_78 (by decide) ?_
                exact ro_iret (v := 0) hx hb hr hH hlocks dX8_ruleOfField_83 (by unfold aRF; simp only [eq_true c1, eq_true c3, eq_false c4, eq_true c14, eq_false c16, eq_false c17, eq_true c19, not_true, not_false_iff, not_true_eq_false, not_false_eq_true, true_or, or_true, false_or, or_false, or_self, and_self, true_and, and_true, false_and, and_false, if_true, if_false])
            · -- 60 not
              refine lv_iconst (v := 5) hx hb dX8_ruleOfField_63 (by decide) ?_
              refine lv_goto (tgt := 83) hx hb dX8_ruleOfField_64 (by decide) ?_
              exact ro_iret (v := 5) hx hb hr hH hlocks dX8_ruleOfField_83 (by unfold aRF; simp only [eq_true c1, eq_true c3, eq_false c4, eq_true c14, eq_false c16, eq_true c17, not_true, not_false_iff, not_true_eq_false, not_false_eq_true, true_or, or_true, false_or, or_false, or_self, and_self, true_and, and_true, false_and, and_false, if_true, if_false])
          · -- 46 not
            have c16 := bI_1 c16
            refine lv_iload hx hb dX8_ruleOfField_49 (lv_at hl 4 rfl) ?_
            refine lv_bipush (v := -26) hx hb dX8_ruleOfField_51 (by decide) ?_
            refine lv_iand hx hb dX8_ruleOfField_53 ?_
            refine lv_if_le (tgt := 59) hx hb dX8_ruleOfField_54 (by decide) (fun c20 => ?_) (fun c20 => ?_)
            · -- 54 taken
              refine lv_iload_n hx hb dX8_ruleOfField_59 rfl (lv_at hl 3 rfl) ?_
              refine lv_if_ne (tgt := 67) hx hb dX8_ruleOfField_60 (by decide) (fun c21 => ?_) (fun c21 => ?_)
              · -- 60 taken
                refine lv_aload_n hx hb dX8_ruleOfField_67 rfl (lv_at hl 0 rfl) ?_
                refine lv_iload_n hx hb dX8_ruleOfField_68 rfl (lv_at hl 1 rfl) ?_
                refine lv_iload_n hx hb dX8_ruleOfField_69 rfl (lv_at hl 2 rfl) ?_
                refine ro_Vi (D := D) (G := G) (As := [.int (nI t), .int name]) (rest := []) ⟨hx, hb, hml, hown, hts⟩ (m_fieldOf l D G _ mo ad _ _ hP k h7 hk60 (nI t) name) gV_X8_X8_fieldOf hdV_X8_fieldOf ⟨Nat.le_of_ble_eq_true rfl, Nat.le_of_ble_eq_true rfl⟩ hK (va_recv hK.1 hP (ci := 8) (q0 := 0) rfl rfl) rfl hl.1 rfl (Nat.le_of_ble_eq_true rfl) dX8_ruleOfField_70 ⟨Nat.le_of_ble_eq_true rfl, Nat.le_of_ble_eq_true rfl⟩ (fun r22 e_r22 => ?_)
                subst e_r22
                refine lv_iconst (v := -1) hx hb dX8_ruleOfField_73 (by decide) ?_
                refine lv_icmp_ne (tgt := 81) hx hb dX8_ruleOfField_74 (by decide) (fun c23 => ?_) (fun c23 => ?_)
                · -- 74 taken
                  refine lv_bipush (v := 6) hx hb dX8_ruleOfField_81 (by decide) ?_
                  exact ro_iret (v := 6) hx hb hr hH hlocks dX8_ruleOfField_83 (by unfold aRF; simp only [eq_true c1, eq_true c3, eq_false c4, eq_true c14, eq_true c16, eq_true c20, eq_false c21, eq_false c23, not_true, not_false_iff, not_true_eq_false, not_false_eq_true, true_or, or_true, false_or, or_false, or_self, and_self, true_and, and_true, false_and, and_false, if_true, if_false])
                · -- 74 not
                  refine lv_iconst (v := 0) hx hb dX8_ruleOfField_77 (by decide) ?_
                  refine lv_goto (tgt := 83) hx hb dX8_ruleOfField_78 (by decide) ?_
                  exact ro_iret (v := 0) hx hb hr hH hlocks dX8_ruleOfField_83 (by unfold aRF; simp only [eq_true c1, eq_true c3, eq_false c4, eq_true c14, eq_true c16, eq_true c20, eq_false c21, eq_true c23, not_true, not_false_iff, not_true_eq_false, not_false_eq_true, true_or, or_true, false_or, or_false, or_self, and_self, true_and, and_true, false_and, and_false, if_true, if_false])
              · -- 60 not
                refine lv_iconst (v := 5) hx hb dX8_ruleOfField_63 (by decide) ?_
                refine lv_goto (tgt := 83) hx hb dX8_ruleOfField_64 (by decide) ?_
                exact ro_iret (v := 5) hx hb hr hH hlocks dX8_ruleOfField_83 (by unfold aRF; simp only [eq_true c1, eq_true c3, eq_false c4, eq_true c14, eq_true c16, eq_true c20, eq_true c21, not_true, not_false_iff, not_true_eq_false, not_false_eq_true, true_or, or_true, false_or, or_false, or_self, and_self, true_and, and_true, false_and, and_false, if_true, if_false])
            · -- 54 not
              refine lv_iconst (v := 4) hx hb dX8_ruleOfField_57 (by decide) ?_
              exact ro_iret (v := 4) hx hb hr hH hlocks dX8_ruleOfField_58 (by unfold aRF; simp only [eq_true c1, eq_true c3, eq_false c4, eq_true c14, eq_true c16, eq_false c20, not_true, not_false_iff, not_true_eq_false, not_false_eq_true, true_or, or_true, false_or, or_false, or_self, and_self, true_and, and_true, false_and, and_false, if_true, if_false])
        · -- 36 not
          have c14 := and_nle c14
          refine lv_iconst (v := 3) hx hb dX8_ruleOfField_39 (by decide) ?_
          exact ro_iret (v := 3) hx hb hr hH hlocks dX8_ruleOfField_40 (by unfold aRF; simp only [eq_true c1, eq_true c3, eq_false c4, eq_false c14, not_true, not_false_iff, not_true_eq_false, not_false_eq_true, true_or, or_true, false_or, or_false, or_self, and_self, true_and, and_true, false_and, and_false, if_true, if_false])
    · -- 18 not
      refine lv_iconst (v := 2) hx hb dX8_ruleOfField_21 (by decide) ?_
      exact ro_iret (v := 2) hx hb hr hH hlocks dX8_ruleOfField_22 (by unfold aRF; simp only [eq_true c1, eq_false c3, not_true, not_false_iff, not_true_eq_false, not_false_eq_true, true_or, or_true, false_or, or_false, or_self, and_self, true_and, and_true, false_and, and_false, if_true, if_false])
  · -- 4 not
    refine lv_iconst (v := 1) hx hb dX8_ruleOfField_7 (by decide) ?_
    exact ro_iret (v := 1) hx hb hr hH hlocks dX8_ruleOfField_8 (by unfold aRF; simp only [eq_false c1, not_true, not_false_iff, not_true_eq_false, not_false_eq_true, true_or, or_true, false_or, or_false, or_self, and_self, true_and, and_true, false_and, and_false, if_true, if_false])
set_option maxHeartbeats 4000000 in
set_option maxRecDepth 100000 in
theorem m_isEntry (l : Launch) (D : va_G) (G : Nat → ClassId) (H : Heap) (mo : Nat) (ad : Nat → Nat) (σ : MS) (τ : Nat → Int64) (hP : va_P D vwCl (mW G mo ad σ τ) H) (k : Nat) (h7 : σ 7 0 = nI k) (hk60 : k ≤ 60) (en : Int32) : Met l yX8_isEntry (ww yX8_isEntry cX8_isEntry 2 (some .boolean)) (rmD 1) (roP D G H [.ref mo, .int en]) (vp_Si (fun r => r = bI (okN k en))) 0 0 (fun _ => False) := by
  refine Met.ofW (cc := cX8_isEntry) (maxL := 2) (ret := (some .boolean)) (by decide) rfl ?_
  intro p e s m args below meth c s₁ B hml hv
  obtain ⟨rfl, hH, hK⟩ := hv
  have hx := B.exec
  have hb := B.bytes
  have hr := B.returns
  have hts : ∀ w ∈ TT, w.before _ s = true := fun w h => atoms_spec (ws := ww yX8_isEntry cX8_isEntry 2 (some .boolean)) B.pre w (List.mem_cons_of_mem _ h)
  have hown : s.vm.findClass RX8 = some m.cls := findClass_of_methodNamed B.named
  have hlocks := B.notSynchronized
  rw [hH]
  have hl := lv_entry ([.ref mo, .int en]) (n := 2) (Nat.le_of_ble_eq_true rfl)
  rw [lg_entry_eq]
  generalize (lg_sl ([.ref mo, .int en]) ++ List.replicate (2 - (lg_sl ([.ref mo, .int en])).length) Slot.unset).toArray = ls at hl ⊢
  have hl : lv_has ls 2 [(0, .ref mo), (1, .int en)] := hl
  refine lv_iload_n hx hb dX8_isEntry_0 rfl (lv_at hl 1 rfl) ?_
  refine lv_iconst (v := 0) hx hb dX8_isEntry_1 (by decide) ?_
  refine lv_aload_n hx hb dX8_isEntry_2 rfl (lv_at hl 0 rfl) ?_
  refine va_get (D := D) (ci := 8) (v := .int (σ 7 0)) (C := RX8) (T := TX8) (N := 33) hx hb hts iX8 hown hK.1 hP 0 rfl rfl 7 (by decide) (hts _ q_686) (fun _ h9 => h9) rfl dX8_isEntry_3 ?_
  refine lv_iconst (v := 1) hx hb dX8_isEntry_6 (by decide) ?_
  refine lv_isub hx hb dX8_isEntry_7 ?_
  refine ro_Si (D := D) (G := G) (As := [.int en, .int 0, .int ((σ 7 0) - 1)]) (rest := []) ⟨hx, hb, hml, hown, hts⟩ (m_in l D G _ en 0 ((σ 7 0) - 1)) gS_X8_X8_in hdS_X8_in ⟨Nat.le_of_ble_eq_true rfl, Nat.le_of_ble_eq_true rfl⟩ hK rfl hl.1 rfl (Nat.le_of_ble_eq_true rfl) dX8_isEntry_8 ⟨Nat.le_of_ble_eq_true rfl, Nat.le_of_ble_eq_true rfl⟩ (fun r1 e_r1 => ?_)
  subst e_r1
  exact ro_zret (v := bI (0 ≤ en ∧ en ≤ (σ 7 0) - 1)) hx hb hr hH hlocks dX8_isEntry_11 bI_b (by rw [h7]; exact bI_c (okN_iff (by omega)))
