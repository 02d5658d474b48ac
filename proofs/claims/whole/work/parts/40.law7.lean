theorem dL_law_662 : decode cL_law 662 = .ok (.aload_n 1, 1) := by decide +kernel
theorem dL_law_663 : decode cL_law 663 = .ok (.aload_n 0, 1) := by decide +kernel
theorem dL_law_664 : decode cL_law 664 = .ok (.iload 4, 2) := by decide +kernel
theorem dL_law_666 : decode cL_law 666 = .ok (.iconst 1, 1) := by decide +kernel
theorem dL_law_667 : decode cL_law 667 = .ok (.iadd, 1) := by decide +kernel
theorem dL_law_668 : decode cL_law 668 = .ok (.iaload, 1) := by decide +kernel
theorem dL_law_669 : decode cL_law 669 = .ok (.aload_n 0, 1) := by decide +kernel
theorem dL_law_670 : decode cL_law 670 = .ok (.iload 4, 2) := by decide +kernel
theorem dL_law_672 : decode cL_law 672 = .ok (.iconst 2, 1) := by decide +kernel
theorem dL_law_673 : decode cL_law 673 = .ok (.iadd, 1) := by decide +kernel
theorem dL_law_674 : decode cL_law 674 = .ok (.iaload, 1) := by decide +kernel
theorem q_414 : Cond.methodLink "FieldMemberLaw" 77 ⟨"FieldMember", "shape", "(II)I"⟩ ∈ TT := tt_t (i := 414) (by decide +kernel) (by decide +kernel)
theorem q_417 : Cond.code ⟨"FieldMember", "shape", "(II)I"⟩ prog_1_method_12_code 5 (some .int) ∈ TT := tt_t (i := 417) (by decide +kernel) (by decide +kernel)
theorem q_415 : Cond.instanceMethod ⟨"FieldMember", "shape", "(II)I"⟩ ∈ TT := tt_t (i := 415) (by decide +kernel) (by decide +kernel)
theorem q_416 : Cond.selects "FieldMember" ⟨"FieldMember", "shape", "(II)I"⟩ ⟨"FieldMember", "shape", "(II)I"⟩ ∈ TT := tt_t (i := 416) (by decide +kernel) (by decide +kernel)
theorem gV_L_X7_shape : GoodIn TT (wsV RL 77 RX7 yX7_shape (ww yX7_shape cX7_shape 5 (some .int))) := tt_V q_414 q_415 q_416 q_1 q_417
theorem hdV_X7_shape : yX7_shape.cls = RX7 ∧ yX7_shape.cls ≠ "java/lang/invoke/MethodHandle" ∧ yX7_shape.cls ≠ "java/lang/invoke/VarHandle" ∧ (parseMethodDescriptor yX7_shape.desc).map (fun d => d.parameters.length) = some 2 := by decide +kernel
theorem dL_law_675 : decode cL_law 675 = .ok (.invokevirtual 77, 3) := by decide +kernel
theorem dL_law_678 : decode cL_law 678 = .ok (.aload_n 2, 1) := by decide +kernel
theorem dL_law_679 : decode cL_law 679 = .ok (.aload_n 0, 1) := by decide +kernel
theorem dL_law_680 : decode cL_law 680 = .ok (.iload 4, 2) := by decide +kernel
theorem dL_law_682 : decode cL_law 682 = .ok (.iconst 1, 1) := by decide +kernel
theorem dL_law_683 : decode cL_law 683 = .ok (.iadd, 1) := by decide +kernel
theorem dL_law_684 : decode cL_law 684 = .ok (.iaload, 1) := by decide +kernel
theorem dL_law_685 : decode cL_law 685 = .ok (.aload_n 0, 1) := by decide +kernel
theorem dL_law_686 : decode cL_law 686 = .ok (.iload 4, 2) := by decide +kernel
theorem dL_law_688 : decode cL_law 688 = .ok (.iconst 2, 1) := by decide +kernel
theorem dL_law_689 : decode cL_law 689 = .ok (.iadd, 1) := by decide +kernel
theorem dL_law_690 : decode cL_law 690 = .ok (.iaload, 1) := by decide +kernel
theorem q_926 : Cond.methodLink "FieldMemberLaw" 80 ⟨"FieldMemberModel", "shape", "(II)I"⟩ ∈ TT := tt_t (i := 926) (by decide +kernel) (by decide +kernel)
theorem q_929 : Cond.code ⟨"FieldMemberModel", "shape", "(II)I"⟩ prog_10_method_34_code 3 (some .int) ∈ TT := tt_t (i := 929) (by decide +kernel) (by decide +kernel)
theorem q_927 : Cond.instanceMethod ⟨"FieldMemberModel", "shape", "(II)I"⟩ ∈ TT := tt_t (i := 927) (by decide +kernel) (by decide +kernel)
theorem q_928 : Cond.selects "FieldMemberModel" ⟨"FieldMemberModel", "shape", "(II)I"⟩ ⟨"FieldMemberModel", "shape", "(II)I"⟩ ∈ TT := tt_t (i := 928) (by decide +kernel) (by decide +kernel)
theorem gV_L_X8_shape : GoodIn TT (wsV RL 80 RX8 yX8_shape (ww yX8_shape cX8_shape 3 (some .int))) := tt_V q_926 q_927 q_928 q_4 q_929
theorem hdV_X8_shape : yX8_shape.cls = RX8 ∧ yX8_shape.cls ≠ "java/lang/invoke/MethodHandle" ∧ yX8_shape.cls ≠ "java/lang/invoke/VarHandle" ∧ (parseMethodDescriptor yX8_shape.desc).map (fun d => d.parameters.length) = some 2 := by decide +kernel
theorem dL_law_691 : decode cL_law 691 = .ok (.invokevirtual 80, 3) := by decide +kernel
theorem dL_law_694 : decode cL_law 694 = .ok (.if_icmp .eq 325, 3) := by decide +kernel
theorem dL_law_699 : decode cL_law 699 = .ok (.aload_n 1, 1) := by decide +kernel
theorem dL_law_700 : decode cL_law 700 = .ok (.aload_n 0, 1) := by decide +kernel
theorem dL_law_701 : decode cL_law 701 = .ok (.iload 4, 2) := by decide +kernel
theorem dL_law_703 : decode cL_law 703 = .ok (.iconst 1, 1) := by decide +kernel
theorem dL_law_704 : decode cL_law 704 = .ok (.iadd, 1) := by decide +kernel
theorem dL_law_705 : decode cL_law 705 = .ok (.iaload, 1) := by decide +kernel
theorem dL_law_706 : decode cL_law 706 = .ok (.aload_n 0, 1) := by decide +kernel
theorem dL_law_707 : decode cL_law 707 = .ok (.iload 4, 2) := by decide +kernel
theorem dL_law_709 : decode cL_law 709 = .ok (.iconst 2, 1) := by decide +kernel
theorem dL_law_710 : decode cL_law 710 = .ok (.iadd, 1) := by decide +kernel
theorem dL_law_711 : decode cL_law 711 = .ok (.iaload, 1) := by decide +kernel
theorem dL_law_712 : decode cL_law 712 = .ok (.aload_n 0, 1) := by decide +kernel
theorem dL_law_713 : decode cL_law 713 = .ok (.iload 4, 2) := by decide +kernel
theorem dL_law_715 : decode cL_law 715 = .ok (.iconst 3, 1) := by decide +kernel
theorem dL_law_716 : decode cL_law 716 = .ok (.iadd, 1) := by decide +kernel
theorem dL_law_717 : decode cL_law 717 = .ok (.iaload, 1) := by decide +kernel
theorem dL_law_718 : decode cL_law 718 = .ok (.ifCond .eq 7, 3) := by decide +kernel
theorem dL_law_725 : decode cL_law 725 = .ok (.iconst 0, 1) := by decide +kernel
theorem dL_law_726 : decode cL_law 726 = .ok (.aload_n 3, 1) := by decide +kernel
theorem q_664 : Cond.methodLink "FieldMemberLaw" 81 ⟨"FieldMemberLaw", "parameterOf", "(LFieldMember;IIZ[J)I"⟩ ∈ TT := tt_t (i := 664) (by decide +kernel) (by decide +kernel)
theorem q_665 : Cond.static ⟨"FieldMemberLaw", "parameterOf", "(LFieldMember;IIZ[J)I"⟩ ∈ TT := tt_t (i := 665) (by decide +kernel) (by decide +kernel)
theorem q_666 : Cond.codeWith ⟨"FieldMemberLaw", "parameterOf", "(LFieldMember;IIZ[J)I"⟩ method_4_code 6 (some .int) [(0, 12, 15, 13), (0, 12, 19, 15)] ∈ TT := tt_t (i := 666) (by decide +kernel) (by decide +kernel)
theorem dL_law_727 : decode cL_law 727 = .ok (.invokestatic 81, 3) := by decide +kernel
theorem dL_law_730 : decode cL_law 730 = .ok (.istore 5, 2) := by decide +kernel
theorem dL_law_732 : decode cL_law 732 = .ok (.aload_n 2, 1) := by decide +kernel
theorem dL_law_733 : decode cL_law 733 = .ok (.aload_n 0, 1) := by decide +kernel
theorem dL_law_734 : decode cL_law 734 = .ok (.iload 4, 2) := by decide +kernel
theorem dL_law_736 : decode cL_law 736 = .ok (.iconst 1, 1) := by decide +kernel
theorem dL_law_737 : decode cL_law 737 = .ok (.iadd, 1) := by decide +kernel
theorem dL_law_738 : decode cL_law 738 = .ok (.iaload, 1) := by decide +kernel
theorem dL_law_739 : decode cL_law 739 = .ok (.aload_n 0, 1) := by decide +kernel
theorem dL_law_740 : decode cL_law 740 = .ok (.iload 4, 2) := by decide +kernel
theorem dL_law_742 : decode cL_law 742 = .ok (.iconst 2, 1) := by decide +kernel
theorem dL_law_743 : decode cL_law 743 = .ok (.iadd, 1) := by decide +kernel
theorem dL_law_744 : decode cL_law 744 = .ok (.iaload, 1) := by decide +kernel
theorem dL_law_745 : decode cL_law 745 = .ok (.aload_n 0, 1) := by decide +kernel
theorem dL_law_746 : decode cL_law 746 = .ok (.iload 4, 2) := by decide +kernel
theorem dL_law_748 : decode cL_law 748 = .ok (.iconst 3, 1) := by decide +kernel
theorem dL_law_749 : decode cL_law 749 = .ok (.iadd, 1) := by decide +kernel
theorem dL_law_750 : decode cL_law 750 = .ok (.iaload, 1) := by decide +kernel
theorem dL_law_751 : decode cL_law 751 = .ok (.ifCond .eq 7, 3) := by decide +kernel
theorem dL_law_758 : decode cL_law 758 = .ok (.iconst 0, 1) := by decide +kernel
theorem q_930 : Cond.methodLink "FieldMemberLaw" 84 ⟨"FieldMemberModel", "parameterOf", "(IIZ)I"⟩ ∈ TT := tt_t (i := 930) (by decide +kernel) (by decide +kernel)
theorem q_933 : Cond.code ⟨"FieldMemberModel", "parameterOf", "(IIZ)I"⟩ prog_10_method_35_code 4 (some .int) ∈ TT := tt_t (i := 933) (by decide +kernel) (by decide +kernel)
theorem q_931 : Cond.instanceMethod ⟨"FieldMemberModel", "parameterOf", "(IIZ)I"⟩ ∈ TT := tt_t (i := 931) (by decide +kernel) (by decide +kernel)
theorem q_932 : Cond.selects "FieldMemberModel" ⟨"FieldMemberModel", "parameterOf", "(IIZ)I"⟩ ⟨"FieldMemberModel", "parameterOf", "(IIZ)I"⟩ ∈ TT := tt_t (i := 932) (by decide +kernel) (by decide +kernel)
theorem gV_L_X8_parameterOf : GoodIn TT (wsV RL 84 RX8 yX8_parameterOf (ww yX8_parameterOf cX8_parameterOf 4 (some .int))) := tt_V q_930 q_931 q_932 q_4 q_933
theorem hdV_X8_parameterOf : yX8_parameterOf.cls = RX8 ∧ yX8_parameterOf.cls ≠ "java/lang/invoke/MethodHandle" ∧ yX8_parameterOf.cls ≠ "java/lang/invoke/VarHandle" ∧ (parseMethodDescriptor yX8_parameterOf.desc).map (fun d => d.parameters.length) = some 3 := by decide +kernel
theorem dL_law_759 : decode cL_law 759 = .ok (.invokevirtual 84, 3) := by decide +kernel
theorem dL_law_762 : decode cL_law 762 = .ok (.istore 6, 2) := by decide +kernel
theorem dL_law_764 : decode cL_law 764 = .ok (.aload_n 2, 1) := by decide +kernel
theorem dL_law_765 : decode cL_law 765 = .ok (.invokevirtual 56, 3) := by decide +kernel
theorem dL_law_768 : decode cL_law 768 = .ok (.iload 5, 2) := by decide +kernel
theorem dL_law_770 : decode cL_law 770 = .ok (.if_icmp .eq 5, 3) := by decide +kernel
theorem dL_law_775 : decode cL_law 775 = .ok (.iload 5, 2) := by decide +kernel
theorem dL_law_777 : decode cL_law 777 = .ok (.ifCond .ne 15, 3) := by decide +kernel
theorem dL_law_792 : decode cL_law 792 = .ok (.goto 227, 3) := by decide +kernel
theorem dL_law_780 : decode cL_law 780 = .ok (.aload_n 3, 1) := by decide +kernel
theorem dL_law_781 : decode cL_law 781 = .ok (.iconst 0, 1) := by decide +kernel
theorem dL_law_782 : decode cL_law 782 = .ok (.laload, 1) := by decide +kernel
theorem dL_law_783 : decode cL_law 783 = .ok (.iload 6, 2) := by decide +kernel
theorem dL_law_785 : decode cL_law 785 = .ok (.i2l, 1) := by decide +kernel
theorem dL_law_786 : decode cL_law 786 = .ok (.lcmp, 1) := by decide +kernel
theorem dL_law_787 : decode cL_law 787 = .ok (.ifCond .eq 5, 3) := by decide +kernel
theorem dL_law_721 : decode cL_law 721 = .ok (.iconst 1, 1) := by decide +kernel
theorem dL_law_722 : decode cL_law 722 = .ok (.goto 4, 3) := by decide +kernel
theorem dL_law_754 : decode cL_law 754 = .ok (.iconst 1, 1) := by decide +kernel
theorem dL_law_755 : decode cL_law 755 = .ok (.goto 4, 3) := by decide +kernel
theorem dL_law_795 : decode cL_law 795 = .ok (.aload_n 1, 1) := by decide +kernel
theorem dL_law_796 : decode cL_law 796 = .ok (.aload_n 0, 1) := by decide +kernel
theorem dL_law_797 : decode cL_law 797 = .ok (.iload 4, 2) := by decide +kernel
theorem dL_law_799 : decode cL_law 799 = .ok (.iconst 1, 1) := by decide +kernel
theorem dL_law_800 : decode cL_law 800 = .ok (.iadd, 1) := by decide +kernel
theorem dL_law_801 : decode cL_law 801 = .ok (.iaload, 1) := by decide +kernel
theorem dL_law_802 : decode cL_law 802 = .ok (.aload_n 0, 1) := by decide +kernel
theorem dL_law_803 : decode cL_law 803 = .ok (.iload 4, 2) := by decide +kernel
theorem dL_law_805 : decode cL_law 805 = .ok (.iconst 2, 1) := by decide +kernel
theorem dL_law_806 : decode cL_law 806 = .ok (.iadd, 1) := by decide +kernel
theorem dL_law_807 : decode cL_law 807 = .ok (.iaload, 1) := by decide +kernel
theorem q_418 : Cond.methodLink "FieldMemberLaw" 85 ⟨"FieldMember", "sought", "(II)I"⟩ ∈ TT := tt_t (i := 418) (by decide +kernel) (by decide +kernel)
theorem q_421 : Cond.code ⟨"FieldMember", "sought", "(II)I"⟩ prog_1_method_14_code 4 (some .int) ∈ TT := tt_t (i := 421) (by decide +kernel) (by decide +kernel)
theorem q_419 : Cond.instanceMethod ⟨"FieldMember", "sought", "(II)I"⟩ ∈ TT := tt_t (i := 419) (by decide +kernel) (by decide +kernel)
theorem q_420 : Cond.selects "FieldMember" ⟨"FieldMember", "sought", "(II)I"⟩ ⟨"FieldMember", "sought", "(II)I"⟩ ∈ TT := tt_t (i := 420) (by decide +kernel) (by decide +kernel)
theorem gV_L_X7_sought : GoodIn TT (wsV RL 85 RX7 yX7_sought (ww yX7_sought cX7_sought 4 (some .int))) := tt_V q_418 q_419 q_420 q_1 q_421
theorem hdV_X7_sought : yX7_sought.cls = RX7 ∧ yX7_sought.cls ≠ "java/lang/invoke/MethodHandle" ∧ yX7_sought.cls ≠ "java/lang/invoke/VarHandle" ∧ (parseMethodDescriptor yX7_sought.desc).map (fun d => d.parameters.length) = some 2 := by decide +kernel
theorem dL_law_808 : decode cL_law 808 = .ok (.invokevirtual 85, 3) := by decide +kernel
theorem dL_law_811 : decode cL_law 811 = .ok (.aload_n 2, 1) := by decide +kernel
theorem dL_law_812 : decode cL_law 812 = .ok (.aload_n 0, 1) := by decide +kernel
theorem dL_law_813 : decode cL_law 813 = .ok (.iload 4, 2) := by decide +kernel
theorem dL_law_815 : decode cL_law 815 = .ok (.iconst 1, 1) := by decide +kernel
theorem dL_law_816 : decode cL_law 816 = .ok (.iadd, 1) := by decide +kernel
theorem dL_law_817 : decode cL_law 817 = .ok (.iaload, 1) := by decide +kernel
theorem dL_law_818 : decode cL_law 818 = .ok (.aload_n 0, 1) := by decide +kernel
theorem dL_law_819 : decode cL_law 819 = .ok (.iload 4, 2) := by decide +kernel
theorem dL_law_821 : decode cL_law 821 = .ok (.iconst 2, 1) := by decide +kernel
theorem dL_law_822 : decode cL_law 822 = .ok (.iadd, 1) := by decide +kernel
theorem dL_law_823 : decode cL_law 823 = .ok (.iaload, 1) := by decide +kernel
theorem q_934 : Cond.methodLink "FieldMemberLaw" 88 ⟨"FieldMemberModel", "sought", "(II)I"⟩ ∈ TT := tt_t (i := 934) (by decide +kernel) (by decide +kernel)
theorem q_937 : Cond.code ⟨"FieldMemberModel", "sought", "(II)I"⟩ prog_10_method_37_code 6 (some .int) ∈ TT := tt_t (i := 937) (by decide +kernel) (by decide +kernel)
theorem q_935 : Cond.instanceMethod ⟨"FieldMemberModel", "sought", "(II)I"⟩ ∈ TT := tt_t (i := 935) (by decide +kernel) (by decide +kernel)
theorem q_936 : Cond.selects "FieldMemberModel" ⟨"FieldMemberModel", "sought", "(II)I"⟩ ⟨"FieldMemberModel", "sought", "(II)I"⟩ ∈ TT := tt_t (i := 936) (by decide +kernel) (by decide +kernel)
theorem gV_L_X8_sought : GoodIn TT (wsV RL 88 RX8 yX8_sought (ww yX8_sought cX8_sought 6 (some .int))) := tt_V q_934 q_935 q_936 q_4 q_937
theorem hdV_X8_sought : yX8_sought.cls = RX8 ∧ yX8_sought.cls ≠ "java/lang/invoke/MethodHandle" ∧ yX8_sought.cls ≠ "java/lang/invoke/VarHandle" ∧ (parseMethodDescriptor yX8_sought.desc).map (fun d => d.parameters.length) = some 2 := by decide +kernel
theorem dL_law_824 : decode cL_law 824 = .ok (.invokevirtual 88, 3) := by decide +kernel
theorem dL_law_827 : decode cL_law 827 = .ok (.if_icmp .eq 192, 3) := by decide +kernel
theorem dL_law_832 : decode cL_law 832 = .ok (.aload_n 1, 1) := by decide +kernel
theorem dL_law_833 : decode cL_law 833 = .ok (.aload_n 0, 1) := by decide +kernel
theorem dL_law_834 : decode cL_law 834 = .ok (.iload 4, 2) := by decide +kernel
theorem dL_law_836 : decode cL_law 836 = .ok (.iconst 1, 1) := by decide +kernel
theorem dL_law_837 : decode cL_law 837 = .ok (.iadd, 1) := by decide +kernel
theorem dL_law_838 : decode cL_law 838 = .ok (.iaload, 1) := by decide +kernel
theorem dL_law_839 : decode cL_law 839 = .ok (.aload_n 0, 1) := by decide +kernel
theorem dL_law_840 : decode cL_law 840 = .ok (.iload 4, 2) := by decide +kernel
theorem dL_law_842 : decode cL_law 842 = .ok (.iconst 2, 1) := by decide +kernel
theorem dL_law_843 : decode cL_law 843 = .ok (.iadd, 1) := by decide +kernel
theorem dL_law_844 : decode cL_law 844 = .ok (.iaload, 1) := by decide +kernel
theorem q_435 : Cond.methodLink "FieldMemberLaw" 89 ⟨"FieldMember", "argument", "(II)I"⟩ ∈ TT := tt_t (i := 435) (by decide +kernel) (by decide +kernel)
theorem q_438 : Cond.code ⟨"FieldMember", "argument", "(II)I"⟩ prog_1_method_15_code 3 (some .int) ∈ TT := tt_t (i := 438) (by decide +kernel) (by decide +kernel)
theorem q_436 : Cond.instanceMethod ⟨"FieldMember", "argument", "(II)I"⟩ ∈ TT := tt_t (i := 436) (by decide +kernel) (by decide +kernel)
theorem q_437 : Cond.selects "FieldMember" ⟨"FieldMember", "argument", "(II)I"⟩ ⟨"FieldMember", "argument", "(II)I"⟩ ∈ TT := tt_t (i := 437) (by decide +kernel) (by decide +kernel)
theorem gV_L_X7_argument : GoodIn TT (wsV RL 89 RX7 yX7_argument (ww yX7_argument cX7_argument 3 (some .int))) := tt_V q_435 q_436 q_437 q_1 q_438
theorem hdV_X7_argument : yX7_argument.cls = RX7 ∧ yX7_argument.cls ≠ "java/lang/invoke/MethodHandle" ∧ yX7_argument.cls ≠ "java/lang/invoke/VarHandle" ∧ (parseMethodDescriptor yX7_argument.desc).map (fun d => d.parameters.length) = some 2 := by decide +kernel
theorem dL_law_845 : decode cL_law 845 = .ok (.invokevirtual 89, 3) := by decide +kernel
theorem dL_law_848 : decode cL_law 848 = .ok (.aload_n 2, 1) := by decide +kernel
theorem dL_law_849 : decode cL_law 849 = .ok (.aload_n 0, 1) := by decide +kernel
theorem dL_law_850 : decode cL_law 850 = .ok (.iload 4, 2) := by decide +kernel
theorem dL_law_852 : decode cL_law 852 = .ok (.iconst 1, 1) := by decide +kernel
theorem dL_law_853 : decode cL_law 853 = .ok (.iadd, 1) := by decide +kernel
theorem dL_law_854 : decode cL_law 854 = .ok (.iaload, 1) := by decide +kernel
theorem dL_law_855 : decode cL_law 855 = .ok (.aload_n 0, 1) := by decide +kernel
theorem dL_law_856 : decode cL_law 856 = .ok (.iload 4, 2) := by decide +kernel
theorem dL_law_858 : decode cL_law 858 = .ok (.iconst 2, 1) := by decide +kernel
theorem dL_law_859 : decode cL_law 859 = .ok (.iadd, 1) := by decide +kernel
theorem dL_law_860 : decode cL_law 860 = .ok (.iaload, 1) := by decide +kernel
theorem q_941 : Cond.methodLink "FieldMemberLaw" 92 ⟨"FieldMemberModel", "argument", "(II)I"⟩ ∈ TT := tt_t (i := 941) (by decide +kernel) (by decide +kernel)
theorem q_944 : Cond.code ⟨"FieldMemberModel", "argument", "(II)I"⟩ prog_10_method_38_code 3 (some .int) ∈ TT := tt_t (i := 944) (by decide +kernel) (by decide +kernel)
theorem q_942 : Cond.instanceMethod ⟨"FieldMemberModel", "argument", "(II)I"⟩ ∈ TT := tt_t (i := 942) (by decide +kernel) (by decide +kernel)
theorem q_943 : Cond.selects "FieldMemberModel" ⟨"FieldMemberModel", "argument", "(II)I"⟩ ⟨"FieldMemberModel", "argument", "(II)I"⟩ ∈ TT := tt_t (i := 943) (by decide +kernel) (by decide +kernel)
theorem gV_L_X8_argument : GoodIn TT (wsV RL 92 RX8 yX8_argument (ww yX8_argument cX8_argument 3 (some .int))) := tt_V q_941 q_942 q_943 q_4 q_944
theorem hdV_X8_argument : yX8_argument.cls = RX8 ∧ yX8_argument.cls ≠ "java/lang/invoke/MethodHandle" ∧ yX8_argument.cls ≠ "java/lang/invoke/VarHandle" ∧ (parseMethodDescriptor yX8_argument.desc).map (fun d => d.parameters.length) = some 2 := by decide +kernel
theorem dL_law_861 : decode cL_law 861 = .ok (.invokevirtual 92, 3) := by decide +kernel
theorem dL_law_864 : decode cL_law 864 = .ok (.if_icmp .eq 155, 3) := by decide +kernel
theorem dL_law_869 : decode cL_law 869 = .ok (.aload_n 1, 1) := by decide +kernel
theorem dL_law_870 : decode cL_law 870 = .ok (.aload_n 0, 1) := by decide +kernel
theorem dL_law_871 : decode cL_law 871 = .ok (.iload 4, 2) := by decide +kernel
theorem dL_law_873 : decode cL_law 873 = .ok (.iconst 1, 1) := by decide +kernel
theorem dL_law_874 : decode cL_law 874 = .ok (.iadd, 1) := by decide +kernel
theorem dL_law_875 : decode cL_law 875 = .ok (.iaload, 1) := by decide +kernel
theorem dL_law_876 : decode cL_law 876 = .ok (.aload_n 0, 1) := by decide +kernel
theorem dL_law_877 : decode cL_law 877 = .ok (.iload 4, 2) := by decide +kernel
theorem dL_law_879 : decode cL_law 879 = .ok (.iconst 2, 1) := by decide +kernel
theorem dL_law_880 : decode cL_law 880 = .ok (.iadd, 1) := by decide +kernel
theorem dL_law_881 : decode cL_law 881 = .ok (.iaload, 1) := by decide +kernel
theorem q_442 : Cond.methodLink "FieldMemberLaw" 93 ⟨"FieldMember", "call", "(II)I"⟩ ∈ TT := tt_t (i := 442) (by decide +kernel) (by decide +kernel)
theorem q_445 : Cond.code ⟨"FieldMember", "call", "(II)I"⟩ prog_1_method_16_code 6 (some .int) ∈ TT := tt_t (i := 445) (by decide +kernel) (by decide +kernel)
theorem q_443 : Cond.instanceMethod ⟨"FieldMember", "call", "(II)I"⟩ ∈ TT := tt_t (i := 443) (by decide +kernel) (by decide +kernel)
theorem q_444 : Cond.selects "FieldMember" ⟨"FieldMember", "call", "(II)I"⟩ ⟨"FieldMember", "call", "(II)I"⟩ ∈ TT := tt_t (i := 444) (by decide +kernel) (by decide +kernel)
theorem gV_L_X7_call : GoodIn TT (wsV RL 93 RX7 yX7_call (ww yX7_call cX7_call 6 (some .int))) := tt_V q_442 q_443 q_444 q_1 q_445
theorem hdV_X7_call : yX7_call.cls = RX7 ∧ yX7_call.cls ≠ "java/lang/invoke/MethodHandle" ∧ yX7_call.cls ≠ "java/lang/invoke/VarHandle" ∧ (parseMethodDescriptor yX7_call.desc).map (fun d => d.parameters.length) = some 2 := by decide +kernel
theorem dL_law_882 : decode cL_law 882 = .ok (.invokevirtual 93, 3) := by decide +kernel
theorem dL_law_885 : decode cL_law 885 = .ok (.aload_n 2, 1) := by decide +kernel
theorem dL_law_886 : decode cL_law 886 = .ok (.aload_n 0, 1) := by decide +kernel
theorem dL_law_887 : decode cL_law 887 = .ok (.iload 4, 2) := by decide +kernel
theorem dL_law_889 : decode cL_law 889 = .ok (.iconst 1, 1) := by decide +kernel
theorem dL_law_890 : decode cL_law 890 = .ok (.iadd, 1) := by decide +kernel
theorem dL_law_891 : decode cL_law 891 = .ok (.iaload, 1) := by decide +kernel
theorem dL_law_892 : decode cL_law 892 = .ok (.aload_n 0, 1) := by decide +kernel
theorem dL_law_893 : decode cL_law 893 = .ok (.iload 4, 2) := by decide +kernel
theorem dL_law_895 : decode cL_law 895 = .ok (.iconst 2, 1) := by decide +kernel
theorem dL_law_896 : decode cL_law 896 = .ok (.iadd, 1) := by decide +kernel
theorem dL_law_897 : decode cL_law 897 = .ok (.iaload, 1) := by decide +kernel
theorem q_945 : Cond.methodLink "FieldMemberLaw" 96 ⟨"FieldMemberModel", "call", "(II)I"⟩ ∈ TT := tt_t (i := 945) (by decide +kernel) (by decide +kernel)
theorem q_948 : Cond.code ⟨"FieldMemberModel", "call", "(II)I"⟩ prog_10_method_47_code 5 (some .int) ∈ TT := tt_t (i := 948) (by decide +kernel) (by decide +kernel)
theorem q_946 : Cond.instanceMethod ⟨"FieldMemberModel", "call", "(II)I"⟩ ∈ TT := tt_t (i := 946) (by decide +kernel) (by decide +kernel)
theorem q_947 : Cond.selects "FieldMemberModel" ⟨"FieldMemberModel", "call", "(II)I"⟩ ⟨"FieldMemberModel", "call", "(II)I"⟩ ∈ TT := tt_t (i := 947) (by decide +kernel) (by decide +kernel)
theorem gV_L_X8_call : GoodIn TT (wsV RL 96 RX8 yX8_call (ww yX8_call cX8_call 5 (some .int))) := tt_V q_945 q_946 q_947 q_4 q_948
theorem hdV_X8_call : yX8_call.cls = RX8 ∧ yX8_call.cls ≠ "java/lang/invoke/MethodHandle" ∧ yX8_call.cls ≠ "java/lang/invoke/VarHandle" ∧ (parseMethodDescriptor yX8_call.desc).map (fun d => d.parameters.length) = some 2 := by decide +kernel
theorem dL_law_898 : decode cL_law 898 = .ok (.invokevirtual 96, 3) := by decide +kernel
theorem dL_law_901 : decode cL_law 901 = .ok (.if_icmp .eq 118, 3) := by decide +kernel
set_option maxHeartbeats 1600000 in
set_option maxRecDepth 100000 in
theorem lc_shape {p : Program} {l : Launch} {e : Env} {s : State} {m : MethodId} {below : List Frame} {meth : Method} {c : Code} {b L : Nat} {xs : Nat → Int32} {D : va_G} {G : Nat → ClassId} {sa : Nat → Nat} {ca : Nat → Nat} {mo : Nat} {ad : Nat → Nat} {o : Nat} {Q : State → Prop} (C0 : LCx p l s m c b L xs D G sa) {j : Nat} (hj : 7 * j + 6 < L) {u : MU} {H : Heap} {locs : List Loc} {ls : Array Slot} {cells slots : Nat} (hW : LW s D G ca mo ad o u H locs) (hl : lv_has ls 8 [(4, .int (nI (7 * j))), (3, .ref o), (2, .ref mo), (1, .ref (ca 0)), (0, .ref b)]) (hc : cells + 4 ≤ 603072 ∧ slots + 22 ≤ 7262314)
    (kk : ∀ (u : MU) (H : Heap) (locs : List Loc) (ls : Array Slot), LW s D G ca mo ad o u H locs → lv_has ls 8 [(4, .int (nI (7 * j))), (3, .ref o), (2, .ref mo), (1, .ref (ca 0)), (0, .ref b)] → W p l e room_1 s m #[Value.ref b] below meth c H locs (cells + 4) (slots + 22) Q (F0 m 1019 ls [])) : W p l e room_1 s m #[Value.ref b] below meth c H locs cells slots Q (F0 m 662 ls []) := by
  obtain ⟨hx, hb, hml, hown, hts, hX, hbl, hK, hXS, hXZ, hst, hL⟩ := id C0
  have hbA : ¬ (fun q : Nat => s.heap.size ≤ q) b := Nat.not_le.mpr hbl
  have hA : ∀ q : Nat, s.heap.size ≤ q → (fun q : Nat => s.heap.size ≤ q) q := fun _ h => h
  obtain ⟨σ, τ⟩ := u
  obtain ⟨f, z, ⟨n, k, w0, κ, x, hV, hC⟩, hP, hD, hS⟩ := hW
  have hP : va_P D vwCl ((mW G mo ad σ τ ++ [(o, .inl (G 1, 1, .inr (.inl f)))]) ++ z) H := hP
  have hD : va_D (fun q => s.heap.size ≤ q) ((mW G mo ad σ τ ++ [(o, .inl (G 1, 1, .inr (.inl f)))]) ++ z) := hD
  have hV : IV σ x τ κ n k w0 := hV
  have hC : CW G ca σ x κ k z := hC
  refine lv_aload_n hx hb dL_law_662 rfl (lv_at hl 3 rfl) ?_
  refine lv_aload_n hx hb dL_law_663 rfl (lv_at hl 4 rfl) ?_
  refine lv_iload hx hb dL_law_664 (lv_at hl 0 rfl) ?_
  refine lv_iconst (v := 1) hx hb dL_law_666 (by decide) ?_
  refine lv_iadd hx hb dL_law_667 ?_
  refine sld_n hx hb hX hbl hbA hS hL ((7 * j) + 1) (n_add (a := (7 * j)) (b := 1) rfl (rfl : (1 : Int32) = nI 1)) (by omega) dL_law_668 ?_
  refine lv_aload_n hx hb dL_law_669 rfl (lv_at hl 4 rfl) ?_
  refine lv_iload hx hb dL_law_670 (lv_at hl 0 rfl) ?_
  refine lv_iconst (v := 2) hx hb dL_law_672 (by decide) ?_
  refine lv_iadd hx hb dL_law_673 ?_
  refine sld_n hx hb hX hbl hbA hS hL ((7 * j) + 2) (n_add (a := (7 * j)) (b := 2) rfl (rfl : (2 : Int32) = nI 2)) (by omega) dL_law_674 ?_
  refine fr_Vc (wr := mW G mo ad σ τ ++ [(o, .inl (G 1, 1, .inr (.inl f)))]) (wc := z) (As := [.int (xs ((7 * j) + 1)), .int (xs ((7 * j) + 2))]) (rest := []) ⟨hx, hb, hml, hown, hts⟩ (u_shape l D G ca n k w0 σ x τ κ z _ hV hC (xs ((7 * j) + 1)) (xs ((7 * j) + 2))) gV_L_X7_shape hdV_X7_shape ⟨(Nat.le_of_ble_eq_true rfl), (Nat.le_of_ble_eq_true rfl)⟩ hK (hC.recv hK (fr_P hP)) hP hD hS hA rfl hl.1 rfl (Nat.le_of_ble_eq_true rfl) dL_law_675 ⟨(show cells + 0 ≤ 603072 by omega), (show slots + 0 ≤ 7262314 by omega)⟩ (fun z H locs hN hP hD hS => ?_)
  refine W.eq (g2 := F0 m 678 ls [.int ((oShape σ τ k (xs ((7 * j) + 1)) (xs ((7 * j) + 2))).1)]) rfl ?_
  refine lv_aload_n hx hb dL_law_678 rfl (lv_at hl 2 rfl) ?_
  refine lv_aload_n hx hb dL_law_679 rfl (lv_at hl 4 rfl) ?_
  refine lv_iload hx hb dL_law_680 (lv_at hl 0 rfl) ?_
  refine lv_iconst (v := 1) hx hb dL_law_682 (by decide) ?_
  refine lv_iadd hx hb dL_law_683 ?_
  refine sld_n hx hb hX hbl hbA hS hL ((7 * j) + 1) (n_add (a := (7 * j)) (b := 1) rfl (rfl : (1 : Int32) = nI 1)) (by omega) dL_law_684 ?_
  refine lv_aload_n hx hb dL_law_685 rfl (lv_at hl 4 rfl) ?_
  refine lv_iload hx hb dL_law_686 (lv_at hl 0 rfl) ?_
  refine lv_iconst (v := 2) hx hb dL_law_688 (by decide) ?_
  refine lv_iadd hx hb dL_law_689 ?_
  refine sld_n hx hb hX hbl hbA hS hL ((7 * j) + 2) (n_add (a := (7 * j)) (b := 2) rfl (rfl : (2 : Int32) = nI 2)) (by omega) dL_law_690 ?_
  have hP := P_perm hP pm_m
  have hD := D_perm pm_m hD
  have hP : va_P D vwCl (([(o, .inl (G 1, 1, .inr (.inl f)))] ++ z) ++ mW G mo ad σ τ) H := hP
  have hD : va_D (fun q => s.heap.size ≤ q) (([(o, .inl (G 1, 1, .inr (.inl f)))] ++ z) ++ mW G mo ad σ τ) := hD
  refine fr_Vm (wr := [(o, .inl (G 1, 1, .inr (.inl f)))] ++ z) (u := (σ, τ)) (v := (oShape σ τ k (xs ((7 * j) + 1)) (xs ((7 * j) + 2))).2) (mo := mo) (ad := ad) (As := [.int (xs ((7 * j) + 1)), .int (xs ((7 * j) + 2))]) (rest := [.int ((oShape σ τ k (xs ((7 * j) + 1)) (xs ((7 * j) + 2))).1)]) ⟨hx, hb, hml, hown, hts⟩ (m_shape l D G mo ad σ τ _ k hV.1.2.1.1 hV.1.2.1.2  (xs ((7 * j) + 1)) (xs ((7 * j) + 2)) ) gV_L_X8_shape hdV_X8_shape ⟨(Nat.le_of_ble_eq_true rfl), (Nat.le_of_ble_eq_true rfl)⟩ hK hP hD hS hA rfl hl.1 rfl (Nat.le_of_ble_eq_true rfl) dL_law_691 ⟨(show cells + 0 ≤ 603072 by omega), (show slots + 0 ≤ 7262314 by omega)⟩ (fun H locs hP hD hS => ?_)
  have hP := P_perm hP pm_r
  have hD := D_perm pm_r hD
  have hP : va_P D vwCl ((mW G mo ad (oShape σ τ k (xs ((7 * j) + 1)) (xs ((7 * j) + 2))).2.1 (oShape σ τ k (xs ((7 * j) + 1)) (xs ((7 * j) + 2))).2.2 ++ [(o, .inl (G 1, 1, .inr (.inl f)))]) ++ z) H := hP
  have hD : va_D (fun q => s.heap.size ≤ q) ((mW G mo ad (oShape σ τ k (xs ((7 * j) + 1)) (xs ((7 * j) + 2))).2.1 (oShape σ τ k (xs ((7 * j) + 1)) (xs ((7 * j) + 2))).2.2 ++ [(o, .inl (G 1, 1, .inr (.inl f)))]) ++ z) := hD
  refine W.eq (g2 := F0 m 694 ls [.int ((oShape σ τ k (xs ((7 * j) + 1)) (xs ((7 * j) + 2))).1), .int ((oShape σ τ k (xs ((7 * j) + 1)) (xs ((7 * j) + 2))).1)]) rfl ?_
  refine lv_icmp_eq (tgt := 1019) hx hb dL_law_694 (by decide) (fun hh => ?_) (fun hh => absurd rfl hh)
  refine W.widen (k := cells + 4) (n := slots + 22) (by omega) (by omega) ?_
  exact kk (oShape σ τ k (xs ((7 * j) + 1)) (xs ((7 * j) + 2))).2 _ _ _ ⟨f, z, hN, hP, hD, hS⟩ (lv_sub hl [0, 1, 2, 3, 4] rfl)
set_option maxHeartbeats 1600000 in
set_option maxRecDepth 100000 in
theorem lc_parameterOf {p : Program} {l : Launch} {e : Env} {s : State} {m : MethodId} {below : List Frame} {meth : Method} {c : Code} {b L : Nat} {xs : Nat → Int32} {D : va_G} {G : Nat → ClassId} {sa : Nat → Nat} {ca : Nat → Nat} {mo : Nat} {ad : Nat → Nat} {o : Nat} {Q : State → Prop} (C0 : LCx p l s m c b L xs D G sa) {j : Nat} (hj : 7 * j + 6 < L) {u : MU} {H : Heap} {locs : List Loc} {ls : Array Slot} {cells slots : Nat} (hW : LW s D G ca mo ad o u H locs) (hl : lv_has ls 8 [(4, .int (nI (7 * j))), (3, .ref o), (2, .ref mo), (1, .ref (ca 0)), (0, .ref b)]) (hc : cells + 4 ≤ 603072 ∧ slots + 22 ≤ 7262314)
    (kk : ∀ (u : MU) (H : Heap) (locs : List Loc) (ls : Array Slot), LW s D G ca mo ad o u H locs → lv_has ls 8 [(4, .int (nI (7 * j))), (3, .ref o), (2, .ref mo), (1, .ref (ca 0)), (0, .ref b)] → W p l e room_1 s m #[Value.ref b] below meth c H locs (cells + 4) (slots + 22) Q (F0 m 1019 ls [])) : W p l e room_1 s m #[Value.ref b] below meth c H locs cells slots Q (F0 m 699 ls []) := by
  obtain ⟨hx, hb, hml, hown, hts, hX, hbl, hK, hXS, hXZ, hst, hL⟩ := id C0
  have hbA : ¬ (fun q : Nat => s.heap.size ≤ q) b := Nat.not_le.mpr hbl
  have hA : ∀ q : Nat, s.heap.size ≤ q → (fun q : Nat => s.heap.size ≤ q) q := fun _ h => h
  obtain ⟨σ, τ⟩ := u
  obtain ⟨f, z, ⟨n, k, w0, κ, x, hV, hC⟩, hP, hD, hS⟩ := hW
  have hP : va_P D vwCl ((mW G mo ad σ τ ++ [(o, .inl (G 1, 1, .inr (.inl f)))]) ++ z) H := hP
  have hD : va_D (fun q => s.heap.size ≤ q) ((mW G mo ad σ τ ++ [(o, .inl (G 1, 1, .inr (.inl f)))]) ++ z) := hD
  have hV : IV σ x τ κ n k w0 := hV
  have hC : CW G ca σ x κ k z := hC
  refine lv_aload_n hx hb dL_law_699 rfl (lv_at hl 3 rfl) ?_
  refine lv_aload_n hx hb dL_law_700 rfl (lv_at hl 4 rfl) ?_
  refine lv_iload hx hb dL_law_701 (lv_at hl 0 rfl) ?_
  refine lv_iconst (v := 1) hx hb dL_law_703 (by decide) ?_
  refine lv_iadd hx hb dL_law_704 ?_
  refine sld_n hx hb hX hbl hbA hS hL ((7 * j) + 1) (n_add (a := (7 * j)) (b := 1) rfl (rfl : (1 : Int32) = nI 1)) (by omega) dL_law_705 ?_
  refine lv_aload_n hx hb dL_law_706 rfl (lv_at hl 4 rfl) ?_
  refine lv_iload hx hb dL_law_707 (lv_at hl 0 rfl) ?_
  refine lv_iconst (v := 2) hx hb dL_law_709 (by decide) ?_
  refine lv_iadd hx hb dL_law_710 ?_
  refine sld_n hx hb hX hbl hbA hS hL ((7 * j) + 2) (n_add (a := (7 * j)) (b := 2) rfl (rfl : (2 : Int32) = nI 2)) (by omega) dL_law_711 ?_
  refine lv_aload_n hx hb dL_law_712 rfl (lv_at hl 4 rfl) ?_
  refine lv_iload hx hb dL_law_713 (lv_at hl 0 rfl) ?_
  refine lv_iconst (v := 3) hx hb dL_law_715 (by decide) ?_
  refine lv_iadd hx hb dL_law_716 ?_
  refine sld_n hx hb hX hbl hbA hS hL ((7 * j) + 3) (n_add (a := (7 * j)) (b := 3) rfl (rfl : (3 : Int32) = nI 3)) (by omega) dL_law_717 ?_
  refine lv_if_eq (tgt := 725) hx hb dL_law_718 (by decide) (fun c1 => ?_) (fun c1 => ?_)
  · -- 718 taken
    refine lv_iconst (v := 0) hx hb dL_law_725 (by decide) ?_
    refine lv_aload_n hx hb dL_law_726 rfl (lv_at hl 1 rfl) ?_
    have hXZ1 : XZ F0' s H := (hXZ.kept (fun a ha hA9 => hS.2.1 a ha hA9)).narrow (fun q h => h.elim)
    have hP := P_perm hP pm_o
    have hD := D_perm pm_o hD
    have hP : va_P D vwCl ((mW G mo ad σ τ ++ z) ++ [(o, .inl (G 1, 1, .inr (.inl f)))]) H := hP
    have hD : va_D (fun q => s.heap.size ≤ q) ((mW G mo ad σ τ ++ z) ++ [(o, .inl (G 1, 1, .inr (.inl f)))]) := hD
    refine fr_H (wr := mW G mo ad σ τ ++ z) (f := f) (n := 5) (As := [.ref ((ca 0)), .int (xs ((7 * j) + 1)), .int (xs ((7 * j) + 2)), .int 0, .ref o]) (rest := []) ⟨hx, hb, hml, hown, hts⟩ (?hM : vx_Met l yL_parameterOf (.codeWith yL_parameterOf cL_parameterOf 6 (some .int) [(0, 12, 15, 13), (0, 12, 19, 15)] :: TT) (rmC 9 1 6) _ (va_Qi (fun r (f' : Nat → Int64) => r = (oParOf σ τ k (xs ((7 * j) + 1)) (xs ((7 * j) + 2)) 0).2.1 0 0 ∧ ((oParOf σ τ k (xs ((7 * j) + 1)) (xs ((7 * j) + 2)) 0).2.1 0 0 = 0 → f' 0 = (oParOf σ τ k (xs ((7 * j) + 1)) (xs ((7 * j) + 2)) 0).1.toInt64)) _ _) _ 1 6 _) (tt_S q_664 q_665 q_0 q_666) (by decide +kernel) ⟨(Nat.le_of_ble_eq_true rfl), (Nat.le_of_ble_eq_true rfl)⟩ hK hXS hXZ1 hP hD hS hA rfl hl.1 rfl (Nat.le_of_ble_eq_true rfl) dL_law_727 ⟨(show cells + 1 ≤ 603072 by omega), (show slots + 6 ≤ 7262314 by omega)⟩ (fun r f H locs hp hP hD hS => ?_)
    case hM =>
      obtain ⟨ea, ba, bg, pool, hE, hJ, rfl, hb9⟩ := id hC
      exact c_lparameterOf l D G H ca bg ea n k w0 σ x κ (cF_of (fr_P (fr_Pl hP))) (plE_P (fr_P (fr_Pl hP)) hE) hV.cI hst sa (xs ((7 * j) + 1)) (xs ((7 * j) + 2)) 0 τ o f (fr_P hP)
    obtain ⟨rfl, hpv⟩ := hp
    have hP := P_perm hP pm_o
    have hD := D_perm pm_o hD
    have hP : va_P D vwCl ((mW G mo ad σ τ ++ [(o, .inl (G 1, 1, .inr (.inl f)))]) ++ z) H := hP
    have hD : va_D (fun q => s.heap.size ≤ q) ((mW G mo ad σ τ ++ [(o, .inl (G 1, 1, .inr (.inl f)))]) ++ z) := hD
    refine W.eq (g2 := F0 m 730 ls [.int ((oParOf σ τ k (xs ((7 * j) + 1)) (xs ((7 * j) + 2)) 0).2.1 0 0)]) rfl ?_
    have hN := nx_par hV hC (xs ((7 * j) + 1)) (xs ((7 * j) + 2)) 0
    refine lv_istore (lv' := [(5, .int ((oParOf σ τ k (xs ((7 * j) + 1)) (xs ((7 * j) + 2)) 0).2.1 0 0)), (4, .int (nI (7 * j))), (3, .ref o), (2, .ref mo), (1, .ref ((ca 0))), (0, .ref b)]) hx hb dL_law_730 hl (by decide) rfl (fun ls hl => ?_)
    refine lv_aload_n hx hb dL_law_732 rfl (lv_at hl 3 rfl) ?_
    refine lv_aload_n hx hb dL_law_733 rfl (lv_at hl 5 rfl) ?_
    refine lv_iload hx hb dL_law_734 (lv_at hl 1 rfl) ?_
    refine lv_iconst (v := 1) hx hb dL_law_736 (by decide) ?_
    refine lv_iadd hx hb dL_law_737 ?_
    refine sld_n hx hb hX hbl hbA hS hL ((7 * j) + 1) (n_add (a := (7 * j)) (b := 1) rfl (rfl : (1 : Int32) = nI 1)) (by omega) dL_law_738 ?_
    refine lv_aload_n hx hb dL_law_739 rfl (lv_at hl 5 rfl) ?_
    refine lv_iload hx hb dL_law_740 (lv_at hl 1 rfl) ?_
    refine lv_iconst (v := 2) hx hb dL_law_742 (by decide) ?_
    refine lv_iadd hx hb dL_law_743 ?_
    refine sld_n hx hb hX hbl hbA hS hL ((7 * j) + 2) (n_add (a := (7 * j)) (b := 2) rfl (rfl : (2 : Int32) = nI 2)) (by omega) dL_law_744 ?_
    refine lv_aload_n hx hb dL_law_745 rfl (lv_at hl 5 rfl) ?_
    refine lv_iload hx hb dL_law_746 (lv_at hl 1 rfl) ?_
    refine lv_iconst (v := 3) hx hb dL_law_748 (by decide) ?_
    refine lv_iadd hx hb dL_law_749 ?_
    refine sld_n hx hb hX hbl hbA hS hL ((7 * j) + 3) (n_add (a := (7 * j)) (b := 3) rfl (rfl : (3 : Int32) = nI 3)) (by omega) dL_law_750 ?_
    refine lv_if_eq (tgt := 758) hx hb dL_law_751 (by decide) (fun hh => ?_) (fun hh => absurd c1 hh)
    refine lv_iconst (v := 0) hx hb dL_law_758 (by decide) ?_
    have hP := P_perm hP pm_m
    have hD := D_perm pm_m hD
    have hP : va_P D vwCl (([(o, .inl (G 1, 1, .inr (.inl f)))] ++ z) ++ mW G mo ad σ τ) H := hP
    have hD : va_D (fun q => s.heap.size ≤ q) (([(o, .inl (G 1, 1, .inr (.inl f)))] ++ z) ++ mW G mo ad σ τ) := hD
    refine fr_Vm (wr := [(o, .inl (G 1, 1, .inr (.inl f)))] ++ z) (u := (σ, τ)) (v := (oParOf σ τ k (xs ((7 * j) + 1)) (xs ((7 * j) + 2)) 0).2) (mo := mo) (ad := ad) (As := [.int (xs ((7 * j) + 1)), .int (xs ((7 * j) + 2)), .int 0]) (rest := []) ⟨hx, hb, hml, hown, hts⟩ (m_parameterOf l D G mo ad σ τ _ k hV.1.2.1.1 hV.1.2.1.2 hV.hm (xs ((7 * j) + 1)) (xs ((7 * j) + 2)) 0 ) gV_L_X8_parameterOf hdV_X8_parameterOf ⟨(Nat.le_of_ble_eq_true rfl), (Nat.le_of_ble_eq_true rfl)⟩ hK hP hD hS hA rfl hl.1 rfl (Nat.le_of_ble_eq_true rfl) dL_law_759 ⟨(show cells + 1 ≤ 603072 by omega), (show slots + 6 ≤ 7262314 by omega)⟩ (fun H locs hP hD hS => ?_)
    have hP := P_perm hP pm_r
    have hD := D_perm pm_r hD
    have hP : va_P D vwCl ((mW G mo ad (oParOf σ τ k (xs ((7 * j) + 1)) (xs ((7 * j) + 2)) 0).2.1 (oParOf σ τ k (xs ((7 * j) + 1)) (xs ((7 * j) + 2)) 0).2.2 ++ [(o, .inl (G 1, 1, .inr (.inl f)))]) ++ z) H := hP
    have hD : va_D (fun q => s.heap.size ≤ q) ((mW G mo ad (oParOf σ τ k (xs ((7 * j) + 1)) (xs ((7 * j) + 2)) 0).2.1 (oParOf σ τ k (xs ((7 * j) + 1)) (xs ((7 * j) + 2)) 0).2.2 ++ [(o, .inl (G 1, 1, .inr (.inl f)))]) ++ z) := hD
    refine W.eq (g2 := F0 m 762 ls [.int ((oParOf σ τ k (xs ((7 * j) + 1)) (xs ((7 * j) + 2)) 0).1)]) rfl ?_
    refine lv_istore (lv' := [(6, .int ((oParOf σ τ k (xs ((7 * j) + 1)) (xs ((7 * j) + 2)) 0).1)), (5, .int ((oParOf σ τ k (xs ((7 * j) + 1)) (xs ((7 * j) + 2)) 0).2.1 0 0)), (4, .int (nI (7 * j))), (3, .ref o), (2, .ref mo), (1, .ref ((ca 0))), (0, .ref b)]) hx hb dL_law_762 hl (by decide) rfl (fun ls hl => ?_)
    refine lv_aload_n hx hb dL_law_764 rfl (lv_at hl 4 rfl) ?_
    refine ro_Vi (D := D) (G := G) (As := []) (rest := []) ⟨hx, hb, hml, hown, hts⟩ (m_thrown l D G H mo ad _ _ (fr_Pl (fr_Pl hP))) gV_L_X8_thrown hdV_X8_thrown ⟨(Nat.le_of_ble_eq_true rfl), (Nat.le_of_ble_eq_true rfl)⟩ hK (va_recv hK.1 hP (ci := 8) (q0 := 0) rfl rfl) rfl hl.1 rfl (Nat.le_of_ble_eq_true rfl) dL_law_765 ⟨(show cells + 1 ≤ 603072 by omega), (show slots + 6 ≤ 7262314 by omega)⟩ (fun r3 e_r3 => ?_)
    subst e_r3
    refine W.eq (g2 := F0 m 768 ls [.int ((oParOf σ τ k (xs ((7 * j) + 1)) (xs ((7 * j) + 2)) 0).2.1 0 0)]) rfl ?_
    refine lv_iload hx hb dL_law_768 (lv_at hl 1 rfl) ?_
    refine lv_icmp_eq (tgt := 775) hx hb dL_law_770 (by decide) (fun hh => ?_) (fun hh => absurd rfl hh)
    refine lv_iload hx hb dL_law_775 (lv_at hl 1 rfl) ?_
    refine lv_if_ne (tgt := 792) hx hb dL_law_777 (by decide) (fun c4 => ?_) (fun c4 => ?_)
    · -- 777 taken
      refine lv_goto (tgt := 1019) hx hb dL_law_792 (by decide) ?_
      refine W.widen (k := cells + 4) (n := slots + 22) (by omega) (by omega) ?_
      exact kk (oParOf σ τ k (xs ((7 * j) + 1)) (xs ((7 * j) + 2)) 0).2 _ _ _ ⟨f, z, hN, hP, hD, hS⟩ (lv_sub hl [2, 3, 4, 5, 6] rfl)
    · -- 777 not
      refine lv_aload_n hx hb dL_law_780 rfl (lv_at hl 3 rfl) ?_
      refine lv_iconst (v := 0) hx hb dL_law_781 (by decide) ?_
      refine lald_n (f := f) hx hb hK.1 hP 27 1 rfl rfl (0) rfl (by decide) (by decide) dL_law_782 ?_
      refine lv_iload hx hb dL_law_783 (lv_at hl 0 rfl) ?_
      refine lv_i2l hx hb dL_law_785 rfl ?_
      refine W.lcmp hx hb dL_law_786 ?_
      refine lv_if_eq (tgt := 792) hx hb dL_law_787 (by decide) (fun hh => ?_) (fun hh => absurd ((lg_cmp_eq _ _).mpr (hpv c4)) hh)
      refine lv_goto (tgt := 1019) hx hb dL_law_792 (by decide) ?_
      refine W.widen (k := cells + 4) (n := slots + 22) (by omega) (by omega) ?_
      exact kk (oParOf σ τ k (xs ((7 * j) + 1)) (xs ((7 * j) + 2)) 0).2 _ _ _ ⟨f, z, hN, hP, hD, hS⟩ (lv_sub hl [2, 3, 4, 5, 6] rfl)
  · -- 718 not
    refine lv_iconst (v := 1) hx hb dL_law_721 (by decide) ?_
    refine lv_goto (tgt := 726) hx hb dL_law_722 (by decide) ?_
    refine lv_aload_n hx hb dL_law_726 rfl (lv_at hl 1 rfl) ?_
    have hXZ1 : XZ F0' s H := (hXZ.kept (fun a ha hA9 => hS.2.1 a ha hA9)).narrow (fun q h => h.elim)
    have hP := P_perm hP pm_o
    have hD := D_perm pm_o hD
    have hP : va_P D vwCl ((mW G mo ad σ τ ++ z) ++ [(o, .inl (G 1, 1, .inr (.inl f)))]) H := hP
    have hD : va_D (fun q => s.heap.size ≤ q) ((mW G mo ad σ τ ++ z) ++ [(o, .inl (G 1, 1, .inr (.inl f)))]) := hD
    refine fr_H (wr := mW G mo ad σ τ ++ z) (f := f) (n := 5) (As := [.ref ((ca 0)), .int (xs ((7 * j) + 1)), .int (xs ((7 * j) + 2)), .int 1, .ref o]) (rest := []) ⟨hx, hb, hml, hown, hts⟩ (?hM : vx_Met l yL_parameterOf (.codeWith yL_parameterOf cL_parameterOf 6 (some .int) [(0, 12, 15, 13), (0, 12, 19, 15)] :: TT) (rmC 9 1 6) _ (va_Qi (fun r (f' : Nat → Int64) => r = (oParOf σ τ k (xs ((7 * j) + 1)) (xs ((7 * j) + 2)) 1).2.1 0 0 ∧ ((oParOf σ τ k (xs ((7 * j) + 1)) (xs ((7 * j) + 2)) 1).2.1 0 0 = 0 → f' 0 = (oParOf σ τ k (xs ((7 * j) + 1)) (xs ((7 * j) + 2)) 1).1.toInt64)) _ _) _ 1 6 _) (tt_S q_664 q_665 q_0 q_666) (by decide +kernel) ⟨(Nat.le_of_ble_eq_true rfl), (Nat.le_of_ble_eq_true rfl)⟩ hK hXS hXZ1 hP hD hS hA rfl hl.1 rfl (Nat.le_of_ble_eq_true rfl) dL_law_727 ⟨(show cells + 1 ≤ 603072 by omega), (show slots + 6 ≤ 7262314 by omega)⟩ (fun r f H locs hp hP hD hS => ?_)
    case hM =>
      obtain ⟨ea, ba, bg, pool, hE, hJ, rfl, hb9⟩ := id hC
      exact c_lparameterOf l D G H ca bg ea n k w0 σ x κ (cF_of (fr_P (fr_Pl hP))) (plE_P (fr_P (fr_Pl hP)) hE) hV.cI hst sa (xs ((7 * j) + 1)) (xs ((7 * j) + 2)) 1 τ o f (fr_P hP)
    obtain ⟨rfl, hpv⟩ := hp
    have hP := P_perm hP pm_o
    have hD := D_perm pm_o hD
    have hP : va_P D vwCl ((mW G mo ad σ τ ++ [(o, .inl (G 1, 1, .inr (.inl f)))]) ++ z) H := hP
    have hD : va_D (fun q => s.heap.size ≤ q) ((mW G mo ad σ τ ++ [(o, .inl (G 1, 1, .inr (.inl f)))]) ++ z) := hD
    refine W.eq (g2 := F0 m 730 ls [.int ((oParOf σ τ k (xs ((7 * j) + 1)) (xs ((7 * j) + 2)) 1).2.1 0 0)]) rfl ?_
    have hN := nx_par hV hC (xs ((7 * j) + 1)) (xs ((7 * j) + 2)) 1
    refine lv_istore (lv' := [(5, .int ((oParOf σ τ k (xs ((7 * j) + 1)) (xs ((7 * j) + 2)) 1).2.1 0 0)), (4, .int (nI (7 * j))), (3, .ref o), (2, .ref mo), (1, .ref ((ca 0))), (0, .ref b)]) hx hb dL_law_730 hl (by decide) rfl (fun ls hl => ?_)
    refine lv_aload_n hx hb dL_law_732 rfl (lv_at hl 3 rfl) ?_
    refine lv_aload_n hx hb dL_law_733 rfl (lv_at hl 5 rfl) ?_
    refine lv_iload hx hb dL_law_734 (lv_at hl 1 rfl) ?_
    refine lv_iconst (v := 1) hx hb dL_law_736 (by decide) ?_
    refine lv_iadd hx hb dL_law_737 ?_
    refine sld_n hx hb hX hbl hbA hS hL ((7 * j) + 1) (n_add (a := (7 * j)) (b := 1) rfl (rfl : (1 : Int32) = nI 1)) (by omega) dL_law_738 ?_
    refine lv_aload_n hx hb dL_law_739 rfl (lv_at hl 5 rfl) ?_
    refine lv_iload hx hb dL_law_740 (lv_at hl 1 rfl) ?_
    refine lv_iconst (v := 2) hx hb dL_law_742 (by decide) ?_
    refine lv_iadd hx hb dL_law_743 ?_
    refine sld_n hx hb hX hbl hbA hS hL ((7 * j) + 2) (n_add (a := (7 * j)) (b := 2) rfl (rfl : (2 : Int32) = nI 2)) (by omega) dL_law_744 ?_
    refine lv_aload_n hx hb dL_law_745 rfl (lv_at hl 5 rfl) ?_
    refine lv_iload hx hb dL_law_746 (lv_at hl 1 rfl) ?_
    refine lv_iconst (v := 3) hx hb dL_law_748 (by decide) ?_
    refine lv_iadd hx hb dL_law_749 ?_
    refine sld_n hx hb hX hbl hbA hS hL ((7 * j) + 3) (n_add (a := (7 * j)) (b := 3) rfl (rfl : (3 : Int32) = nI 3)) (by omega) dL_law_750 ?_
    refine lv_if_eq (tgt := 758) hx hb dL_law_751 (by decide) (fun hh => absurd hh c1) (fun hh => ?_)
    refine lv_iconst (v := 1) hx hb dL_law_754 (by decide) ?_
    refine lv_goto (tgt := 759) hx hb dL_law_755 (by decide) ?_
    have hP := P_perm hP pm_m
    have hD := D_perm pm_m hD
    have hP : va_P D vwCl (([(o, .inl (G 1, 1, .inr (.inl f)))] ++ z) ++ mW G mo ad σ τ) H := hP
    have hD : va_D (fun q => s.heap.size ≤ q) (([(o, .inl (G 1, 1, .inr (.inl f)))] ++ z) ++ mW G mo ad σ τ) := hD
    refine fr_Vm (wr := [(o, .inl (G 1, 1, .inr (.inl f)))] ++ z) (u := (σ, τ)) (v := (oParOf σ τ k (xs ((7 * j) + 1)) (xs ((7 * j) + 2)) 1).2) (mo := mo) (ad := ad) (As := [.int (xs ((7 * j) + 1)), .int (xs ((7 * j) + 2)), .int 1]) (rest := []) ⟨hx, hb, hml, hown, hts⟩ (m_parameterOf l D G mo ad σ τ _ k hV.1.2.1.1 hV.1.2.1.2 hV.hm (xs ((7 * j) + 1)) (xs ((7 * j) + 2)) 1 ) gV_L_X8_parameterOf hdV_X8_parameterOf ⟨(Nat.le_of_ble_eq_true rfl), (Nat.le_of_ble_eq_true rfl)⟩ hK hP hD hS hA rfl hl.1 rfl (Nat.le_of_ble_eq_true rfl) dL_law_759 ⟨(show cells + 1 ≤ 603072 by omega), (show slots + 6 ≤ 7262314 by omega)⟩ (fun H locs hP hD hS => ?_)
    have hP := P_perm hP pm_r
    have hD := D_perm pm_r hD
    have hP : va_P D vwCl ((mW G mo ad (oParOf σ τ k (xs ((7 * j) + 1)) (xs ((7 * j) + 2)) 1).2.1 (oParOf σ τ k (xs ((7 * j) + 1)) (xs ((7 * j) + 2)) 1).2.2 ++ [(o, .inl (G 1, 1, .inr (.inl f)))]) ++ z) H := hP
    have hD : va_D (fun q => s.heap.size ≤ q) ((mW G mo ad (oParOf σ τ k (xs ((7 * j) + 1)) (xs ((7 * j) + 2)) 1).2.1 (oParOf σ τ k (xs ((7 * j) + 1)) (xs ((7 * j) + 2)) 1).2.2 ++ [(o, .inl (G 1, 1, .inr (.inl f)))]) ++ z) := hD
    refine W.eq (g2 := F0 m 762 ls [.int ((oParOf σ τ k (xs ((7 * j) + 1)) (xs ((7 * j) + 2)) 1).1)]) rfl ?_
    refine lv_istore (lv' := [(6, .int ((oParOf σ τ k (xs ((7 * j) + 1)) (xs ((7 * j) + 2)) 1).1)), (5, .int ((oParOf σ τ k (xs ((7 * j) + 1)) (xs ((7 * j) + 2)) 1).2.1 0 0)), (4, .int (nI (7 * j))), (3, .ref o), (2, .ref mo), (1, .ref ((ca 0))), (0, .ref b)]) hx hb dL_law_762 hl (by decide) rfl (fun ls hl => ?_)
    refine lv_aload_n hx hb dL_law_764 rfl (lv_at hl 4 rfl) ?_
    refine ro_Vi (D := D) (G := G) (As := []) (rest := []) ⟨hx, hb, hml, hown, hts⟩ (m_thrown l D G H mo ad _ _ (fr_Pl (fr_Pl hP))) gV_L_X8_thrown hdV_X8_thrown ⟨(Nat.le_of_ble_eq_true rfl), (Nat.le_of_ble_eq_true rfl)⟩ hK (va_recv hK.1 hP (ci := 8) (q0 := 0) rfl rfl) rfl hl.1 rfl (Nat.le_of_ble_eq_true rfl) dL_law_765 ⟨(show cells + 1 ≤ 603072 by omega), (show slots + 6 ≤ 7262314 by omega)⟩ (fun r6 e_r6 => ?_)
    subst e_r6
    refine W.eq (g2 := F0 m 768 ls [.int ((oParOf σ τ k (xs ((7 * j) + 1)) (xs ((7 * j) + 2)) 1).2.1 0 0)]) rfl ?_
    refine lv_iload hx hb dL_law_768 (lv_at hl 1 rfl) ?_
    refine lv_icmp_eq (tgt := 775) hx hb dL_law_770 (by decide) (fun hh => ?_) (fun hh => absurd rfl hh)
    refine lv_iload hx hb dL_law_775 (lv_at hl 1 rfl) ?_
    refine lv_if_ne (tgt := 792) hx hb dL_law_777 (by decide) (fun c7 => ?_) (fun c7 => ?_)
    · -- 777 taken
      refine lv_goto (tgt := 1019) hx hb dL_law_792 (by decide) ?_
      refine W.widen (k := cells + 4) (n := slots + 22) (by omega) (by omega) ?_
      exact kk (oParOf σ τ k (xs ((7 * j) + 1)) (xs ((7 * j) + 2)) 1).2 _ _ _ ⟨f, z, hN, hP, hD, hS⟩ (lv_sub hl [2, 3, 4, 5, 6] rfl)
    · -- 777 not
      refine lv_aload_n hx hb dL_law_780 rfl (lv_at hl 3 rfl) ?_
      refine lv_iconst (v := 0) hx hb dL_law_781 (by decide) ?_
      refine lald_n (f := f) hx hb hK.1 hP 27 1 rfl rfl (0) rfl (by decide) (by decide) dL_law_782 ?_
      refine lv_iload hx hb dL_law_783 (lv_at hl 0 rfl) ?_
      refine lv_i2l hx hb dL_law_785 rfl ?_
      refine W.lcmp hx hb dL_law_786 ?_
      refine lv_if_eq (tgt := 792) hx hb dL_law_787 (by decide) (fun hh => ?_) (fun hh => absurd ((lg_cmp_eq _ _).mpr (hpv c7)) hh)
      refine lv_goto (tgt := 1019) hx hb dL_law_792 (by decide) ?_
      refine W.widen (k := cells + 4) (n := slots + 22) (by omega) (by omega) ?_
      exact kk (oParOf σ τ k (xs ((7 * j) + 1)) (xs ((7 * j) + 2)) 1).2 _ _ _ ⟨f, z, hN, hP, hD, hS⟩ (lv_sub hl [2, 3, 4, 5, 6] rfl)
set_option maxHeartbeats 1600000 in
set_option maxRecDepth 100000 in
theorem lc_sought {p : Program} {l : Launch} {e : Env} {s : State} {m : MethodId} {below : List Frame} {meth : Method} {c : Code} {b L : Nat} {xs : Nat → Int32} {D : va_G} {G : Nat → ClassId} {sa : Nat → Nat} {ca : Nat → Nat} {mo : Nat} {ad : Nat → Nat} {o : Nat} {Q : State → Prop} (C0 : LCx p l s m c b L xs D G sa) {j : Nat} (hj : 7 * j + 6 < L) {u : MU} {H : Heap} {locs : List Loc} {ls : Array Slot} {cells slots : Nat} (hW : LW s D G ca mo ad o u H locs) (hl : lv_has ls 8 [(4, .int (nI (7 * j))), (3, .ref o), (2, .ref mo), (1, .ref (ca 0)), (0, .ref b)]) (hc : cells + 4 ≤ 603072 ∧ slots + 22 ≤ 7262314)
    (kk : ∀ (u : MU) (H : Heap) (locs : List Loc) (ls : Array Slot), LW s D G ca mo ad o u H locs → lv_has ls 8 [(4, .int (nI (7 * j))), (3, .ref o), (2, .ref mo), (1, .ref (ca 0)), (0, .ref b)] → W p l e room_1 s m #[Value.ref b] below meth c H locs (cells + 4) (slots + 22) Q (F0 m 1019 ls [])) : W p l e room_1 s m #[Value.ref b] below meth c H locs cells slots Q (F0 m 795 ls []) := by
  obtain ⟨hx, hb, hml, hown, hts, hX, hbl, hK, hXS, hXZ, hst, hL⟩ := id C0
  have hbA : ¬ (fun q : Nat => s.heap.size ≤ q) b := Nat.not_le.mpr hbl
  have hA : ∀ q : Nat, s.heap.size ≤ q → (fun q : Nat => s.heap.size ≤ q) q := fun _ h => h
  obtain ⟨σ, τ⟩ := u
  obtain ⟨f, z, ⟨n, k, w0, κ, x, hV, hC⟩, hP, hD, hS⟩ := hW
  have hP : va_P D vwCl ((mW G mo ad σ τ ++ [(o, .inl (G 1, 1, .inr (.inl f)))]) ++ z) H := hP
  have hD : va_D (fun q => s.heap.size ≤ q) ((mW G mo ad σ τ ++ [(o, .inl (G 1, 1, .inr (.inl f)))]) ++ z) := hD
  have hV : IV σ x τ κ n k w0 := hV
  have hC : CW G ca σ x κ k z := hC
  refine lv_aload_n hx hb dL_law_795 rfl (lv_at hl 3 rfl) ?_
  refine lv_aload_n hx hb dL_law_796 rfl (lv_at hl 4 rfl) ?_
  refine lv_iload hx hb dL_law_797 (lv_at hl 0 rfl) ?_
  refine lv_iconst (v := 1) hx hb dL_law_799 (by decide) ?_
  refine lv_iadd hx hb dL_law_800 ?_
  refine sld_n hx hb hX hbl hbA hS hL ((7 * j) + 1) (n_add (a := (7 * j)) (b := 1) rfl (rfl : (1 : Int32) = nI 1)) (by omega) dL_law_801 ?_
  refine lv_aload_n hx hb dL_law_802 rfl (lv_at hl 4 rfl) ?_
  refine lv_iload hx hb dL_law_803 (lv_at hl 0 rfl) ?_
  refine lv_iconst (v := 2) hx hb dL_law_805 (by decide) ?_
  refine lv_iadd hx hb dL_law_806 ?_
  refine sld_n hx hb hX hbl hbA hS hL ((7 * j) + 2) (n_add (a := (7 * j)) (b := 2) rfl (rfl : (2 : Int32) = nI 2)) (by omega) dL_law_807 ?_
  refine fr_Vc (wr := mW G mo ad σ τ ++ [(o, .inl (G 1, 1, .inr (.inl f)))]) (wc := z) (As := [.int (xs ((7 * j) + 1)), .int (xs ((7 * j) + 2))]) (rest := []) ⟨hx, hb, hml, hown, hts⟩ (u_sought l D G ca n k w0 σ x τ κ z _ hV hC (xs ((7 * j) + 1)) (xs ((7 * j) + 2))) gV_L_X7_sought hdV_X7_sought ⟨(Nat.le_of_ble_eq_true rfl), (Nat.le_of_ble_eq_true rfl)⟩ hK (hC.recv hK (fr_P hP)) hP hD hS hA rfl hl.1 rfl (Nat.le_of_ble_eq_true rfl) dL_law_808 ⟨(show cells + 0 ≤ 603072 by omega), (show slots + 0 ≤ 7262314 by omega)⟩ (fun z H locs hN hP hD hS => ?_)
  refine W.eq (g2 := F0 m 811 ls [.int ((oSought σ τ n k (xs ((7 * j) + 1)) (xs ((7 * j) + 2))).1)]) rfl ?_
  refine lv_aload_n hx hb dL_law_811 rfl (lv_at hl 2 rfl) ?_
  refine lv_aload_n hx hb dL_law_812 rfl (lv_at hl 4 rfl) ?_
  refine lv_iload hx hb dL_law_813 (lv_at hl 0 rfl) ?_
  refine lv_iconst (v := 1) hx hb dL_law_815 (by decide) ?_
  refine lv_iadd hx hb dL_law_816 ?_
  refine sld_n hx hb hX hbl hbA hS hL ((7 * j) + 1) (n_add (a := (7 * j)) (b := 1) rfl (rfl : (1 : Int32) = nI 1)) (by omega) dL_law_817 ?_
  refine lv_aload_n hx hb dL_law_818 rfl (lv_at hl 4 rfl) ?_
  refine lv_iload hx hb dL_law_819 (lv_at hl 0 rfl) ?_
  refine lv_iconst (v := 2) hx hb dL_law_821 (by decide) ?_
  refine lv_iadd hx hb dL_law_822 ?_
  refine sld_n hx hb hX hbl hbA hS hL ((7 * j) + 2) (n_add (a := (7 * j)) (b := 2) rfl (rfl : (2 : Int32) = nI 2)) (by omega) dL_law_823 ?_
  have hP := P_perm hP pm_m
  have hD := D_perm pm_m hD
  have hP : va_P D vwCl (([(o, .inl (G 1, 1, .inr (.inl f)))] ++ z) ++ mW G mo ad σ τ) H := hP
  have hD : va_D (fun q => s.heap.size ≤ q) (([(o, .inl (G 1, 1, .inr (.inl f)))] ++ z) ++ mW G mo ad σ τ) := hD
  refine fr_Vm (wr := [(o, .inl (G 1, 1, .inr (.inl f)))] ++ z) (u := (σ, τ)) (v := (oSought σ τ n k (xs ((7 * j) + 1)) (xs ((7 * j) + 2))).2) (mo := mo) (ad := ad) (As := [.int (xs ((7 * j) + 1)), .int (xs ((7 * j) + 2))]) (rest := [.int ((oSought σ τ n k (xs ((7 * j) + 1)) (xs ((7 * j) + 2))).1)]) ⟨hx, hb, hml, hown, hts⟩ (m_sought l D G mo ad σ τ _ n hV.1.1.1 hV.1.1.2 k hV.1.2.1.1 hV.1.2.1.2 (by omega) (TI.pa hV.2.1) (TI.fc hV.2.1) (TI.ea hV.2.1) (xs ((7 * j) + 1)) (xs ((7 * j) + 2)) ) gV_L_X8_sought hdV_X8_sought ⟨(Nat.le_of_ble_eq_true rfl), (Nat.le_of_ble_eq_true rfl)⟩ hK hP hD hS hA rfl hl.1 rfl (Nat.le_of_ble_eq_true rfl) dL_law_824 ⟨(show cells + 0 ≤ 603072 by omega), (show slots + 0 ≤ 7262314 by omega)⟩ (fun H locs hP hD hS => ?_)
  have hP := P_perm hP pm_r
  have hD := D_perm pm_r hD
  have hP : va_P D vwCl ((mW G mo ad (oSought σ τ n k (xs ((7 * j) + 1)) (xs ((7 * j) + 2))).2.1 (oSought σ τ n k (xs ((7 * j) + 1)) (xs ((7 * j) + 2))).2.2 ++ [(o, .inl (G 1, 1, .inr (.inl f)))]) ++ z) H := hP
  have hD : va_D (fun q => s.heap.size ≤ q) ((mW G mo ad (oSought σ τ n k (xs ((7 * j) + 1)) (xs ((7 * j) + 2))).2.1 (oSought σ τ n k (xs ((7 * j) + 1)) (xs ((7 * j) + 2))).2.2 ++ [(o, .inl (G 1, 1, .inr (.inl f)))]) ++ z) := hD
  refine W.eq (g2 := F0 m 827 ls [.int ((oSought σ τ n k (xs ((7 * j) + 1)) (xs ((7 * j) + 2))).1), .int ((oSought σ τ n k (xs ((7 * j) + 1)) (xs ((7 * j) + 2))).1)]) rfl ?_
  refine lv_icmp_eq (tgt := 1019) hx hb dL_law_827 (by decide) (fun hh => ?_) (fun hh => absurd rfl hh)
  refine W.widen (k := cells + 4) (n := slots + 22) (by omega) (by omega) ?_
  exact kk (oSought σ τ n k (xs ((7 * j) + 1)) (xs ((7 * j) + 2))).2 _ _ _ ⟨f, z, hN, hP, hD, hS⟩ (lv_sub hl [0, 1, 2, 3, 4] rfl)
set_option maxHeartbeats 1600000 in
set_option maxRecDepth 100000 in
theorem lc_argument {p : Program} {l : Launch} {e : Env} {s : State} {m : MethodId} {below : List Frame} {meth : Method} {c : Code} {b L : Nat} {xs : Nat → Int32} {D : va_G} {G : Nat → ClassId} {sa : Nat → Nat} {ca : Nat → Nat} {mo : Nat} {ad : Nat → Nat} {o : Nat} {Q : State → Prop} (C0 : LCx p l s m c b L xs D G sa) {j : Nat} (hj : 7 * j + 6 < L) {u : MU} {H : Heap} {locs : List Loc} {ls : Array Slot} {cells slots : Nat} (hW : LW s D G ca mo ad o u H locs) (hl : lv_has ls 8 [(4, .int (nI (7 * j))), (3, .ref o), (2, .ref mo), (1, .ref (ca 0)), (0, .ref b)]) (hc : cells + 4 ≤ 603072 ∧ slots + 22 ≤ 7262314)
    (kk : ∀ (u : MU) (H : Heap) (locs : List Loc) (ls : Array Slot), LW s D G ca mo ad o u H locs → lv_has ls 8 [(4, .int (nI (7 * j))), (3, .ref o), (2, .ref mo), (1, .ref (ca 0)), (0, .ref b)] → W p l e room_1 s m #[Value.ref b] below meth c H locs (cells + 4) (slots + 22) Q (F0 m 1019 ls [])) : W p l e room_1 s m #[Value.ref b] below meth c H locs cells slots Q (F0 m 832 ls []) := by
  obtain ⟨hx, hb, hml, hown, hts, hX, hbl, hK, hXS, hXZ, hst, hL⟩ := id C0
  have hbA : ¬ (fun q : Nat => s.heap.size ≤ q) b := Nat.not_le.mpr hbl
  have hA : ∀ q : Nat, s.heap.size ≤ q → (fun q : Nat => s.heap.size ≤ q) q := fun _ h => h
  obtain ⟨σ, τ⟩ := u
  obtain ⟨f, z, ⟨n, k, w0, κ, x, hV, hC⟩, hP, hD, hS⟩ := hW
  have hP : va_P D vwCl ((mW G mo ad σ τ ++ [(o, .inl (G 1, 1, .inr (.inl f)))]) ++ z) H := hP
  have hD : va_D (fun q => s.heap.size ≤ q) ((mW G mo ad σ τ ++ [(o, .inl (G 1, 1, .inr (.inl f)))]) ++ z) := hD
  have hV : IV σ x τ κ n k w0 := hV
  have hC : CW G ca σ x κ k z := hC
  refine lv_aload_n hx hb dL_law_832 rfl (lv_at hl 3 rfl) ?_
  refine lv_aload_n hx hb dL_law_833 rfl (lv_at hl 4 rfl) ?_
  refine lv_iload hx hb dL_law_834 (lv_at hl 0 rfl) ?_
  refine lv_iconst (v := 1) hx hb dL_law_836 (by decide) ?_
  refine lv_iadd hx hb dL_law_837 ?_
  refine sld_n hx hb hX hbl hbA hS hL ((7 * j) + 1) (n_add (a := (7 * j)) (b := 1) rfl (rfl : (1 : Int32) = nI 1)) (by omega) dL_law_838 ?_
  refine lv_aload_n hx hb dL_law_839 rfl (lv_at hl 4 rfl) ?_
  refine lv_iload hx hb dL_law_840 (lv_at hl 0 rfl) ?_
  refine lv_iconst (v := 2) hx hb dL_law_842 (by decide) ?_
  refine lv_iadd hx hb dL_law_843 ?_
  refine sld_n hx hb hX hbl hbA hS hL ((7 * j) + 2) (n_add (a := (7 * j)) (b := 2) rfl (rfl : (2 : Int32) = nI 2)) (by omega) dL_law_844 ?_
  refine fr_Vc (wr := mW G mo ad σ τ ++ [(o, .inl (G 1, 1, .inr (.inl f)))]) (wc := z) (As := [.int (xs ((7 * j) + 1)), .int (xs ((7 * j) + 2))]) (rest := []) ⟨hx, hb, hml, hown, hts⟩ (u_argument l D G ca n k w0 σ x τ κ z _ hV hC (xs ((7 * j) + 1)) (xs ((7 * j) + 2))) gV_L_X7_argument hdV_X7_argument ⟨(Nat.le_of_ble_eq_true rfl), (Nat.le_of_ble_eq_true rfl)⟩ hK (hC.recv hK (fr_P hP)) hP hD hS hA rfl hl.1 rfl (Nat.le_of_ble_eq_true rfl) dL_law_845 ⟨(show cells + 0 ≤ 603072 by omega), (show slots + 0 ≤ 7262314 by omega)⟩ (fun z H locs hN hP hD hS => ?_)
  refine W.eq (g2 := F0 m 848 ls [.int ((oArg σ τ n w0 (xs ((7 * j) + 1)) (xs ((7 * j) + 2))).1)]) rfl ?_
  refine lv_aload_n hx hb dL_law_848 rfl (lv_at hl 2 rfl) ?_
  refine lv_aload_n hx hb dL_law_849 rfl (lv_at hl 4 rfl) ?_
  refine lv_iload hx hb dL_law_850 (lv_at hl 0 rfl) ?_
  refine lv_iconst (v := 1) hx hb dL_law_852 (by decide) ?_
  refine lv_iadd hx hb dL_law_853 ?_
  refine sld_n hx hb hX hbl hbA hS hL ((7 * j) + 1) (n_add (a := (7 * j)) (b := 1) rfl (rfl : (1 : Int32) = nI 1)) (by omega) dL_law_854 ?_
  refine lv_aload_n hx hb dL_law_855 rfl (lv_at hl 4 rfl) ?_
  refine lv_iload hx hb dL_law_856 (lv_at hl 0 rfl) ?_
  refine lv_iconst (v := 2) hx hb dL_law_858 (by decide) ?_
  refine lv_iadd hx hb dL_law_859 ?_
  refine sld_n hx hb hX hbl hbA hS hL ((7 * j) + 2) (n_add (a := (7 * j)) (b := 2) rfl (rfl : (2 : Int32) = nI 2)) (by omega) dL_law_860 ?_
  have hP := P_perm hP pm_m
  have hD := D_perm pm_m hD
  have hP : va_P D vwCl (([(o, .inl (G 1, 1, .inr (.inl f)))] ++ z) ++ mW G mo ad σ τ) H := hP
  have hD : va_D (fun q => s.heap.size ≤ q) (([(o, .inl (G 1, 1, .inr (.inl f)))] ++ z) ++ mW G mo ad σ τ) := hD
  refine fr_Vm (wr := [(o, .inl (G 1, 1, .inr (.inl f)))] ++ z) (u := (σ, τ)) (v := (oArg σ τ n w0 (xs ((7 * j) + 1)) (xs ((7 * j) + 2))).2) (mo := mo) (ad := ad) (As := [.int (xs ((7 * j) + 1)), .int (xs ((7 * j) + 2))]) (rest := [.int ((oArg σ τ n w0 (xs ((7 * j) + 1)) (xs ((7 * j) + 2))).1)]) ⟨hx, hb, hml, hown, hts⟩ (m_argument l D G mo ad σ τ _ n hV.1.1.1 hV.1.1.2 w0 hV.1.2.2.1 hV.1.2.2.2  (xs ((7 * j) + 1)) (xs ((7 * j) + 2)) ) gV_L_X8_argument hdV_X8_argument ⟨(Nat.le_of_ble_eq_true rfl), (Nat.le_of_ble_eq_true rfl)⟩ hK hP hD hS hA rfl hl.1 rfl (Nat.le_of_ble_eq_true rfl) dL_law_861 ⟨(show cells + 0 ≤ 603072 by omega), (show slots + 0 ≤ 7262314 by omega)⟩ (fun H locs hP hD hS => ?_)
  have hP := P_perm hP pm_r
  have hD := D_perm pm_r hD
  have hP : va_P D vwCl ((mW G mo ad (oArg σ τ n w0 (xs ((7 * j) + 1)) (xs ((7 * j) + 2))).2.1 (oArg σ τ n w0 (xs ((7 * j) + 1)) (xs ((7 * j) + 2))).2.2 ++ [(o, .inl (G 1, 1, .inr (.inl f)))]) ++ z) H := hP
  have hD : va_D (fun q => s.heap.size ≤ q) ((mW G mo ad (oArg σ τ n w0 (xs ((7 * j) + 1)) (xs ((7 * j) + 2))).2.1 (oArg σ τ n w0 (xs ((7 * j) + 1)) (xs ((7 * j) + 2))).2.2 ++ [(o, .inl (G 1, 1, .inr (.inl f)))]) ++ z) := hD
  refine W.eq (g2 := F0 m 864 ls [.int ((oArg σ τ n w0 (xs ((7 * j) + 1)) (xs ((7 * j) + 2))).1), .int ((oArg σ τ n w0 (xs ((7 * j) + 1)) (xs ((7 * j) + 2))).1)]) rfl ?_
  refine lv_icmp_eq (tgt := 1019) hx hb dL_law_864 (by decide) (fun hh => ?_) (fun hh => absurd rfl hh)
  refine W.widen (k := cells + 4) (n := slots + 22) (by omega) (by omega) ?_
  exact kk (oArg σ τ n w0 (xs ((7 * j) + 1)) (xs ((7 * j) + 2))).2 _ _ _ ⟨f, z, hN, hP, hD, hS⟩ (lv_sub hl [0, 1, 2, 3, 4] rfl)
set_option maxHeartbeats 1600000 in
set_option maxRecDepth 100000 in
theorem lc_call {p : Program} {l : Launch} {e : Env} {s : State} {m : MethodId} {below : List Frame} {meth : Method} {c : Code} {b L : Nat} {xs : Nat → Int32} {D : va_G} {G : Nat → ClassId} {sa : Nat → Nat} {ca : Nat → Nat} {mo : Nat} {ad : Nat → Nat} {o : Nat} {Q : State → Prop} (C0 : LCx p l s m c b L xs D G sa) {j : Nat} (hj : 7 * j + 6 < L) {u : MU} {H : Heap} {locs : List Loc} {ls : Array Slot} {cells slots : Nat} (hW : LW s D G ca mo ad o u H locs) (hl : lv_has ls 8 [(4, .int (nI (7 * j))), (3, .ref o), (2, .ref mo), (1, .ref (ca 0)), (0, .ref b)]) (hc : cells + 4 ≤ 603072 ∧ slots + 22 ≤ 7262314)
    (kk : ∀ (u : MU) (H : Heap) (locs : List Loc) (ls : Array Slot), LW s D G ca mo ad o u H locs → lv_has ls 8 [(4, .int (nI (7 * j))), (3, .ref o), (2, .ref mo), (1, .ref (ca 0)), (0, .ref b)] → W p l e room_1 s m #[Value.ref b] below meth c H locs (cells + 4) (slots + 22) Q (F0 m 1019 ls [])) : W p l e room_1 s m #[Value.ref b] below meth c H locs cells slots Q (F0 m 869 ls []) := by
  obtain ⟨hx, hb, hml, hown, hts, hX, hbl, hK, hXS, hXZ, hst, hL⟩ := id C0
  have hbA : ¬ (fun q : Nat => s.heap.size ≤ q) b := Nat.not_le.mpr hbl
  have hA : ∀ q : Nat, s.heap.size ≤ q → (fun q : Nat => s.heap.size ≤ q) q := fun _ h => h
  obtain ⟨σ, τ⟩ := u
  obtain ⟨f, z, ⟨n, k, w0, κ, x, hV, hC⟩, hP, hD, hS⟩ := hW
  have hP : va_P D vwCl ((mW G mo ad σ τ ++ [(o, .inl (G 1, 1, .inr (.inl f)))]) ++ z) H := hP
  have hD : va_D (fun q => s.heap.size ≤ q) ((mW G mo ad σ τ ++ [(o, .inl (G 1, 1, .inr (.inl f)))]) ++ z) := hD
  have hV : IV σ x τ κ n k w0 := hV
  have hC : CW G ca σ x κ k z := hC
  refine lv_aload_n hx hb dL_law_869 rfl (lv_at hl 3 rfl) ?_
  refine lv_aload_n hx hb dL_law_870 rfl (lv_at hl 4 rfl) ?_
  refine lv_iload hx hb dL_law_871 (lv_at hl 0 rfl) ?_
  refine lv_iconst (v := 1) hx hb dL_law_873 (by decide) ?_
  refine lv_iadd hx hb dL_law_874 ?_
  refine sld_n hx hb hX hbl hbA hS hL ((7 * j) + 1) (n_add (a := (7 * j)) (b := 1) rfl (rfl : (1 : Int32) = nI 1)) (by omega) dL_law_875 ?_
  refine lv_aload_n hx hb dL_law_876 rfl (lv_at hl 4 rfl) ?_
  refine lv_iload hx hb dL_law_877 (lv_at hl 0 rfl) ?_
  refine lv_iconst (v := 2) hx hb dL_law_879 (by decide) ?_
  refine lv_iadd hx hb dL_law_880 ?_
  refine sld_n hx hb hX hbl hbA hS hL ((7 * j) + 2) (n_add (a := (7 * j)) (b := 2) rfl (rfl : (2 : Int32) = nI 2)) (by omega) dL_law_881 ?_
  refine fr_Vc (wr := mW G mo ad σ τ ++ [(o, .inl (G 1, 1, .inr (.inl f)))]) (wc := z) (As := [.int (xs ((7 * j) + 1)), .int (xs ((7 * j) + 2))]) (rest := []) ⟨hx, hb, hml, hown, hts⟩ (u_call l D G ca n k w0 σ x τ κ z _ hV hC (xs ((7 * j) + 1)) (xs ((7 * j) + 2))) gV_L_X7_call hdV_X7_call ⟨(Nat.le_of_ble_eq_true rfl), (Nat.le_of_ble_eq_true rfl)⟩ hK (hC.recv hK (fr_P hP)) hP hD hS hA rfl hl.1 rfl (Nat.le_of_ble_eq_true rfl) dL_law_882 ⟨(show cells + 0 ≤ 603072 by omega), (show slots + 0 ≤ 7262314 by omega)⟩ (fun z H locs hN hP hD hS => ?_)
  refine W.eq (g2 := F0 m 885 ls [.int ((oCall σ τ n k w0 (xs ((7 * j) + 1)) (xs ((7 * j) + 2))).1)]) rfl ?_
  refine lv_aload_n hx hb dL_law_885 rfl (lv_at hl 2 rfl) ?_
  refine lv_aload_n hx hb dL_law_886 rfl (lv_at hl 4 rfl) ?_
  refine lv_iload hx hb dL_law_887 (lv_at hl 0 rfl) ?_
  refine lv_iconst (v := 1) hx hb dL_law_889 (by decide) ?_
  refine lv_iadd hx hb dL_law_890 ?_
  refine sld_n hx hb hX hbl hbA hS hL ((7 * j) + 1) (n_add (a := (7 * j)) (b := 1) rfl (rfl : (1 : Int32) = nI 1)) (by omega) dL_law_891 ?_
  refine lv_aload_n hx hb dL_law_892 rfl (lv_at hl 4 rfl) ?_
  refine lv_iload hx hb dL_law_893 (lv_at hl 0 rfl) ?_
  refine lv_iconst (v := 2) hx hb dL_law_895 (by decide) ?_
  refine lv_iadd hx hb dL_law_896 ?_
  refine sld_n hx hb hX hbl hbA hS hL ((7 * j) + 2) (n_add (a := (7 * j)) (b := 2) rfl (rfl : (2 : Int32) = nI 2)) (by omega) dL_law_897 ?_
  have hP := P_perm hP pm_m
  have hD := D_perm pm_m hD
  have hP : va_P D vwCl (([(o, .inl (G 1, 1, .inr (.inl f)))] ++ z) ++ mW G mo ad σ τ) H := hP
  have hD : va_D (fun q => s.heap.size ≤ q) (([(o, .inl (G 1, 1, .inr (.inl f)))] ++ z) ++ mW G mo ad σ τ) := hD
  refine fr_Vm (wr := [(o, .inl (G 1, 1, .inr (.inl f)))] ++ z) (u := (σ, τ)) (v := (oCall σ τ n k w0 (xs ((7 * j) + 1)) (xs ((7 * j) + 2))).2) (mo := mo) (ad := ad) (As := [.int (xs ((7 * j) + 1)), .int (xs ((7 * j) + 2))]) (rest := [.int ((oCall σ τ n k w0 (xs ((7 * j) + 1)) (xs ((7 * j) + 2))).1)]) ⟨hx, hb, hml, hown, hts⟩ (m_call l D G mo ad σ τ _ n hV.1.1.1 hV.1.1.2 k hV.1.2.1.1 hV.1.2.1.2 w0 hV.1.2.2.1 hV.1.2.2.2 hV.hm hV.hv hV.hp hV.hg hV.2.1.1 hV.he (xs ((7 * j) + 1)) (xs ((7 * j) + 2)) ) gV_L_X8_call hdV_X8_call ⟨(Nat.le_of_ble_eq_true rfl), (Nat.le_of_ble_eq_true rfl)⟩ hK hP hD hS hA rfl hl.1 rfl (Nat.le_of_ble_eq_true rfl) dL_law_898 ⟨(show cells + 0 ≤ 603072 by omega), (show slots + 0 ≤ 7262314 by omega)⟩ (fun H locs hP hD hS => ?_)
  have hP := P_perm hP pm_r
  have hD := D_perm pm_r hD
  have hP : va_P D vwCl ((mW G mo ad (oCall σ τ n k w0 (xs ((7 * j) + 1)) (xs ((7 * j) + 2))).2.1 (oCall σ τ n k w0 (xs ((7 * j) + 1)) (xs ((7 * j) + 2))).2.2 ++ [(o, .inl (G 1, 1, .inr (.inl f)))]) ++ z) H := hP
  have hD : va_D (fun q => s.heap.size ≤ q) ((mW G mo ad (oCall σ τ n k w0 (xs ((7 * j) + 1)) (xs ((7 * j) + 2))).2.1 (oCall σ τ n k w0 (xs ((7 * j) + 1)) (xs ((7 * j) + 2))).2.2 ++ [(o, .inl (G 1, 1, .inr (.inl f)))]) ++ z) := hD
  refine W.eq (g2 := F0 m 901 ls [.int ((oCall σ τ n k w0 (xs ((7 * j) + 1)) (xs ((7 * j) + 2))).1), .int ((oCall σ τ n k w0 (xs ((7 * j) + 1)) (xs ((7 * j) + 2))).1)]) rfl ?_
  refine lv_icmp_eq (tgt := 1019) hx hb dL_law_901 (by decide) (fun hh => ?_) (fun hh => absurd rfl hh)
  refine W.widen (k := cells + 4) (n := slots + 22) (by omega) (by omega) ?_
  exact kk (oCall σ τ n k w0 (xs ((7 * j) + 1)) (xs ((7 * j) + 2))).2 _ _ _ ⟨f, z, hN, hP, hD, hS⟩ (lv_sub hl [0, 1, 2, 3, 4] rfl)
