theorem dX8_ruleOfMember_0 : decode cX8_ruleOfMember 0 = .ok (.aload_n 0, 1) := by decide +kernel
theorem dX8_ruleOfMember_1 : decode cX8_ruleOfMember 1 = .ok (.iload_n 1, 1) := by decide +kernel
theorem dX8_ruleOfMember_2 : decode cX8_ruleOfMember 2 = .ok (.invokevirtual 116, 3) := by decide +kernel
theorem dX8_ruleOfMember_5 : decode cX8_ruleOfMember 5 = .ok (.istore 4, 2) := by decide +kernel
theorem dX8_ruleOfMember_7 : decode cX8_ruleOfMember 7 = .ok (.iload_n 2, 1) := by decide +kernel
theorem dX8_ruleOfMember_8 : decode cX8_ruleOfMember 8 = .ok (.bipush 96, 2) := by decide +kernel
theorem dX8_ruleOfMember_10 : decode cX8_ruleOfMember 10 = .ok (.iand, 1) := by decide +kernel
theorem dX8_ruleOfMember_11 : decode cX8_ruleOfMember 11 = .ok (.ifCond .le 6, 3) := by decide +kernel
theorem dX8_ruleOfMember_17 : decode cX8_ruleOfMember 17 = .ok (.iload_n 2, 1) := by decide +kernel
theorem dX8_ruleOfMember_18 : decode cX8_ruleOfMember 18 = .ok (.bipush 7, 2) := by decide +kernel
theorem dX8_ruleOfMember_20 : decode cX8_ruleOfMember 20 = .ok (.iand, 1) := by decide +kernel
theorem dX8_ruleOfMember_21 : decode cX8_ruleOfMember 21 = .ok (.invokestatic 149, 3) := by decide +kernel
theorem dX8_ruleOfMember_24 : decode cX8_ruleOfMember 24 = .ok (.iconst 1, 1) := by decide +kernel
theorem dX8_ruleOfMember_25 : decode cX8_ruleOfMember 25 = .ok (.if_icmp .le 6, 3) := by decide +kernel
theorem dX8_ruleOfMember_70 : decode cX8_ruleOfMember 70 = .ok (.istore 5, 2) := by decide +kernel
theorem dX8_ruleOfMember_72 : decode cX8_ruleOfMember 72 = .ok (.iload 4, 2) := by decide +kernel
theorem dX8_ruleOfMember_74 : decode cX8_ruleOfMember 74 = .ok (.ifCond .eq 11, 3) := by decide +kernel
theorem dX8_ruleOfMember_85 : decode cX8_ruleOfMember 85 = .ok (.iload_n 2, 1) := by decide +kernel
theorem dX8_ruleOfMember_86 : decode cX8_ruleOfMember 86 = .ok (.sipush 1024, 3) := by decide +kernel
theorem dX8_ruleOfMember_89 : decode cX8_ruleOfMember 89 = .ok (.iand, 1) := by decide +kernel
theorem dX8_ruleOfMember_90 : decode cX8_ruleOfMember 90 = .ok (.ifCond .le 6, 3) := by decide +kernel
theorem dX8_ruleOfMember_109 : decode cX8_ruleOfMember 109 = .ok (.istore 6, 2) := by decide +kernel
theorem dX8_ruleOfMember_111 : decode cX8_ruleOfMember 111 = .ok (.iload 4, 2) := by decide +kernel
theorem dX8_ruleOfMember_113 : decode cX8_ruleOfMember 113 = .ok (.ifCond .ne 19, 3) := by decide +kernel
theorem dX8_ruleOfMember_116 : decode cX8_ruleOfMember 116 = .ok (.iload 6, 2) := by decide +kernel
theorem dX8_ruleOfMember_118 : decode cX8_ruleOfMember 118 = .ok (.ifCond .eq 14, 3) := by decide +kernel
theorem dX8_ruleOfMember_132 : decode cX8_ruleOfMember 132 = .ok (.iload 4, 2) := by decide +kernel
theorem dX8_ruleOfMember_134 : decode cX8_ruleOfMember 134 = .ok (.ifCond .ne 21, 3) := by decide +kernel
theorem dX8_ruleOfMember_137 : decode cX8_ruleOfMember 137 = .ok (.iload 6, 2) := by decide +kernel
theorem dX8_ruleOfMember_139 : decode cX8_ruleOfMember 139 = .ok (.ifCond .eq 16, 3) := by decide +kernel
theorem dX8_ruleOfMember_186 : decode cX8_ruleOfMember 186 = .ok (.istore 7, 2) := by decide +kernel
theorem dX8_ruleOfMember_188 : decode cX8_ruleOfMember 188 = .ok (.iload 7, 2) := by decide +kernel
theorem dX8_ruleOfMember_190 : decode cX8_ruleOfMember 190 = .ok (.iload_n 3, 1) := by decide +kernel
theorem dX8_ruleOfMember_191 : decode cX8_ruleOfMember 191 = .ok (.if_icmp .ne 17, 3) := by decide +kernel
theorem dX8_ruleOfMember_208 : decode cX8_ruleOfMember 208 = .ok (.iconst 0, 1) := by decide +kernel
theorem dX8_ruleOfMember_209 : decode cX8_ruleOfMember 209 = .ok (.ireturn, 1) := by decide +kernel
theorem dX8_ruleOfMember_194 : decode cX8_ruleOfMember 194 = .ok (.iload_n 3, 1) := by decide +kernel
theorem dX8_ruleOfMember_195 : decode cX8_ruleOfMember 195 = .ok (.ifCond .eq 8, 3) := by decide +kernel
theorem dX8_ruleOfMember_203 : decode cX8_ruleOfMember 203 = .ok (.bipush 17, 2) := by decide +kernel
theorem dX8_ruleOfMember_205 : decode cX8_ruleOfMember 205 = .ok (.goto 4, 3) := by decide +kernel
theorem dX8_ruleOfMember_198 : decode cX8_ruleOfMember 198 = .ok (.bipush 16, 2) := by decide +kernel
theorem dX8_ruleOfMember_200 : decode cX8_ruleOfMember 200 = .ok (.goto 9, 3) := by decide +kernel
theorem dX8_ruleOfMember_155 : decode cX8_ruleOfMember 155 = .ok (.iload 6, 2) := by decide +kernel
theorem dX8_ruleOfMember_157 : decode cX8_ruleOfMember 157 = .ok (.ifCond .ne 24, 3) := by decide +kernel
theorem dX8_ruleOfMember_160 : decode cX8_ruleOfMember 160 = .ok (.iload_n 2, 1) := by decide +kernel
theorem dX8_ruleOfMember_161 : decode cX8_ruleOfMember 161 = .ok (.sipush 256, 3) := by decide +kernel
theorem dX8_ruleOfMember_164 : decode cX8_ruleOfMember 164 = .ok (.iand, 1) := by decide +kernel
theorem dX8_ruleOfMember_165 : decode cX8_ruleOfMember 165 = .ok (.ifCond .gt 16, 3) := by decide +kernel
theorem dX8_ruleOfMember_181 : decode cX8_ruleOfMember 181 = .ok (.iconst 1, 1) := by decide +kernel
theorem dX8_ruleOfMember_182 : decode cX8_ruleOfMember 182 = .ok (.goto 4, 3) := by decide +kernel
theorem dX8_ruleOfMember_168 : decode cX8_ruleOfMember 168 = .ok (.iload 4, 2) := by decide +kernel
theorem dX8_ruleOfMember_170 : decode cX8_ruleOfMember 170 = .ok (.ifCond .eq 15, 3) := by decide +kernel
theorem dX8_ruleOfMember_185 : decode cX8_ruleOfMember 185 = .ok (.iconst 0, 1) := by decide +kernel
theorem dX8_ruleOfMember_121 : decode cX8_ruleOfMember 121 = .ok (.iload_n 2, 1) := by decide +kernel
theorem dX8_ruleOfMember_122 : decode cX8_ruleOfMember 122 = .ok (.sipush 796, 3) := by decide +kernel
theorem dX8_ruleOfMember_125 : decode cX8_ruleOfMember 125 = .ok (.iand, 1) := by decide +kernel
theorem dX8_ruleOfMember_126 : decode cX8_ruleOfMember 126 = .ok (.ifCond .le 6, 3) := by decide +kernel
theorem dX8_ruleOfMember_142 : decode cX8_ruleOfMember 142 = .ok (.aload_n 0, 1) := by decide +kernel
theorem dX8_ruleOfMember_143 : decode cX8_ruleOfMember 143 = .ok (.getfield 7, 3) := by decide +kernel
theorem dX8_ruleOfMember_146 : decode cX8_ruleOfMember 146 = .ok (.iload_n 1, 1) := by decide +kernel
theorem dX8_ruleOfMember_147 : decode cX8_ruleOfMember 147 = .ok (.iaload, 1) := by decide +kernel
theorem dX8_ruleOfMember_148 : decode cX8_ruleOfMember 148 = .ok (.iconst 1, 1) := by decide +kernel
theorem dX8_ruleOfMember_149 : decode cX8_ruleOfMember 149 = .ok (.if_icmp .eq 6, 3) := by decide +kernel
theorem dX8_ruleOfMember_152 : decode cX8_ruleOfMember 152 = .ok (.bipush 15, 2) := by decide +kernel
theorem dX8_ruleOfMember_154 : decode cX8_ruleOfMember 154 = .ok (.ireturn, 1) := by decide +kernel
theorem dX8_ruleOfMember_129 : decode cX8_ruleOfMember 129 = .ok (.bipush 14, 2) := by decide +kernel
theorem dX8_ruleOfMember_131 : decode cX8_ruleOfMember 131 = .ok (.ireturn, 1) := by decide +kernel
theorem dX8_ruleOfMember_96 : decode cX8_ruleOfMember 96 = .ok (.iload_n 2, 1) := by decide +kernel
theorem dX8_ruleOfMember_97 : decode cX8_ruleOfMember 97 = .ok (.sipush 128, 3) := by decide +kernel
theorem dX8_ruleOfMember_100 : decode cX8_ruleOfMember 100 = .ok (.iand, 1) := by decide +kernel
theorem dX8_ruleOfMember_101 : decode cX8_ruleOfMember 101 = .ok (.ifCond .le 7, 3) := by decide +kernel
theorem dX8_ruleOfMember_108 : decode cX8_ruleOfMember 108 = .ok (.iconst 0, 1) := by decide +kernel
theorem dX8_ruleOfMember_104 : decode cX8_ruleOfMember 104 = .ok (.iconst 1, 1) := by decide +kernel
theorem dX8_ruleOfMember_105 : decode cX8_ruleOfMember 105 = .ok (.goto 4, 3) := by decide +kernel
theorem dX8_ruleOfMember_93 : decode cX8_ruleOfMember 93 = .ok (.bipush 13, 2) := by decide +kernel
theorem dX8_ruleOfMember_95 : decode cX8_ruleOfMember 95 = .ok (.ireturn, 1) := by decide +kernel
theorem dX8_ruleOfMember_77 : decode cX8_ruleOfMember 77 = .ok (.iload 5, 2) := by decide +kernel
theorem dX8_ruleOfMember_79 : decode cX8_ruleOfMember 79 = .ok (.ifCond .eq 17, 3) := by decide +kernel
theorem dX8_ruleOfMember_173 : decode cX8_ruleOfMember 173 = .ok (.iload_n 2, 1) := by decide +kernel
theorem dX8_ruleOfMember_174 : decode cX8_ruleOfMember 174 = .ok (.sipush 1036, 3) := by decide +kernel
theorem dX8_ruleOfMember_177 : decode cX8_ruleOfMember 177 = .ok (.iand, 1) := by decide +kernel
theorem dX8_ruleOfMember_178 : decode cX8_ruleOfMember 178 = .ok (.ifCond .ne 7, 3) := by decide +kernel
theorem dX8_ruleOfMember_82 : decode cX8_ruleOfMember 82 = .ok (.goto 11, 3) := by decide +kernel
theorem dX8_ruleOfMember_31 : decode cX8_ruleOfMember 31 = .ok (.iload_n 2, 1) := by decide +kernel
theorem dX8_ruleOfMember_32 : decode cX8_ruleOfMember 32 = .ok (.sipush 786, 3) := by decide +kernel
theorem dX8_ruleOfMember_35 : decode cX8_ruleOfMember 35 = .ok (.iand, 1) := by decide +kernel
theorem dX8_ruleOfMember_36 : decode cX8_ruleOfMember 36 = .ok (.ifCond .gt 29, 3) := by decide +kernel
theorem dX8_ruleOfMember_65 : decode cX8_ruleOfMember 65 = .ok (.iconst 1, 1) := by decide +kernel
theorem dX8_ruleOfMember_66 : decode cX8_ruleOfMember 66 = .ok (.goto 4, 3) := by decide +kernel
theorem dX8_ruleOfMember_39 : decode cX8_ruleOfMember 39 = .ok (.iload_n 2, 1) := by decide +kernel
theorem dX8_ruleOfMember_40 : decode cX8_ruleOfMember 40 = .ok (.sipush 1160, 3) := by decide +kernel
theorem dX8_ruleOfMember_43 : decode cX8_ruleOfMember 43 = .ok (.iand, 1) := by decide +kernel
theorem dX8_ruleOfMember_44 : decode cX8_ruleOfMember 44 = .ok (.invokestatic 149, 3) := by decide +kernel
theorem dX8_ruleOfMember_47 : decode cX8_ruleOfMember 47 = .ok (.iconst 1, 1) := by decide +kernel
theorem dX8_ruleOfMember_48 : decode cX8_ruleOfMember 48 = .ok (.if_icmp .gt 17, 3) := by decide +kernel
theorem dX8_ruleOfMember_51 : decode cX8_ruleOfMember 51 = .ok (.iload_n 2, 1) := by decide +kernel
theorem dX8_ruleOfMember_52 : decode cX8_ruleOfMember 52 = .ok (.iconst 4, 1) := by decide +kernel
theorem dX8_ruleOfMember_53 : decode cX8_ruleOfMember 53 = .ok (.iand, 1) := by decide +kernel
theorem dX8_ruleOfMember_54 : decode cX8_ruleOfMember 54 = .ok (.ifCond .le 15, 3) := by decide +kernel
theorem dX8_ruleOfMember_69 : decode cX8_ruleOfMember 69 = .ok (.iconst 0, 1) := by decide +kernel
theorem dX8_ruleOfMember_57 : decode cX8_ruleOfMember 57 = .ok (.iload_n 2, 1) := by decide +kernel
theorem dX8_ruleOfMember_58 : decode cX8_ruleOfMember 58 = .ok (.sipush 1152, 3) := by decide +kernel
theorem dX8_ruleOfMember_61 : decode cX8_ruleOfMember 61 = .ok (.iand, 1) := by decide +kernel
theorem dX8_ruleOfMember_62 : decode cX8_ruleOfMember 62 = .ok (.ifCond .le 7, 3) := by decide +kernel
theorem dX8_ruleOfMember_28 : decode cX8_ruleOfMember 28 = .ok (.bipush 12, 2) := by decide +kernel
theorem dX8_ruleOfMember_30 : decode cX8_ruleOfMember 30 = .ok (.ireturn, 1) := by decide +kernel
theorem dX8_ruleOfMember_14 : decode cX8_ruleOfMember 14 = .ok (.bipush 11, 2) := by decide +kernel
theorem dX8_ruleOfMember_16 : decode cX8_ruleOfMember 16 = .ok (.ireturn, 1) := by decide +kernel
theorem dX8_sameParts_20 : decode cX8_sameParts 20 = .ok (.istore_n 3, 1) := by decide +kernel
theorem dX8_sameParts_21 : decode cX8_sameParts 21 = .ok (.iconst 0, 1) := by decide +kernel
theorem dX8_sameParts_22 : decode cX8_sameParts 22 = .ok (.istore 4, 2) := by decide +kernel
theorem dX8_sameParts_24 : decode cX8_sameParts 24 = .ok (.iload_n 3, 1) := by decide +kernel
theorem dX8_sameParts_25 : decode cX8_sameParts 25 = .ok (.ifCond .eq 76, 3) := by decide +kernel
theorem dX8_sameParts_101 : decode cX8_sameParts 101 = .ok (.iload_n 3, 1) := by decide +kernel
theorem dX8_sameParts_102 : decode cX8_sameParts 102 = .ok (.ireturn, 1) := by decide +kernel
theorem dX8_sameParts_28 : decode cX8_sameParts 28 = .ok (.iload 4, 2) := by decide +kernel
theorem dX8_sameParts_30 : decode cX8_sameParts 30 = .ok (.aload_n 0, 1) := by decide +kernel
theorem q_697 : Cond.fieldLink "FieldMemberModel" 57 "FieldMemberModel" "many" "[I" ∈ TT := tt_t (i := 697) (by decide +kernel) (by decide +kernel)
theorem dX8_sameParts_31 : decode cX8_sameParts 31 = .ok (.getfield 57, 3) := by decide +kernel
theorem dX8_sameParts_34 : decode cX8_sameParts 34 = .ok (.iload_n 1, 1) := by decide +kernel
theorem dX8_sameParts_35 : decode cX8_sameParts 35 = .ok (.iaload, 1) := by decide +kernel
theorem dX8_sameParts_36 : decode cX8_sameParts 36 = .ok (.if_icmp .ge 65, 3) := by decide +kernel
theorem dX8_sameParts_94 : decode cX8_sameParts 94 = .ok (.istore_n 3, 1) := by decide +kernel
theorem dX8_sameParts_95 : decode cX8_sameParts 95 = .ok (.iinc 4 1, 3) := by decide +kernel
theorem dX8_sameParts_98 : decode cX8_sameParts 98 = .ok (.goto (-74), 3) := by decide +kernel
theorem dX8_sameParts_39 : decode cX8_sameParts 39 = .ok (.aload_n 0, 1) := by decide +kernel
theorem q_698 : Cond.fieldLink "FieldMemberModel" 60 "FieldMemberModel" "partKinds" "[I" ∈ TT := tt_t (i := 698) (by decide +kernel) (by decide +kernel)
theorem dX8_sameParts_40 : decode cX8_sameParts 40 = .ok (.getfield 60, 3) := by decide +kernel
theorem dX8_sameParts_43 : decode cX8_sameParts 43 = .ok (.iconst 5, 1) := by decide +kernel
theorem dX8_sameParts_44 : decode cX8_sameParts 44 = .ok (.iload_n 1, 1) := by decide +kernel
theorem dX8_sameParts_45 : decode cX8_sameParts 45 = .ok (.imul, 1) := by decide +kernel
theorem dX8_sameParts_46 : decode cX8_sameParts 46 = .ok (.iload 4, 2) := by decide +kernel
theorem dX8_sameParts_48 : decode cX8_sameParts 48 = .ok (.iadd, 1) := by decide +kernel
theorem dX8_sameParts_49 : decode cX8_sameParts 49 = .ok (.iaload, 1) := by decide +kernel
theorem dX8_sameParts_50 : decode cX8_sameParts 50 = .ok (.aload_n 0, 1) := by decide +kernel
theorem dX8_sameParts_51 : decode cX8_sameParts 51 = .ok (.getfield 60, 3) := by decide +kernel
theorem dX8_sameParts_54 : decode cX8_sameParts 54 = .ok (.iconst 5, 1) := by decide +kernel
theorem dX8_sameParts_55 : decode cX8_sameParts 55 = .ok (.iload_n 2, 1) := by decide +kernel
theorem dX8_sameParts_56 : decode cX8_sameParts 56 = .ok (.imul, 1) := by decide +kernel
theorem dX8_sameParts_57 : decode cX8_sameParts 57 = .ok (.iload 4, 2) := by decide +kernel
theorem dX8_sameParts_59 : decode cX8_sameParts 59 = .ok (.iadd, 1) := by decide +kernel
theorem dX8_sameParts_60 : decode cX8_sameParts 60 = .ok (.iaload, 1) := by decide +kernel
theorem dX8_sameParts_61 : decode cX8_sameParts 61 = .ok (.if_icmp .ne 32, 3) := by decide +kernel
theorem dX8_sameParts_93 : decode cX8_sameParts 93 = .ok (.iconst 0, 1) := by decide +kernel
theorem dX8_sameParts_64 : decode cX8_sameParts 64 = .ok (.aload_n 0, 1) := by decide +kernel
theorem q_699 : Cond.fieldLink "FieldMemberModel" 63 "FieldMemberModel" "partDims" "[I" ∈ TT := tt_t (i := 699) (by decide +kernel) (by decide +kernel)
theorem dX8_sameParts_65 : decode cX8_sameParts 65 = .ok (.getfield 63, 3) := by decide +kernel
theorem dX8_sameParts_68 : decode cX8_sameParts 68 = .ok (.iconst 5, 1) := by decide +kernel
theorem dX8_sameParts_69 : decode cX8_sameParts 69 = .ok (.iload_n 1, 1) := by decide +kernel
theorem dX8_sameParts_70 : decode cX8_sameParts 70 = .ok (.imul, 1) := by decide +kernel
theorem dX8_sameParts_71 : decode cX8_sameParts 71 = .ok (.iload 4, 2) := by decide +kernel
theorem dX8_sameParts_73 : decode cX8_sameParts 73 = .ok (.iadd, 1) := by decide +kernel
theorem dX8_sameParts_74 : decode cX8_sameParts 74 = .ok (.iaload, 1) := by decide +kernel
theorem dX8_sameParts_75 : decode cX8_sameParts 75 = .ok (.aload_n 0, 1) := by decide +kernel
theorem dX8_sameParts_76 : decode cX8_sameParts 76 = .ok (.getfield 63, 3) := by decide +kernel
theorem dX8_sameParts_79 : decode cX8_sameParts 79 = .ok (.iconst 5, 1) := by decide +kernel
theorem dX8_sameParts_80 : decode cX8_sameParts 80 = .ok (.iload_n 2, 1) := by decide +kernel
theorem dX8_sameParts_81 : decode cX8_sameParts 81 = .ok (.imul, 1) := by decide +kernel
theorem dX8_sameParts_82 : decode cX8_sameParts 82 = .ok (.iload 4, 2) := by decide +kernel
theorem dX8_sameParts_84 : decode cX8_sameParts 84 = .ok (.iadd, 1) := by decide +kernel
theorem dX8_sameParts_85 : decode cX8_sameParts 85 = .ok (.iaload, 1) := by decide +kernel
theorem dX8_sameParts_86 : decode cX8_sameParts 86 = .ok (.if_icmp .ne 7, 3) := by decide +kernel
theorem dX8_sameParts_89 : decode cX8_sameParts 89 = .ok (.iconst 1, 1) := by decide +kernel
theorem dX8_sameParts_90 : decode cX8_sameParts 90 = .ok (.goto 4, 3) := by decide +kernel
theorem dX8_sameParts_0 : decode cX8_sameParts 0 = .ok (.aload_n 0, 1) := by decide +kernel
theorem dX8_sameParts_1 : decode cX8_sameParts 1 = .ok (.getfield 57, 3) := by decide +kernel
theorem dX8_sameParts_4 : decode cX8_sameParts 4 = .ok (.iload_n 1, 1) := by decide +kernel
theorem dX8_sameParts_5 : decode cX8_sameParts 5 = .ok (.iaload, 1) := by decide +kernel
theorem dX8_sameParts_6 : decode cX8_sameParts 6 = .ok (.aload_n 0, 1) := by decide +kernel
theorem dX8_sameParts_7 : decode cX8_sameParts 7 = .ok (.getfield 57, 3) := by decide +kernel
theorem dX8_sameParts_10 : decode cX8_sameParts 10 = .ok (.iload_n 2, 1) := by decide +kernel
theorem dX8_sameParts_11 : decode cX8_sameParts 11 = .ok (.iaload, 1) := by decide +kernel
theorem dX8_sameParts_12 : decode cX8_sameParts 12 = .ok (.if_icmp .ne 7, 3) := by decide +kernel
theorem dX8_sameParts_19 : decode cX8_sameParts 19 = .ok (.iconst 0, 1) := by decide +kernel
theorem dX8_sameParts_15 : decode cX8_sameParts 15 = .ok (.iconst 1, 1) := by decide +kernel
theorem dX8_sameParts_16 : decode cX8_sameParts 16 = .ok (.goto 4, 3) := by decide +kernel
theorem dX8_stands_0 : decode cX8_stands 0 = .ok (.aload_n 0, 1) := by decide +kernel
theorem q_692 : Cond.fieldLink "FieldMemberModel" 41 "FieldMemberModel" "marks" "[I" ∈ TT := tt_t (i := 692) (by decide +kernel) (by decide +kernel)
theorem dX8_stands_1 : decode cX8_stands 1 = .ok (.getfield 41, 3) := by decide +kernel
theorem dX8_stands_4 : decode cX8_stands 4 = .ok (.iload_n 1, 1) := by decide +kernel
theorem dX8_stands_5 : decode cX8_stands 5 = .ok (.iaload, 1) := by decide +kernel
theorem dX8_stands_6 : decode cX8_stands 6 = .ok (.bipush 8, 2) := by decide +kernel
theorem dX8_stands_8 : decode cX8_stands 8 = .ok (.iand, 1) := by decide +kernel
theorem dX8_stands_9 : decode cX8_stands 9 = .ok (.ifCond .le 20, 3) := by decide +kernel
theorem dX8_stands_29 : decode cX8_stands 29 = .ok (.iconst 0, 1) := by decide +kernel
theorem dX8_stands_30 : decode cX8_stands 30 = .ok (.ireturn, 1) := by decide +kernel
theorem dX8_stands_12 : decode cX8_stands 12 = .ok (.aload_n 0, 1) := by decide +kernel
theorem dX8_stands_13 : decode cX8_stands 13 = .ok (.aload_n 0, 1) := by decide +kernel
theorem dX8_stands_14 : decode cX8_stands 14 = .ok (.getfield 29, 3) := by decide +kernel
theorem dX8_stands_17 : decode cX8_stands 17 = .ok (.iload_n 1, 1) := by decide +kernel
theorem dX8_stands_18 : decode cX8_stands 18 = .ok (.iaload, 1) := by decide +kernel
theorem dX8_stands_19 : decode cX8_stands 19 = .ok (.invokevirtual 116, 3) := by decide +kernel
theorem dX8_stands_22 : decode cX8_stands 22 = .ok (.ifCond .eq 7, 3) := by decide +kernel
theorem dX8_stands_25 : decode cX8_stands 25 = .ok (.iconst 1, 1) := by decide +kernel
theorem dX8_stands_26 : decode cX8_stands 26 = .ok (.goto 4, 3) := by decide +kernel
theorem dX8_meets_0 : decode cX8_meets 0 = .ok (.aload_n 0, 1) := by decide +kernel
theorem dX8_meets_1 : decode cX8_meets 1 = .ok (.getfield 26, 3) := by decide +kernel
theorem dX8_meets_4 : decode cX8_meets 4 = .ok (.iload_n 2, 1) := by decide +kernel
theorem dX8_meets_5 : decode cX8_meets 5 = .ok (.baload, 1) := by decide +kernel
theorem dX8_meets_6 : decode cX8_meets 6 = .ok (.ifCond .eq 46, 3) := by decide +kernel
theorem dX8_meets_52 : decode cX8_meets 52 = .ok (.iconst 0, 1) := by decide +kernel
theorem dX8_meets_53 : decode cX8_meets 53 = .ok (.ireturn, 1) := by decide +kernel
theorem dX8_meets_9 : decode cX8_meets 9 = .ok (.iload_n 1, 1) := by decide +kernel
theorem dX8_meets_10 : decode cX8_meets 10 = .ok (.iload_n 2, 1) := by decide +kernel
theorem dX8_meets_11 : decode cX8_meets 11 = .ok (.if_icmp .eq 41, 3) := by decide +kernel
theorem dX8_meets_14 : decode cX8_meets 14 = .ok (.aload_n 0, 1) := by decide +kernel
theorem dX8_meets_15 : decode cX8_meets 15 = .ok (.getfield 41, 3) := by decide +kernel
theorem dX8_meets_18 : decode cX8_meets 18 = .ok (.iload_n 1, 1) := by decide +kernel
theorem dX8_meets_19 : decode cX8_meets 19 = .ok (.iaload, 1) := by decide +kernel
theorem dX8_meets_20 : decode cX8_meets 20 = .ok (.iconst 4, 1) := by decide +kernel
theorem dX8_meets_21 : decode cX8_meets 21 = .ok (.iand, 1) := by decide +kernel
theorem dX8_meets_22 : decode cX8_meets 22 = .ok (.ifCond .gt 30, 3) := by decide +kernel
theorem dX8_meets_25 : decode cX8_meets 25 = .ok (.aload_n 0, 1) := by decide +kernel
theorem dX8_meets_26 : decode cX8_meets 26 = .ok (.getfield 41, 3) := by decide +kernel
theorem dX8_meets_29 : decode cX8_meets 29 = .ok (.iload_n 2, 1) := by decide +kernel
theorem dX8_meets_30 : decode cX8_meets 30 = .ok (.iaload, 1) := by decide +kernel
theorem dX8_meets_31 : decode cX8_meets 31 = .ok (.iconst 4, 1) := by decide +kernel
theorem dX8_meets_32 : decode cX8_meets 32 = .ok (.iand, 1) := by decide +kernel
theorem dX8_meets_33 : decode cX8_meets 33 = .ok (.ifCond .gt 19, 3) := by decide +kernel
theorem dX8_meets_36 : decode cX8_meets 36 = .ok (.aload_n 0, 1) := by decide +kernel
theorem dX8_meets_37 : decode cX8_meets 37 = .ok (.iload_n 1, 1) := by decide +kernel
theorem q_906 : Cond.methodLink "FieldMemberModel" 175 ⟨"FieldMemberModel", "stands", "(I)Z"⟩ ∈ TT := tt_t (i := 906) (by decide +kernel) (by decide +kernel)
theorem q_909 : Cond.code ⟨"FieldMemberModel", "stands", "(I)Z"⟩ prog_10_method_27_code 2 (some .boolean) ∈ TT := tt_t (i := 909) (by decide +kernel) (by decide +kernel)
theorem q_908 : Cond.instanceMethod ⟨"FieldMemberModel", "stands", "(I)Z"⟩ ∈ TT := tt_t (i := 908) (by decide +kernel) (by decide +kernel)
theorem qs_46 : Cond.selects "FieldMemberModel" ⟨"FieldMemberModel", "stands", "(I)Z"⟩ ⟨"FieldMemberModel", "stands", "(I)Z"⟩ ∈ TT := tt_s (i := 46) (by decide +kernel) (by decide +kernel)
theorem gV_X8_X8_stands : GoodIn TT (wsV RX8 175 RX8 yX8_stands (ww yX8_stands cX8_stands 2 (some .boolean))) := tt_V q_906 q_908 qs_46 q_4 q_909
theorem hdV_X8_stands : yX8_stands.cls = RX8 ∧ yX8_stands.cls ≠ "java/lang/invoke/MethodHandle" ∧ yX8_stands.cls ≠ "java/lang/invoke/VarHandle" ∧ (parseMethodDescriptor yX8_stands.desc).map (fun d => d.parameters.length) = some 1 := by decide +kernel
theorem dX8_meets_38 : decode cX8_meets 38 = .ok (.invokevirtual 175, 3) := by decide +kernel
theorem dX8_meets_41 : decode cX8_meets 41 = .ok (.ifCond .ne 11, 3) := by decide +kernel
theorem dX8_meets_44 : decode cX8_meets 44 = .ok (.aload_n 0, 1) := by decide +kernel
theorem dX8_meets_45 : decode cX8_meets 45 = .ok (.iload_n 2, 1) := by decide +kernel
theorem dX8_meets_46 : decode cX8_meets 46 = .ok (.invokevirtual 175, 3) := by decide +kernel
theorem dX8_meets_49 : decode cX8_meets 49 = .ok (.ifCond .eq 5, 3) := by decide +kernel
theorem dX8_meets_54 : decode cX8_meets 54 = .ok (.aload_n 0, 1) := by decide +kernel
theorem dX8_meets_55 : decode cX8_meets 55 = .ok (.getfield 32, 3) := by decide +kernel
theorem dX8_meets_58 : decode cX8_meets 58 = .ok (.iload_n 1, 1) := by decide +kernel
theorem dX8_meets_59 : decode cX8_meets 59 = .ok (.iaload, 1) := by decide +kernel
theorem dX8_meets_60 : decode cX8_meets 60 = .ok (.aload_n 0, 1) := by decide +kernel
theorem dX8_meets_61 : decode cX8_meets 61 = .ok (.getfield 32, 3) := by decide +kernel
theorem dX8_meets_64 : decode cX8_meets 64 = .ok (.iload_n 2, 1) := by decide +kernel
theorem dX8_meets_65 : decode cX8_meets 65 = .ok (.iaload, 1) := by decide +kernel
theorem dX8_meets_66 : decode cX8_meets 66 = .ok (.if_icmp .ne 50, 3) := by decide +kernel
theorem dX8_meets_116 : decode cX8_meets 116 = .ok (.iconst 0, 1) := by decide +kernel
theorem dX8_meets_117 : decode cX8_meets 117 = .ok (.ireturn, 1) := by decide +kernel
theorem dX8_meets_69 : decode cX8_meets 69 = .ok (.aload_n 0, 1) := by decide +kernel
theorem dX8_meets_70 : decode cX8_meets 70 = .ok (.getfield 29, 3) := by decide +kernel
theorem dX8_meets_73 : decode cX8_meets 73 = .ok (.iload_n 1, 1) := by decide +kernel
theorem dX8_meets_74 : decode cX8_meets 74 = .ok (.iaload, 1) := by decide +kernel
theorem dX8_meets_75 : decode cX8_meets 75 = .ok (.aload_n 0, 1) := by decide +kernel
theorem dX8_meets_76 : decode cX8_meets 76 = .ok (.getfield 29, 3) := by decide +kernel
theorem dX8_meets_79 : decode cX8_meets 79 = .ok (.iload_n 2, 1) := by decide +kernel
theorem dX8_meets_80 : decode cX8_meets 80 = .ok (.iaload, 1) := by decide +kernel
theorem dX8_meets_81 : decode cX8_meets 81 = .ok (.if_icmp .eq 35, 3) := by decide +kernel
theorem dX8_meets_84 : decode cX8_meets 84 = .ok (.aload_n 0, 1) := by decide +kernel
theorem dX8_meets_85 : decode cX8_meets 85 = .ok (.aload_n 0, 1) := by decide +kernel
theorem dX8_meets_86 : decode cX8_meets 86 = .ok (.getfield 29, 3) := by decide +kernel
theorem dX8_meets_89 : decode cX8_meets 89 = .ok (.iload_n 1, 1) := by decide +kernel
theorem dX8_meets_90 : decode cX8_meets 90 = .ok (.iaload, 1) := by decide +kernel
theorem dX8_meets_91 : decode cX8_meets 91 = .ok (.aload_n 0, 1) := by decide +kernel
theorem dX8_meets_92 : decode cX8_meets 92 = .ok (.getfield 29, 3) := by decide +kernel
theorem dX8_meets_95 : decode cX8_meets 95 = .ok (.iload_n 2, 1) := by decide +kernel
theorem dX8_meets_96 : decode cX8_meets 96 = .ok (.iaload, 1) := by decide +kernel
theorem q_815 : Cond.methodLink "FieldMemberModel" 126 ⟨"FieldMemberModel", "lies", "(II)Z"⟩ ∈ TT := tt_t (i := 815) (by decide +kernel) (by decide +kernel)
theorem q_818 : Cond.code ⟨"FieldMemberModel", "lies", "(II)Z"⟩ prog_10_method_12_code 3 (some .boolean) ∈ TT := tt_t (i := 818) (by decide +kernel) (by decide +kernel)
theorem q_817 : Cond.instanceMethod ⟨"FieldMemberModel", "lies", "(II)Z"⟩ ∈ TT := tt_t (i := 817) (by decide +kernel) (by decide +kernel)
theorem qs_35 : Cond.selects "FieldMemberModel" ⟨"FieldMemberModel", "lies", "(II)Z"⟩ ⟨"FieldMemberModel", "lies", "(II)Z"⟩ ∈ TT := tt_s (i := 35) (by decide +kernel) (by decide +kernel)
theorem gV_X8_X8_lies : GoodIn TT (wsV RX8 126 RX8 yX8_lies (ww yX8_lies cX8_lies 3 (some .boolean))) := tt_V q_815 q_817 qs_35 q_4 q_818
theorem hdV_X8_lies : yX8_lies.cls = RX8 ∧ yX8_lies.cls ≠ "java/lang/invoke/MethodHandle" ∧ yX8_lies.cls ≠ "java/lang/invoke/VarHandle" ∧ (parseMethodDescriptor yX8_lies.desc).map (fun d => d.parameters.length) = some 2 := by decide +kernel
theorem dX8_meets_97 : decode cX8_meets 97 = .ok (.invokevirtual 126, 3) := by decide +kernel
theorem dX8_meets_100 : decode cX8_meets 100 = .ok (.ifCond .eq 16, 3) := by decide +kernel
theorem dX8_meets_103 : decode cX8_meets 103 = .ok (.aload_n 0, 1) := by decide +kernel
theorem dX8_meets_104 : decode cX8_meets 104 = .ok (.iload_n 1, 1) := by decide +kernel
theorem dX8_meets_105 : decode cX8_meets 105 = .ok (.iload_n 2, 1) := by decide +kernel
theorem q_898 : Cond.methodLink "FieldMemberModel" 178 ⟨"FieldMemberModel", "sameParts", "(II)Z"⟩ ∈ TT := tt_t (i := 898) (by decide +kernel) (by decide +kernel)
theorem q_901 : Cond.code ⟨"FieldMemberModel", "sameParts", "(II)Z"⟩ prog_10_method_26_code 5 (some .boolean) ∈ TT := tt_t (i := 901) (by decide +kernel) (by decide +kernel)
theorem q_900 : Cond.instanceMethod ⟨"FieldMemberModel", "sameParts", "(II)Z"⟩ ∈ TT := tt_t (i := 900) (by decide +kernel) (by decide +kernel)
theorem qs_44 : Cond.selects "FieldMemberModel" ⟨"FieldMemberModel", "sameParts", "(II)Z"⟩ ⟨"FieldMemberModel", "sameParts", "(II)Z"⟩ ∈ TT := tt_s (i := 44) (by decide +kernel) (by decide +kernel)
theorem gV_X8_X8_sameParts : GoodIn TT (wsV RX8 178 RX8 yX8_sameParts (ww yX8_sameParts cX8_sameParts 5 (some .boolean))) := tt_V q_898 q_900 qs_44 q_4 q_901
theorem hdV_X8_sameParts : yX8_sameParts.cls = RX8 ∧ yX8_sameParts.cls ≠ "java/lang/invoke/MethodHandle" ∧ yX8_sameParts.cls ≠ "java/lang/invoke/VarHandle" ∧ (parseMethodDescriptor yX8_sameParts.desc).map (fun d => d.parameters.length) = some 2 := by decide +kernel
theorem dX8_meets_106 : decode cX8_meets 106 = .ok (.invokevirtual 178, 3) := by decide +kernel
theorem dX8_meets_109 : decode cX8_meets 109 = .ok (.ifCond .eq 7, 3) := by decide +kernel
theorem dX8_meets_112 : decode cX8_meets 112 = .ok (.iconst 1, 1) := by decide +kernel
theorem dX8_meets_113 : decode cX8_meets 113 = .ok (.goto 4, 3) := by decide +kernel
theorem dX8_seen_0 : decode cX8_seen 0 = .ok (.aload_n 0, 1) := by decide +kernel
theorem dX8_seen_1 : decode cX8_seen 1 = .ok (.getfield 41, 3) := by decide +kernel
theorem dX8_seen_4 : decode cX8_seen 4 = .ok (.iload_n 1, 1) := by decide +kernel
theorem dX8_seen_5 : decode cX8_seen 5 = .ok (.iaload, 1) := by decide +kernel
theorem dX8_seen_6 : decode cX8_seen 6 = .ok (.iconst 1, 1) := by decide +kernel
theorem dX8_seen_7 : decode cX8_seen 7 = .ok (.iand, 1) := by decide +kernel
theorem dX8_seen_8 : decode cX8_seen 8 = .ok (.ifCond .le 7, 3) := by decide +kernel
theorem dX8_seen_15 : decode cX8_seen 15 = .ok (.aload_n 0, 1) := by decide +kernel
theorem dX8_seen_16 : decode cX8_seen 16 = .ok (.getfield 41, 3) := by decide +kernel
theorem dX8_seen_19 : decode cX8_seen 19 = .ok (.iload_n 1, 1) := by decide +kernel
theorem dX8_seen_20 : decode cX8_seen 20 = .ok (.iaload, 1) := by decide +kernel
theorem dX8_seen_21 : decode cX8_seen 21 = .ok (.iconst 2, 1) := by decide +kernel
theorem dX8_seen_22 : decode cX8_seen 22 = .ok (.iand, 1) := by decide +kernel
theorem dX8_seen_23 : decode cX8_seen 23 = .ok (.ifCond .le 7, 3) := by decide +kernel
theorem dX8_seen_30 : decode cX8_seen 30 = .ok (.aload_n 0, 1) := by decide +kernel
theorem dX8_seen_31 : decode cX8_seen 31 = .ok (.getfield 41, 3) := by decide +kernel
theorem dX8_seen_34 : decode cX8_seen 34 = .ok (.iload_n 1, 1) := by decide +kernel
theorem dX8_seen_35 : decode cX8_seen 35 = .ok (.iaload, 1) := by decide +kernel
theorem dX8_seen_36 : decode cX8_seen 36 = .ok (.iconst 4, 1) := by decide +kernel
theorem dX8_seen_37 : decode cX8_seen 37 = .ok (.iand, 1) := by decide +kernel
theorem dX8_seen_38 : decode cX8_seen 38 = .ok (.ifCond .le 7, 3) := by decide +kernel
theorem dX8_seen_45 : decode cX8_seen 45 = .ok (.iconst 1, 1) := by decide +kernel
theorem dX8_seen_46 : decode cX8_seen 46 = .ok (.ireturn, 1) := by decide +kernel
theorem dX8_seen_41 : decode cX8_seen 41 = .ok (.iconst 0, 1) := by decide +kernel
theorem dX8_seen_42 : decode cX8_seen 42 = .ok (.goto 4, 3) := by decide +kernel
theorem dX8_seen_26 : decode cX8_seen 26 = .ok (.iconst 2, 1) := by decide +kernel
theorem dX8_seen_27 : decode cX8_seen 27 = .ok (.goto 19, 3) := by decide +kernel
theorem dX8_seen_11 : decode cX8_seen 11 = .ok (.iconst 3, 1) := by decide +kernel
theorem dX8_seen_12 : decode cX8_seen 12 = .ok (.goto 34, 3) := by decide +kernel
theorem dX8_ruleAgainst_0 : decode cX8_ruleAgainst 0 = .ok (.aload_n 0, 1) := by decide +kernel
theorem dX8_ruleAgainst_1 : decode cX8_ruleAgainst 1 = .ok (.getfield 41, 3) := by decide +kernel
theorem dX8_ruleAgainst_4 : decode cX8_ruleAgainst 4 = .ok (.iload_n 2, 1) := by decide +kernel
theorem dX8_ruleAgainst_5 : decode cX8_ruleAgainst 5 = .ok (.iaload, 1) := by decide +kernel
theorem dX8_ruleAgainst_6 : decode cX8_ruleAgainst 6 = .ok (.bipush 16, 2) := by decide +kernel
theorem dX8_ruleAgainst_8 : decode cX8_ruleAgainst 8 = .ok (.iand, 1) := by decide +kernel
theorem dX8_ruleAgainst_9 : decode cX8_ruleAgainst 9 = .ok (.ifCond .le 6, 3) := by decide +kernel
theorem dX8_ruleAgainst_15 : decode cX8_ruleAgainst 15 = .ok (.aload_n 0, 1) := by decide +kernel
theorem dX8_ruleAgainst_16 : decode cX8_ruleAgainst 16 = .ok (.getfield 41, 3) := by decide +kernel
theorem dX8_ruleAgainst_19 : decode cX8_ruleAgainst 19 = .ok (.iload_n 1, 1) := by decide +kernel
theorem dX8_ruleAgainst_20 : decode cX8_ruleAgainst 20 = .ok (.iaload, 1) := by decide +kernel
theorem dX8_ruleAgainst_21 : decode cX8_ruleAgainst 21 = .ok (.bipush 8, 2) := by decide +kernel
theorem dX8_ruleAgainst_23 : decode cX8_ruleAgainst 23 = .ok (.iand, 1) := by decide +kernel
theorem dX8_ruleAgainst_24 : decode cX8_ruleAgainst 24 = .ok (.aload_n 0, 1) := by decide +kernel
theorem dX8_ruleAgainst_25 : decode cX8_ruleAgainst 25 = .ok (.getfield 41, 3) := by decide +kernel
theorem dX8_ruleAgainst_28 : decode cX8_ruleAgainst 28 = .ok (.iload_n 2, 1) := by decide +kernel
theorem dX8_ruleAgainst_29 : decode cX8_ruleAgainst 29 = .ok (.iaload, 1) := by decide +kernel
theorem dX8_ruleAgainst_30 : decode cX8_ruleAgainst 30 = .ok (.bipush 8, 2) := by decide +kernel
theorem dX8_ruleAgainst_32 : decode cX8_ruleAgainst 32 = .ok (.iand, 1) := by decide +kernel
theorem dX8_ruleAgainst_33 : decode cX8_ruleAgainst 33 = .ok (.if_icmp .eq 6, 3) := by decide +kernel
theorem dX8_ruleAgainst_74 : decode cX8_ruleAgainst 74 = .ok (.istore_n 3, 1) := by decide +kernel
theorem dX8_ruleAgainst_145 : decode cX8_ruleAgainst 145 = .ok (.istore 4, 2) := by decide +kernel
theorem dX8_ruleAgainst_147 : decode cX8_ruleAgainst 147 = .ok (.iload_n 3, 1) := by decide +kernel
theorem dX8_ruleAgainst_148 : decode cX8_ruleAgainst 148 = .ok (.ifCond .ne 11, 3) := by decide +kernel
theorem dX8_ruleAgainst_159 : decode cX8_ruleAgainst 159 = .ok (.aload_n 0, 1) := by decide +kernel
theorem dX8_ruleAgainst_160 : decode cX8_ruleAgainst 160 = .ok (.iload_n 1, 1) := by decide +kernel
theorem q_914 : Cond.methodLink "FieldMemberModel" 181 ⟨"FieldMemberModel", "seen", "(I)I"⟩ ∈ TT := tt_t (i := 914) (by decide +kernel) (by decide +kernel)
theorem q_917 : Cond.code ⟨"FieldMemberModel", "seen", "(I)I"⟩ prog_10_method_29_code 2 (some .int) ∈ TT := tt_t (i := 917) (by decide +kernel) (by decide +kernel)
theorem q_916 : Cond.instanceMethod ⟨"FieldMemberModel", "seen", "(I)I"⟩ ∈ TT := tt_t (i := 916) (by decide +kernel) (by decide +kernel)
theorem qs_48 : Cond.selects "FieldMemberModel" ⟨"FieldMemberModel", "seen", "(I)I"⟩ ⟨"FieldMemberModel", "seen", "(I)I"⟩ ∈ TT := tt_s (i := 48) (by decide +kernel) (by decide +kernel)
theorem gV_X8_X8_seen : GoodIn TT (wsV RX8 181 RX8 yX8_seen (ww yX8_seen cX8_seen 2 (some .int))) := tt_V q_914 q_916 qs_48 q_4 q_917
theorem hdV_X8_seen : yX8_seen.cls = RX8 ∧ yX8_seen.cls ≠ "java/lang/invoke/MethodHandle" ∧ yX8_seen.cls ≠ "java/lang/invoke/VarHandle" ∧ (parseMethodDescriptor yX8_seen.desc).map (fun d => d.parameters.length) = some 1 := by decide +kernel
theorem dX8_ruleAgainst_161 : decode cX8_ruleAgainst 161 = .ok (.invokevirtual 181, 3) := by decide +kernel
theorem dX8_ruleAgainst_164 : decode cX8_ruleAgainst 164 = .ok (.aload_n 0, 1) := by decide +kernel
theorem dX8_ruleAgainst_165 : decode cX8_ruleAgainst 165 = .ok (.iload_n 2, 1) := by decide +kernel
theorem dX8_ruleAgainst_166 : decode cX8_ruleAgainst 166 = .ok (.invokevirtual 181, 3) := by decide +kernel
theorem dX8_ruleAgainst_169 : decode cX8_ruleAgainst 169 = .ok (.if_icmp .ge 8, 3) := by decide +kernel
theorem dX8_ruleAgainst_177 : decode cX8_ruleAgainst 177 = .ok (.iconst 0, 1) := by decide +kernel
theorem dX8_ruleAgainst_178 : decode cX8_ruleAgainst 178 = .ok (.ireturn, 1) := by decide +kernel
theorem dX8_ruleAgainst_172 : decode cX8_ruleAgainst 172 = .ok (.bipush 25, 2) := by decide +kernel
theorem dX8_ruleAgainst_174 : decode cX8_ruleAgainst 174 = .ok (.goto 4, 3) := by decide +kernel
theorem dX8_ruleAgainst_151 : decode cX8_ruleAgainst 151 = .ok (.iload 4, 2) := by decide +kernel
theorem dX8_ruleAgainst_153 : decode cX8_ruleAgainst 153 = .ok (.ifCond .ne 6, 3) := by decide +kernel
theorem dX8_ruleAgainst_156 : decode cX8_ruleAgainst 156 = .ok (.bipush 24, 2) := by decide +kernel
theorem dX8_ruleAgainst_158 : decode cX8_ruleAgainst 158 = .ok (.ireturn, 1) := by decide +kernel
theorem dX8_ruleAgainst_75 : decode cX8_ruleAgainst 75 = .ok (.aload_n 0, 1) := by decide +kernel
theorem q_691 : Cond.fieldLink "FieldMemberModel" 38 "FieldMemberModel" "dims" "[I" ∈ TT := tt_t (i := 691) (by decide +kernel) (by decide +kernel)
theorem dX8_ruleAgainst_76 : decode cX8_ruleAgainst 76 = .ok (.getfield 38, 3) := by decide +kernel
theorem dX8_ruleAgainst_79 : decode cX8_ruleAgainst 79 = .ok (.iload_n 1, 1) := by decide +kernel
theorem dX8_ruleAgainst_80 : decode cX8_ruleAgainst 80 = .ok (.iaload, 1) := by decide +kernel
theorem dX8_ruleAgainst_81 : decode cX8_ruleAgainst 81 = .ok (.ifCond .ne 63, 3) := by decide +kernel
theorem dX8_ruleAgainst_144 : decode cX8_ruleAgainst 144 = .ok (.iconst 0, 1) := by decide +kernel
theorem dX8_ruleAgainst_84 : decode cX8_ruleAgainst 84 = .ok (.aload_n 0, 1) := by decide +kernel
theorem dX8_ruleAgainst_85 : decode cX8_ruleAgainst 85 = .ok (.getfield 38, 3) := by decide +kernel
theorem dX8_ruleAgainst_88 : decode cX8_ruleAgainst 88 = .ok (.iload_n 2, 1) := by decide +kernel
theorem dX8_ruleAgainst_89 : decode cX8_ruleAgainst 89 = .ok (.iaload, 1) := by decide +kernel
theorem dX8_ruleAgainst_90 : decode cX8_ruleAgainst 90 = .ok (.ifCond .ne 54, 3) := by decide +kernel
theorem dX8_ruleAgainst_93 : decode cX8_ruleAgainst 93 = .ok (.aload_n 0, 1) := by decide +kernel
theorem q_690 : Cond.fieldLink "FieldMemberModel" 35 "FieldMemberModel" "kinds" "[I" ∈ TT := tt_t (i := 690) (by decide +kernel) (by decide +kernel)
theorem dX8_ruleAgainst_94 : decode cX8_ruleAgainst 94 = .ok (.getfield 35, 3) := by decide +kernel
theorem dX8_ruleAgainst_97 : decode cX8_ruleAgainst 97 = .ok (.iload_n 1, 1) := by decide +kernel
theorem dX8_ruleAgainst_98 : decode cX8_ruleAgainst 98 = .ok (.iaload, 1) := by decide +kernel
theorem dX8_ruleAgainst_99 : decode cX8_ruleAgainst 99 = .ok (.bipush 9, 2) := by decide +kernel
theorem dX8_ruleAgainst_101 : decode cX8_ruleAgainst 101 = .ok (.if_icmp .le 43, 3) := by decide +kernel
theorem dX8_ruleAgainst_104 : decode cX8_ruleAgainst 104 = .ok (.aload_n 0, 1) := by decide +kernel
theorem dX8_ruleAgainst_105 : decode cX8_ruleAgainst 105 = .ok (.getfield 35, 3) := by decide +kernel
theorem dX8_ruleAgainst_108 : decode cX8_ruleAgainst 108 = .ok (.iload_n 2, 1) := by decide +kernel
theorem dX8_ruleAgainst_109 : decode cX8_ruleAgainst 109 = .ok (.iaload, 1) := by decide +kernel
theorem dX8_ruleAgainst_110 : decode cX8_ruleAgainst 110 = .ok (.bipush 9, 2) := by decide +kernel
theorem dX8_ruleAgainst_112 : decode cX8_ruleAgainst 112 = .ok (.if_icmp .le 32, 3) := by decide +kernel
theorem dX8_ruleAgainst_115 : decode cX8_ruleAgainst 115 = .ok (.aload_n 0, 1) := by decide +kernel
theorem dX8_ruleAgainst_116 : decode cX8_ruleAgainst 116 = .ok (.aload_n 0, 1) := by decide +kernel
theorem dX8_ruleAgainst_117 : decode cX8_ruleAgainst 117 = .ok (.getfield 35, 3) := by decide +kernel
theorem dX8_ruleAgainst_120 : decode cX8_ruleAgainst 120 = .ok (.iload_n 1, 1) := by decide +kernel
theorem dX8_ruleAgainst_121 : decode cX8_ruleAgainst 121 = .ok (.iaload, 1) := by decide +kernel
theorem dX8_ruleAgainst_122 : decode cX8_ruleAgainst 122 = .ok (.bipush 10, 2) := by decide +kernel
theorem dX8_ruleAgainst_124 : decode cX8_ruleAgainst 124 = .ok (.isub, 1) := by decide +kernel
theorem dX8_ruleAgainst_125 : decode cX8_ruleAgainst 125 = .ok (.aload_n 0, 1) := by decide +kernel
theorem dX8_ruleAgainst_126 : decode cX8_ruleAgainst 126 = .ok (.getfield 35, 3) := by decide +kernel
theorem dX8_ruleAgainst_129 : decode cX8_ruleAgainst 129 = .ok (.iload_n 2, 1) := by decide +kernel
theorem dX8_ruleAgainst_130 : decode cX8_ruleAgainst 130 = .ok (.iaload, 1) := by decide +kernel
theorem dX8_ruleAgainst_131 : decode cX8_ruleAgainst 131 = .ok (.bipush 10, 2) := by decide +kernel
theorem dX8_ruleAgainst_133 : decode cX8_ruleAgainst 133 = .ok (.isub, 1) := by decide +kernel
theorem dX8_ruleAgainst_134 : decode cX8_ruleAgainst 134 = .ok (.invokevirtual 126, 3) := by decide +kernel
theorem dX8_ruleAgainst_137 : decode cX8_ruleAgainst 137 = .ok (.ifCond .eq 7, 3) := by decide +kernel
theorem dX8_ruleAgainst_140 : decode cX8_ruleAgainst 140 = .ok (.iconst 1, 1) := by decide +kernel
theorem dX8_ruleAgainst_141 : decode cX8_ruleAgainst 141 = .ok (.goto 4, 3) := by decide +kernel
theorem dX8_ruleAgainst_39 : decode cX8_ruleAgainst 39 = .ok (.aload_n 0, 1) := by decide +kernel
theorem dX8_ruleAgainst_40 : decode cX8_ruleAgainst 40 = .ok (.getfield 35, 3) := by decide +kernel
theorem dX8_ruleAgainst_43 : decode cX8_ruleAgainst 43 = .ok (.iload_n 1, 1) := by decide +kernel
theorem dX8_ruleAgainst_44 : decode cX8_ruleAgainst 44 = .ok (.iaload, 1) := by decide +kernel
theorem dX8_ruleAgainst_45 : decode cX8_ruleAgainst 45 = .ok (.aload_n 0, 1) := by decide +kernel
theorem dX8_ruleAgainst_46 : decode cX8_ruleAgainst 46 = .ok (.getfield 35, 3) := by decide +kernel
theorem dX8_ruleAgainst_49 : decode cX8_ruleAgainst 49 = .ok (.iload_n 2, 1) := by decide +kernel
theorem dX8_ruleAgainst_50 : decode cX8_ruleAgainst 50 = .ok (.iaload, 1) := by decide +kernel
theorem dX8_ruleAgainst_51 : decode cX8_ruleAgainst 51 = .ok (.if_icmp .ne 22, 3) := by decide +kernel
theorem dX8_ruleAgainst_73 : decode cX8_ruleAgainst 73 = .ok (.iconst 0, 1) := by decide +kernel
theorem dX8_ruleAgainst_54 : decode cX8_ruleAgainst 54 = .ok (.aload_n 0, 1) := by decide +kernel
theorem dX8_ruleAgainst_55 : decode cX8_ruleAgainst 55 = .ok (.getfield 38, 3) := by decide +kernel
theorem dX8_ruleAgainst_58 : decode cX8_ruleAgainst 58 = .ok (.iload_n 1, 1) := by decide +kernel
theorem dX8_ruleAgainst_59 : decode cX8_ruleAgainst 59 = .ok (.iaload, 1) := by decide +kernel
theorem dX8_ruleAgainst_60 : decode cX8_ruleAgainst 60 = .ok (.aload_n 0, 1) := by decide +kernel
theorem dX8_ruleAgainst_61 : decode cX8_ruleAgainst 61 = .ok (.getfield 38, 3) := by decide +kernel
theorem dX8_ruleAgainst_64 : decode cX8_ruleAgainst 64 = .ok (.iload_n 2, 1) := by decide +kernel
theorem dX8_ruleAgainst_65 : decode cX8_ruleAgainst 65 = .ok (.iaload, 1) := by decide +kernel
theorem dX8_ruleAgainst_66 : decode cX8_ruleAgainst 66 = .ok (.if_icmp .ne 7, 3) := by decide +kernel
theorem dX8_ruleAgainst_69 : decode cX8_ruleAgainst 69 = .ok (.iconst 1, 1) := by decide +kernel
theorem dX8_ruleAgainst_70 : decode cX8_ruleAgainst 70 = .ok (.goto 4, 3) := by decide +kernel
theorem dX8_ruleAgainst_36 : decode cX8_ruleAgainst 36 = .ok (.bipush 23, 2) := by decide +kernel
theorem dX8_ruleAgainst_38 : decode cX8_ruleAgainst 38 = .ok (.ireturn, 1) := by decide +kernel
theorem dX8_ruleAgainst_12 : decode cX8_ruleAgainst 12 = .ok (.bipush 22, 2) := by decide +kernel
theorem dX8_ruleAgainst_14 : decode cX8_ruleAgainst 14 = .ok (.ireturn, 1) := by decide +kernel
theorem dX8_leastMet_0 : decode cX8_leastMet 0 = .ok (.iconst 0, 1) := by decide +kernel
theorem dX8_leastMet_1 : decode cX8_leastMet 1 = .ok (.istore_n 2, 1) := by decide +kernel
theorem dX8_leastMet_2 : decode cX8_leastMet 2 = .ok (.iload_n 2, 1) := by decide +kernel
theorem dX8_leastMet_3 : decode cX8_leastMet 3 = .ok (.aload_n 0, 1) := by decide +kernel
theorem dX8_leastMet_4 : decode cX8_leastMet 4 = .ok (.getfield 119, 3) := by decide +kernel
theorem dX8_leastMet_7 : decode cX8_leastMet 7 = .ok (.if_icmp .ge 20, 3) := by decide +kernel
theorem dX8_leastMet_27 : decode cX8_leastMet 27 = .ok (.iconst (-1), 1) := by decide +kernel
theorem dX8_leastMet_28 : decode cX8_leastMet 28 = .ok (.ireturn, 1) := by decide +kernel
theorem dX8_leastMet_10 : decode cX8_leastMet 10 = .ok (.aload_n 0, 1) := by decide +kernel
theorem dX8_leastMet_11 : decode cX8_leastMet 11 = .ok (.iload_n 1, 1) := by decide +kernel
theorem dX8_leastMet_12 : decode cX8_leastMet 12 = .ok (.iload_n 2, 1) := by decide +kernel
theorem q_902 : Cond.methodLink "FieldMemberModel" 184 ⟨"FieldMemberModel", "meets", "(II)Z"⟩ ∈ TT := tt_t (i := 902) (by decide +kernel) (by decide +kernel)
theorem q_905 : Cond.code ⟨"FieldMemberModel", "meets", "(II)Z"⟩ prog_10_method_28_code 3 (some .boolean) ∈ TT := tt_t (i := 905) (by decide +kernel) (by decide +kernel)
theorem q_904 : Cond.instanceMethod ⟨"FieldMemberModel", "meets", "(II)Z"⟩ ∈ TT := tt_t (i := 904) (by decide +kernel) (by decide +kernel)
theorem qs_45 : Cond.selects "FieldMemberModel" ⟨"FieldMemberModel", "meets", "(II)Z"⟩ ⟨"FieldMemberModel", "meets", "(II)Z"⟩ ∈ TT := tt_s (i := 45) (by decide +kernel) (by decide +kernel)
theorem gV_X8_X8_meets : GoodIn TT (wsV RX8 184 RX8 yX8_meets (ww yX8_meets cX8_meets 3 (some .boolean))) := tt_V q_902 q_904 qs_45 q_4 q_905
theorem hdV_X8_meets : yX8_meets.cls = RX8 ∧ yX8_meets.cls ≠ "java/lang/invoke/MethodHandle" ∧ yX8_meets.cls ≠ "java/lang/invoke/VarHandle" ∧ (parseMethodDescriptor yX8_meets.desc).map (fun d => d.parameters.length) = some 2 := by decide +kernel
theorem dX8_leastMet_13 : decode cX8_leastMet 13 = .ok (.invokevirtual 184, 3) := by decide +kernel
theorem dX8_leastMet_16 : decode cX8_leastMet 16 = .ok (.ifCond .eq 5, 3) := by decide +kernel
theorem dX8_leastMet_21 : decode cX8_leastMet 21 = .ok (.iinc 2 1, 3) := by decide +kernel
theorem dX8_leastMet_24 : decode cX8_leastMet 24 = .ok (.goto (-22), 3) := by decide +kernel
theorem dX8_leastMet_19 : decode cX8_leastMet 19 = .ok (.iload_n 2, 1) := by decide +kernel
theorem dX8_leastMet_20 : decode cX8_leastMet 20 = .ok (.ireturn, 1) := by decide +kernel
theorem dX8_both_0 : decode cX8_both 0 = .ok (.iload_n 0, 1) := by decide +kernel
theorem dX8_both_1 : decode cX8_both 1 = .ok (.iconst (-1), 1) := by decide +kernel
theorem dX8_both_2 : decode cX8_both 2 = .ok (.if_icmp .ne 7, 3) := by decide +kernel
theorem dX8_both_9 : decode cX8_both 9 = .ok (.iload_n 1, 1) := by decide +kernel
theorem dX8_both_10 : decode cX8_both 10 = .ok (.iconst (-1), 1) := by decide +kernel
theorem dX8_both_11 : decode cX8_both 11 = .ok (.if_icmp .eq 8, 3) := by decide +kernel
theorem dX8_both_19 : decode cX8_both 19 = .ok (.iload_n 0, 1) := by decide +kernel
theorem dX8_both_20 : decode cX8_both 20 = .ok (.goto 5, 3) := by decide +kernel
theorem dX8_both_25 : decode cX8_both 25 = .ok (.ireturn, 1) := by decide +kernel
theorem dX8_both_14 : decode cX8_both 14 = .ok (.iload_n 0, 1) := by decide +kernel
theorem dX8_both_15 : decode cX8_both 15 = .ok (.iload_n 1, 1) := by decide +kernel
theorem dX8_both_16 : decode cX8_both 16 = .ok (.if_icmp .ne 7, 3) := by decide +kernel
theorem dX8_both_23 : decode cX8_both 23 = .ok (.bipush (-2), 2) := by decide +kernel
theorem dX8_both_5 : decode cX8_both 5 = .ok (.iload_n 1, 1) := by decide +kernel
theorem dX8_both_6 : decode cX8_both 6 = .ok (.goto 19, 3) := by decide +kernel
theorem dX8_widens_0 : decode cX8_widens 0 = .ok (.iload_n 0, 1) := by decide +kernel
theorem dX8_widens_1 : decode cX8_widens 1 = .ok (.iconst 4, 1) := by decide +kernel
theorem dX8_widens_2 : decode cX8_widens 2 = .ok (.if_icmp .ne 11, 3) := by decide +kernel
theorem dX8_widens_13 : decode cX8_widens 13 = .ok (.iload_n 0, 1) := by decide +kernel
theorem dX8_widens_14 : decode cX8_widens 14 = .ok (.iconst 2, 1) := by decide +kernel
theorem dX8_widens_15 : decode cX8_widens 15 = .ok (.bipush 7, 2) := by decide +kernel
theorem dX8_widens_17 : decode cX8_widens 17 = .ok (.invokestatic 97, 3) := by decide +kernel
theorem dX8_widens_20 : decode cX8_widens 20 = .ok (.ifCond .eq 27, 3) := by decide +kernel
theorem dX8_widens_47 : decode cX8_widens 47 = .ok (.iconst 0, 1) := by decide +kernel
theorem dX8_widens_48 : decode cX8_widens 48 = .ok (.ireturn, 1) := by decide +kernel
theorem dX8_widens_23 : decode cX8_widens 23 = .ok (.iload_n 1, 1) := by decide +kernel
theorem dX8_widens_24 : decode cX8_widens 24 = .ok (.iconst 3, 1) := by decide +kernel
theorem dX8_widens_25 : decode cX8_widens 25 = .ok (.bipush 8, 2) := by decide +kernel
theorem dX8_widens_27 : decode cX8_widens 27 = .ok (.invokestatic 97, 3) := by decide +kernel
theorem dX8_widens_30 : decode cX8_widens 30 = .ok (.ifCond .eq 17, 3) := by decide +kernel
theorem dX8_widens_33 : decode cX8_widens 33 = .ok (.iload_n 1, 1) := by decide +kernel
theorem dX8_widens_34 : decode cX8_widens 34 = .ok (.iload_n 0, 1) := by decide +kernel
theorem dX8_widens_35 : decode cX8_widens 35 = .ok (.if_icmp .le 12, 3) := by decide +kernel
theorem dX8_widens_38 : decode cX8_widens 38 = .ok (.iload_n 1, 1) := by decide +kernel
theorem dX8_widens_39 : decode cX8_widens 39 = .ok (.iconst 4, 1) := by decide +kernel
theorem dX8_widens_40 : decode cX8_widens 40 = .ok (.if_icmp .eq 7, 3) := by decide +kernel
theorem dX8_widens_43 : decode cX8_widens 43 = .ok (.iconst 1, 1) := by decide +kernel
theorem dX8_widens_44 : decode cX8_widens 44 = .ok (.goto 4, 3) := by decide +kernel
theorem dX8_widens_5 : decode cX8_widens 5 = .ok (.iload_n 1, 1) := by decide +kernel
theorem dX8_widens_6 : decode cX8_widens 6 = .ok (.iconst 5, 1) := by decide +kernel
theorem dX8_widens_7 : decode cX8_widens 7 = .ok (.bipush 8, 2) := by decide +kernel
theorem dX8_widens_9 : decode cX8_widens 9 = .ok (.invokestatic 97, 3) := by decide +kernel
theorem dX8_widens_12 : decode cX8_widens 12 = .ok (.ireturn, 1) := by decide +kernel
theorem dX8_fits_0 : decode cX8_fits 0 = .ok (.iload_n 1, 1) := by decide +kernel
theorem dX8_fits_1 : decode cX8_fits 1 = .ok (.iload_n 3, 1) := by decide +kernel
theorem dX8_fits_2 : decode cX8_fits 2 = .ok (.if_icmp .ne 11, 3) := by decide +kernel
theorem dX8_fits_13 : decode cX8_fits 13 = .ok (.iload_n 1, 1) := by decide +kernel
theorem dX8_fits_14 : decode cX8_fits 14 = .ok (.bipush 9, 2) := by decide +kernel
theorem dX8_fits_16 : decode cX8_fits 16 = .ok (.if_icmp .ne 20, 3) := by decide +kernel
theorem dX8_fits_36 : decode cX8_fits 36 = .ok (.iload_n 2, 1) := by decide +kernel
theorem dX8_fits_37 : decode cX8_fits 37 = .ok (.ifCond .ne 20, 3) := by decide +kernel
theorem dX8_fits_57 : decode cX8_fits 57 = .ok (.iload_n 2, 1) := by decide +kernel
theorem dX8_fits_58 : decode cX8_fits 58 = .ok (.iload 4, 2) := by decide +kernel
theorem dX8_fits_60 : decode cX8_fits 60 = .ok (.if_icmp .ne 34, 3) := by decide +kernel
theorem dX8_fits_94 : decode cX8_fits 94 = .ok (.iconst 0, 1) := by decide +kernel
theorem dX8_fits_95 : decode cX8_fits 95 = .ok (.ireturn, 1) := by decide +kernel
theorem dX8_fits_63 : decode cX8_fits 63 = .ok (.iload_n 1, 1) := by decide +kernel
theorem dX8_fits_64 : decode cX8_fits 64 = .ok (.bipush 9, 2) := by decide +kernel
theorem dX8_fits_66 : decode cX8_fits 66 = .ok (.if_icmp .le 28, 3) := by decide +kernel
theorem dX8_fits_69 : decode cX8_fits 69 = .ok (.iload_n 3, 1) := by decide +kernel
theorem dX8_fits_70 : decode cX8_fits 70 = .ok (.bipush 9, 2) := by decide +kernel
theorem dX8_fits_72 : decode cX8_fits 72 = .ok (.if_icmp .le 22, 3) := by decide +kernel
theorem dX8_fits_75 : decode cX8_fits 75 = .ok (.aload_n 0, 1) := by decide +kernel
theorem dX8_fits_76 : decode cX8_fits 76 = .ok (.iload_n 1, 1) := by decide +kernel
theorem dX8_fits_77 : decode cX8_fits 77 = .ok (.bipush 10, 2) := by decide +kernel
theorem dX8_fits_79 : decode cX8_fits 79 = .ok (.isub, 1) := by decide +kernel
theorem dX8_fits_80 : decode cX8_fits 80 = .ok (.iload_n 3, 1) := by decide +kernel
theorem dX8_fits_81 : decode cX8_fits 81 = .ok (.bipush 10, 2) := by decide +kernel
theorem dX8_fits_83 : decode cX8_fits 83 = .ok (.isub, 1) := by decide +kernel
theorem dX8_fits_84 : decode cX8_fits 84 = .ok (.invokevirtual 126, 3) := by decide +kernel
theorem dX8_fits_87 : decode cX8_fits 87 = .ok (.ifCond .eq 7, 3) := by decide +kernel
theorem dX8_fits_90 : decode cX8_fits 90 = .ok (.iconst 1, 1) := by decide +kernel
theorem dX8_fits_91 : decode cX8_fits 91 = .ok (.goto 4, 3) := by decide +kernel
theorem dX8_fits_40 : decode cX8_fits 40 = .ok (.iload 4, 2) := by decide +kernel
theorem dX8_fits_42 : decode cX8_fits 42 = .ok (.ifCond .ne 15, 3) := by decide +kernel
theorem dX8_fits_45 : decode cX8_fits 45 = .ok (.iload_n 1, 1) := by decide +kernel
theorem dX8_fits_46 : decode cX8_fits 46 = .ok (.bipush 9, 2) := by decide +kernel
theorem dX8_fits_48 : decode cX8_fits 48 = .ok (.if_icmp .ge 9, 3) := by decide +kernel
theorem dX8_fits_51 : decode cX8_fits 51 = .ok (.iload_n 1, 1) := by decide +kernel
theorem dX8_fits_52 : decode cX8_fits 52 = .ok (.iload_n 3, 1) := by decide +kernel
theorem q_973 : Cond.methodLink "FieldMemberModel" 199 ⟨"FieldMemberModel", "widens", "(II)Z"⟩ ∈ TT := tt_t (i := 973) (by decide +kernel) (by decide +kernel)
theorem q_975 : Cond.code ⟨"FieldMemberModel", "widens", "(II)Z"⟩ prog_10_method_39_code 2 (some .boolean) ∈ TT := tt_t (i := 975) (by decide +kernel) (by decide +kernel)
theorem q_974 : Cond.static ⟨"FieldMemberModel", "widens", "(II)Z"⟩ ∈ TT := tt_t (i := 974) (by decide +kernel) (by decide +kernel)
theorem gS_X8_X8_widens : GoodIn TT (va_wsS RX8 199 yX8_widens (ww yX8_widens cX8_widens 2 (some .boolean))) := tt_S q_973 q_974 q_4 q_975
theorem hdS_X8_widens : yX8_widens.cls ≠ "java/lang/invoke/MethodHandle" ∧ yX8_widens.cls ≠ "java/lang/invoke/VarHandle" ∧ (parseMethodDescriptor yX8_widens.desc).map (fun d => d.parameters.length) = some 2 := by decide +kernel
theorem dX8_fits_53 : decode cX8_fits 53 = .ok (.invokestatic 199, 3) := by decide +kernel
theorem dX8_fits_56 : decode cX8_fits 56 = .ok (.ireturn, 1) := by decide +kernel
theorem dX8_fits_19 : decode cX8_fits 19 = .ok (.iload 4, 2) := by decide +kernel
theorem dX8_fits_21 : decode cX8_fits 21 = .ok (.ifCond .gt 9, 3) := by decide +kernel
theorem dX8_fits_30 : decode cX8_fits 30 = .ok (.iconst 1, 1) := by decide +kernel
theorem dX8_fits_31 : decode cX8_fits 31 = .ok (.goto 4, 3) := by decide +kernel
theorem dX8_fits_35 : decode cX8_fits 35 = .ok (.ireturn, 1) := by decide +kernel
theorem dX8_fits_24 : decode cX8_fits 24 = .ok (.iload_n 3, 1) := by decide +kernel
theorem dX8_fits_25 : decode cX8_fits 25 = .ok (.bipush 9, 2) := by decide +kernel
theorem dX8_fits_27 : decode cX8_fits 27 = .ok (.if_icmp .le 7, 3) := by decide +kernel
theorem dX8_fits_34 : decode cX8_fits 34 = .ok (.iconst 0, 1) := by decide +kernel
theorem dX8_fits_5 : decode cX8_fits 5 = .ok (.iload_n 2, 1) := by decide +kernel
theorem dX8_fits_6 : decode cX8_fits 6 = .ok (.iload 4, 2) := by decide +kernel
theorem dX8_fits_8 : decode cX8_fits 8 = .ok (.if_icmp .ne 5, 3) := by decide +kernel
theorem dX8_fits_11 : decode cX8_fits 11 = .ok (.iconst 1, 1) := by decide +kernel
theorem dX8_fits_12 : decode cX8_fits 12 = .ok (.ireturn, 1) := by decide +kernel
set_option maxHeartbeats 4000000 in
set_option maxRecDepth 100000 in
theorem m_ruleOfMember (l : Launch) (D : va_G) (G : Nat → ClassId) (H : Heap) (mo : Nat) (ad : Nat → Nat) (σ : MS) (τ : Nat → Int64) (hP : va_P D vwCl (mW G mo ad σ τ) H) (t : Nat) (ht : t < 12) (mm : Int32) (bd : Int32) : Met l yX8_ruleOfMember (ww yX8_ruleOfMember cX8_ruleOfMember 8 (some .int)) (rmD 1) (roP D G H [.ref mo, .int (nI t), .int mm, .int bd]) (vp_Si (fun r => r = aRM (σ 2 t) mm bd)) 0 0 (fun _ => False) := by
  refine Met.ofW (cc := cX8_ruleOfMember) (maxL := 8) (ret := (some .int)) (by decide) rfl ?_
  intro p e s m args below meth c s₁ B hml hv
  obtain ⟨rfl, hH, hK⟩ := hv
  have hx := B.exec
  have hb := B.bytes
  have hr := B.returns
  have hts : ∀ w ∈ TT, w.before _ s = true := fun w h => atoms_spec (ws := ww yX8_ruleOfMember cX8_ruleOfMember 8 (some .int)) B.pre w (List.mem_cons_of_mem _ h)
  have hown : s.vm.findClass RX8 = some m.cls := findClass_of_methodNamed B.named
  have hlocks := B.notSynchronized
  rw [hH]
  have hl := lv_entry ([.ref mo, .int (nI t), .int mm, .int bd]) (n := 8) (Nat.le_of_ble_eq_true rfl)
  rw [lg_entry_eq]
  generalize (lg_sl ([.ref mo, .int (nI t), .int mm, .int bd]) ++ List.replicate (8 - (lg_sl ([.ref mo, .int (nI t), .int mm, .int bd])).length) Slot.unset).toArray = ls at hl ⊢
  have hl : lv_has ls 8 [(0, .ref mo), (1, .int (nI t)), (2, .int mm), (3, .int bd)] := hl
  refine lv_aload_n hx hb dX8_ruleOfMember_0 rfl (lv_at hl 0 rfl) ?_
  refine lv_iload_n hx hb dX8_ruleOfMember_1 rfl (lv_at hl 1 rfl) ?_
  refine ro_Vi (D := D) (G := G) (As := [.int (nI t)]) (rest := []) ⟨hx, hb, hml, hown, hts⟩ (m_isFace l D G _ mo ad _ _ hP (t) (by omega)) gV_X8_X8_isFace hdV_X8_isFace ⟨Nat.le_of_ble_eq_true rfl, Nat.le_of_ble_eq_true rfl⟩ hK (va_recv hK.1 hP (ci := 8) (q0 := 0) rfl rfl) rfl hl.1 rfl (Nat.le_of_ble_eq_true rfl) dX8_ruleOfMember_2 ⟨Nat.le_of_ble_eq_true rfl, Nat.le_of_ble_eq_true rfl⟩ (fun r1 e_r1 => ?_)
  subst e_r1
  refine lv_istore (lv' := [(4, .int (bI (σ 2 (t) = 3))), (0, .ref mo), (1, .int (nI t)), (2, .int mm), (3, .int bd)]) hx hb dX8_ruleOfMember_5 hl (by decide) rfl (fun ls hl => ?_)
  refine lv_iload_n hx hb dX8_ruleOfMember_7 rfl (lv_at hl 3 rfl) ?_
  refine lv_bipush (v := 96) hx hb dX8_ruleOfMember_8 (by decide) ?_
  refine lv_iand hx hb dX8_ruleOfMember_10 ?_
  refine lv_if_le (tgt := 17) hx hb dX8_ruleOfMember_11 (by decide) (fun c2 => ?_) (fun c2 => ?_)
  · -- 11 taken
    have c2 := and_le (by decide) c2
    refine lv_iload_n hx hb dX8_ruleOfMember_17 rfl (lv_at hl 3 rfl) ?_
    refine lv_bipush (v := 7) hx hb dX8_ruleOfMember_18 (by decide) ?_
    refine lv_iand hx hb dX8_ruleOfMember_20 ?_
    refine ro_Si (D := D) (G := G) (As := [.int (mm &&& 7)]) (rest := []) ⟨hx, hb, hml, hown, hts⟩ (m_bits l D G _ (mm &&& 7)) gS_X8_X8_bits hdS_X8_bits ⟨Nat.le_of_ble_eq_true rfl, Nat.le_of_ble_eq_true rfl⟩ hK rfl hl.1 rfl (Nat.le_of_ble_eq_true rfl) dX8_ruleOfMember_21 ⟨Nat.le_of_ble_eq_true rfl, Nat.le_of_ble_eq_true rfl⟩ (fun r3 e_r3 => ?_)
    subst e_r3
    refine lv_iconst (v := 1) hx hb dX8_ruleOfMember_24 (by decide) ?_
    refine lv_icmp_le (tgt := 31) hx hb dX8_ruleOfMember_25 (by decide) (fun c4 => ?_) (fun c4 => ?_)
    · -- 25 taken
      refine w_join (P := fun b9 => b9 = bI (badF mm)) 70 (ls := ls) (rest := []) (fun b6 e_b6 => ?_) (fun J5 => ?_)
      · -- behind the meeting at 70
        subst e_b6
        refine lv_istore (lv' := [(5, .int (bI (badF mm))), (4, .int (bI (σ 2 (t) = 3))), (0, .ref mo), (1, .int (nI t)), (2, .int mm), (3, .int bd)]) hx hb dX8_ruleOfMember_70 hl (by decide) rfl (fun ls hl => ?_)
        refine lv_iload hx hb dX8_ruleOfMember_72 (lv_at hl 1 rfl) ?_
        refine lv_if_eq (tgt := 85) hx hb dX8_ruleOfMember_74 (by decide) (fun c7 => ?_) (fun c7 => ?_)
        · -- 74 taken
          have c7 := bI_0 c7
          refine lv_iload_n hx hb dX8_ruleOfMember_85 rfl (lv_at hl 4 rfl) ?_
          refine lv_sipush (v := 1024) hx hb dX8_ruleOfMember_86 (by decide) ?_
          refine lv_iand hx hb dX8_ruleOfMember_89 ?_
          refine lv_if_le (tgt := 96) hx hb dX8_ruleOfMember_90 (by decide) (fun c8 => ?_) (fun c8 => ?_)
          · -- 90 taken
            have c8 := and_le (by decide) c8
            refine w_join (P := fun b9 => b9 = bI (¬ mm &&& 128 = 0)) 109 (ls := ls) (rest := []) (fun b10 e_b10 => ?_) (fun J9 => ?_)
            · -- behind the meeting at 109
              subst e_b10
              refine lv_istore (lv' := [(6, .int (bI (¬ mm &&& 128 = 0))), (5, .int (bI (badF mm))), (4, .int (bI (σ 2 (t) = 3))), (0, .ref mo), (1, .int (nI t)), (2, .int mm), (3, .int bd)]) hx hb dX8_ruleOfMember_109 hl (by decide) rfl (fun ls hl => ?_)
              refine lv_iload hx hb dX8_ruleOfMember_111 (lv_at hl 2 rfl) ?_
              refine lv_if_ne (tgt := 132) hx hb dX8_ruleOfMember_113 (by decide) (fun hh => absurd (bI_1 hh) c7) (fun hh => ?_)
              refine lv_iload hx hb dX8_ruleOfMember_116 (lv_at hl 0 rfl) ?_
              refine lv_if_eq (tgt := 132) hx hb dX8_ruleOfMember_118 (by decide) (fun c12 => ?_) (fun c12 => ?_)
              · -- 118 taken
                have c12 := bI_0 c12
                refine lv_iload hx hb dX8_ruleOfMember_132 (lv_at hl 2 rfl) ?_
                refine lv_if_ne (tgt := 155) hx hb dX8_ruleOfMember_134 (by decide) (fun hh => absurd (bI_1 hh) c7) (fun hh => ?_)
                refine lv_iload hx hb dX8_ruleOfMember_137 (lv_at hl 0 rfl) ?_
                refine lv_if_eq (tgt := 155) hx hb dX8_ruleOfMember_139 (by decide) (fun hh => ?_) (fun hh => absurd (bI_1 hh) c12)
                refine w_join (P := fun b9 => b9 = bI (bare (σ 2 t) mm)) 186 (ls := ls) (rest := []) (fun b16 e_b16 => ?_) (fun J15 => ?_)
                · -- behind the meeting at 186
                  subst e_b16
                  refine lv_istore (lv' := [(7, .int (bI (bare (σ 2 t) mm))), (6, .int (bI (¬ mm &&& 128 = 0))), (5, .int (bI (badF mm))), (4, .int (bI (σ 2 (t) = 3))), (0, .ref mo), (1, .int (nI t)), (2, .int mm), (3, .int bd)]) hx hb dX8_ruleOfMember_186 hl (by decide) rfl (fun ls hl => ?_)
                  refine lv_iload hx hb dX8_ruleOfMember_188 (lv_at hl 0 rfl) ?_
                  refine lv_iload_n hx hb dX8_ruleOfMember_190 rfl (lv_at hl 7 rfl) ?_
                  refine lv_icmp_ne (tgt := 208) hx hb dX8_ruleOfMember_191 (by decide) (fun c17 => ?_) (fun c17 => ?_)
                  · -- 191 taken
                    refine lv_iconst (v := 0) hx hb dX8_ruleOfMember_208 (by decide) ?_
                    exact ro_iret (v := 0) hx hb hr hH hlocks dX8_ruleOfMember_209 (by unfold aRM; simp only [eq_true c2, eq_true c4, eq_false c7, eq_true c8, eq_false c12, eq_false c17, not_true, not_false_iff, not_true_eq_false, not_false_eq_true, true_or, or_true, false_or, or_false, or_self, and_self, true_and, and_true, false_and, and_false, if_true, if_false])
                  · -- 191 not
                    refine lv_iload_n hx hb dX8_ruleOfMember_194 rfl (lv_at hl 7 rfl) ?_
                    refine lv_if_eq (tgt := 203) hx hb dX8_ruleOfMember_195 (by decide) (fun c18 => ?_) (fun c18 => ?_)
                    · -- 195 taken
                      refine lv_bipush (v := 17) hx hb dX8_ruleOfMember_203 (by decide) ?_
                      refine lv_goto (tgt := 209) hx hb dX8_ruleOfMember_205 (by decide) ?_
                      exact ro_iret (v := 17) hx hb hr hH hlocks dX8_ruleOfMember_209 (by unfold aRM; simp only [eq_true c2, eq_true c4, eq_false c7, eq_true c8, eq_false c12, eq_true c17, eq_true c18, not_true, not_false_iff, not_true_eq_false, not_false_eq_true, true_or, or_true, false_or, or_false, or_self, and_self, true_and, and_true, false_and, and_false, if_true, if_false])
                    · -- 195 not
                      refine lv_bipush (v := 16) hx hb dX8_ruleOfMember_198 (by decide) ?_
                      refine lv_goto (tgt := 209) hx hb dX8_ruleOfMember_200 (by decide) ?_
                      exact ro_iret (v := 16) hx hb hr hH hlocks dX8_ruleOfMember_209 (by unfold aRM; simp only [eq_true c2, eq_true c4, eq_false c7, eq_true c8, eq_false c12, eq_true c17, eq_false c18, not_true, not_false_iff, not_true_eq_false, not_false_eq_true, true_or, or_true, false_or, or_false, or_self, and_self, true_and, and_true, false_and, and_false, if_true, if_false])
                · -- up to the meeting at 186
                  refine lv_iload hx hb dX8_ruleOfMember_155 (lv_at hl 0 rfl) ?_
                  refine lv_if_ne (tgt := 181) hx hb dX8_ruleOfMember_157 (by decide) (fun hh => absurd (bI_1 hh) c12) (fun hh => ?_)
                  refine lv_iload_n hx hb dX8_ruleOfMember_160 rfl (lv_at hl 5 rfl) ?_
                  refine lv_sipush (v := 256) hx hb dX8_ruleOfMember_161 (by decide) ?_
                  refine lv_iand hx hb dX8_ruleOfMember_164 ?_
                  refine lv_if_gt (tgt := 181) hx hb dX8_ruleOfMember_165 (by decide) (fun c20 => ?_) (fun c20 => ?_)
                  · -- 165 taken
                    have c20 := and_gt c20
                    refine lv_iconst (v := 1) hx hb dX8_ruleOfMember_181 (by decide) ?_
                    refine lv_goto (tgt := 186) hx hb dX8_ruleOfMember_182 (by decide) ?_
                    exact J15 1 ((bI_t (by rw [bare_def]; simp only [eq_true c2, eq_true c4, eq_false c7, eq_true c8, eq_false c12, eq_false c20, not_true, not_false_iff, not_true_eq_false, not_false_eq_true, true_or, or_true, false_or, or_false, or_self, and_self, true_and, and_true, false_and, and_false, if_true, if_false])).symm)
                  · -- 165 not
                    have c20 := and_ngt (by decide) c20
                    refine lv_iload hx hb dX8_ruleOfMember_168 (lv_at hl 2 rfl) ?_
                    refine lv_if_eq (tgt := 185) hx hb dX8_ruleOfMember_170 (by decide) (fun hh => ?_) (fun hh => absurd (bI_1 hh) c7)
                    refine lv_iconst (v := 0) hx hb dX8_ruleOfMember_185 (by decide) ?_
                    exact J15 0 ((bI_f (by rw [bare_def]; simp only [eq_true c2, eq_true c4, eq_false c7, eq_true c8, eq_false c12, eq_true c20, not_true, not_false_iff, not_true_eq_false, not_false_eq_true, true_or, or_true, false_or, or_false, or_self, and_self, true_and, and_true, false_and, and_false, if_true, if_false])).symm)
              · -- 118 not
                have c12 := bI_1 c12
                refine lv_iload_n hx hb dX8_ruleOfMember_121 rfl (lv_at hl 5 rfl) ?_
                refine lv_sipush (v := 796) hx hb dX8_ruleOfMember_122 (by decide) ?_
                refine lv_iand hx hb dX8_ruleOfMember_125 ?_
                refine lv_if_le (tgt := 132) hx hb dX8_ruleOfMember_126 (by decide) (fun c22 => ?_) (fun c22 => ?_)
                · -- 126 taken
                  have c22 := and_le (by decide) c22
                  refine lv_iload hx hb dX8_ruleOfMember_132 (lv_at hl 2 rfl) ?_
                  refine lv_if_ne (tgt := 155) hx hb dX8_ruleOfMember_134 (by decide) (fun hh => absurd (bI_1 hh) c7) (fun hh => ?_)
                  refine lv_iload hx hb dX8_ruleOfMember_137 (lv_at hl 0 rfl) ?_
                  refine lv_if_eq (tgt := 155) hx hb dX8_ruleOfMember_139 (by decide) (fun hh => absurd c12 (bI_0 hh)) (fun hh => ?_)
                  refine lv_aload_n hx hb dX8_ruleOfMember_142 rfl (lv_at hl 3 rfl) ?_
                  refine va_get (D := D) (ci := 8) (v := .ref ((ad 2))) (C := RX8) (T := TX8) (N := 33) hx hb hts iX8 hown hK.1 hP 0 rfl rfl 2 (by decide) (hts _ q_681) (fun _ h9 => h9) rfl dX8_ruleOfMember_143 ?_
                  refine lv_iload_n hx hb dX8_ruleOfMember_146 rfl (lv_at hl 4 rfl) ?_
                  refine iald_n (f := σ 2) hx hb hK.1 hP 1 0 rfl rfl (t) rfl (by omega) (by decide) dX8_ruleOfMember_147 ?_
                  refine lv_iconst (v := 1) hx hb dX8_ruleOfMember_148 (by decide) ?_
                  refine lv_icmp_eq (tgt := 155) hx hb dX8_ruleOfMember_149 (by decide) (fun c25 => ?_) (fun c25 => ?_)
                  · -- 149 taken
                    refine w_join (P := fun b9 => b9 = bI (bare (σ 2 t) mm)) 186 (ls := ls) (rest := []) (fun b27 e_b27 => ?_) (fun J26 => ?_)
                    · -- behind the meeting at 186
                      subst e_b27
                      refine lv_istore (lv' := [(7, .int (bI (bare (σ 2 t) mm))), (6, .int (bI (¬ mm &&& 128 = 0))), (5, .int (bI (badF mm))), (4, .int (bI (σ 2 (t) = 3))), (0, .ref mo), (1, .int (nI t)), (2, .int mm), (3, .int bd)]) hx hb dX8_ruleOfMember_186 hl (by decide) rfl (fun ls hl => ?_)
                      refine lv_iload hx hb dX8_ruleOfMember_188 (lv_at hl 0 rfl) ?_
                      refine lv_iload_n hx hb dX8_ruleOfMember_190 rfl (lv_at hl 7 rfl) ?_
                      refine lv_icmp_ne (tgt := 208) hx hb dX8_ruleOfMember_191 (by decide) (fun c28 => ?_) (fun c28 => ?_)
                      · -- 191 taken
                        refine lv_iconst (v := 0) hx hb dX8_ruleOfMember_208 (by decide) ?_
                        exact ro_iret (v := 0) hx hb hr hH hlocks dX8_ruleOfMember_209 (by unfold aRM; simp only [eq_true c2, eq_true c4, eq_false c7, eq_true c8, eq_true c12, eq_true c22, eq_true c25, eq_false c28, not_true, not_false_iff, not_true_eq_false, not_false_eq_true, true_or, or_true, false_or, or_false, or_self, and_self, true_and, and_true, false_and, and_false, if_true, if_false])
                      · -- 191 not
                        refine lv_iload_n hx hb dX8_ruleOfMember_194 rfl (lv_at hl 7 rfl) ?_
                        refine lv_if_eq (tgt := 203) hx hb dX8_ruleOfMember_195 (by decide) (fun c29 => ?_) (fun c29 => ?_)
                        · -- 195 taken
                          refine lv_bipush (v := 17) hx hb dX8_ruleOfMember_203 (by decide) ?_
                          refine lv_goto (tgt := 209) hx hb dX8_ruleOfMember_205 (by decide) ?_
                          exact ro_iret (v := 17) hx hb hr hH hlocks dX8_ruleOfMember_209 (by unfold aRM; simp only [eq_true c2, eq_true c4, eq_false c7, eq_true c8, eq_true c12, eq_true c22, eq_true c25, eq_true c28, eq_true c29, not_true, not_false_iff, not_true_eq_false, not_false_eq_true, true_or, or_true, false_or, or_false, or_self, and_self, true_and, and_true, false_and, and_false, if_true, if_false])
                        · -- 195 not
                          refine lv_bipush (v := 16) hx hb dX8_ruleOfMember_198 (by decide) ?_
                          refine lv_goto (tgt := 209) hx hb dX8_ruleOfMember_200 (by decide) ?_
                          exact ro_iret (v := 16) hx hb hr hH hlocks dX8_ruleOfMember_209 (by unfold aRM; simp only [eq_true c2, eq_true c4, eq_false c7, eq_true c8, eq_true c12, eq_true c22, eq_true c25, eq_true c28, eq_false c29, not_true, not_false_iff, not_true_eq_false, not_false_eq_true, true_or, or_true, false_or, or_false, or_self, and_self, true_and, and_true, false_and, and_false, if_true, if_false])
                    · -- up to the meeting at 186
                      refine lv_iload hx hb dX8_ruleOfMember_155 (lv_at hl 0 rfl) ?_
                      refine lv_if_ne (tgt := 181) hx hb dX8_ruleOfMember_157 (by decide) (fun hh => ?_) (fun hh => absurd c12 (bI_0 hh))
                      refine lv_iconst (v := 1) hx hb dX8_ruleOfMember_181 (by decide) ?_
                      refine lv_goto (tgt := 186) hx hb dX8_ruleOfMember_182 (by decide) ?_
                      exact J26 1 ((bI_t (by rw [bare_def]; simp only [eq_true c2, eq_true c4, eq_false c7, eq_true c8, eq_true c12, eq_true c22, eq_true c25, not_true, not_false_iff, not_true_eq_false, not_false_eq_true, true_or, or_true, false_or, or_false, or_self, and_self, true_and, and_true, false_and, and_false, if_true, if_false])).symm)
                  · -- 149 not
                    refine lv_bipush (v := 15) hx hb dX8_ruleOfMember_152 (by decide) ?_
                    exact ro_iret (v := 15) hx hb hr hH hlocks dX8_ruleOfMember_154 (by unfold aRM; simp only [eq_true c2, eq_true c4, eq_false c7, eq_true c8, eq_true c12, eq_true c22, eq_false c25, not_true, not_false_iff, not_true_eq_false, not_false_eq_true, true_or, or_true, false_or, or_false, or_self, and_self, true_and, and_true, false_and, and_false, if_true, if_false])
                · -- 126 not
                  have c22 := and_nle c22
                  refine lv_bipush (v := 14) hx hb dX8_ruleOfMember_129 (by decide) ?_
                  exact ro_iret (v := 14) hx hb hr hH hlocks dX8_ruleOfMember_131 (by unfold aRM; simp only [eq_true c2, eq_true c4, eq_false c7, eq_true c8, eq_true c12, eq_false c22, not_true, not_false_iff, not_true_eq_false, not_false_eq_true, true_or, or_true, false_or, or_false, or_self, and_self, true_and, and_true, false_and, and_false, if_true, if_false])
            · -- up to the meeting at 109
              refine lv_iload_n hx hb dX8_ruleOfMember_96 rfl (lv_at hl 4 rfl) ?_
              refine lv_sipush (v := 128) hx hb dX8_ruleOfMember_97 (by decide) ?_
              refine lv_iand hx hb dX8_ruleOfMember_100 ?_
              refine lv_if_le (tgt := 108) hx hb dX8_ruleOfMember_101 (by decide) (fun c31 => ?_) (fun c31 => ?_)
              · -- 101 taken
                have c31 := and_le (by decide) c31
                refine lv_iconst (v := 0) hx hb dX8_ruleOfMember_108 (by decide) ?_
                exact J9 0 ((bI_f (by simp only [eq_true c2, eq_true c4, eq_false c7, eq_true c8, eq_true c31, not_true, not_false_iff, not_true_eq_false, not_false_eq_true, true_or, or_true, false_or, or_false, or_self, and_self, true_and, and_true, false_and, and_false, if_true, if_false])).symm)
              · -- 101 not
                have c31 := and_nle c31
                refine lv_iconst (v := 1) hx hb dX8_ruleOfMember_104 (by decide) ?_
                refine lv_goto (tgt := 109) hx hb dX8_ruleOfMember_105 (by decide) ?_
                exact J9 1 ((bI_t (by simp only [eq_true c2, eq_true c4, eq_false c7, eq_true c8, eq_false c31, not_true, not_false_iff, not_true_eq_false, not_false_eq_true, true_or, or_true, false_or, or_false, or_self, and_self, true_and, and_true, false_and, and_false, if_true, if_false])).symm)
          · -- 90 not
            have c8 := and_nle c8
            refine lv_bipush (v := 13) hx hb dX8_ruleOfMember_93 (by decide) ?_
            exact ro_iret (v := 13) hx hb hr hH hlocks dX8_ruleOfMember_95 (by unfold aRM; simp only [eq_true c2, eq_true c4, eq_false c7, eq_false c8, not_true, not_false_iff, not_true_eq_false, not_false_eq_true, true_or, or_true, false_or, or_false, or_self, and_self, true_and, and_true, false_and, and_false, if_true, if_false])
        · -- 74 not
          have c7 := bI_1 c7
          refine lv_iload hx hb dX8_ruleOfMember_77 (lv_at hl 0 rfl) ?_
          refine lv_if_eq (tgt := 96) hx hb dX8_ruleOfMember_79 (by decide) (fun c32 => ?_) (fun c32 => ?_)
          · -- 79 taken
            have c32 := bI_0 c32
            refine w_join (P := fun b9 => b9 = bI (¬ mm &&& 128 = 0)) 109 (ls := ls) (rest := []) (fun b34 e_b34 => ?_) (fun J33 => ?_)
            · -- behind the meeting at 109
              subst e_b34
              refine lv_istore (lv' := [(6, .int (bI (¬ mm &&& 128 = 0))), (5, .int (bI (badF mm))), (4, .int (bI (σ 2 (t) = 3))), (0, .ref mo), (1, .int (nI t)), (2, .int mm), (3, .int bd)]) hx hb dX8_ruleOfMember_109 hl (by decide) rfl (fun ls hl => ?_)
              refine lv_iload hx hb dX8_ruleOfMember_111 (lv_at hl 2 rfl) ?_
              refine lv_if_ne (tgt := 132) hx hb dX8_ruleOfMember_113 (by decide) (fun hh => ?_) (fun hh => absurd c7 (bI_0 hh))
              refine lv_iload hx hb dX8_ruleOfMember_132 (lv_at hl 2 rfl) ?_
              refine lv_if_ne (tgt := 155) hx hb dX8_ruleOfMember_134 (by decide) (fun hh => ?_) (fun hh => absurd c7 (bI_0 hh))
              refine w_join (P := fun b9 => b9 = bI (bare (σ 2 t) mm)) 186 (ls := ls) (rest := []) (fun b38 e_b38 => ?_) (fun J37 => ?_)
              · -- behind the meeting at 186
                subst e_b38
                refine lv_istore (lv' := [(7, .int (bI (bare (σ 2 t) mm))), (6, .int (bI (¬ mm &&& 128 = 0))), (5, .int (bI (badF mm))), (4, .int (bI (σ 2 (t) = 3))), (0, .ref mo), (1, .int (nI t)), (2, .int mm), (3, .int bd)]) hx hb dX8_ruleOfMember_186 hl (by decide) rfl (fun ls hl => ?_)
                refine lv_iload hx hb dX8_ruleOfMember_188 (lv_at hl 0 rfl) ?_
                refine lv_iload_n hx hb dX8_ruleOfMember_190 rfl (lv_at hl 7 rfl) ?_
                refine lv_icmp_ne (tgt := 208) hx hb dX8_ruleOfMember_191 (by decide) (fun c39 => ?_) (fun c39 => ?_)
                · -- 191 taken
                  refine lv_iconst (v := 0) hx hb dX8_ruleOfMember_208 (by decide) ?_
                  exact ro_iret (v := 0) hx hb hr hH hlocks dX8_ruleOfMember_209 (by unfold aRM; simp only [eq_true c2, eq_true c4, eq_true c7, eq_false c32, eq_false c39, not_true, not_false_iff, not_true_eq_false, not_false_eq_true, true_or, or_true, false_or, or_false, or_self, and_self, true_and, and_true, false_and, and_false, if_true, if_false])
                · -- 191 not
                  refine lv_iload_n hx hb dX8_ruleOfMember_194 rfl (lv_at hl 7 rfl) ?_
                  refine lv_if_eq (tgt := 203) hx hb dX8_ruleOfMember_195 (by decide) (fun c40 => ?_) (fun c40 => ?_)
                  · -- 195 taken
                    refine lv_bipush (v := 17) hx hb dX8_ruleOfMember_203 (by decide) ?_
                    refine lv_goto (tgt := 209) hx hb dX8_ruleOfMember_205 (by decide) ?_
                    exact ro_iret (v := 17) hx hb hr hH hlocks dX8_ruleOfMember_209 (by unfold aRM; simp only [eq_true c2, eq_true c4, eq_true c7, eq_false c32, eq_true c39, eq_true c40, not_true, not_false_iff, not_true_eq_false, not_false_eq_true, true_or, or_true, false_or, or_false, or_self, and_self, true_and, and_true, false_and, and_false, if_true, if_false])
                  · -- 195 not
                    refine lv_bipush (v := 16) hx hb dX8_ruleOfMember_198 (by decide) ?_
                    refine lv_goto (tgt := 209) hx hb dX8_ruleOfMember_200 (by decide) ?_
                    exact ro_iret (v := 16) hx hb hr hH hlocks dX8_ruleOfMember_209 (by unfold aRM; simp only [eq_true c2, eq_true c4, eq_true c7, eq_false c32, eq_true c39, eq_false c40, not_true, not_false_iff, not_true_eq_false, not_false_eq_true, true_or, or_true, false_or, or_false, or_self, and_self, true_and, and_true, false_and, and_false, if_true, if_false])
              · -- up to the meeting at 186
                refine lv_iload hx hb dX8_ruleOfMember_155 (lv_at hl 0 rfl) ?_
                refine lv_if_ne (tgt := 181) hx hb dX8_ruleOfMember_157 (by decide) (fun c41 => ?_) (fun c41 => ?_)
                · -- 157 taken
                  have c41 := bI_1 c41
                  refine lv_iconst (v := 1) hx hb dX8_ruleOfMember_181 (by decide) ?_
                  refine lv_goto (tgt := 186) hx hb dX8_ruleOfMember_182 (by decide) ?_
                  exact J37 1 ((bI_t (by rw [bare_def]; simp only [eq_true c2, eq_true c4, eq_true c7, eq_false c32, eq_true c41, not_true, not_false_iff, not_true_eq_false, not_false_eq_true, true_or, or_true, false_or, or_false, or_self, and_self, true_and, and_true, false_and, and_false, if_true, if_false])).symm)
                · -- 157 not
                  have c41 := bI_0 c41
                  refine lv_iload_n hx hb dX8_ruleOfMember_160 rfl (lv_at hl 5 rfl) ?_
                  refine lv_sipush (v := 256) hx hb dX8_ruleOfMember_161 (by decide) ?_
                  refine lv_iand hx hb dX8_ruleOfMember_164 ?_
                  refine lv_if_gt (tgt := 181) hx hb dX8_ruleOfMember_165 (by decide) (fun c42 => ?_) (fun c42 => ?_)
                  · -- 165 taken
                    have c42 := and_gt c42
                    refine lv_iconst (v := 1) hx hb dX8_ruleOfMember_181 (by decide) ?_
                    refine lv_goto (tgt := 186) hx hb dX8_ruleOfMember_182 (by decide) ?_
                    exact J37 1 ((bI_t (by rw [bare_def]; simp only [eq_true c2, eq_true c4, eq_true c7, eq_false c32, eq_false c41, eq_false c42, not_true, not_false_iff, not_true_eq_false, not_false_eq_true, true_or, or_true, false_or, or_false, or_self, and_self, true_and, and_true, false_and, and_false, if_true, if_false])).symm)
                  · -- 165 not
                    have c42 := and_ngt (by decide) c42
                    refine lv_iload hx hb dX8_ruleOfMember_168 (lv_at hl 2 rfl) ?_
                    refine lv_if_eq (tgt := 185) hx hb dX8_ruleOfMember_170 (by decide) (fun hh => absurd c7 (bI_0 hh)) (fun hh => ?_)
                    refine lv_iload_n hx hb dX8_ruleOfMember_173 rfl (lv_at hl 5 rfl) ?_
                    refine lv_sipush (v := 1036) hx hb dX8_ruleOfMember_174 (by decide) ?_
                    refine lv_iand hx hb dX8_ruleOfMember_177 ?_
                    refine lv_if_ne (tgt := 185) hx hb dX8_ruleOfMember_178 (by decide) (fun c44 => ?_) (fun c44 => ?_)
                    · -- 178 taken
                      refine lv_iconst (v := 0) hx hb dX8_ruleOfMember_185 (by decide) ?_
                      exact J37 0 ((bI_f (by rw [bare_def]; simp only [eq_true c2, eq_true c4, eq_true c7, eq_false c32, eq_false c41, eq_true c42, eq_false c44, not_true, not_false_iff, not_true_eq_false, not_false_eq_true, true_or, or_true, false_or, or_false, or_self, and_self, true_and, and_true, false_and, and_false, if_true, if_false])).symm)
                    · -- 178 not
                      refine lv_iconst (v := 1) hx hb dX8_ruleOfMember_181 (by decide) ?_
                      refine lv_goto (tgt := 186) hx hb dX8_ruleOfMember_182 (by decide) ?_
                      exact J37 1 ((bI_t (by rw [bare_def]; simp only [eq_true c2, eq_true c4, eq_true c7, eq_false c32, eq_false c41, eq_true c42, eq_true c44, not_true, not_false_iff, not_true_eq_false, not_false_eq_true, true_or, or_true, false_or, or_false, or_self, and_self, true_and, and_true, false_and, and_false, if_true, if_false])).symm)
            · -- up to the meeting at 109
              refine lv_iload_n hx hb dX8_ruleOfMember_96 rfl (lv_at hl 4 rfl) ?_
              refine lv_sipush (v := 128) hx hb dX8_ruleOfMember_97 (by decide) ?_
              refine lv_iand hx hb dX8_ruleOfMember_100 ?_
              refine lv_if_le (tgt := 108) hx hb dX8_ruleOfMember_101 (by decide) (fun c45 => ?_) (fun c45 => ?_)
              · -- 101 taken
                have c45 := and_le (by decide) c45
                refine lv_iconst (v := 0) hx hb dX8_ruleOfMember_108 (by decide) ?_
                exact J33 0 ((bI_f (by simp only [eq_true c2, eq_true c4, eq_true c7, eq_false c32, eq_true c45, not_true, not_false_iff, not_true_eq_false, not_false_eq_true, true_or, or_true, false_or, or_false, or_self, and_self, true_and, and_true, false_and, and_false, if_true, if_false])).symm)
              · -- 101 not
                have c45 := and_nle c45
                refine lv_iconst (v := 1) hx hb dX8_ruleOfMember_104 (by decide) ?_
                refine lv_goto (tgt := 109) hx hb dX8_ruleOfMember_105 (by decide) ?_
                exact J33 1 ((bI_t (by simp only [eq_true c2, eq_true c4, eq_true c7, eq_false c32, eq_false c45, not_true, not_false_iff, not_true_eq_false, not_false_eq_true, true_or, or_true, false_or, or_false, or_self, and_self, true_and, and_true, false_and, and_false, if_true, if_false])).symm)
          · -- 79 not
            have c32 := bI_1 c32
            refine lv_goto (tgt := 93) hx hb dX8_ruleOfMember_82 (by decide) ?_
            refine lv_bipush (v := 13) hx hb dX8_ruleOfMember_93 (by decide) ?_
            exact ro_iret (v := 13) hx hb hr hH hlocks dX8_ruleOfMember_95 (by unfold aRM; simp only [eq_true c2, eq_true c4, eq_true c7, eq_true c32, not_true, not_false_iff, not_true_eq_false, not_false_eq_true, true_or, or_true, false_or, or_false, or_self, and_self, true_and, and_true, false_and, and_false, if_true, if_false])
      · -- up to the meeting at 70
        refine lv_iload_n hx hb dX8_ruleOfMember_31 rfl (lv_at hl 3 rfl) ?_
        refine lv_sipush (v := 786) hx hb dX8_ruleOfMember_32 (by decide) ?_
        refine lv_iand hx hb dX8_ruleOfMember_35 ?_
        refine lv_if_gt (tgt := 65) hx hb dX8_ruleOfMember_36 (by decide) (fun c46 => ?_) (fun c46 => ?_)
        · -- 36 taken
          have c46 := and_gt c46
          refine lv_iconst (v := 1) hx hb dX8_ruleOfMember_65 (by decide) ?_
          refine lv_goto (tgt := 70) hx hb dX8_ruleOfMember_66 (by decide) ?_
          exact J5 1 ((bI_t (by rw [badF_def]; simp only [eq_true c2, eq_true c4, eq_false c46, not_true, not_false_iff, not_true_eq_false, not_false_eq_true, true_or, or_true, false_or, or_false, or_self, and_self, true_and, and_true, false_and, and_false, if_true, if_false])).symm)
        · -- 36 not
          have c46 := and_ngt (by decide) c46
          refine lv_iload_n hx hb dX8_ruleOfMember_39 rfl (lv_at hl 3 rfl) ?_
          refine lv_sipush (v := 1160) hx hb dX8_ruleOfMember_40 (by decide) ?_
          refine lv_iand hx hb dX8_ruleOfMember_43 ?_
          refine ro_Si (D := D) (G := G) (As := [.int (mm &&& 1160)]) (rest := []) ⟨hx, hb, hml, hown, hts⟩ (m_bits l D G _ (mm &&& 1160)) gS_X8_X8_bits hdS_X8_bits ⟨Nat.le_of_ble_eq_true rfl, Nat.le_of_ble_eq_true rfl⟩ hK rfl hl.1 rfl (Nat.le_of_ble_eq_true rfl) dX8_ruleOfMember_44 ⟨Nat.le_of_ble_eq_true rfl, Nat.le_of_ble_eq_true rfl⟩ (fun r47 e_r47 => ?_)
          subst e_r47
          refine lv_iconst (v := 1) hx hb dX8_ruleOfMember_47 (by decide) ?_
          refine lv_icmp_gt (tgt := 65) hx hb dX8_ruleOfMember_48 (by decide) (fun c48 => ?_) (fun c48 => ?_)
          · -- 48 taken
            refine lv_iconst (v := 1) hx hb dX8_ruleOfMember_65 (by decide) ?_
            refine lv_goto (tgt := 70) hx hb dX8_ruleOfMember_66 (by decide) ?_
            exact J5 1 ((bI_t (by rw [badF_def]; simp only [eq_true c2, eq_true c4, eq_true c46, eq_true c48, not_true, not_false_iff, not_true_eq_false, not_false_eq_true, true_or, or_true, false_or, or_false, or_self, and_self, true_and, and_true, false_and, and_false, if_true, if_false])).symm)
          · -- 48 not
            refine lv_iload_n hx hb dX8_ruleOfMember_51 rfl (lv_at hl 3 rfl) ?_
            refine lv_iconst (v := 4) hx hb dX8_ruleOfMember_52 (by decide) ?_
            refine lv_iand hx hb dX8_ruleOfMember_53 ?_
            refine lv_if_le (tgt := 69) hx hb dX8_ruleOfMember_54 (by decide) (fun c49 => ?_) (fun c49 => ?_)
            · -- 54 taken
              have c49 := and_le (by decide) c49
              refine lv_iconst (v := 0) hx hb dX8_ruleOfMember_69 (by decide) ?_
              exact J5 0 ((bI_f (by rw [badF_def]; simp only [eq_true c2, eq_true c4, eq_true c46, eq_false c48, eq_true c49, not_true, not_false_iff, not_true_eq_false, not_false_eq_true, true_or, or_true, false_or, or_false, or_self, and_self, true_and, and_true, false_and, and_false, if_true, if_false])).symm)
            · -- 54 not
              have c49 := and_nle c49
              refine lv_iload_n hx hb dX8_ruleOfMember_57 rfl (lv_at hl 3 rfl) ?_
              refine lv_sipush (v := 1152) hx hb dX8_ruleOfMember_58 (by decide) ?_
              refine lv_iand hx hb dX8_ruleOfMember_61 ?_
              refine lv_if_le (tgt := 69) hx hb dX8_ruleOfMember_62 (by decide) (fun c50 => ?_) (fun c50 => ?_)
              · -- 62 taken
                have c50 := and_le (by decide) c50
                refine lv_iconst (v := 0) hx hb dX8_ruleOfMember_69 (by decide) ?_
                exact J5 0 ((bI_f (by rw [badF_def]; simp only [eq_true c2, eq_true c4, eq_true c46, eq_false c48, eq_false c49, eq_true c50, not_true, not_false_iff, not_true_eq_false, not_false_eq_true, true_or, or_true, false_or, or_false, or_self, and_self, true_and, and_true, false_and, and_false, if_true, if_false])).symm)
              · -- 62 not
                have c50 := and_nle c50
                refine lv_iconst (v := 1) hx hb dX8_ruleOfMember_65 (by decide) ?_
                refine lv_goto (tgt := 70) hx hb dX8_ruleOfMember_66 (by decide) ?_
                exact J5 1 ((bI_t (by rw [badF_def]; simp only [eq_true c2, eq_true c4, eq_true c46, eq_false c48, eq_false c49, eq_false c50, not_true, not_false_iff, not_true_eq_false, not_false_eq_true, true_or, or_true, false_or, or_false, or_self, and_self, true_and, and_true, false_and, and_false, if_true, if_false])).symm)
    · -- 25 not
      refine lv_bipush (v := 12) hx hb dX8_ruleOfMember_28 (by decide) ?_
      exact ro_iret (v := 12) hx hb hr hH hlocks dX8_ruleOfMember_30 (by unfold aRM; simp only [eq_true c2, eq_false c4, not_true, not_false_iff, not_true_eq_false, not_false_eq_true, true_or, or_true, false_or, or_false, or_self, and_self, true_and, and_true, false_and, and_false, if_true, if_false])
  · -- 11 not
    have c2 := and_nle c2
    refine lv_bipush (v := 11) hx hb dX8_ruleOfMember_14 (by decide) ?_
    exact ro_iret (v := 11) hx hb hr hH hlocks dX8_ruleOfMember_16 (by unfold aRM; simp only [eq_false c2, not_true, not_false_iff, not_true_eq_false, not_false_eq_true, true_or, or_true, false_or, or_false, or_self, and_self, true_and, and_true, false_and, and_false, if_true, if_false])
set_option maxHeartbeats 4000000 in
set_option maxRecDepth 100000 in
theorem m_sameParts (l : Launch) (D : va_G) (G : Nat → ClassId) (H : Heap) (mo : Nat) (ad : Nat → Nat) (σ : MS) (τ : Nat → Int64) (hP : va_P D vwCl (mW G mo ad σ τ) H) (a b : Nat) (ha : a < 60) (hb0 : b < 60) (hma : okM σ a) : Met l yX8_sameParts (ww yX8_sameParts cX8_sameParts 5 (some .boolean)) (rmD 0) (roP D G H [.ref mo, .int (nI a), .int (nI b)]) (vp_Si (fun r => r = bI (sameP σ a b))) 0 0 (fun _ => False) := by
  refine Met.ofW (cc := cX8_sameParts) (maxL := 5) (ret := (some .boolean)) (by decide) rfl ?_
  intro p e s m args below meth c s₁ B hml hv
  obtain ⟨rfl, hH, hK⟩ := hv
  have hx := B.exec
  have hb := B.bytes
  have hr := B.returns
  have hts : ∀ w ∈ TT, w.before _ s = true := fun w h => atoms_spec (ws := ww yX8_sameParts cX8_sameParts 5 (some .boolean)) B.pre w (List.mem_cons_of_mem _ h)
  have hown : s.vm.findClass RX8 = some m.cls := findClass_of_methodNamed B.named
  have hlocks := B.notSynchronized
  rw [hH]
  have hl := lv_entry ([.ref mo, .int (nI a), .int (nI b)]) (n := 5) (Nat.le_of_ble_eq_true rfl)
  rw [lg_entry_eq]
  generalize (lg_sl ([.ref mo, .int (nI a), .int (nI b)]) ++ List.replicate (5 - (lg_sl ([.ref mo, .int (nI a), .int (nI b)])).length) Slot.unset).toArray = ls at hl ⊢
  have hl : lv_has ls 5 [(0, .ref mo), (1, .int (nI a)), (2, .int (nI b))] := hl
  refine w_join (P := fun b9 => b9 = bI (σ 18 a = σ 18 b)) 20 (ls := ls) (rest := []) (fun b2 e_b2 => ?_) (fun J1 => ?_)
  · -- behind the meeting at 20
    subst e_b2
    refine lv_istore_n (lv' := [(3, .int (bI (σ 18 a = σ 18 b))), (0, .ref mo), (1, .int (nI a)), (2, .int (nI b))]) hx hb dX8_sameParts_20 rfl hl (by decide) rfl (fun ls hl => ?_)
    refine lv_iconst (v := 0) hx hb dX8_sameParts_21 (by decide) ?_
    refine lv_istore (lv' := [(4, .int 0), (3, .int (bI (σ 18 a = σ 18 b))), (0, .ref mo), (1, .int (nI a)), (2, .int (nI b))]) hx hb dX8_sameParts_22 hl (by decide) rfl (fun ls hl => ?_)
    refine w_for (N := mnE σ a) 24 (L := fun q9 ls => lv_has ls 5 [(4, .int (nI q9)), (3, .int (bI (eqN σ a b q9))), (0, .ref mo), (1, .int (nI a)), (2, .int (nI b))]) (fun k9 ls hk hL ih => ?_) 0 ls (Nat.zero_le _) (by rw [eqN_0] at hl; exact hl)
    have hl := hL
    have hl : lv_has ls 5 [(4, .int (nI k9)), (3, .int (bI (eqN σ a b k9))), (0, .ref mo), (1, .int (nI a)), (2, .int (nI b))] := hl
    refine lv_iload_n hx hb dX8_sameParts_24 rfl (lv_at hl 1 rfl) ?_
    refine lv_if_eq (tgt := 101) hx hb dX8_sameParts_25 (by decide) (fun c3 => ?_) (fun c3 => ?_)
    · -- 25 taken
      have c3 := bI_0 c3
      refine lv_iload_n hx hb dX8_sameParts_101 rfl (lv_at hl 1 rfl) ?_
      exact ro_zret (v := bI (eqN σ a b k9)) hx hb hr hH hlocks dX8_sameParts_102 bI_b (eqN_f (by omega) c3)
    · -- 25 not
      have c3 := bI_1 c3
      refine lv_iload hx hb dX8_sameParts_28 (lv_at hl 0 rfl) ?_
      refine lv_aload_n hx hb dX8_sameParts_30 rfl (lv_at hl 2 rfl) ?_
      refine va_get (D := D) (ci := 8) (v := .ref ((ad 18))) (C := RX8) (T := TX8) (N := 33) hx hb hts iX8 hown hK.1 hP 0 rfl rfl 18 (by decide) (hts _ q_697) (fun _ h9 => h9) rfl dX8_sameParts_31 ?_
      refine lv_iload_n hx hb dX8_sameParts_34 rfl (lv_at hl 3 rfl) ?_
      refine iald_n (f := σ 18) hx hb hK.1 hP 16 0 rfl rfl (a) rfl (by omega) (by decide) dX8_sameParts_35 ?_
      refine lv_icmp_ge (tgt := 101) hx hb dX8_sameParts_36 (by decide) (fun c4 => ?_) (fun c4 => ?_)
      · -- 36 taken
        have c4 : (mnE σ a) ≤ k9 := (nI_leI (a := (mnE σ a)) (b := k9) (by omega) (by omega)).mp (by have h8 := c4; rw [hma.1] at h8; exact h8)
        refine lv_iload_n hx hb dX8_sameParts_101 rfl (lv_at hl 1 rfl) ?_
        exact ro_zret (v := bI (eqN σ a b k9)) hx hb hr hH hlocks dX8_sameParts_102 bI_b (by rw [show k9 = mnE σ a by omega]; exact bI_c sameP_def.symm)
      · -- 36 not
        have c4 : ¬ (mnE σ a) ≤ k9 := fun h9 => c4 (by rw [hma.1]; exact (nI_leI (a := (mnE σ a)) (b := k9) (by omega) (by omega)).mpr h9)
        refine w_join (P := fun b9 => b9 = bI (eqP σ a b k9)) 94 (ls := ls) (rest := []) (fun b6 e_b6 => ?_) (fun J5 => ?_)
        · -- behind the meeting at 94
          subst e_b6
          refine lv_istore_n (lv' := [(3, .int (bI (eqP σ a b k9))), (4, .int (nI k9)), (0, .ref mo), (1, .int (nI a)), (2, .int (nI b))]) hx hb dX8_sameParts_94 rfl hl (by decide) rfl (fun ls hl => ?_)
          refine lv_iinc (v := nI (k9 + 1)) (lv' := [(4, .int (nI (k9 + 1))), (3, .int (bI (eqP σ a b k9))), (0, .ref mo), (1, .int (nI a)), (2, .int (nI b))]) hx hb dX8_sameParts_95 hl (k := 1) rfl (nI_1 _) (by decide) rfl (fun ls hl => ?_)
          refine lv_goto (tgt := 24) hx hb dX8_sameParts_98 (by decide) ?_
          rw [eqN_s c3] at hl
          exact ih _ (by omega) (lv_sub hl [0, 1, 2, 3, 4] rfl)
        · -- up to the meeting at 94
          refine lv_aload_n hx hb dX8_sameParts_39 rfl (lv_at hl 2 rfl) ?_
          refine va_get (D := D) (ci := 8) (v := .ref ((ad 19))) (C := RX8) (T := TX8) (N := 33) hx hb hts iX8 hown hK.1 hP 0 rfl rfl 19 (by decide) (hts _ q_698) (fun _ h9 => h9) rfl dX8_sameParts_40 ?_
          refine lv_iconst (v := 5) hx hb dX8_sameParts_43 (by decide) ?_
          refine lv_iload_n hx hb dX8_sameParts_44 rfl (lv_at hl 3 rfl) ?_
          refine lv_imul hx hb dX8_sameParts_45 ?_
          refine lv_iload hx hb dX8_sameParts_46 (lv_at hl 0 rfl) ?_
          refine lv_iadd hx hb dX8_sameParts_48 ?_
          refine iald_n (f := σ 19) hx hb hK.1 hP 17 0 rfl rfl (((5 * a) + k9)) (n_add (a := (5 * a)) (b := k9) (n_mul (a := 5) (b := a) (rfl : (5 : Int32) = nI 5) rfl) rfl) (by omega) (by decide) dX8_sameParts_49 ?_
          refine lv_aload_n hx hb dX8_sameParts_50 rfl (lv_at hl 2 rfl) ?_
          refine va_get (D := D) (ci := 8) (v := .ref ((ad 19))) (C := RX8) (T := TX8) (N := 33) hx hb hts iX8 hown hK.1 hP 0 rfl rfl 19 (by decide) (hts _ q_698) (fun _ h9 => h9) rfl dX8_sameParts_51 ?_
          refine lv_iconst (v := 5) hx hb dX8_sameParts_54 (by decide) ?_
          refine lv_iload_n hx hb dX8_sameParts_55 rfl (lv_at hl 4 rfl) ?_
          refine lv_imul hx hb dX8_sameParts_56 ?_
          refine lv_iload hx hb dX8_sameParts_57 (lv_at hl 0 rfl) ?_
          refine lv_iadd hx hb dX8_sameParts_59 ?_
          refine iald_n (f := σ 19) hx hb hK.1 hP 17 0 rfl rfl (((5 * b) + k9)) (n_add (a := (5 * b)) (b := k9) (n_mul (a := 5) (b := b) (rfl : (5 : Int32) = nI 5) rfl) rfl) (by omega) (by decide) dX8_sameParts_60 ?_
          refine lv_icmp_ne (tgt := 93) hx hb dX8_sameParts_61 (by decide) (fun c7 => ?_) (fun c7 => ?_)
          · -- 61 taken
            refine lv_iconst (v := 0) hx hb dX8_sameParts_93 (by decide) ?_
            exact J5 0 ((bI_f (by unfold eqP; simp only [eq_true c3, eq_false c4, eq_false c7, not_true, not_false_iff, not_true_eq_false, not_false_eq_true, true_or, or_true, false_or, or_false, or_self, and_self, true_and, and_true, false_and, and_false, if_true, if_false])).symm)
          · -- 61 not
            refine lv_aload_n hx hb dX8_sameParts_64 rfl (lv_at hl 2 rfl) ?_
            refine va_get (D := D) (ci := 8) (v := .ref ((ad 20))) (C := RX8) (T := TX8) (N := 33) hx hb hts iX8 hown hK.1 hP 0 rfl rfl 20 (by decide) (hts _ q_699) (fun _ h9 => h9) rfl dX8_sameParts_65 ?_
            refine lv_iconst (v := 5) hx hb dX8_sameParts_68 (by decide) ?_
            refine lv_iload_n hx hb dX8_sameParts_69 rfl (lv_at hl 3 rfl) ?_
            refine lv_imul hx hb dX8_sameParts_70 ?_
            refine lv_iload hx hb dX8_sameParts_71 (lv_at hl 0 rfl) ?_
            refine lv_iadd hx hb dX8_sameParts_73 ?_
            refine iald_n (f := σ 20) hx hb hK.1 hP 18 0 rfl rfl (((5 * a) + k9)) (n_add (a := (5 * a)) (b := k9) (n_mul (a := 5) (b := a) (rfl : (5 : Int32) = nI 5) rfl) rfl) (by omega) (by decide) dX8_sameParts_74 ?_
            refine lv_aload_n hx hb dX8_sameParts_75 rfl (lv_at hl 2 rfl) ?_
            refine va_get (D := D) (ci := 8) (v := .ref ((ad 20))) (C := RX8) (T := TX8) (N := 33) hx hb hts iX8 hown hK.1 hP 0 rfl rfl 20 (by decide) (hts _ q_699) (fun _ h9 => h9) rfl dX8_sameParts_76 ?_
            refine lv_iconst (v := 5) hx hb dX8_sameParts_79 (by decide) ?_
            refine lv_iload_n hx hb dX8_sameParts_80 rfl (lv_at hl 4 rfl) ?_
            refine lv_imul hx hb dX8_sameParts_81 ?_
            refine lv_iload hx hb dX8_sameParts_82 (lv_at hl 0 rfl) ?_
            refine lv_iadd hx hb dX8_sameParts_84 ?_
            refine iald_n (f := σ 20) hx hb hK.1 hP 18 0 rfl rfl (((5 * b) + k9)) (n_add (a := (5 * b)) (b := k9) (n_mul (a := 5) (b := b) (rfl : (5 : Int32) = nI 5) rfl) rfl) (by omega) (by decide) dX8_sameParts_85 ?_
            refine lv_icmp_ne (tgt := 93) hx hb dX8_sameParts_86 (by decide) (fun c8 => ?_) (fun c8 => ?_)
            · -- 86 taken
              refine lv_iconst (v := 0) hx hb dX8_sameParts_93 (by decide) ?_
              exact J5 0 ((bI_f (by unfold eqP; simp only [eq_true c3, eq_false c4, eq_true c7, eq_false c8, not_true, not_false_iff, not_true_eq_false, not_false_eq_true, true_or, or_true, false_or, or_false, or_self, and_self, true_and, and_true, false_and, and_false, if_true, if_false])).symm)
            · -- 86 not
              refine lv_iconst (v := 1) hx hb dX8_sameParts_89 (by decide) ?_
              refine lv_goto (tgt := 94) hx hb dX8_sameParts_90 (by decide) ?_
              exact J5 1 ((bI_t (by unfold eqP; simp only [eq_true c3, eq_false c4, eq_true c7, eq_true c8, not_true, not_false_iff, not_true_eq_false, not_false_eq_true, true_or, or_true, false_or, or_false, or_self, and_self, true_and, and_true, false_and, and_false, if_true, if_false])).symm)
  · -- up to the meeting at 20
    refine lv_aload_n hx hb dX8_sameParts_0 rfl (lv_at hl 0 rfl) ?_
    refine va_get (D := D) (ci := 8) (v := .ref ((ad 18))) (C := RX8) (T := TX8) (N := 33) hx hb hts iX8 hown hK.1 hP 0 rfl rfl 18 (by decide) (hts _ q_697) (fun _ h9 => h9) rfl dX8_sameParts_1 ?_
    refine lv_iload_n hx hb dX8_sameParts_4 rfl (lv_at hl 1 rfl) ?_
    refine iald_n (f := σ 18) hx hb hK.1 hP 16 0 rfl rfl (a) rfl (by omega) (by decide) dX8_sameParts_5 ?_
    refine lv_aload_n hx hb dX8_sameParts_6 rfl (lv_at hl 0 rfl) ?_
    refine va_get (D := D) (ci := 8) (v := .ref ((ad 18))) (C := RX8) (T := TX8) (N := 33) hx hb hts iX8 hown hK.1 hP 0 rfl rfl 18 (by decide) (hts _ q_697) (fun _ h9 => h9) rfl dX8_sameParts_7 ?_
    refine lv_iload_n hx hb dX8_sameParts_10 rfl (lv_at hl 2 rfl) ?_
    refine iald_n (f := σ 18) hx hb hK.1 hP 16 0 rfl rfl (b) rfl (by omega) (by decide) dX8_sameParts_11 ?_
    refine lv_icmp_ne (tgt := 19) hx hb dX8_sameParts_12 (by decide) (fun c9 => ?_) (fun c9 => ?_)
    · -- 12 taken
      refine lv_iconst (v := 0) hx hb dX8_sameParts_19 (by decide) ?_
      exact J1 0 ((bI_f c9).symm)
    · -- 12 not
      refine lv_iconst (v := 1) hx hb dX8_sameParts_15 (by decide) ?_
      refine lv_goto (tgt := 20) hx hb dX8_sameParts_16 (by decide) ?_
      exact J1 1 ((bI_t c9).symm)
set_option maxHeartbeats 4000000 in
set_option maxRecDepth 100000 in
theorem m_stands (l : Launch) (D : va_G) (G : Nat → ClassId) (H : Heap) (mo : Nat) (ad : Nat → Nat) (σ : MS) (τ : Nat → Int64) (hP : va_P D vwCl (mW G mo ad σ τ) H) (en : Nat) (he : en < 60) (ho : okE σ en) : Met l yX8_stands (ww yX8_stands cX8_stands 2 (some .boolean)) (rmD 1) (roP D G H [.ref mo, .int (nI en)]) (vp_Si (fun r => r = bI (stP σ en))) 0 0 (fun _ => False) := by
  refine Met.ofW (cc := cX8_stands) (maxL := 2) (ret := (some .boolean)) (by decide) rfl ?_
  intro p e s m args below meth c s₁ B hml hv
  obtain ⟨rfl, hH, hK⟩ := hv
  have hx := B.exec
  have hb := B.bytes
  have hr := B.returns
  have hts : ∀ w ∈ TT, w.before _ s = true := fun w h => atoms_spec (ws := ww yX8_stands cX8_stands 2 (some .boolean)) B.pre w (List.mem_cons_of_mem _ h)
  have hown : s.vm.findClass RX8 = some m.cls := findClass_of_methodNamed B.named
  have hlocks := B.notSynchronized
  rw [hH]
  have hl := lv_entry ([.ref mo, .int (nI en)]) (n := 2) (Nat.le_of_ble_eq_true rfl)
  rw [lg_entry_eq]
  generalize (lg_sl ([.ref mo, .int (nI en)]) ++ List.replicate (2 - (lg_sl ([.ref mo, .int (nI en)])).length) Slot.unset).toArray = ls at hl ⊢
  have hl : lv_has ls 2 [(0, .ref mo), (1, .int (nI en))] := hl
  refine lv_aload_n hx hb dX8_stands_0 rfl (lv_at hl 0 rfl) ?_
  refine va_get (D := D) (ci := 8) (v := .ref ((ad 13))) (C := RX8) (T := TX8) (N := 33) hx hb hts iX8 hown hK.1 hP 0 rfl rfl 13 (by decide) (hts _ q_692) (fun _ h9 => h9) rfl dX8_stands_1 ?_
  refine lv_iload_n hx hb dX8_stands_4 rfl (lv_at hl 1 rfl) ?_
  refine iald_n (f := σ 13) hx hb hK.1 hP 11 0 rfl rfl (en) rfl (by omega) (by decide) dX8_stands_5 ?_
  refine lv_bipush (v := 8) hx hb dX8_stands_6 (by decide) ?_
  refine lv_iand hx hb dX8_stands_8 ?_
  refine lv_if_le (tgt := 29) hx hb dX8_stands_9 (by decide) (fun c1 => ?_) (fun c1 => ?_)
  · -- 9 taken
    have c1 := and_le (by decide) c1
    refine lv_iconst (v := 0) hx hb dX8_stands_29 (by decide) ?_
    exact ro_zret (v := 0) hx hb hr hH hlocks dX8_stands_30 (Or.inl rfl) ((bI_f (by rw [stP_def]; simp only [eq_true c1, not_true, not_false_iff, not_true_eq_false, not_false_eq_true, true_or, or_true, false_or, or_false, or_self, and_self, true_and, and_true, false_and, and_false, if_true, if_false])).symm)
  · -- 9 not
    have c1 := and_nle c1
    refine lv_aload_n hx hb dX8_stands_12 rfl (lv_at hl 0 rfl) ?_
    refine lv_aload_n hx hb dX8_stands_13 rfl (lv_at hl 0 rfl) ?_
    refine va_get (D := D) (ci := 8) (v := .ref ((ad 9))) (C := RX8) (T := TX8) (N := 33) hx hb hts iX8 hown hK.1 hP 0 rfl rfl 9 (by decide) (hts _ q_688) (fun _ h9 => h9) rfl dX8_stands_14 ?_
    refine lv_iload_n hx hb dX8_stands_17 rfl (lv_at hl 1 rfl) ?_
    refine iald_n (f := σ 9) hx hb hK.1 hP 7 0 rfl rfl (en) rfl (by omega) (by decide) dX8_stands_18 ?_
    refine W.eq (g2 := F0 m 19 ls [.int (nI (tyE σ en)), .ref mo]) (congrArg (fun z9 => F0 m 19 ls [.int z9, .ref mo]) ho.1) ?_
    refine ro_Vi (D := D) (G := G) (As := [.int (nI (tyE σ en))]) (rest := []) ⟨hx, hb, hml, hown, hts⟩ (m_isFace l D G _ mo ad _ _ hP ((tyE σ en)) (by omega)) gV_X8_X8_isFace hdV_X8_isFace ⟨Nat.le_of_ble_eq_true rfl, Nat.le_of_ble_eq_true rfl⟩ hK (va_recv hK.1 hP (ci := 8) (q0 := 0) rfl rfl) rfl hl.1 rfl (Nat.le_of_ble_eq_true rfl) dX8_stands_19 ⟨Nat.le_of_ble_eq_true rfl, Nat.le_of_ble_eq_true rfl⟩ (fun r2 e_r2 => ?_)
    subst e_r2
    refine lv_if_eq (tgt := 29) hx hb dX8_stands_22 (by decide) (fun c3 => ?_) (fun c3 => ?_)
    · -- 22 taken
      have c3 := bI_0 c3
      refine lv_iconst (v := 0) hx hb dX8_stands_29 (by decide) ?_
      exact ro_zret (v := 0) hx hb hr hH hlocks dX8_stands_30 (Or.inl rfl) ((bI_f (by rw [stP_def]; simp only [eq_false c1, eq_false c3, not_true, not_false_iff, not_true_eq_false, not_false_eq_true, true_or, or_true, false_or, or_false, or_self, and_self, true_and, and_true, false_and, and_false, if_true, if_false])).symm)
    · -- 22 not
      have c3 := bI_1 c3
      refine lv_iconst (v := 1) hx hb dX8_stands_25 (by decide) ?_
      refine lv_goto (tgt := 30) hx hb dX8_stands_26 (by decide) ?_
      exact ro_zret (v := 1) hx hb hr hH hlocks dX8_stands_30 (Or.inr rfl) ((bI_t (by rw [stP_def]; simp only [eq_false c1, eq_true c3, not_true, not_false_iff, not_true_eq_false, not_false_eq_true, true_or, or_true, false_or, or_false, or_self, and_self, true_and, and_true, false_and, and_false, if_true, if_false])).symm)
set_option maxHeartbeats 4000000 in
set_option maxRecDepth 100000 in
theorem m_meets (l : Launch) (D : va_G) (G : Nat → ClassId) (H : Heap) (mo : Nat) (ad : Nat → Nat) (σ : MS) (τ : Nat → Int64) (hP : va_P D vwCl (mW G mo ad σ τ) H) (a b : Nat) (ha : a < 60) (hb0 : b < 60) (hea : okE σ a) (heb : okE σ b) (hma : okM σ a) (hb6 : ∀ i, σ 6 i = 0 ∨ σ 6 i = 1) : Met l yX8_meets (ww yX8_meets cX8_meets 3 (some .boolean)) (rmD 2) (roP D G H [.ref mo, .int (nI a), .int (nI b)]) (vp_Si (fun r => r = bI (meetP σ a b))) 0 0 (fun _ => False) := by
  refine Met.ofW (cc := cX8_meets) (maxL := 3) (ret := (some .boolean)) (by decide) rfl ?_
  intro p e s m args below meth c s₁ B hml hv
  obtain ⟨rfl, hH, hK⟩ := hv
  have hx := B.exec
  have hb := B.bytes
  have hr := B.returns
  have hts : ∀ w ∈ TT, w.before _ s = true := fun w h => atoms_spec (ws := ww yX8_meets cX8_meets 3 (some .boolean)) B.pre w (List.mem_cons_of_mem _ h)
  have hown : s.vm.findClass RX8 = some m.cls := findClass_of_methodNamed B.named
  have hlocks := B.notSynchronized
  rw [hH]
  have hl := lv_entry ([.ref mo, .int (nI a), .int (nI b)]) (n := 3) (Nat.le_of_ble_eq_true rfl)
  rw [lg_entry_eq]
  generalize (lg_sl ([.ref mo, .int (nI a), .int (nI b)]) ++ List.replicate (3 - (lg_sl ([.ref mo, .int (nI a), .int (nI b)])).length) Slot.unset).toArray = ls at hl ⊢
  have hl : lv_has ls 3 [(0, .ref mo), (1, .int (nI a)), (2, .int (nI b))] := hl
  refine lv_aload_n hx hb dX8_meets_0 rfl (lv_at hl 0 rfl) ?_
  refine va_get (D := D) (ci := 8) (v := .ref ((ad 8))) (C := RX8) (T := TX8) (N := 33) hx hb hts iX8 hown hK.1 hP 0 rfl rfl 8 (by decide) (hts _ q_687) (fun _ h9 => h9) rfl dX8_meets_1 ?_
  refine lv_iload_n hx hb dX8_meets_4 rfl (lv_at hl 2 rfl) ?_
  refine zald_n (f := σ 8) hx hb hK.1 hP 6 2 rfl rfl (b) rfl (by omega) (by decide) dX8_meets_5 ?_
  refine lv_if_eq (tgt := 52) hx hb dX8_meets_6 (by decide) (fun c1 => ?_) (fun c1 => ?_)
  · -- 6 taken
    refine lv_iconst (v := 0) hx hb dX8_meets_52 (by decide) ?_
    exact ro_zret (v := 0) hx hb hr hH hlocks dX8_meets_53 (Or.inl rfl) ((bI_f (by rw [meetP_def]; simp only [eq_true c1, not_true, not_false_iff, not_true_eq_false, not_false_eq_true, true_or, or_true, false_or, or_false, or_self, and_self, true_and, and_true, false_and, and_false, if_true, if_false])).symm)
  · -- 6 not
    refine lv_iload_n hx hb dX8_meets_9 rfl (lv_at hl 1 rfl) ?_
    refine lv_iload_n hx hb dX8_meets_10 rfl (lv_at hl 2 rfl) ?_
    refine lv_icmp_eq (tgt := 52) hx hb dX8_meets_11 (by decide) (fun c2 => ?_) (fun c2 => ?_)
    · -- 11 taken
      have c2 := nI_inj (by omega) (by omega) c2
      refine lv_iconst (v := 0) hx hb dX8_meets_52 (by decide) ?_
      exact ro_zret (v := 0) hx hb hr hH hlocks dX8_meets_53 (Or.inl rfl) ((bI_f (by rw [meetP_def]; simp only [eq_false c1, eq_true c2, not_true, not_false_iff, not_true_eq_false, not_false_eq_true, true_or, or_true, false_or, or_false, or_self, and_self, true_and, and_true, false_and, and_false, if_true, if_false])).symm)
    · -- 11 not
      have c2 : ¬ a = b := fun h9 => c2 (by rw [h9])
      refine lv_aload_n hx hb dX8_meets_14 rfl (lv_at hl 0 rfl) ?_
      refine va_get (D := D) (ci := 8) (v := .ref ((ad 13))) (C := RX8) (T := TX8) (N := 33) hx hb hts iX8 hown hK.1 hP 0 rfl rfl 13 (by decide) (hts _ q_692) (fun _ h9 => h9) rfl dX8_meets_15 ?_
      refine lv_iload_n hx hb dX8_meets_18 rfl (lv_at hl 1 rfl) ?_
      refine iald_n (f := σ 13) hx hb hK.1 hP 11 0 rfl rfl (a) rfl (by omega) (by decide) dX8_meets_19 ?_
      refine lv_iconst (v := 4) hx hb dX8_meets_20 (by decide) ?_
      refine lv_iand hx hb dX8_meets_21 ?_
      refine lv_if_gt (tgt := 52) hx hb dX8_meets_22 (by decide) (fun c3 => ?_) (fun c3 => ?_)
      · -- 22 taken
        have c3 := and_gt c3
        refine lv_iconst (v := 0) hx hb dX8_meets_52 (by decide) ?_
        exact ro_zret (v := 0) hx hb hr hH hlocks dX8_meets_53 (Or.inl rfl) ((bI_f (by rw [meetP_def]; simp only [eq_false c1, eq_false c2, eq_false c3, not_true, not_false_iff, not_true_eq_false, not_false_eq_true, true_or, or_true, false_or, or_false, or_self, and_self, true_and, and_true, false_and, and_false, if_true, if_false])).symm)
      · -- 22 not
        have c3 := and_ngt (by decide) c3
        refine lv_aload_n hx hb dX8_meets_25 rfl (lv_at hl 0 rfl) ?_
        refine va_get (D := D) (ci := 8) (v := .ref ((ad 13))) (C := RX8) (T := TX8) (N := 33) hx hb hts iX8 hown hK.1 hP 0 rfl rfl 13 (by decide) (hts _ q_692) (fun _ h9 => h9) rfl dX8_meets_26 ?_
        refine lv_iload_n hx hb dX8_meets_29 rfl (lv_at hl 2 rfl) ?_
        refine iald_n (f := σ 13) hx hb hK.1 hP 11 0 rfl rfl (b) rfl (by omega) (by decide) dX8_meets_30 ?_
        refine lv_iconst (v := 4) hx hb dX8_meets_31 (by decide) ?_
        refine lv_iand hx hb dX8_meets_32 ?_
        refine lv_if_gt (tgt := 52) hx hb dX8_meets_33 (by decide) (fun c4 => ?_) (fun c4 => ?_)
        · -- 33 taken
          have c4 := and_gt c4
          refine lv_iconst (v := 0) hx hb dX8_meets_52 (by decide) ?_
          exact ro_zret (v := 0) hx hb hr hH hlocks dX8_meets_53 (Or.inl rfl) ((bI_f (by rw [meetP_def]; simp only [eq_false c1, eq_false c2, eq_true c3, eq_false c4, not_true, not_false_iff, not_true_eq_false, not_false_eq_true, true_or, or_true, false_or, or_false, or_self, and_self, true_and, and_true, false_and, and_false, if_true, if_false])).symm)
        · -- 33 not
          have c4 := and_ngt (by decide) c4
          refine lv_aload_n hx hb dX8_meets_36 rfl (lv_at hl 0 rfl) ?_
          refine lv_iload_n hx hb dX8_meets_37 rfl (lv_at hl 1 rfl) ?_
          refine ro_Vi (D := D) (G := G) (As := [.int (nI a)]) (rest := []) ⟨hx, hb, hml, hown, hts⟩ (m_stands l D G _ mo ad _ _ hP (a) (by omega) hea) gV_X8_X8_stands hdV_X8_stands ⟨Nat.le_of_ble_eq_true rfl, Nat.le_of_ble_eq_true rfl⟩ hK (va_recv hK.1 hP (ci := 8) (q0 := 0) rfl rfl) rfl hl.1 rfl (Nat.le_of_ble_eq_true rfl) dX8_meets_38 ⟨Nat.le_of_ble_eq_true rfl, Nat.le_of_ble_eq_true rfl⟩ (fun r5 e_r5 => ?_)
          subst e_r5
          refine lv_if_ne (tgt := 52) hx hb dX8_meets_41 (by decide) (fun c6 => ?_) (fun c6 => ?_)
          · -- 41 taken
            have c6 := bI_1 c6
            refine lv_iconst (v := 0) hx hb dX8_meets_52 (by decide) ?_
            exact ro_zret (v := 0) hx hb hr hH hlocks dX8_meets_53 (Or.inl rfl) ((bI_f (by rw [meetP_def]; simp only [eq_false c1, eq_false c2, eq_true c3, eq_true c4, eq_true c6, not_true, not_false_iff, not_true_eq_false, not_false_eq_true, true_or, or_true, false_or, or_false, or_self, and_self, true_and, and_true, false_and, and_false, if_true, if_false])).symm)
          · -- 41 not
            have c6 := bI_0 c6
            refine lv_aload_n hx hb dX8_meets_44 rfl (lv_at hl 0 rfl) ?_
            refine lv_iload_n hx hb dX8_meets_45 rfl (lv_at hl 2 rfl) ?_
            refine ro_Vi (D := D) (G := G) (As := [.int (nI b)]) (rest := []) ⟨hx, hb, hml, hown, hts⟩ (m_stands l D G _ mo ad _ _ hP (b) (by omega) heb) gV_X8_X8_stands hdV_X8_stands ⟨Nat.le_of_ble_eq_true rfl, Nat.le_of_ble_eq_true rfl⟩ hK (va_recv hK.1 hP (ci := 8) (q0 := 0) rfl rfl) rfl hl.1 rfl (Nat.le_of_ble_eq_true rfl) dX8_meets_46 ⟨Nat.le_of_ble_eq_true rfl, Nat.le_of_ble_eq_true rfl⟩ (fun r7 e_r7 => ?_)
            subst e_r7
            refine lv_if_eq (tgt := 54) hx hb dX8_meets_49 (by decide) (fun c8 => ?_) (fun c8 => ?_)
            · -- 49 taken
              have c8 := bI_0 c8
              refine lv_aload_n hx hb dX8_meets_54 rfl (lv_at hl 0 rfl) ?_
              refine va_get (D := D) (ci := 8) (v := .ref ((ad 10))) (C := RX8) (T := TX8) (N := 33) hx hb hts iX8 hown hK.1 hP 0 rfl rfl 10 (by decide) (hts _ q_689) (fun _ h9 => h9) rfl dX8_meets_55 ?_
              refine lv_iload_n hx hb dX8_meets_58 rfl (lv_at hl 1 rfl) ?_
              refine iald_n (f := σ 10) hx hb hK.1 hP 8 0 rfl rfl (a) rfl (by omega) (by decide) dX8_meets_59 ?_
              refine lv_aload_n hx hb dX8_meets_60 rfl (lv_at hl 0 rfl) ?_
              refine va_get (D := D) (ci := 8) (v := .ref ((ad 10))) (C := RX8) (T := TX8) (N := 33) hx hb hts iX8 hown hK.1 hP 0 rfl rfl 10 (by decide) (hts _ q_689) (fun _ h9 => h9) rfl dX8_meets_61 ?_
              refine lv_iload_n hx hb dX8_meets_64 rfl (lv_at hl 2 rfl) ?_
              refine iald_n (f := σ 10) hx hb hK.1 hP 8 0 rfl rfl (b) rfl (by omega) (by decide) dX8_meets_65 ?_
              refine lv_icmp_ne (tgt := 116) hx hb dX8_meets_66 (by decide) (fun c9 => ?_) (fun c9 => ?_)
              · -- 66 taken
                refine lv_iconst (v := 0) hx hb dX8_meets_116 (by decide) ?_
                exact ro_zret (v := 0) hx hb hr hH hlocks dX8_meets_117 (Or.inl rfl) ((bI_f (by rw [meetP_def]; simp only [eq_false c1, eq_false c2, eq_true c3, eq_true c4, eq_false c6, eq_false c8, eq_false c9, not_true, not_false_iff, not_true_eq_false, not_false_eq_true, true_or, or_true, false_or, or_false, or_self, and_self, true_and, and_true, false_and, and_false, if_true, if_false])).symm)
              · -- 66 not
                refine lv_aload_n hx hb dX8_meets_69 rfl (lv_at hl 0 rfl) ?_
                refine va_get (D := D) (ci := 8) (v := .ref ((ad 9))) (C := RX8) (T := TX8) (N := 33) hx hb hts iX8 hown hK.1 hP 0 rfl rfl 9 (by decide) (hts _ q_688) (fun _ h9 => h9) rfl dX8_meets_70 ?_
                refine lv_iload_n hx hb dX8_meets_73 rfl (lv_at hl 1 rfl) ?_
                refine iald_n (f := σ 9) hx hb hK.1 hP 7 0 rfl rfl (a) rfl (by omega) (by decide) dX8_meets_74 ?_
                refine lv_aload_n hx hb dX8_meets_75 rfl (lv_at hl 0 rfl) ?_
                refine va_get (D := D) (ci := 8) (v := .ref ((ad 9))) (C := RX8) (T := TX8) (N := 33) hx hb hts iX8 hown hK.1 hP 0 rfl rfl 9 (by decide) (hts _ q_688) (fun _ h9 => h9) rfl dX8_meets_76 ?_
                refine lv_iload_n hx hb dX8_meets_79 rfl (lv_at hl 2 rfl) ?_
                refine iald_n (f := σ 9) hx hb hK.1 hP 7 0 rfl rfl (b) rfl (by omega) (by decide) dX8_meets_80 ?_
                refine lv_icmp_eq (tgt := 116) hx hb dX8_meets_81 (by decide) (fun c10 => ?_) (fun c10 => ?_)
                · -- 81 taken
                  refine lv_iconst (v := 0) hx hb dX8_meets_116 (by decide) ?_
                  exact ro_zret (v := 0) hx hb hr hH hlocks dX8_meets_117 (Or.inl rfl) ((bI_f (by rw [meetP_def]; simp only [eq_false c1, eq_false c2, eq_true c3, eq_true c4, eq_false c6, eq_false c8, eq_true c9, eq_true c10, not_true, not_false_iff, not_true_eq_false, not_false_eq_true, true_or, or_true, false_or, or_false, or_self, and_self, true_and, and_true, false_and, and_false, if_true, if_false])).symm)
                · -- 81 not
                  refine lv_aload_n hx hb dX8_meets_84 rfl (lv_at hl 0 rfl) ?_
                  refine lv_aload_n hx hb dX8_meets_85 rfl (lv_at hl 0 rfl) ?_
                  refine va_get (D := D) (ci := 8) (v := .ref ((ad 9))) (C := RX8) (T := TX8) (N := 33) hx hb hts iX8 hown hK.1 hP 0 rfl rfl 9 (by decide) (hts _ q_688) (fun _ h9 => h9) rfl dX8_meets_86 ?_
                  refine lv_iload_n hx hb dX8_meets_89 rfl (lv_at hl 1 rfl) ?_
                  refine iald_n (f := σ 9) hx hb hK.1 hP 7 0 rfl rfl (a) rfl (by omega) (by decide) dX8_meets_90 ?_
                  refine lv_aload_n hx hb dX8_meets_91 rfl (lv_at hl 0 rfl) ?_
                  refine va_get (D := D) (ci := 8) (v := .ref ((ad 9))) (C := RX8) (T := TX8) (N := 33) hx hb hts iX8 hown hK.1 hP 0 rfl rfl 9 (by decide) (hts _ q_688) (fun _ h9 => h9) rfl dX8_meets_92 ?_
                  refine lv_iload_n hx hb dX8_meets_95 rfl (lv_at hl 2 rfl) ?_
                  refine iald_n (f := σ 9) hx hb hK.1 hP 7 0 rfl rfl (b) rfl (by omega) (by decide) dX8_meets_96 ?_
                  refine W.eq (g2 := F0 m 97 ls [.int (σ 9 b), .int (nI (tyE σ a)), .ref mo]) (congrArg (fun z9 => F0 m 97 ls [.int (σ 9 b), .int z9, .ref mo]) hea.1) ?_
                  refine W.eq (g2 := F0 m 97 ls [.int (nI (tyE σ b)), .int (nI (tyE σ a)), .ref mo]) (congrArg (fun z9 => F0 m 97 ls [.int z9, .int (nI (tyE σ a)), .ref mo]) heb.1) ?_
                  refine ro_Vi (D := D) (G := G) (As := [.int (nI (tyE σ a)), .int (nI (tyE σ b))]) (rest := []) ⟨hx, hb, hml, hown, hts⟩ (m_lies l D G _ mo ad _ _ hP ((tyE σ a)) ((tyE σ b)) (by omega) (by omega) hb6) gV_X8_X8_lies hdV_X8_lies ⟨Nat.le_of_ble_eq_true rfl, Nat.le_of_ble_eq_true rfl⟩ hK (va_recv hK.1 hP (ci := 8) (q0 := 0) rfl rfl) rfl hl.1 rfl (Nat.le_of_ble_eq_true rfl) dX8_meets_97 ⟨Nat.le_of_ble_eq_true rfl, Nat.le_of_ble_eq_true rfl⟩ (fun r11 e_r11 => ?_)
                  subst e_r11
                  refine lv_if_eq (tgt := 116) hx hb dX8_meets_100 (by decide) (fun c12 => ?_) (fun c12 => ?_)
                  · -- 100 taken
                    have c12 := bI_0 c12
                    refine lv_iconst (v := 0) hx hb dX8_meets_116 (by decide) ?_
                    exact ro_zret (v := 0) hx hb hr hH hlocks dX8_meets_117 (Or.inl rfl) ((bI_f (by rw [meetP_def]; simp only [eq_false c1, eq_false c2, eq_true c3, eq_true c4, eq_false c6, eq_false c8, eq_true c9, eq_false c10, eq_false c12, not_true, not_false_iff, not_true_eq_false, not_false_eq_true, true_or, or_true, false_or, or_false, or_self, and_self, true_and, and_true, false_and, and_false, if_true, if_false])).symm)
                  · -- 100 not
                    have c12 := bI_1 c12
                    refine lv_aload_n hx hb dX8_meets_103 rfl (lv_at hl 0 rfl) ?_
                    refine lv_iload_n hx hb dX8_meets_104 rfl (lv_at hl 1 rfl) ?_
                    refine lv_iload_n hx hb dX8_meets_105 rfl (lv_at hl 2 rfl) ?_
                    refine ro_Vi (D := D) (G := G) (As := [.int (nI a), .int (nI b)]) (rest := []) ⟨hx, hb, hml, hown, hts⟩ (m_sameParts l D G _ mo ad _ _ hP (a) (b) (by omega) (by omega) hma) gV_X8_X8_sameParts hdV_X8_sameParts ⟨Nat.le_of_ble_eq_true rfl, Nat.le_of_ble_eq_true rfl⟩ hK (va_recv hK.1 hP (ci := 8) (q0 := 0) rfl rfl) rfl hl.1 rfl (Nat.le_of_ble_eq_true rfl) dX8_meets_106 ⟨Nat.le_of_ble_eq_true rfl, Nat.le_of_ble_eq_true rfl⟩ (fun r13 e_r13 => ?_)
                    subst e_r13
                    refine lv_if_eq (tgt := 116) hx hb dX8_meets_109 (by decide) (fun c14 => ?_) (fun c14 => ?_)
                    · -- 109 taken
                      have c14 := bI_0 c14
                      refine lv_iconst (v := 0) hx hb dX8_meets_116 (by decide) ?_
                      exact ro_zret (v := 0) hx hb hr hH hlocks dX8_meets_117 (Or.inl rfl) ((bI_f (by rw [meetP_def]; simp only [eq_false c1, eq_false c2, eq_true c3, eq_true c4, eq_false c6, eq_false c8, eq_true c9, eq_false c10, eq_true c12, eq_false c14, not_true, not_false_iff, not_true_eq_false, not_false_eq_true, true_or, or_true, false_or, or_false, or_self, and_self, true_and, and_true, false_and, and_false, if_true, if_false])).symm)
                    · -- 109 not
                      have c14 := bI_1 c14
                      refine lv_iconst (v := 1) hx hb dX8_meets_112 (by decide) ?_
                      refine lv_goto (tgt := 117) hx hb dX8_meets_113 (by decide) ?_
                      exact ro_zret (v := 1) hx hb hr hH hlocks dX8_meets_117 (Or.inr rfl) ((bI_t (by rw [meetP_def]; simp only [eq_false c1, eq_false c2, eq_true c3, eq_true c4, eq_false c6, eq_false c8, eq_true c9, eq_false c10, eq_true c12, eq_true c14, not_true, not_false_iff, not_true_eq_false, not_false_eq_true, true_or, or_true, false_or, or_false, or_self, and_self, true_and, and_true, false_and, and_false, if_true, if_false])).symm)
            · -- 49 not
              have c8 := bI_1 c8
              refine lv_iconst (v := 0) hx hb dX8_meets_52 (by decide) ?_
              exact ro_zret (v := 0) hx hb hr hH hlocks dX8_meets_53 (Or.inl rfl) ((bI_f (by rw [meetP_def]; simp only [eq_false c1, eq_false c2, eq_true c3, eq_true c4, eq_false c6, eq_true c8, not_true, not_false_iff, not_true_eq_false, not_false_eq_true, true_or, or_true, false_or, or_false, or_self, and_self, true_and, and_true, false_and, and_false, if_true, if_false])).symm)
set_option maxHeartbeats 4000000 in
set_option maxRecDepth 100000 in
theorem m_seen (l : Launch) (D : va_G) (G : Nat → ClassId) (H : Heap) (mo : Nat) (ad : Nat → Nat) (σ : MS) (τ : Nat → Int64) (hP : va_P D vwCl (mW G mo ad σ τ) H) (en : Nat) (he : en < 60) : Met l yX8_seen (ww yX8_seen cX8_seen 2 (some .int)) (rmD 0) (roP D G H [.ref mo, .int (nI en)]) (vp_Si (fun r => r = seenF (σ 13 en))) 0 0 (fun _ => False) := by
  refine Met.ofW (cc := cX8_seen) (maxL := 2) (ret := (some .int)) (by decide) rfl ?_
  intro p e s m args below meth c s₁ B hml hv
  obtain ⟨rfl, hH, hK⟩ := hv
  have hx := B.exec
  have hb := B.bytes
  have hr := B.returns
  have hts : ∀ w ∈ TT, w.before _ s = true := fun w h => atoms_spec (ws := ww yX8_seen cX8_seen 2 (some .int)) B.pre w (List.mem_cons_of_mem _ h)
  have hown : s.vm.findClass RX8 = some m.cls := findClass_of_methodNamed B.named
  have hlocks := B.notSynchronized
  rw [hH]
  have hl := lv_entry ([.ref mo, .int (nI en)]) (n := 2) (Nat.le_of_ble_eq_true rfl)
  rw [lg_entry_eq]
  generalize (lg_sl ([.ref mo, .int (nI en)]) ++ List.replicate (2 - (lg_sl ([.ref mo, .int (nI en)])).length) Slot.unset).toArray = ls at hl ⊢
  have hl : lv_has ls 2 [(0, .ref mo), (1, .int (nI en))] := hl
  refine lv_aload_n hx hb dX8_seen_0 rfl (lv_at hl 0 rfl) ?_
  refine va_get (D := D) (ci := 8) (v := .ref ((ad 13))) (C := RX8) (T := TX8) (N := 33) hx hb hts iX8 hown hK.1 hP 0 rfl rfl 13 (by decide) (hts _ q_692) (fun _ h9 => h9) rfl dX8_seen_1 ?_
  refine lv_iload_n hx hb dX8_seen_4 rfl (lv_at hl 1 rfl) ?_
  refine iald_n (f := σ 13) hx hb hK.1 hP 11 0 rfl rfl (en) rfl (by omega) (by decide) dX8_seen_5 ?_
  refine lv_iconst (v := 1) hx hb dX8_seen_6 (by decide) ?_
  refine lv_iand hx hb dX8_seen_7 ?_
  refine lv_if_le (tgt := 15) hx hb dX8_seen_8 (by decide) (fun c1 => ?_) (fun c1 => ?_)
  · -- 8 taken
    have c1 := and_le (by decide) c1
    refine lv_aload_n hx hb dX8_seen_15 rfl (lv_at hl 0 rfl) ?_
    refine va_get (D := D) (ci := 8) (v := .ref ((ad 13))) (C := RX8) (T := TX8) (N := 33) hx hb hts iX8 hown hK.1 hP 0 rfl rfl 13 (by decide) (hts _ q_692) (fun _ h9 => h9) rfl dX8_seen_16 ?_
    refine lv_iload_n hx hb dX8_seen_19 rfl (lv_at hl 1 rfl) ?_
    refine iald_n (f := σ 13) hx hb hK.1 hP 11 0 rfl rfl (en) rfl (by omega) (by decide) dX8_seen_20 ?_
    refine lv_iconst (v := 2) hx hb dX8_seen_21 (by decide) ?_
    refine lv_iand hx hb dX8_seen_22 ?_
    refine lv_if_le (tgt := 30) hx hb dX8_seen_23 (by decide) (fun c2 => ?_) (fun c2 => ?_)
    · -- 23 taken
      have c2 := and_le (by decide) c2
      refine lv_aload_n hx hb dX8_seen_30 rfl (lv_at hl 0 rfl) ?_
      refine va_get (D := D) (ci := 8) (v := .ref ((ad 13))) (C := RX8) (T := TX8) (N := 33) hx hb hts iX8 hown hK.1 hP 0 rfl rfl 13 (by decide) (hts _ q_692) (fun _ h9 => h9) rfl dX8_seen_31 ?_
      refine lv_iload_n hx hb dX8_seen_34 rfl (lv_at hl 1 rfl) ?_
      refine iald_n (f := σ 13) hx hb hK.1 hP 11 0 rfl rfl (en) rfl (by omega) (by decide) dX8_seen_35 ?_
      refine lv_iconst (v := 4) hx hb dX8_seen_36 (by decide) ?_
      refine lv_iand hx hb dX8_seen_37 ?_
      refine lv_if_le (tgt := 45) hx hb dX8_seen_38 (by decide) (fun c3 => ?_) (fun c3 => ?_)
      · -- 38 taken
        have c3 := and_le (by decide) c3
        refine lv_iconst (v := 1) hx hb dX8_seen_45 (by decide) ?_
        exact ro_iret (v := 1) hx hb hr hH hlocks dX8_seen_46 (by unfold seenF; simp only [eq_true c1, eq_true c2, eq_true c3, not_true, not_false_iff, not_true_eq_false, not_false_eq_true, true_or, or_true, false_or, or_false, or_self, and_self, true_and, and_true, false_and, and_false, if_true, if_false])
      · -- 38 not
        have c3 := and_nle c3
        refine lv_iconst (v := 0) hx hb dX8_seen_41 (by decide) ?_
        refine lv_goto (tgt := 46) hx hb dX8_seen_42 (by decide) ?_
        exact ro_iret (v := 0) hx hb hr hH hlocks dX8_seen_46 (by unfold seenF; simp only [eq_true c1, eq_true c2, eq_false c3, not_true, not_false_iff, not_true_eq_false, not_false_eq_true, true_or, or_true, false_or, or_false, or_self, and_self, true_and, and_true, false_and, and_false, if_true, if_false])
    · -- 23 not
      have c2 := and_nle c2
      refine lv_iconst (v := 2) hx hb dX8_seen_26 (by decide) ?_
      refine lv_goto (tgt := 46) hx hb dX8_seen_27 (by decide) ?_
      exact ro_iret (v := 2) hx hb hr hH hlocks dX8_seen_46 (by unfold seenF; simp only [eq_true c1, eq_false c2, not_true, not_false_iff, not_true_eq_false, not_false_eq_true, true_or, or_true, false_or, or_false, or_self, and_self, true_and, and_true, false_and, and_false, if_true, if_false])
  · -- 8 not
    have c1 := and_nle c1
    refine lv_iconst (v := 3) hx hb dX8_seen_11 (by decide) ?_
    refine lv_goto (tgt := 46) hx hb dX8_seen_12 (by decide) ?_
    exact ro_iret (v := 3) hx hb hr hH hlocks dX8_seen_46 (by unfold seenF; simp only [eq_false c1, not_true, not_false_iff, not_true_eq_false, not_false_eq_true, true_or, or_true, false_or, or_false, or_self, and_self, true_and, and_true, false_and, and_false, if_true, if_false])
set_option maxHeartbeats 4000000 in
set_option maxRecDepth 100000 in
theorem m_ruleAgainst (l : Launch) (D : va_G) (G : Nat → ClassId) (H : Heap) (mo : Nat) (ad : Nat → Nat) (σ : MS) (τ : Nat → Int64) (hP : va_P D vwCl (mW G mo ad σ τ) H) (a b : Nat) (ha : a < 60) (hb0 : b < 60) (hka : kdO (σ 11 a)) (hkb : kdO (σ 11 b)) (hb6 : ∀ i, σ 6 i = 0 ∨ σ 6 i = 1) : Met l yX8_ruleAgainst (ww yX8_ruleAgainst cX8_ruleAgainst 5 (some .int)) (rmD 1) (roP D G H [.ref mo, .int (nI a), .int (nI b)]) (vp_Si (fun r => r = aRA σ a b)) 0 0 (fun _ => False) := by
  refine Met.ofW (cc := cX8_ruleAgainst) (maxL := 5) (ret := (some .int)) (by decide) rfl ?_
  intro p e s m args below meth c s₁ B hml hv
  obtain ⟨rfl, hH, hK⟩ := hv
  have hx := B.exec
  have hb := B.bytes
  have hr := B.returns
  have hts : ∀ w ∈ TT, w.before _ s = true := fun w h => atoms_spec (ws := ww yX8_ruleAgainst cX8_ruleAgainst 5 (some .int)) B.pre w (List.mem_cons_of_mem _ h)
  have hown : s.vm.findClass RX8 = some m.cls := findClass_of_methodNamed B.named
  have hlocks := B.notSynchronized
  rw [hH]
  have hl := lv_entry ([.ref mo, .int (nI a), .int (nI b)]) (n := 5) (Nat.le_of_ble_eq_true rfl)
  rw [lg_entry_eq]
  generalize (lg_sl ([.ref mo, .int (nI a), .int (nI b)]) ++ List.replicate (5 - (lg_sl ([.ref mo, .int (nI a), .int (nI b)])).length) Slot.unset).toArray = ls at hl ⊢
  have hl : lv_has ls 5 [(0, .ref mo), (1, .int (nI a)), (2, .int (nI b))] := hl
  refine lv_aload_n hx hb dX8_ruleAgainst_0 rfl (lv_at hl 0 rfl) ?_
  refine va_get (D := D) (ci := 8) (v := .ref ((ad 13))) (C := RX8) (T := TX8) (N := 33) hx hb hts iX8 hown hK.1 hP 0 rfl rfl 13 (by decide) (hts _ q_692) (fun _ h9 => h9) rfl dX8_ruleAgainst_1 ?_
  refine lv_iload_n hx hb dX8_ruleAgainst_4 rfl (lv_at hl 2 rfl) ?_
  refine iald_n (f := σ 13) hx hb hK.1 hP 11 0 rfl rfl (b) rfl (by omega) (by decide) dX8_ruleAgainst_5 ?_
  refine lv_bipush (v := 16) hx hb dX8_ruleAgainst_6 (by decide) ?_
  refine lv_iand hx hb dX8_ruleAgainst_8 ?_
  refine lv_if_le (tgt := 15) hx hb dX8_ruleAgainst_9 (by decide) (fun c1 => ?_) (fun c1 => ?_)
  · -- 9 taken
    have c1 := and_le (by decide) c1
    refine lv_aload_n hx hb dX8_ruleAgainst_15 rfl (lv_at hl 0 rfl) ?_
    refine va_get (D := D) (ci := 8) (v := .ref ((ad 13))) (C := RX8) (T := TX8) (N := 33) hx hb hts iX8 hown hK.1 hP 0 rfl rfl 13 (by decide) (hts _ q_692) (fun _ h9 => h9) rfl dX8_ruleAgainst_16 ?_
    refine lv_iload_n hx hb dX8_ruleAgainst_19 rfl (lv_at hl 1 rfl) ?_
    refine iald_n (f := σ 13) hx hb hK.1 hP 11 0 rfl rfl (a) rfl (by omega) (by decide) dX8_ruleAgainst_20 ?_
    refine lv_bipush (v := 8) hx hb dX8_ruleAgainst_21 (by decide) ?_
    refine lv_iand hx hb dX8_ruleAgainst_23 ?_
    refine lv_aload_n hx hb dX8_ruleAgainst_24 rfl (lv_at hl 0 rfl) ?_
    refine va_get (D := D) (ci := 8) (v := .ref ((ad 13))) (C := RX8) (T := TX8) (N := 33) hx hb hts iX8 hown hK.1 hP 0 rfl rfl 13 (by decide) (hts _ q_692) (fun _ h9 => h9) rfl dX8_ruleAgainst_25 ?_
    refine lv_iload_n hx hb dX8_ruleAgainst_28 rfl (lv_at hl 2 rfl) ?_
    refine iald_n (f := σ 13) hx hb hK.1 hP 11 0 rfl rfl (b) rfl (by omega) (by decide) dX8_ruleAgainst_29 ?_
    refine lv_bipush (v := 8) hx hb dX8_ruleAgainst_30 (by decide) ?_
    refine lv_iand hx hb dX8_ruleAgainst_32 ?_
    refine lv_icmp_eq (tgt := 39) hx hb dX8_ruleAgainst_33 (by decide) (fun c2 => ?_) (fun c2 => ?_)
    · -- 33 taken
      refine w_join (P := fun b9 => b9 = bI (eqR σ a b)) 74 (ls := ls) (rest := []) (fun b4 e_b4 => ?_) (fun J3 => ?_)
      · -- behind the meeting at 74
        subst e_b4
        refine lv_istore_n (lv' := [(3, .int (bI (eqR σ a b))), (0, .ref mo), (1, .int (nI a)), (2, .int (nI b))]) hx hb dX8_ruleAgainst_74 rfl hl (by decide) rfl (fun ls hl => ?_)
        refine w_join (P := fun b9 => b9 = bI (unR σ a b)) 145 (ls := ls) (rest := []) (fun b6 e_b6 => ?_) (fun J5 => ?_)
        · -- behind the meeting at 145
          subst e_b6
          refine lv_istore (lv' := [(4, .int (bI (unR σ a b))), (3, .int (bI (eqR σ a b))), (0, .ref mo), (1, .int (nI a)), (2, .int (nI b))]) hx hb dX8_ruleAgainst_145 hl (by decide) rfl (fun ls hl => ?_)
          refine lv_iload_n hx hb dX8_ruleAgainst_147 rfl (lv_at hl 1 rfl) ?_
          refine lv_if_ne (tgt := 159) hx hb dX8_ruleAgainst_148 (by decide) (fun c7 => ?_) (fun c7 => ?_)
          · -- 148 taken
            have c7 := bI_1 c7
            refine lv_aload_n hx hb dX8_ruleAgainst_159 rfl (lv_at hl 2 rfl) ?_
            refine lv_iload_n hx hb dX8_ruleAgainst_160 rfl (lv_at hl 3 rfl) ?_
            refine ro_Vi (D := D) (G := G) (As := [.int (nI a)]) (rest := []) ⟨hx, hb, hml, hown, hts⟩ (m_seen l D G _ mo ad _ _ hP (a) (by omega)) gV_X8_X8_seen hdV_X8_seen ⟨Nat.le_of_ble_eq_true rfl, Nat.le_of_ble_eq_true rfl⟩ hK (va_recv hK.1 hP (ci := 8) (q0 := 0) rfl rfl) rfl hl.1 rfl (Nat.le_of_ble_eq_true rfl) dX8_ruleAgainst_161 ⟨Nat.le_of_ble_eq_true rfl, Nat.le_of_ble_eq_true rfl⟩ (fun r8 e_r8 => ?_)
            subst e_r8
            refine lv_aload_n hx hb dX8_ruleAgainst_164 rfl (lv_at hl 2 rfl) ?_
            refine lv_iload_n hx hb dX8_ruleAgainst_165 rfl (lv_at hl 4 rfl) ?_
            refine ro_Vi (D := D) (G := G) (As := [.int (nI b)]) (rest := [.int (seenF (σ 13 a))]) ⟨hx, hb, hml, hown, hts⟩ (m_seen l D G _ mo ad _ _ hP (b) (by omega)) gV_X8_X8_seen hdV_X8_seen ⟨Nat.le_of_ble_eq_true rfl, Nat.le_of_ble_eq_true rfl⟩ hK (va_recv hK.1 hP (ci := 8) (q0 := 0) rfl rfl) rfl hl.1 rfl (Nat.le_of_ble_eq_true rfl) dX8_ruleAgainst_166 ⟨Nat.le_of_ble_eq_true rfl, Nat.le_of_ble_eq_true rfl⟩ (fun r9 e_r9 => ?_)
            subst e_r9
            refine lv_icmp_ge (tgt := 177) hx hb dX8_ruleAgainst_169 (by decide) (fun c10 => ?_) (fun c10 => ?_)
            · -- 169 taken
              refine lv_iconst (v := 0) hx hb dX8_ruleAgainst_177 (by decide) ?_
              exact ro_iret (v := 0) hx hb hr hH hlocks dX8_ruleAgainst_178 (by unfold aRA; simp only [eq_true c1, eq_true c2, eq_true c7, eq_true c10, not_true, not_false_iff, not_true_eq_false, not_false_eq_true, true_or, or_true, false_or, or_false, or_self, and_self, true_and, and_true, false_and, and_false, if_true, if_false])
            · -- 169 not
              refine lv_bipush (v := 25) hx hb dX8_ruleAgainst_172 (by decide) ?_
              refine lv_goto (tgt := 178) hx hb dX8_ruleAgainst_174 (by decide) ?_
              exact ro_iret (v := 25) hx hb hr hH hlocks dX8_ruleAgainst_178 (by unfold aRA; simp only [eq_true c1, eq_true c2, eq_true c7, eq_false c10, not_true, not_false_iff, not_true_eq_false, not_false_eq_true, true_or, or_true, false_or, or_false, or_self, and_self, true_and, and_true, false_and, and_false, if_true, if_false])
          · -- 148 not
            have c7 := bI_0 c7
            refine lv_iload hx hb dX8_ruleAgainst_151 (lv_at hl 0 rfl) ?_
            refine lv_if_ne (tgt := 159) hx hb dX8_ruleAgainst_153 (by decide) (fun c11 => ?_) (fun c11 => ?_)
            · -- 153 taken
              have c11 := bI_1 c11
              refine lv_aload_n hx hb dX8_ruleAgainst_159 rfl (lv_at hl 2 rfl) ?_
              refine lv_iload_n hx hb dX8_ruleAgainst_160 rfl (lv_at hl 3 rfl) ?_
              refine ro_Vi (D := D) (G := G) (As := [.int (nI a)]) (rest := []) ⟨hx, hb, hml, hown, hts⟩ (m_seen l D G _ mo ad _ _ hP (a) (by omega)) gV_X8_X8_seen hdV_X8_seen ⟨Nat.le_of_ble_eq_true rfl, Nat.le_of_ble_eq_true rfl⟩ hK (va_recv hK.1 hP (ci := 8) (q0 := 0) rfl rfl) rfl hl.1 rfl (Nat.le_of_ble_eq_true rfl) dX8_ruleAgainst_161 ⟨Nat.le_of_ble_eq_true rfl, Nat.le_of_ble_eq_true rfl⟩ (fun r12 e_r12 => ?_)
              subst e_r12
              refine lv_aload_n hx hb dX8_ruleAgainst_164 rfl (lv_at hl 2 rfl) ?_
              refine lv_iload_n hx hb dX8_ruleAgainst_165 rfl (lv_at hl 4 rfl) ?_
              refine ro_Vi (D := D) (G := G) (As := [.int (nI b)]) (rest := [.int (seenF (σ 13 a))]) ⟨hx, hb, hml, hown, hts⟩ (m_seen l D G _ mo ad _ _ hP (b) (by omega)) gV_X8_X8_seen hdV_X8_seen ⟨Nat.le_of_ble_eq_true rfl, Nat.le_of_ble_eq_true rfl⟩ hK (va_recv hK.1 hP (ci := 8) (q0 := 0) rfl rfl) rfl hl.1 rfl (Nat.le_of_ble_eq_true rfl) dX8_ruleAgainst_166 ⟨Nat.le_of_ble_eq_true rfl, Nat.le_of_ble_eq_true rfl⟩ (fun r13 e_r13 => ?_)
              subst e_r13
              refine lv_icmp_ge (tgt := 177) hx hb dX8_ruleAgainst_169 (by decide) (fun c14 => ?_) (fun c14 => ?_)
              · -- 169 taken
                refine lv_iconst (v := 0) hx hb dX8_ruleAgainst_177 (by decide) ?_
                exact ro_iret (v := 0) hx hb hr hH hlocks dX8_ruleAgainst_178 (by unfold aRA; simp only [eq_true c1, eq_true c2, eq_false c7, eq_true c11, eq_true c14, not_true, not_false_iff, not_true_eq_false, not_false_eq_true, true_or, or_true, false_or, or_false, or_self, and_self, true_and, and_true, false_and, and_false, if_true, if_false])
              · -- 169 not
                refine lv_bipush (v := 25) hx hb dX8_ruleAgainst_172 (by decide) ?_
                refine lv_goto (tgt := 178) hx hb dX8_ruleAgainst_174 (by decide) ?_
                exact ro_iret (v := 25) hx hb hr hH hlocks dX8_ruleAgainst_178 (by unfold aRA; simp only [eq_true c1, eq_true c2, eq_false c7, eq_true c11, eq_false c14, not_true, not_false_iff, not_true_eq_false, not_false_eq_true, true_or, or_true, false_or, or_false, or_self, and_self, true_and, and_true, false_and, and_false, if_true, if_false])
            · -- 153 not
              have c11 := bI_0 c11
              refine lv_bipush (v := 24) hx hb dX8_ruleAgainst_156 (by decide) ?_
              exact ro_iret (v := 24) hx hb hr hH hlocks dX8_ruleAgainst_158 (by unfold aRA; simp only [eq_true c1, eq_true c2, eq_false c7, eq_false c11, not_true, not_false_iff, not_true_eq_false, not_false_eq_true, true_or, or_true, false_or, or_false, or_self, and_self, true_and, and_true, false_and, and_false, if_true, if_false])
        · -- up to the meeting at 145
          refine lv_aload_n hx hb dX8_ruleAgainst_75 rfl (lv_at hl 1 rfl) ?_
          refine va_get (D := D) (ci := 8) (v := .ref ((ad 12))) (C := RX8) (T := TX8) (N := 33) hx hb hts iX8 hown hK.1 hP 0 rfl rfl 12 (by decide) (hts _ q_691) (fun _ h9 => h9) rfl dX8_ruleAgainst_76 ?_
          refine lv_iload_n hx hb dX8_ruleAgainst_79 rfl (lv_at hl 2 rfl) ?_
          refine iald_n (f := σ 12) hx hb hK.1 hP 10 0 rfl rfl (a) rfl (by omega) (by decide) dX8_ruleAgainst_80 ?_
          refine lv_if_ne (tgt := 144) hx hb dX8_ruleAgainst_81 (by decide) (fun c15 => ?_) (fun c15 => ?_)
          · -- 81 taken
            refine lv_iconst (v := 0) hx hb dX8_ruleAgainst_144 (by decide) ?_
            exact J5 0 ((bI_f (by unfold unR; simp only [undP_def, eq_true c1, eq_true c2, eq_false c15, not_true, not_false_iff, not_true_eq_false, not_false_eq_true, true_or, or_true, false_or, or_false, or_self, and_self, true_and, and_true, false_and, and_false, if_true, if_false])).symm)
          · -- 81 not
            refine lv_aload_n hx hb dX8_ruleAgainst_84 rfl (lv_at hl 1 rfl) ?_
            refine va_get (D := D) (ci := 8) (v := .ref ((ad 12))) (C := RX8) (T := TX8) (N := 33) hx hb hts iX8 hown hK.1 hP 0 rfl rfl 12 (by decide) (hts _ q_691) (fun _ h9 => h9) rfl dX8_ruleAgainst_85 ?_
            refine lv_iload_n hx hb dX8_ruleAgainst_88 rfl (lv_at hl 3 rfl) ?_
            refine iald_n (f := σ 12) hx hb hK.1 hP 10 0 rfl rfl (b) rfl (by omega) (by decide) dX8_ruleAgainst_89 ?_
            refine lv_if_ne (tgt := 144) hx hb dX8_ruleAgainst_90 (by decide) (fun c16 => ?_) (fun c16 => ?_)
            · -- 90 taken
              refine lv_iconst (v := 0) hx hb dX8_ruleAgainst_144 (by decide) ?_
              exact J5 0 ((bI_f (by unfold unR; simp only [undP_def, eq_true c1, eq_true c2, eq_true c15, eq_false c16, not_true, not_false_iff, not_true_eq_false, not_false_eq_true, true_or, or_true, false_or, or_false, or_self, and_self, true_and, and_true, false_and, and_false, if_true, if_false])).symm)
            · -- 90 not
              refine lv_aload_n hx hb dX8_ruleAgainst_93 rfl (lv_at hl 1 rfl) ?_
              refine va_get (D := D) (ci := 8) (v := .ref ((ad 11))) (C := RX8) (T := TX8) (N := 33) hx hb hts iX8 hown hK.1 hP 0 rfl rfl 11 (by decide) (hts _ q_690) (fun _ h9 => h9) rfl dX8_ruleAgainst_94 ?_
              refine lv_iload_n hx hb dX8_ruleAgainst_97 rfl (lv_at hl 2 rfl) ?_
              refine iald_n (f := σ 11) hx hb hK.1 hP 9 0 rfl rfl (a) rfl (by omega) (by decide) dX8_ruleAgainst_98 ?_
              refine lv_bipush (v := 9) hx hb dX8_ruleAgainst_99 (by decide) ?_
              refine lv_icmp_le (tgt := 144) hx hb dX8_ruleAgainst_101 (by decide) (fun c17 => ?_) (fun c17 => ?_)
              · -- 101 taken
                refine lv_iconst (v := 0) hx hb dX8_ruleAgainst_144 (by decide) ?_
                exact J5 0 ((bI_f (by unfold unR; simp only [undP_def, eq_true c1, eq_true c2, eq_true c15, eq_true c16, eq_true c17, not_true, not_false_iff, not_true_eq_false, not_false_eq_true, true_or, or_true, false_or, or_false, or_self, and_self, true_and, and_true, false_and, and_false, if_true, if_false])).symm)
              · -- 101 not
                have c17_k := (hka c17).2
                refine lv_aload_n hx hb dX8_ruleAgainst_104 rfl (lv_at hl 1 rfl) ?_
                refine va_get (D := D) (ci := 8) (v := .ref ((ad 11))) (C := RX8) (T := TX8) (N := 33) hx hb hts iX8 hown hK.1 hP 0 rfl rfl 11 (by decide) (hts _ q_690) (fun _ h9 => h9) rfl dX8_ruleAgainst_105 ?_
                refine lv_iload_n hx hb dX8_ruleAgainst_108 rfl (lv_at hl 3 rfl) ?_
                refine iald_n (f := σ 11) hx hb hK.1 hP 9 0 rfl rfl (b) rfl (by omega) (by decide) dX8_ruleAgainst_109 ?_
                refine lv_bipush (v := 9) hx hb dX8_ruleAgainst_110 (by decide) ?_
                refine lv_icmp_le (tgt := 144) hx hb dX8_ruleAgainst_112 (by decide) (fun c18 => ?_) (fun c18 => ?_)
                · -- 112 taken
                  refine lv_iconst (v := 0) hx hb dX8_ruleAgainst_144 (by decide) ?_
                  exact J5 0 ((bI_f (by unfold unR; simp only [undP_def, eq_true c1, eq_true c2, eq_true c15, eq_true c16, eq_false c17, eq_true c18, not_true, not_false_iff, not_true_eq_false, not_false_eq_true, true_or, or_true, false_or, or_false, or_self, and_self, true_and, and_true, false_and, and_false, if_true, if_false])).symm)
                · -- 112 not
                  have c18_k := (hkb c18).2
                  refine lv_aload_n hx hb dX8_ruleAgainst_115 rfl (lv_at hl 1 rfl) ?_
                  refine lv_aload_n hx hb dX8_ruleAgainst_116 rfl (lv_at hl 1 rfl) ?_
                  refine va_get (D := D) (ci := 8) (v := .ref ((ad 11))) (C := RX8) (T := TX8) (N := 33) hx hb hts iX8 hown hK.1 hP 0 rfl rfl 11 (by decide) (hts _ q_690) (fun _ h9 => h9) rfl dX8_ruleAgainst_117 ?_
                  refine lv_iload_n hx hb dX8_ruleAgainst_120 rfl (lv_at hl 2 rfl) ?_
                  refine iald_n (f := σ 11) hx hb hK.1 hP 9 0 rfl rfl (a) rfl (by omega) (by decide) dX8_ruleAgainst_121 ?_
                  refine lv_bipush (v := 10) hx hb dX8_ruleAgainst_122 (by decide) ?_
                  refine lv_isub hx hb dX8_ruleAgainst_124 ?_
                  refine lv_aload_n hx hb dX8_ruleAgainst_125 rfl (lv_at hl 1 rfl) ?_
                  refine va_get (D := D) (ci := 8) (v := .ref ((ad 11))) (C := RX8) (T := TX8) (N := 33) hx hb hts iX8 hown hK.1 hP 0 rfl rfl 11 (by decide) (hts _ q_690) (fun _ h9 => h9) rfl dX8_ruleAgainst_126 ?_
                  refine lv_iload_n hx hb dX8_ruleAgainst_129 rfl (lv_at hl 3 rfl) ?_
                  refine iald_n (f := σ 11) hx hb hK.1 hP 9 0 rfl rfl (b) rfl (by omega) (by decide) dX8_ruleAgainst_130 ?_
                  refine lv_bipush (v := 10) hx hb dX8_ruleAgainst_131 (by decide) ?_
                  refine lv_isub hx hb dX8_ruleAgainst_133 ?_
                  refine W.eq (g2 := F0 m 134 ls [.int ((σ 11 b) - 10), .int (nI (tyK (σ 11 a))), .ref mo]) (congrArg (fun z9 => F0 m 134 ls [.int ((σ 11 b) - 10), .int z9, .ref mo]) (hka c17).1) ?_
                  refine W.eq (g2 := F0 m 134 ls [.int (nI (tyK (σ 11 b))), .int (nI (tyK (σ 11 a))), .ref mo]) (congrArg (fun z9 => F0 m 134 ls [.int z9, .int (nI (tyK (σ 11 a))), .ref mo]) (hkb c18).1) ?_
                  refine ro_Vi (D := D) (G := G) (As := [.int (nI (tyK (σ 11 a))), .int (nI (tyK (σ 11 b)))]) (rest := []) ⟨hx, hb, hml, hown, hts⟩ (m_lies l D G _ mo ad _ _ hP ((tyK (σ 11 a))) ((tyK (σ 11 b))) (by omega) (by omega) hb6) gV_X8_X8_lies hdV_X8_lies ⟨Nat.le_of_ble_eq_true rfl, Nat.le_of_ble_eq_true rfl⟩ hK (va_recv hK.1 hP (ci := 8) (q0 := 0) rfl rfl) rfl hl.1 rfl (Nat.le_of_ble_eq_true rfl) dX8_ruleAgainst_134 ⟨Nat.le_of_ble_eq_true rfl, Nat.le_of_ble_eq_true rfl⟩ (fun r19 e_r19 => ?_)
                  subst e_r19
                  refine lv_if_eq (tgt := 144) hx hb dX8_ruleAgainst_137 (by decide) (fun c20 => ?_) (fun c20 => ?_)
                  · -- 137 taken
                    have c20 := bI_0 c20
                    refine lv_iconst (v := 0) hx hb dX8_ruleAgainst_144 (by decide) ?_
                    exact J5 0 ((bI_f (by unfold unR; simp only [undP_def, eq_true c1, eq_true c2, eq_true c15, eq_true c16, eq_false c17, eq_false c18, eq_false c20, not_true, not_false_iff, not_true_eq_false, not_false_eq_true, true_or, or_true, false_or, or_false, or_self, and_self, true_and, and_true, false_and, and_false, if_true, if_false])).symm)
                  · -- 137 not
                    have c20 := bI_1 c20
                    refine lv_iconst (v := 1) hx hb dX8_ruleAgainst_140 (by decide) ?_
                    refine lv_goto (tgt := 145) hx hb dX8_ruleAgainst_141 (by decide) ?_
                    exact J5 1 ((bI_t (by unfold unR; simp only [undP_def, eq_true c1, eq_true c2, eq_true c15, eq_true c16, eq_false c17, eq_false c18, eq_true c20, not_true, not_false_iff, not_true_eq_false, not_false_eq_true, true_or, or_true, false_or, or_false, or_self, and_self, true_and, and_true, false_and, and_false, if_true, if_false])).symm)
      · -- up to the meeting at 74
        refine lv_aload_n hx hb dX8_ruleAgainst_39 rfl (lv_at hl 0 rfl) ?_
        refine va_get (D := D) (ci := 8) (v := .ref ((ad 11))) (C := RX8) (T := TX8) (N := 33) hx hb hts iX8 hown hK.1 hP 0 rfl rfl 11 (by decide) (hts _ q_690) (fun _ h9 => h9) rfl dX8_ruleAgainst_40 ?_
        refine lv_iload_n hx hb dX8_ruleAgainst_43 rfl (lv_at hl 1 rfl) ?_
        refine iald_n (f := σ 11) hx hb hK.1 hP 9 0 rfl rfl (a) rfl (by omega) (by decide) dX8_ruleAgainst_44 ?_
        refine lv_aload_n hx hb dX8_ruleAgainst_45 rfl (lv_at hl 0 rfl) ?_
        refine va_get (D := D) (ci := 8) (v := .ref ((ad 11))) (C := RX8) (T := TX8) (N := 33) hx hb hts iX8 hown hK.1 hP 0 rfl rfl 11 (by decide) (hts _ q_690) (fun _ h9 => h9) rfl dX8_ruleAgainst_46 ?_
        refine lv_iload_n hx hb dX8_ruleAgainst_49 rfl (lv_at hl 2 rfl) ?_
        refine iald_n (f := σ 11) hx hb hK.1 hP 9 0 rfl rfl (b) rfl (by omega) (by decide) dX8_ruleAgainst_50 ?_
        refine lv_icmp_ne (tgt := 73) hx hb dX8_ruleAgainst_51 (by decide) (fun c21 => ?_) (fun c21 => ?_)
        · -- 51 taken
          refine lv_iconst (v := 0) hx hb dX8_ruleAgainst_73 (by decide) ?_
          exact J3 0 ((bI_f (by unfold eqR; simp only [eq_true c1, eq_true c2, eq_false c21, not_true, not_false_iff, not_true_eq_false, not_false_eq_true, true_or, or_true, false_or, or_false, or_self, and_self, true_and, and_true, false_and, and_false, if_true, if_false])).symm)
        · -- 51 not
          refine lv_aload_n hx hb dX8_ruleAgainst_54 rfl (lv_at hl 0 rfl) ?_
          refine va_get (D := D) (ci := 8) (v := .ref ((ad 12))) (C := RX8) (T := TX8) (N := 33) hx hb hts iX8 hown hK.1 hP 0 rfl rfl 12 (by decide) (hts _ q_691) (fun _ h9 => h9) rfl dX8_ruleAgainst_55 ?_
          refine lv_iload_n hx hb dX8_ruleAgainst_58 rfl (lv_at hl 1 rfl) ?_
          refine iald_n (f := σ 12) hx hb hK.1 hP 10 0 rfl rfl (a) rfl (by omega) (by decide) dX8_ruleAgainst_59 ?_
          refine lv_aload_n hx hb dX8_ruleAgainst_60 rfl (lv_at hl 0 rfl) ?_
          refine va_get (D := D) (ci := 8) (v := .ref ((ad 12))) (C := RX8) (T := TX8) (N := 33) hx hb hts iX8 hown hK.1 hP 0 rfl rfl 12 (by decide) (hts _ q_691) (fun _ h9 => h9) rfl dX8_ruleAgainst_61 ?_
          refine lv_iload_n hx hb dX8_ruleAgainst_64 rfl (lv_at hl 2 rfl) ?_
          refine iald_n (f := σ 12) hx hb hK.1 hP 10 0 rfl rfl (b) rfl (by omega) (by decide) dX8_ruleAgainst_65 ?_
          refine lv_icmp_ne (tgt := 73) hx hb dX8_ruleAgainst_66 (by decide) (fun c22 => ?_) (fun c22 => ?_)
          · -- 66 taken
            refine lv_iconst (v := 0) hx hb dX8_ruleAgainst_73 (by decide) ?_
            exact J3 0 ((bI_f (by unfold eqR; simp only [eq_true c1, eq_true c2, eq_true c21, eq_false c22, not_true, not_false_iff, not_true_eq_false, not_false_eq_true, true_or, or_true, false_or, or_false, or_self, and_self, true_and, and_true, false_and, and_false, if_true, if_false])).symm)
          · -- 66 not
            refine lv_iconst (v := 1) hx hb dX8_ruleAgainst_69 (by decide) ?_
            refine lv_goto (tgt := 74) hx hb dX8_ruleAgainst_70 (by decide) ?_
            exact J3 1 ((bI_t (by unfold eqR; simp only [eq_true c1, eq_true c2, eq_true c21, eq_true c22, not_true, not_false_iff, not_true_eq_false, not_false_eq_true, true_or, or_true, false_or, or_false, or_self, and_self, true_and, and_true, false_and, and_false, if_true, if_false])).symm)
    · -- 33 not
      refine lv_bipush (v := 23) hx hb dX8_ruleAgainst_36 (by decide) ?_
      exact ro_iret (v := 23) hx hb hr hH hlocks dX8_ruleAgainst_38 (by unfold aRA; simp only [eq_true c1, eq_false c2, not_true, not_false_iff, not_true_eq_false, not_false_eq_true, true_or, or_true, false_or, or_false, or_self, and_self, true_and, and_true, false_and, and_false, if_true, if_false])
  · -- 9 not
    have c1 := and_nle c1
    refine lv_bipush (v := 22) hx hb dX8_ruleAgainst_12 (by decide) ?_
    exact ro_iret (v := 22) hx hb hr hH hlocks dX8_ruleAgainst_14 (by unfold aRA; simp only [eq_false c1, not_true, not_false_iff, not_true_eq_false, not_false_eq_true, true_or, or_true, false_or, or_false, or_self, and_self, true_and, and_true, false_and, and_false, if_true, if_false])
set_option maxHeartbeats 4000000 in
set_option maxRecDepth 100000 in
theorem m_leastMet (l : Launch) (D : va_G) (G : Nat → ClassId) (H : Heap) (mo : Nat) (ad : Nat → Nat) (σ : MS) (τ : Nat → Int64) (hP : va_P D vwCl (mW G mo ad σ τ) H) (k : Nat) (h7 : σ 7 0 = nI k) (hk60 : k ≤ 60) (a : Nat) (ha : a < 60) (hea : okE σ a) (hma : okM σ a) (heo : ∀ i, i < k → okE σ i) (hb6 : ∀ i, σ 6 i = 0 ∨ σ 6 i = 1) : Met l yX8_leastMet (ww yX8_leastMet cX8_leastMet 3 (some .int)) (rmD 3) (roP D G H [.ref mo, .int (nI a)]) (vp_Si (fun r => r = fnd (fun b => meetP σ a b) k 0)) 0 0 (fun _ => False) := by
  refine Met.ofW (cc := cX8_leastMet) (maxL := 3) (ret := (some .int)) (by decide) rfl ?_
  intro p e s m args below meth c s₁ B hml hv
  obtain ⟨rfl, hH, hK⟩ := hv
  have hx := B.exec
  have hb := B.bytes
  have hr := B.returns
  have hts : ∀ w ∈ TT, w.before _ s = true := fun w h => atoms_spec (ws := ww yX8_leastMet cX8_leastMet 3 (some .int)) B.pre w (List.mem_cons_of_mem _ h)
  have hown : s.vm.findClass RX8 = some m.cls := findClass_of_methodNamed B.named
  have hlocks := B.notSynchronized
  rw [hH]
  have hl := lv_entry ([.ref mo, .int (nI a)]) (n := 3) (Nat.le_of_ble_eq_true rfl)
  rw [lg_entry_eq]
  generalize (lg_sl ([.ref mo, .int (nI a)]) ++ List.replicate (3 - (lg_sl ([.ref mo, .int (nI a)])).length) Slot.unset).toArray = ls at hl ⊢
  have hl : lv_has ls 3 [(0, .ref mo), (1, .int (nI a))] := hl
  refine lv_iconst (v := 0) hx hb dX8_leastMet_0 (by decide) ?_
  refine lv_istore_n (lv' := [(2, .int 0), (0, .ref mo), (1, .int (nI a))]) hx hb dX8_leastMet_1 rfl hl (by decide) rfl (fun ls hl => ?_)
  refine w_for (N := k) 2 (L := fun q9 ls => lv_has ls 3 [(2, .int (nI q9)), (0, .ref mo), (1, .int (nI a))] ∧ fnd (fun b => meetP σ a b) k 0 = fnd (fun b => meetP σ a b) (k - q9) q9) (fun k9 ls hk hL ih => ?_) 0 ls (Nat.zero_le _) ⟨hl, by rw [Nat.sub_zero]⟩
  obtain ⟨hl, hi⟩ := hL
  have hl : lv_has ls 3 [(2, .int (nI k9)), (0, .ref mo), (1, .int (nI a))] := hl
  refine lv_iload_n hx hb dX8_leastMet_2 rfl (lv_at hl 0 rfl) ?_
  refine lv_aload_n hx hb dX8_leastMet_3 rfl (lv_at hl 1 rfl) ?_
  refine va_get (D := D) (ci := 8) (v := .int (σ 7 0)) (C := RX8) (T := TX8) (N := 33) hx hb hts iX8 hown hK.1 hP 0 rfl rfl 7 (by decide) (hts _ q_686) (fun _ h9 => h9) rfl dX8_leastMet_4 ?_
  refine lv_icmp_ge (tgt := 27) hx hb dX8_leastMet_7 (by decide) (fun c1 => ?_) (fun c1 => ?_)
  · -- 7 taken
    have c1 : k ≤ k9 := (nI_leI (a := k) (b := k9) (by omega) (by omega)).mp (by have h8 := c1; rw [h7] at h8; exact h8)
    refine lv_iconst (v := -1) hx hb dX8_leastMet_27 (by decide) ?_
    exact ro_iret (v := (-1)) hx hb hr hH hlocks dX8_leastMet_28 (by rw [hi, show k9 = k by omega, Nat.sub_self]; rfl)
  · -- 7 not
    have c1 : ¬ k ≤ k9 := fun h9 => c1 (by rw [h7]; exact (nI_leI (a := k) (b := k9) (by omega) (by omega)).mpr h9)
    refine lv_aload_n hx hb dX8_leastMet_10 rfl (lv_at hl 1 rfl) ?_
    refine lv_iload_n hx hb dX8_leastMet_11 rfl (lv_at hl 2 rfl) ?_
    refine lv_iload_n hx hb dX8_leastMet_12 rfl (lv_at hl 0 rfl) ?_
    refine ro_Vi (D := D) (G := G) (As := [.int (nI a), .int (nI k9)]) (rest := []) ⟨hx, hb, hml, hown, hts⟩ (m_meets l D G _ mo ad _ _ hP (a) (k9) (by omega) (by omega) hea (heo k9 (by omega)) hma hb6) gV_X8_X8_meets hdV_X8_meets ⟨Nat.le_of_ble_eq_true rfl, Nat.le_of_ble_eq_true rfl⟩ hK (va_recv hK.1 hP (ci := 8) (q0 := 0) rfl rfl) rfl hl.1 rfl (Nat.le_of_ble_eq_true rfl) dX8_leastMet_13 ⟨Nat.le_of_ble_eq_true rfl, Nat.le_of_ble_eq_true rfl⟩ (fun r2 e_r2 => ?_)
    subst e_r2
    refine lv_if_eq (tgt := 21) hx hb dX8_leastMet_16 (by decide) (fun c3 => ?_) (fun c3 => ?_)
    · -- 16 taken
      have c3 := bI_0 c3
      refine lv_iinc (v := nI (k9 + 1)) (lv' := [(2, .int (nI (k9 + 1))), (0, .ref mo), (1, .int (nI a))]) hx hb dX8_leastMet_21 hl (k := 0) rfl (nI_1 _) (by decide) rfl (fun ls hl => ?_)
      refine lv_goto (tgt := 2) hx hb dX8_leastMet_24 (by decide) ?_
      have hi := hi.trans (fnd_f (by omega) c3)
      exact ih _ (by omega) ⟨lv_sub hl [0, 1, 2] rfl, hi⟩
    · -- 16 not
      have c3 := bI_1 c3
      refine lv_iload_n hx hb dX8_leastMet_19 rfl (lv_at hl 0 rfl) ?_
      exact ro_iret (v := nI k9) hx hb hr hH hlocks dX8_leastMet_20 (by rw [hi]; exact (fnd_t (by omega) c3 rfl).symm)
set_option maxHeartbeats 4000000 in
set_option maxRecDepth 100000 in
theorem m_both (l : Launch) (D : va_G) (G : Nat → ClassId) (H : Heap) (x : Int32) (y : Int32) : Met l yX8_both (ww yX8_both cX8_both 2 (some .int)) (rmD 0) (roP D G H [.int x, .int y]) (vp_Si (fun r => r = bothF x y)) 0 0 (fun _ => False) := by
  refine Met.ofW (cc := cX8_both) (maxL := 2) (ret := (some .int)) (by decide) rfl ?_
  intro p e s m args below meth c s₁ B hml hv
  obtain ⟨rfl, hH, hK⟩ := hv
  have hx := B.exec
  have hb := B.bytes
  have hr := B.returns
  have hts : ∀ w ∈ TT, w.before _ s = true := fun w h => atoms_spec (ws := ww yX8_both cX8_both 2 (some .int)) B.pre w (List.mem_cons_of_mem _ h)
  have hown : s.vm.findClass RX8 = some m.cls := findClass_of_methodNamed B.named
  have hlocks := B.notSynchronized
  rw [hH]
  have hl := lv_entry ([.int x, .int y]) (n := 2) (Nat.le_of_ble_eq_true rfl)
  rw [lg_entry_eq]
  generalize (lg_sl ([.int x, .int y]) ++ List.replicate (2 - (lg_sl ([.int x, .int y])).length) Slot.unset).toArray = ls at hl ⊢
  have hl : lv_has ls 2 [(0, .int x), (1, .int y)] := hl
  refine lv_iload_n hx hb dX8_both_0 rfl (lv_at hl 0 rfl) ?_
  refine lv_iconst (v := -1) hx hb dX8_both_1 (by decide) ?_
  refine lv_icmp_ne (tgt := 9) hx hb dX8_both_2 (by decide) (fun c1 => ?_) (fun c1 => ?_)
  · -- 2 taken
    refine lv_iload_n hx hb dX8_both_9 rfl (lv_at hl 1 rfl) ?_
    refine lv_iconst (v := -1) hx hb dX8_both_10 (by decide) ?_
    refine lv_icmp_eq (tgt := 19) hx hb dX8_both_11 (by decide) (fun c2 => ?_) (fun c2 => ?_)
    · -- 11 taken
      refine lv_iload_n hx hb dX8_both_19 rfl (lv_at hl 0 rfl) ?_
      refine lv_goto (tgt := 25) hx hb dX8_both_20 (by decide) ?_
      exact ro_iret (v := x) hx hb hr hH hlocks dX8_both_25 (by unfold bothF; simp only [eq_false c1, eq_true c2, not_true, not_false_iff, not_true_eq_false, not_false_eq_true, true_or, or_true, false_or, or_false, or_self, and_self, true_and, and_true, false_and, and_false, if_true, if_false])
    · -- 11 not
      refine lv_iload_n hx hb dX8_both_14 rfl (lv_at hl 0 rfl) ?_
      refine lv_iload_n hx hb dX8_both_15 rfl (lv_at hl 1 rfl) ?_
      refine lv_icmp_ne (tgt := 23) hx hb dX8_both_16 (by decide) (fun c3 => ?_) (fun c3 => ?_)
      · -- 16 taken
        refine lv_bipush (v := -2) hx hb dX8_both_23 (by decide) ?_
        exact ro_iret (v := (-2)) hx hb hr hH hlocks dX8_both_25 (by unfold bothF; simp only [eq_false c1, eq_false c2, eq_false c3, not_true, not_false_iff, not_true_eq_false, not_false_eq_true, true_or, or_true, false_or, or_false, or_self, and_self, true_and, and_true, false_and, and_false, if_true, if_false])
      · -- 16 not
        refine lv_iload_n hx hb dX8_both_19 rfl (lv_at hl 0 rfl) ?_
        refine lv_goto (tgt := 25) hx hb dX8_both_20 (by decide) ?_
        exact ro_iret (v := x) hx hb hr hH hlocks dX8_both_25 (by unfold bothF; simp only [eq_false c1, eq_false c2, eq_true c3, not_true, not_false_iff, not_true_eq_false, not_false_eq_true, true_or, or_true, false_or, or_false, or_self, and_self, true_and, and_true, false_and, and_false, if_true, if_false])
  · -- 2 not
    refine lv_iload_n hx hb dX8_both_5 rfl (lv_at hl 1 rfl) ?_
    refine lv_goto (tgt := 25) hx hb dX8_both_6 (by decide) ?_
    exact ro_iret (v := y) hx hb hr hH hlocks dX8_both_25 (by unfold bothF; simp only [eq_true c1, not_true, not_false_iff, not_true_eq_false, not_false_eq_true, true_or, or_true, false_or, or_false, or_self, and_self, true_and, and_true, false_and, and_false, if_true, if_false])
set_option maxHeartbeats 4000000 in
set_option maxRecDepth 100000 in
theorem m_widens (l : Launch) (D : va_G) (G : Nat → ClassId) (H : Heap) (x : Int32) (y : Int32) : Met l yX8_widens (ww yX8_widens cX8_widens 2 (some .boolean)) (rmD 1) (roP D G H [.int x, .int y]) (vp_Si (fun r => r = bI (wdP x y))) 0 0 (fun _ => False) := by
  refine Met.ofW (cc := cX8_widens) (maxL := 2) (ret := (some .boolean)) (by decide) rfl ?_
  intro p e s m args below meth c s₁ B hml hv
  obtain ⟨rfl, hH, hK⟩ := hv
  have hx := B.exec
  have hb := B.bytes
  have hr := B.returns
  have hts : ∀ w ∈ TT, w.before _ s = true := fun w h => atoms_spec (ws := ww yX8_widens cX8_widens 2 (some .boolean)) B.pre w (List.mem_cons_of_mem _ h)
  have hown : s.vm.findClass RX8 = some m.cls := findClass_of_methodNamed B.named
  have hlocks := B.notSynchronized
  rw [hH]
  have hl := lv_entry ([.int x, .int y]) (n := 2) (Nat.le_of_ble_eq_true rfl)
  rw [lg_entry_eq]
  generalize (lg_sl ([.int x, .int y]) ++ List.replicate (2 - (lg_sl ([.int x, .int y])).length) Slot.unset).toArray = ls at hl ⊢
  have hl : lv_has ls 2 [(0, .int x), (1, .int y)] := hl
  refine lv_iload_n hx hb dX8_widens_0 rfl (lv_at hl 0 rfl) ?_
  refine lv_iconst (v := 4) hx hb dX8_widens_1 (by decide) ?_
  refine lv_icmp_ne (tgt := 13) hx hb dX8_widens_2 (by decide) (fun c1 => ?_) (fun c1 => ?_)
  · -- 2 taken
    refine lv_iload_n hx hb dX8_widens_13 rfl (lv_at hl 0 rfl) ?_
    refine lv_iconst (v := 2) hx hb dX8_widens_14 (by decide) ?_
    refine lv_bipush (v := 7) hx hb dX8_widens_15 (by decide) ?_
    refine ro_Si (D := D) (G := G) (As := [.int x, .int 2, .int 7]) (rest := []) ⟨hx, hb, hml, hown, hts⟩ (m_in l D G _ x 2 7) gS_X8_X8_in hdS_X8_in ⟨Nat.le_of_ble_eq_true rfl, Nat.le_of_ble_eq_true rfl⟩ hK rfl hl.1 rfl (Nat.le_of_ble_eq_true rfl) dX8_widens_17 ⟨Nat.le_of_ble_eq_true rfl, Nat.le_of_ble_eq_true rfl⟩ (fun r2 e_r2 => ?_)
    subst e_r2
    refine lv_if_eq (tgt := 47) hx hb dX8_widens_20 (by decide) (fun c3 => ?_) (fun c3 => ?_)
    · -- 20 taken
      have c3 := bI_0 c3
      refine lv_iconst (v := 0) hx hb dX8_widens_47 (by decide) ?_
      exact ro_zret (v := 0) hx hb hr hH hlocks dX8_widens_48 (Or.inl rfl) ((bI_f (by rw [wdP_def]; simp only [eq_false c1, eq_false c3, not_true, not_false_iff, not_true_eq_false, not_false_eq_true, true_or, or_true, false_or, or_false, or_self, and_self, true_and, and_true, false_and, and_false, if_true, if_false])).symm)
    · -- 20 not
      have c3 := bI_1 c3
      refine lv_iload_n hx hb dX8_widens_23 rfl (lv_at hl 1 rfl) ?_
      refine lv_iconst (v := 3) hx hb dX8_widens_24 (by decide) ?_
      refine lv_bipush (v := 8) hx hb dX8_widens_25 (by decide) ?_
      refine ro_Si (D := D) (G := G) (As := [.int y, .int 3, .int 8]) (rest := []) ⟨hx, hb, hml, hown, hts⟩ (m_in l D G _ y 3 8) gS_X8_X8_in hdS_X8_in ⟨Nat.le_of_ble_eq_true rfl, Nat.le_of_ble_eq_true rfl⟩ hK rfl hl.1 rfl (Nat.le_of_ble_eq_true rfl) dX8_widens_27 ⟨Nat.le_of_ble_eq_true rfl, Nat.le_of_ble_eq_true rfl⟩ (fun r4 e_r4 => ?_)
      subst e_r4
      refine lv_if_eq (tgt := 47) hx hb dX8_widens_30 (by decide) (fun c5 => ?_) (fun c5 => ?_)
      · -- 30 taken
        have c5 := bI_0 c5
        refine lv_iconst (v := 0) hx hb dX8_widens_47 (by decide) ?_
        exact ro_zret (v := 0) hx hb hr hH hlocks dX8_widens_48 (Or.inl rfl) ((bI_f (by rw [wdP_def]; simp only [eq_false c1, eq_true c3, eq_false c5, not_true, not_false_iff, not_true_eq_false, not_false_eq_true, true_or, or_true, false_or, or_false, or_self, and_self, true_and, and_true, false_and, and_false, if_true, if_false])).symm)
      · -- 30 not
        have c5 := bI_1 c5
        refine lv_iload_n hx hb dX8_widens_33 rfl (lv_at hl 1 rfl) ?_
        refine lv_iload_n hx hb dX8_widens_34 rfl (lv_at hl 0 rfl) ?_
        refine lv_icmp_le (tgt := 47) hx hb dX8_widens_35 (by decide) (fun c6 => ?_) (fun c6 => ?_)
        · -- 35 taken
          refine lv_iconst (v := 0) hx hb dX8_widens_47 (by decide) ?_
          exact ro_zret (v := 0) hx hb hr hH hlocks dX8_widens_48 (Or.inl rfl) ((bI_f (by rw [wdP_def]; simp only [eq_false c1, eq_true c3, eq_true c5, eq_true c6, not_true, not_false_iff, not_true_eq_false, not_false_eq_true, true_or, or_true, false_or, or_false, or_self, and_self, true_and, and_true, false_and, and_false, if_true, if_false])).symm)
        · -- 35 not
          refine lv_iload_n hx hb dX8_widens_38 rfl (lv_at hl 1 rfl) ?_
          refine lv_iconst (v := 4) hx hb dX8_widens_39 (by decide) ?_
          refine lv_icmp_eq (tgt := 47) hx hb dX8_widens_40 (by decide) (fun c7 => ?_) (fun c7 => ?_)
          · -- 40 taken
            refine lv_iconst (v := 0) hx hb dX8_widens_47 (by decide) ?_
            exact ro_zret (v := 0) hx hb hr hH hlocks dX8_widens_48 (Or.inl rfl) ((bI_f (by rw [wdP_def]; simp only [eq_false c1, eq_true c3, eq_true c5, eq_false c6, eq_true c7, not_true, not_false_iff, not_true_eq_false, not_false_eq_true, true_or, or_true, false_or, or_false, or_self, and_self, true_and, and_true, false_and, and_false, if_true, if_false])).symm)
          · -- 40 not
            refine lv_iconst (v := 1) hx hb dX8_widens_43 (by decide) ?_
            refine lv_goto (tgt := 48) hx hb dX8_widens_44 (by decide) ?_
            exact ro_zret (v := 1) hx hb hr hH hlocks dX8_widens_48 (Or.inr rfl) ((bI_t (by rw [wdP_def]; simp only [eq_false c1, eq_true c3, eq_true c5, eq_false c6, eq_false c7, not_true, not_false_iff, not_true_eq_false, not_false_eq_true, true_or, or_true, false_or, or_false, or_self, and_self, true_and, and_true, false_and, and_false, if_true, if_false])).symm)
  · -- 2 not
    refine lv_iload_n hx hb dX8_widens_5 rfl (lv_at hl 1 rfl) ?_
    refine lv_iconst (v := 5) hx hb dX8_widens_6 (by decide) ?_
    refine lv_bipush (v := 8) hx hb dX8_widens_7 (by decide) ?_
    refine ro_Si (D := D) (G := G) (As := [.int y, .int 5, .int 8]) (rest := []) ⟨hx, hb, hml, hown, hts⟩ (m_in l D G _ y 5 8) gS_X8_X8_in hdS_X8_in ⟨Nat.le_of_ble_eq_true rfl, Nat.le_of_ble_eq_true rfl⟩ hK rfl hl.1 rfl (Nat.le_of_ble_eq_true rfl) dX8_widens_9 ⟨Nat.le_of_ble_eq_true rfl, Nat.le_of_ble_eq_true rfl⟩ (fun r8 e_r8 => ?_)
    subst e_r8
    exact ro_zret (v := bI (5 ≤ y ∧ y ≤ 8)) hx hb hr hH hlocks dX8_widens_12 bI_b (bI_c (by rw [wdP_def]; simp only [eq_true c1, not_true, not_false_iff, not_true_eq_false, not_false_eq_true, true_or, or_true, false_or, or_false, or_self, and_self, true_and, and_true, false_and, and_false, if_true, if_false]))
set_option maxHeartbeats 4000000 in
set_option maxRecDepth 100000 in
theorem m_fits (l : Launch) (D : va_G) (G : Nat → ClassId) (H : Heap) (mo : Nat) (ad : Nat → Nat) (σ : MS) (τ : Nat → Int64) (hP : va_P D vwCl (mW G mo ad σ τ) H) (x1 : Int32) (d1 : Int32) (x2 : Int32) (d2 : Int32) (hk1 : kdO x1) (hk2 : kdO x2) (hb6 : ∀ i, σ 6 i = 0 ∨ σ 6 i = 1) : Met l yX8_fits (ww yX8_fits cX8_fits 5 (some .boolean)) (rmD 2) (roP D G H [.ref mo, .int x1, .int d1, .int x2, .int d2]) (vp_Si (fun r => r = bI (fitP σ x1 d1 x2 d2))) 0 0 (fun _ => False) := by
  refine Met.ofW (cc := cX8_fits) (maxL := 5) (ret := (some .boolean)) (by decide) rfl ?_
  intro p e s m args below meth c s₁ B hml hv
  obtain ⟨rfl, hH, hK⟩ := hv
  have hx := B.exec
  have hb := B.bytes
  have hr := B.returns
  have hts : ∀ w ∈ TT, w.before _ s = true := fun w h => atoms_spec (ws := ww yX8_fits cX8_fits 5 (some .boolean)) B.pre w (List.mem_cons_of_mem _ h)
  have hown : s.vm.findClass RX8 = some m.cls := findClass_of_methodNamed B.named
  have hlocks := B.notSynchronized
  rw [hH]
  have hl := lv_entry ([.ref mo, .int x1, .int d1, .int x2, .int d2]) (n := 5) (Nat.le_of_ble_eq_true rfl)
  rw [lg_entry_eq]
  generalize (lg_sl ([.ref mo, .int x1, .int d1, .int x2, .int d2]) ++ List.replicate (5 - (lg_sl ([.ref mo, .int x1, .int d1, .int x2, .int d2])).length) Slot.unset).toArray = ls at hl ⊢
  have hl : lv_has ls 5 [(0, .ref mo), (1, .int x1), (2, .int d1), (3, .int x2), (4, .int d2)] := hl
  refine lv_iload_n hx hb dX8_fits_0 rfl (lv_at hl 1 rfl) ?_
  refine lv_iload_n hx hb dX8_fits_1 rfl (lv_at hl 3 rfl) ?_
  refine lv_icmp_ne (tgt := 13) hx hb dX8_fits_2 (by decide) (fun c1 => ?_) (fun c1 => ?_)
  · -- 2 taken
    refine lv_iload_n hx hb dX8_fits_13 rfl (lv_at hl 1 rfl) ?_
    refine lv_bipush (v := 9) hx hb dX8_fits_14 (by decide) ?_
    refine lv_icmp_ne (tgt := 36) hx hb dX8_fits_16 (by decide) (fun c2 => ?_) (fun c2 => ?_)
    · -- 16 taken
      refine lv_iload_n hx hb dX8_fits_36 rfl (lv_at hl 2 rfl) ?_
      refine lv_if_ne (tgt := 57) hx hb dX8_fits_37 (by decide) (fun c3 => ?_) (fun c3 => ?_)
      · -- 37 taken
        refine lv_iload_n hx hb dX8_fits_57 rfl (lv_at hl 2 rfl) ?_
        refine lv_iload hx hb dX8_fits_58 (lv_at hl 4 rfl) ?_
        refine lv_icmp_ne (tgt := 94) hx hb dX8_fits_60 (by decide) (fun c4 => ?_) (fun c4 => ?_)
        · -- 60 taken
          refine lv_iconst (v := 0) hx hb dX8_fits_94 (by decide) ?_
          exact ro_zret (v := 0) hx hb hr hH hlocks dX8_fits_95 (Or.inl rfl) ((bI_f (by rw [fitP_def]; simp only [undP_def, eq_false c1, eq_false c2, eq_false c3, eq_false c4, not_true, not_false_iff, not_true_eq_false, not_false_eq_true, true_or, or_true, false_or, or_false, or_self, and_self, true_and, and_true, false_and, and_false, if_true, if_false])).symm)
        · -- 60 not
          refine lv_iload_n hx hb dX8_fits_63 rfl (lv_at hl 1 rfl) ?_
          refine lv_bipush (v := 9) hx hb dX8_fits_64 (by decide) ?_
          refine lv_icmp_le (tgt := 94) hx hb dX8_fits_66 (by decide) (fun c5 => ?_) (fun c5 => ?_)
          · -- 66 taken
            refine lv_iconst (v := 0) hx hb dX8_fits_94 (by decide) ?_
            exact ro_zret (v := 0) hx hb hr hH hlocks dX8_fits_95 (Or.inl rfl) ((bI_f (by rw [fitP_def]; simp only [undP_def, eq_false c1, eq_false c2, eq_false c3, eq_true c4, eq_true c5, not_true, not_false_iff, not_true_eq_false, not_false_eq_true, true_or, or_true, false_or, or_false, or_self, and_self, true_and, and_true, false_and, and_false, if_true, if_false])).symm)
          · -- 66 not
            have c5_k := (hk1 c5).2
            refine lv_iload_n hx hb dX8_fits_69 rfl (lv_at hl 3 rfl) ?_
            refine lv_bipush (v := 9) hx hb dX8_fits_70 (by decide) ?_
            refine lv_icmp_le (tgt := 94) hx hb dX8_fits_72 (by decide) (fun c6 => ?_) (fun c6 => ?_)
            · -- 72 taken
              refine lv_iconst (v := 0) hx hb dX8_fits_94 (by decide) ?_
              exact ro_zret (v := 0) hx hb hr hH hlocks dX8_fits_95 (Or.inl rfl) ((bI_f (by rw [fitP_def]; simp only [undP_def, eq_false c1, eq_false c2, eq_false c3, eq_true c4, eq_false c5, eq_true c6, not_true, not_false_iff, not_true_eq_false, not_false_eq_true, true_or, or_true, false_or, or_false, or_self, and_self, true_and, and_true, false_and, and_false, if_true, if_false])).symm)
            · -- 72 not
              have c6_k := (hk2 c6).2
              refine lv_aload_n hx hb dX8_fits_75 rfl (lv_at hl 0 rfl) ?_
              refine lv_iload_n hx hb dX8_fits_76 rfl (lv_at hl 1 rfl) ?_
              refine lv_bipush (v := 10) hx hb dX8_fits_77 (by decide) ?_
              refine lv_isub hx hb dX8_fits_79 ?_
              refine lv_iload_n hx hb dX8_fits_80 rfl (lv_at hl 3 rfl) ?_
              refine lv_bipush (v := 10) hx hb dX8_fits_81 (by decide) ?_
              refine lv_isub hx hb dX8_fits_83 ?_
              refine W.eq (g2 := F0 m 84 ls [.int (x2 - 10), .int (nI (tyK (x1))), .ref mo]) (congrArg (fun z9 => F0 m 84 ls [.int (x2 - 10), .int z9, .ref mo]) (hk1 c5).1) ?_
              refine W.eq (g2 := F0 m 84 ls [.int (nI (tyK (x2))), .int (nI (tyK (x1))), .ref mo]) (congrArg (fun z9 => F0 m 84 ls [.int z9, .int (nI (tyK (x1))), .ref mo]) (hk2 c6).1) ?_
              refine ro_Vi (D := D) (G := G) (As := [.int (nI (tyK (x1))), .int (nI (tyK (x2)))]) (rest := []) ⟨hx, hb, hml, hown, hts⟩ (m_lies l D G _ mo ad _ _ hP ((tyK (x1))) ((tyK (x2))) (by omega) (by omega) hb6) gV_X8_X8_lies hdV_X8_lies ⟨Nat.le_of_ble_eq_true rfl, Nat.le_of_ble_eq_true rfl⟩ hK (va_recv hK.1 hP (ci := 8) (q0 := 0) rfl rfl) rfl hl.1 rfl (Nat.le_of_ble_eq_true rfl) dX8_fits_84 ⟨Nat.le_of_ble_eq_true rfl, Nat.le_of_ble_eq_true rfl⟩ (fun r7 e_r7 => ?_)
              subst e_r7
              refine lv_if_eq (tgt := 94) hx hb dX8_fits_87 (by decide) (fun c8 => ?_) (fun c8 => ?_)
              · -- 87 taken
                have c8 := bI_0 c8
                refine lv_iconst (v := 0) hx hb dX8_fits_94 (by decide) ?_
                exact ro_zret (v := 0) hx hb hr hH hlocks dX8_fits_95 (Or.inl rfl) ((bI_f (by rw [fitP_def]; simp only [undP_def, eq_false c1, eq_false c2, eq_false c3, eq_true c4, eq_false c5, eq_false c6, eq_false c8, not_true, not_false_iff, not_true_eq_false, not_false_eq_true, true_or, or_true, false_or, or_false, or_self, and_self, true_and, and_true, false_and, and_false, if_true, if_false])).symm)
              · -- 87 not
                have c8 := bI_1 c8
                refine lv_iconst (v := 1) hx hb dX8_fits_90 (by decide) ?_
                refine lv_goto (tgt := 95) hx hb dX8_fits_91 (by decide) ?_
                exact ro_zret (v := 1) hx hb hr hH hlocks dX8_fits_95 (Or.inr rfl) ((bI_t (by rw [fitP_def]; simp only [undP_def, eq_false c1, eq_false c2, eq_false c3, eq_true c4, eq_false c5, eq_false c6, eq_true c8, not_true, not_false_iff, not_true_eq_false, not_false_eq_true, true_or, or_true, false_or, or_false, or_self, and_self, true_and, and_true, false_and, and_false, if_true, if_false])).symm)
      · -- 37 not
        refine lv_iload hx hb dX8_fits_40 (lv_at hl 4 rfl) ?_
        refine lv_if_ne (tgt := 57) hx hb dX8_fits_42 (by decide) (fun c9 => ?_) (fun c9 => ?_)
        · -- 42 taken
          refine lv_iload_n hx hb dX8_fits_57 rfl (lv_at hl 2 rfl) ?_
          refine lv_iload hx hb dX8_fits_58 (lv_at hl 4 rfl) ?_
          refine lv_icmp_ne (tgt := 94) hx hb dX8_fits_60 (by decide) (fun c10 => ?_) (fun c10 => ?_)
          · -- 60 taken
            refine lv_iconst (v := 0) hx hb dX8_fits_94 (by decide) ?_
            exact ro_zret (v := 0) hx hb hr hH hlocks dX8_fits_95 (Or.inl rfl) ((bI_f (by rw [fitP_def]; simp only [undP_def, eq_false c1, eq_false c2, eq_true c3, eq_false c9, eq_false c10, not_true, not_false_iff, not_true_eq_false, not_false_eq_true, true_or, or_true, false_or, or_false, or_self, and_self, true_and, and_true, false_and, and_false, if_true, if_false])).symm)
          · -- 60 not
            refine lv_iload_n hx hb dX8_fits_63 rfl (lv_at hl 1 rfl) ?_
            refine lv_bipush (v := 9) hx hb dX8_fits_64 (by decide) ?_
            refine lv_icmp_le (tgt := 94) hx hb dX8_fits_66 (by decide) (fun c11 => ?_) (fun c11 => ?_)
            · -- 66 taken
              refine lv_iconst (v := 0) hx hb dX8_fits_94 (by decide) ?_
              exact ro_zret (v := 0) hx hb hr hH hlocks dX8_fits_95 (Or.inl rfl) ((bI_f (by rw [fitP_def]; simp only [undP_def, eq_false c1, eq_false c2, eq_true c3, eq_false c9, eq_true c10, eq_true c11, not_true, not_false_iff, not_true_eq_false, not_false_eq_true, true_or, or_true, false_or, or_false, or_self, and_self, true_and, and_true, false_and, and_false, if_true, if_false])).symm)
            · -- 66 not
              have c11_k := (hk1 c11).2
              refine lv_iload_n hx hb dX8_fits_69 rfl (lv_at hl 3 rfl) ?_
              refine lv_bipush (v := 9) hx hb dX8_fits_70 (by decide) ?_
              refine lv_icmp_le (tgt := 94) hx hb dX8_fits_72 (by decide) (fun c12 => ?_) (fun c12 => ?_)
              · -- 72 taken
                refine lv_iconst (v := 0) hx hb dX8_fits_94 (by decide) ?_
                exact ro_zret (v := 0) hx hb hr hH hlocks dX8_fits_95 (Or.inl rfl) ((bI_f (by rw [fitP_def]; simp only [undP_def, eq_false c1, eq_false c2, eq_true c3, eq_false c9, eq_true c10, eq_false c11, eq_true c12, not_true, not_false_iff, not_true_eq_false, not_false_eq_true, true_or, or_true, false_or, or_false, or_self, and_self, true_and, and_true, false_and, and_false, if_true, if_false])).symm)
              · -- 72 not
                have c12_k := (hk2 c12).2
                refine lv_aload_n hx hb dX8_fits_75 rfl (lv_at hl 0 rfl) ?_
                refine lv_iload_n hx hb dX8_fits_76 rfl (lv_at hl 1 rfl) ?_
                refine lv_bipush (v := 10) hx hb dX8_fits_77 (by decide) ?_
                refine lv_isub hx hb dX8_fits_79 ?_
                refine lv_iload_n hx hb dX8_fits_80 rfl (lv_at hl 3 rfl) ?_
                refine lv_bipush (v := 10) hx hb dX8_fits_81 (by decide) ?_
                refine lv_isub hx hb dX8_fits_83 ?_
                refine W.eq (g2 := F0 m 84 ls [.int (x2 - 10), .int (nI (tyK (x1))), .ref mo]) (congrArg (fun z9 => F0 m 84 ls [.int (x2 - 10), .int z9, .ref mo]) (hk1 c11).1) ?_
                refine W.eq (g2 := F0 m 84 ls [.int (nI (tyK (x2))), .int (nI (tyK (x1))), .ref mo]) (congrArg (fun z9 => F0 m 84 ls [.int z9, .int (nI (tyK (x1))), .ref mo]) (hk2 c12).1) ?_
                refine ro_Vi (D := D) (G := G) (As := [.int (nI (tyK (x1))), .int (nI (tyK (x2)))]) (rest := []) ⟨hx, hb, hml, hown, hts⟩ (m_lies l D G _ mo ad _ _ hP ((tyK (x1))) ((tyK (x2))) (by omega) (by omega) hb6) gV_X8_X8_lies hdV_X8_lies ⟨Nat.le_of_ble_eq_true rfl, Nat.le_of_ble_eq_true rfl⟩ hK (va_recv hK.1 hP (ci := 8) (q0 := 0) rfl rfl) rfl hl.1 rfl (Nat.le_of_ble_eq_true rfl) dX8_fits_84 ⟨Nat.le_of_ble_eq_true rfl, Nat.le_of_ble_eq_true rfl⟩ (fun r13 e_r13 => ?_)
                subst e_r13
                refine lv_if_eq (tgt := 94) hx hb dX8_fits_87 (by decide) (fun c14 => ?_) (fun c14 => ?_)
                · -- 87 taken
                  have c14 := bI_0 c14
                  refine lv_iconst (v := 0) hx hb dX8_fits_94 (by decide) ?_
                  exact ro_zret (v := 0) hx hb hr hH hlocks dX8_fits_95 (Or.inl rfl) ((bI_f (by rw [fitP_def]; simp only [undP_def, eq_false c1, eq_false c2, eq_true c3, eq_false c9, eq_true c10, eq_false c11, eq_false c12, eq_false c14, not_true, not_false_iff, not_true_eq_false, not_false_eq_true, true_or, or_true, false_or, or_false, or_self, and_self, true_and, and_true, false_and, and_false, if_true, if_false])).symm)
                · -- 87 not
                  have c14 := bI_1 c14
                  refine lv_iconst (v := 1) hx hb dX8_fits_90 (by decide) ?_
                  refine lv_goto (tgt := 95) hx hb dX8_fits_91 (by decide) ?_
                  exact ro_zret (v := 1) hx hb hr hH hlocks dX8_fits_95 (Or.inr rfl) ((bI_t (by rw [fitP_def]; simp only [undP_def, eq_false c1, eq_false c2, eq_true c3, eq_false c9, eq_true c10, eq_false c11, eq_false c12, eq_true c14, not_true, not_false_iff, not_true_eq_false, not_false_eq_true, true_or, or_true, false_or, or_false, or_self, and_self, true_and, and_true, false_and, and_false, if_true, if_false])).symm)
        · -- 42 not
          refine lv_iload_n hx hb dX8_fits_45 rfl (lv_at hl 1 rfl) ?_
          refine lv_bipush (v := 9) hx hb dX8_fits_46 (by decide) ?_
          refine lv_icmp_ge (tgt := 57) hx hb dX8_fits_48 (by decide) (fun c15 => ?_) (fun c15 => ?_)
          · -- 48 taken
            refine lv_iload_n hx hb dX8_fits_57 rfl (lv_at hl 2 rfl) ?_
            refine lv_iload hx hb dX8_fits_58 (lv_at hl 4 rfl) ?_
            refine lv_icmp_ne (tgt := 94) hx hb dX8_fits_60 (by decide) (fun c16 => ?_) (fun c16 => ?_)
            · -- 60 taken
              refine lv_iconst (v := 0) hx hb dX8_fits_94 (by decide) ?_
              exact ro_zret (v := 0) hx hb hr hH hlocks dX8_fits_95 (Or.inl rfl) ((bI_f (by rw [fitP_def]; simp only [undP_def, eq_false c1, eq_false c2, eq_true c3, eq_true c9, eq_true c15, eq_false c16, not_true, not_false_iff, not_true_eq_false, not_false_eq_true, true_or, or_true, false_or, or_false, or_self, and_self, true_and, and_true, false_and, and_false, if_true, if_false])).symm)
            · -- 60 not
              refine lv_iload_n hx hb dX8_fits_63 rfl (lv_at hl 1 rfl) ?_
              refine lv_bipush (v := 9) hx hb dX8_fits_64 (by decide) ?_
              refine lv_icmp_le (tgt := 94) hx hb dX8_fits_66 (by decide) (fun c17 => ?_) (fun c17 => ?_)
              · -- 66 taken
                refine lv_iconst (v := 0) hx hb dX8_fits_94 (by decide) ?_
                exact ro_zret (v := 0) hx hb hr hH hlocks dX8_fits_95 (Or.inl rfl) ((bI_f (by rw [fitP_def]; simp only [undP_def, eq_false c1, eq_false c2, eq_true c3, eq_true c9, eq_true c15, eq_true c16, eq_true c17, not_true, not_false_iff, not_true_eq_false, not_false_eq_true, true_or, or_true, false_or, or_false, or_self, and_self, true_and, and_true, false_and, and_false, if_true, if_false])).symm)
              · -- 66 not
                have c17_k := (hk1 c17).2
                refine lv_iload_n hx hb dX8_fits_69 rfl (lv_at hl 3 rfl) ?_
                refine lv_bipush (v := 9) hx hb dX8_fits_70 (by decide) ?_
                refine lv_icmp_le (tgt := 94) hx hb dX8_fits_72 (by decide) (fun c18 => ?_) (fun c18 => ?_)
                · -- 72 taken
                  refine lv_iconst (v := 0) hx hb dX8_fits_94 (by decide) ?_
                  exact ro_zret (v := 0) hx hb hr hH hlocks dX8_fits_95 (Or.inl rfl) ((bI_f (by rw [fitP_def]; simp only [undP_def, eq_false c1, eq_false c2, eq_true c3, eq_true c9, eq_true c15, eq_true c16, eq_false c17, eq_true c18, not_true, not_false_iff, not_true_eq_false, not_false_eq_true, true_or, or_true, false_or, or_false, or_self, and_self, true_and, and_true, false_and, and_false, if_true, if_false])).symm)
                · -- 72 not
                  have c18_k := (hk2 c18).2
                  refine lv_aload_n hx hb dX8_fits_75 rfl (lv_at hl 0 rfl) ?_
                  refine lv_iload_n hx hb dX8_fits_76 rfl (lv_at hl 1 rfl) ?_
                  refine lv_bipush (v := 10) hx hb dX8_fits_77 (by decide) ?_
                  refine lv_isub hx hb dX8_fits_79 ?_
                  refine lv_iload_n hx hb dX8_fits_80 rfl (lv_at hl 3 rfl) ?_
                  refine lv_bipush (v := 10) hx hb dX8_fits_81 (by decide) ?_
                  refine lv_isub hx hb dX8_fits_83 ?_
                  refine W.eq (g2 := F0 m 84 ls [.int (x2 - 10), .int (nI (tyK (x1))), .ref mo]) (congrArg (fun z9 => F0 m 84 ls [.int (x2 - 10), .int z9, .ref mo]) (hk1 c17).1) ?_
                  refine W.eq (g2 := F0 m 84 ls [.int (nI (tyK (x2))), .int (nI (tyK (x1))), .ref mo]) (congrArg (fun z9 => F0 m 84 ls [.int z9, .int (nI (tyK (x1))), .ref mo]) (hk2 c18).1) ?_
                  refine ro_Vi (D := D) (G := G) (As := [.int (nI (tyK (x1))), .int (nI (tyK (x2)))]) (rest := []) ⟨hx, hb, hml, hown, hts⟩ (m_lies l D G _ mo ad _ _ hP ((tyK (x1))) ((tyK (x2))) (by omega) (by omega) hb6) gV_X8_X8_lies hdV_X8_lies ⟨Nat.le_of_ble_eq_true rfl, Nat.le_of_ble_eq_true rfl⟩ hK (va_recv hK.1 hP (ci := 8) (q0 := 0) rfl rfl) rfl hl.1 rfl (Nat.le_of_ble_eq_true rfl) dX8_fits_84 ⟨Nat.le_of_ble_eq_true rfl, Nat.le_of_ble_eq_true rfl⟩ (fun r19 e_r19 => ?_)
                  subst e_r19
                  refine lv_if_eq (tgt := 94) hx hb dX8_fits_87 (by decide) (fun c20 => ?_) (fun c20 => ?_)
                  · -- 87 taken
                    have c20 := bI_0 c20
                    refine lv_iconst (v := 0) hx hb dX8_fits_94 (by decide) ?_
                    exact ro_zret (v := 0) hx hb hr hH hlocks dX8_fits_95 (Or.inl rfl) ((bI_f (by rw [fitP_def]; simp only [undP_def, eq_false c1, eq_false c2, eq_true c3, eq_true c9, eq_true c15, eq_true c16, eq_false c17, eq_false c18, eq_false c20, not_true, not_false_iff, not_true_eq_false, not_false_eq_true, true_or, or_true, false_or, or_false, or_self, and_self, true_and, and_true, false_and, and_false, if_true, if_false])).symm)
                  · -- 87 not
                    have c20 := bI_1 c20
                    refine lv_iconst (v := 1) hx hb dX8_fits_90 (by decide) ?_
                    refine lv_goto (tgt := 95) hx hb dX8_fits_91 (by decide) ?_
                    exact ro_zret (v := 1) hx hb hr hH hlocks dX8_fits_95 (Or.inr rfl) ((bI_t (by rw [fitP_def]; simp only [undP_def, eq_false c1, eq_false c2, eq_true c3, eq_true c9, eq_true c15, eq_true c16, eq_false c17, eq_false c18, eq_true c20, not_true, not_false_iff, not_true_eq_false, not_false_eq_true, true_or, or_true, false_or, or_false, or_self, and_self, true_and, and_true, false_and, and_false, if_true, if_false])).symm)
          · -- 48 not
            refine lv_iload_n hx hb dX8_fits_51 rfl (lv_at hl 1 rfl) ?_
            refine lv_iload_n hx hb dX8_fits_52 rfl (lv_at hl 3 rfl) ?_
            refine ro_Si (D := D) (G := G) (As := [.int x1, .int x2]) (rest := []) ⟨hx, hb, hml, hown, hts⟩ (m_widens l D G _ x1 x2) gS_X8_X8_widens hdS_X8_widens ⟨Nat.le_of_ble_eq_true rfl, Nat.le_of_ble_eq_true rfl⟩ hK rfl hl.1 rfl (Nat.le_of_ble_eq_true rfl) dX8_fits_53 ⟨Nat.le_of_ble_eq_true rfl, Nat.le_of_ble_eq_true rfl⟩ (fun r21 e_r21 => ?_)
            subst e_r21
            exact ro_zret (v := bI (wdP x1 x2)) hx hb hr hH hlocks dX8_fits_56 bI_b (bI_c (by rw [fitP_def]; simp only [eq_false c1, eq_false c2, eq_true c3, eq_true c9, eq_false c15, not_true, not_false_iff, not_true_eq_false, not_false_eq_true, true_or, or_true, false_or, or_false, or_self, and_self, true_and, and_true, false_and, and_false, if_true, if_false]))
    · -- 16 not
      refine lv_iload hx hb dX8_fits_19 (lv_at hl 4 rfl) ?_
      refine lv_if_gt (tgt := 30) hx hb dX8_fits_21 (by decide) (fun c22 => ?_) (fun c22 => ?_)
      · -- 21 taken
        refine lv_iconst (v := 1) hx hb dX8_fits_30 (by decide) ?_
        refine lv_goto (tgt := 35) hx hb dX8_fits_31 (by decide) ?_
        exact ro_zret (v := 1) hx hb hr hH hlocks dX8_fits_35 (Or.inr rfl) ((bI_t (by rw [fitP_def]; simp only [undP_def, eq_false c1, eq_true c2, eq_true c22, not_true, not_false_iff, not_true_eq_false, not_false_eq_true, true_or, or_true, false_or, or_false, or_self, and_self, true_and, and_true, false_and, and_false, if_true, if_false])).symm)
      · -- 21 not
        refine lv_iload_n hx hb dX8_fits_24 rfl (lv_at hl 3 rfl) ?_
        refine lv_bipush (v := 9) hx hb dX8_fits_25 (by decide) ?_
        refine lv_icmp_le (tgt := 34) hx hb dX8_fits_27 (by decide) (fun c23 => ?_) (fun c23 => ?_)
        · -- 27 taken
          refine lv_iconst (v := 0) hx hb dX8_fits_34 (by decide) ?_
          exact ro_zret (v := 0) hx hb hr hH hlocks dX8_fits_35 (Or.inl rfl) ((bI_f (by rw [fitP_def]; simp only [undP_def, eq_false c1, eq_true c2, eq_false c22, eq_true c23, not_true, not_false_iff, not_true_eq_false, not_false_eq_true, true_or, or_true, false_or, or_false, or_self, and_self, true_and, and_true, false_and, and_false, if_true, if_false])).symm)
        · -- 27 not
          have c23_k := (hk2 c23).2
          refine lv_iconst (v := 1) hx hb dX8_fits_30 (by decide) ?_
          refine lv_goto (tgt := 35) hx hb dX8_fits_31 (by decide) ?_
          exact ro_zret (v := 1) hx hb hr hH hlocks dX8_fits_35 (Or.inr rfl) ((bI_t (by rw [fitP_def]; simp only [undP_def, eq_false c1, eq_true c2, eq_false c22, eq_false c23, not_true, not_false_iff, not_true_eq_false, not_false_eq_true, true_or, or_true, false_or, or_false, or_self, and_self, true_and, and_true, false_and, and_false, if_true, if_false])).symm)
  · -- 2 not
    refine lv_iload_n hx hb dX8_fits_5 rfl (lv_at hl 2 rfl) ?_
    refine lv_iload hx hb dX8_fits_6 (lv_at hl 4 rfl) ?_
    refine lv_icmp_ne (tgt := 13) hx hb dX8_fits_8 (by decide) (fun c24 => ?_) (fun c24 => ?_)
    · -- 8 taken
      refine lv_iload_n hx hb dX8_fits_13 rfl (lv_at hl 1 rfl) ?_
      refine lv_bipush (v := 9) hx hb dX8_fits_14 (by decide) ?_
      refine lv_icmp_ne (tgt := 36) hx hb dX8_fits_16 (by decide) (fun c25 => ?_) (fun c25 => ?_)
      · -- 16 taken
        refine lv_iload_n hx hb dX8_fits_36 rfl (lv_at hl 2 rfl) ?_
        refine lv_if_ne (tgt := 57) hx hb dX8_fits_37 (by decide) (fun c26 => ?_) (fun c26 => ?_)
        · -- 37 taken
          refine lv_iload_n hx hb dX8_fits_57 rfl (lv_at hl 2 rfl) ?_
          refine lv_iload hx hb dX8_fits_58 (lv_at hl 4 rfl) ?_
          refine lv_icmp_ne (tgt := 94) hx hb dX8_fits_60 (by decide) (fun hh => ?_) (fun hh => absurd hh c24)
          refine lv_iconst (v := 0) hx hb dX8_fits_94 (by decide) ?_
          exact ro_zret (v := 0) hx hb hr hH hlocks dX8_fits_95 (Or.inl rfl) ((bI_f (by rw [fitP_def]; simp only [undP_def, eq_true c1, eq_false c24, eq_false c25, eq_false c26, not_true, not_false_iff, not_true_eq_false, not_false_eq_true, true_or, or_true, false_or, or_false, or_self, and_self, true_and, and_true, false_and, and_false, if_true, if_false])).symm)
        · -- 37 not
          refine lv_iload hx hb dX8_fits_40 (lv_at hl 4 rfl) ?_
          refine lv_if_ne (tgt := 57) hx hb dX8_fits_42 (by decide) (fun c28 => ?_) (fun c28 => ?_)
          · -- 42 taken
            refine lv_iload_n hx hb dX8_fits_57 rfl (lv_at hl 2 rfl) ?_
            refine lv_iload hx hb dX8_fits_58 (lv_at hl 4 rfl) ?_
            refine lv_icmp_ne (tgt := 94) hx hb dX8_fits_60 (by decide) (fun hh => ?_) (fun hh => absurd hh c24)
            refine lv_iconst (v := 0) hx hb dX8_fits_94 (by decide) ?_
            exact ro_zret (v := 0) hx hb hr hH hlocks dX8_fits_95 (Or.inl rfl) ((bI_f (by rw [fitP_def]; simp only [undP_def, eq_true c1, eq_false c24, eq_false c25, eq_true c26, eq_false c28, not_true, not_false_iff, not_true_eq_false, not_false_eq_true, true_or, or_true, false_or, or_false, or_self, and_self, true_and, and_true, false_and, and_false, if_true, if_false])).symm)
          · -- 42 not
            refine lv_iload_n hx hb dX8_fits_45 rfl (lv_at hl 1 rfl) ?_
            refine lv_bipush (v := 9) hx hb dX8_fits_46 (by decide) ?_
            refine lv_icmp_ge (tgt := 57) hx hb dX8_fits_48 (by decide) (fun c30 => ?_) (fun c30 => ?_)
            · -- 48 taken
              refine lv_iload_n hx hb dX8_fits_57 rfl (lv_at hl 2 rfl) ?_
              refine lv_iload hx hb dX8_fits_58 (lv_at hl 4 rfl) ?_
              refine lv_icmp_ne (tgt := 94) hx hb dX8_fits_60 (by decide) (fun hh => ?_) (fun hh => absurd hh c24)
              refine lv_iconst (v := 0) hx hb dX8_fits_94 (by decide) ?_
              exact ro_zret (v := 0) hx hb hr hH hlocks dX8_fits_95 (Or.inl rfl) ((bI_f (by rw [fitP_def]; simp only [undP_def, eq_true c1, eq_false c24, eq_false c25, eq_true c26, eq_true c28, eq_true c30, not_true, not_false_iff, not_true_eq_false, not_false_eq_true, true_or, or_true, false_or, or_false, or_self, and_self, true_and, and_true, false_and, and_false, if_true, if_false])).symm)
            · -- 48 not
              refine lv_iload_n hx hb dX8_fits_51 rfl (lv_at hl 1 rfl) ?_
              refine lv_iload_n hx hb dX8_fits_52 rfl (lv_at hl 3 rfl) ?_
              refine ro_Si (D := D) (G := G) (As := [.int x1, .int x2]) (rest := []) ⟨hx, hb, hml, hown, hts⟩ (m_widens l D G _ x1 x2) gS_X8_X8_widens hdS_X8_widens ⟨Nat.le_of_ble_eq_true rfl, Nat.le_of_ble_eq_true rfl⟩ hK rfl hl.1 rfl (Nat.le_of_ble_eq_true rfl) dX8_fits_53 ⟨Nat.le_of_ble_eq_true rfl, Nat.le_of_ble_eq_true rfl⟩ (fun r32 e_r32 => ?_)
              subst e_r32
              exact ro_zret (v := bI (wdP x1 x2)) hx hb hr hH hlocks dX8_fits_56 bI_b (bI_c (by rw [fitP_def]; simp only [eq_true c1, eq_false c24, eq_false c25, eq_true c26, eq_true c28, eq_false c30, not_true, not_false_iff, not_true_eq_false, not_false_eq_true, true_or, or_true, false_or, or_false, or_self, and_self, true_and, and_true, false_and, and_false, if_true, if_false]))
      · -- 16 not
        refine lv_iload hx hb dX8_fits_19 (lv_at hl 4 rfl) ?_
        refine lv_if_gt (tgt := 30) hx hb dX8_fits_21 (by decide) (fun c33 => ?_) (fun c33 => ?_)
        · -- 21 taken
          refine lv_iconst (v := 1) hx hb dX8_fits_30 (by decide) ?_
          refine lv_goto (tgt := 35) hx hb dX8_fits_31 (by decide) ?_
          exact ro_zret (v := 1) hx hb hr hH hlocks dX8_fits_35 (Or.inr rfl) ((bI_t (by rw [fitP_def]; simp only [undP_def, eq_true c1, eq_false c24, eq_true c25, eq_true c33, not_true, not_false_iff, not_true_eq_false, not_false_eq_true, true_or, or_true, false_or, or_false, or_self, and_self, true_and, and_true, false_and, and_false, if_true, if_false])).symm)
        · -- 21 not
          refine lv_iload_n hx hb dX8_fits_24 rfl (lv_at hl 3 rfl) ?_
          refine lv_bipush (v := 9) hx hb dX8_fits_25 (by decide) ?_
          refine lv_icmp_le (tgt := 34) hx hb dX8_fits_27 (by decide) (fun c34 => ?_) (fun c34 => ?_)
          · -- 27 taken
            refine lv_iconst (v := 0) hx hb dX8_fits_34 (by decide) ?_
            exact ro_zret (v := 0) hx hb hr hH hlocks dX8_fits_35 (Or.inl rfl) ((bI_f (by rw [fitP_def]; simp only [undP_def, eq_true c1, eq_false c24, eq_true c25, eq_false c33, eq_true c34, not_true, not_false_iff, not_true_eq_false, not_false_eq_true, true_or, or_true, false_or, or_false, or_self, and_self, true_and, and_true, false_and, and_false, if_true, if_false])).symm)
          · -- 27 not
            have c34_k := (hk2 c34).2
            refine lv_iconst (v := 1) hx hb dX8_fits_30 (by decide) ?_
            refine lv_goto (tgt := 35) hx hb dX8_fits_31 (by decide) ?_
            exact ro_zret (v := 1) hx hb hr hH hlocks dX8_fits_35 (Or.inr rfl) ((bI_t (by rw [fitP_def]; simp only [undP_def, eq_true c1, eq_false c24, eq_true c25, eq_false c33, eq_false c34, not_true, not_false_iff, not_true_eq_false, not_false_eq_true, true_or, or_true, false_or, or_false, or_self, and_self, true_and, and_true, false_and, and_false, if_true, if_false])).symm)
    · -- 8 not
      refine lv_iconst (v := 1) hx hb dX8_fits_11 (by decide) ?_
      exact ro_zret (v := 1) hx hb hr hH hlocks dX8_fits_12 (Or.inr rfl) ((bI_t (by rw [fitP_def]; simp only [undP_def, eq_true c1, eq_true c24, not_true, not_false_iff, not_true_eq_false, not_false_eq_true, true_or, or_true, false_or, or_false, or_self, and_self, true_and, and_true, false_and, and_false, if_true, if_false])).symm)
