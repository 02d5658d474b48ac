/-- a face is put behind the others -/
theorem okFa_put {σ : MS} {j f : Nat} (h : okFa σ j) (hf : f < 12) (h3 : ¬ (σ 5 j).toNatClampNeg = 3) {i : Nat} (hi : okFa σ i) : okC (upd (σ 5) j (nI ((σ 5 j).toNatClampNeg + 1)) i) ∧ ∀ k, k < (upd (σ 5) j (nI ((σ 5 j).toNatClampNeg + 1)) i).toNatClampNeg → okT (upd (σ 4) (3 * j + (σ 5 j).toNatClampNeg) (nI f) (3 * i + k)) := by
  obtain ⟨⟨h1, h2⟩, h4⟩ := h
  obtain ⟨⟨g1, g2⟩, g4⟩ := hi
  by_cases e : i = j
  · subst e
    rw [pk_us]
    have hc : (nI ((σ 5 i).toNatClampNeg + 1)).toNatClampNeg = (σ 5 i).toNatClampNeg + 1 := nI_clamp (by omega)
    refine ⟨⟨by rw [hc], by rw [hc]; omega⟩, fun k hk => ?_⟩
    rw [hc] at hk
    by_cases e2 : k = (σ 5 i).toNatClampNeg
    · rw [e2, pk_us]; exact okT_n rfl hf
    · rw [pk_un (by omega)]; exact h4 k (by omega)
  · rw [pk_un e]
    refine ⟨⟨g1, g2⟩, fun k hk => ?_⟩
    rw [pk_un (by omega)]
    exact g4 k hk

theorem dX8_face_0 : decode cX8_face 0 = .ok (.aload_n 0, 1) := by decide +kernel
theorem dX8_face_1 : decode cX8_face 1 = .ok (.iconst 0, 1) := by decide +kernel
theorem dX8_face_2 : decode cX8_face 2 = .ok (.putfield 90, 3) := by decide +kernel
theorem dX8_face_5 : decode cX8_face 5 = .ok (.aload_n 0, 1) := by decide +kernel
theorem dX8_face_6 : decode cX8_face 6 = .ok (.iload_n 1, 1) := by decide +kernel
theorem dX8_face_7 : decode cX8_face 7 = .ok (.invokevirtual 104, 3) := by decide +kernel
theorem dX8_face_10 : decode cX8_face 10 = .ok (.ifCond .eq 19, 3) := by decide +kernel
theorem dX8_face_29 : decode cX8_face 29 = .ok (.bipush (-11), 2) := by decide +kernel
theorem dX8_face_31 : decode cX8_face 31 = .ok (.ireturn, 1) := by decide +kernel
theorem dX8_face_13 : decode cX8_face 13 = .ok (.aload_n 0, 1) := by decide +kernel
theorem dX8_face_14 : decode cX8_face 14 = .ok (.iload_n 2, 1) := by decide +kernel
theorem dX8_face_15 : decode cX8_face 15 = .ok (.invokevirtual 104, 3) := by decide +kernel
theorem dX8_face_18 : decode cX8_face 18 = .ok (.ifCond .eq 11, 3) := by decide +kernel
theorem dX8_face_21 : decode cX8_face 21 = .ok (.aload_n 0, 1) := by decide +kernel
theorem dX8_face_22 : decode cX8_face 22 = .ok (.iload_n 2, 1) := by decide +kernel
theorem dX8_face_23 : decode cX8_face 23 = .ok (.invokevirtual 116, 3) := by decide +kernel
theorem dX8_face_26 : decode cX8_face 26 = .ok (.ifCond .ne 6, 3) := by decide +kernel
theorem dX8_face_32 : decode cX8_face 32 = .ok (.iload_n 2, 1) := by decide +kernel
theorem dX8_face_33 : decode cX8_face 33 = .ok (.iload_n 1, 1) := by decide +kernel
theorem dX8_face_34 : decode cX8_face 34 = .ok (.if_icmp .lt 6, 3) := by decide +kernel
theorem dX8_face_40 : decode cX8_face 40 = .ok (.iconst 0, 1) := by decide +kernel
theorem dX8_face_41 : decode cX8_face 41 = .ok (.istore_n 3, 1) := by decide +kernel
theorem dX8_face_42 : decode cX8_face 42 = .ok (.iload_n 3, 1) := by decide +kernel
theorem dX8_face_43 : decode cX8_face 43 = .ok (.aload_n 0, 1) := by decide +kernel
theorem dX8_face_44 : decode cX8_face 44 = .ok (.getfield 19, 3) := by decide +kernel
theorem dX8_face_47 : decode cX8_face 47 = .ok (.iload_n 1, 1) := by decide +kernel
theorem dX8_face_48 : decode cX8_face 48 = .ok (.iaload, 1) := by decide +kernel
theorem dX8_face_49 : decode cX8_face 49 = .ok (.if_icmp .ge 26, 3) := by decide +kernel
theorem dX8_face_75 : decode cX8_face 75 = .ok (.aload_n 0, 1) := by decide +kernel
theorem dX8_face_76 : decode cX8_face 76 = .ok (.getfield 119, 3) := by decide +kernel
theorem dX8_face_79 : decode cX8_face 79 = .ok (.ifCond .gt 10, 3) := by decide +kernel
theorem dX8_face_89 : decode cX8_face 89 = .ok (.bipush (-14), 2) := by decide +kernel
theorem dX8_face_91 : decode cX8_face 91 = .ok (.ireturn, 1) := by decide +kernel
theorem dX8_face_82 : decode cX8_face 82 = .ok (.aload_n 0, 1) := by decide +kernel
theorem dX8_face_83 : decode cX8_face 83 = .ok (.getfield 122, 3) := by decide +kernel
theorem dX8_face_86 : decode cX8_face 86 = .ok (.ifCond .eq 6, 3) := by decide +kernel
theorem dX8_face_92 : decode cX8_face 92 = .ok (.aload_n 0, 1) := by decide +kernel
theorem dX8_face_93 : decode cX8_face 93 = .ok (.getfield 19, 3) := by decide +kernel
theorem dX8_face_96 : decode cX8_face 96 = .ok (.iload_n 1, 1) := by decide +kernel
theorem dX8_face_97 : decode cX8_face 97 = .ok (.iaload, 1) := by decide +kernel
theorem dX8_face_98 : decode cX8_face 98 = .ok (.iconst 3, 1) := by decide +kernel
theorem dX8_face_99 : decode cX8_face 99 = .ok (.if_icmp .ne 6, 3) := by decide +kernel
theorem dX8_face_105 : decode cX8_face 105 = .ok (.aload_n 0, 1) := by decide +kernel
theorem dX8_face_106 : decode cX8_face 106 = .ok (.getfield 16, 3) := by decide +kernel
theorem dX8_face_109 : decode cX8_face 109 = .ok (.iconst 3, 1) := by decide +kernel
theorem dX8_face_110 : decode cX8_face 110 = .ok (.iload_n 1, 1) := by decide +kernel
theorem dX8_face_111 : decode cX8_face 111 = .ok (.imul, 1) := by decide +kernel
theorem dX8_face_112 : decode cX8_face 112 = .ok (.aload_n 0, 1) := by decide +kernel
theorem dX8_face_113 : decode cX8_face 113 = .ok (.getfield 19, 3) := by decide +kernel
theorem dX8_face_116 : decode cX8_face 116 = .ok (.iload_n 1, 1) := by decide +kernel
theorem dX8_face_117 : decode cX8_face 117 = .ok (.iaload, 1) := by decide +kernel
theorem dX8_face_118 : decode cX8_face 118 = .ok (.iadd, 1) := by decide +kernel
theorem dX8_face_119 : decode cX8_face 119 = .ok (.iload_n 2, 1) := by decide +kernel
theorem dX8_face_120 : decode cX8_face 120 = .ok (.iastore, 1) := by decide +kernel
theorem dX8_face_121 : decode cX8_face 121 = .ok (.aload_n 0, 1) := by decide +kernel
theorem dX8_face_122 : decode cX8_face 122 = .ok (.getfield 19, 3) := by decide +kernel
theorem dX8_face_125 : decode cX8_face 125 = .ok (.iload_n 1, 1) := by decide +kernel
theorem dX8_face_126 : decode cX8_face 126 = .ok (.dup2, 1) := by decide +kernel
theorem dX8_face_127 : decode cX8_face 127 = .ok (.iaload, 1) := by decide +kernel
theorem dX8_face_128 : decode cX8_face 128 = .ok (.iconst 1, 1) := by decide +kernel
theorem dX8_face_129 : decode cX8_face 129 = .ok (.iadd, 1) := by decide +kernel
theorem dX8_face_130 : decode cX8_face 130 = .ok (.iastore, 1) := by decide +kernel
theorem dX8_face_131 : decode cX8_face 131 = .ok (.iload_n 1, 1) := by decide +kernel
theorem dX8_face_132 : decode cX8_face 132 = .ok (.istore_n 3, 1) := by decide +kernel
theorem dX8_face_133 : decode cX8_face 133 = .ok (.iload_n 3, 1) := by decide +kernel
theorem dX8_face_134 : decode cX8_face 134 = .ok (.aload_n 0, 1) := by decide +kernel
theorem dX8_face_135 : decode cX8_face 135 = .ok (.getfield 94, 3) := by decide +kernel
theorem dX8_face_138 : decode cX8_face 138 = .ok (.if_icmp .ge 14, 3) := by decide +kernel
theorem dX8_face_152 : decode cX8_face 152 = .ok (.aload_n 0, 1) := by decide +kernel
theorem dX8_face_153 : decode cX8_face 153 = .ok (.getfield 19, 3) := by decide +kernel
theorem dX8_face_156 : decode cX8_face 156 = .ok (.iload_n 1, 1) := by decide +kernel
theorem dX8_face_157 : decode cX8_face 157 = .ok (.iaload, 1) := by decide +kernel
theorem dX8_face_158 : decode cX8_face 158 = .ok (.ireturn, 1) := by decide +kernel
theorem dX8_face_141 : decode cX8_face 141 = .ok (.aload_n 0, 1) := by decide +kernel
theorem dX8_face_142 : decode cX8_face 142 = .ok (.iload_n 3, 1) := by decide +kernel
theorem dX8_face_143 : decode cX8_face 143 = .ok (.invokevirtual 108, 3) := by decide +kernel
theorem dX8_face_146 : decode cX8_face 146 = .ok (.iinc 3 1, 3) := by decide +kernel
theorem dX8_face_149 : decode cX8_face 149 = .ok (.goto (-16), 3) := by decide +kernel
theorem dX8_face_102 : decode cX8_face 102 = .ok (.bipush (-15), 2) := by decide +kernel
theorem dX8_face_104 : decode cX8_face 104 = .ok (.ireturn, 1) := by decide +kernel
theorem dX8_face_52 : decode cX8_face 52 = .ok (.aload_n 0, 1) := by decide +kernel
theorem dX8_face_53 : decode cX8_face 53 = .ok (.getfield 16, 3) := by decide +kernel
theorem dX8_face_56 : decode cX8_face 56 = .ok (.iconst 3, 1) := by decide +kernel
theorem dX8_face_57 : decode cX8_face 57 = .ok (.iload_n 1, 1) := by decide +kernel
theorem dX8_face_58 : decode cX8_face 58 = .ok (.imul, 1) := by decide +kernel
theorem dX8_face_59 : decode cX8_face 59 = .ok (.iload_n 3, 1) := by decide +kernel
theorem dX8_face_60 : decode cX8_face 60 = .ok (.iadd, 1) := by decide +kernel
theorem dX8_face_61 : decode cX8_face 61 = .ok (.iaload, 1) := by decide +kernel
theorem dX8_face_62 : decode cX8_face 62 = .ok (.iload_n 2, 1) := by decide +kernel
theorem dX8_face_63 : decode cX8_face 63 = .ok (.if_icmp .ne 6, 3) := by decide +kernel
theorem dX8_face_69 : decode cX8_face 69 = .ok (.iinc 3 1, 3) := by decide +kernel
theorem dX8_face_72 : decode cX8_face 72 = .ok (.goto (-30), 3) := by decide +kernel
theorem dX8_face_66 : decode cX8_face 66 = .ok (.bipush (-14), 2) := by decide +kernel
theorem dX8_face_68 : decode cX8_face 68 = .ok (.ireturn, 1) := by decide +kernel
theorem dX8_face_37 : decode cX8_face 37 = .ok (.bipush (-13), 2) := by decide +kernel
theorem dX8_face_39 : decode cX8_face 39 = .ok (.ireturn, 1) := by decide +kernel
theorem dX8_argument_0 : decode cX8_argument 0 = .ok (.aload_n 0, 1) := by decide +kernel
theorem dX8_argument_1 : decode cX8_argument 1 = .ok (.iconst 0, 1) := by decide +kernel
theorem dX8_argument_2 : decode cX8_argument 2 = .ok (.putfield 90, 3) := by decide +kernel
theorem dX8_argument_5 : decode cX8_argument 5 = .ok (.aload_n 0, 1) := by decide +kernel
theorem dX8_argument_6 : decode cX8_argument 6 = .ok (.iload_n 1, 1) := by decide +kernel
theorem dX8_argument_7 : decode cX8_argument 7 = .ok (.invokevirtual 130, 3) := by decide +kernel
theorem dX8_argument_10 : decode cX8_argument 10 = .ok (.ifCond .eq 6, 3) := by decide +kernel
theorem dX8_argument_16 : decode cX8_argument 16 = .ok (.iload_n 1, 1) := by decide +kernel
theorem dX8_argument_17 : decode cX8_argument 17 = .ok (.iconst 1, 1) := by decide +kernel
theorem dX8_argument_18 : decode cX8_argument 18 = .ok (.if_icmp .lt 22, 3) := by decide +kernel
theorem dX8_argument_40 : decode cX8_argument 40 = .ok (.bipush (-13), 2) := by decide +kernel
theorem dX8_argument_42 : decode cX8_argument 42 = .ok (.ireturn, 1) := by decide +kernel
theorem dX8_argument_21 : decode cX8_argument 21 = .ok (.iload_n 2, 1) := by decide +kernel
theorem dX8_argument_22 : decode cX8_argument 22 = .ok (.iconst 0, 1) := by decide +kernel
theorem dX8_argument_23 : decode cX8_argument 23 = .ok (.iconst 3, 1) := by decide +kernel
theorem dX8_argument_24 : decode cX8_argument 24 = .ok (.invokestatic 97, 3) := by decide +kernel
theorem dX8_argument_27 : decode cX8_argument 27 = .ok (.ifCond .eq 13, 3) := by decide +kernel
theorem dX8_argument_30 : decode cX8_argument 30 = .ok (.iload_n 1, 1) := by decide +kernel
theorem dX8_argument_31 : decode cX8_argument 31 = .ok (.bipush 9, 2) := by decide +kernel
theorem dX8_argument_33 : decode cX8_argument 33 = .ok (.if_icmp .ne 10, 3) := by decide +kernel
theorem dX8_argument_43 : decode cX8_argument 43 = .ok (.aload_n 0, 1) := by decide +kernel
theorem dX8_argument_44 : decode cX8_argument 44 = .ok (.getfield 196, 3) := by decide +kernel
theorem dX8_argument_47 : decode cX8_argument 47 = .ok (.iconst 5, 1) := by decide +kernel
theorem dX8_argument_48 : decode cX8_argument 48 = .ok (.if_icmp .ne 6, 3) := by decide +kernel
theorem dX8_argument_54 : decode cX8_argument 54 = .ok (.aload_n 0, 1) := by decide +kernel
theorem dX8_argument_55 : decode cX8_argument 55 = .ok (.getfield 66, 3) := by decide +kernel
theorem dX8_argument_58 : decode cX8_argument 58 = .ok (.aload_n 0, 1) := by decide +kernel
theorem dX8_argument_59 : decode cX8_argument 59 = .ok (.getfield 196, 3) := by decide +kernel
theorem dX8_argument_62 : decode cX8_argument 62 = .ok (.iload_n 1, 1) := by decide +kernel
theorem dX8_argument_63 : decode cX8_argument 63 = .ok (.iastore, 1) := by decide +kernel
theorem dX8_argument_64 : decode cX8_argument 64 = .ok (.aload_n 0, 1) := by decide +kernel
theorem dX8_argument_65 : decode cX8_argument 65 = .ok (.getfield 69, 3) := by decide +kernel
theorem dX8_argument_68 : decode cX8_argument 68 = .ok (.aload_n 0, 1) := by decide +kernel
theorem dX8_argument_69 : decode cX8_argument 69 = .ok (.getfield 196, 3) := by decide +kernel
theorem dX8_argument_72 : decode cX8_argument 72 = .ok (.iload_n 2, 1) := by decide +kernel
theorem dX8_argument_73 : decode cX8_argument 73 = .ok (.iastore, 1) := by decide +kernel
theorem dX8_argument_74 : decode cX8_argument 74 = .ok (.aload_n 0, 1) := by decide +kernel
theorem dX8_argument_75 : decode cX8_argument 75 = .ok (.dup, 1) := by decide +kernel
theorem dX8_argument_76 : decode cX8_argument 76 = .ok (.getfield 196, 3) := by decide +kernel
theorem dX8_argument_79 : decode cX8_argument 79 = .ok (.iconst 1, 1) := by decide +kernel
theorem dX8_argument_80 : decode cX8_argument 80 = .ok (.iadd, 1) := by decide +kernel
theorem dX8_argument_81 : decode cX8_argument 81 = .ok (.putfield 196, 3) := by decide +kernel
theorem dX8_argument_84 : decode cX8_argument 84 = .ok (.aload_n 0, 1) := by decide +kernel
theorem dX8_argument_85 : decode cX8_argument 85 = .ok (.getfield 196, 3) := by decide +kernel
theorem dX8_argument_88 : decode cX8_argument 88 = .ok (.ireturn, 1) := by decide +kernel
theorem dX8_argument_51 : decode cX8_argument 51 = .ok (.bipush (-15), 2) := by decide +kernel
theorem dX8_argument_53 : decode cX8_argument 53 = .ok (.ireturn, 1) := by decide +kernel
theorem dX8_argument_36 : decode cX8_argument 36 = .ok (.iload_n 2, 1) := by decide +kernel
theorem dX8_argument_37 : decode cX8_argument 37 = .ok (.ifCond .le 6, 3) := by decide +kernel
theorem dX8_argument_13 : decode cX8_argument 13 = .ok (.bipush (-11), 2) := by decide +kernel
theorem dX8_argument_15 : decode cX8_argument 15 = .ok (.ireturn, 1) := by decide +kernel
theorem dX8_parameter_0 : decode cX8_parameter 0 = .ok (.aload_n 0, 1) := by decide +kernel
theorem dX8_parameter_1 : decode cX8_parameter 1 = .ok (.iconst 0, 1) := by decide +kernel
theorem dX8_parameter_2 : decode cX8_parameter 2 = .ok (.putfield 90, 3) := by decide +kernel
theorem dX8_parameter_5 : decode cX8_parameter 5 = .ok (.aload_n 0, 1) := by decide +kernel
theorem dX8_parameter_6 : decode cX8_parameter 6 = .ok (.getfield 122, 3) := by decide +kernel
theorem dX8_parameter_9 : decode cX8_parameter 9 = .ok (.ifCond .ne 6, 3) := by decide +kernel
theorem dX8_parameter_15 : decode cX8_parameter 15 = .ok (.aload_n 0, 1) := by decide +kernel
theorem dX8_parameter_16 : decode cX8_parameter 16 = .ok (.iload_n 1, 1) := by decide +kernel
theorem dX8_parameter_17 : decode cX8_parameter 17 = .ok (.invokevirtual 130, 3) := by decide +kernel
theorem dX8_parameter_20 : decode cX8_parameter 20 = .ok (.ifCond .eq 6, 3) := by decide +kernel
theorem dX8_parameter_26 : decode cX8_parameter 26 = .ok (.iload_n 1, 1) := by decide +kernel
theorem dX8_parameter_27 : decode cX8_parameter 27 = .ok (.ifCond .lt 26, 3) := by decide +kernel
theorem dX8_parameter_53 : decode cX8_parameter 53 = .ok (.bipush (-13), 2) := by decide +kernel
theorem dX8_parameter_55 : decode cX8_parameter 55 = .ok (.ireturn, 1) := by decide +kernel
theorem dX8_parameter_30 : decode cX8_parameter 30 = .ok (.iload_n 1, 1) := by decide +kernel
theorem dX8_parameter_31 : decode cX8_parameter 31 = .ok (.bipush 9, 2) := by decide +kernel
theorem dX8_parameter_33 : decode cX8_parameter 33 = .ok (.if_icmp .eq 20, 3) := by decide +kernel
theorem dX8_parameter_36 : decode cX8_parameter 36 = .ok (.iload_n 2, 1) := by decide +kernel
theorem dX8_parameter_37 : decode cX8_parameter 37 = .ok (.iconst 0, 1) := by decide +kernel
theorem dX8_parameter_38 : decode cX8_parameter 38 = .ok (.iconst 3, 1) := by decide +kernel
theorem dX8_parameter_39 : decode cX8_parameter 39 = .ok (.invokestatic 97, 3) := by decide +kernel
theorem dX8_parameter_42 : decode cX8_parameter 42 = .ok (.ifCond .eq 11, 3) := by decide +kernel
theorem dX8_parameter_45 : decode cX8_parameter 45 = .ok (.iload_n 1, 1) := by decide +kernel
theorem dX8_parameter_46 : decode cX8_parameter 46 = .ok (.ifCond .ne 10, 3) := by decide +kernel
theorem dX8_parameter_56 : decode cX8_parameter 56 = .ok (.aload_n 0, 1) := by decide +kernel
theorem dX8_parameter_57 : decode cX8_parameter 57 = .ok (.getfield 57, 3) := by decide +kernel
theorem dX8_parameter_60 : decode cX8_parameter 60 = .ok (.aload_n 0, 1) := by decide +kernel
theorem dX8_parameter_61 : decode cX8_parameter 61 = .ok (.getfield 119, 3) := by decide +kernel
theorem dX8_parameter_64 : decode cX8_parameter 64 = .ok (.iaload, 1) := by decide +kernel
theorem dX8_parameter_65 : decode cX8_parameter 65 = .ok (.iconst 5, 1) := by decide +kernel
theorem dX8_parameter_66 : decode cX8_parameter 66 = .ok (.if_icmp .ne 6, 3) := by decide +kernel
theorem dX8_parameter_72 : decode cX8_parameter 72 = .ok (.iload_n 1, 1) := by decide +kernel
theorem dX8_parameter_73 : decode cX8_parameter 73 = .ok (.ifCond .ne 10, 3) := by decide +kernel
theorem dX8_parameter_83 : decode cX8_parameter 83 = .ok (.aload_n 0, 1) := by decide +kernel
theorem dX8_parameter_84 : decode cX8_parameter 84 = .ok (.getfield 54, 3) := by decide +kernel
theorem dX8_parameter_87 : decode cX8_parameter 87 = .ok (.aload_n 0, 1) := by decide +kernel
theorem dX8_parameter_88 : decode cX8_parameter 88 = .ok (.getfield 119, 3) := by decide +kernel
theorem dX8_parameter_91 : decode cX8_parameter 91 = .ok (.baload, 1) := by decide +kernel
theorem dX8_parameter_92 : decode cX8_parameter 92 = .ok (.ifCond .eq 10, 3) := by decide +kernel
theorem dX8_parameter_102 : decode cX8_parameter 102 = .ok (.iload_n 3, 1) := by decide +kernel
theorem dX8_parameter_103 : decode cX8_parameter 103 = .ok (.ifCond .eq 14, 3) := by decide +kernel
theorem dX8_parameter_117 : decode cX8_parameter 117 = .ok (.iconst 5, 1) := by decide +kernel
theorem dX8_parameter_118 : decode cX8_parameter 118 = .ok (.aload_n 0, 1) := by decide +kernel
theorem dX8_parameter_119 : decode cX8_parameter 119 = .ok (.getfield 119, 3) := by decide +kernel
theorem dX8_parameter_122 : decode cX8_parameter 122 = .ok (.imul, 1) := by decide +kernel
theorem dX8_parameter_123 : decode cX8_parameter 123 = .ok (.aload_n 0, 1) := by decide +kernel
theorem dX8_parameter_124 : decode cX8_parameter 124 = .ok (.getfield 57, 3) := by decide +kernel
theorem dX8_parameter_127 : decode cX8_parameter 127 = .ok (.aload_n 0, 1) := by decide +kernel
theorem dX8_parameter_128 : decode cX8_parameter 128 = .ok (.getfield 119, 3) := by decide +kernel
theorem dX8_parameter_131 : decode cX8_parameter 131 = .ok (.iaload, 1) := by decide +kernel
theorem dX8_parameter_132 : decode cX8_parameter 132 = .ok (.iadd, 1) := by decide +kernel
theorem dX8_parameter_133 : decode cX8_parameter 133 = .ok (.istore 4, 2) := by decide +kernel
theorem dX8_parameter_135 : decode cX8_parameter 135 = .ok (.aload_n 0, 1) := by decide +kernel
theorem dX8_parameter_136 : decode cX8_parameter 136 = .ok (.getfield 60, 3) := by decide +kernel
theorem dX8_parameter_139 : decode cX8_parameter 139 = .ok (.iload 4, 2) := by decide +kernel
theorem dX8_parameter_141 : decode cX8_parameter 141 = .ok (.iload_n 1, 1) := by decide +kernel
theorem dX8_parameter_142 : decode cX8_parameter 142 = .ok (.iastore, 1) := by decide +kernel
theorem dX8_parameter_143 : decode cX8_parameter 143 = .ok (.aload_n 0, 1) := by decide +kernel
theorem dX8_parameter_144 : decode cX8_parameter 144 = .ok (.getfield 63, 3) := by decide +kernel
theorem dX8_parameter_147 : decode cX8_parameter 147 = .ok (.iload 4, 2) := by decide +kernel
theorem dX8_parameter_149 : decode cX8_parameter 149 = .ok (.iload_n 2, 1) := by decide +kernel
theorem dX8_parameter_150 : decode cX8_parameter 150 = .ok (.iastore, 1) := by decide +kernel
theorem dX8_parameter_151 : decode cX8_parameter 151 = .ok (.aload_n 0, 1) := by decide +kernel
theorem dX8_parameter_152 : decode cX8_parameter 152 = .ok (.getfield 54, 3) := by decide +kernel
theorem dX8_parameter_155 : decode cX8_parameter 155 = .ok (.aload_n 0, 1) := by decide +kernel
theorem dX8_parameter_156 : decode cX8_parameter 156 = .ok (.getfield 119, 3) := by decide +kernel
theorem dX8_parameter_159 : decode cX8_parameter 159 = .ok (.iload_n 3, 1) := by decide +kernel
theorem dX8_parameter_160 : decode cX8_parameter 160 = .ok (.bastore, 1) := by decide +kernel
theorem dX8_parameter_161 : decode cX8_parameter 161 = .ok (.aload_n 0, 1) := by decide +kernel
theorem dX8_parameter_162 : decode cX8_parameter 162 = .ok (.getfield 57, 3) := by decide +kernel
theorem dX8_parameter_165 : decode cX8_parameter 165 = .ok (.aload_n 0, 1) := by decide +kernel
theorem dX8_parameter_166 : decode cX8_parameter 166 = .ok (.getfield 119, 3) := by decide +kernel
theorem dX8_parameter_169 : decode cX8_parameter 169 = .ok (.dup2, 1) := by decide +kernel
theorem dX8_parameter_170 : decode cX8_parameter 170 = .ok (.iaload, 1) := by decide +kernel
theorem dX8_parameter_171 : decode cX8_parameter 171 = .ok (.iconst 1, 1) := by decide +kernel
theorem dX8_parameter_172 : decode cX8_parameter 172 = .ok (.iadd, 1) := by decide +kernel
theorem dX8_parameter_173 : decode cX8_parameter 173 = .ok (.iastore, 1) := by decide +kernel
theorem dX8_parameter_174 : decode cX8_parameter 174 = .ok (.aload_n 0, 1) := by decide +kernel
theorem dX8_parameter_175 : decode cX8_parameter 175 = .ok (.getfield 57, 3) := by decide +kernel
theorem dX8_parameter_178 : decode cX8_parameter 178 = .ok (.aload_n 0, 1) := by decide +kernel
theorem dX8_parameter_179 : decode cX8_parameter 179 = .ok (.getfield 119, 3) := by decide +kernel
theorem dX8_parameter_182 : decode cX8_parameter 182 = .ok (.iaload, 1) := by decide +kernel
theorem dX8_parameter_183 : decode cX8_parameter 183 = .ok (.ireturn, 1) := by decide +kernel
theorem dX8_parameter_106 : decode cX8_parameter 106 = .ok (.iload_n 2, 1) := by decide +kernel
theorem dX8_parameter_107 : decode cX8_parameter 107 = .ok (.ifCond .ne 10, 3) := by decide +kernel
theorem dX8_parameter_110 : decode cX8_parameter 110 = .ok (.aload_n 0, 1) := by decide +kernel
theorem dX8_parameter_111 : decode cX8_parameter 111 = .ok (.bipush 20, 2) := by decide +kernel
theorem dX8_parameter_113 : decode cX8_parameter 113 = .ok (.invokevirtual 141, 3) := by decide +kernel
theorem dX8_parameter_116 : decode cX8_parameter 116 = .ok (.ireturn, 1) := by decide +kernel
theorem dX8_parameter_95 : decode cX8_parameter 95 = .ok (.aload_n 0, 1) := by decide +kernel
theorem dX8_parameter_96 : decode cX8_parameter 96 = .ok (.bipush 19, 2) := by decide +kernel
theorem dX8_parameter_98 : decode cX8_parameter 98 = .ok (.invokevirtual 141, 3) := by decide +kernel
theorem dX8_parameter_101 : decode cX8_parameter 101 = .ok (.ireturn, 1) := by decide +kernel
theorem dX8_parameter_69 : decode cX8_parameter 69 = .ok (.bipush (-15), 2) := by decide +kernel
theorem dX8_parameter_71 : decode cX8_parameter 71 = .ok (.ireturn, 1) := by decide +kernel
theorem dX8_parameter_49 : decode cX8_parameter 49 = .ok (.iload_n 2, 1) := by decide +kernel
theorem dX8_parameter_50 : decode cX8_parameter 50 = .ok (.ifCond .le 6, 3) := by decide +kernel
theorem dX8_parameter_76 : decode cX8_parameter 76 = .ok (.aload_n 0, 1) := by decide +kernel
theorem dX8_parameter_77 : decode cX8_parameter 77 = .ok (.bipush 18, 2) := by decide +kernel
theorem dX8_parameter_79 : decode cX8_parameter 79 = .ok (.invokevirtual 141, 3) := by decide +kernel
theorem dX8_parameter_82 : decode cX8_parameter 82 = .ok (.ireturn, 1) := by decide +kernel
theorem dX8_parameter_23 : decode cX8_parameter 23 = .ok (.bipush (-11), 2) := by decide +kernel
theorem dX8_parameter_25 : decode cX8_parameter 25 = .ok (.ireturn, 1) := by decide +kernel
theorem dX8_parameter_12 : decode cX8_parameter 12 = .ok (.bipush (-14), 2) := by decide +kernel
theorem dX8_parameter_14 : decode cX8_parameter 14 = .ok (.ireturn, 1) := by decide +kernel
theorem dX8_parameterOf_0 : decode cX8_parameterOf 0 = .ok (.aload_n 0, 1) := by decide +kernel
theorem dX8_parameterOf_1 : decode cX8_parameterOf 1 = .ok (.aload_n 0, 1) := by decide +kernel
theorem dX8_parameterOf_2 : decode cX8_parameterOf 2 = .ok (.iload_n 1, 1) := by decide +kernel
theorem dX8_parameterOf_3 : decode cX8_parameterOf 3 = .ok (.invokevirtual 156, 3) := by decide +kernel
theorem dX8_parameterOf_6 : decode cX8_parameterOf 6 = .ok (.ifCond .ne 7, 3) := by decide +kernel
theorem dX8_parameterOf_13 : decode cX8_parameterOf 13 = .ok (.aload_n 0, 1) := by decide +kernel
theorem dX8_parameterOf_14 : decode cX8_parameterOf 14 = .ok (.getfield 26, 3) := by decide +kernel
theorem dX8_parameterOf_17 : decode cX8_parameterOf 17 = .ok (.iload_n 1, 1) := by decide +kernel
theorem dX8_parameterOf_18 : decode cX8_parameterOf 18 = .ok (.baload, 1) := by decide +kernel
theorem dX8_parameterOf_19 : decode cX8_parameterOf 19 = .ok (.ifCond .ne 7, 3) := by decide +kernel
theorem dX8_parameterOf_26 : decode cX8_parameterOf 26 = .ok (.iload_n 2, 1) := by decide +kernel
theorem dX8_parameterOf_27 : decode cX8_parameterOf 27 = .ok (.iconst 0, 1) := by decide +kernel
theorem dX8_parameterOf_28 : decode cX8_parameterOf 28 = .ok (.aload_n 0, 1) := by decide +kernel
theorem dX8_parameterOf_29 : decode cX8_parameterOf 29 = .ok (.getfield 57, 3) := by decide +kernel
theorem dX8_parameterOf_32 : decode cX8_parameterOf 32 = .ok (.iload_n 1, 1) := by decide +kernel
theorem dX8_parameterOf_33 : decode cX8_parameterOf 33 = .ok (.iaload, 1) := by decide +kernel
theorem dX8_parameterOf_34 : decode cX8_parameterOf 34 = .ok (.iconst 1, 1) := by decide +kernel
theorem dX8_parameterOf_35 : decode cX8_parameterOf 35 = .ok (.isub, 1) := by decide +kernel
theorem dX8_parameterOf_36 : decode cX8_parameterOf 36 = .ok (.invokestatic 97, 3) := by decide +kernel
theorem dX8_parameterOf_39 : decode cX8_parameterOf 39 = .ok (.ifCond .ne 7, 3) := by decide +kernel
theorem dX8_parameterOf_46 : decode cX8_parameterOf 46 = .ok (.iconst 0, 1) := by decide +kernel
theorem dX8_parameterOf_47 : decode cX8_parameterOf 47 = .ok (.putfield 90, 3) := by decide +kernel
theorem dX8_parameterOf_50 : decode cX8_parameterOf 50 = .ok (.aload_n 0, 1) := by decide +kernel
theorem dX8_parameterOf_51 : decode cX8_parameterOf 51 = .ok (.getfield 90, 3) := by decide +kernel
theorem dX8_parameterOf_54 : decode cX8_parameterOf 54 = .ok (.ifCond .le 7, 3) := by decide +kernel
theorem dX8_parameterOf_61 : decode cX8_parameterOf 61 = .ok (.iload_n 3, 1) := by decide +kernel
theorem dX8_parameterOf_62 : decode cX8_parameterOf 62 = .ok (.ifCond .eq 16, 3) := by decide +kernel
theorem dX8_parameterOf_78 : decode cX8_parameterOf 78 = .ok (.aload_n 0, 1) := by decide +kernel
theorem dX8_parameterOf_79 : decode cX8_parameterOf 79 = .ok (.getfield 60, 3) := by decide +kernel
theorem dX8_parameterOf_82 : decode cX8_parameterOf 82 = .ok (.iconst 5, 1) := by decide +kernel
theorem dX8_parameterOf_83 : decode cX8_parameterOf 83 = .ok (.iload_n 1, 1) := by decide +kernel
theorem dX8_parameterOf_84 : decode cX8_parameterOf 84 = .ok (.imul, 1) := by decide +kernel
theorem dX8_parameterOf_85 : decode cX8_parameterOf 85 = .ok (.iload_n 2, 1) := by decide +kernel
theorem dX8_parameterOf_86 : decode cX8_parameterOf 86 = .ok (.iadd, 1) := by decide +kernel
theorem dX8_parameterOf_87 : decode cX8_parameterOf 87 = .ok (.iaload, 1) := by decide +kernel
theorem dX8_parameterOf_88 : decode cX8_parameterOf 88 = .ok (.ireturn, 1) := by decide +kernel
theorem dX8_parameterOf_65 : decode cX8_parameterOf 65 = .ok (.aload_n 0, 1) := by decide +kernel
theorem dX8_parameterOf_66 : decode cX8_parameterOf 66 = .ok (.getfield 63, 3) := by decide +kernel
theorem dX8_parameterOf_69 : decode cX8_parameterOf 69 = .ok (.iconst 5, 1) := by decide +kernel
theorem dX8_parameterOf_70 : decode cX8_parameterOf 70 = .ok (.iload_n 1, 1) := by decide +kernel
theorem dX8_parameterOf_71 : decode cX8_parameterOf 71 = .ok (.imul, 1) := by decide +kernel
theorem dX8_parameterOf_72 : decode cX8_parameterOf 72 = .ok (.iload_n 2, 1) := by decide +kernel
theorem dX8_parameterOf_73 : decode cX8_parameterOf 73 = .ok (.iadd, 1) := by decide +kernel
theorem dX8_parameterOf_74 : decode cX8_parameterOf 74 = .ok (.iaload, 1) := by decide +kernel
theorem dX8_parameterOf_75 : decode cX8_parameterOf 75 = .ok (.goto 13, 3) := by decide +kernel
theorem dX8_parameterOf_42 : decode cX8_parameterOf 42 = .ok (.iconst 2, 1) := by decide +kernel
theorem dX8_parameterOf_43 : decode cX8_parameterOf 43 = .ok (.goto 4, 3) := by decide +kernel
theorem dX8_parameterOf_57 : decode cX8_parameterOf 57 = .ok (.iconst 0, 1) := by decide +kernel
theorem dX8_parameterOf_58 : decode cX8_parameterOf 58 = .ok (.goto 30, 3) := by decide +kernel
theorem dX8_parameterOf_22 : decode cX8_parameterOf 22 = .ok (.iconst 1, 1) := by decide +kernel
theorem dX8_parameterOf_23 : decode cX8_parameterOf 23 = .ok (.goto 24, 3) := by decide +kernel
theorem dX8_parameterOf_9 : decode cX8_parameterOf 9 = .ok (.iconst 2, 1) := by decide +kernel
theorem dX8_parameterOf_10 : decode cX8_parameterOf 10 = .ok (.goto 37, 3) := by decide +kernel
theorem dX8_lacks_0 : decode cX8_lacks 0 = .ok (.aload_n 0, 1) := by decide +kernel
theorem dX8_lacks_1 : decode cX8_lacks 1 = .ok (.iconst 0, 1) := by decide +kernel
theorem dX8_lacks_2 : decode cX8_lacks 2 = .ok (.putfield 90, 3) := by decide +kernel
theorem dX8_lacks_5 : decode cX8_lacks 5 = .ok (.aload_n 0, 1) := by decide +kernel
theorem dX8_lacks_6 : decode cX8_lacks 6 = .ok (.iload_n 1, 1) := by decide +kernel
theorem dX8_lacks_7 : decode cX8_lacks 7 = .ok (.invokevirtual 104, 3) := by decide +kernel
theorem dX8_lacks_10 : decode cX8_lacks 10 = .ok (.ifCond .ne 6, 3) := by decide +kernel
theorem dX8_lacks_16 : decode cX8_lacks 16 = .ok (.iload_n 2, 1) := by decide +kernel
theorem dX8_lacks_17 : decode cX8_lacks 17 = .ok (.istore_n 3, 1) := by decide +kernel
theorem dX8_lacks_18 : decode cX8_lacks 18 = .ok (.iconst 0, 1) := by decide +kernel
theorem dX8_lacks_19 : decode cX8_lacks 19 = .ok (.istore 4, 2) := by decide +kernel
theorem dX8_lacks_21 : decode cX8_lacks 21 = .ok (.iload 4, 2) := by decide +kernel
theorem dX8_lacks_23 : decode cX8_lacks 23 = .ok (.aload_n 0, 1) := by decide +kernel
theorem dX8_lacks_24 : decode cX8_lacks 24 = .ok (.getfield 119, 3) := by decide +kernel
theorem dX8_lacks_27 : decode cX8_lacks 27 = .ok (.if_icmp .ge 52, 3) := by decide +kernel
theorem dX8_lacks_79 : decode cX8_lacks 79 = .ok (.iconst (-1), 1) := by decide +kernel
theorem dX8_lacks_80 : decode cX8_lacks 80 = .ok (.ireturn, 1) := by decide +kernel
theorem dX8_lacks_30 : decode cX8_lacks 30 = .ok (.iload_n 2, 1) := by decide +kernel
theorem dX8_lacks_31 : decode cX8_lacks 31 = .ok (.ifCond .lt 48, 3) := by decide +kernel
theorem dX8_lacks_34 : decode cX8_lacks 34 = .ok (.aload_n 0, 1) := by decide +kernel
theorem dX8_lacks_35 : decode cX8_lacks 35 = .ok (.getfield 7, 3) := by decide +kernel
theorem dX8_lacks_38 : decode cX8_lacks 38 = .ok (.iload_n 1, 1) := by decide +kernel
theorem dX8_lacks_39 : decode cX8_lacks 39 = .ok (.iaload, 1) := by decide +kernel
theorem dX8_lacks_40 : decode cX8_lacks 40 = .ok (.ifCond .eq 13, 3) := by decide +kernel
theorem dX8_lacks_53 : decode cX8_lacks 53 = .ok (.aload_n 0, 1) := by decide +kernel
theorem dX8_lacks_54 : decode cX8_lacks 54 = .ok (.iload_n 1, 1) := by decide +kernel
theorem dX8_lacks_55 : decode cX8_lacks 55 = .ok (.iload 4, 2) := by decide +kernel
theorem q_988 : Cond.methodLink "FieldMemberModel" 233 ⟨"FieldMemberModel", "isLacked", "(II)Z"⟩ ∈ TT := tt_t (i := 988) (by decide +kernel) (by decide +kernel)
theorem q_991 : Cond.code ⟨"FieldMemberModel", "isLacked", "(II)Z"⟩ prog_10_method_50_code 5 (some .boolean) ∈ TT := tt_t (i := 991) (by decide +kernel) (by decide +kernel)
theorem q_990 : Cond.instanceMethod ⟨"FieldMemberModel", "isLacked", "(II)Z"⟩ ∈ TT := tt_t (i := 990) (by decide +kernel) (by decide +kernel)
theorem qs_57 : Cond.selects "FieldMemberModel" ⟨"FieldMemberModel", "isLacked", "(II)Z"⟩ ⟨"FieldMemberModel", "isLacked", "(II)Z"⟩ ∈ TT := tt_s (i := 57) (by decide +kernel) (by decide +kernel)
theorem gV_X8_X8_isLacked : GoodIn TT (wsV RX8 233 RX8 yX8_isLacked (ww yX8_isLacked cX8_isLacked 5 (some .boolean))) := tt_V q_988 q_990 qs_57 q_4 q_991
theorem hdV_X8_isLacked : yX8_isLacked.cls = RX8 ∧ yX8_isLacked.cls ≠ "java/lang/invoke/MethodHandle" ∧ yX8_isLacked.cls ≠ "java/lang/invoke/VarHandle" ∧ (parseMethodDescriptor yX8_isLacked.desc).map (fun d => d.parameters.length) = some 2 := by decide +kernel
theorem dX8_lacks_57 : decode cX8_lacks 57 = .ok (.invokevirtual 233, 3) := by decide +kernel
theorem dX8_lacks_60 : decode cX8_lacks 60 = .ok (.ifCond .eq 13, 3) := by decide +kernel
theorem dX8_lacks_73 : decode cX8_lacks 73 = .ok (.iinc 4 1, 3) := by decide +kernel
theorem dX8_lacks_76 : decode cX8_lacks 76 = .ok (.goto (-55), 3) := by decide +kernel
theorem dX8_lacks_63 : decode cX8_lacks 63 = .ok (.iload_n 3, 1) := by decide +kernel
theorem dX8_lacks_64 : decode cX8_lacks 64 = .ok (.ifCond .ne 6, 3) := by decide +kernel
theorem dX8_lacks_70 : decode cX8_lacks 70 = .ok (.iinc 3 (-1), 3) := by decide +kernel
theorem dX8_lacks_67 : decode cX8_lacks 67 = .ok (.iload 4, 2) := by decide +kernel
theorem dX8_lacks_69 : decode cX8_lacks 69 = .ok (.ireturn, 1) := by decide +kernel
theorem dX8_lacks_43 : decode cX8_lacks 43 = .ok (.aload_n 0, 1) := by decide +kernel
theorem dX8_lacks_44 : decode cX8_lacks 44 = .ok (.getfield 7, 3) := by decide +kernel
theorem dX8_lacks_47 : decode cX8_lacks 47 = .ok (.iload_n 1, 1) := by decide +kernel
theorem dX8_lacks_48 : decode cX8_lacks 48 = .ok (.iaload, 1) := by decide +kernel
theorem dX8_lacks_49 : decode cX8_lacks 49 = .ok (.iconst 2, 1) := by decide +kernel
theorem dX8_lacks_50 : decode cX8_lacks 50 = .ok (.if_icmp .ne 29, 3) := by decide +kernel
theorem dX8_lacks_13 : decode cX8_lacks 13 = .ok (.bipush (-11), 2) := by decide +kernel
theorem dX8_lacks_15 : decode cX8_lacks 15 = .ok (.ireturn, 1) := by decide +kernel
theorem dX8_end_0 : decode cX8_end 0 = .ok (.aload_n 0, 1) := by decide +kernel
theorem dX8_end_1 : decode cX8_end 1 = .ok (.iconst 0, 1) := by decide +kernel
theorem dX8_end_2 : decode cX8_end 2 = .ok (.putfield 90, 3) := by decide +kernel
theorem dX8_end_5 : decode cX8_end 5 = .ok (.aload_n 0, 1) := by decide +kernel
theorem dX8_end_6 : decode cX8_end 6 = .ok (.getfield 122, 3) := by decide +kernel
theorem dX8_end_9 : decode cX8_end 9 = .ok (.ifCond .ne 6, 3) := by decide +kernel
theorem dX8_end_15 : decode cX8_end 15 = .ok (.aload_n 0, 1) := by decide +kernel
theorem dX8_end_16 : decode cX8_end 16 = .ok (.iconst 0, 1) := by decide +kernel
theorem dX8_end_17 : decode cX8_end 17 = .ok (.putfield 122, 3) := by decide +kernel
theorem dX8_end_20 : decode cX8_end 20 = .ok (.aload_n 0, 1) := by decide +kernel
theorem dX8_end_21 : decode cX8_end 21 = .ok (.getfield 119, 3) := by decide +kernel
theorem dX8_end_24 : decode cX8_end 24 = .ok (.istore_n 1, 1) := by decide +kernel
theorem dX8_end_25 : decode cX8_end 25 = .ok (.iconst 0, 1) := by decide +kernel
theorem dX8_end_26 : decode cX8_end 26 = .ok (.istore_n 2, 1) := by decide +kernel
theorem dX8_end_27 : decode cX8_end 27 = .ok (.iload_n 2, 1) := by decide +kernel
theorem dX8_end_28 : decode cX8_end 28 = .ok (.aload_n 0, 1) := by decide +kernel
theorem dX8_end_29 : decode cX8_end 29 = .ok (.getfield 119, 3) := by decide +kernel
theorem dX8_end_32 : decode cX8_end 32 = .ok (.if_icmp .ge 64, 3) := by decide +kernel
theorem dX8_end_96 : decode cX8_end 96 = .ok (.iconst 0, 1) := by decide +kernel
theorem dX8_end_97 : decode cX8_end 97 = .ok (.istore_n 2, 1) := by decide +kernel
theorem dX8_end_98 : decode cX8_end 98 = .ok (.iload_n 2, 1) := by decide +kernel
theorem dX8_end_99 : decode cX8_end 99 = .ok (.aload_n 0, 1) := by decide +kernel
theorem dX8_end_100 : decode cX8_end 100 = .ok (.getfield 119, 3) := by decide +kernel
theorem dX8_end_103 : decode cX8_end 103 = .ok (.if_icmp .ge 39, 3) := by decide +kernel
theorem dX8_end_142 : decode cX8_end 142 = .ok (.aload_n 0, 1) := by decide +kernel
theorem dX8_end_143 : decode cX8_end 143 = .ok (.getfield 75, 3) := by decide +kernel
theorem dX8_end_146 : decode cX8_end 146 = .ok (.iload_n 1, 1) := by decide +kernel
theorem dX8_end_147 : decode cX8_end 147 = .ok (.aload_n 0, 1) := by decide +kernel
theorem dX8_end_148 : decode cX8_end 148 = .ok (.iload_n 1, 1) := by decide +kernel
theorem q_918 : Cond.methodLink "FieldMemberModel" 190 ⟨"FieldMemberModel", "leastMet", "(I)I"⟩ ∈ TT := tt_t (i := 918) (by decide +kernel) (by decide +kernel)
theorem q_921 : Cond.code ⟨"FieldMemberModel", "leastMet", "(I)I"⟩ prog_10_method_33_code 3 (some .int) ∈ TT := tt_t (i := 921) (by decide +kernel) (by decide +kernel)
theorem q_920 : Cond.instanceMethod ⟨"FieldMemberModel", "leastMet", "(I)I"⟩ ∈ TT := tt_t (i := 920) (by decide +kernel) (by decide +kernel)
theorem qs_49 : Cond.selects "FieldMemberModel" ⟨"FieldMemberModel", "leastMet", "(I)I"⟩ ⟨"FieldMemberModel", "leastMet", "(I)I"⟩ ∈ TT := tt_s (i := 49) (by decide +kernel) (by decide +kernel)
theorem gV_X8_X8_leastMet : GoodIn TT (wsV RX8 190 RX8 yX8_leastMet (ww yX8_leastMet cX8_leastMet 3 (some .int))) := tt_V q_918 q_920 qs_49 q_4 q_921
theorem hdV_X8_leastMet : yX8_leastMet.cls = RX8 ∧ yX8_leastMet.cls ≠ "java/lang/invoke/MethodHandle" ∧ yX8_leastMet.cls ≠ "java/lang/invoke/VarHandle" ∧ (parseMethodDescriptor yX8_leastMet.desc).map (fun d => d.parameters.length) = some 1 := by decide +kernel
theorem dX8_end_149 : decode cX8_end 149 = .ok (.invokevirtual 190, 3) := by decide +kernel
theorem dX8_end_152 : decode cX8_end 152 = .ok (.iastore, 1) := by decide +kernel
theorem dX8_end_153 : decode cX8_end 153 = .ok (.aload_n 0, 1) := by decide +kernel
theorem dX8_end_154 : decode cX8_end 154 = .ok (.getfield 26, 3) := by decide +kernel
theorem dX8_end_157 : decode cX8_end 157 = .ok (.iload_n 1, 1) := by decide +kernel
theorem dX8_end_158 : decode cX8_end 158 = .ok (.iconst 1, 1) := by decide +kernel
theorem dX8_end_159 : decode cX8_end 159 = .ok (.bastore, 1) := by decide +kernel
theorem dX8_end_160 : decode cX8_end 160 = .ok (.aload_n 0, 1) := by decide +kernel
theorem dX8_end_161 : decode cX8_end 161 = .ok (.dup, 1) := by decide +kernel
theorem dX8_end_162 : decode cX8_end 162 = .ok (.getfield 119, 3) := by decide +kernel
theorem dX8_end_165 : decode cX8_end 165 = .ok (.iconst 1, 1) := by decide +kernel
theorem dX8_end_166 : decode cX8_end 166 = .ok (.iadd, 1) := by decide +kernel
theorem dX8_end_167 : decode cX8_end 167 = .ok (.putfield 119, 3) := by decide +kernel
theorem dX8_end_170 : decode cX8_end 170 = .ok (.iload_n 1, 1) := by decide +kernel
theorem dX8_end_171 : decode cX8_end 171 = .ok (.ireturn, 1) := by decide +kernel
theorem dX8_end_106 : decode cX8_end 106 = .ok (.aload_n 0, 1) := by decide +kernel
theorem dX8_end_107 : decode cX8_end 107 = .ok (.iload_n 1, 1) := by decide +kernel
theorem dX8_end_108 : decode cX8_end 108 = .ok (.iload_n 2, 1) := by decide +kernel
theorem dX8_end_109 : decode cX8_end 109 = .ok (.invokevirtual 184, 3) := by decide +kernel
theorem dX8_end_112 : decode cX8_end 112 = .ok (.ifCond .eq 12, 3) := by decide +kernel
theorem dX8_end_124 : decode cX8_end 124 = .ok (.iconst 0, 1) := by decide +kernel
theorem dX8_end_125 : decode cX8_end 125 = .ok (.istore_n 3, 1) := by decide +kernel
theorem dX8_end_126 : decode cX8_end 126 = .ok (.iload_n 3, 1) := by decide +kernel
theorem dX8_end_127 : decode cX8_end 127 = .ok (.ifCond .le 9, 3) := by decide +kernel
theorem dX8_end_136 : decode cX8_end 136 = .ok (.iinc 2 1, 3) := by decide +kernel
theorem dX8_end_139 : decode cX8_end 139 = .ok (.goto (-41), 3) := by decide +kernel
theorem dX8_end_115 : decode cX8_end 115 = .ok (.aload_n 0, 1) := by decide +kernel
theorem dX8_end_116 : decode cX8_end 116 = .ok (.iload_n 1, 1) := by decide +kernel
theorem dX8_end_117 : decode cX8_end 117 = .ok (.iload_n 2, 1) := by decide +kernel
theorem q_910 : Cond.methodLink "FieldMemberModel" 187 ⟨"FieldMemberModel", "ruleAgainst", "(II)I"⟩ ∈ TT := tt_t (i := 910) (by decide +kernel) (by decide +kernel)
theorem q_913 : Cond.code ⟨"FieldMemberModel", "ruleAgainst", "(II)I"⟩ prog_10_method_30_code 5 (some .int) ∈ TT := tt_t (i := 913) (by decide +kernel) (by decide +kernel)
theorem q_912 : Cond.instanceMethod ⟨"FieldMemberModel", "ruleAgainst", "(II)I"⟩ ∈ TT := tt_t (i := 912) (by decide +kernel) (by decide +kernel)
theorem qs_47 : Cond.selects "FieldMemberModel" ⟨"FieldMemberModel", "ruleAgainst", "(II)I"⟩ ⟨"FieldMemberModel", "ruleAgainst", "(II)I"⟩ ∈ TT := tt_s (i := 47) (by decide +kernel) (by decide +kernel)
theorem gV_X8_X8_ruleAgainst : GoodIn TT (wsV RX8 187 RX8 yX8_ruleAgainst (ww yX8_ruleAgainst cX8_ruleAgainst 5 (some .int))) := tt_V q_910 q_912 qs_47 q_4 q_913
theorem hdV_X8_ruleAgainst : yX8_ruleAgainst.cls = RX8 ∧ yX8_ruleAgainst.cls ≠ "java/lang/invoke/MethodHandle" ∧ yX8_ruleAgainst.cls ≠ "java/lang/invoke/VarHandle" ∧ (parseMethodDescriptor yX8_ruleAgainst.desc).map (fun d => d.parameters.length) = some 2 := by decide +kernel
theorem dX8_end_118 : decode cX8_end 118 = .ok (.invokevirtual 187, 3) := by decide +kernel
theorem dX8_end_121 : decode cX8_end 121 = .ok (.goto 4, 3) := by decide +kernel
theorem dX8_end_130 : decode cX8_end 130 = .ok (.aload_n 0, 1) := by decide +kernel
theorem dX8_end_131 : decode cX8_end 131 = .ok (.iload_n 3, 1) := by decide +kernel
theorem dX8_end_132 : decode cX8_end 132 = .ok (.invokevirtual 141, 3) := by decide +kernel
theorem dX8_end_135 : decode cX8_end 135 = .ok (.ireturn, 1) := by decide +kernel
theorem dX8_end_35 : decode cX8_end 35 = .ok (.aload_n 0, 1) := by decide +kernel
theorem dX8_end_36 : decode cX8_end 36 = .ok (.getfield 26, 3) := by decide +kernel
theorem dX8_end_39 : decode cX8_end 39 = .ok (.iload_n 2, 1) := by decide +kernel
theorem dX8_end_40 : decode cX8_end 40 = .ok (.baload, 1) := by decide +kernel
theorem dX8_end_41 : decode cX8_end 41 = .ok (.ifCond .eq 49, 3) := by decide +kernel
theorem dX8_end_90 : decode cX8_end 90 = .ok (.iinc 2 1, 3) := by decide +kernel
theorem dX8_end_93 : decode cX8_end 93 = .ok (.goto (-66), 3) := by decide +kernel
theorem dX8_end_44 : decode cX8_end 44 = .ok (.aload_n 0, 1) := by decide +kernel
theorem dX8_end_45 : decode cX8_end 45 = .ok (.getfield 29, 3) := by decide +kernel
theorem dX8_end_48 : decode cX8_end 48 = .ok (.iload_n 2, 1) := by decide +kernel
theorem dX8_end_49 : decode cX8_end 49 = .ok (.iaload, 1) := by decide +kernel
theorem dX8_end_50 : decode cX8_end 50 = .ok (.aload_n 0, 1) := by decide +kernel
theorem dX8_end_51 : decode cX8_end 51 = .ok (.getfield 29, 3) := by decide +kernel
theorem dX8_end_54 : decode cX8_end 54 = .ok (.iload_n 1, 1) := by decide +kernel
theorem dX8_end_55 : decode cX8_end 55 = .ok (.iaload, 1) := by decide +kernel
theorem dX8_end_56 : decode cX8_end 56 = .ok (.if_icmp .ne 34, 3) := by decide +kernel
theorem dX8_end_59 : decode cX8_end 59 = .ok (.aload_n 0, 1) := by decide +kernel
theorem dX8_end_60 : decode cX8_end 60 = .ok (.getfield 32, 3) := by decide +kernel
theorem dX8_end_63 : decode cX8_end 63 = .ok (.iload_n 2, 1) := by decide +kernel
theorem dX8_end_64 : decode cX8_end 64 = .ok (.iaload, 1) := by decide +kernel
theorem dX8_end_65 : decode cX8_end 65 = .ok (.aload_n 0, 1) := by decide +kernel
theorem dX8_end_66 : decode cX8_end 66 = .ok (.getfield 32, 3) := by decide +kernel
theorem dX8_end_69 : decode cX8_end 69 = .ok (.iload_n 1, 1) := by decide +kernel
theorem dX8_end_70 : decode cX8_end 70 = .ok (.iaload, 1) := by decide +kernel
theorem dX8_end_71 : decode cX8_end 71 = .ok (.if_icmp .ne 19, 3) := by decide +kernel
theorem dX8_end_74 : decode cX8_end 74 = .ok (.aload_n 0, 1) := by decide +kernel
theorem dX8_end_75 : decode cX8_end 75 = .ok (.iload_n 2, 1) := by decide +kernel
theorem dX8_end_76 : decode cX8_end 76 = .ok (.iload_n 1, 1) := by decide +kernel
theorem dX8_end_77 : decode cX8_end 77 = .ok (.invokevirtual 178, 3) := by decide +kernel
theorem dX8_end_80 : decode cX8_end 80 = .ok (.ifCond .eq 10, 3) := by decide +kernel
theorem dX8_end_83 : decode cX8_end 83 = .ok (.aload_n 0, 1) := by decide +kernel
theorem dX8_end_84 : decode cX8_end 84 = .ok (.bipush 21, 2) := by decide +kernel
theorem dX8_end_86 : decode cX8_end 86 = .ok (.invokevirtual 141, 3) := by decide +kernel
theorem dX8_end_89 : decode cX8_end 89 = .ok (.ireturn, 1) := by decide +kernel
theorem dX8_end_12 : decode cX8_end 12 = .ok (.bipush (-14), 2) := by decide +kernel
theorem dX8_end_14 : decode cX8_end 14 = .ok (.ireturn, 1) := by decide +kernel
set_option maxHeartbeats 4000000 in
set_option maxRecDepth 100000 in
theorem m_face (l : Launch) (D : va_G) (G : Nat → ClassId) (mo : Nat) (ad : Nat → Nat) (σ : MS) (τ : Nat → Int64) (sz : Nat) (n : Nat) (h1 : σ 1 0 = nI n) (hn : n ≤ 12) (k : Nat) (h7 : σ 7 0 = nI k) (hk60 : k ≤ 60) (hpa : ∀ i, i < n → okPa σ i) (hfc : ∀ i, i < n → okFa σ i) (t : Int32) (f : Int32) (hb6 : ∀ i, σ 6 i = 0 ∨ σ 6 i = 1) : Met l yX8_face (ww yX8_face cX8_face 4 (some .int)) (rmD 2) (muP D G sz mo ad (σ, τ) [.ref mo, .int t, .int f]) (muQi D G mo ad (muA G mo ad (σ, τ) sz) (oFace σ τ n k t f).1 (oFace σ τ n k t f).2) 0 0 (muA G mo ad (σ, τ) sz) := by
  refine Met.ofW (cc := cX8_face) (maxL := 4) (ret := (some .int)) (by decide) rfl ?_
  intro p e s m args below meth c s₁ B hml hv
  obtain ⟨rfl, hsz, hP, hK, hD0⟩ := hv
  have hx := B.exec
  have hb := B.bytes
  have hr := B.returns
  have hts : ∀ w ∈ TT, w.before _ s = true := fun w h => atoms_spec (ws := ww yX8_face cX8_face 4 (some .int)) B.pre w (List.mem_cons_of_mem _ h)
  have hown : s.vm.findClass RX8 = some m.cls := findClass_of_methodNamed B.named
  have hlocks := B.notSynchronized
  subst hsz
  have hD : va_D (muA G mo ad (σ, τ) s.heap.size) (mW G mo ad σ τ) := hD0.self
  generalize hAe : muA G mo ad (σ, τ) s.heap.size = A at hD ⊢
  have hA : ∀ q : Nat, s.heap.size ≤ q → A q := fun q h => by rw [← hAe]; exact Or.inr h
  have hS : va_S A s.heap s.heap [] := va_S.rf
  have hP : va_P D vwCl (mW G mo ad σ τ) s.heap := hP
  have hl := lv_entry ([.ref mo, .int t, .int f]) (n := 4) (Nat.le_of_ble_eq_true rfl)
  rw [lg_entry_eq]
  generalize (lg_sl ([.ref mo, .int t, .int f]) ++ List.replicate (4 - (lg_sl ([.ref mo, .int t, .int f])).length) Slot.unset).toArray = ls at hl ⊢
  have hl : lv_has ls 4 [(0, .ref mo), (1, .int t), (2, .int f)] := hl
  refine lv_aload_n hx hb dX8_face_0 rfl (lv_at hl 0 rfl) ?_
  refine lv_iconst (v := 0) hx hb dX8_face_1 (by decide) ?_
  refine va_put (D := D) (ci := 8) (v := .int 0) (ty := .int) (C := RX8) (T := TX8) (N := 33) hx hb hts iX8 tyX8 tyX8_ok nmX8 hown hK.1 hP hD hS 0 rfl rfl 0 (by decide) (hts _ q_679) (fun _ h9 => h9) rfl (by decide +kernel) rfl rfl (Nat.le_of_ble_eq_true rfl) dX8_face_2 (fun H locs hP hD hS => ?_)
  have hP : va_P D vwCl (mW G mo ad (su σ 0 (0) (0)) (τ)) H := hP
  have hD : va_D A (mW G mo ad (su σ 0 (0) (0)) (τ)) := hD
  refine lv_aload_n hx hb dX8_face_5 rfl (lv_at hl 0 rfl) ?_
  refine lv_iload_n hx hb dX8_face_6 rfl (lv_at hl 1 rfl) ?_
  refine ro_Vi (D := D) (G := G) (As := [.int t]) (rest := []) ⟨hx, hb, hml, hown, hts⟩ (m_isType l D G _ mo ad _ _ hP n h1 hn t) gV_X8_X8_isType hdV_X8_isType ⟨Nat.le_of_ble_eq_true rfl, Nat.le_of_ble_eq_true rfl⟩ hK (va_recv hK.1 hP (ci := 8) (q0 := 0) rfl rfl) rfl hl.1 rfl (Nat.le_of_ble_eq_true rfl) dX8_face_7 ⟨Nat.le_of_ble_eq_true rfl, Nat.le_of_ble_eq_true rfl⟩ (fun r1 e_r1 => ?_)
  subst e_r1
  refine W.eq (g2 := F0 m 10 ls [.int (bI (okN n t))]) rfl ?_
  refine lv_if_eq (tgt := 29) hx hb dX8_face_10 (by decide) (fun c2 => ?_) (fun c2 => ?_)
  · -- 10 taken
    have c2 := bI_0 c2
    refine lv_bipush (v := -11) hx hb dX8_face_29 (by decide) ?_
    have ho : oFace σ τ n k t f = ((-11), su σ 0 (0) (0), τ) := by unfold oFace; simp only [eq_false c2, not_true, not_false_iff, not_true_eq_false, not_false_eq_true, true_or, or_true, false_or, or_false, or_self, and_self, true_and, and_true, false_and, and_false, if_true, if_false]; try rfl
    exact mu_iret (v0 := (-11)) (z := (su σ 0 (0) (0), τ)) hx hb hr hlocks hP hD hS dX8_face_31 (by rw [ho]) (by rw [ho])
  · -- 10 not
    have c2 := bI_1 c2
    obtain ⟨j3, h_j3, rfl⟩ := okN_ex (by omega) c2
    have hfa := hfc j3 h_j3
    refine lv_aload_n hx hb dX8_face_13 rfl (lv_at hl 0 rfl) ?_
    refine lv_iload_n hx hb dX8_face_14 rfl (lv_at hl 2 rfl) ?_
    refine ro_Vi (D := D) (G := G) (As := [.int f]) (rest := []) ⟨hx, hb, hml, hown, hts⟩ (m_isType l D G _ mo ad _ _ hP n h1 hn f) gV_X8_X8_isType hdV_X8_isType ⟨Nat.le_of_ble_eq_true rfl, Nat.le_of_ble_eq_true rfl⟩ hK (va_recv hK.1 hP (ci := 8) (q0 := 0) rfl rfl) rfl hl.1 rfl (Nat.le_of_ble_eq_true rfl) dX8_face_15 ⟨Nat.le_of_ble_eq_true rfl, Nat.le_of_ble_eq_true rfl⟩ (fun r4 e_r4 => ?_)
    subst e_r4
    refine W.eq (g2 := F0 m 18 ls [.int (bI (okN n f))]) rfl ?_
    refine lv_if_eq (tgt := 29) hx hb dX8_face_18 (by decide) (fun c5 => ?_) (fun c5 => ?_)
    · -- 18 taken
      have c5 := bI_0 c5
      refine lv_bipush (v := -11) hx hb dX8_face_29 (by decide) ?_
      have ho : oFace σ τ n k (nI j3) f = ((-11), su σ 0 (0) (0), τ) := by unfold oFace; simp only [eq_true c2, eq_false c5, nI_clamp (show j3 < 2 ^ 31 by omega), not_true, not_false_iff, not_true_eq_false, not_false_eq_true, true_or, or_true, false_or, or_false, or_self, and_self, true_and, and_true, false_and, and_false, if_true, if_false]; try rfl
      exact mu_iret (v0 := (-11)) (z := (su σ 0 (0) (0), τ)) hx hb hr hlocks hP hD hS dX8_face_31 (by rw [ho]) (by rw [ho])
    · -- 18 not
      have c5 := bI_1 c5
      obtain ⟨j6, h_j6, rfl⟩ := okN_ex (by omega) c5
      refine lv_aload_n hx hb dX8_face_21 rfl (lv_at hl 0 rfl) ?_
      refine lv_iload_n hx hb dX8_face_22 rfl (lv_at hl 2 rfl) ?_
      refine ro_Vi (D := D) (G := G) (As := [.int (nI j6)]) (rest := []) ⟨hx, hb, hml, hown, hts⟩ (m_isFace l D G _ mo ad _ _ hP (j6) (by omega)) gV_X8_X8_isFace hdV_X8_isFace ⟨Nat.le_of_ble_eq_true rfl, Nat.le_of_ble_eq_true rfl⟩ hK (va_recv hK.1 hP (ci := 8) (q0 := 0) rfl rfl) rfl hl.1 rfl (Nat.le_of_ble_eq_true rfl) dX8_face_23 ⟨Nat.le_of_ble_eq_true rfl, Nat.le_of_ble_eq_true rfl⟩ (fun r7 e_r7 => ?_)
      subst e_r7
      refine W.eq (g2 := F0 m 26 ls [.int (bI (σ 2 (j6) = 3))]) rfl ?_
      refine lv_if_ne (tgt := 32) hx hb dX8_face_26 (by decide) (fun c8 => ?_) (fun c8 => ?_)
      · -- 26 taken
        have c8 := bI_1 c8
        refine lv_iload_n hx hb dX8_face_32 rfl (lv_at hl 2 rfl) ?_
        refine lv_iload_n hx hb dX8_face_33 rfl (lv_at hl 1 rfl) ?_
        refine lv_icmp_lt (tgt := 40) hx hb dX8_face_34 (by decide) (fun c9 => ?_) (fun c9 => ?_)
        · -- 34 taken
          have c9 : j6 < j3 := (nI_ltI (a := j6) (b := j3) (by omega) (by omega)).mp (by have h8 := c9; exact h8)
          refine lv_iconst (v := 0) hx hb dX8_face_40 (by decide) ?_
          refine lv_istore_n (lv' := [(3, .int 0), (0, .ref mo), (1, .int (nI j3)), (2, .int (nI j6))]) hx hb dX8_face_41 rfl hl (by decide) rfl (fun ls hl => ?_)
          refine w_for (N := (σ 5 j3).toNatClampNeg) 42 (L := fun q9 ls => lv_has ls 4 [(3, .int (nI q9)), (0, .ref mo), (1, .int (nI j3)), (2, .int (nI j6))] ∧ ∀ i, i < q9 → ¬ σ 4 (3 * j3 + i) = nI j6) (fun k9 ls hk hL ih => ?_) 0 ls (Nat.zero_le _) ⟨hl, fun i hi => absurd hi (Nat.not_lt_zero i)⟩
          obtain ⟨hl, hi⟩ := hL
          have hl : lv_has ls 4 [(3, .int (nI k9)), (0, .ref mo), (1, .int (nI j3)), (2, .int (nI j6))] := hl
          refine lv_iload_n hx hb dX8_face_42 rfl (lv_at hl 0 rfl) ?_
          refine lv_aload_n hx hb dX8_face_43 rfl (lv_at hl 1 rfl) ?_
          refine va_get (D := D) (ci := 8) (v := .ref ((ad 5))) (C := RX8) (T := TX8) (N := 33) hx hb hts iX8 hown hK.1 hP 0 rfl rfl 5 (by decide) (hts _ q_684) (fun _ h9 => h9) rfl dX8_face_44 ?_
          refine lv_iload_n hx hb dX8_face_47 rfl (lv_at hl 2 rfl) ?_
          refine iald_n (f := σ 5) hx hb hK.1 hP 4 0 rfl rfl (j3) rfl (by omega) (by decide) dX8_face_48 ?_
          refine lv_icmp_ge (tgt := 75) hx hb dX8_face_49 (by decide) (fun c10 => ?_) (fun c10 => ?_)
          · -- 49 taken
            have c10 : (σ 5 j3).toNatClampNeg ≤ k9 := (nI_leI (a := (σ 5 j3).toNatClampNeg) (b := k9) (by omega) (by omega)).mp (by have h8 := c10; rw [hfa.1.1] at h8; exact h8)
            refine lv_aload_n hx hb dX8_face_75 rfl (lv_at hl 1 rfl) ?_
            refine va_get (D := D) (ci := 8) (v := .int (σ 7 0)) (C := RX8) (T := TX8) (N := 33) hx hb hts iX8 hown hK.1 hP 0 rfl rfl 7 (by decide) (hts _ q_686) (fun _ h9 => h9) rfl dX8_face_76 ?_
            refine lv_if_gt (tgt := 89) hx hb dX8_face_79 (by decide) (fun c11 => ?_) (fun c11 => ?_)
            · -- 79 taken
              have c11 : 0 < k := (nI_ltI (a := 0) (b := k) (by omega) (by omega)).mp (by have h8 := c11; rw [h7] at h8; exact h8)
              refine lv_bipush (v := -14) hx hb dX8_face_89 (by decide) ?_
              have ho : oFace σ τ n k (nI j3) (nI j6) = ((-14), su σ 0 (0) (0), τ) := by unfold oFace; simp only [eq_true c2, eq_true c5, eq_true c8, eq_true c9, eq_false (show ¬ ∃ i, i < (σ 5 j3).toNatClampNeg ∧ σ 4 (3 * j3 + i) = nI j6 from fun ⟨i, h8, h9⟩ => hi i (by omega) h9), eq_true c11, nI_clamp (show j3 < 2 ^ 31 by omega), nI_clamp (show j6 < 2 ^ 31 by omega), not_true, not_false_iff, not_true_eq_false, not_false_eq_true, true_or, or_true, false_or, or_false, or_self, and_self, true_and, and_true, false_and, and_false, if_true, if_false]; try rfl
              exact mu_iret (v0 := (-14)) (z := (su σ 0 (0) (0), τ)) hx hb hr hlocks hP hD hS dX8_face_91 (by rw [ho]) (by rw [ho])
            · -- 79 not
              have c11 : ¬ 0 < k := fun h9 => c11 (by rw [h7]; exact (nI_ltI (a := 0) (b := k) (by omega) (by omega)).mpr h9)
              refine lv_aload_n hx hb dX8_face_82 rfl (lv_at hl 1 rfl) ?_
              refine va_get (D := D) (ci := 8) (v := .int (σ 21 0)) (C := RX8) (T := TX8) (N := 33) hx hb hts iX8 hown hK.1 hP 0 rfl rfl 21 (by decide) (hts _ q_700) (fun _ h9 => h9) rfl dX8_face_83 ?_
              refine lv_if_eq (tgt := 92) hx hb dX8_face_86 (by decide) (fun c12 => ?_) (fun c12 => ?_)
              · -- 86 taken
                refine lv_aload_n hx hb dX8_face_92 rfl (lv_at hl 1 rfl) ?_
                refine va_get (D := D) (ci := 8) (v := .ref ((ad 5))) (C := RX8) (T := TX8) (N := 33) hx hb hts iX8 hown hK.1 hP 0 rfl rfl 5 (by decide) (hts _ q_684) (fun _ h9 => h9) rfl dX8_face_93 ?_
                refine lv_iload_n hx hb dX8_face_96 rfl (lv_at hl 2 rfl) ?_
                refine iald_n (f := σ 5) hx hb hK.1 hP 4 0 rfl rfl (j3) rfl (by omega) (by decide) dX8_face_97 ?_
                refine lv_iconst (v := 3) hx hb dX8_face_98 (by decide) ?_
                refine lv_icmp_ne (tgt := 105) hx hb dX8_face_99 (by decide) (fun c13 => ?_) (fun c13 => ?_)
                · -- 99 taken
                  have c13 : ¬ (σ 5 j3).toNatClampNeg = 3 := fun h9 => c13 (by first | (rw [hfa.1.1, h9]; done) | (rw [hfa.1.1, h9]; rfl))
                  refine lv_aload_n hx hb dX8_face_105 rfl (lv_at hl 1 rfl) ?_
                  refine va_get (D := D) (ci := 8) (v := .ref ((ad 4))) (C := RX8) (T := TX8) (N := 33) hx hb hts iX8 hown hK.1 hP 0 rfl rfl 4 (by decide) (hts _ q_683) (fun _ h9 => h9) rfl dX8_face_106 ?_
                  refine lv_iconst (v := 3) hx hb dX8_face_109 (by decide) ?_
                  refine lv_iload_n hx hb dX8_face_110 rfl (lv_at hl 2 rfl) ?_
                  refine lv_imul hx hb dX8_face_111 ?_
                  refine lv_aload_n hx hb dX8_face_112 rfl (lv_at hl 1 rfl) ?_
                  refine va_get (D := D) (ci := 8) (v := .ref ((ad 5))) (C := RX8) (T := TX8) (N := 33) hx hb hts iX8 hown hK.1 hP 0 rfl rfl 5 (by decide) (hts _ q_684) (fun _ h9 => h9) rfl dX8_face_113 ?_
                  refine lv_iload_n hx hb dX8_face_116 rfl (lv_at hl 2 rfl) ?_
                  refine iald_n (f := σ 5) hx hb hK.1 hP 4 0 rfl rfl (j3) rfl (by omega) (by decide) dX8_face_117 ?_
                  refine lv_iadd hx hb dX8_face_118 ?_
                  refine lv_iload_n hx hb dX8_face_119 rfl (lv_at hl 3 rfl) ?_
                  refine iast_n hx hb hK.1 hP hD hS 3 0 rfl rfl (((3 * j3) + (σ 5 j3).toNatClampNeg)) (n_add (a := (3 * j3)) (b := (σ 5 j3).toNatClampNeg) (n_mul (a := 3) (b := j3) (rfl : (3 : Int32) = nI 3) rfl) hfa.1.1) (by omega) (by decide) dX8_face_120 (fun H locs hP hD hS => ?_)
                  have hP : va_P D vwCl (mW G mo ad (su (su σ 0 (0) (0)) 4 (((3 * j3) + (σ 5 j3).toNatClampNeg)) (nI j6)) (τ)) H := hP
                  have hD : va_D A (mW G mo ad (su (su σ 0 (0) (0)) 4 (((3 * j3) + (σ 5 j3).toNatClampNeg)) (nI j6)) (τ)) := hD
                  refine lv_aload_n hx hb dX8_face_121 rfl (lv_at hl 1 rfl) ?_
                  refine va_get (D := D) (ci := 8) (v := .ref ((ad 5))) (C := RX8) (T := TX8) (N := 33) hx hb hts iX8 hown hK.1 hP 0 rfl rfl 5 (by decide) (hts _ q_684) (fun _ h9 => h9) rfl dX8_face_122 ?_
                  refine lv_iload_n hx hb dX8_face_125 rfl (lv_at hl 2 rfl) ?_
                  refine lv_dup2_11 hx hb dX8_face_126 rfl rfl ?_
                  refine iald_n (f := σ 5) hx hb hK.1 hP 4 0 rfl rfl (j3) rfl (by omega) (by decide) dX8_face_127 ?_
                  refine lv_iconst (v := 1) hx hb dX8_face_128 (by decide) ?_
                  refine lv_iadd hx hb dX8_face_129 ?_
                  refine W.eq (g2 := F0 m 130 ls [.int (nI ((σ 5 j3).toNatClampNeg + 1)), .int (nI j3), .ref ((ad 5))]) (congrArg (fun z9 => F0 m 130 ls [.int z9, .int (nI j3), .ref ((ad 5))]) (n_add (a := (σ 5 j3).toNatClampNeg) (b := 1) hfa.1.1 (rfl : (1 : Int32) = nI 1))) ?_
                  refine iast_n hx hb hK.1 hP hD hS 4 0 rfl rfl (j3) rfl (by omega) (by decide) dX8_face_130 (fun H locs hP hD hS => ?_)
                  have hP : va_P D vwCl (mW G mo ad (su (su (su σ 0 (0) (0)) 4 (((3 * j3) + (σ 5 j3).toNatClampNeg)) (nI j6)) 5 (j3) (nI ((σ 5 j3).toNatClampNeg + 1))) (τ)) H := hP
                  have hD : va_D A (mW G mo ad (su (su (su σ 0 (0) (0)) 4 (((3 * j3) + (σ 5 j3).toNatClampNeg)) (nI j6)) 5 (j3) (nI ((σ 5 j3).toNatClampNeg + 1))) (τ)) := hD
                  refine lv_iload_n hx hb dX8_face_131 rfl (lv_at hl 2 rfl) ?_
                  refine lv_istore_n (lv' := [(3, .int (nI j3)), (0, .ref mo), (1, .int (nI j3)), (2, .int (nI j6))]) hx hb dX8_face_132 rfl hl (by decide) rfl (fun ls hl => ?_)
                  have hi1 := hi
                  refine w_forM (N := n) 133 (L := fun q9 ls H locs => lv_has ls 4 [(3, .int (nI q9)), (0, .ref mo), (1, .int (nI j3)), (2, .int (nI j6))] ∧ va_P D vwCl (mW G mo ad (st (su (su (su σ 0 (0) (0)) 4 (((3 * j3) + (σ 5 j3).toNatClampNeg)) (nI j6)) 5 (j3) (nI ((σ 5 j3).toNatClampNeg + 1))) 6 (reF (σ 6) (σ 3) (upd (σ 5) j3 (nI ((σ 5 j3).toNatClampNeg + 1))) (upd (σ 4) (3 * j3 + (σ 5 j3).toNatClampNeg) (nI j6)) j3 (q9 - j3))) (τ)) H ∧ va_D A (mW G mo ad (st (su (su (su σ 0 (0) (0)) 4 (((3 * j3) + (σ 5 j3).toNatClampNeg)) (nI j6)) 5 (j3) (nI ((σ 5 j3).toNatClampNeg + 1))) 6 (reF (σ 6) (σ 3) (upd (σ 5) j3 (nI ((σ 5 j3).toNatClampNeg + 1))) (upd (σ 4) (3 * j3 + (σ 5 j3).toNatClampNeg) (nI j6)) j3 (q9 - j3))) (τ)) ∧ va_S A s.heap H locs ∧ j3 ≤ q9) (fun k9 ls H locs hk hL ih133 => ?_) j3 ls _ _ (by omega) ⟨hl, (by rw [Nat.sub_self]; exact hP), (by rw [Nat.sub_self]; exact hD), hS, Nat.le_refl _⟩
                  obtain ⟨hl, hP, hD, hS, hi⟩ := hL
                  have hl : lv_has ls 4 [(3, .int (nI k9)), (0, .ref mo), (1, .int (nI j3)), (2, .int (nI j6))] := hl
                  have hb7 := b01_re (pa := σ 3) (fc := (upd (σ 5) j3 (nI ((σ 5 j3).toNatClampNeg + 1)))) (fa := (upd (σ 4) (3 * j3 + (σ 5 j3).toNatClampNeg) (nI j6))) hb6 j3 (k9 - j3)
                  refine lv_iload_n hx hb dX8_face_133 rfl (lv_at hl 0 rfl) ?_
                  refine lv_aload_n hx hb dX8_face_134 rfl (lv_at hl 1 rfl) ?_
                  refine va_get (D := D) (ci := 8) (v := .int (σ 1 0)) (C := RX8) (T := TX8) (N := 33) hx hb hts iX8 hown hK.1 hP 0 rfl rfl 1 (by decide) (hts _ q_680) (fun _ h9 => h9) rfl dX8_face_135 ?_
                  refine lv_icmp_ge (tgt := 152) hx hb dX8_face_138 (by decide) (fun c14 => ?_) (fun c14 => ?_)
                  · -- 138 taken
                    have c14 : n ≤ k9 := (nI_leI (a := n) (b := k9) (by omega) (by omega)).mp (by have h8 := c14; rw [h1] at h8; exact h8)
                    obtain rfl : n = k9 := by omega
                    have hP : va_P D vwCl (mW G mo ad (st (su (su (su σ 0 (0) (0)) 4 (((3 * j3) + (σ 5 j3).toNatClampNeg)) (nI j6)) 5 (j3) (nI ((σ 5 j3).toNatClampNeg + 1))) 6 (reF (σ 6) (σ 3) (upd (σ 5) j3 (nI ((σ 5 j3).toNatClampNeg + 1))) (upd (σ 4) (3 * j3 + (σ 5 j3).toNatClampNeg) (nI j6)) j3 (n - j3))) (τ)) H := hP
                    have hD : va_D A (mW G mo ad (st (su (su (su σ 0 (0) (0)) 4 (((3 * j3) + (σ 5 j3).toNatClampNeg)) (nI j6)) 5 (j3) (nI ((σ 5 j3).toNatClampNeg + 1))) 6 (reF (σ 6) (σ 3) (upd (σ 5) j3 (nI ((σ 5 j3).toNatClampNeg + 1))) (upd (σ 4) (3 * j3 + (σ 5 j3).toNatClampNeg) (nI j6)) j3 (n - j3))) (τ)) := hD
                    refine lv_aload_n hx hb dX8_face_152 rfl (lv_at hl 1 rfl) ?_
                    refine va_get (D := D) (ci := 8) (v := .ref ((ad 5))) (C := RX8) (T := TX8) (N := 33) hx hb hts iX8 hown hK.1 hP 0 rfl rfl 5 (by decide) (hts _ q_684) (fun _ h9 => h9) rfl dX8_face_153 ?_
                    refine lv_iload_n hx hb dX8_face_156 rfl (lv_at hl 2 rfl) ?_
                    refine iald_n (f := upd (σ 5) (j3) (nI ((σ 5 j3).toNatClampNeg + 1))) hx hb hK.1 hP 4 0 rfl rfl (j3) rfl (by omega) (by decide) dX8_face_157 ?_
                    refine W.eq (g2 := F0 m 158 ls [.int (nI ((σ 5 j3).toNatClampNeg + 1))]) (congrArg (fun z9 => F0 m 158 ls [.int z9]) pk_us) ?_
                    have ho : oFace σ τ n k (nI j3) (nI j6) = (nI ((σ 5 j3).toNatClampNeg + 1), st (su (su (su σ 0 (0) (0)) 4 (((3 * j3) + (σ 5 j3).toNatClampNeg)) (nI j6)) 5 (j3) (nI ((σ 5 j3).toNatClampNeg + 1))) 6 (reF (σ 6) (σ 3) (upd (σ 5) j3 (nI ((σ 5 j3).toNatClampNeg + 1))) (upd (σ 4) (3 * j3 + (σ 5 j3).toNatClampNeg) (nI j6)) j3 (n - j3)), τ) := by unfold oFace; simp only [eq_true c2, eq_true c5, eq_true c8, eq_true c9, eq_false (show ¬ ∃ i, i < (σ 5 j3).toNatClampNeg ∧ σ 4 (3 * j3 + i) = nI j6 from fun ⟨i, h8, h9⟩ => hi1 i (by omega) h9), eq_false c11, eq_true c12, eq_false c13, nI_clamp (show j3 < 2 ^ 31 by omega), nI_clamp (show j6 < 2 ^ 31 by omega), not_true, not_false_iff, not_true_eq_false, not_false_eq_true, true_or, or_true, false_or, or_false, or_self, and_self, true_and, and_true, false_and, and_false, if_true, if_false]; try rfl
                    exact mu_iret (v0 := nI ((σ 5 j3).toNatClampNeg + 1)) (z := (st (su (su (su σ 0 (0) (0)) 4 (((3 * j3) + (σ 5 j3).toNatClampNeg)) (nI j6)) 5 (j3) (nI ((σ 5 j3).toNatClampNeg + 1))) 6 (reF (σ 6) (σ 3) (upd (σ 5) j3 (nI ((σ 5 j3).toNatClampNeg + 1))) (upd (σ 4) (3 * j3 + (σ 5 j3).toNatClampNeg) (nI j6)) j3 (n - j3)), τ)) hx hb hr hlocks hP hD hS dX8_face_158 (by rw [ho]) (by rw [ho])
                  · -- 138 not
                    have c14 : ¬ n ≤ k9 := fun h9 => c14 (by rw [h1]; exact (nI_leI (a := n) (b := k9) (by omega) (by omega)).mpr h9)
                    refine lv_aload_n hx hb dX8_face_141 rfl (lv_at hl 1 rfl) ?_
                    refine lv_iload_n hx hb dX8_face_142 rfl (lv_at hl 0 rfl) ?_
                    refine mu_Vv (D := D) (G := G) (mo := mo) (ad := ad) (u := (st (su (su (su σ 0 (0) (0)) 4 (((3 * j3) + (σ 5 j3).toNatClampNeg)) (nI j6)) 5 (j3) (nI ((σ 5 j3).toNatClampNeg + 1))) 6 (reF (σ 6) (σ 3) (upd (σ 5) j3 (nI ((σ 5 j3).toNatClampNeg + 1))) (upd (σ 4) (3 * j3 + (σ 5 j3).toNatClampNeg) (nI j6)) j3 (k9 - j3)), τ)) (As := [.int (nI k9)]) (rest := []) ⟨hx, hb, hml, hown, hts⟩ (m_reckons l D G mo ad (st (su (su (su σ 0 (0) (0)) 4 (((3 * j3) + (σ 5 j3).toNatClampNeg)) (nI j6)) 5 (j3) (nI ((σ 5 j3).toNatClampNeg + 1))) 6 (reF (σ 6) (σ 3) (upd (σ 5) j3 (nI ((σ 5 j3).toNatClampNeg + 1))) (upd (σ 4) (3 * j3 + (σ 5 j3).toNatClampNeg) (nI j6)) j3 (k9 - j3))) (τ) _ (k9) (by omega) (hpa k9 (by omega)) (okFa_put (j := j3) (f := j6) hfa (by omega) (by assumption) (hfc k9 (by omega))) hb7) gV_X8_X8_reckons hdV_X8_reckons ⟨Nat.le_of_ble_eq_true rfl, Nat.le_of_ble_eq_true rfl⟩ hK hP hD hS hA rfl hl.1 rfl (Nat.le_of_ble_eq_true rfl) dX8_face_143 ⟨Nat.le_of_ble_eq_true rfl, Nat.le_of_ble_eq_true rfl⟩ (fun H locs hP hD hS => ?_)
                    have hP : va_P D vwCl (mW G mo ad (st (su (su (su σ 0 (0) (0)) 4 (((3 * j3) + (σ 5 j3).toNatClampNeg)) (nI j6)) 5 (j3) (nI ((σ 5 j3).toNatClampNeg + 1))) 6 (recF (reF (σ 6) (σ 3) (upd (σ 5) j3 (nI ((σ 5 j3).toNatClampNeg + 1))) (upd (σ 4) (3 * j3 + (σ 5 j3).toNatClampNeg) (nI j6)) j3 (k9 - j3)) (σ 3) (upd (σ 5) (j3) (nI ((σ 5 j3).toNatClampNeg + 1))) (upd (σ 4) (((3 * j3) + (σ 5 j3).toNatClampNeg)) (nI j6)) k9)) (τ)) H := hP
                    have hD : va_D A (mW G mo ad (st (su (su (su σ 0 (0) (0)) 4 (((3 * j3) + (σ 5 j3).toNatClampNeg)) (nI j6)) 5 (j3) (nI ((σ 5 j3).toNatClampNeg + 1))) 6 (recF (reF (σ 6) (σ 3) (upd (σ 5) j3 (nI ((σ 5 j3).toNatClampNeg + 1))) (upd (σ 4) (3 * j3 + (σ 5 j3).toNatClampNeg) (nI j6)) j3 (k9 - j3)) (σ 3) (upd (σ 5) (j3) (nI ((σ 5 j3).toNatClampNeg + 1))) (upd (σ 4) (((3 * j3) + (σ 5 j3).toNatClampNeg)) (nI j6)) k9)) (τ)) := hD
                    refine lv_iinc (v := nI (k9 + 1)) (lv' := [(3, .int (nI (k9 + 1))), (0, .ref mo), (1, .int (nI j3)), (2, .int (nI j6))]) hx hb dX8_face_146 hl (k := 0) rfl (nI_1 _) (by decide) rfl (fun ls hl => ?_)
                    refine lv_goto (tgt := 133) hx hb dX8_face_149 (by decide) ?_
                    rw [← reF_s (by omega)] at hP hD
                    exact ih133 _ _ _ (by omega) ⟨lv_sub hl [0, 1, 2, 3] rfl, hP, hD, hS, (by omega)⟩
                · -- 99 not
                  have c13 : (σ 5 j3).toNatClampNeg = 3 := nI_inj (by omega) (by omega) (by have h8 := c13; rw [hfa.1.1] at h8; exact h8)
                  refine lv_bipush (v := -15) hx hb dX8_face_102 (by decide) ?_
                  have ho : oFace σ τ n k (nI j3) (nI j6) = ((-15), su σ 0 (0) (0), τ) := by unfold oFace; simp only [eq_true c2, eq_true c5, eq_true c8, eq_true c9, eq_false (show ¬ ∃ i, i < (σ 5 j3).toNatClampNeg ∧ σ 4 (3 * j3 + i) = nI j6 from fun ⟨i, h8, h9⟩ => hi i (by omega) h9), eq_false c11, eq_true c12, eq_true c13, nI_clamp (show j3 < 2 ^ 31 by omega), nI_clamp (show j6 < 2 ^ 31 by omega), not_true, not_false_iff, not_true_eq_false, not_false_eq_true, true_or, or_true, false_or, or_false, or_self, and_self, true_and, and_true, false_and, and_false, if_true, if_false]; try rfl
                  exact mu_iret (v0 := (-15)) (z := (su σ 0 (0) (0), τ)) hx hb hr hlocks hP hD hS dX8_face_104 (by rw [ho]) (by rw [ho])
              · -- 86 not
                refine lv_bipush (v := -14) hx hb dX8_face_89 (by decide) ?_
                have ho : oFace σ τ n k (nI j3) (nI j6) = ((-14), su σ 0 (0) (0), τ) := by unfold oFace; simp only [eq_true c2, eq_true c5, eq_true c8, eq_true c9, eq_false (show ¬ ∃ i, i < (σ 5 j3).toNatClampNeg ∧ σ 4 (3 * j3 + i) = nI j6 from fun ⟨i, h8, h9⟩ => hi i (by omega) h9), eq_false c11, eq_false c12, nI_clamp (show j3 < 2 ^ 31 by omega), nI_clamp (show j6 < 2 ^ 31 by omega), not_true, not_false_iff, not_true_eq_false, not_false_eq_true, true_or, or_true, false_or, or_false, or_self, and_self, true_and, and_true, false_and, and_false, if_true, if_false]; try rfl
                exact mu_iret (v0 := (-14)) (z := (su σ 0 (0) (0), τ)) hx hb hr hlocks hP hD hS dX8_face_91 (by rw [ho]) (by rw [ho])
          · -- 49 not
            have c10 : ¬ (σ 5 j3).toNatClampNeg ≤ k9 := fun h9 => c10 (by rw [hfa.1.1]; exact (nI_leI (a := (σ 5 j3).toNatClampNeg) (b := k9) (by omega) (by omega)).mpr h9)
            refine lv_aload_n hx hb dX8_face_52 rfl (lv_at hl 1 rfl) ?_
            refine va_get (D := D) (ci := 8) (v := .ref ((ad 4))) (C := RX8) (T := TX8) (N := 33) hx hb hts iX8 hown hK.1 hP 0 rfl rfl 4 (by decide) (hts _ q_683) (fun _ h9 => h9) rfl dX8_face_53 ?_
            refine lv_iconst (v := 3) hx hb dX8_face_56 (by decide) ?_
            refine lv_iload_n hx hb dX8_face_57 rfl (lv_at hl 2 rfl) ?_
            refine lv_imul hx hb dX8_face_58 ?_
            refine lv_iload_n hx hb dX8_face_59 rfl (lv_at hl 0 rfl) ?_
            refine lv_iadd hx hb dX8_face_60 ?_
            refine iald_n (f := σ 4) hx hb hK.1 hP 3 0 rfl rfl (((3 * j3) + k9)) (n_add (a := (3 * j3)) (b := k9) (n_mul (a := 3) (b := j3) (rfl : (3 : Int32) = nI 3) rfl) rfl) (by omega) (by decide) dX8_face_61 ?_
            refine lv_iload_n hx hb dX8_face_62 rfl (lv_at hl 3 rfl) ?_
            refine lv_icmp_ne (tgt := 69) hx hb dX8_face_63 (by decide) (fun c15 => ?_) (fun c15 => ?_)
            · -- 63 taken
              refine lv_iinc (v := nI (k9 + 1)) (lv' := [(3, .int (nI (k9 + 1))), (0, .ref mo), (1, .int (nI j3)), (2, .int (nI j6))]) hx hb dX8_face_69 hl (k := 0) rfl (nI_1 _) (by decide) rfl (fun ls hl => ?_)
              refine lv_goto (tgt := 42) hx hb dX8_face_72 (by decide) ?_
              exact ih _ (by omega) ⟨lv_sub hl [0, 1, 2, 3] rfl, fun i h8 => by rcases Nat.lt_or_ge i k9 with h9 | h9; exact hi i h9; rw [show i = k9 by omega]; exact c15⟩
            · -- 63 not
              refine lv_bipush (v := -14) hx hb dX8_face_66 (by decide) ?_
              have ho : oFace σ τ n k (nI j3) (nI j6) = ((-14), su σ 0 (0) (0), τ) := by unfold oFace; simp only [eq_true c2, eq_true c5, eq_true c8, eq_true c9, eq_true (show ∃ i, i < (σ 5 j3).toNatClampNeg ∧ σ 4 (3 * j3 + i) = nI j6 from ⟨k9, by omega, c15⟩), nI_clamp (show j3 < 2 ^ 31 by omega), nI_clamp (show j6 < 2 ^ 31 by omega), not_true, not_false_iff, not_true_eq_false, not_false_eq_true, true_or, or_true, false_or, or_false, or_self, and_self, true_and, and_true, false_and, and_false, if_true, if_false]; try rfl
              exact mu_iret (v0 := (-14)) (z := (su σ 0 (0) (0), τ)) hx hb hr hlocks hP hD hS dX8_face_68 (by rw [ho]) (by rw [ho])
        · -- 34 not
          have c9 : ¬ j6 < j3 := fun h9 => c9 (by exact (nI_ltI (a := j6) (b := j3) (by omega) (by omega)).mpr h9)
          refine lv_bipush (v := -13) hx hb dX8_face_37 (by decide) ?_
          have ho : oFace σ τ n k (nI j3) (nI j6) = ((-13), su σ 0 (0) (0), τ) := by unfold oFace; simp only [eq_true c2, eq_true c5, eq_true c8, eq_false c9, nI_clamp (show j3 < 2 ^ 31 by omega), nI_clamp (show j6 < 2 ^ 31 by omega), not_true, not_false_iff, not_true_eq_false, not_false_eq_true, true_or, or_true, false_or, or_false, or_self, and_self, true_and, and_true, false_and, and_false, if_true, if_false]; try rfl
          exact mu_iret (v0 := (-13)) (z := (su σ 0 (0) (0), τ)) hx hb hr hlocks hP hD hS dX8_face_39 (by rw [ho]) (by rw [ho])
      · -- 26 not
        have c8 := bI_0 c8
        refine lv_bipush (v := -11) hx hb dX8_face_29 (by decide) ?_
        have ho : oFace σ τ n k (nI j3) (nI j6) = ((-11), su σ 0 (0) (0), τ) := by unfold oFace; simp only [eq_true c2, eq_true c5, eq_false c8, nI_clamp (show j3 < 2 ^ 31 by omega), nI_clamp (show j6 < 2 ^ 31 by omega), not_true, not_false_iff, not_true_eq_false, not_false_eq_true, true_or, or_true, false_or, or_false, or_self, and_self, true_and, and_true, false_and, and_false, if_true, if_false]; try rfl
        exact mu_iret (v0 := (-11)) (z := (su σ 0 (0) (0), τ)) hx hb hr hlocks hP hD hS dX8_face_31 (by rw [ho]) (by rw [ho])
set_option maxHeartbeats 4000000 in
set_option maxRecDepth 100000 in
theorem m_argument (l : Launch) (D : va_G) (G : Nat → ClassId) (mo : Nat) (ad : Nat → Nat) (σ : MS) (τ : Nat → Int64) (sz : Nat) (n : Nat) (h1 : σ 1 0 = nI n) (hn : n ≤ 12) (w0 : Nat) (h22 : σ 22 0 = nI w0) (hw : w0 ≤ 5) (kind : Int32) (dd : Int32) : Met l yX8_argument (ww yX8_argument cX8_argument 3 (some .int)) (rmD 3) (muP D G sz mo ad (σ, τ) [.ref mo, .int kind, .int dd]) (muQi D G mo ad (muA G mo ad (σ, τ) sz) (oArg σ τ n w0 kind dd).1 (oArg σ τ n w0 kind dd).2) 0 0 (muA G mo ad (σ, τ) sz) := by
  refine Met.ofW (cc := cX8_argument) (maxL := 3) (ret := (some .int)) (by decide) rfl ?_
  intro p e s m args below meth c s₁ B hml hv
  obtain ⟨rfl, hsz, hP, hK, hD0⟩ := hv
  have hx := B.exec
  have hb := B.bytes
  have hr := B.returns
  have hts : ∀ w ∈ TT, w.before _ s = true := fun w h => atoms_spec (ws := ww yX8_argument cX8_argument 3 (some .int)) B.pre w (List.mem_cons_of_mem _ h)
  have hown : s.vm.findClass RX8 = some m.cls := findClass_of_methodNamed B.named
  have hlocks := B.notSynchronized
  subst hsz
  have hD : va_D (muA G mo ad (σ, τ) s.heap.size) (mW G mo ad σ τ) := hD0.self
  generalize hAe : muA G mo ad (σ, τ) s.heap.size = A at hD ⊢
  have hA : ∀ q : Nat, s.heap.size ≤ q → A q := fun q h => by rw [← hAe]; exact Or.inr h
  have hS : va_S A s.heap s.heap [] := va_S.rf
  have hP : va_P D vwCl (mW G mo ad σ τ) s.heap := hP
  have hl := lv_entry ([.ref mo, .int kind, .int dd]) (n := 3) (Nat.le_of_ble_eq_true rfl)
  rw [lg_entry_eq]
  generalize (lg_sl ([.ref mo, .int kind, .int dd]) ++ List.replicate (3 - (lg_sl ([.ref mo, .int kind, .int dd])).length) Slot.unset).toArray = ls at hl ⊢
  have hl : lv_has ls 3 [(0, .ref mo), (1, .int kind), (2, .int dd)] := hl
  refine lv_aload_n hx hb dX8_argument_0 rfl (lv_at hl 0 rfl) ?_
  refine lv_iconst (v := 0) hx hb dX8_argument_1 (by decide) ?_
  refine va_put (D := D) (ci := 8) (v := .int 0) (ty := .int) (C := RX8) (T := TX8) (N := 33) hx hb hts iX8 tyX8 tyX8_ok nmX8 hown hK.1 hP hD hS 0 rfl rfl 0 (by decide) (hts _ q_679) (fun _ h9 => h9) rfl (by decide +kernel) rfl rfl (Nat.le_of_ble_eq_true rfl) dX8_argument_2 (fun H locs hP hD hS => ?_)
  have hP : va_P D vwCl (mW G mo ad (su σ 0 (0) (0)) (τ)) H := hP
  have hD : va_D A (mW G mo ad (su σ 0 (0) (0)) (τ)) := hD
  refine lv_aload_n hx hb dX8_argument_5 rfl (lv_at hl 0 rfl) ?_
  refine lv_iload_n hx hb dX8_argument_6 rfl (lv_at hl 1 rfl) ?_
  refine ro_Vi (D := D) (G := G) (As := [.int kind]) (rest := []) ⟨hx, hb, hml, hown, hts⟩ (m_noKind l D G _ mo ad _ _ hP n h1 hn kind) gV_X8_X8_noKind hdV_X8_noKind ⟨Nat.le_of_ble_eq_true rfl, Nat.le_of_ble_eq_true rfl⟩ hK (va_recv hK.1 hP (ci := 8) (q0 := 0) rfl rfl) rfl hl.1 rfl (Nat.le_of_ble_eq_true rfl) dX8_argument_7 ⟨Nat.le_of_ble_eq_true rfl, Nat.le_of_ble_eq_true rfl⟩ (fun r1 e_r1 => ?_)
  subst e_r1
  refine W.eq (g2 := F0 m 10 ls [.int (bI (noK n kind))]) rfl ?_
  refine lv_if_eq (tgt := 16) hx hb dX8_argument_10 (by decide) (fun c2 => ?_) (fun c2 => ?_)
  · -- 10 taken
    have c2 := bI_0 c2
    refine lv_iload_n hx hb dX8_argument_16 rfl (lv_at hl 1 rfl) ?_
    refine lv_iconst (v := 1) hx hb dX8_argument_17 (by decide) ?_
    refine lv_icmp_lt (tgt := 40) hx hb dX8_argument_18 (by decide) (fun c3 => ?_) (fun c3 => ?_)
    · -- 18 taken
      refine lv_bipush (v := -13) hx hb dX8_argument_40 (by decide) ?_
      have ho : oArg σ τ n w0 kind dd = ((-13), su σ 0 (0) (0), τ) := by unfold oArg; simp only [eq_false c2, eq_true c3, not_true, not_false_iff, not_true_eq_false, not_false_eq_true, true_or, or_true, false_or, or_false, or_self, and_self, true_and, and_true, false_and, and_false, if_true, if_false]; try rfl
      exact mu_iret (v0 := (-13)) (z := (su σ 0 (0) (0), τ)) hx hb hr hlocks hP hD hS dX8_argument_42 (by rw [ho]) (by rw [ho])
    · -- 18 not
      refine lv_iload_n hx hb dX8_argument_21 rfl (lv_at hl 2 rfl) ?_
      refine lv_iconst (v := 0) hx hb dX8_argument_22 (by decide) ?_
      refine lv_iconst (v := 3) hx hb dX8_argument_23 (by decide) ?_
      refine ro_Si (D := D) (G := G) (As := [.int dd, .int 0, .int 3]) (rest := []) ⟨hx, hb, hml, hown, hts⟩ (m_in l D G _ dd 0 3) gS_X8_X8_in hdS_X8_in ⟨Nat.le_of_ble_eq_true rfl, Nat.le_of_ble_eq_true rfl⟩ hK rfl hl.1 rfl (Nat.le_of_ble_eq_true rfl) dX8_argument_24 ⟨Nat.le_of_ble_eq_true rfl, Nat.le_of_ble_eq_true rfl⟩ (fun r4 e_r4 => ?_)
      subst e_r4
      refine W.eq (g2 := F0 m 27 ls [.int (bI (0 ≤ dd ∧ dd ≤ 3))]) rfl ?_
      refine lv_if_eq (tgt := 40) hx hb dX8_argument_27 (by decide) (fun c5 => ?_) (fun c5 => ?_)
      · -- 27 taken
        have c5 := bI_0 c5
        refine lv_bipush (v := -13) hx hb dX8_argument_40 (by decide) ?_
        have ho : oArg σ τ n w0 kind dd = ((-13), su σ 0 (0) (0), τ) := by unfold oArg; simp only [eq_false c2, eq_false c3, eq_false c5, not_true, not_false_iff, not_true_eq_false, not_false_eq_true, true_or, or_true, false_or, or_false, or_self, and_self, true_and, and_true, false_and, and_false, if_true, if_false]; try rfl
        exact mu_iret (v0 := (-13)) (z := (su σ 0 (0) (0), τ)) hx hb hr hlocks hP hD hS dX8_argument_42 (by rw [ho]) (by rw [ho])
      · -- 27 not
        have c5 := bI_1 c5
        refine lv_iload_n hx hb dX8_argument_30 rfl (lv_at hl 1 rfl) ?_
        refine lv_bipush (v := 9) hx hb dX8_argument_31 (by decide) ?_
        refine lv_icmp_ne (tgt := 43) hx hb dX8_argument_33 (by decide) (fun c6 => ?_) (fun c6 => ?_)
        · -- 33 taken
          refine lv_aload_n hx hb dX8_argument_43 rfl (lv_at hl 0 rfl) ?_
          refine va_get (D := D) (ci := 8) (v := .int (σ 22 0)) (C := RX8) (T := TX8) (N := 33) hx hb hts iX8 hown hK.1 hP 0 rfl rfl 22 (by decide) (hts _ q_701) (fun _ h9 => h9) rfl dX8_argument_44 ?_
          refine lv_iconst (v := 5) hx hb dX8_argument_47 (by decide) ?_
          refine lv_icmp_ne (tgt := 54) hx hb dX8_argument_48 (by decide) (fun c7 => ?_) (fun c7 => ?_)
          · -- 48 taken
            have c7 : ¬ w0 = 5 := fun h9 => c7 (by first | (rw [h22, h9]; done) | (rw [h22, h9]; rfl))
            refine lv_aload_n hx hb dX8_argument_54 rfl (lv_at hl 0 rfl) ?_
            refine va_get (D := D) (ci := 8) (v := .ref ((ad 23))) (C := RX8) (T := TX8) (N := 33) hx hb hts iX8 hown hK.1 hP 0 rfl rfl 23 (by decide) (hts _ q_702) (fun _ h9 => h9) rfl dX8_argument_55 ?_
            refine lv_aload_n hx hb dX8_argument_58 rfl (lv_at hl 0 rfl) ?_
            refine va_get (D := D) (ci := 8) (v := .int (σ 22 0)) (C := RX8) (T := TX8) (N := 33) hx hb hts iX8 hown hK.1 hP 0 rfl rfl 22 (by decide) (hts _ q_701) (fun _ h9 => h9) rfl dX8_argument_59 ?_
            refine lv_iload_n hx hb dX8_argument_62 rfl (lv_at hl 1 rfl) ?_
            refine iast_n hx hb hK.1 hP hD hS 19 0 rfl rfl (w0) h22 (by omega) (by decide) dX8_argument_63 (fun H locs hP hD hS => ?_)
            have hP : va_P D vwCl (mW G mo ad (su (su σ 0 (0) (0)) 23 (w0) (kind)) (τ)) H := hP
            have hD : va_D A (mW G mo ad (su (su σ 0 (0) (0)) 23 (w0) (kind)) (τ)) := hD
            refine lv_aload_n hx hb dX8_argument_64 rfl (lv_at hl 0 rfl) ?_
            refine va_get (D := D) (ci := 8) (v := .ref ((ad 24))) (C := RX8) (T := TX8) (N := 33) hx hb hts iX8 hown hK.1 hP 0 rfl rfl 24 (by decide) (hts _ q_703) (fun _ h9 => h9) rfl dX8_argument_65 ?_
            refine lv_aload_n hx hb dX8_argument_68 rfl (lv_at hl 0 rfl) ?_
            refine va_get (D := D) (ci := 8) (v := .int (σ 22 0)) (C := RX8) (T := TX8) (N := 33) hx hb hts iX8 hown hK.1 hP 0 rfl rfl 22 (by decide) (hts _ q_701) (fun _ h9 => h9) rfl dX8_argument_69 ?_
            refine lv_iload_n hx hb dX8_argument_72 rfl (lv_at hl 2 rfl) ?_
            refine iast_n hx hb hK.1 hP hD hS 20 0 rfl rfl (w0) h22 (by omega) (by decide) dX8_argument_73 (fun H locs hP hD hS => ?_)
            have hP : va_P D vwCl (mW G mo ad (su (su (su σ 0 (0) (0)) 23 (w0) (kind)) 24 (w0) (dd)) (τ)) H := hP
            have hD : va_D A (mW G mo ad (su (su (su σ 0 (0) (0)) 23 (w0) (kind)) 24 (w0) (dd)) (τ)) := hD
            refine lv_aload_n hx hb dX8_argument_74 rfl (lv_at hl 0 rfl) ?_
            refine lv_dup hx hb dX8_argument_75 rfl ?_
            refine va_get (D := D) (ci := 8) (v := .int (σ 22 0)) (C := RX8) (T := TX8) (N := 33) hx hb hts iX8 hown hK.1 hP 0 rfl rfl 22 (by decide) (hts _ q_701) (fun _ h9 => h9) rfl dX8_argument_76 ?_
            refine lv_iconst (v := 1) hx hb dX8_argument_79 (by decide) ?_
            refine lv_iadd hx hb dX8_argument_80 ?_
            refine W.eq (g2 := F0 m 81 ls [.int (nI (w0 + 1)), .ref mo]) (congrArg (fun z9 => F0 m 81 ls [.int z9, .ref mo]) (n_add (a := w0) (b := 1) h22 (rfl : (1 : Int32) = nI 1))) ?_
            refine va_put (D := D) (ci := 8) (v := .int (nI (w0 + 1))) (ty := .int) (C := RX8) (T := TX8) (N := 33) hx hb hts iX8 tyX8 tyX8_ok nmX8 hown hK.1 hP hD hS 0 rfl rfl 22 (by decide) (hts _ q_701) (fun _ h9 => h9) rfl (by decide +kernel) rfl rfl (Nat.le_of_ble_eq_true rfl) dX8_argument_81 (fun H locs hP hD hS => ?_)
            have hP : va_P D vwCl (mW G mo ad (su (su (su (su σ 0 (0) (0)) 23 (w0) (kind)) 24 (w0) (dd)) 22 (0) (nI (w0 + 1))) (τ)) H := hP
            have hD : va_D A (mW G mo ad (su (su (su (su σ 0 (0) (0)) 23 (w0) (kind)) 24 (w0) (dd)) 22 (0) (nI (w0 + 1))) (τ)) := hD
            refine lv_aload_n hx hb dX8_argument_84 rfl (lv_at hl 0 rfl) ?_
            refine va_get (D := D) (ci := 8) (v := .int (nI (w0 + 1))) (C := RX8) (T := TX8) (N := 33) hx hb hts iX8 hown hK.1 hP 0 rfl rfl 22 (by decide) (hts _ q_701) (fun _ h9 => h9) rfl dX8_argument_85 ?_
            have ho : oArg σ τ n w0 kind dd = (nI (w0 + 1), su (su (su (su σ 0 (0) (0)) 23 (w0) (kind)) 24 (w0) (dd)) 22 (0) (nI (w0 + 1)), τ) := by unfold oArg; simp only [eq_false c2, eq_false c3, eq_true c5, eq_false c6, eq_false c7, not_true, not_false_iff, not_true_eq_false, not_false_eq_true, true_or, or_true, false_or, or_false, or_self, and_self, true_and, and_true, false_and, and_false, if_true, if_false]; try rfl
            exact mu_iret (v0 := nI (w0 + 1)) (z := (su (su (su (su σ 0 (0) (0)) 23 (w0) (kind)) 24 (w0) (dd)) 22 (0) (nI (w0 + 1)), τ)) hx hb hr hlocks hP hD hS dX8_argument_88 (by rw [ho]) (by rw [ho])
          · -- 48 not
            have c7 : w0 = 5 := nI_inj (by omega) (by omega) (by have h8 := c7; rw [h22] at h8; exact h8)
            refine lv_bipush (v := -15) hx hb dX8_argument_51 (by decide) ?_
            have ho : oArg σ τ n w0 kind dd = ((-15), su σ 0 (0) (0), τ) := by unfold oArg; simp only [eq_false c2, eq_false c3, eq_true c5, eq_false c6, eq_true c7, not_true, not_false_iff, not_true_eq_false, not_false_eq_true, true_or, or_true, false_or, or_false, or_self, and_self, true_and, and_true, false_and, and_false, if_true, if_false]; try rfl
            exact mu_iret (v0 := (-15)) (z := (su σ 0 (0) (0), τ)) hx hb hr hlocks hP hD hS dX8_argument_53 (by rw [ho]) (by rw [ho])
        · -- 33 not
          refine lv_iload_n hx hb dX8_argument_36 rfl (lv_at hl 2 rfl) ?_
          refine lv_if_le (tgt := 43) hx hb dX8_argument_37 (by decide) (fun c8 => ?_) (fun c8 => ?_)
          · -- 37 taken
            refine lv_aload_n hx hb dX8_argument_43 rfl (lv_at hl 0 rfl) ?_
            refine va_get (D := D) (ci := 8) (v := .int (σ 22 0)) (C := RX8) (T := TX8) (N := 33) hx hb hts iX8 hown hK.1 hP 0 rfl rfl 22 (by decide) (hts _ q_701) (fun _ h9 => h9) rfl dX8_argument_44 ?_
            refine lv_iconst (v := 5) hx hb dX8_argument_47 (by decide) ?_
            refine lv_icmp_ne (tgt := 54) hx hb dX8_argument_48 (by decide) (fun c9 => ?_) (fun c9 => ?_)
            · -- 48 taken
              have c9 : ¬ w0 = 5 := fun h9 => c9 (by first | (rw [h22, h9]; done) | (rw [h22, h9]; rfl))
              refine lv_aload_n hx hb dX8_argument_54 rfl (lv_at hl 0 rfl) ?_
              refine va_get (D := D) (ci := 8) (v := .ref ((ad 23))) (C := RX8) (T := TX8) (N := 33) hx hb hts iX8 hown hK.1 hP 0 rfl rfl 23 (by decide) (hts _ q_702) (fun _ h9 => h9) rfl dX8_argument_55 ?_
              refine lv_aload_n hx hb dX8_argument_58 rfl (lv_at hl 0 rfl) ?_
              refine va_get (D := D) (ci := 8) (v := .int (σ 22 0)) (C := RX8) (T := TX8) (N := 33) hx hb hts iX8 hown hK.1 hP 0 rfl rfl 22 (by decide) (hts _ q_701) (fun _ h9 => h9) rfl dX8_argument_59 ?_
              refine lv_iload_n hx hb dX8_argument_62 rfl (lv_at hl 1 rfl) ?_
              refine iast_n hx hb hK.1 hP hD hS 19 0 rfl rfl (w0) h22 (by omega) (by decide) dX8_argument_63 (fun H locs hP hD hS => ?_)
              have hP : va_P D vwCl (mW G mo ad (su (su σ 0 (0) (0)) 23 (w0) (kind)) (τ)) H := hP
              have hD : va_D A (mW G mo ad (su (su σ 0 (0) (0)) 23 (w0) (kind)) (τ)) := hD
              refine lv_aload_n hx hb dX8_argument_64 rfl (lv_at hl 0 rfl) ?_
              refine va_get (D := D) (ci := 8) (v := .ref ((ad 24))) (C := RX8) (T := TX8) (N := 33) hx hb hts iX8 hown hK.1 hP 0 rfl rfl 24 (by decide) (hts _ q_703) (fun _ h9 => h9) rfl dX8_argument_65 ?_
              refine lv_aload_n hx hb dX8_argument_68 rfl (lv_at hl 0 rfl) ?_
              refine va_get (D := D) (ci := 8) (v := .int (σ 22 0)) (C := RX8) (T := TX8) (N := 33) hx hb hts iX8 hown hK.1 hP 0 rfl rfl 22 (by decide) (hts _ q_701) (fun _ h9 => h9) rfl dX8_argument_69 ?_
              refine lv_iload_n hx hb dX8_argument_72 rfl (lv_at hl 2 rfl) ?_
              refine iast_n hx hb hK.1 hP hD hS 20 0 rfl rfl (w0) h22 (by omega) (by decide) dX8_argument_73 (fun H locs hP hD hS => ?_)
              have hP : va_P D vwCl (mW G mo ad (su (su (su σ 0 (0) (0)) 23 (w0) (kind)) 24 (w0) (dd)) (τ)) H := hP
              have hD : va_D A (mW G mo ad (su (su (su σ 0 (0) (0)) 23 (w0) (kind)) 24 (w0) (dd)) (τ)) := hD
              refine lv_aload_n hx hb dX8_argument_74 rfl (lv_at hl 0 rfl) ?_
              refine lv_dup hx hb dX8_argument_75 rfl ?_
              refine va_get (D := D) (ci := 8) (v := .int (σ 22 0)) (C := RX8) (T := TX8) (N := 33) hx hb hts iX8 hown hK.1 hP 0 rfl rfl 22 (by decide) (hts _ q_701) (fun _ h9 => h9) rfl dX8_argument_76 ?_
              refine lv_iconst (v := 1) hx hb dX8_argument_79 (by decide) ?_
              refine lv_iadd hx hb dX8_argument_80 ?_
              refine W.eq (g2 := F0 m 81 ls [.int (nI (w0 + 1)), .ref mo]) (congrArg (fun z9 => F0 m 81 ls [.int z9, .ref mo]) (n_add (a := w0) (b := 1) h22 (rfl : (1 : Int32) = nI 1))) ?_
              refine va_put (D := D) (ci := 8) (v := .int (nI (w0 + 1))) (ty := .int) (C := RX8) (T := TX8) (N := 33) hx hb hts iX8 tyX8 tyX8_ok nmX8 hown hK.1 hP hD hS 0 rfl rfl 22 (by decide) (hts _ q_701) (fun _ h9 => h9) rfl (by decide +kernel) rfl rfl (Nat.le_of_ble_eq_true rfl) dX8_argument_81 (fun H locs hP hD hS => ?_)
              have hP : va_P D vwCl (mW G mo ad (su (su (su (su σ 0 (0) (0)) 23 (w0) (kind)) 24 (w0) (dd)) 22 (0) (nI (w0 + 1))) (τ)) H := hP
              have hD : va_D A (mW G mo ad (su (su (su (su σ 0 (0) (0)) 23 (w0) (kind)) 24 (w0) (dd)) 22 (0) (nI (w0 + 1))) (τ)) := hD
              refine lv_aload_n hx hb dX8_argument_84 rfl (lv_at hl 0 rfl) ?_
              refine va_get (D := D) (ci := 8) (v := .int (nI (w0 + 1))) (C := RX8) (T := TX8) (N := 33) hx hb hts iX8 hown hK.1 hP 0 rfl rfl 22 (by decide) (hts _ q_701) (fun _ h9 => h9) rfl dX8_argument_85 ?_
              have ho : oArg σ τ n w0 kind dd = (nI (w0 + 1), su (su (su (su σ 0 (0) (0)) 23 (w0) (kind)) 24 (w0) (dd)) 22 (0) (nI (w0 + 1)), τ) := by unfold oArg; simp only [eq_false c2, eq_false c3, eq_true c5, eq_true c6, eq_true c8, eq_false c9, not_true, not_false_iff, not_true_eq_false, not_false_eq_true, true_or, or_true, false_or, or_false, or_self, and_self, true_and, and_true, false_and, and_false, if_true, if_false]; try rfl
              exact mu_iret (v0 := nI (w0 + 1)) (z := (su (su (su (su σ 0 (0) (0)) 23 (w0) (kind)) 24 (w0) (dd)) 22 (0) (nI (w0 + 1)), τ)) hx hb hr hlocks hP hD hS dX8_argument_88 (by rw [ho]) (by rw [ho])
            · -- 48 not
              have c9 : w0 = 5 := nI_inj (by omega) (by omega) (by have h8 := c9; rw [h22] at h8; exact h8)
              refine lv_bipush (v := -15) hx hb dX8_argument_51 (by decide) ?_
              have ho : oArg σ τ n w0 kind dd = ((-15), su σ 0 (0) (0), τ) := by unfold oArg; simp only [eq_false c2, eq_false c3, eq_true c5, eq_true c6, eq_true c8, eq_true c9, not_true, not_false_iff, not_true_eq_false, not_false_eq_true, true_or, or_true, false_or, or_false, or_self, and_self, true_and, and_true, false_and, and_false, if_true, if_false]; try rfl
              exact mu_iret (v0 := (-15)) (z := (su σ 0 (0) (0), τ)) hx hb hr hlocks hP hD hS dX8_argument_53 (by rw [ho]) (by rw [ho])
          · -- 37 not
            refine lv_bipush (v := -13) hx hb dX8_argument_40 (by decide) ?_
            have ho : oArg σ τ n w0 kind dd = ((-13), su σ 0 (0) (0), τ) := by unfold oArg; simp only [eq_false c2, eq_false c3, eq_true c5, eq_true c6, eq_false c8, not_true, not_false_iff, not_true_eq_false, not_false_eq_true, true_or, or_true, false_or, or_false, or_self, and_self, true_and, and_true, false_and, and_false, if_true, if_false]; try rfl
            exact mu_iret (v0 := (-13)) (z := (su σ 0 (0) (0), τ)) hx hb hr hlocks hP hD hS dX8_argument_42 (by rw [ho]) (by rw [ho])
  · -- 10 not
    have c2 := bI_1 c2
    refine lv_bipush (v := -11) hx hb dX8_argument_13 (by decide) ?_
    have ho : oArg σ τ n w0 kind dd = ((-11), su σ 0 (0) (0), τ) := by unfold oArg; simp only [eq_true c2, not_true, not_false_iff, not_true_eq_false, not_false_eq_true, true_or, or_true, false_or, or_false, or_self, and_self, true_and, and_true, false_and, and_false, if_true, if_false]; try rfl
    exact mu_iret (v0 := (-11)) (z := (su σ 0 (0) (0), τ)) hx hb hr hlocks hP hD hS dX8_argument_15 (by rw [ho]) (by rw [ho])
set_option maxHeartbeats 4000000 in
set_option maxRecDepth 100000 in
theorem m_parameter (l : Launch) (D : va_G) (G : Nat → ClassId) (mo : Nat) (ad : Nat → Nat) (σ : MS) (τ : Nat → Int64) (sz : Nat) (n : Nat) (h1 : σ 1 0 = nI n) (hn : n ≤ 12) (k : Nat) (h7 : σ 7 0 = nI k) (hk60 : k ≤ 60) (hk59 : ¬ σ 21 0 = 0 → k < 60) (hm : okM σ k) (kind : Int32) (dd : Int32) (vr : Int32) (hvr : vr = 0 ∨ vr = 1) : Met l yX8_parameter (ww yX8_parameter cX8_parameter 5 (some .int)) (rmD 3) (muP D G sz mo ad (σ, τ) [.ref mo, .int kind, .int dd, .int vr]) (muQi D G mo ad (muA G mo ad (σ, τ) sz) (oPar σ τ n k kind dd vr).1 (oPar σ τ n k kind dd vr).2) 0 0 (muA G mo ad (σ, τ) sz) := by
  refine Met.ofW (cc := cX8_parameter) (maxL := 5) (ret := (some .int)) (by decide) rfl ?_
  intro p e s m args below meth c s₁ B hml hv
  obtain ⟨rfl, hsz, hP, hK, hD0⟩ := hv
  have hx := B.exec
  have hb := B.bytes
  have hr := B.returns
  have hts : ∀ w ∈ TT, w.before _ s = true := fun w h => atoms_spec (ws := ww yX8_parameter cX8_parameter 5 (some .int)) B.pre w (List.mem_cons_of_mem _ h)
  have hown : s.vm.findClass RX8 = some m.cls := findClass_of_methodNamed B.named
  have hlocks := B.notSynchronized
  subst hsz
  have hD : va_D (muA G mo ad (σ, τ) s.heap.size) (mW G mo ad σ τ) := hD0.self
  generalize hAe : muA G mo ad (σ, τ) s.heap.size = A at hD ⊢
  have hA : ∀ q : Nat, s.heap.size ≤ q → A q := fun q h => by rw [← hAe]; exact Or.inr h
  have hS : va_S A s.heap s.heap [] := va_S.rf
  have hP : va_P D vwCl (mW G mo ad σ τ) s.heap := hP
  have hl := lv_entry ([.ref mo, .int kind, .int dd, .int vr]) (n := 5) (Nat.le_of_ble_eq_true rfl)
  rw [lg_entry_eq]
  generalize (lg_sl ([.ref mo, .int kind, .int dd, .int vr]) ++ List.replicate (5 - (lg_sl ([.ref mo, .int kind, .int dd, .int vr])).length) Slot.unset).toArray = ls at hl ⊢
  have hl : lv_has ls 5 [(0, .ref mo), (1, .int kind), (2, .int dd), (3, .int vr)] := hl
  refine lv_aload_n hx hb dX8_parameter_0 rfl (lv_at hl 0 rfl) ?_
  refine lv_iconst (v := 0) hx hb dX8_parameter_1 (by decide) ?_
  refine va_put (D := D) (ci := 8) (v := .int 0) (ty := .int) (C := RX8) (T := TX8) (N := 33) hx hb hts iX8 tyX8 tyX8_ok nmX8 hown hK.1 hP hD hS 0 rfl rfl 0 (by decide) (hts _ q_679) (fun _ h9 => h9) rfl (by decide +kernel) rfl rfl (Nat.le_of_ble_eq_true rfl) dX8_parameter_2 (fun H locs hP hD hS => ?_)
  have hP : va_P D vwCl (mW G mo ad (su σ 0 (0) (0)) (τ)) H := hP
  have hD : va_D A (mW G mo ad (su σ 0 (0) (0)) (τ)) := hD
  refine lv_aload_n hx hb dX8_parameter_5 rfl (lv_at hl 0 rfl) ?_
  refine va_get (D := D) (ci := 8) (v := .int (σ 21 0)) (C := RX8) (T := TX8) (N := 33) hx hb hts iX8 hown hK.1 hP 0 rfl rfl 21 (by decide) (hts _ q_700) (fun _ h9 => h9) rfl dX8_parameter_6 ?_
  refine lv_if_ne (tgt := 15) hx hb dX8_parameter_9 (by decide) (fun c1 => ?_) (fun c1 => ?_)
  · -- 9 taken
    have hk59 := hk59 c1
    refine lv_aload_n hx hb dX8_parameter_15 rfl (lv_at hl 0 rfl) ?_
    refine lv_iload_n hx hb dX8_parameter_16 rfl (lv_at hl 1 rfl) ?_
    refine ro_Vi (D := D) (G := G) (As := [.int kind]) (rest := []) ⟨hx, hb, hml, hown, hts⟩ (m_noKind l D G _ mo ad _ _ hP n h1 hn kind) gV_X8_X8_noKind hdV_X8_noKind ⟨Nat.le_of_ble_eq_true rfl, Nat.le_of_ble_eq_true rfl⟩ hK (va_recv hK.1 hP (ci := 8) (q0 := 0) rfl rfl) rfl hl.1 rfl (Nat.le_of_ble_eq_true rfl) dX8_parameter_17 ⟨Nat.le_of_ble_eq_true rfl, Nat.le_of_ble_eq_true rfl⟩ (fun r2 e_r2 => ?_)
    subst e_r2
    refine W.eq (g2 := F0 m 20 ls [.int (bI (noK n kind))]) rfl ?_
    refine lv_if_eq (tgt := 26) hx hb dX8_parameter_20 (by decide) (fun c3 => ?_) (fun c3 => ?_)
    · -- 20 taken
      have c3 := bI_0 c3
      refine lv_iload_n hx hb dX8_parameter_26 rfl (lv_at hl 1 rfl) ?_
      refine lv_if_lt (tgt := 53) hx hb dX8_parameter_27 (by decide) (fun c4 => ?_) (fun c4 => ?_)
      · -- 27 taken
        refine lv_bipush (v := -13) hx hb dX8_parameter_53 (by decide) ?_
        have ho : oPar σ τ n k kind dd vr = ((-13), su σ 0 (0) (0), τ) := by unfold oPar; simp only [eq_false c1, eq_false c3, eq_true c4, not_true, not_false_iff, not_true_eq_false, not_false_eq_true, true_or, or_true, false_or, or_false, or_self, and_self, true_and, and_true, false_and, and_false, if_true, if_false]; try rfl
        exact mu_iret (v0 := (-13)) (z := (su σ 0 (0) (0), τ)) hx hb hr hlocks hP hD hS dX8_parameter_55 (by rw [ho]) (by rw [ho])
      · -- 27 not
        refine lv_iload_n hx hb dX8_parameter_30 rfl (lv_at hl 1 rfl) ?_
        refine lv_bipush (v := 9) hx hb dX8_parameter_31 (by decide) ?_
        refine lv_icmp_eq (tgt := 53) hx hb dX8_parameter_33 (by decide) (fun c5 => ?_) (fun c5 => ?_)
        · -- 33 taken
          refine lv_bipush (v := -13) hx hb dX8_parameter_53 (by decide) ?_
          have ho : oPar σ τ n k kind dd vr = ((-13), su σ 0 (0) (0), τ) := by unfold oPar; simp only [eq_false c1, eq_false c3, eq_false c4, eq_true c5, not_true, not_false_iff, not_true_eq_false, not_false_eq_true, true_or, or_true, false_or, or_false, or_self, and_self, true_and, and_true, false_and, and_false, if_true, if_false]; try rfl
          exact mu_iret (v0 := (-13)) (z := (su σ 0 (0) (0), τ)) hx hb hr hlocks hP hD hS dX8_parameter_55 (by rw [ho]) (by rw [ho])
        · -- 33 not
          refine lv_iload_n hx hb dX8_parameter_36 rfl (lv_at hl 2 rfl) ?_
          refine lv_iconst (v := 0) hx hb dX8_parameter_37 (by decide) ?_
          refine lv_iconst (v := 3) hx hb dX8_parameter_38 (by decide) ?_
          refine ro_Si (D := D) (G := G) (As := [.int dd, .int 0, .int 3]) (rest := []) ⟨hx, hb, hml, hown, hts⟩ (m_in l D G _ dd 0 3) gS_X8_X8_in hdS_X8_in ⟨Nat.le_of_ble_eq_true rfl, Nat.le_of_ble_eq_true rfl⟩ hK rfl hl.1 rfl (Nat.le_of_ble_eq_true rfl) dX8_parameter_39 ⟨Nat.le_of_ble_eq_true rfl, Nat.le_of_ble_eq_true rfl⟩ (fun r6 e_r6 => ?_)
          subst e_r6
          refine W.eq (g2 := F0 m 42 ls [.int (bI (0 ≤ dd ∧ dd ≤ 3))]) rfl ?_
          refine lv_if_eq (tgt := 53) hx hb dX8_parameter_42 (by decide) (fun c7 => ?_) (fun c7 => ?_)
          · -- 42 taken
            have c7 := bI_0 c7
            refine lv_bipush (v := -13) hx hb dX8_parameter_53 (by decide) ?_
            have ho : oPar σ τ n k kind dd vr = ((-13), su σ 0 (0) (0), τ) := by unfold oPar; simp only [eq_false c1, eq_false c3, eq_false c4, eq_false c5, eq_false c7, not_true, not_false_iff, not_true_eq_false, not_false_eq_true, true_or, or_true, false_or, or_false, or_self, and_self, true_and, and_true, false_and, and_false, if_true, if_false]; try rfl
            exact mu_iret (v0 := (-13)) (z := (su σ 0 (0) (0), τ)) hx hb hr hlocks hP hD hS dX8_parameter_55 (by rw [ho]) (by rw [ho])
          · -- 42 not
            have c7 := bI_1 c7
            refine lv_iload_n hx hb dX8_parameter_45 rfl (lv_at hl 1 rfl) ?_
            refine lv_if_ne (tgt := 56) hx hb dX8_parameter_46 (by decide) (fun c8 => ?_) (fun c8 => ?_)
            · -- 46 taken
              refine lv_aload_n hx hb dX8_parameter_56 rfl (lv_at hl 0 rfl) ?_
              refine va_get (D := D) (ci := 8) (v := .ref ((ad 18))) (C := RX8) (T := TX8) (N := 33) hx hb hts iX8 hown hK.1 hP 0 rfl rfl 18 (by decide) (hts _ q_697) (fun _ h9 => h9) rfl dX8_parameter_57 ?_
              refine lv_aload_n hx hb dX8_parameter_60 rfl (lv_at hl 0 rfl) ?_
              refine va_get (D := D) (ci := 8) (v := .int (σ 7 0)) (C := RX8) (T := TX8) (N := 33) hx hb hts iX8 hown hK.1 hP 0 rfl rfl 7 (by decide) (hts _ q_686) (fun _ h9 => h9) rfl dX8_parameter_61 ?_
              refine iald_n (f := σ 18) hx hb hK.1 hP 16 0 rfl rfl (k) h7 (by omega) (by decide) dX8_parameter_64 ?_
              refine lv_iconst (v := 5) hx hb dX8_parameter_65 (by decide) ?_
              refine lv_icmp_ne (tgt := 72) hx hb dX8_parameter_66 (by decide) (fun c9 => ?_) (fun c9 => ?_)
              · -- 66 taken
                have c9 : ¬ (mnE σ k) = 5 := fun h9 => c9 (by first | (rw [hm.1, h9]; done) | (rw [hm.1, h9]; rfl))
                refine lv_iload_n hx hb dX8_parameter_72 rfl (lv_at hl 1 rfl) ?_
                refine lv_if_ne (tgt := 83) hx hb dX8_parameter_73 (by decide) (fun hh => ?_) (fun hh => absurd hh c8)
                refine lv_aload_n hx hb dX8_parameter_83 rfl (lv_at hl 0 rfl) ?_
                refine va_get (D := D) (ci := 8) (v := .ref ((ad 17))) (C := RX8) (T := TX8) (N := 33) hx hb hts iX8 hown hK.1 hP 0 rfl rfl 17 (by decide) (hts _ q_696) (fun _ h9 => h9) rfl dX8_parameter_84 ?_
                refine lv_aload_n hx hb dX8_parameter_87 rfl (lv_at hl 0 rfl) ?_
                refine va_get (D := D) (ci := 8) (v := .int (σ 7 0)) (C := RX8) (T := TX8) (N := 33) hx hb hts iX8 hown hK.1 hP 0 rfl rfl 7 (by decide) (hts _ q_686) (fun _ h9 => h9) rfl dX8_parameter_88 ?_
                refine zald_n (f := σ 17) hx hb hK.1 hP 15 2 rfl rfl (k) h7 (by omega) (by decide) dX8_parameter_91 ?_
                refine lv_if_eq (tgt := 102) hx hb dX8_parameter_92 (by decide) (fun c11 => ?_) (fun c11 => ?_)
                · -- 92 taken
                  refine lv_iload_n hx hb dX8_parameter_102 rfl (lv_at hl 3 rfl) ?_
                  refine lv_if_eq (tgt := 117) hx hb dX8_parameter_103 (by decide) (fun c12 => ?_) (fun c12 => ?_)
                  · -- 103 taken
                    refine lv_iconst (v := 5) hx hb dX8_parameter_117 (by decide) ?_
                    refine lv_aload_n hx hb dX8_parameter_118 rfl (lv_at hl 0 rfl) ?_
                    refine va_get (D := D) (ci := 8) (v := .int (σ 7 0)) (C := RX8) (T := TX8) (N := 33) hx hb hts iX8 hown hK.1 hP 0 rfl rfl 7 (by decide) (hts _ q_686) (fun _ h9 => h9) rfl dX8_parameter_119 ?_
                    refine lv_imul hx hb dX8_parameter_122 ?_
                    refine lv_aload_n hx hb dX8_parameter_123 rfl (lv_at hl 0 rfl) ?_
                    refine va_get (D := D) (ci := 8) (v := .ref ((ad 18))) (C := RX8) (T := TX8) (N := 33) hx hb hts iX8 hown hK.1 hP 0 rfl rfl 18 (by decide) (hts _ q_697) (fun _ h9 => h9) rfl dX8_parameter_124 ?_
                    refine lv_aload_n hx hb dX8_parameter_127 rfl (lv_at hl 0 rfl) ?_
                    refine va_get (D := D) (ci := 8) (v := .int (σ 7 0)) (C := RX8) (T := TX8) (N := 33) hx hb hts iX8 hown hK.1 hP 0 rfl rfl 7 (by decide) (hts _ q_686) (fun _ h9 => h9) rfl dX8_parameter_128 ?_
                    refine iald_n (f := σ 18) hx hb hK.1 hP 16 0 rfl rfl (k) h7 (by omega) (by decide) dX8_parameter_131 ?_
                    refine lv_iadd hx hb dX8_parameter_132 ?_
                    refine W.eq (g2 := F0 m 133 ls [.int (nI ((5 * k) + (mnE σ k)))]) (congrArg (fun z9 => F0 m 133 ls [.int z9]) (n_add (a := (5 * k)) (b := (mnE σ k)) (n_mul (a := 5) (b := k) (rfl : (5 : Int32) = nI 5) h7) hm.1)) ?_
                    refine lv_istore (lv' := [(4, .int (nI ((5 * k) + (mnE σ k)))), (0, .ref mo), (1, .int kind), (2, .int dd), (3, .int vr)]) hx hb dX8_parameter_133 hl (by decide) rfl (fun ls hl => ?_)
                    refine lv_aload_n hx hb dX8_parameter_135 rfl (lv_at hl 1 rfl) ?_
                    refine va_get (D := D) (ci := 8) (v := .ref ((ad 19))) (C := RX8) (T := TX8) (N := 33) hx hb hts iX8 hown hK.1 hP 0 rfl rfl 19 (by decide) (hts _ q_698) (fun _ h9 => h9) rfl dX8_parameter_136 ?_
                    refine lv_iload hx hb dX8_parameter_139 (lv_at hl 0 rfl) ?_
                    refine lv_iload_n hx hb dX8_parameter_141 rfl (lv_at hl 2 rfl) ?_
                    refine iast_n hx hb hK.1 hP hD hS 17 0 rfl rfl (((5 * k) + (mnE σ k))) rfl (by omega) (by decide) dX8_parameter_142 (fun H locs hP hD hS => ?_)
                    have hP : va_P D vwCl (mW G mo ad (su (su σ 0 (0) (0)) 19 (((5 * k) + (mnE σ k))) (kind)) (τ)) H := hP
                    have hD : va_D A (mW G mo ad (su (su σ 0 (0) (0)) 19 (((5 * k) + (mnE σ k))) (kind)) (τ)) := hD
                    refine lv_aload_n hx hb dX8_parameter_143 rfl (lv_at hl 1 rfl) ?_
                    refine va_get (D := D) (ci := 8) (v := .ref ((ad 20))) (C := RX8) (T := TX8) (N := 33) hx hb hts iX8 hown hK.1 hP 0 rfl rfl 20 (by decide) (hts _ q_699) (fun _ h9 => h9) rfl dX8_parameter_144 ?_
                    refine lv_iload hx hb dX8_parameter_147 (lv_at hl 0 rfl) ?_
                    refine lv_iload_n hx hb dX8_parameter_149 rfl (lv_at hl 3 rfl) ?_
                    refine iast_n hx hb hK.1 hP hD hS 18 0 rfl rfl (((5 * k) + (mnE σ k))) rfl (by omega) (by decide) dX8_parameter_150 (fun H locs hP hD hS => ?_)
                    have hP : va_P D vwCl (mW G mo ad (su (su (su σ 0 (0) (0)) 19 (((5 * k) + (mnE σ k))) (kind)) 20 (((5 * k) + (mnE σ k))) (dd)) (τ)) H := hP
                    have hD : va_D A (mW G mo ad (su (su (su σ 0 (0) (0)) 19 (((5 * k) + (mnE σ k))) (kind)) 20 (((5 * k) + (mnE σ k))) (dd)) (τ)) := hD
                    refine lv_aload_n hx hb dX8_parameter_151 rfl (lv_at hl 1 rfl) ?_
                    refine va_get (D := D) (ci := 8) (v := .ref ((ad 17))) (C := RX8) (T := TX8) (N := 33) hx hb hts iX8 hown hK.1 hP 0 rfl rfl 17 (by decide) (hts _ q_696) (fun _ h9 => h9) rfl dX8_parameter_152 ?_
                    refine lv_aload_n hx hb dX8_parameter_155 rfl (lv_at hl 1 rfl) ?_
                    refine va_get (D := D) (ci := 8) (v := .int (σ 7 0)) (C := RX8) (T := TX8) (N := 33) hx hb hts iX8 hown hK.1 hP 0 rfl rfl 7 (by decide) (hts _ q_686) (fun _ h9 => h9) rfl dX8_parameter_156 ?_
                    refine lv_iload_n hx hb dX8_parameter_159 rfl (lv_at hl 4 rfl) ?_
                    refine zast_n hx hb hK.1 hP hD hS 15 2 rfl rfl (k) h7 (by omega) (by decide) hvr dX8_parameter_160 (fun H locs hP hD hS => ?_)
                    have hP : va_P D vwCl (mW G mo ad (su (su (su (su σ 0 (0) (0)) 19 (((5 * k) + (mnE σ k))) (kind)) 20 (((5 * k) + (mnE σ k))) (dd)) 17 (k) (vr)) (τ)) H := hP
                    have hD : va_D A (mW G mo ad (su (su (su (su σ 0 (0) (0)) 19 (((5 * k) + (mnE σ k))) (kind)) 20 (((5 * k) + (mnE σ k))) (dd)) 17 (k) (vr)) (τ)) := hD
                    refine lv_aload_n hx hb dX8_parameter_161 rfl (lv_at hl 1 rfl) ?_
                    refine va_get (D := D) (ci := 8) (v := .ref ((ad 18))) (C := RX8) (T := TX8) (N := 33) hx hb hts iX8 hown hK.1 hP 0 rfl rfl 18 (by decide) (hts _ q_697) (fun _ h9 => h9) rfl dX8_parameter_162 ?_
                    refine lv_aload_n hx hb dX8_parameter_165 rfl (lv_at hl 1 rfl) ?_
                    refine va_get (D := D) (ci := 8) (v := .int (σ 7 0)) (C := RX8) (T := TX8) (N := 33) hx hb hts iX8 hown hK.1 hP 0 rfl rfl 7 (by decide) (hts _ q_686) (fun _ h9 => h9) rfl dX8_parameter_166 ?_
                    refine lv_dup2_11 hx hb dX8_parameter_169 rfl rfl ?_
                    refine iald_n (f := σ 18) hx hb hK.1 hP 16 0 rfl rfl (k) h7 (by omega) (by decide) dX8_parameter_170 ?_
                    refine lv_iconst (v := 1) hx hb dX8_parameter_171 (by decide) ?_
                    refine lv_iadd hx hb dX8_parameter_172 ?_
                    refine W.eq (g2 := F0 m 173 ls [.int (nI ((mnE σ k) + 1)), .int (σ 7 0), .ref ((ad 18))]) (congrArg (fun z9 => F0 m 173 ls [.int z9, .int (σ 7 0), .ref ((ad 18))]) (n_add (a := (mnE σ k)) (b := 1) hm.1 (rfl : (1 : Int32) = nI 1))) ?_
                    refine iast_n hx hb hK.1 hP hD hS 16 0 rfl rfl (k) h7 (by omega) (by decide) dX8_parameter_173 (fun H locs hP hD hS => ?_)
                    have hP : va_P D vwCl (mW G mo ad (su (su (su (su (su σ 0 (0) (0)) 19 (((5 * k) + (mnE σ k))) (kind)) 20 (((5 * k) + (mnE σ k))) (dd)) 17 (k) (vr)) 18 (k) (nI ((mnE σ k) + 1))) (τ)) H := hP
                    have hD : va_D A (mW G mo ad (su (su (su (su (su σ 0 (0) (0)) 19 (((5 * k) + (mnE σ k))) (kind)) 20 (((5 * k) + (mnE σ k))) (dd)) 17 (k) (vr)) 18 (k) (nI ((mnE σ k) + 1))) (τ)) := hD
                    refine lv_aload_n hx hb dX8_parameter_174 rfl (lv_at hl 1 rfl) ?_
                    refine va_get (D := D) (ci := 8) (v := .ref ((ad 18))) (C := RX8) (T := TX8) (N := 33) hx hb hts iX8 hown hK.1 hP 0 rfl rfl 18 (by decide) (hts _ q_697) (fun _ h9 => h9) rfl dX8_parameter_175 ?_
                    refine lv_aload_n hx hb dX8_parameter_178 rfl (lv_at hl 1 rfl) ?_
                    refine va_get (D := D) (ci := 8) (v := .int (σ 7 0)) (C := RX8) (T := TX8) (N := 33) hx hb hts iX8 hown hK.1 hP 0 rfl rfl 7 (by decide) (hts _ q_686) (fun _ h9 => h9) rfl dX8_parameter_179 ?_
                    refine iald_n (f := upd (σ 18) (k) (nI ((mnE σ k) + 1))) hx hb hK.1 hP 16 0 rfl rfl (k) h7 (by omega) (by decide) dX8_parameter_182 ?_
                    refine W.eq (g2 := F0 m 183 ls [.int (nI (mnE σ k + 1))]) (congrArg (fun z9 => F0 m 183 ls [.int z9]) pk_us) ?_
                    have ho : oPar σ τ n k kind dd vr = (nI (mnE σ k + 1), su (su (su (su (su σ 0 (0) (0)) 19 (((5 * k) + (mnE σ k))) (kind)) 20 (((5 * k) + (mnE σ k))) (dd)) 17 (k) (vr)) 18 (k) (nI ((mnE σ k) + 1)), τ) := by unfold oPar; simp only [eq_false c1, eq_false c3, eq_false c4, eq_false c5, eq_true c7, eq_false c8, eq_false c9, eq_true c11, eq_true c12, not_true, not_false_iff, not_true_eq_false, not_false_eq_true, true_or, or_true, false_or, or_false, or_self, and_self, true_and, and_true, false_and, and_false, if_true, if_false]; try rfl
                    exact mu_iret (v0 := nI (mnE σ k + 1)) (z := (su (su (su (su (su σ 0 (0) (0)) 19 (((5 * k) + (mnE σ k))) (kind)) 20 (((5 * k) + (mnE σ k))) (dd)) 17 (k) (vr)) 18 (k) (nI ((mnE σ k) + 1)), τ)) hx hb hr hlocks hP hD hS dX8_parameter_183 (by rw [ho]) (by rw [ho])
                  · -- 103 not
                    refine lv_iload_n hx hb dX8_parameter_106 rfl (lv_at hl 2 rfl) ?_
                    refine lv_if_ne (tgt := 117) hx hb dX8_parameter_107 (by decide) (fun c13 => ?_) (fun c13 => ?_)
                    · -- 107 taken
                      refine lv_iconst (v := 5) hx hb dX8_parameter_117 (by decide) ?_
                      refine lv_aload_n hx hb dX8_parameter_118 rfl (lv_at hl 0 rfl) ?_
                      refine va_get (D := D) (ci := 8) (v := .int (σ 7 0)) (C := RX8) (T := TX8) (N := 33) hx hb hts iX8 hown hK.1 hP 0 rfl rfl 7 (by decide) (hts _ q_686) (fun _ h9 => h9) rfl dX8_parameter_119 ?_
                      refine lv_imul hx hb dX8_parameter_122 ?_
                      refine lv_aload_n hx hb dX8_parameter_123 rfl (lv_at hl 0 rfl) ?_
                      refine va_get (D := D) (ci := 8) (v := .ref ((ad 18))) (C := RX8) (T := TX8) (N := 33) hx hb hts iX8 hown hK.1 hP 0 rfl rfl 18 (by decide) (hts _ q_697) (fun _ h9 => h9) rfl dX8_parameter_124 ?_
                      refine lv_aload_n hx hb dX8_parameter_127 rfl (lv_at hl 0 rfl) ?_
                      refine va_get (D := D) (ci := 8) (v := .int (σ 7 0)) (C := RX8) (T := TX8) (N := 33) hx hb hts iX8 hown hK.1 hP 0 rfl rfl 7 (by decide) (hts _ q_686) (fun _ h9 => h9) rfl dX8_parameter_128 ?_
                      refine iald_n (f := σ 18) hx hb hK.1 hP 16 0 rfl rfl (k) h7 (by omega) (by decide) dX8_parameter_131 ?_
                      refine lv_iadd hx hb dX8_parameter_132 ?_
                      refine W.eq (g2 := F0 m 133 ls [.int (nI ((5 * k) + (mnE σ k)))]) (congrArg (fun z9 => F0 m 133 ls [.int z9]) (n_add (a := (5 * k)) (b := (mnE σ k)) (n_mul (a := 5) (b := k) (rfl : (5 : Int32) = nI 5) h7) hm.1)) ?_
                      refine lv_istore (lv' := [(4, .int (nI ((5 * k) + (mnE σ k)))), (0, .ref mo), (1, .int kind), (2, .int dd), (3, .int vr)]) hx hb dX8_parameter_133 hl (by decide) rfl (fun ls hl => ?_)
                      refine lv_aload_n hx hb dX8_parameter_135 rfl (lv_at hl 1 rfl) ?_
                      refine va_get (D := D) (ci := 8) (v := .ref ((ad 19))) (C := RX8) (T := TX8) (N := 33) hx hb hts iX8 hown hK.1 hP 0 rfl rfl 19 (by decide) (hts _ q_698) (fun _ h9 => h9) rfl dX8_parameter_136 ?_
                      refine lv_iload hx hb dX8_parameter_139 (lv_at hl 0 rfl) ?_
                      refine lv_iload_n hx hb dX8_parameter_141 rfl (lv_at hl 2 rfl) ?_
                      refine iast_n hx hb hK.1 hP hD hS 17 0 rfl rfl (((5 * k) + (mnE σ k))) rfl (by omega) (by decide) dX8_parameter_142 (fun H locs hP hD hS => ?_)
                      have hP : va_P D vwCl (mW G mo ad (su (su σ 0 (0) (0)) 19 (((5 * k) + (mnE σ k))) (kind)) (τ)) H := hP
                      have hD : va_D A (mW G mo ad (su (su σ 0 (0) (0)) 19 (((5 * k) + (mnE σ k))) (kind)) (τ)) := hD
                      refine lv_aload_n hx hb dX8_parameter_143 rfl (lv_at hl 1 rfl) ?_
                      refine va_get (D := D) (ci := 8) (v := .ref ((ad 20))) (C := RX8) (T := TX8) (N := 33) hx hb hts iX8 hown hK.1 hP 0 rfl rfl 20 (by decide) (hts _ q_699) (fun _ h9 => h9) rfl dX8_parameter_144 ?_
                      refine lv_iload hx hb dX8_parameter_147 (lv_at hl 0 rfl) ?_
                      refine lv_iload_n hx hb dX8_parameter_149 rfl (lv_at hl 3 rfl) ?_
                      refine iast_n hx hb hK.1 hP hD hS 18 0 rfl rfl (((5 * k) + (mnE σ k))) rfl (by omega) (by decide) dX8_parameter_150 (fun H locs hP hD hS => ?_)
                      have hP : va_P D vwCl (mW G mo ad (su (su (su σ 0 (0) (0)) 19 (((5 * k) + (mnE σ k))) (kind)) 20 (((5 * k) + (mnE σ k))) (dd)) (τ)) H := hP
                      have hD : va_D A (mW G mo ad (su (su (su σ 0 (0) (0)) 19 (((5 * k) + (mnE σ k))) (kind)) 20 (((5 * k) + (mnE σ k))) (dd)) (τ)) := hD
                      refine lv_aload_n hx hb dX8_parameter_151 rfl (lv_at hl 1 rfl) ?_
                      refine va_get (D := D) (ci := 8) (v := .ref ((ad 17))) (C := RX8) (T := TX8) (N := 33) hx hb hts iX8 hown hK.1 hP 0 rfl rfl 17 (by decide) (hts _ q_696) (fun _ h9 => h9) rfl dX8_parameter_152 ?_
                      refine lv_aload_n hx hb dX8_parameter_155 rfl (lv_at hl 1 rfl) ?_
                      refine va_get (D := D) (ci := 8) (v := .int (σ 7 0)) (C := RX8) (T := TX8) (N := 33) hx hb hts iX8 hown hK.1 hP 0 rfl rfl 7 (by decide) (hts _ q_686) (fun _ h9 => h9) rfl dX8_parameter_156 ?_
                      refine lv_iload_n hx hb dX8_parameter_159 rfl (lv_at hl 4 rfl) ?_
                      refine zast_n hx hb hK.1 hP hD hS 15 2 rfl rfl (k) h7 (by omega) (by decide) hvr dX8_parameter_160 (fun H locs hP hD hS => ?_)
                      have hP : va_P D vwCl (mW G mo ad (su (su (su (su σ 0 (0) (0)) 19 (((5 * k) + (mnE σ k))) (kind)) 20 (((5 * k) + (mnE σ k))) (dd)) 17 (k) (vr)) (τ)) H := hP
                      have hD : va_D A (mW G mo ad (su (su (su (su σ 0 (0) (0)) 19 (((5 * k) + (mnE σ k))) (kind)) 20 (((5 * k) + (mnE σ k))) (dd)) 17 (k) (vr)) (τ)) := hD
                      refine lv_aload_n hx hb dX8_parameter_161 rfl (lv_at hl 1 rfl) ?_
                      refine va_get (D := D) (ci := 8) (v := .ref ((ad 18))) (C := RX8) (T := TX8) (N := 33) hx hb hts iX8 hown hK.1 hP 0 rfl rfl 18 (by decide) (hts _ q_697) (fun _ h9 => h9) rfl dX8_parameter_162 ?_
                      refine lv_aload_n hx hb dX8_parameter_165 rfl (lv_at hl 1 rfl) ?_
                      refine va_get (D := D) (ci := 8) (v := .int (σ 7 0)) (C := RX8) (T := TX8) (N := 33) hx hb hts iX8 hown hK.1 hP 0 rfl rfl 7 (by decide) (hts _ q_686) (fun _ h9 => h9) rfl dX8_parameter_166 ?_
                      refine lv_dup2_11 hx hb dX8_parameter_169 rfl rfl ?_
                      refine iald_n (f := σ 18) hx hb hK.1 hP 16 0 rfl rfl (k) h7 (by omega) (by decide) dX8_parameter_170 ?_
                      refine lv_iconst (v := 1) hx hb dX8_parameter_171 (by decide) ?_
                      refine lv_iadd hx hb dX8_parameter_172 ?_
                      refine W.eq (g2 := F0 m 173 ls [.int (nI ((mnE σ k) + 1)), .int (σ 7 0), .ref ((ad 18))]) (congrArg (fun z9 => F0 m 173 ls [.int z9, .int (σ 7 0), .ref ((ad 18))]) (n_add (a := (mnE σ k)) (b := 1) hm.1 (rfl : (1 : Int32) = nI 1))) ?_
                      refine iast_n hx hb hK.1 hP hD hS 16 0 rfl rfl (k) h7 (by omega) (by decide) dX8_parameter_173 (fun H locs hP hD hS => ?_)
                      have hP : va_P D vwCl (mW G mo ad (su (su (su (su (su σ 0 (0) (0)) 19 (((5 * k) + (mnE σ k))) (kind)) 20 (((5 * k) + (mnE σ k))) (dd)) 17 (k) (vr)) 18 (k) (nI ((mnE σ k) + 1))) (τ)) H := hP
                      have hD : va_D A (mW G mo ad (su (su (su (su (su σ 0 (0) (0)) 19 (((5 * k) + (mnE σ k))) (kind)) 20 (((5 * k) + (mnE σ k))) (dd)) 17 (k) (vr)) 18 (k) (nI ((mnE σ k) + 1))) (τ)) := hD
                      refine lv_aload_n hx hb dX8_parameter_174 rfl (lv_at hl 1 rfl) ?_
                      refine va_get (D := D) (ci := 8) (v := .ref ((ad 18))) (C := RX8) (T := TX8) (N := 33) hx hb hts iX8 hown hK.1 hP 0 rfl rfl 18 (by decide) (hts _ q_697) (fun _ h9 => h9) rfl dX8_parameter_175 ?_
                      refine lv_aload_n hx hb dX8_parameter_178 rfl (lv_at hl 1 rfl) ?_
                      refine va_get (D := D) (ci := 8) (v := .int (σ 7 0)) (C := RX8) (T := TX8) (N := 33) hx hb hts iX8 hown hK.1 hP 0 rfl rfl 7 (by decide) (hts _ q_686) (fun _ h9 => h9) rfl dX8_parameter_179 ?_
                      refine iald_n (f := upd (σ 18) (k) (nI ((mnE σ k) + 1))) hx hb hK.1 hP 16 0 rfl rfl (k) h7 (by omega) (by decide) dX8_parameter_182 ?_
                      refine W.eq (g2 := F0 m 183 ls [.int (nI (mnE σ k + 1))]) (congrArg (fun z9 => F0 m 183 ls [.int z9]) pk_us) ?_
                      have ho : oPar σ τ n k kind dd vr = (nI (mnE σ k + 1), su (su (su (su (su σ 0 (0) (0)) 19 (((5 * k) + (mnE σ k))) (kind)) 20 (((5 * k) + (mnE σ k))) (dd)) 17 (k) (vr)) 18 (k) (nI ((mnE σ k) + 1)), τ) := by unfold oPar; simp only [eq_false c1, eq_false c3, eq_false c4, eq_false c5, eq_true c7, eq_false c8, eq_false c9, eq_true c11, eq_false c12, eq_false c13, not_true, not_false_iff, not_true_eq_false, not_false_eq_true, true_or, or_true, false_or, or_false, or_self, and_self, true_and, and_true, false_and, and_false, if_true, if_false]; try rfl
                      exact mu_iret (v0 := nI (mnE σ k + 1)) (z := (su (su (su (su (su σ 0 (0) (0)) 19 (((5 * k) + (mnE σ k))) (kind)) 20 (((5 * k) + (mnE σ k))) (dd)) 17 (k) (vr)) 18 (k) (nI ((mnE σ k) + 1)), τ)) hx hb hr hlocks hP hD hS dX8_parameter_183 (by rw [ho]) (by rw [ho])
                    · -- 107 not
                      refine lv_aload_n hx hb dX8_parameter_110 rfl (lv_at hl 0 rfl) ?_
                      refine lv_bipush (v := 20) hx hb dX8_parameter_111 (by decide) ?_
                      refine mu_Vi (D := D) (G := G) (mo := mo) (ad := ad) (u := (su σ 0 (0) (0), τ)) (As := [.int 20]) (rest := []) ⟨hx, hb, hml, hown, hts⟩ (m_breaks l D G mo ad (su σ 0 (0) (0)) (τ) _ (20) (by omega)) gV_X8_X8_breaks hdV_X8_breaks ⟨Nat.le_of_ble_eq_true rfl, Nat.le_of_ble_eq_true rfl⟩ hK hP hD hS hA rfl hl.1 rfl (Nat.le_of_ble_eq_true rfl) dX8_parameter_113 ⟨Nat.le_of_ble_eq_true rfl, Nat.le_of_ble_eq_true rfl⟩ (fun H locs hP hD hS => ?_)
                      have hP : va_P D vwCl (mW G mo ad (su (su (su σ 0 (0) (0)) 27 (20) (σ 27 20 + 1)) 26 (0) (σ 26 0 + 1)) (τ)) H := hP
                      have hD : va_D A (mW G mo ad (su (su (su σ 0 (0) (0)) 27 (20) (σ 27 20 + 1)) 26 (0) (σ 26 0 + 1)) (τ)) := hD
                      refine W.eq (g2 := F0 m 116 ls [.int ((-40) - nI 20)]) rfl ?_
                      have ho : oPar σ τ n k kind dd vr = ((-40) - nI 20, su (su (su σ 0 (0) (0)) 27 (20) (σ 27 20 + 1)) 26 (0) (σ 26 0 + 1), τ) := by unfold oPar; simp only [eq_false c1, eq_false c3, eq_false c4, eq_false c5, eq_true c7, eq_false c8, eq_false c9, eq_true c11, eq_false c12, eq_true c13, not_true, not_false_iff, not_true_eq_false, not_false_eq_true, true_or, or_true, false_or, or_false, or_self, and_self, true_and, and_true, false_and, and_false, if_true, if_false]; try rfl
                      exact mu_iret (v0 := (-40) - nI 20) (z := (su (su (su σ 0 (0) (0)) 27 (20) (σ 27 20 + 1)) 26 (0) (σ 26 0 + 1), τ)) hx hb hr hlocks hP hD hS dX8_parameter_116 (by rw [ho]) (by rw [ho])
                · -- 92 not
                  refine lv_aload_n hx hb dX8_parameter_95 rfl (lv_at hl 0 rfl) ?_
                  refine lv_bipush (v := 19) hx hb dX8_parameter_96 (by decide) ?_
                  refine mu_Vi (D := D) (G := G) (mo := mo) (ad := ad) (u := (su σ 0 (0) (0), τ)) (As := [.int 19]) (rest := []) ⟨hx, hb, hml, hown, hts⟩ (m_breaks l D G mo ad (su σ 0 (0) (0)) (τ) _ (19) (by omega)) gV_X8_X8_breaks hdV_X8_breaks ⟨Nat.le_of_ble_eq_true rfl, Nat.le_of_ble_eq_true rfl⟩ hK hP hD hS hA rfl hl.1 rfl (Nat.le_of_ble_eq_true rfl) dX8_parameter_98 ⟨Nat.le_of_ble_eq_true rfl, Nat.le_of_ble_eq_true rfl⟩ (fun H locs hP hD hS => ?_)
                  have hP : va_P D vwCl (mW G mo ad (su (su (su σ 0 (0) (0)) 27 (19) (σ 27 19 + 1)) 26 (0) (σ 26 0 + 1)) (τ)) H := hP
                  have hD : va_D A (mW G mo ad (su (su (su σ 0 (0) (0)) 27 (19) (σ 27 19 + 1)) 26 (0) (σ 26 0 + 1)) (τ)) := hD
                  refine W.eq (g2 := F0 m 101 ls [.int ((-40) - nI 19)]) rfl ?_
                  have ho : oPar σ τ n k kind dd vr = ((-40) - nI 19, su (su (su σ 0 (0) (0)) 27 (19) (σ 27 19 + 1)) 26 (0) (σ 26 0 + 1), τ) := by unfold oPar; simp only [eq_false c1, eq_false c3, eq_false c4, eq_false c5, eq_true c7, eq_false c8, eq_false c9, eq_false c11, not_true, not_false_iff, not_true_eq_false, not_false_eq_true, true_or, or_true, false_or, or_false, or_self, and_self, true_and, and_true, false_and, and_false, if_true, if_false]; try rfl
                  exact mu_iret (v0 := (-40) - nI 19) (z := (su (su (su σ 0 (0) (0)) 27 (19) (σ 27 19 + 1)) 26 (0) (σ 26 0 + 1), τ)) hx hb hr hlocks hP hD hS dX8_parameter_101 (by rw [ho]) (by rw [ho])
              · -- 66 not
                have c9 : (mnE σ k) = 5 := nI_inj (by omega) (by omega) (by have h8 := c9; rw [hm.1] at h8; exact h8)
                refine lv_bipush (v := -15) hx hb dX8_parameter_69 (by decide) ?_
                have ho : oPar σ τ n k kind dd vr = ((-15), su σ 0 (0) (0), τ) := by unfold oPar; simp only [eq_false c1, eq_false c3, eq_false c4, eq_false c5, eq_true c7, eq_false c8, eq_true c9, not_true, not_false_iff, not_true_eq_false, not_false_eq_true, true_or, or_true, false_or, or_false, or_self, and_self, true_and, and_true, false_and, and_false, if_true, if_false]; try rfl
                exact mu_iret (v0 := (-15)) (z := (su σ 0 (0) (0), τ)) hx hb hr hlocks hP hD hS dX8_parameter_71 (by rw [ho]) (by rw [ho])
            · -- 46 not
              refine lv_iload_n hx hb dX8_parameter_49 rfl (lv_at hl 2 rfl) ?_
              refine lv_if_le (tgt := 56) hx hb dX8_parameter_50 (by decide) (fun c14 => ?_) (fun c14 => ?_)
              · -- 50 taken
                refine lv_aload_n hx hb dX8_parameter_56 rfl (lv_at hl 0 rfl) ?_
                refine va_get (D := D) (ci := 8) (v := .ref ((ad 18))) (C := RX8) (T := TX8) (N := 33) hx hb hts iX8 hown hK.1 hP 0 rfl rfl 18 (by decide) (hts _ q_697) (fun _ h9 => h9) rfl dX8_parameter_57 ?_
                refine lv_aload_n hx hb dX8_parameter_60 rfl (lv_at hl 0 rfl) ?_
                refine va_get (D := D) (ci := 8) (v := .int (σ 7 0)) (C := RX8) (T := TX8) (N := 33) hx hb hts iX8 hown hK.1 hP 0 rfl rfl 7 (by decide) (hts _ q_686) (fun _ h9 => h9) rfl dX8_parameter_61 ?_
                refine iald_n (f := σ 18) hx hb hK.1 hP 16 0 rfl rfl (k) h7 (by omega) (by decide) dX8_parameter_64 ?_
                refine lv_iconst (v := 5) hx hb dX8_parameter_65 (by decide) ?_
                refine lv_icmp_ne (tgt := 72) hx hb dX8_parameter_66 (by decide) (fun c15 => ?_) (fun c15 => ?_)
                · -- 66 taken
                  have c15 : ¬ (mnE σ k) = 5 := fun h9 => c15 (by first | (rw [hm.1, h9]; done) | (rw [hm.1, h9]; rfl))
                  refine lv_iload_n hx hb dX8_parameter_72 rfl (lv_at hl 1 rfl) ?_
                  refine lv_if_ne (tgt := 83) hx hb dX8_parameter_73 (by decide) (fun hh => absurd c8 hh) (fun hh => ?_)
                  refine lv_aload_n hx hb dX8_parameter_76 rfl (lv_at hl 0 rfl) ?_
                  refine lv_bipush (v := 18) hx hb dX8_parameter_77 (by decide) ?_
                  refine mu_Vi (D := D) (G := G) (mo := mo) (ad := ad) (u := (su σ 0 (0) (0), τ)) (As := [.int 18]) (rest := []) ⟨hx, hb, hml, hown, hts⟩ (m_breaks l D G mo ad (su σ 0 (0) (0)) (τ) _ (18) (by omega)) gV_X8_X8_breaks hdV_X8_breaks ⟨Nat.le_of_ble_eq_true rfl, Nat.le_of_ble_eq_true rfl⟩ hK hP hD hS hA rfl hl.1 rfl (Nat.le_of_ble_eq_true rfl) dX8_parameter_79 ⟨Nat.le_of_ble_eq_true rfl, Nat.le_of_ble_eq_true rfl⟩ (fun H locs hP hD hS => ?_)
                  have hP : va_P D vwCl (mW G mo ad (su (su (su σ 0 (0) (0)) 27 (18) (σ 27 18 + 1)) 26 (0) (σ 26 0 + 1)) (τ)) H := hP
                  have hD : va_D A (mW G mo ad (su (su (su σ 0 (0) (0)) 27 (18) (σ 27 18 + 1)) 26 (0) (σ 26 0 + 1)) (τ)) := hD
                  refine W.eq (g2 := F0 m 82 ls [.int ((-40) - nI 18)]) rfl ?_
                  have ho : oPar σ τ n k kind dd vr = ((-40) - nI 18, su (su (su σ 0 (0) (0)) 27 (18) (σ 27 18 + 1)) 26 (0) (σ 26 0 + 1), τ) := by unfold oPar; simp only [eq_false c1, eq_false c3, eq_false c4, eq_false c5, eq_true c7, eq_true c8, eq_true c14, eq_false c15, not_true, not_false_iff, not_true_eq_false, not_false_eq_true, true_or, or_true, false_or, or_false, or_self, and_self, true_and, and_true, false_and, and_false, if_true, if_false]; try rfl
                  exact mu_iret (v0 := (-40) - nI 18) (z := (su (su (su σ 0 (0) (0)) 27 (18) (σ 27 18 + 1)) 26 (0) (σ 26 0 + 1), τ)) hx hb hr hlocks hP hD hS dX8_parameter_82 (by rw [ho]) (by rw [ho])
                · -- 66 not
                  have c15 : (mnE σ k) = 5 := nI_inj (by omega) (by omega) (by have h8 := c15; rw [hm.1] at h8; exact h8)
                  refine lv_bipush (v := -15) hx hb dX8_parameter_69 (by decide) ?_
                  have ho : oPar σ τ n k kind dd vr = ((-15), su σ 0 (0) (0), τ) := by unfold oPar; simp only [eq_false c1, eq_false c3, eq_false c4, eq_false c5, eq_true c7, eq_true c8, eq_true c14, eq_true c15, not_true, not_false_iff, not_true_eq_false, not_false_eq_true, true_or, or_true, false_or, or_false, or_self, and_self, true_and, and_true, false_and, and_false, if_true, if_false]; try rfl
                  exact mu_iret (v0 := (-15)) (z := (su σ 0 (0) (0), τ)) hx hb hr hlocks hP hD hS dX8_parameter_71 (by rw [ho]) (by rw [ho])
              · -- 50 not
                refine lv_bipush (v := -13) hx hb dX8_parameter_53 (by decide) ?_
                have ho : oPar σ τ n k kind dd vr = ((-13), su σ 0 (0) (0), τ) := by unfold oPar; simp only [eq_false c1, eq_false c3, eq_false c4, eq_false c5, eq_true c7, eq_true c8, eq_false c14, not_true, not_false_iff, not_true_eq_false, not_false_eq_true, true_or, or_true, false_or, or_false, or_self, and_self, true_and, and_true, false_and, and_false, if_true, if_false]; try rfl
                exact mu_iret (v0 := (-13)) (z := (su σ 0 (0) (0), τ)) hx hb hr hlocks hP hD hS dX8_parameter_55 (by rw [ho]) (by rw [ho])
    · -- 20 not
      have c3 := bI_1 c3
      refine lv_bipush (v := -11) hx hb dX8_parameter_23 (by decide) ?_
      have ho : oPar σ τ n k kind dd vr = ((-11), su σ 0 (0) (0), τ) := by unfold oPar; simp only [eq_false c1, eq_true c3, not_true, not_false_iff, not_true_eq_false, not_false_eq_true, true_or, or_true, false_or, or_false, or_self, and_self, true_and, and_true, false_and, and_false, if_true, if_false]; try rfl
      exact mu_iret (v0 := (-11)) (z := (su σ 0 (0) (0), τ)) hx hb hr hlocks hP hD hS dX8_parameter_25 (by rw [ho]) (by rw [ho])
  · -- 9 not
    refine lv_bipush (v := -14) hx hb dX8_parameter_12 (by decide) ?_
    have ho : oPar σ τ n k kind dd vr = ((-14), su σ 0 (0) (0), τ) := by unfold oPar; simp only [eq_true c1, not_true, not_false_iff, not_true_eq_false, not_false_eq_true, true_or, or_true, false_or, or_false, or_self, and_self, true_and, and_true, false_and, and_false, if_true, if_false]; try rfl
    exact mu_iret (v0 := (-14)) (z := (su σ 0 (0) (0), τ)) hx hb hr hlocks hP hD hS dX8_parameter_14 (by rw [ho]) (by rw [ho])
set_option maxHeartbeats 4000000 in
set_option maxRecDepth 100000 in
theorem m_parameterOf (l : Launch) (D : va_G) (G : Nat → ClassId) (mo : Nat) (ad : Nat → Nat) (σ : MS) (τ : Nat → Int64) (sz : Nat) (k : Nat) (h7 : σ 7 0 = nI k) (hk60 : k ≤ 60) (hmo : ∀ i, i < k → okM σ i) (en : Int32) (ii : Int32) (dm : Int32) : Met l yX8_parameterOf (ww yX8_parameterOf cX8_parameterOf 4 (some .int)) (rmD 2) (muP D G sz mo ad (σ, τ) [.ref mo, .int en, .int ii, .int dm]) (muQi D G mo ad (muA G mo ad (σ, τ) sz) (oParOf σ τ k en ii dm).1 (oParOf σ τ k en ii dm).2) 0 0 (muA G mo ad (σ, τ) sz) := by
  refine Met.ofW (cc := cX8_parameterOf) (maxL := 4) (ret := (some .int)) (by decide) rfl ?_
  intro p e s m args below meth c s₁ B hml hv
  obtain ⟨rfl, hsz, hP, hK, hD0⟩ := hv
  have hx := B.exec
  have hb := B.bytes
  have hr := B.returns
  have hts : ∀ w ∈ TT, w.before _ s = true := fun w h => atoms_spec (ws := ww yX8_parameterOf cX8_parameterOf 4 (some .int)) B.pre w (List.mem_cons_of_mem _ h)
  have hown : s.vm.findClass RX8 = some m.cls := findClass_of_methodNamed B.named
  have hlocks := B.notSynchronized
  subst hsz
  have hD : va_D (muA G mo ad (σ, τ) s.heap.size) (mW G mo ad σ τ) := hD0.self
  generalize hAe : muA G mo ad (σ, τ) s.heap.size = A at hD ⊢
  have hA : ∀ q : Nat, s.heap.size ≤ q → A q := fun q h => by rw [← hAe]; exact Or.inr h
  have hS : va_S A s.heap s.heap [] := va_S.rf
  have hP : va_P D vwCl (mW G mo ad σ τ) s.heap := hP
  have hl := lv_entry ([.ref mo, .int en, .int ii, .int dm]) (n := 4) (Nat.le_of_ble_eq_true rfl)
  rw [lg_entry_eq]
  generalize (lg_sl ([.ref mo, .int en, .int ii, .int dm]) ++ List.replicate (4 - (lg_sl ([.ref mo, .int en, .int ii, .int dm])).length) Slot.unset).toArray = ls at hl ⊢
  have hl : lv_has ls 4 [(0, .ref mo), (1, .int en), (2, .int ii), (3, .int dm)] := hl
  refine lv_aload_n hx hb dX8_parameterOf_0 rfl (lv_at hl 0 rfl) ?_
  refine lv_aload_n hx hb dX8_parameterOf_1 rfl (lv_at hl 0 rfl) ?_
  refine lv_iload_n hx hb dX8_parameterOf_2 rfl (lv_at hl 1 rfl) ?_
  refine ro_Vi (D := D) (G := G) (As := [.int en]) (rest := [.ref mo]) ⟨hx, hb, hml, hown, hts⟩ (m_isEntry l D G _ mo ad _ _ hP k h7 hk60 en) gV_X8_X8_isEntry hdV_X8_isEntry ⟨Nat.le_of_ble_eq_true rfl, Nat.le_of_ble_eq_true rfl⟩ hK (va_recv hK.1 hP (ci := 8) (q0 := 0) rfl rfl) rfl hl.1 rfl (Nat.le_of_ble_eq_true rfl) dX8_parameterOf_3 ⟨Nat.le_of_ble_eq_true rfl, Nat.le_of_ble_eq_true rfl⟩ (fun r1 e_r1 => ?_)
  subst e_r1
  refine W.eq (g2 := F0 m 6 ls [.int (bI (okN k en)), .ref mo]) rfl ?_
  refine lv_if_ne (tgt := 13) hx hb dX8_parameterOf_6 (by decide) (fun c2 => ?_) (fun c2 => ?_)
  · -- 6 taken
    have c2 := bI_1 c2
    obtain ⟨j3, h_j3, rfl⟩ := okN_ex (by omega) c2
    have hm := hmo j3 h_j3
    refine lv_aload_n hx hb dX8_parameterOf_13 rfl (lv_at hl 0 rfl) ?_
    refine va_get (D := D) (ci := 8) (v := .ref ((ad 8))) (C := RX8) (T := TX8) (N := 33) hx hb hts iX8 hown hK.1 hP 0 rfl rfl 8 (by decide) (hts _ q_687) (fun _ h9 => h9) rfl dX8_parameterOf_14 ?_
    refine lv_iload_n hx hb dX8_parameterOf_17 rfl (lv_at hl 1 rfl) ?_
    refine zald_n (f := σ 8) hx hb hK.1 hP 6 2 rfl rfl (j3) rfl (by omega) (by decide) dX8_parameterOf_18 ?_
    refine lv_if_ne (tgt := 26) hx hb dX8_parameterOf_19 (by decide) (fun c4 => ?_) (fun c4 => ?_)
    · -- 19 taken
      refine lv_iload_n hx hb dX8_parameterOf_26 rfl (lv_at hl 2 rfl) ?_
      refine lv_iconst (v := 0) hx hb dX8_parameterOf_27 (by decide) ?_
      refine lv_aload_n hx hb dX8_parameterOf_28 rfl (lv_at hl 0 rfl) ?_
      refine va_get (D := D) (ci := 8) (v := .ref ((ad 18))) (C := RX8) (T := TX8) (N := 33) hx hb hts iX8 hown hK.1 hP 0 rfl rfl 18 (by decide) (hts _ q_697) (fun _ h9 => h9) rfl dX8_parameterOf_29 ?_
      refine lv_iload_n hx hb dX8_parameterOf_32 rfl (lv_at hl 1 rfl) ?_
      refine iald_n (f := σ 18) hx hb hK.1 hP 16 0 rfl rfl (j3) rfl (by omega) (by decide) dX8_parameterOf_33 ?_
      refine lv_iconst (v := 1) hx hb dX8_parameterOf_34 (by decide) ?_
      refine lv_isub hx hb dX8_parameterOf_35 ?_
      refine ro_Si (D := D) (G := G) (As := [.int ii, .int 0, .int ((σ 18 j3) - 1)]) (rest := [.ref mo]) ⟨hx, hb, hml, hown, hts⟩ (m_in l D G _ ii 0 ((σ 18 j3) - 1)) gS_X8_X8_in hdS_X8_in ⟨Nat.le_of_ble_eq_true rfl, Nat.le_of_ble_eq_true rfl⟩ hK rfl hl.1 rfl (Nat.le_of_ble_eq_true rfl) dX8_parameterOf_36 ⟨Nat.le_of_ble_eq_true rfl, Nat.le_of_ble_eq_true rfl⟩ (fun r5 e_r5 => ?_)
      subst e_r5
      refine W.eq (g2 := F0 m 39 ls [.int (bI (0 ≤ ii ∧ ii ≤ (σ 18 j3) - 1)), .ref mo]) rfl ?_
      refine lv_if_ne (tgt := 46) hx hb dX8_parameterOf_39 (by decide) (fun c6 => ?_) (fun c6 => ?_)
      · -- 39 taken
        have c6 := bI_1 c6
        have c6 : okN (mnE σ j3) ii := (okN_iff (n := mnE σ j3) (by omega)).mp (by have h8 := c6; rw [hm.1] at h8; exact h8)
        obtain ⟨q, h_q, rfl⟩ := okN_ex (by omega) c6
        refine lv_iconst (v := 0) hx hb dX8_parameterOf_46 (by decide) ?_
        refine va_put (D := D) (ci := 8) (v := .int 0) (ty := .int) (C := RX8) (T := TX8) (N := 33) hx hb hts iX8 tyX8 tyX8_ok nmX8 hown hK.1 hP hD hS 0 rfl rfl 0 (by decide) (hts _ q_679) (fun _ h9 => h9) rfl (by decide +kernel) rfl rfl (Nat.le_of_ble_eq_true rfl) dX8_parameterOf_47 (fun H locs hP hD hS => ?_)
        have hP : va_P D vwCl (mW G mo ad (su σ 0 (0) (0)) (τ)) H := hP
        have hD : va_D A (mW G mo ad (su σ 0 (0) (0)) (τ)) := hD
        refine lv_aload_n hx hb dX8_parameterOf_50 rfl (lv_at hl 0 rfl) ?_
        refine va_get (D := D) (ci := 8) (v := .int 0) (C := RX8) (T := TX8) (N := 33) hx hb hts iX8 hown hK.1 hP 0 rfl rfl 0 (by decide) (hts _ q_679) (fun _ h9 => h9) rfl dX8_parameterOf_51 ?_
        refine lv_if_le (tgt := 61) hx hb dX8_parameterOf_54 (by decide) (fun hh => ?_) (fun hh => absurd (by decide) hh)
        refine lv_iload_n hx hb dX8_parameterOf_61 rfl (lv_at hl 3 rfl) ?_
        refine lv_if_eq (tgt := 78) hx hb dX8_parameterOf_62 (by decide) (fun c7 => ?_) (fun c7 => ?_)
        · -- 62 taken
          refine lv_aload_n hx hb dX8_parameterOf_78 rfl (lv_at hl 0 rfl) ?_
          refine va_get (D := D) (ci := 8) (v := .ref ((ad 19))) (C := RX8) (T := TX8) (N := 33) hx hb hts iX8 hown hK.1 hP 0 rfl rfl 19 (by decide) (hts _ q_698) (fun _ h9 => h9) rfl dX8_parameterOf_79 ?_
          refine lv_iconst (v := 5) hx hb dX8_parameterOf_82 (by decide) ?_
          refine lv_iload_n hx hb dX8_parameterOf_83 rfl (lv_at hl 1 rfl) ?_
          refine lv_imul hx hb dX8_parameterOf_84 ?_
          refine lv_iload_n hx hb dX8_parameterOf_85 rfl (lv_at hl 2 rfl) ?_
          refine lv_iadd hx hb dX8_parameterOf_86 ?_
          refine iald_n (f := σ 19) hx hb hK.1 hP 17 0 rfl rfl (((5 * j3) + q)) (n_add (a := (5 * j3)) (b := q) (n_mul (a := 5) (b := j3) (rfl : (5 : Int32) = nI 5) rfl) rfl) (by omega) (by decide) dX8_parameterOf_87 ?_
          have ho : oParOf σ τ k (nI j3) (nI q) dm = (σ 19 (((5 * j3) + q)), su σ 0 (0) (0), τ) := by unfold oParOf; simp only [eq_true c2, eq_false c4, eq_true c6, eq_true c7, nI_clamp (show j3 < 2 ^ 31 by omega), nI_clamp (show q < 2 ^ 31 by omega), not_true, not_false_iff, not_true_eq_false, not_false_eq_true, true_or, or_true, false_or, or_false, or_self, and_self, true_and, and_true, false_and, and_false, if_true, if_false]; try rfl
          exact mu_iret (v0 := σ 19 (((5 * j3) + q))) (z := (su σ 0 (0) (0), τ)) hx hb hr hlocks hP hD hS dX8_parameterOf_88 (by rw [ho]) (by rw [ho])
        · -- 62 not
          refine lv_aload_n hx hb dX8_parameterOf_65 rfl (lv_at hl 0 rfl) ?_
          refine va_get (D := D) (ci := 8) (v := .ref ((ad 20))) (C := RX8) (T := TX8) (N := 33) hx hb hts iX8 hown hK.1 hP 0 rfl rfl 20 (by decide) (hts _ q_699) (fun _ h9 => h9) rfl dX8_parameterOf_66 ?_
          refine lv_iconst (v := 5) hx hb dX8_parameterOf_69 (by decide) ?_
          refine lv_iload_n hx hb dX8_parameterOf_70 rfl (lv_at hl 1 rfl) ?_
          refine lv_imul hx hb dX8_parameterOf_71 ?_
          refine lv_iload_n hx hb dX8_parameterOf_72 rfl (lv_at hl 2 rfl) ?_
          refine lv_iadd hx hb dX8_parameterOf_73 ?_
          refine iald_n (f := σ 20) hx hb hK.1 hP 18 0 rfl rfl (((5 * j3) + q)) (n_add (a := (5 * j3)) (b := q) (n_mul (a := 5) (b := j3) (rfl : (5 : Int32) = nI 5) rfl) rfl) (by omega) (by decide) dX8_parameterOf_74 ?_
          refine lv_goto (tgt := 88) hx hb dX8_parameterOf_75 (by decide) ?_
          have ho : oParOf σ τ k (nI j3) (nI q) dm = (σ 20 (((5 * j3) + q)), su σ 0 (0) (0), τ) := by unfold oParOf; simp only [eq_true c2, eq_false c4, eq_true c6, eq_false c7, nI_clamp (show j3 < 2 ^ 31 by omega), nI_clamp (show q < 2 ^ 31 by omega), not_true, not_false_iff, not_true_eq_false, not_false_eq_true, true_or, or_true, false_or, or_false, or_self, and_self, true_and, and_true, false_and, and_false, if_true, if_false]; try rfl
          exact mu_iret (v0 := σ 20 (((5 * j3) + q))) (z := (su σ 0 (0) (0), τ)) hx hb hr hlocks hP hD hS dX8_parameterOf_88 (by rw [ho]) (by rw [ho])
      · -- 39 not
        have c6 := bI_0 c6
        have c6 : ¬ okN (mnE σ j3) ii := fun h9 => c6 (by rw [hm.1]; exact (okN_iff (by omega)).mpr h9)
        refine lv_iconst (v := 2) hx hb dX8_parameterOf_42 (by decide) ?_
        refine lv_goto (tgt := 47) hx hb dX8_parameterOf_43 (by decide) ?_
        refine va_put (D := D) (ci := 8) (v := .int 2) (ty := .int) (C := RX8) (T := TX8) (N := 33) hx hb hts iX8 tyX8 tyX8_ok nmX8 hown hK.1 hP hD hS 0 rfl rfl 0 (by decide) (hts _ q_679) (fun _ h9 => h9) rfl (by decide +kernel) rfl rfl (Nat.le_of_ble_eq_true rfl) dX8_parameterOf_47 (fun H locs hP hD hS => ?_)
        have hP : va_P D vwCl (mW G mo ad (su σ 0 (0) (2)) (τ)) H := hP
        have hD : va_D A (mW G mo ad (su σ 0 (0) (2)) (τ)) := hD
        refine lv_aload_n hx hb dX8_parameterOf_50 rfl (lv_at hl 0 rfl) ?_
        refine va_get (D := D) (ci := 8) (v := .int 2) (C := RX8) (T := TX8) (N := 33) hx hb hts iX8 hown hK.1 hP 0 rfl rfl 0 (by decide) (hts _ q_679) (fun _ h9 => h9) rfl dX8_parameterOf_51 ?_
        refine lv_if_le (tgt := 61) hx hb dX8_parameterOf_54 (by decide) (fun hh => absurd hh (by decide)) (fun hh => ?_)
        refine lv_iconst (v := 0) hx hb dX8_parameterOf_57 (by decide) ?_
        refine lv_goto (tgt := 88) hx hb dX8_parameterOf_58 (by decide) ?_
        have ho : oParOf σ τ k (nI j3) ii dm = (0, su σ 0 (0) (2), τ) := by unfold oParOf; simp only [eq_true c2, eq_false c4, eq_false c6, nI_clamp (show j3 < 2 ^ 31 by omega), not_true, not_false_iff, not_true_eq_false, not_false_eq_true, true_or, or_true, false_or, or_false, or_self, and_self, true_and, and_true, false_and, and_false, if_true, if_false]; try rfl
        exact mu_iret (v0 := 0) (z := (su σ 0 (0) (2), τ)) hx hb hr hlocks hP hD hS dX8_parameterOf_88 (by rw [ho]) (by rw [ho])
    · -- 19 not
      refine lv_iconst (v := 1) hx hb dX8_parameterOf_22 (by decide) ?_
      refine lv_goto (tgt := 47) hx hb dX8_parameterOf_23 (by decide) ?_
      refine va_put (D := D) (ci := 8) (v := .int 1) (ty := .int) (C := RX8) (T := TX8) (N := 33) hx hb hts iX8 tyX8 tyX8_ok nmX8 hown hK.1 hP hD hS 0 rfl rfl 0 (by decide) (hts _ q_679) (fun _ h9 => h9) rfl (by decide +kernel) rfl rfl (Nat.le_of_ble_eq_true rfl) dX8_parameterOf_47 (fun H locs hP hD hS => ?_)
      have hP : va_P D vwCl (mW G mo ad (su σ 0 (0) (1)) (τ)) H := hP
      have hD : va_D A (mW G mo ad (su σ 0 (0) (1)) (τ)) := hD
      refine lv_aload_n hx hb dX8_parameterOf_50 rfl (lv_at hl 0 rfl) ?_
      refine va_get (D := D) (ci := 8) (v := .int 1) (C := RX8) (T := TX8) (N := 33) hx hb hts iX8 hown hK.1 hP 0 rfl rfl 0 (by decide) (hts _ q_679) (fun _ h9 => h9) rfl dX8_parameterOf_51 ?_
      refine lv_if_le (tgt := 61) hx hb dX8_parameterOf_54 (by decide) (fun hh => absurd hh (by decide)) (fun hh => ?_)
      refine lv_iconst (v := 0) hx hb dX8_parameterOf_57 (by decide) ?_
      refine lv_goto (tgt := 88) hx hb dX8_parameterOf_58 (by decide) ?_
      have ho : oParOf σ τ k (nI j3) ii dm = (0, su σ 0 (0) (1), τ) := by unfold oParOf; simp only [eq_true c2, eq_true c4, nI_clamp (show j3 < 2 ^ 31 by omega), not_true, not_false_iff, not_true_eq_false, not_false_eq_true, true_or, or_true, false_or, or_false, or_self, and_self, true_and, and_true, false_and, and_false, if_true, if_false]; try rfl
      exact mu_iret (v0 := 0) (z := (su σ 0 (0) (1), τ)) hx hb hr hlocks hP hD hS dX8_parameterOf_88 (by rw [ho]) (by rw [ho])
  · -- 6 not
    have c2 := bI_0 c2
    refine lv_iconst (v := 2) hx hb dX8_parameterOf_9 (by decide) ?_
    refine lv_goto (tgt := 47) hx hb dX8_parameterOf_10 (by decide) ?_
    refine va_put (D := D) (ci := 8) (v := .int 2) (ty := .int) (C := RX8) (T := TX8) (N := 33) hx hb hts iX8 tyX8 tyX8_ok nmX8 hown hK.1 hP hD hS 0 rfl rfl 0 (by decide) (hts _ q_679) (fun _ h9 => h9) rfl (by decide +kernel) rfl rfl (Nat.le_of_ble_eq_true rfl) dX8_parameterOf_47 (fun H locs hP hD hS => ?_)
    have hP : va_P D vwCl (mW G mo ad (su σ 0 (0) (2)) (τ)) H := hP
    have hD : va_D A (mW G mo ad (su σ 0 (0) (2)) (τ)) := hD
    refine lv_aload_n hx hb dX8_parameterOf_50 rfl (lv_at hl 0 rfl) ?_
    refine va_get (D := D) (ci := 8) (v := .int 2) (C := RX8) (T := TX8) (N := 33) hx hb hts iX8 hown hK.1 hP 0 rfl rfl 0 (by decide) (hts _ q_679) (fun _ h9 => h9) rfl dX8_parameterOf_51 ?_
    refine lv_if_le (tgt := 61) hx hb dX8_parameterOf_54 (by decide) (fun hh => absurd hh (by decide)) (fun hh => ?_)
    refine lv_iconst (v := 0) hx hb dX8_parameterOf_57 (by decide) ?_
    refine lv_goto (tgt := 88) hx hb dX8_parameterOf_58 (by decide) ?_
    have ho : oParOf σ τ k en ii dm = (0, su σ 0 (0) (2), τ) := by unfold oParOf; simp only [eq_false c2, not_true, not_false_iff, not_true_eq_false, not_false_eq_true, true_or, or_true, false_or, or_false, or_self, and_self, true_and, and_true, false_and, and_false, if_true, if_false]; try rfl
    exact mu_iret (v0 := 0) (z := (su σ 0 (0) (2), τ)) hx hb hr hlocks hP hD hS dX8_parameterOf_88 (by rw [ho]) (by rw [ho])
set_option maxHeartbeats 4000000 in
set_option maxRecDepth 100000 in
theorem m_lacks (l : Launch) (D : va_G) (G : Nat → ClassId) (mo : Nat) (ad : Nat → Nat) (σ : MS) (τ : Nat → Int64) (sz : Nat) (n : Nat) (h1 : σ 1 0 = nI n) (hn : n ≤ 12) (k : Nat) (h7 : σ 7 0 = nI k) (hk60 : k ≤ 60) (heo : ∀ i, i < k → okE σ i) (hmo : ∀ i, i < k → okM σ i) (t : Int32) (ii : Int32) (hb6 : ∀ i, σ 6 i = 0 ∨ σ 6 i = 1) : Met l yX8_lacks (ww yX8_lacks cX8_lacks 5 (some .int)) (rmD 3) (muP D G sz mo ad (σ, τ) [.ref mo, .int t, .int ii]) (muQi D G mo ad (muA G mo ad (σ, τ) sz) (oLacks σ τ n k t ii).1 (oLacks σ τ n k t ii).2) 0 0 (muA G mo ad (σ, τ) sz) := by
  refine Met.ofW (cc := cX8_lacks) (maxL := 5) (ret := (some .int)) (by decide) rfl ?_
  intro p e s m args below meth c s₁ B hml hv
  obtain ⟨rfl, hsz, hP, hK, hD0⟩ := hv
  have hx := B.exec
  have hb := B.bytes
  have hr := B.returns
  have hts : ∀ w ∈ TT, w.before _ s = true := fun w h => atoms_spec (ws := ww yX8_lacks cX8_lacks 5 (some .int)) B.pre w (List.mem_cons_of_mem _ h)
  have hown : s.vm.findClass RX8 = some m.cls := findClass_of_methodNamed B.named
  have hlocks := B.notSynchronized
  subst hsz
  have hD : va_D (muA G mo ad (σ, τ) s.heap.size) (mW G mo ad σ τ) := hD0.self
  generalize hAe : muA G mo ad (σ, τ) s.heap.size = A at hD ⊢
  have hA : ∀ q : Nat, s.heap.size ≤ q → A q := fun q h => by rw [← hAe]; exact Or.inr h
  have hS : va_S A s.heap s.heap [] := va_S.rf
  have hP : va_P D vwCl (mW G mo ad σ τ) s.heap := hP
  have hl := lv_entry ([.ref mo, .int t, .int ii]) (n := 5) (Nat.le_of_ble_eq_true rfl)
  rw [lg_entry_eq]
  generalize (lg_sl ([.ref mo, .int t, .int ii]) ++ List.replicate (5 - (lg_sl ([.ref mo, .int t, .int ii])).length) Slot.unset).toArray = ls at hl ⊢
  have hl : lv_has ls 5 [(0, .ref mo), (1, .int t), (2, .int ii)] := hl
  refine lv_aload_n hx hb dX8_lacks_0 rfl (lv_at hl 0 rfl) ?_
  refine lv_iconst (v := 0) hx hb dX8_lacks_1 (by decide) ?_
  refine va_put (D := D) (ci := 8) (v := .int 0) (ty := .int) (C := RX8) (T := TX8) (N := 33) hx hb hts iX8 tyX8 tyX8_ok nmX8 hown hK.1 hP hD hS 0 rfl rfl 0 (by decide) (hts _ q_679) (fun _ h9 => h9) rfl (by decide +kernel) rfl rfl (Nat.le_of_ble_eq_true rfl) dX8_lacks_2 (fun H locs hP hD hS => ?_)
  have hP : va_P D vwCl (mW G mo ad (su σ 0 (0) (0)) (τ)) H := hP
  have hD : va_D A (mW G mo ad (su σ 0 (0) (0)) (τ)) := hD
  refine lv_aload_n hx hb dX8_lacks_5 rfl (lv_at hl 0 rfl) ?_
  refine lv_iload_n hx hb dX8_lacks_6 rfl (lv_at hl 1 rfl) ?_
  refine ro_Vi (D := D) (G := G) (As := [.int t]) (rest := []) ⟨hx, hb, hml, hown, hts⟩ (m_isType l D G _ mo ad _ _ hP n h1 hn t) gV_X8_X8_isType hdV_X8_isType ⟨Nat.le_of_ble_eq_true rfl, Nat.le_of_ble_eq_true rfl⟩ hK (va_recv hK.1 hP (ci := 8) (q0 := 0) rfl rfl) rfl hl.1 rfl (Nat.le_of_ble_eq_true rfl) dX8_lacks_7 ⟨Nat.le_of_ble_eq_true rfl, Nat.le_of_ble_eq_true rfl⟩ (fun r1 e_r1 => ?_)
  subst e_r1
  refine W.eq (g2 := F0 m 10 ls [.int (bI (okN n t))]) rfl ?_
  refine lv_if_ne (tgt := 16) hx hb dX8_lacks_10 (by decide) (fun c2 => ?_) (fun c2 => ?_)
  · -- 10 taken
    have c2 := bI_1 c2
    obtain ⟨j3, h_j3, rfl⟩ := okN_ex (by omega) c2
    refine lv_iload_n hx hb dX8_lacks_16 rfl (lv_at hl 2 rfl) ?_
    refine lv_istore_n (lv' := [(3, .int ii), (0, .ref mo), (1, .int (nI j3)), (2, .int ii)]) hx hb dX8_lacks_17 rfl hl (by decide) rfl (fun ls hl => ?_)
    refine lv_iconst (v := 0) hx hb dX8_lacks_18 (by decide) ?_
    refine lv_istore (lv' := [(4, .int 0), (3, .int ii), (0, .ref mo), (1, .int (nI j3)), (2, .int ii)]) hx hb dX8_lacks_19 hl (by decide) rfl (fun ls hl => ?_)
    refine w_for (N := k) 21 (L := fun q9 ls => ∃ lf : Int32, lv_has ls 5 [(4, .int (nI q9)), (3, .int lf), (0, .ref mo), (1, .int (nI j3)), (2, .int ii)] ∧ lkG σ j3 k ii k 0 ii = lkG σ j3 k ii (k - q9) q9 lf) (fun k9 ls hk hL ih => ?_) 0 ls (Nat.zero_le _) ⟨ii, hl, by rw [Nat.sub_zero]⟩
    obtain ⟨lf, hl, hi⟩ := hL
    have hl : lv_has ls 5 [(4, .int (nI k9)), (3, .int lf), (0, .ref mo), (1, .int (nI j3)), (2, .int ii)] := hl
    refine lv_iload hx hb dX8_lacks_21 (lv_at hl 0 rfl) ?_
    refine lv_aload_n hx hb dX8_lacks_23 rfl (lv_at hl 2 rfl) ?_
    refine va_get (D := D) (ci := 8) (v := .int (σ 7 0)) (C := RX8) (T := TX8) (N := 33) hx hb hts iX8 hown hK.1 hP 0 rfl rfl 7 (by decide) (hts _ q_686) (fun _ h9 => h9) rfl dX8_lacks_24 ?_
    refine lv_icmp_ge (tgt := 79) hx hb dX8_lacks_27 (by decide) (fun c4 => ?_) (fun c4 => ?_)
    · -- 27 taken
      have c4 : k ≤ k9 := (nI_leI (a := k) (b := k9) (by omega) (by omega)).mp (by have h8 := c4; rw [h7] at h8; exact h8)
      refine lv_iconst (v := -1) hx hb dX8_lacks_79 (by decide) ?_
      have ho : oLacks σ τ n k (nI j3) ii = ((-1), su σ 0 (0) (0), τ) := by unfold oLacks; simp only [eq_true c2, nI_clamp (show j3 < 2 ^ 31 by omega), not_true, not_false_iff, not_true_eq_false, not_false_eq_true, true_or, or_true, false_or, or_false, or_self, and_self, true_and, and_true, false_and, and_false, if_true, if_false]; rw [hi, show k - k9 = 0 by omega]; rfl
      exact mu_iret (v0 := (-1)) (z := (su σ 0 (0) (0), τ)) hx hb hr hlocks hP hD hS dX8_lacks_80 (by rw [ho]) (by rw [ho])
    · -- 27 not
      have c4 : ¬ k ≤ k9 := fun h9 => c4 (by rw [h7]; exact (nI_leI (a := k) (b := k9) (by omega) (by omega)).mpr h9)
      refine lv_iload_n hx hb dX8_lacks_30 rfl (lv_at hl 4 rfl) ?_
      refine lv_if_lt (tgt := 79) hx hb dX8_lacks_31 (by decide) (fun c5 => ?_) (fun c5 => ?_)
      · -- 31 taken
        refine lv_iconst (v := -1) hx hb dX8_lacks_79 (by decide) ?_
        have ho : oLacks σ τ n k (nI j3) ii = ((-1), su σ 0 (0) (0), τ) := by unfold oLacks; simp only [eq_true c2, nI_clamp (show j3 < 2 ^ 31 by omega), not_true, not_false_iff, not_true_eq_false, not_false_eq_true, true_or, or_true, false_or, or_false, or_self, and_self, true_and, and_true, false_and, and_false, if_true, if_false]; rw [hi, lkG_u (by omega)]; simp only [eq_true c5, not_true, not_false_iff, not_true_eq_false, not_false_eq_true, true_or, or_true, false_or, or_false, or_self, and_self, true_and, and_true, false_and, and_false, if_true, if_false]
        exact mu_iret (v0 := (-1)) (z := (su σ 0 (0) (0), τ)) hx hb hr hlocks hP hD hS dX8_lacks_80 (by rw [ho]) (by rw [ho])
      · -- 31 not
        refine lv_aload_n hx hb dX8_lacks_34 rfl (lv_at hl 2 rfl) ?_
        refine va_get (D := D) (ci := 8) (v := .ref ((ad 2))) (C := RX8) (T := TX8) (N := 33) hx hb hts iX8 hown hK.1 hP 0 rfl rfl 2 (by decide) (hts _ q_681) (fun _ h9 => h9) rfl dX8_lacks_35 ?_
        refine lv_iload_n hx hb dX8_lacks_38 rfl (lv_at hl 3 rfl) ?_
        refine iald_n (f := σ 2) hx hb hK.1 hP 1 0 rfl rfl (j3) rfl (by omega) (by decide) dX8_lacks_39 ?_
        refine lv_if_eq (tgt := 53) hx hb dX8_lacks_40 (by decide) (fun c6 => ?_) (fun c6 => ?_)
        · -- 40 taken
          refine lv_aload_n hx hb dX8_lacks_53 rfl (lv_at hl 2 rfl) ?_
          refine lv_iload_n hx hb dX8_lacks_54 rfl (lv_at hl 3 rfl) ?_
          refine lv_iload hx hb dX8_lacks_55 (lv_at hl 0 rfl) ?_
          refine ro_Vi (D := D) (G := G) (As := [.int (nI j3), .int (nI k9)]) (rest := []) ⟨hx, hb, hml, hown, hts⟩ (m_isLacked l D G _ mo ad _ _ hP k h7 hk60 (j3) (k9) (by omega) (by omega) (heo _ (by omega)) heo hmo hb6) gV_X8_X8_isLacked hdV_X8_isLacked ⟨Nat.le_of_ble_eq_true rfl, Nat.le_of_ble_eq_true rfl⟩ hK (va_recv hK.1 hP (ci := 8) (q0 := 0) rfl rfl) rfl hl.1 rfl (Nat.le_of_ble_eq_true rfl) dX8_lacks_57 ⟨Nat.le_of_ble_eq_true rfl, Nat.le_of_ble_eq_true rfl⟩ (fun r7 e_r7 => ?_)
          subst e_r7
          refine W.eq (g2 := F0 m 60 ls [.int (bI (lkN σ j3 k9 k))]) rfl ?_
          refine lv_if_eq (tgt := 73) hx hb dX8_lacks_60 (by decide) (fun c8 => ?_) (fun c8 => ?_)
          · -- 60 taken
            have c8 := bI_0 c8
            refine lv_iinc (v := nI (k9 + 1)) (lv' := [(4, .int (nI (k9 + 1))), (3, .int lf), (0, .ref mo), (1, .int (nI j3)), (2, .int ii)]) hx hb dX8_lacks_73 hl (k := 0) rfl (nI_1 _) (by decide) rfl (fun ls hl => ?_)
            refine lv_goto (tgt := 21) hx hb dX8_lacks_76 (by decide) ?_
            rw [lkG_u (by omega)] at hi
            simp only [eq_false c5, eq_true c6, eq_false c8, not_true, not_false_iff, not_true_eq_false, not_false_eq_true, true_or, or_true, false_or, or_false, or_self, and_self, true_and, and_true, false_and, and_false, if_true, if_false] at hi
            exact ih _ (by omega) ⟨lf, lv_sub hl [0, 1, 2, 3, 4] rfl, hi⟩
          · -- 60 not
            have c8 := bI_1 c8
            refine lv_iload_n hx hb dX8_lacks_63 rfl (lv_at hl 1 rfl) ?_
            refine lv_if_ne (tgt := 70) hx hb dX8_lacks_64 (by decide) (fun c9 => ?_) (fun c9 => ?_)
            · -- 64 taken
              refine lv_iinc (v := lf + (-1)) (lv' := [(3, .int (lf + (-1))), (4, .int (nI k9)), (0, .ref mo), (1, .int (nI j3)), (2, .int ii)]) hx hb dX8_lacks_70 hl (k := 1) rfl (rfl) (by decide) rfl (fun ls hl => ?_)
              refine lv_iinc (v := nI (k9 + 1)) (lv' := [(4, .int (nI (k9 + 1))), (3, .int (lf + (-1))), (0, .ref mo), (1, .int (nI j3)), (2, .int ii)]) hx hb dX8_lacks_73 hl (k := 1) rfl (nI_1 _) (by decide) rfl (fun ls hl => ?_)
              refine lv_goto (tgt := 21) hx hb dX8_lacks_76 (by decide) ?_
              rw [lkG_u (by omega)] at hi
              simp only [eq_false c5, eq_true c6, eq_true c8, eq_false c9, not_true, not_false_iff, not_true_eq_false, not_false_eq_true, true_or, or_true, false_or, or_false, or_self, and_self, true_and, and_true, false_and, and_false, if_true, if_false] at hi
              exact ih _ (by omega) ⟨lf + (-1), lv_sub hl [0, 1, 2, 3, 4] rfl, hi⟩
            · -- 64 not
              refine lv_iload hx hb dX8_lacks_67 (lv_at hl 0 rfl) ?_
              have ho : oLacks σ τ n k (nI j3) ii = (nI k9, su σ 0 (0) (0), τ) := by unfold oLacks; simp only [eq_true c2, nI_clamp (show j3 < 2 ^ 31 by omega), not_true, not_false_iff, not_true_eq_false, not_false_eq_true, true_or, or_true, false_or, or_false, or_self, and_self, true_and, and_true, false_and, and_false, if_true, if_false]; rw [hi, lkG_u (by omega)]; simp only [eq_false c5, eq_true c6, eq_true c8, eq_true c9, not_true, not_false_iff, not_true_eq_false, not_false_eq_true, true_or, or_true, false_or, or_false, or_self, and_self, true_and, and_true, false_and, and_false, if_true, if_false]
              exact mu_iret (v0 := nI k9) (z := (su σ 0 (0) (0), τ)) hx hb hr hlocks hP hD hS dX8_lacks_69 (by rw [ho]) (by rw [ho])
        · -- 40 not
          refine lv_aload_n hx hb dX8_lacks_43 rfl (lv_at hl 2 rfl) ?_
          refine va_get (D := D) (ci := 8) (v := .ref ((ad 2))) (C := RX8) (T := TX8) (N := 33) hx hb hts iX8 hown hK.1 hP 0 rfl rfl 2 (by decide) (hts _ q_681) (fun _ h9 => h9) rfl dX8_lacks_44 ?_
          refine lv_iload_n hx hb dX8_lacks_47 rfl (lv_at hl 3 rfl) ?_
          refine iald_n (f := σ 2) hx hb hK.1 hP 1 0 rfl rfl (j3) rfl (by omega) (by decide) dX8_lacks_48 ?_
          refine lv_iconst (v := 2) hx hb dX8_lacks_49 (by decide) ?_
          refine lv_icmp_ne (tgt := 79) hx hb dX8_lacks_50 (by decide) (fun c10 => ?_) (fun c10 => ?_)
          · -- 50 taken
            refine lv_iconst (v := -1) hx hb dX8_lacks_79 (by decide) ?_
            have ho : oLacks σ τ n k (nI j3) ii = ((-1), su σ 0 (0) (0), τ) := by unfold oLacks; simp only [eq_true c2, nI_clamp (show j3 < 2 ^ 31 by omega), not_true, not_false_iff, not_true_eq_false, not_false_eq_true, true_or, or_true, false_or, or_false, or_self, and_self, true_and, and_true, false_and, and_false, if_true, if_false]; rw [hi, lkG_u (by omega)]; simp only [eq_false c5, eq_false c6, eq_false c10, not_true, not_false_iff, not_true_eq_false, not_false_eq_true, true_or, or_true, false_or, or_false, or_self, and_self, true_and, and_true, false_and, and_false, if_true, if_false]
            exact mu_iret (v0 := (-1)) (z := (su σ 0 (0) (0), τ)) hx hb hr hlocks hP hD hS dX8_lacks_80 (by rw [ho]) (by rw [ho])
          · -- 50 not
            refine lv_aload_n hx hb dX8_lacks_53 rfl (lv_at hl 2 rfl) ?_
            refine lv_iload_n hx hb dX8_lacks_54 rfl (lv_at hl 3 rfl) ?_
            refine lv_iload hx hb dX8_lacks_55 (lv_at hl 0 rfl) ?_
            refine ro_Vi (D := D) (G := G) (As := [.int (nI j3), .int (nI k9)]) (rest := []) ⟨hx, hb, hml, hown, hts⟩ (m_isLacked l D G _ mo ad _ _ hP k h7 hk60 (j3) (k9) (by omega) (by omega) (heo _ (by omega)) heo hmo hb6) gV_X8_X8_isLacked hdV_X8_isLacked ⟨Nat.le_of_ble_eq_true rfl, Nat.le_of_ble_eq_true rfl⟩ hK (va_recv hK.1 hP (ci := 8) (q0 := 0) rfl rfl) rfl hl.1 rfl (Nat.le_of_ble_eq_true rfl) dX8_lacks_57 ⟨Nat.le_of_ble_eq_true rfl, Nat.le_of_ble_eq_true rfl⟩ (fun r11 e_r11 => ?_)
            subst e_r11
            refine W.eq (g2 := F0 m 60 ls [.int (bI (lkN σ j3 k9 k))]) rfl ?_
            refine lv_if_eq (tgt := 73) hx hb dX8_lacks_60 (by decide) (fun c12 => ?_) (fun c12 => ?_)
            · -- 60 taken
              have c12 := bI_0 c12
              refine lv_iinc (v := nI (k9 + 1)) (lv' := [(4, .int (nI (k9 + 1))), (3, .int lf), (0, .ref mo), (1, .int (nI j3)), (2, .int ii)]) hx hb dX8_lacks_73 hl (k := 0) rfl (nI_1 _) (by decide) rfl (fun ls hl => ?_)
              refine lv_goto (tgt := 21) hx hb dX8_lacks_76 (by decide) ?_
              rw [lkG_u (by omega)] at hi
              simp only [eq_false c5, eq_false c6, eq_true c10, eq_false c12, not_true, not_false_iff, not_true_eq_false, not_false_eq_true, true_or, or_true, false_or, or_false, or_self, and_self, true_and, and_true, false_and, and_false, if_true, if_false] at hi
              exact ih _ (by omega) ⟨lf, lv_sub hl [0, 1, 2, 3, 4] rfl, hi⟩
            · -- 60 not
              have c12 := bI_1 c12
              refine lv_iload_n hx hb dX8_lacks_63 rfl (lv_at hl 1 rfl) ?_
              refine lv_if_ne (tgt := 70) hx hb dX8_lacks_64 (by decide) (fun c13 => ?_) (fun c13 => ?_)
              · -- 64 taken
                refine lv_iinc (v := lf + (-1)) (lv' := [(3, .int (lf + (-1))), (4, .int (nI k9)), (0, .ref mo), (1, .int (nI j3)), (2, .int ii)]) hx hb dX8_lacks_70 hl (k := 1) rfl (rfl) (by decide) rfl (fun ls hl => ?_)
                refine lv_iinc (v := nI (k9 + 1)) (lv' := [(4, .int (nI (k9 + 1))), (3, .int (lf + (-1))), (0, .ref mo), (1, .int (nI j3)), (2, .int ii)]) hx hb dX8_lacks_73 hl (k := 1) rfl (nI_1 _) (by decide) rfl (fun ls hl => ?_)
                refine lv_goto (tgt := 21) hx hb dX8_lacks_76 (by decide) ?_
                rw [lkG_u (by omega)] at hi
                simp only [eq_false c5, eq_false c6, eq_true c10, eq_true c12, eq_false c13, not_true, not_false_iff, not_true_eq_false, not_false_eq_true, true_or, or_true, false_or, or_false, or_self, and_self, true_and, and_true, false_and, and_false, if_true, if_false] at hi
                exact ih _ (by omega) ⟨lf + (-1), lv_sub hl [0, 1, 2, 3, 4] rfl, hi⟩
              · -- 64 not
                refine lv_iload hx hb dX8_lacks_67 (lv_at hl 0 rfl) ?_
                have ho : oLacks σ τ n k (nI j3) ii = (nI k9, su σ 0 (0) (0), τ) := by unfold oLacks; simp only [eq_true c2, nI_clamp (show j3 < 2 ^ 31 by omega), not_true, not_false_iff, not_true_eq_false, not_false_eq_true, true_or, or_true, false_or, or_false, or_self, and_self, true_and, and_true, false_and, and_false, if_true, if_false]; rw [hi, lkG_u (by omega)]; simp only [eq_false c5, eq_false c6, eq_true c10, eq_true c12, eq_true c13, not_true, not_false_iff, not_true_eq_false, not_false_eq_true, true_or, or_true, false_or, or_false, or_self, and_self, true_and, and_true, false_and, and_false, if_true, if_false]
                exact mu_iret (v0 := nI k9) (z := (su σ 0 (0) (0), τ)) hx hb hr hlocks hP hD hS dX8_lacks_69 (by rw [ho]) (by rw [ho])
  · -- 10 not
    have c2 := bI_0 c2
    refine lv_bipush (v := -11) hx hb dX8_lacks_13 (by decide) ?_
    have ho : oLacks σ τ n k t ii = ((-11), su σ 0 (0) (0), τ) := by unfold oLacks; simp only [eq_false c2, not_true, not_false_iff, not_true_eq_false, not_false_eq_true, true_or, or_true, false_or, or_false, or_self, and_self, true_and, and_true, false_and, and_false, if_true, if_false]; try rfl
    exact mu_iret (v0 := (-11)) (z := (su σ 0 (0) (0), τ)) hx hb hr hlocks hP hD hS dX8_lacks_15 (by rw [ho]) (by rw [ho])
set_option maxHeartbeats 4000000 in
set_option maxRecDepth 100000 in
theorem m_end (l : Launch) (D : va_G) (G : Nat → ClassId) (mo : Nat) (ad : Nat → Nat) (σ : MS) (τ : Nat → Int64) (sz : Nat) (k : Nat) (h7 : σ 7 0 = nI k) (hk60 : k ≤ 60) (hk59 : ¬ σ 21 0 = 0 → k < 60) (hbg : ¬ σ 21 0 = 0 → okE σ k ∧ okM σ k ∧ kdO (σ 11 k)) (heo : ∀ i, i < k → okE σ i) (hmo : ∀ i, i < k → okM σ i) (hko : ∀ i, i < k → kdO (σ 11 i)) (hb6 : ∀ i, σ 6 i = 0 ∨ σ 6 i = 1) : Met l yX8_end (ww yX8_end cX8_end 4 (some .int)) (rmD 4) (muP D G sz mo ad (σ, τ) [.ref mo]) (muQi D G mo ad (muA G mo ad (σ, τ) sz) (oEnd σ τ k).1 (oEnd σ τ k).2) 0 0 (muA G mo ad (σ, τ) sz) := by
  refine Met.ofW (cc := cX8_end) (maxL := 4) (ret := (some .int)) (by decide) rfl ?_
  intro p e s m args below meth c s₁ B hml hv
  obtain ⟨rfl, hsz, hP, hK, hD0⟩ := hv
  have hx := B.exec
  have hb := B.bytes
  have hr := B.returns
  have hts : ∀ w ∈ TT, w.before _ s = true := fun w h => atoms_spec (ws := ww yX8_end cX8_end 4 (some .int)) B.pre w (List.mem_cons_of_mem _ h)
  have hown : s.vm.findClass RX8 = some m.cls := findClass_of_methodNamed B.named
  have hlocks := B.notSynchronized
  subst hsz
  have hD : va_D (muA G mo ad (σ, τ) s.heap.size) (mW G mo ad σ τ) := hD0.self
  generalize hAe : muA G mo ad (σ, τ) s.heap.size = A at hD ⊢
  have hA : ∀ q : Nat, s.heap.size ≤ q → A q := fun q h => by rw [← hAe]; exact Or.inr h
  have hS : va_S A s.heap s.heap [] := va_S.rf
  have hP : va_P D vwCl (mW G mo ad σ τ) s.heap := hP
  have hl := lv_entry ([.ref mo]) (n := 4) (Nat.le_of_ble_eq_true rfl)
  rw [lg_entry_eq]
  generalize (lg_sl ([.ref mo]) ++ List.replicate (4 - (lg_sl ([.ref mo])).length) Slot.unset).toArray = ls at hl ⊢
  have hl : lv_has ls 4 [(0, .ref mo)] := hl
  refine lv_aload_n hx hb dX8_end_0 rfl (lv_at hl 0 rfl) ?_
  refine lv_iconst (v := 0) hx hb dX8_end_1 (by decide) ?_
  refine va_put (D := D) (ci := 8) (v := .int 0) (ty := .int) (C := RX8) (T := TX8) (N := 33) hx hb hts iX8 tyX8 tyX8_ok nmX8 hown hK.1 hP hD hS 0 rfl rfl 0 (by decide) (hts _ q_679) (fun _ h9 => h9) rfl (by decide +kernel) rfl rfl (Nat.le_of_ble_eq_true rfl) dX8_end_2 (fun H locs hP hD hS => ?_)
  have hP : va_P D vwCl (mW G mo ad (su σ 0 (0) (0)) (τ)) H := hP
  have hD : va_D A (mW G mo ad (su σ 0 (0) (0)) (τ)) := hD
  refine lv_aload_n hx hb dX8_end_5 rfl (lv_at hl 0 rfl) ?_
  refine va_get (D := D) (ci := 8) (v := .int (σ 21 0)) (C := RX8) (T := TX8) (N := 33) hx hb hts iX8 hown hK.1 hP 0 rfl rfl 21 (by decide) (hts _ q_700) (fun _ h9 => h9) rfl dX8_end_6 ?_
  refine lv_if_ne (tgt := 15) hx hb dX8_end_9 (by decide) (fun c1 => ?_) (fun c1 => ?_)
  · -- 9 taken
    have hk59 := hk59 c1
    obtain ⟨heb, hmb, hkb⟩ := hbg c1
    refine lv_aload_n hx hb dX8_end_15 rfl (lv_at hl 0 rfl) ?_
    refine lv_iconst (v := 0) hx hb dX8_end_16 (by decide) ?_
    refine va_put (D := D) (ci := 8) (v := .int 0) (ty := .boolean) (C := RX8) (T := TX8) (N := 33) hx hb hts iX8 tyX8 tyX8_ok nmX8 hown hK.1 hP hD hS 0 rfl rfl 21 (by decide) (hts _ q_700) (fun _ h9 => h9) rfl (by decide +kernel) rfl rfl (Nat.le_of_ble_eq_true rfl) dX8_end_17 (fun H locs hP hD hS => ?_)
    have hP : va_P D vwCl (mW G mo ad (su (su σ 0 (0) (0)) 21 (0) (0)) (τ)) H := hP
    have hD : va_D A (mW G mo ad (su (su σ 0 (0) (0)) 21 (0) (0)) (τ)) := hD
    refine lv_aload_n hx hb dX8_end_20 rfl (lv_at hl 0 rfl) ?_
    refine va_get (D := D) (ci := 8) (v := .int (σ 7 0)) (C := RX8) (T := TX8) (N := 33) hx hb hts iX8 hown hK.1 hP 0 rfl rfl 7 (by decide) (hts _ q_686) (fun _ h9 => h9) rfl dX8_end_21 ?_
    refine W.eq (g2 := F0 m 24 ls [.int (nI k)]) (congrArg (fun z9 => F0 m 24 ls [.int z9]) h7) ?_
    refine lv_istore_n (lv' := [(1, .int (nI k)), (0, .ref mo)]) hx hb dX8_end_24 rfl hl (by decide) rfl (fun ls hl => ?_)
    refine lv_iconst (v := 0) hx hb dX8_end_25 (by decide) ?_
    refine lv_istore_n (lv' := [(2, .int 0), (1, .int (nI k)), (0, .ref mo)]) hx hb dX8_end_26 rfl hl (by decide) rfl (fun ls hl => ?_)
    refine w_for (N := k) 27 (L := fun q9 ls => lv_has ls 4 [(2, .int (nI q9)), (1, .int (nI k)), (0, .ref mo)] ∧ ∀ i, i < q9 → ¬ twP σ k i) (fun k9 ls hk hL ih => ?_) 0 ls (Nat.zero_le _) ⟨hl, fun i h8 => absurd h8 (Nat.not_lt_zero i)⟩
    obtain ⟨hl, hi⟩ := hL
    have hl : lv_has ls 4 [(2, .int (nI k9)), (1, .int (nI k)), (0, .ref mo)] := hl
    refine lv_iload_n hx hb dX8_end_27 rfl (lv_at hl 0 rfl) ?_
    refine lv_aload_n hx hb dX8_end_28 rfl (lv_at hl 2 rfl) ?_
    refine va_get (D := D) (ci := 8) (v := .int (σ 7 0)) (C := RX8) (T := TX8) (N := 33) hx hb hts iX8 hown hK.1 hP 0 rfl rfl 7 (by decide) (hts _ q_686) (fun _ h9 => h9) rfl dX8_end_29 ?_
    refine lv_icmp_ge (tgt := 96) hx hb dX8_end_32 (by decide) (fun c2 => ?_) (fun c2 => ?_)
    · -- 32 taken
      have c2 : k ≤ k9 := (nI_leI (a := k) (b := k9) (by omega) (by omega)).mp (by have h8 := c2; rw [h7] at h8; exact h8)
      refine lv_iconst (v := 0) hx hb dX8_end_96 (by decide) ?_
      refine lv_istore_n (lv' := [(2, .int 0), (1, .int (nI k)), (0, .ref mo)]) hx hb dX8_end_97 rfl hl (by decide) rfl (fun ls hl => ?_)
      have hi1 := hi
      refine w_for (N := k) 98 (L := fun q9 ls => lv_has ls 4 [(2, .int (nI q9)), (1, .int (nI k)), (0, .ref mo)] ∧ rmF σ k k 0 = rmF σ k (k - q9) q9) (fun k9 ls hk hL ih => ?_) 0 ls (Nat.zero_le _) ⟨hl, by rw [Nat.sub_zero]⟩
      obtain ⟨hl, hi⟩ := hL
      have hl : lv_has ls 4 [(2, .int (nI k9)), (1, .int (nI k)), (0, .ref mo)] := hl
      refine lv_iload_n hx hb dX8_end_98 rfl (lv_at hl 0 rfl) ?_
      refine lv_aload_n hx hb dX8_end_99 rfl (lv_at hl 2 rfl) ?_
      refine va_get (D := D) (ci := 8) (v := .int (σ 7 0)) (C := RX8) (T := TX8) (N := 33) hx hb hts iX8 hown hK.1 hP 0 rfl rfl 7 (by decide) (hts _ q_686) (fun _ h9 => h9) rfl dX8_end_100 ?_
      refine lv_icmp_ge (tgt := 142) hx hb dX8_end_103 (by decide) (fun c3 => ?_) (fun c3 => ?_)
      · -- 103 taken
        have c3 : k ≤ k9 := (nI_leI (a := k) (b := k9) (by omega) (by omega)).mp (by have h8 := c3; rw [h7] at h8; exact h8)
        refine lv_aload_n hx hb dX8_end_142 rfl (lv_at hl 2 rfl) ?_
        refine va_get (D := D) (ci := 8) (v := .ref ((ad 28))) (C := RX8) (T := TX8) (N := 33) hx hb hts iX8 hown hK.1 hP 0 rfl rfl 28 (by decide) (hts _ q_707) (fun _ h9 => h9) rfl dX8_end_143 ?_
        refine lv_iload_n hx hb dX8_end_146 rfl (lv_at hl 1 rfl) ?_
        refine lv_aload_n hx hb dX8_end_147 rfl (lv_at hl 2 rfl) ?_
        refine lv_iload_n hx hb dX8_end_148 rfl (lv_at hl 1 rfl) ?_
        refine ro_Vi (D := D) (G := G) (As := [.int (nI k)]) (rest := [.int (nI k), .ref ((ad 28))]) ⟨hx, hb, hml, hown, hts⟩ (m_leastMet l D G _ mo ad _ _ hP k h7 hk60 (k) (by omega) heb hmb heo hb6) gV_X8_X8_leastMet hdV_X8_leastMet ⟨Nat.le_of_ble_eq_true rfl, Nat.le_of_ble_eq_true rfl⟩ hK (va_recv hK.1 hP (ci := 8) (q0 := 0) rfl rfl) rfl hl.1 rfl (Nat.le_of_ble_eq_true rfl) dX8_end_149 ⟨Nat.le_of_ble_eq_true rfl, Nat.le_of_ble_eq_true rfl⟩ (fun r4 e_r4 => ?_)
        subst e_r4
        refine W.eq (g2 := F0 m 152 ls [.int (fnd (fun b => meetP σ k b) k 0), .int (nI k), .ref ((ad 28))]) rfl ?_
        refine iast_n hx hb hK.1 hP hD hS 22 0 rfl rfl (k) rfl (by omega) (by decide) dX8_end_152 (fun H locs hP hD hS => ?_)
        have hP : va_P D vwCl (mW G mo ad (su (su (su σ 0 (0) (0)) 21 (0) (0)) 28 (k) (fnd (fun b => meetP σ k b) k 0)) (τ)) H := hP
        have hD : va_D A (mW G mo ad (su (su (su σ 0 (0) (0)) 21 (0) (0)) 28 (k) (fnd (fun b => meetP σ k b) k 0)) (τ)) := hD
        refine lv_aload_n hx hb dX8_end_153 rfl (lv_at hl 2 rfl) ?_
        refine va_get (D := D) (ci := 8) (v := .ref ((ad 8))) (C := RX8) (T := TX8) (N := 33) hx hb hts iX8 hown hK.1 hP 0 rfl rfl 8 (by decide) (hts _ q_687) (fun _ h9 => h9) rfl dX8_end_154 ?_
        refine lv_iload_n hx hb dX8_end_157 rfl (lv_at hl 1 rfl) ?_
        refine lv_iconst (v := 1) hx hb dX8_end_158 (by decide) ?_
        refine zast_n hx hb hK.1 hP hD hS 6 2 rfl rfl (k) rfl (by omega) (by decide) (Or.inr rfl) dX8_end_159 (fun H locs hP hD hS => ?_)
        have hP : va_P D vwCl (mW G mo ad (su (su (su (su σ 0 (0) (0)) 21 (0) (0)) 28 (k) (fnd (fun b => meetP σ k b) k 0)) 8 (k) (1)) (τ)) H := hP
        have hD : va_D A (mW G mo ad (su (su (su (su σ 0 (0) (0)) 21 (0) (0)) 28 (k) (fnd (fun b => meetP σ k b) k 0)) 8 (k) (1)) (τ)) := hD
        refine lv_aload_n hx hb dX8_end_160 rfl (lv_at hl 2 rfl) ?_
        refine lv_dup hx hb dX8_end_161 rfl ?_
        refine va_get (D := D) (ci := 8) (v := .int (σ 7 0)) (C := RX8) (T := TX8) (N := 33) hx hb hts iX8 hown hK.1 hP 0 rfl rfl 7 (by decide) (hts _ q_686) (fun _ h9 => h9) rfl dX8_end_162 ?_
        refine lv_iconst (v := 1) hx hb dX8_end_165 (by decide) ?_
        refine lv_iadd hx hb dX8_end_166 ?_
        refine W.eq (g2 := F0 m 167 ls [.int (nI (k + 1)), .ref mo]) (congrArg (fun z9 => F0 m 167 ls [.int z9, .ref mo]) (n_add (a := k) (b := 1) h7 (rfl : (1 : Int32) = nI 1))) ?_
        refine va_put (D := D) (ci := 8) (v := .int (nI (k + 1))) (ty := .int) (C := RX8) (T := TX8) (N := 33) hx hb hts iX8 tyX8 tyX8_ok nmX8 hown hK.1 hP hD hS 0 rfl rfl 7 (by decide) (hts _ q_686) (fun _ h9 => h9) rfl (by decide +kernel) rfl rfl (Nat.le_of_ble_eq_true rfl) dX8_end_167 (fun H locs hP hD hS => ?_)
        have hP : va_P D vwCl (mW G mo ad (su (su (su (su (su σ 0 (0) (0)) 21 (0) (0)) 28 (k) (fnd (fun b => meetP σ k b) k 0)) 8 (k) (1)) 7 (0) (nI (k + 1))) (τ)) H := hP
        have hD : va_D A (mW G mo ad (su (su (su (su (su σ 0 (0) (0)) 21 (0) (0)) 28 (k) (fnd (fun b => meetP σ k b) k 0)) 8 (k) (1)) 7 (0) (nI (k + 1))) (τ)) := hD
        refine lv_iload_n hx hb dX8_end_170 rfl (lv_at hl 1 rfl) ?_
        have ho : oEnd σ τ k = (nI k, su (su (su (su (su σ 0 (0) (0)) 21 (0) (0)) 28 (k) (fnd (fun b => meetP σ k b) k 0)) 8 (k) (1)) 7 (0) (nI (k + 1)), τ) := by have hrm : rmF σ k k 0 = 0 := (by rw [hi, show k - k9 = 0 by omega]; rfl); unfold oEnd; simp only [eq_false c1, eq_false (show ¬ ∃ b, b < k ∧ twP σ k b from fun ⟨i, h8, h9⟩ => hi1 i (by omega) h9), hrm, show ((0 : Int32) ≤ 0) = True from by decide, not_true, not_false_iff, not_true_eq_false, not_false_eq_true, true_or, or_true, false_or, or_false, or_self, and_self, true_and, and_true, false_and, and_false, if_true, if_false]; try rfl
        exact mu_iret (v0 := nI k) (z := (su (su (su (su (su σ 0 (0) (0)) 21 (0) (0)) 28 (k) (fnd (fun b => meetP σ k b) k 0)) 8 (k) (1)) 7 (0) (nI (k + 1)), τ)) hx hb hr hlocks hP hD hS dX8_end_171 (by rw [ho]) (by rw [ho])
      · -- 103 not
        have c3 : ¬ k ≤ k9 := fun h9 => c3 (by rw [h7]; exact (nI_leI (a := k) (b := k9) (by omega) (by omega)).mpr h9)
        refine lv_aload_n hx hb dX8_end_106 rfl (lv_at hl 2 rfl) ?_
        refine lv_iload_n hx hb dX8_end_107 rfl (lv_at hl 1 rfl) ?_
        refine lv_iload_n hx hb dX8_end_108 rfl (lv_at hl 0 rfl) ?_
        refine ro_Vi (D := D) (G := G) (As := [.int (nI k), .int (nI k9)]) (rest := []) ⟨hx, hb, hml, hown, hts⟩ (m_meets l D G _ mo ad _ _ hP (k) (k9) (by omega) (by omega) heb (heo k9 (by omega)) hmb hb6) gV_X8_X8_meets hdV_X8_meets ⟨Nat.le_of_ble_eq_true rfl, Nat.le_of_ble_eq_true rfl⟩ hK (va_recv hK.1 hP (ci := 8) (q0 := 0) rfl rfl) rfl hl.1 rfl (Nat.le_of_ble_eq_true rfl) dX8_end_109 ⟨Nat.le_of_ble_eq_true rfl, Nat.le_of_ble_eq_true rfl⟩ (fun r5 e_r5 => ?_)
        subst e_r5
        refine W.eq (g2 := F0 m 112 ls [.int (bI (meetP σ k k9))]) rfl ?_
        refine lv_if_eq (tgt := 124) hx hb dX8_end_112 (by decide) (fun c6 => ?_) (fun c6 => ?_)
        · -- 112 taken
          have c6 := bI_0 c6
          refine lv_iconst (v := 0) hx hb dX8_end_124 (by decide) ?_
          refine lv_istore_n (lv' := [(3, .int 0), (2, .int (nI k9)), (1, .int (nI k)), (0, .ref mo)]) hx hb dX8_end_125 rfl hl (by decide) rfl (fun ls hl => ?_)
          refine lv_iload_n hx hb dX8_end_126 rfl (lv_at hl 0 rfl) ?_
          refine lv_if_le (tgt := 136) hx hb dX8_end_127 (by decide) (fun hh => ?_) (fun hh => absurd (by decide) hh)
          refine lv_iinc (v := nI (k9 + 1)) (lv' := [(2, .int (nI (k9 + 1))), (3, .int 0), (1, .int (nI k)), (0, .ref mo)]) hx hb dX8_end_136 hl (k := 1) rfl (nI_1 _) (by decide) rfl (fun ls hl => ?_)
          refine lv_goto (tgt := 98) hx hb dX8_end_139 (by decide) ?_
          rw [rmF_u (by omega)] at hi
          simp only [eq_false c6, not_true, not_false_iff, not_true_eq_false, not_false_eq_true, true_or, or_true, false_or, or_false, or_self, and_self, true_and, and_true, false_and, and_false, if_true, if_false] at hi
          exact ih _ (by omega) ⟨lv_sub hl [0, 2, 3] rfl, hi⟩
        · -- 112 not
          have c6 := bI_1 c6
          refine lv_aload_n hx hb dX8_end_115 rfl (lv_at hl 2 rfl) ?_
          refine lv_iload_n hx hb dX8_end_116 rfl (lv_at hl 1 rfl) ?_
          refine lv_iload_n hx hb dX8_end_117 rfl (lv_at hl 0 rfl) ?_
          refine ro_Vi (D := D) (G := G) (As := [.int (nI k), .int (nI k9)]) (rest := []) ⟨hx, hb, hml, hown, hts⟩ (m_ruleAgainst l D G _ mo ad _ _ hP (k) (k9) (by omega) (by omega) hkb (hko k9 (by omega)) hb6) gV_X8_X8_ruleAgainst hdV_X8_ruleAgainst ⟨Nat.le_of_ble_eq_true rfl, Nat.le_of_ble_eq_true rfl⟩ hK (va_recv hK.1 hP (ci := 8) (q0 := 0) rfl rfl) rfl hl.1 rfl (Nat.le_of_ble_eq_true rfl) dX8_end_118 ⟨Nat.le_of_ble_eq_true rfl, Nat.le_of_ble_eq_true rfl⟩ (fun r7 e_r7 => ?_)
          subst e_r7
          refine W.eq (g2 := F0 m 121 ls [.int (aRA σ k k9)]) rfl ?_
          refine lv_goto (tgt := 125) hx hb dX8_end_121 (by decide) ?_
          refine lv_istore_n (lv' := [(3, .int (aRA σ k k9)), (2, .int (nI k9)), (1, .int (nI k)), (0, .ref mo)]) hx hb dX8_end_125 rfl hl (by decide) rfl (fun ls hl => ?_)
          refine lv_iload_n hx hb dX8_end_126 rfl (lv_at hl 0 rfl) ?_
          refine lv_if_le (tgt := 136) hx hb dX8_end_127 (by decide) (fun c8 => ?_) (fun c8 => ?_)
          · -- 127 taken
            refine lv_iinc (v := nI (k9 + 1)) (lv' := [(2, .int (nI (k9 + 1))), (3, .int (aRA σ k k9)), (1, .int (nI k)), (0, .ref mo)]) hx hb dX8_end_136 hl (k := 1) rfl (nI_1 _) (by decide) rfl (fun ls hl => ?_)
            refine lv_goto (tgt := 98) hx hb dX8_end_139 (by decide) ?_
            rw [rmF_u (by omega)] at hi
            simp only [eq_true c6, eq_true c8, not_true, not_false_iff, not_true_eq_false, not_false_eq_true, true_or, or_true, false_or, or_false, or_self, and_self, true_and, and_true, false_and, and_false, if_true, if_false] at hi
            exact ih _ (by omega) ⟨lv_sub hl [0, 2, 3] rfl, hi⟩
          · -- 127 not
            refine lv_aload_n hx hb dX8_end_130 rfl (lv_at hl 3 rfl) ?_
            refine lv_iload_n hx hb dX8_end_131 rfl (lv_at hl 0 rfl) ?_
            have hok : okR (aRA σ k k9) := aRA_ok
            refine W.eq (g2 := F0 m 132 ls [.int (nI ((aRA σ k k9).toNatClampNeg)), .ref mo]) (congrArg (fun z9 => F0 m 132 ls [.int z9, .ref mo]) hok.1) ?_
            refine mu_Vi (D := D) (G := G) (mo := mo) (ad := ad) (u := (su (su σ 0 (0) (0)) 21 (0) (0), τ)) (As := [.int (nI ((aRA σ k k9).toNatClampNeg))]) (rest := []) ⟨hx, hb, hml, hown, hts⟩ (m_breaks l D G mo ad (su (su σ 0 (0) (0)) 21 (0) (0)) (τ) _ (((aRA σ k k9).toNatClampNeg)) (by omega)) gV_X8_X8_breaks hdV_X8_breaks ⟨Nat.le_of_ble_eq_true rfl, Nat.le_of_ble_eq_true rfl⟩ hK hP hD hS hA rfl hl.1 rfl (Nat.le_of_ble_eq_true rfl) dX8_end_132 ⟨Nat.le_of_ble_eq_true rfl, Nat.le_of_ble_eq_true rfl⟩ (fun H locs hP hD hS => ?_)
            have hP : va_P D vwCl (mW G mo ad (su (su (su (su σ 0 (0) (0)) 21 (0) (0)) 27 (((aRA σ k k9).toNatClampNeg)) (σ 27 (((aRA σ k k9).toNatClampNeg)) + 1)) 26 (0) (σ 26 0 + 1)) (τ)) H := hP
            have hD : va_D A (mW G mo ad (su (su (su (su σ 0 (0) (0)) 21 (0) (0)) 27 (((aRA σ k k9).toNatClampNeg)) (σ 27 (((aRA σ k k9).toNatClampNeg)) + 1)) 26 (0) (σ 26 0 + 1)) (τ)) := hD
            refine W.eq (g2 := F0 m 135 ls [.int ((-40) - nI ((aRA σ k k9).toNatClampNeg))]) rfl ?_
            have ho : oEnd σ τ k = ((-40) - nI ((aRA σ k k9).toNatClampNeg), su (su (su (su σ 0 (0) (0)) 21 (0) (0)) 27 (((aRA σ k k9).toNatClampNeg)) (σ 27 (((aRA σ k k9).toNatClampNeg)) + 1)) 26 (0) (σ 26 0 + 1), τ) := by have hrm : rmF σ k k 0 = aRA σ k k9 := (by rw [hi, rmF_u (by omega)]; simp only [eq_true c6, eq_false c8, not_true, not_false_iff, not_true_eq_false, not_false_eq_true, true_or, or_true, false_or, or_false, or_self, and_self, true_and, and_true, false_and, and_false, if_true, if_false]); unfold oEnd; simp only [eq_false c1, eq_false (show ¬ ∃ b, b < k ∧ twP σ k b from fun ⟨i, h8, h9⟩ => hi1 i (by omega) h9), hrm, eq_false c8, not_true, not_false_iff, not_true_eq_false, not_false_eq_true, true_or, or_true, false_or, or_false, or_self, and_self, true_and, and_true, false_and, and_false, if_true, if_false]; try rfl
            exact mu_iret (v0 := (-40) - nI ((aRA σ k k9).toNatClampNeg)) (z := (su (su (su (su σ 0 (0) (0)) 21 (0) (0)) 27 (((aRA σ k k9).toNatClampNeg)) (σ 27 (((aRA σ k k9).toNatClampNeg)) + 1)) 26 (0) (σ 26 0 + 1), τ)) hx hb hr hlocks hP hD hS dX8_end_135 (by rw [ho]) (by rw [ho])
    · -- 32 not
      have c2 : ¬ k ≤ k9 := fun h9 => c2 (by rw [h7]; exact (nI_leI (a := k) (b := k9) (by omega) (by omega)).mpr h9)
      refine lv_aload_n hx hb dX8_end_35 rfl (lv_at hl 2 rfl) ?_
      refine va_get (D := D) (ci := 8) (v := .ref ((ad 8))) (C := RX8) (T := TX8) (N := 33) hx hb hts iX8 hown hK.1 hP 0 rfl rfl 8 (by decide) (hts _ q_687) (fun _ h9 => h9) rfl dX8_end_36 ?_
      refine lv_iload_n hx hb dX8_end_39 rfl (lv_at hl 0 rfl) ?_
      refine zald_n (f := σ 8) hx hb hK.1 hP 6 2 rfl rfl (k9) rfl (by omega) (by decide) dX8_end_40 ?_
      refine lv_if_eq (tgt := 90) hx hb dX8_end_41 (by decide) (fun c9 => ?_) (fun c9 => ?_)
      · -- 41 taken
        refine lv_iinc (v := nI (k9 + 1)) (lv' := [(2, .int (nI (k9 + 1))), (1, .int (nI k)), (0, .ref mo)]) hx hb dX8_end_90 hl (k := 0) rfl (nI_1 _) (by decide) rfl (fun ls hl => ?_)
        refine lv_goto (tgt := 27) hx hb dX8_end_93 (by decide) ?_
        exact ih _ (by omega) ⟨lv_sub hl [0, 1, 2] rfl, fun i h8 => by rcases Nat.lt_or_ge i k9 with h9 | h9; exact hi i h9; rw [show i = k9 by omega]; exact fun h7 => absurd c9 h7.1⟩
      · -- 41 not
        refine lv_aload_n hx hb dX8_end_44 rfl (lv_at hl 2 rfl) ?_
        refine va_get (D := D) (ci := 8) (v := .ref ((ad 9))) (C := RX8) (T := TX8) (N := 33) hx hb hts iX8 hown hK.1 hP 0 rfl rfl 9 (by decide) (hts _ q_688) (fun _ h9 => h9) rfl dX8_end_45 ?_
        refine lv_iload_n hx hb dX8_end_48 rfl (lv_at hl 0 rfl) ?_
        refine iald_n (f := σ 9) hx hb hK.1 hP 7 0 rfl rfl (k9) rfl (by omega) (by decide) dX8_end_49 ?_
        refine lv_aload_n hx hb dX8_end_50 rfl (lv_at hl 2 rfl) ?_
        refine va_get (D := D) (ci := 8) (v := .ref ((ad 9))) (C := RX8) (T := TX8) (N := 33) hx hb hts iX8 hown hK.1 hP 0 rfl rfl 9 (by decide) (hts _ q_688) (fun _ h9 => h9) rfl dX8_end_51 ?_
        refine lv_iload_n hx hb dX8_end_54 rfl (lv_at hl 1 rfl) ?_
        refine iald_n (f := σ 9) hx hb hK.1 hP 7 0 rfl rfl (k) rfl (by omega) (by decide) dX8_end_55 ?_
        refine lv_icmp_ne (tgt := 90) hx hb dX8_end_56 (by decide) (fun c10 => ?_) (fun c10 => ?_)
        · -- 56 taken
          refine lv_iinc (v := nI (k9 + 1)) (lv' := [(2, .int (nI (k9 + 1))), (1, .int (nI k)), (0, .ref mo)]) hx hb dX8_end_90 hl (k := 0) rfl (nI_1 _) (by decide) rfl (fun ls hl => ?_)
          refine lv_goto (tgt := 27) hx hb dX8_end_93 (by decide) ?_
          exact ih _ (by omega) ⟨lv_sub hl [0, 1, 2] rfl, fun i h8 => by rcases Nat.lt_or_ge i k9 with h9 | h9; exact hi i h9; rw [show i = k9 by omega]; exact fun h7 => absurd h7.2.1 c10⟩
        · -- 56 not
          refine lv_aload_n hx hb dX8_end_59 rfl (lv_at hl 2 rfl) ?_
          refine va_get (D := D) (ci := 8) (v := .ref ((ad 10))) (C := RX8) (T := TX8) (N := 33) hx hb hts iX8 hown hK.1 hP 0 rfl rfl 10 (by decide) (hts _ q_689) (fun _ h9 => h9) rfl dX8_end_60 ?_
          refine lv_iload_n hx hb dX8_end_63 rfl (lv_at hl 0 rfl) ?_
          refine iald_n (f := σ 10) hx hb hK.1 hP 8 0 rfl rfl (k9) rfl (by omega) (by decide) dX8_end_64 ?_
          refine lv_aload_n hx hb dX8_end_65 rfl (lv_at hl 2 rfl) ?_
          refine va_get (D := D) (ci := 8) (v := .ref ((ad 10))) (C := RX8) (T := TX8) (N := 33) hx hb hts iX8 hown hK.1 hP 0 rfl rfl 10 (by decide) (hts _ q_689) (fun _ h9 => h9) rfl dX8_end_66 ?_
          refine lv_iload_n hx hb dX8_end_69 rfl (lv_at hl 1 rfl) ?_
          refine iald_n (f := σ 10) hx hb hK.1 hP 8 0 rfl rfl (k) rfl (by omega) (by decide) dX8_end_70 ?_
          refine lv_icmp_ne (tgt := 90) hx hb dX8_end_71 (by decide) (fun c11 => ?_) (fun c11 => ?_)
          · -- 71 taken
            refine lv_iinc (v := nI (k9 + 1)) (lv' := [(2, .int (nI (k9 + 1))), (1, .int (nI k)), (0, .ref mo)]) hx hb dX8_end_90 hl (k := 0) rfl (nI_1 _) (by decide) rfl (fun ls hl => ?_)
            refine lv_goto (tgt := 27) hx hb dX8_end_93 (by decide) ?_
            exact ih _ (by omega) ⟨lv_sub hl [0, 1, 2] rfl, fun i h8 => by rcases Nat.lt_or_ge i k9 with h9 | h9; exact hi i h9; rw [show i = k9 by omega]; exact fun h7 => absurd h7.2.2.1 c11⟩
          · -- 71 not
            refine lv_aload_n hx hb dX8_end_74 rfl (lv_at hl 2 rfl) ?_
            refine lv_iload_n hx hb dX8_end_75 rfl (lv_at hl 0 rfl) ?_
            refine lv_iload_n hx hb dX8_end_76 rfl (lv_at hl 1 rfl) ?_
            refine ro_Vi (D := D) (G := G) (As := [.int (nI k9), .int (nI k)]) (rest := []) ⟨hx, hb, hml, hown, hts⟩ (m_sameParts l D G _ mo ad _ _ hP (k9) (k) (by omega) (by omega) (hmo k9 (by omega))) gV_X8_X8_sameParts hdV_X8_sameParts ⟨Nat.le_of_ble_eq_true rfl, Nat.le_of_ble_eq_true rfl⟩ hK (va_recv hK.1 hP (ci := 8) (q0 := 0) rfl rfl) rfl hl.1 rfl (Nat.le_of_ble_eq_true rfl) dX8_end_77 ⟨Nat.le_of_ble_eq_true rfl, Nat.le_of_ble_eq_true rfl⟩ (fun r12 e_r12 => ?_)
            subst e_r12
            refine W.eq (g2 := F0 m 80 ls [.int (bI (sameP σ k9 k))]) rfl ?_
            refine lv_if_eq (tgt := 90) hx hb dX8_end_80 (by decide) (fun c13 => ?_) (fun c13 => ?_)
            · -- 80 taken
              have c13 := bI_0 c13
              refine lv_iinc (v := nI (k9 + 1)) (lv' := [(2, .int (nI (k9 + 1))), (1, .int (nI k)), (0, .ref mo)]) hx hb dX8_end_90 hl (k := 0) rfl (nI_1 _) (by decide) rfl (fun ls hl => ?_)
              refine lv_goto (tgt := 27) hx hb dX8_end_93 (by decide) ?_
              exact ih _ (by omega) ⟨lv_sub hl [0, 1, 2] rfl, fun i h8 => by rcases Nat.lt_or_ge i k9 with h9 | h9; exact hi i h9; rw [show i = k9 by omega]; exact fun h7 => absurd h7.2.2.2 c13⟩
            · -- 80 not
              have c13 := bI_1 c13
              refine lv_aload_n hx hb dX8_end_83 rfl (lv_at hl 2 rfl) ?_
              refine lv_bipush (v := 21) hx hb dX8_end_84 (by decide) ?_
              refine mu_Vi (D := D) (G := G) (mo := mo) (ad := ad) (u := (su (su σ 0 (0) (0)) 21 (0) (0), τ)) (As := [.int 21]) (rest := []) ⟨hx, hb, hml, hown, hts⟩ (m_breaks l D G mo ad (su (su σ 0 (0) (0)) 21 (0) (0)) (τ) _ (21) (by omega)) gV_X8_X8_breaks hdV_X8_breaks ⟨Nat.le_of_ble_eq_true rfl, Nat.le_of_ble_eq_true rfl⟩ hK hP hD hS hA rfl hl.1 rfl (Nat.le_of_ble_eq_true rfl) dX8_end_86 ⟨Nat.le_of_ble_eq_true rfl, Nat.le_of_ble_eq_true rfl⟩ (fun H locs hP hD hS => ?_)
              have hP : va_P D vwCl (mW G mo ad (su (su (su (su σ 0 (0) (0)) 21 (0) (0)) 27 (21) (σ 27 21 + 1)) 26 (0) (σ 26 0 + 1)) (τ)) H := hP
              have hD : va_D A (mW G mo ad (su (su (su (su σ 0 (0) (0)) 21 (0) (0)) 27 (21) (σ 27 21 + 1)) 26 (0) (σ 26 0 + 1)) (τ)) := hD
              refine W.eq (g2 := F0 m 89 ls [.int ((-40) - nI 21)]) rfl ?_
              have ho : oEnd σ τ k = ((-40) - nI 21, su (su (su (su σ 0 (0) (0)) 21 (0) (0)) 27 (21) (σ 27 21 + 1)) 26 (0) (σ 26 0 + 1), τ) := by unfold oEnd; simp only [eq_false c1, eq_true (show ∃ b, b < k ∧ twP σ k b from ⟨k9, by omega, c9, c10, c11, c13⟩), not_true, not_false_iff, not_true_eq_false, not_false_eq_true, true_or, or_true, false_or, or_false, or_self, and_self, true_and, and_true, false_and, and_false, if_true, if_false]; try rfl
              exact mu_iret (v0 := (-40) - nI 21) (z := (su (su (su (su σ 0 (0) (0)) 21 (0) (0)) 27 (21) (σ 27 21 + 1)) 26 (0) (σ 26 0 + 1), τ)) hx hb hr hlocks hP hD hS dX8_end_89 (by rw [ho]) (by rw [ho])
  · -- 9 not
    refine lv_bipush (v := -14) hx hb dX8_end_12 (by decide) ?_
    have ho : oEnd σ τ k = ((-14), su σ 0 (0) (0), τ) := by unfold oEnd; simp only [eq_true c1, not_true, not_false_iff, not_true_eq_false, not_false_eq_true, true_or, or_true, false_or, or_false, or_self, and_self, true_and, and_true, false_and, and_false, if_true, if_false]; try rfl
    exact mu_iret (v0 := (-14)) (z := (su σ 0 (0) (0), τ)) hx hb hr hlocks hP hD hS dX8_end_14 (by rw [ho]) (by rw [ho])
