theorem tkN_z {σ : MS} {w e : Nat} {v : Int32} {k : Nat} (h : tkN σ w e v k) : tkN σ w e v 0 := tkN_def.mpr ⟨(tkN_def.mp h).1, fun q hq => absurd hq (Nat.not_lt_zero q)⟩
theorem tkN_v {σ : MS} {w e : Nat} {v : Int32} {k : Nat} (h : tkN σ w e v k) (hv : ¬ v = 0) : ¬ σ 17 e = 0 := by have h8 := (tkN_def.mp h).1; rw [if_pos hv] at h8; exact h8.1
theorem tkN_w {σ : MS} {w e : Nat} {v : Int32} {k : Nat} (h : tkN σ w e v k) (hv : v = 0) : w = mnE σ e := by have h8 := (tkN_def.mp h).1; rw [if_neg (fun q => q hv)] at h8; exact h8
theorem kd_of {σ : MS} {e q : Nat} {v : Int32} (hkp : ∀ q, q < mnE σ e → kdO (σ 19 (5 * e + q))) (h1 : ¬ v = 0 → 1 ≤ mnE σ e) (hq : v = 0 → q < mnE σ e) : kdO (kindF σ e q v) := by
  unfold kindF
  split
  · rename_i h; exact hkp _ (by have := h1 h.1; omega)
  · rename_i h
    refine hkp _ ?_
    by_cases hv : v = 0
    · exact hq hv
    · rcases Nat.lt_or_ge q (mnE σ e) with h9 | h9
      · exact h9
      · exact absurd ⟨hv, by omega⟩ h
theorem dX8_kindAt_0 : decode cX8_kindAt 0 = .ok (.aload_n 0, 1) := by decide +kernel
theorem dX8_kindAt_1 : decode cX8_kindAt 1 = .ok (.getfield 60, 3) := by decide +kernel
theorem dX8_kindAt_4 : decode cX8_kindAt 4 = .ok (.iconst 5, 1) := by decide +kernel
theorem dX8_kindAt_5 : decode cX8_kindAt 5 = .ok (.iload_n 1, 1) := by decide +kernel
theorem dX8_kindAt_6 : decode cX8_kindAt 6 = .ok (.imul, 1) := by decide +kernel
theorem dX8_kindAt_7 : decode cX8_kindAt 7 = .ok (.iload_n 3, 1) := by decide +kernel
theorem dX8_kindAt_8 : decode cX8_kindAt 8 = .ok (.ifCond .eq 24, 3) := by decide +kernel
theorem dX8_kindAt_32 : decode cX8_kindAt 32 = .ok (.iload_n 2, 1) := by decide +kernel
theorem dX8_kindAt_33 : decode cX8_kindAt 33 = .ok (.iadd, 1) := by decide +kernel
theorem dX8_kindAt_34 : decode cX8_kindAt 34 = .ok (.iaload, 1) := by decide +kernel
theorem dX8_kindAt_35 : decode cX8_kindAt 35 = .ok (.ireturn, 1) := by decide +kernel
theorem dX8_kindAt_11 : decode cX8_kindAt 11 = .ok (.iload_n 2, 1) := by decide +kernel
theorem dX8_kindAt_12 : decode cX8_kindAt 12 = .ok (.aload_n 0, 1) := by decide +kernel
theorem dX8_kindAt_13 : decode cX8_kindAt 13 = .ok (.getfield 57, 3) := by decide +kernel
theorem dX8_kindAt_16 : decode cX8_kindAt 16 = .ok (.iload_n 1, 1) := by decide +kernel
theorem dX8_kindAt_17 : decode cX8_kindAt 17 = .ok (.iaload, 1) := by decide +kernel
theorem dX8_kindAt_18 : decode cX8_kindAt 18 = .ok (.if_icmp .lt 14, 3) := by decide +kernel
theorem dX8_kindAt_21 : decode cX8_kindAt 21 = .ok (.aload_n 0, 1) := by decide +kernel
theorem dX8_kindAt_22 : decode cX8_kindAt 22 = .ok (.getfield 57, 3) := by decide +kernel
theorem dX8_kindAt_25 : decode cX8_kindAt 25 = .ok (.iload_n 1, 1) := by decide +kernel
theorem dX8_kindAt_26 : decode cX8_kindAt 26 = .ok (.iaload, 1) := by decide +kernel
theorem dX8_kindAt_27 : decode cX8_kindAt 27 = .ok (.iconst 1, 1) := by decide +kernel
theorem dX8_kindAt_28 : decode cX8_kindAt 28 = .ok (.isub, 1) := by decide +kernel
theorem dX8_kindAt_29 : decode cX8_kindAt 29 = .ok (.goto 4, 3) := by decide +kernel
theorem dX8_dimAt_0 : decode cX8_dimAt 0 = .ok (.iload_n 3, 1) := by decide +kernel
theorem dX8_dimAt_1 : decode cX8_dimAt 1 = .ok (.ifCond .eq 37, 3) := by decide +kernel
theorem dX8_dimAt_38 : decode cX8_dimAt 38 = .ok (.aload_n 0, 1) := by decide +kernel
theorem dX8_dimAt_39 : decode cX8_dimAt 39 = .ok (.getfield 63, 3) := by decide +kernel
theorem dX8_dimAt_42 : decode cX8_dimAt 42 = .ok (.iconst 5, 1) := by decide +kernel
theorem dX8_dimAt_43 : decode cX8_dimAt 43 = .ok (.iload_n 1, 1) := by decide +kernel
theorem dX8_dimAt_44 : decode cX8_dimAt 44 = .ok (.imul, 1) := by decide +kernel
theorem dX8_dimAt_45 : decode cX8_dimAt 45 = .ok (.iload_n 2, 1) := by decide +kernel
theorem dX8_dimAt_46 : decode cX8_dimAt 46 = .ok (.iadd, 1) := by decide +kernel
theorem dX8_dimAt_47 : decode cX8_dimAt 47 = .ok (.iaload, 1) := by decide +kernel
theorem dX8_dimAt_48 : decode cX8_dimAt 48 = .ok (.ireturn, 1) := by decide +kernel
theorem dX8_dimAt_4 : decode cX8_dimAt 4 = .ok (.iload_n 2, 1) := by decide +kernel
theorem dX8_dimAt_5 : decode cX8_dimAt 5 = .ok (.aload_n 0, 1) := by decide +kernel
theorem dX8_dimAt_6 : decode cX8_dimAt 6 = .ok (.getfield 57, 3) := by decide +kernel
theorem dX8_dimAt_9 : decode cX8_dimAt 9 = .ok (.iload_n 1, 1) := by decide +kernel
theorem dX8_dimAt_10 : decode cX8_dimAt 10 = .ok (.iaload, 1) := by decide +kernel
theorem dX8_dimAt_11 : decode cX8_dimAt 11 = .ok (.iconst 1, 1) := by decide +kernel
theorem dX8_dimAt_12 : decode cX8_dimAt 12 = .ok (.isub, 1) := by decide +kernel
theorem dX8_dimAt_13 : decode cX8_dimAt 13 = .ok (.if_icmp .lt 25, 3) := by decide +kernel
theorem dX8_dimAt_16 : decode cX8_dimAt 16 = .ok (.aload_n 0, 1) := by decide +kernel
theorem dX8_dimAt_17 : decode cX8_dimAt 17 = .ok (.getfield 63, 3) := by decide +kernel
theorem dX8_dimAt_20 : decode cX8_dimAt 20 = .ok (.iconst 5, 1) := by decide +kernel
theorem dX8_dimAt_21 : decode cX8_dimAt 21 = .ok (.iload_n 1, 1) := by decide +kernel
theorem dX8_dimAt_22 : decode cX8_dimAt 22 = .ok (.imul, 1) := by decide +kernel
theorem dX8_dimAt_23 : decode cX8_dimAt 23 = .ok (.aload_n 0, 1) := by decide +kernel
theorem dX8_dimAt_24 : decode cX8_dimAt 24 = .ok (.getfield 57, 3) := by decide +kernel
theorem dX8_dimAt_27 : decode cX8_dimAt 27 = .ok (.iload_n 1, 1) := by decide +kernel
theorem dX8_dimAt_28 : decode cX8_dimAt 28 = .ok (.iaload, 1) := by decide +kernel
theorem dX8_dimAt_29 : decode cX8_dimAt 29 = .ok (.iadd, 1) := by decide +kernel
theorem dX8_dimAt_30 : decode cX8_dimAt 30 = .ok (.iconst 1, 1) := by decide +kernel
theorem dX8_dimAt_31 : decode cX8_dimAt 31 = .ok (.isub, 1) := by decide +kernel
theorem dX8_dimAt_32 : decode cX8_dimAt 32 = .ok (.iaload, 1) := by decide +kernel
theorem dX8_dimAt_33 : decode cX8_dimAt 33 = .ok (.iconst 1, 1) := by decide +kernel
theorem dX8_dimAt_34 : decode cX8_dimAt 34 = .ok (.isub, 1) := by decide +kernel
theorem dX8_dimAt_35 : decode cX8_dimAt 35 = .ok (.goto 13, 3) := by decide +kernel
theorem dX8_takes_54 : decode cX8_takes 54 = .ok (.istore_n 3, 1) := by decide +kernel
theorem dX8_takes_55 : decode cX8_takes 55 = .ok (.iconst 0, 1) := by decide +kernel
theorem dX8_takes_56 : decode cX8_takes 56 = .ok (.istore 4, 2) := by decide +kernel
theorem dX8_takes_58 : decode cX8_takes 58 = .ok (.iload_n 3, 1) := by decide +kernel
theorem dX8_takes_59 : decode cX8_takes 59 = .ok (.ifCond .eq 53, 3) := by decide +kernel
theorem dX8_takes_112 : decode cX8_takes 112 = .ok (.iload_n 3, 1) := by decide +kernel
theorem dX8_takes_113 : decode cX8_takes 113 = .ok (.ireturn, 1) := by decide +kernel
theorem dX8_takes_62 : decode cX8_takes 62 = .ok (.iload 4, 2) := by decide +kernel
theorem dX8_takes_64 : decode cX8_takes 64 = .ok (.aload_n 0, 1) := by decide +kernel
theorem q_701 : Cond.fieldLink "FieldMemberModel" 196 "FieldMemberModel" "waits" "I" ∈ TT := tt_t (i := 701) (by decide +kernel) (by decide +kernel)
theorem dX8_takes_65 : decode cX8_takes 65 = .ok (.getfield 196, 3) := by decide +kernel
theorem dX8_takes_68 : decode cX8_takes 68 = .ok (.if_icmp .ge 44, 3) := by decide +kernel
theorem dX8_takes_71 : decode cX8_takes 71 = .ok (.aload_n 0, 1) := by decide +kernel
theorem dX8_takes_72 : decode cX8_takes 72 = .ok (.aload_n 0, 1) := by decide +kernel
theorem q_702 : Cond.fieldLink "FieldMemberModel" 66 "FieldMemberModel" "argumentKinds" "[I" ∈ TT := tt_t (i := 702) (by decide +kernel) (by decide +kernel)
theorem dX8_takes_73 : decode cX8_takes 73 = .ok (.getfield 66, 3) := by decide +kernel
theorem dX8_takes_76 : decode cX8_takes 76 = .ok (.iload 4, 2) := by decide +kernel
theorem dX8_takes_78 : decode cX8_takes 78 = .ok (.iaload, 1) := by decide +kernel
theorem dX8_takes_79 : decode cX8_takes 79 = .ok (.aload_n 0, 1) := by decide +kernel
theorem q_703 : Cond.fieldLink "FieldMemberModel" 69 "FieldMemberModel" "argumentDims" "[I" ∈ TT := tt_t (i := 703) (by decide +kernel) (by decide +kernel)
theorem dX8_takes_80 : decode cX8_takes 80 = .ok (.getfield 69, 3) := by decide +kernel
theorem dX8_takes_83 : decode cX8_takes 83 = .ok (.iload 4, 2) := by decide +kernel
theorem dX8_takes_85 : decode cX8_takes 85 = .ok (.iaload, 1) := by decide +kernel
theorem dX8_takes_86 : decode cX8_takes 86 = .ok (.aload_n 0, 1) := by decide +kernel
theorem dX8_takes_87 : decode cX8_takes 87 = .ok (.iload_n 1, 1) := by decide +kernel
theorem dX8_takes_88 : decode cX8_takes 88 = .ok (.iload 4, 2) := by decide +kernel
theorem dX8_takes_90 : decode cX8_takes 90 = .ok (.iload_n 2, 1) := by decide +kernel
theorem q_961 : Cond.methodLink "FieldMemberModel" 202 ⟨"FieldMemberModel", "kindAt", "(IIZ)I"⟩ ∈ TT := tt_t (i := 961) (by decide +kernel) (by decide +kernel)
theorem q_964 : Cond.code ⟨"FieldMemberModel", "kindAt", "(IIZ)I"⟩ prog_10_method_42_code 4 (some .int) ∈ TT := tt_t (i := 964) (by decide +kernel) (by decide +kernel)
theorem q_963 : Cond.instanceMethod ⟨"FieldMemberModel", "kindAt", "(IIZ)I"⟩ ∈ TT := tt_t (i := 963) (by decide +kernel) (by decide +kernel)
theorem qs_53 : Cond.selects "FieldMemberModel" ⟨"FieldMemberModel", "kindAt", "(IIZ)I"⟩ ⟨"FieldMemberModel", "kindAt", "(IIZ)I"⟩ ∈ TT := tt_s (i := 53) (by decide +kernel) (by decide +kernel)
theorem gV_X8_X8_kindAt : GoodIn TT (wsV RX8 202 RX8 yX8_kindAt (ww yX8_kindAt cX8_kindAt 4 (some .int))) := tt_V q_961 q_963 qs_53 q_4 q_964
theorem hdV_X8_kindAt : yX8_kindAt.cls = RX8 ∧ yX8_kindAt.cls ≠ "java/lang/invoke/MethodHandle" ∧ yX8_kindAt.cls ≠ "java/lang/invoke/VarHandle" ∧ (parseMethodDescriptor yX8_kindAt.desc).map (fun d => d.parameters.length) = some 3 := by decide +kernel
theorem dX8_takes_91 : decode cX8_takes 91 = .ok (.invokevirtual 202, 3) := by decide +kernel
theorem dX8_takes_94 : decode cX8_takes 94 = .ok (.aload_n 0, 1) := by decide +kernel
theorem dX8_takes_95 : decode cX8_takes 95 = .ok (.iload_n 1, 1) := by decide +kernel
theorem dX8_takes_96 : decode cX8_takes 96 = .ok (.iload 4, 2) := by decide +kernel
theorem dX8_takes_98 : decode cX8_takes 98 = .ok (.iload_n 2, 1) := by decide +kernel
theorem q_965 : Cond.methodLink "FieldMemberModel" 205 ⟨"FieldMemberModel", "dimAt", "(IIZ)I"⟩ ∈ TT := tt_t (i := 965) (by decide +kernel) (by decide +kernel)
theorem q_968 : Cond.code ⟨"FieldMemberModel", "dimAt", "(IIZ)I"⟩ prog_10_method_43_code 4 (some .int) ∈ TT := tt_t (i := 968) (by decide +kernel) (by decide +kernel)
theorem q_967 : Cond.instanceMethod ⟨"FieldMemberModel", "dimAt", "(IIZ)I"⟩ ∈ TT := tt_t (i := 967) (by decide +kernel) (by decide +kernel)
theorem qs_54 : Cond.selects "FieldMemberModel" ⟨"FieldMemberModel", "dimAt", "(IIZ)I"⟩ ⟨"FieldMemberModel", "dimAt", "(IIZ)I"⟩ ∈ TT := tt_s (i := 54) (by decide +kernel) (by decide +kernel)
theorem gV_X8_X8_dimAt : GoodIn TT (wsV RX8 205 RX8 yX8_dimAt (ww yX8_dimAt cX8_dimAt 4 (some .int))) := tt_V q_965 q_967 qs_54 q_4 q_968
theorem hdV_X8_dimAt : yX8_dimAt.cls = RX8 ∧ yX8_dimAt.cls ≠ "java/lang/invoke/MethodHandle" ∧ yX8_dimAt.cls ≠ "java/lang/invoke/VarHandle" ∧ (parseMethodDescriptor yX8_dimAt.desc).map (fun d => d.parameters.length) = some 3 := by decide +kernel
theorem dX8_takes_99 : decode cX8_takes 99 = .ok (.invokevirtual 205, 3) := by decide +kernel
theorem q_969 : Cond.methodLink "FieldMemberModel" 208 ⟨"FieldMemberModel", "fits", "(IIII)Z"⟩ ∈ TT := tt_t (i := 969) (by decide +kernel) (by decide +kernel)
theorem q_972 : Cond.code ⟨"FieldMemberModel", "fits", "(IIII)Z"⟩ prog_10_method_40_code 5 (some .boolean) ∈ TT := tt_t (i := 972) (by decide +kernel) (by decide +kernel)
theorem q_971 : Cond.instanceMethod ⟨"FieldMemberModel", "fits", "(IIII)Z"⟩ ∈ TT := tt_t (i := 971) (by decide +kernel) (by decide +kernel)
theorem qs_55 : Cond.selects "FieldMemberModel" ⟨"FieldMemberModel", "fits", "(IIII)Z"⟩ ⟨"FieldMemberModel", "fits", "(IIII)Z"⟩ ∈ TT := tt_s (i := 55) (by decide +kernel) (by decide +kernel)
theorem gV_X8_X8_fits : GoodIn TT (wsV RX8 208 RX8 yX8_fits (ww yX8_fits cX8_fits 5 (some .boolean))) := tt_V q_969 q_971 qs_55 q_4 q_972
theorem hdV_X8_fits : yX8_fits.cls = RX8 ∧ yX8_fits.cls ≠ "java/lang/invoke/MethodHandle" ∧ yX8_fits.cls ≠ "java/lang/invoke/VarHandle" ∧ (parseMethodDescriptor yX8_fits.desc).map (fun d => d.parameters.length) = some 4 := by decide +kernel
theorem dX8_takes_102 : decode cX8_takes 102 = .ok (.invokevirtual 208, 3) := by decide +kernel
theorem dX8_takes_105 : decode cX8_takes 105 = .ok (.istore_n 3, 1) := by decide +kernel
theorem dX8_takes_106 : decode cX8_takes 106 = .ok (.iinc 4 1, 3) := by decide +kernel
theorem dX8_takes_109 : decode cX8_takes 109 = .ok (.goto (-51), 3) := by decide +kernel
theorem dX8_takes_0 : decode cX8_takes 0 = .ok (.iload_n 2, 1) := by decide +kernel
theorem dX8_takes_1 : decode cX8_takes 1 = .ok (.ifCond .eq 35, 3) := by decide +kernel
theorem dX8_takes_36 : decode cX8_takes 36 = .ok (.aload_n 0, 1) := by decide +kernel
theorem dX8_takes_37 : decode cX8_takes 37 = .ok (.getfield 196, 3) := by decide +kernel
theorem dX8_takes_40 : decode cX8_takes 40 = .ok (.aload_n 0, 1) := by decide +kernel
theorem dX8_takes_41 : decode cX8_takes 41 = .ok (.getfield 57, 3) := by decide +kernel
theorem dX8_takes_44 : decode cX8_takes 44 = .ok (.iload_n 1, 1) := by decide +kernel
theorem dX8_takes_45 : decode cX8_takes 45 = .ok (.iaload, 1) := by decide +kernel
theorem dX8_takes_46 : decode cX8_takes 46 = .ok (.if_icmp .ne 7, 3) := by decide +kernel
theorem dX8_takes_53 : decode cX8_takes 53 = .ok (.iconst 0, 1) := by decide +kernel
theorem dX8_takes_49 : decode cX8_takes 49 = .ok (.iconst 1, 1) := by decide +kernel
theorem dX8_takes_50 : decode cX8_takes 50 = .ok (.goto 4, 3) := by decide +kernel
theorem dX8_takes_4 : decode cX8_takes 4 = .ok (.aload_n 0, 1) := by decide +kernel
theorem q_696 : Cond.fieldLink "FieldMemberModel" 54 "FieldMemberModel" "isVaried" "[Z" ∈ TT := tt_t (i := 696) (by decide +kernel) (by decide +kernel)
theorem dX8_takes_5 : decode cX8_takes 5 = .ok (.getfield 54, 3) := by decide +kernel
theorem dX8_takes_8 : decode cX8_takes 8 = .ok (.iload_n 1, 1) := by decide +kernel
theorem dX8_takes_9 : decode cX8_takes 9 = .ok (.baload, 1) := by decide +kernel
theorem dX8_takes_10 : decode cX8_takes 10 = .ok (.ifCond .eq 22, 3) := by decide +kernel
theorem dX8_takes_32 : decode cX8_takes 32 = .ok (.iconst 0, 1) := by decide +kernel
theorem dX8_takes_33 : decode cX8_takes 33 = .ok (.goto 21, 3) := by decide +kernel
theorem dX8_takes_13 : decode cX8_takes 13 = .ok (.aload_n 0, 1) := by decide +kernel
theorem dX8_takes_14 : decode cX8_takes 14 = .ok (.getfield 196, 3) := by decide +kernel
theorem dX8_takes_17 : decode cX8_takes 17 = .ok (.aload_n 0, 1) := by decide +kernel
theorem dX8_takes_18 : decode cX8_takes 18 = .ok (.getfield 57, 3) := by decide +kernel
theorem dX8_takes_21 : decode cX8_takes 21 = .ok (.iload_n 1, 1) := by decide +kernel
theorem dX8_takes_22 : decode cX8_takes 22 = .ok (.iaload, 1) := by decide +kernel
theorem dX8_takes_23 : decode cX8_takes 23 = .ok (.iconst 1, 1) := by decide +kernel
theorem dX8_takes_24 : decode cX8_takes 24 = .ok (.isub, 1) := by decide +kernel
theorem dX8_takes_25 : decode cX8_takes 25 = .ok (.if_icmp .lt 7, 3) := by decide +kernel
theorem dX8_takes_28 : decode cX8_takes 28 = .ok (.iconst 1, 1) := by decide +kernel
theorem dX8_takes_29 : decode cX8_takes 29 = .ok (.goto 25, 3) := by decide +kernel
theorem dX8_isNearer_0 : decode cX8_isNearer 0 = .ok (.aload_n 0, 1) := by decide +kernel
theorem dX8_isNearer_1 : decode cX8_isNearer 1 = .ok (.getfield 196, 3) := by decide +kernel
theorem dX8_isNearer_4 : decode cX8_isNearer 4 = .ok (.istore 4, 2) := by decide +kernel
theorem dX8_isNearer_32 : decode cX8_isNearer 32 = .ok (.istore 4, 2) := by decide +kernel
theorem dX8_isNearer_60 : decode cX8_isNearer 60 = .ok (.istore 4, 2) := by decide +kernel
theorem dX8_isNearer_62 : decode cX8_isNearer 62 = .ok (.iconst 1, 1) := by decide +kernel
theorem dX8_isNearer_63 : decode cX8_isNearer 63 = .ok (.istore 5, 2) := by decide +kernel
theorem dX8_isNearer_65 : decode cX8_isNearer 65 = .ok (.iconst 0, 1) := by decide +kernel
theorem dX8_isNearer_66 : decode cX8_isNearer 66 = .ok (.istore 6, 2) := by decide +kernel
theorem dX8_isNearer_68 : decode cX8_isNearer 68 = .ok (.iload 5, 2) := by decide +kernel
theorem dX8_isNearer_70 : decode cX8_isNearer 70 = .ok (.ifCond .eq 54, 3) := by decide +kernel
theorem dX8_isNearer_124 : decode cX8_isNearer 124 = .ok (.iload 5, 2) := by decide +kernel
theorem dX8_isNearer_126 : decode cX8_isNearer 126 = .ok (.ireturn, 1) := by decide +kernel
theorem dX8_isNearer_73 : decode cX8_isNearer 73 = .ok (.iload 6, 2) := by decide +kernel
theorem dX8_isNearer_75 : decode cX8_isNearer 75 = .ok (.iload 4, 2) := by decide +kernel
theorem dX8_isNearer_77 : decode cX8_isNearer 77 = .ok (.if_icmp .ge 47, 3) := by decide +kernel
theorem dX8_isNearer_80 : decode cX8_isNearer 80 = .ok (.aload_n 0, 1) := by decide +kernel
theorem dX8_isNearer_81 : decode cX8_isNearer 81 = .ok (.aload_n 0, 1) := by decide +kernel
theorem dX8_isNearer_82 : decode cX8_isNearer 82 = .ok (.iload_n 1, 1) := by decide +kernel
theorem dX8_isNearer_83 : decode cX8_isNearer 83 = .ok (.iload 6, 2) := by decide +kernel
theorem dX8_isNearer_85 : decode cX8_isNearer 85 = .ok (.iload_n 3, 1) := by decide +kernel
theorem dX8_isNearer_86 : decode cX8_isNearer 86 = .ok (.invokevirtual 202, 3) := by decide +kernel
theorem dX8_isNearer_89 : decode cX8_isNearer 89 = .ok (.aload_n 0, 1) := by decide +kernel
theorem dX8_isNearer_90 : decode cX8_isNearer 90 = .ok (.iload_n 1, 1) := by decide +kernel
theorem dX8_isNearer_91 : decode cX8_isNearer 91 = .ok (.iload 6, 2) := by decide +kernel
theorem dX8_isNearer_93 : decode cX8_isNearer 93 = .ok (.iload_n 3, 1) := by decide +kernel
theorem dX8_isNearer_94 : decode cX8_isNearer 94 = .ok (.invokevirtual 205, 3) := by decide +kernel
theorem dX8_isNearer_97 : decode cX8_isNearer 97 = .ok (.aload_n 0, 1) := by decide +kernel
theorem dX8_isNearer_98 : decode cX8_isNearer 98 = .ok (.iload_n 2, 1) := by decide +kernel
theorem dX8_isNearer_99 : decode cX8_isNearer 99 = .ok (.iload 6, 2) := by decide +kernel
theorem dX8_isNearer_101 : decode cX8_isNearer 101 = .ok (.iload_n 3, 1) := by decide +kernel
theorem dX8_isNearer_102 : decode cX8_isNearer 102 = .ok (.invokevirtual 202, 3) := by decide +kernel
theorem dX8_isNearer_105 : decode cX8_isNearer 105 = .ok (.aload_n 0, 1) := by decide +kernel
theorem dX8_isNearer_106 : decode cX8_isNearer 106 = .ok (.iload_n 2, 1) := by decide +kernel
theorem dX8_isNearer_107 : decode cX8_isNearer 107 = .ok (.iload 6, 2) := by decide +kernel
theorem dX8_isNearer_109 : decode cX8_isNearer 109 = .ok (.iload_n 3, 1) := by decide +kernel
theorem dX8_isNearer_110 : decode cX8_isNearer 110 = .ok (.invokevirtual 205, 3) := by decide +kernel
theorem dX8_isNearer_113 : decode cX8_isNearer 113 = .ok (.invokevirtual 208, 3) := by decide +kernel
theorem dX8_isNearer_116 : decode cX8_isNearer 116 = .ok (.istore 5, 2) := by decide +kernel
theorem dX8_isNearer_118 : decode cX8_isNearer 118 = .ok (.iinc 6 1, 3) := by decide +kernel
theorem dX8_isNearer_121 : decode cX8_isNearer 121 = .ok (.goto (-53), 3) := by decide +kernel
theorem dX8_isNearer_34 : decode cX8_isNearer 34 = .ok (.iload_n 3, 1) := by decide +kernel
theorem dX8_isNearer_35 : decode cX8_isNearer 35 = .ok (.ifCond .eq 23, 3) := by decide +kernel
theorem dX8_isNearer_58 : decode cX8_isNearer 58 = .ok (.iload 4, 2) := by decide +kernel
theorem dX8_isNearer_38 : decode cX8_isNearer 38 = .ok (.aload_n 0, 1) := by decide +kernel
theorem dX8_isNearer_39 : decode cX8_isNearer 39 = .ok (.getfield 57, 3) := by decide +kernel
theorem dX8_isNearer_42 : decode cX8_isNearer 42 = .ok (.iload_n 2, 1) := by decide +kernel
theorem dX8_isNearer_43 : decode cX8_isNearer 43 = .ok (.iaload, 1) := by decide +kernel
theorem dX8_isNearer_44 : decode cX8_isNearer 44 = .ok (.iload 4, 2) := by decide +kernel
theorem dX8_isNearer_46 : decode cX8_isNearer 46 = .ok (.if_icmp .le 12, 3) := by decide +kernel
theorem dX8_isNearer_49 : decode cX8_isNearer 49 = .ok (.aload_n 0, 1) := by decide +kernel
theorem dX8_isNearer_50 : decode cX8_isNearer 50 = .ok (.getfield 57, 3) := by decide +kernel
theorem dX8_isNearer_53 : decode cX8_isNearer 53 = .ok (.iload_n 2, 1) := by decide +kernel
theorem dX8_isNearer_54 : decode cX8_isNearer 54 = .ok (.iaload, 1) := by decide +kernel
theorem dX8_isNearer_55 : decode cX8_isNearer 55 = .ok (.goto 5, 3) := by decide +kernel
theorem dX8_isNearer_6 : decode cX8_isNearer 6 = .ok (.iload_n 3, 1) := by decide +kernel
theorem dX8_isNearer_7 : decode cX8_isNearer 7 = .ok (.ifCond .eq 23, 3) := by decide +kernel
theorem dX8_isNearer_30 : decode cX8_isNearer 30 = .ok (.iload 4, 2) := by decide +kernel
theorem dX8_isNearer_10 : decode cX8_isNearer 10 = .ok (.aload_n 0, 1) := by decide +kernel
theorem dX8_isNearer_11 : decode cX8_isNearer 11 = .ok (.getfield 57, 3) := by decide +kernel
theorem dX8_isNearer_14 : decode cX8_isNearer 14 = .ok (.iload_n 1, 1) := by decide +kernel
theorem dX8_isNearer_15 : decode cX8_isNearer 15 = .ok (.iaload, 1) := by decide +kernel
theorem dX8_isNearer_16 : decode cX8_isNearer 16 = .ok (.iload 4, 2) := by decide +kernel
theorem dX8_isNearer_18 : decode cX8_isNearer 18 = .ok (.if_icmp .le 12, 3) := by decide +kernel
theorem dX8_isNearer_21 : decode cX8_isNearer 21 = .ok (.aload_n 0, 1) := by decide +kernel
theorem dX8_isNearer_22 : decode cX8_isNearer 22 = .ok (.getfield 57, 3) := by decide +kernel
theorem dX8_isNearer_25 : decode cX8_isNearer 25 = .ok (.iload_n 1, 1) := by decide +kernel
theorem dX8_isNearer_26 : decode cX8_isNearer 26 = .ok (.iaload, 1) := by decide +kernel
theorem dX8_isNearer_27 : decode cX8_isNearer 27 = .ok (.goto 5, 3) := by decide +kernel
theorem dX8_makes_0 : decode cX8_makes 0 = .ok (.aload_n 0, 1) := by decide +kernel
theorem dX8_makes_1 : decode cX8_makes 1 = .ok (.getfield 26, 3) := by decide +kernel
theorem dX8_makes_4 : decode cX8_makes 4 = .ok (.iload_n 2, 1) := by decide +kernel
theorem dX8_makes_5 : decode cX8_makes 5 = .ok (.baload, 1) := by decide +kernel
theorem dX8_makes_6 : decode cX8_makes 6 = .ok (.ifCond .eq 41, 3) := by decide +kernel
theorem dX8_makes_47 : decode cX8_makes 47 = .ok (.iconst 0, 1) := by decide +kernel
theorem dX8_makes_48 : decode cX8_makes 48 = .ok (.ireturn, 1) := by decide +kernel
theorem dX8_makes_9 : decode cX8_makes 9 = .ok (.aload_n 0, 1) := by decide +kernel
theorem dX8_makes_10 : decode cX8_makes 10 = .ok (.iload_n 1, 1) := by decide +kernel
theorem dX8_makes_11 : decode cX8_makes 11 = .ok (.aload_n 0, 1) := by decide +kernel
theorem dX8_makes_12 : decode cX8_makes 12 = .ok (.getfield 29, 3) := by decide +kernel
theorem dX8_makes_15 : decode cX8_makes 15 = .ok (.iload_n 2, 1) := by decide +kernel
theorem dX8_makes_16 : decode cX8_makes 16 = .ok (.iaload, 1) := by decide +kernel
theorem dX8_makes_17 : decode cX8_makes 17 = .ok (.invokevirtual 126, 3) := by decide +kernel
theorem dX8_makes_20 : decode cX8_makes 20 = .ok (.ifCond .eq 27, 3) := by decide +kernel
theorem dX8_makes_23 : decode cX8_makes 23 = .ok (.aload_n 0, 1) := by decide +kernel
theorem dX8_makes_24 : decode cX8_makes 24 = .ok (.getfield 32, 3) := by decide +kernel
theorem dX8_makes_27 : decode cX8_makes 27 = .ok (.iload_n 2, 1) := by decide +kernel
theorem dX8_makes_28 : decode cX8_makes 28 = .ok (.iaload, 1) := by decide +kernel
theorem dX8_makes_29 : decode cX8_makes 29 = .ok (.aload_n 0, 1) := by decide +kernel
theorem dX8_makes_30 : decode cX8_makes 30 = .ok (.getfield 32, 3) := by decide +kernel
theorem dX8_makes_33 : decode cX8_makes 33 = .ok (.iload_n 3, 1) := by decide +kernel
theorem dX8_makes_34 : decode cX8_makes 34 = .ok (.iaload, 1) := by decide +kernel
theorem dX8_makes_35 : decode cX8_makes 35 = .ok (.if_icmp .ne 12, 3) := by decide +kernel
theorem dX8_makes_38 : decode cX8_makes 38 = .ok (.aload_n 0, 1) := by decide +kernel
theorem dX8_makes_39 : decode cX8_makes 39 = .ok (.iload_n 2, 1) := by decide +kernel
theorem dX8_makes_40 : decode cX8_makes 40 = .ok (.iload_n 3, 1) := by decide +kernel
theorem dX8_makes_41 : decode cX8_makes 41 = .ok (.invokevirtual 178, 3) := by decide +kernel
theorem dX8_makes_44 : decode cX8_makes 44 = .ok (.ifCond .ne 5, 3) := by decide +kernel
theorem dX8_makes_49 : decode cX8_makes 49 = .ok (.aload_n 0, 1) := by decide +kernel
theorem dX8_makes_50 : decode cX8_makes 50 = .ok (.aload_n 0, 1) := by decide +kernel
theorem dX8_makes_51 : decode cX8_makes 51 = .ok (.getfield 29, 3) := by decide +kernel
theorem dX8_makes_54 : decode cX8_makes 54 = .ok (.iload_n 2, 1) := by decide +kernel
theorem dX8_makes_55 : decode cX8_makes 55 = .ok (.iaload, 1) := by decide +kernel
theorem dX8_makes_56 : decode cX8_makes 56 = .ok (.invokevirtual 116, 3) := by decide +kernel
theorem dX8_makes_59 : decode cX8_makes 59 = .ok (.ifCond .eq 22, 3) := by decide +kernel
theorem dX8_makes_81 : decode cX8_makes 81 = .ok (.aload_n 0, 1) := by decide +kernel
theorem q_695 : Cond.fieldLink "FieldMemberModel" 51 "FieldMemberModel" "hasBody" "[Z" ∈ TT := tt_t (i := 695) (by decide +kernel) (by decide +kernel)
theorem dX8_makes_82 : decode cX8_makes 82 = .ok (.getfield 51, 3) := by decide +kernel
theorem dX8_makes_85 : decode cX8_makes 85 = .ok (.iload_n 2, 1) := by decide +kernel
theorem dX8_makes_86 : decode cX8_makes 86 = .ok (.baload, 1) := by decide +kernel
theorem dX8_makes_87 : decode cX8_makes 87 = .ok (.ifCond .ne 16, 3) := by decide +kernel
theorem dX8_makes_103 : decode cX8_makes 103 = .ok (.aload_n 0, 1) := by decide +kernel
theorem dX8_makes_104 : decode cX8_makes 104 = .ok (.getfield 41, 3) := by decide +kernel
theorem dX8_makes_107 : decode cX8_makes 107 = .ok (.iload_n 2, 1) := by decide +kernel
theorem dX8_makes_108 : decode cX8_makes 108 = .ok (.iaload, 1) := by decide +kernel
theorem dX8_makes_109 : decode cX8_makes 109 = .ok (.bipush 12, 2) := by decide +kernel
theorem dX8_makes_111 : decode cX8_makes 111 = .ok (.iand, 1) := by decide +kernel
theorem dX8_makes_112 : decode cX8_makes 112 = .ok (.ifCond .ne 7, 3) := by decide +kernel
theorem dX8_makes_119 : decode cX8_makes 119 = .ok (.iconst 0, 1) := by decide +kernel
theorem dX8_makes_120 : decode cX8_makes 120 = .ok (.ireturn, 1) := by decide +kernel
theorem dX8_makes_115 : decode cX8_makes 115 = .ok (.iconst 1, 1) := by decide +kernel
theorem dX8_makes_116 : decode cX8_makes 116 = .ok (.goto 4, 3) := by decide +kernel
theorem dX8_makes_90 : decode cX8_makes 90 = .ok (.aload_n 0, 1) := by decide +kernel
theorem dX8_makes_91 : decode cX8_makes 91 = .ok (.getfield 41, 3) := by decide +kernel
theorem dX8_makes_94 : decode cX8_makes 94 = .ok (.iload_n 2, 1) := by decide +kernel
theorem dX8_makes_95 : decode cX8_makes 95 = .ok (.iaload, 1) := by decide +kernel
theorem dX8_makes_96 : decode cX8_makes 96 = .ok (.sipush 256, 3) := by decide +kernel
theorem dX8_makes_99 : decode cX8_makes 99 = .ok (.iand, 1) := by decide +kernel
theorem dX8_makes_100 : decode cX8_makes 100 = .ok (.ifCond .le 19, 3) := by decide +kernel
theorem dX8_makes_62 : decode cX8_makes 62 = .ok (.aload_n 0, 1) := by decide +kernel
theorem dX8_makes_63 : decode cX8_makes 63 = .ok (.getfield 41, 3) := by decide +kernel
theorem dX8_makes_66 : decode cX8_makes 66 = .ok (.iload_n 2, 1) := by decide +kernel
theorem dX8_makes_67 : decode cX8_makes 67 = .ok (.iaload, 1) := by decide +kernel
theorem dX8_makes_68 : decode cX8_makes 68 = .ok (.sipush 1024, 3) := by decide +kernel
theorem dX8_makes_71 : decode cX8_makes 71 = .ok (.iand, 1) := by decide +kernel
theorem dX8_makes_72 : decode cX8_makes 72 = .ok (.ifCond .le 7, 3) := by decide +kernel
theorem dX8_makes_79 : decode cX8_makes 79 = .ok (.iconst 0, 1) := by decide +kernel
theorem dX8_makes_80 : decode cX8_makes 80 = .ok (.ireturn, 1) := by decide +kernel
theorem dX8_makes_75 : decode cX8_makes 75 = .ok (.iconst 1, 1) := by decide +kernel
theorem dX8_makes_76 : decode cX8_makes 76 = .ok (.goto 4, 3) := by decide +kernel
theorem dX8_isLacked_41 : decode cX8_isLacked 41 = .ok (.istore_n 3, 1) := by decide +kernel
theorem dX8_isLacked_42 : decode cX8_isLacked 42 = .ok (.iconst 0, 1) := by decide +kernel
theorem dX8_isLacked_43 : decode cX8_isLacked 43 = .ok (.istore 4, 2) := by decide +kernel
theorem dX8_isLacked_45 : decode cX8_isLacked 45 = .ok (.iload 4, 2) := by decide +kernel
theorem dX8_isLacked_47 : decode cX8_isLacked 47 = .ok (.aload_n 0, 1) := by decide +kernel
theorem dX8_isLacked_48 : decode cX8_isLacked 48 = .ok (.getfield 119, 3) := by decide +kernel
theorem dX8_isLacked_51 : decode cX8_isLacked 51 = .ok (.if_icmp .ge 30, 3) := by decide +kernel
theorem dX8_isLacked_81 : decode cX8_isLacked 81 = .ok (.iload_n 3, 1) := by decide +kernel
theorem dX8_isLacked_82 : decode cX8_isLacked 82 = .ok (.ireturn, 1) := by decide +kernel
theorem dX8_isLacked_54 : decode cX8_isLacked 54 = .ok (.iload_n 3, 1) := by decide +kernel
theorem dX8_isLacked_55 : decode cX8_isLacked 55 = .ok (.ifCond .eq 26, 3) := by decide +kernel
theorem dX8_isLacked_74 : decode cX8_isLacked 74 = .ok (.istore_n 3, 1) := by decide +kernel
theorem dX8_isLacked_75 : decode cX8_isLacked 75 = .ok (.iinc 4 1, 3) := by decide +kernel
theorem dX8_isLacked_78 : decode cX8_isLacked 78 = .ok (.goto (-33), 3) := by decide +kernel
theorem dX8_isLacked_58 : decode cX8_isLacked 58 = .ok (.aload_n 0, 1) := by decide +kernel
theorem dX8_isLacked_59 : decode cX8_isLacked 59 = .ok (.iload_n 1, 1) := by decide +kernel
theorem dX8_isLacked_60 : decode cX8_isLacked 60 = .ok (.iload 4, 2) := by decide +kernel
theorem dX8_isLacked_62 : decode cX8_isLacked 62 = .ok (.iload_n 2, 1) := by decide +kernel
theorem q_992 : Cond.methodLink "FieldMemberModel" 230 ⟨"FieldMemberModel", "makes", "(III)Z"⟩ ∈ TT := tt_t (i := 992) (by decide +kernel) (by decide +kernel)
theorem q_995 : Cond.code ⟨"FieldMemberModel", "makes", "(III)Z"⟩ prog_10_method_49_code 4 (some .boolean) ∈ TT := tt_t (i := 995) (by decide +kernel) (by decide +kernel)
theorem q_994 : Cond.instanceMethod ⟨"FieldMemberModel", "makes", "(III)Z"⟩ ∈ TT := tt_t (i := 994) (by decide +kernel) (by decide +kernel)
theorem qs_58 : Cond.selects "FieldMemberModel" ⟨"FieldMemberModel", "makes", "(III)Z"⟩ ⟨"FieldMemberModel", "makes", "(III)Z"⟩ ∈ TT := tt_s (i := 58) (by decide +kernel) (by decide +kernel)
theorem gV_X8_X8_makes : GoodIn TT (wsV RX8 230 RX8 yX8_makes (ww yX8_makes cX8_makes 4 (some .boolean))) := tt_V q_992 q_994 qs_58 q_4 q_995
theorem hdV_X8_makes : yX8_makes.cls = RX8 ∧ yX8_makes.cls ≠ "java/lang/invoke/MethodHandle" ∧ yX8_makes.cls ≠ "java/lang/invoke/VarHandle" ∧ (parseMethodDescriptor yX8_makes.desc).map (fun d => d.parameters.length) = some 3 := by decide +kernel
theorem dX8_isLacked_63 : decode cX8_isLacked 63 = .ok (.invokevirtual 230, 3) := by decide +kernel
theorem dX8_isLacked_66 : decode cX8_isLacked 66 = .ok (.ifCond .ne 7, 3) := by decide +kernel
theorem dX8_isLacked_73 : decode cX8_isLacked 73 = .ok (.iconst 0, 1) := by decide +kernel
theorem dX8_isLacked_69 : decode cX8_isLacked 69 = .ok (.iconst 1, 1) := by decide +kernel
theorem dX8_isLacked_70 : decode cX8_isLacked 70 = .ok (.goto 4, 3) := by decide +kernel
theorem dX8_isLacked_0 : decode cX8_isLacked 0 = .ok (.aload_n 0, 1) := by decide +kernel
theorem dX8_isLacked_1 : decode cX8_isLacked 1 = .ok (.getfield 26, 3) := by decide +kernel
theorem dX8_isLacked_4 : decode cX8_isLacked 4 = .ok (.iload_n 2, 1) := by decide +kernel
theorem dX8_isLacked_5 : decode cX8_isLacked 5 = .ok (.baload, 1) := by decide +kernel
theorem dX8_isLacked_6 : decode cX8_isLacked 6 = .ok (.ifCond .eq 34, 3) := by decide +kernel
theorem dX8_isLacked_40 : decode cX8_isLacked 40 = .ok (.iconst 0, 1) := by decide +kernel
theorem dX8_isLacked_9 : decode cX8_isLacked 9 = .ok (.aload_n 0, 1) := by decide +kernel
theorem dX8_isLacked_10 : decode cX8_isLacked 10 = .ok (.getfield 41, 3) := by decide +kernel
theorem dX8_isLacked_13 : decode cX8_isLacked 13 = .ok (.iload_n 2, 1) := by decide +kernel
theorem dX8_isLacked_14 : decode cX8_isLacked 14 = .ok (.iaload, 1) := by decide +kernel
theorem dX8_isLacked_15 : decode cX8_isLacked 15 = .ok (.sipush 128, 3) := by decide +kernel
theorem dX8_isLacked_18 : decode cX8_isLacked 18 = .ok (.iand, 1) := by decide +kernel
theorem dX8_isLacked_19 : decode cX8_isLacked 19 = .ok (.ifCond .le 21, 3) := by decide +kernel
theorem dX8_isLacked_22 : decode cX8_isLacked 22 = .ok (.aload_n 0, 1) := by decide +kernel
theorem dX8_isLacked_23 : decode cX8_isLacked 23 = .ok (.iload_n 1, 1) := by decide +kernel
theorem dX8_isLacked_24 : decode cX8_isLacked 24 = .ok (.aload_n 0, 1) := by decide +kernel
theorem dX8_isLacked_25 : decode cX8_isLacked 25 = .ok (.getfield 29, 3) := by decide +kernel
theorem dX8_isLacked_28 : decode cX8_isLacked 28 = .ok (.iload_n 2, 1) := by decide +kernel
theorem dX8_isLacked_29 : decode cX8_isLacked 29 = .ok (.iaload, 1) := by decide +kernel
theorem dX8_isLacked_30 : decode cX8_isLacked 30 = .ok (.invokevirtual 126, 3) := by decide +kernel
theorem dX8_isLacked_33 : decode cX8_isLacked 33 = .ok (.ifCond .eq 7, 3) := by decide +kernel
theorem dX8_isLacked_36 : decode cX8_isLacked 36 = .ok (.iconst 1, 1) := by decide +kernel
theorem dX8_isLacked_37 : decode cX8_isLacked 37 = .ok (.goto 4, 3) := by decide +kernel
set_option maxHeartbeats 4000000 in
set_option maxRecDepth 100000 in
theorem m_kindAt (l : Launch) (D : va_G) (G : Nat → ClassId) (H : Heap) (mo : Nat) (ad : Nat → Nat) (σ : MS) (τ : Nat → Int64) (hP : va_P D vwCl (mW G mo ad σ τ) H) (en pp : Nat) (he : en < 60) (hm : okM σ en) (vr : Int32) (hv : ¬ vr = 0 → 1 ≤ mnE σ en) (hp : vr = 0 → pp < 5) (hpb : pp < 100) : Met l yX8_kindAt (ww yX8_kindAt cX8_kindAt 4 (some .int)) (rmD 0) (roP D G H [.ref mo, .int (nI en), .int (nI pp), .int vr]) (vp_Si (fun r => r = kindF σ en pp vr)) 0 0 (fun _ => False) := by
  refine Met.ofW (cc := cX8_kindAt) (maxL := 4) (ret := (some .int)) (by decide) rfl ?_
  intro p e s m args below meth c s₁ B hml hv
  obtain ⟨rfl, hH, hK⟩ := hv
  have hx := B.exec
  have hb := B.bytes
  have hr := B.returns
  have hts : ∀ w ∈ TT, w.before _ s = true := fun w h => atoms_spec (ws := ww yX8_kindAt cX8_kindAt 4 (some .int)) B.pre w (List.mem_cons_of_mem _ h)
  have hown : s.vm.findClass RX8 = some m.cls := findClass_of_methodNamed B.named
  have hlocks := B.notSynchronized
  rw [hH]
  have hl := lv_entry ([.ref mo, .int (nI en), .int (nI pp), .int vr]) (n := 4) (Nat.le_of_ble_eq_true rfl)
  rw [lg_entry_eq]
  generalize (lg_sl ([.ref mo, .int (nI en), .int (nI pp), .int vr]) ++ List.replicate (4 - (lg_sl ([.ref mo, .int (nI en), .int (nI pp), .int vr])).length) Slot.unset).toArray = ls at hl ⊢
  have hl : lv_has ls 4 [(0, .ref mo), (1, .int (nI en)), (2, .int (nI pp)), (3, .int vr)] := hl
  refine lv_aload_n hx hb dX8_kindAt_0 rfl (lv_at hl 0 rfl) ?_
  refine va_get (D := D) (ci := 8) (v := .ref ((ad 19))) (C := RX8) (T := TX8) (N := 33) hx hb hts iX8 hown hK.1 hP 0 rfl rfl 19 (by decide) (hts _ q_698) (fun _ h9 => h9) rfl dX8_kindAt_1 ?_
  refine lv_iconst (v := 5) hx hb dX8_kindAt_4 (by decide) ?_
  refine lv_iload_n hx hb dX8_kindAt_5 rfl (lv_at hl 1 rfl) ?_
  refine lv_imul hx hb dX8_kindAt_6 ?_
  refine lv_iload_n hx hb dX8_kindAt_7 rfl (lv_at hl 3 rfl) ?_
  refine lv_if_eq (tgt := 32) hx hb dX8_kindAt_8 (by decide) (fun c1 => ?_) (fun c1 => ?_)
  · -- 8 taken
    have hp1 := hp c1
    refine lv_iload_n hx hb dX8_kindAt_32 rfl (lv_at hl 2 rfl) ?_
    refine lv_iadd hx hb dX8_kindAt_33 ?_
    refine iald_n (f := σ 19) hx hb hK.1 hP 17 0 rfl rfl (((5 * en) + pp)) (n_add (a := (5 * en)) (b := pp) (n_mul (a := 5) (b := en) (rfl : (5 : Int32) = nI 5) rfl) rfl) (by omega) (by decide) dX8_kindAt_34 ?_
    exact ro_iret (v := σ 19 (((5 * en) + pp))) hx hb hr hH hlocks dX8_kindAt_35 (by unfold kindF; simp only [eq_true c1, not_true, not_false_iff, not_true_eq_false, not_false_eq_true, true_or, or_true, false_or, or_false, or_self, and_self, true_and, and_true, false_and, and_false, if_true, if_false])
  · -- 8 not
    have hv1 := hv c1
    refine lv_iload_n hx hb dX8_kindAt_11 rfl (lv_at hl 2 rfl) ?_
    refine lv_aload_n hx hb dX8_kindAt_12 rfl (lv_at hl 0 rfl) ?_
    refine va_get (D := D) (ci := 8) (v := .ref ((ad 18))) (C := RX8) (T := TX8) (N := 33) hx hb hts iX8 hown hK.1 hP 0 rfl rfl 18 (by decide) (hts _ q_697) (fun _ h9 => h9) rfl dX8_kindAt_13 ?_
    refine lv_iload_n hx hb dX8_kindAt_16 rfl (lv_at hl 1 rfl) ?_
    refine iald_n (f := σ 18) hx hb hK.1 hP 16 0 rfl rfl (en) rfl (by omega) (by decide) dX8_kindAt_17 ?_
    refine lv_icmp_lt (tgt := 32) hx hb dX8_kindAt_18 (by decide) (fun c2 => ?_) (fun c2 => ?_)
    · -- 18 taken
      have c2 : pp < (mnE σ en) := (nI_ltI (a := pp) (b := (mnE σ en)) (by omega) (by omega)).mp (by have h8 := c2; rw [hm.1] at h8; exact h8)
      refine lv_iload_n hx hb dX8_kindAt_32 rfl (lv_at hl 2 rfl) ?_
      refine lv_iadd hx hb dX8_kindAt_33 ?_
      refine iald_n (f := σ 19) hx hb hK.1 hP 17 0 rfl rfl (((5 * en) + pp)) (n_add (a := (5 * en)) (b := pp) (n_mul (a := 5) (b := en) (rfl : (5 : Int32) = nI 5) rfl) rfl) (by omega) (by decide) dX8_kindAt_34 ?_
      exact ro_iret (v := σ 19 (((5 * en) + pp))) hx hb hr hH hlocks dX8_kindAt_35 (by unfold kindF; simp only [eq_false c1, eq_true c2, not_true, not_false_iff, not_true_eq_false, not_false_eq_true, true_or, or_true, false_or, or_false, or_self, and_self, true_and, and_true, false_and, and_false, if_true, if_false])
    · -- 18 not
      have c2 : ¬ pp < (mnE σ en) := fun h9 => c2 (by rw [hm.1]; exact (nI_ltI (a := pp) (b := (mnE σ en)) (by omega) (by omega)).mpr h9)
      refine lv_aload_n hx hb dX8_kindAt_21 rfl (lv_at hl 0 rfl) ?_
      refine va_get (D := D) (ci := 8) (v := .ref ((ad 18))) (C := RX8) (T := TX8) (N := 33) hx hb hts iX8 hown hK.1 hP 0 rfl rfl 18 (by decide) (hts _ q_697) (fun _ h9 => h9) rfl dX8_kindAt_22 ?_
      refine lv_iload_n hx hb dX8_kindAt_25 rfl (lv_at hl 1 rfl) ?_
      refine iald_n (f := σ 18) hx hb hK.1 hP 16 0 rfl rfl (en) rfl (by omega) (by decide) dX8_kindAt_26 ?_
      refine lv_iconst (v := 1) hx hb dX8_kindAt_27 (by decide) ?_
      refine lv_isub hx hb dX8_kindAt_28 ?_
      refine lv_goto (tgt := 33) hx hb dX8_kindAt_29 (by decide) ?_
      refine lv_iadd hx hb dX8_kindAt_33 ?_
      refine iald_n (f := σ 19) hx hb hK.1 hP 17 0 rfl rfl (((5 * en) + ((mnE σ en) - 1))) (n_add (a := (5 * en)) (b := ((mnE σ en) - 1)) (n_mul (a := 5) (b := en) (rfl : (5 : Int32) = nI 5) rfl) (n_sub (a := (mnE σ en)) (b := 1) hm.1 (rfl : (1 : Int32) = nI 1) (by omega))) (by omega) (by decide) dX8_kindAt_34 ?_
      exact ro_iret (v := σ 19 (((5 * en) + ((mnE σ en) - 1)))) hx hb hr hH hlocks dX8_kindAt_35 (by unfold kindF; simp only [eq_false c1, eq_false c2, not_true, not_false_iff, not_true_eq_false, not_false_eq_true, true_or, or_true, false_or, or_false, or_self, and_self, true_and, and_true, false_and, and_false, if_true, if_false])
set_option maxHeartbeats 4000000 in
set_option maxRecDepth 100000 in
theorem m_dimAt (l : Launch) (D : va_G) (G : Nat → ClassId) (H : Heap) (mo : Nat) (ad : Nat → Nat) (σ : MS) (τ : Nat → Int64) (hP : va_P D vwCl (mW G mo ad σ τ) H) (en pp : Nat) (he : en < 60) (hm : okM σ en) (vr : Int32) (hv : ¬ vr = 0 → 1 ≤ mnE σ en) (hp : vr = 0 → pp < 5) (hpb : pp < 100) : Met l yX8_dimAt (ww yX8_dimAt cX8_dimAt 4 (some .int)) (rmD 0) (roP D G H [.ref mo, .int (nI en), .int (nI pp), .int vr]) (vp_Si (fun r => r = dimF σ en pp vr)) 0 0 (fun _ => False) := by
  refine Met.ofW (cc := cX8_dimAt) (maxL := 4) (ret := (some .int)) (by decide) rfl ?_
  intro p e s m args below meth c s₁ B hml hv
  obtain ⟨rfl, hH, hK⟩ := hv
  have hx := B.exec
  have hb := B.bytes
  have hr := B.returns
  have hts : ∀ w ∈ TT, w.before _ s = true := fun w h => atoms_spec (ws := ww yX8_dimAt cX8_dimAt 4 (some .int)) B.pre w (List.mem_cons_of_mem _ h)
  have hown : s.vm.findClass RX8 = some m.cls := findClass_of_methodNamed B.named
  have hlocks := B.notSynchronized
  rw [hH]
  have hl := lv_entry ([.ref mo, .int (nI en), .int (nI pp), .int vr]) (n := 4) (Nat.le_of_ble_eq_true rfl)
  rw [lg_entry_eq]
  generalize (lg_sl ([.ref mo, .int (nI en), .int (nI pp), .int vr]) ++ List.replicate (4 - (lg_sl ([.ref mo, .int (nI en), .int (nI pp), .int vr])).length) Slot.unset).toArray = ls at hl ⊢
  have hl : lv_has ls 4 [(0, .ref mo), (1, .int (nI en)), (2, .int (nI pp)), (3, .int vr)] := hl
  refine lv_iload_n hx hb dX8_dimAt_0 rfl (lv_at hl 3 rfl) ?_
  refine lv_if_eq (tgt := 38) hx hb dX8_dimAt_1 (by decide) (fun c1 => ?_) (fun c1 => ?_)
  · -- 1 taken
    have hp1 := hp c1
    refine lv_aload_n hx hb dX8_dimAt_38 rfl (lv_at hl 0 rfl) ?_
    refine va_get (D := D) (ci := 8) (v := .ref ((ad 20))) (C := RX8) (T := TX8) (N := 33) hx hb hts iX8 hown hK.1 hP 0 rfl rfl 20 (by decide) (hts _ q_699) (fun _ h9 => h9) rfl dX8_dimAt_39 ?_
    refine lv_iconst (v := 5) hx hb dX8_dimAt_42 (by decide) ?_
    refine lv_iload_n hx hb dX8_dimAt_43 rfl (lv_at hl 1 rfl) ?_
    refine lv_imul hx hb dX8_dimAt_44 ?_
    refine lv_iload_n hx hb dX8_dimAt_45 rfl (lv_at hl 2 rfl) ?_
    refine lv_iadd hx hb dX8_dimAt_46 ?_
    refine iald_n (f := σ 20) hx hb hK.1 hP 18 0 rfl rfl (((5 * en) + pp)) (n_add (a := (5 * en)) (b := pp) (n_mul (a := 5) (b := en) (rfl : (5 : Int32) = nI 5) rfl) rfl) (by omega) (by decide) dX8_dimAt_47 ?_
    exact ro_iret (v := σ 20 (((5 * en) + pp))) hx hb hr hH hlocks dX8_dimAt_48 (by unfold dimF; simp only [eq_true c1, not_true, not_false_iff, not_true_eq_false, not_false_eq_true, true_or, or_true, false_or, or_false, or_self, and_self, true_and, and_true, false_and, and_false, if_true, if_false])
  · -- 1 not
    have hv1 := hv c1
    refine lv_iload_n hx hb dX8_dimAt_4 rfl (lv_at hl 2 rfl) ?_
    refine lv_aload_n hx hb dX8_dimAt_5 rfl (lv_at hl 0 rfl) ?_
    refine va_get (D := D) (ci := 8) (v := .ref ((ad 18))) (C := RX8) (T := TX8) (N := 33) hx hb hts iX8 hown hK.1 hP 0 rfl rfl 18 (by decide) (hts _ q_697) (fun _ h9 => h9) rfl dX8_dimAt_6 ?_
    refine lv_iload_n hx hb dX8_dimAt_9 rfl (lv_at hl 1 rfl) ?_
    refine iald_n (f := σ 18) hx hb hK.1 hP 16 0 rfl rfl (en) rfl (by omega) (by decide) dX8_dimAt_10 ?_
    refine lv_iconst (v := 1) hx hb dX8_dimAt_11 (by decide) ?_
    refine lv_isub hx hb dX8_dimAt_12 ?_
    refine lv_icmp_lt (tgt := 38) hx hb dX8_dimAt_13 (by decide) (fun c2 => ?_) (fun c2 => ?_)
    · -- 13 taken
      have c2 : pp < ((mnE σ en) - 1) := (nI_ltI (a := pp) (b := ((mnE σ en) - 1)) (by omega) (by omega)).mp (by have h8 := c2; rw [(n_sub (a := (mnE σ en)) (b := 1) hm.1 (rfl : (1 : Int32) = nI 1) (by omega))] at h8; exact h8)
      refine lv_aload_n hx hb dX8_dimAt_38 rfl (lv_at hl 0 rfl) ?_
      refine va_get (D := D) (ci := 8) (v := .ref ((ad 20))) (C := RX8) (T := TX8) (N := 33) hx hb hts iX8 hown hK.1 hP 0 rfl rfl 20 (by decide) (hts _ q_699) (fun _ h9 => h9) rfl dX8_dimAt_39 ?_
      refine lv_iconst (v := 5) hx hb dX8_dimAt_42 (by decide) ?_
      refine lv_iload_n hx hb dX8_dimAt_43 rfl (lv_at hl 1 rfl) ?_
      refine lv_imul hx hb dX8_dimAt_44 ?_
      refine lv_iload_n hx hb dX8_dimAt_45 rfl (lv_at hl 2 rfl) ?_
      refine lv_iadd hx hb dX8_dimAt_46 ?_
      refine iald_n (f := σ 20) hx hb hK.1 hP 18 0 rfl rfl (((5 * en) + pp)) (n_add (a := (5 * en)) (b := pp) (n_mul (a := 5) (b := en) (rfl : (5 : Int32) = nI 5) rfl) rfl) (by omega) (by decide) dX8_dimAt_47 ?_
      exact ro_iret (v := σ 20 (((5 * en) + pp))) hx hb hr hH hlocks dX8_dimAt_48 (by unfold dimF; simp only [eq_false c1, eq_true c2, not_true, not_false_iff, not_true_eq_false, not_false_eq_true, true_or, or_true, false_or, or_false, or_self, and_self, true_and, and_true, false_and, and_false, if_true, if_false])
    · -- 13 not
      have c2 : ¬ pp < ((mnE σ en) - 1) := fun h9 => c2 (by rw [(n_sub (a := (mnE σ en)) (b := 1) hm.1 (rfl : (1 : Int32) = nI 1) (by omega))]; exact (nI_ltI (a := pp) (b := ((mnE σ en) - 1)) (by omega) (by omega)).mpr h9)
      refine lv_aload_n hx hb dX8_dimAt_16 rfl (lv_at hl 0 rfl) ?_
      refine va_get (D := D) (ci := 8) (v := .ref ((ad 20))) (C := RX8) (T := TX8) (N := 33) hx hb hts iX8 hown hK.1 hP 0 rfl rfl 20 (by decide) (hts _ q_699) (fun _ h9 => h9) rfl dX8_dimAt_17 ?_
      refine lv_iconst (v := 5) hx hb dX8_dimAt_20 (by decide) ?_
      refine lv_iload_n hx hb dX8_dimAt_21 rfl (lv_at hl 1 rfl) ?_
      refine lv_imul hx hb dX8_dimAt_22 ?_
      refine lv_aload_n hx hb dX8_dimAt_23 rfl (lv_at hl 0 rfl) ?_
      refine va_get (D := D) (ci := 8) (v := .ref ((ad 18))) (C := RX8) (T := TX8) (N := 33) hx hb hts iX8 hown hK.1 hP 0 rfl rfl 18 (by decide) (hts _ q_697) (fun _ h9 => h9) rfl dX8_dimAt_24 ?_
      refine lv_iload_n hx hb dX8_dimAt_27 rfl (lv_at hl 1 rfl) ?_
      refine iald_n (f := σ 18) hx hb hK.1 hP 16 0 rfl rfl (en) rfl (by omega) (by decide) dX8_dimAt_28 ?_
      refine lv_iadd hx hb dX8_dimAt_29 ?_
      refine lv_iconst (v := 1) hx hb dX8_dimAt_30 (by decide) ?_
      refine lv_isub hx hb dX8_dimAt_31 ?_
      refine iald_n (f := σ 20) hx hb hK.1 hP 18 0 rfl rfl ((((5 * en) + (mnE σ en)) - 1)) (n_sub (a := ((5 * en) + (mnE σ en))) (b := 1) (n_add (a := (5 * en)) (b := (mnE σ en)) (n_mul (a := 5) (b := en) (rfl : (5 : Int32) = nI 5) rfl) hm.1) (rfl : (1 : Int32) = nI 1) (by omega)) (by omega) (by decide) dX8_dimAt_32 ?_
      refine lv_iconst (v := 1) hx hb dX8_dimAt_33 (by decide) ?_
      refine lv_isub hx hb dX8_dimAt_34 ?_
      refine lv_goto (tgt := 48) hx hb dX8_dimAt_35 (by decide) ?_
      exact ro_iret (v := (σ 20 ((((5 * en) + (mnE σ en)) - 1))) - 1) hx hb hr hH hlocks dX8_dimAt_48 (by unfold dimF; simp only [eq_false c1, eq_false c2, not_true, not_false_iff, not_true_eq_false, not_false_eq_true, true_or, or_true, false_or, or_false, or_self, and_self, true_and, and_true, false_and, and_false, if_true, if_false])
set_option maxHeartbeats 4000000 in
set_option maxRecDepth 100000 in
theorem m_takes (l : Launch) (D : va_G) (G : Nat → ClassId) (H : Heap) (mo : Nat) (ad : Nat → Nat) (σ : MS) (τ : Nat → Int64) (hP : va_P D vwCl (mW G mo ad σ τ) H) (w0 : Nat) (h22 : σ 22 0 = nI w0) (hw : w0 ≤ 5) (en : Nat) (he : en < 60) (hm : okM σ en) (vr : Int32) (hvr : ¬ σ 17 en = 0 → 1 ≤ mnE σ en) (hkg : ∀ q, q < w0 → kdO (σ 23 q)) (hkf : tkN σ w0 en vr 0 → ∀ q, q < w0 → kdO (kindF σ en q vr)) (hb6 : ∀ i, σ 6 i = 0 ∨ σ 6 i = 1) : Met l yX8_takes (ww yX8_takes cX8_takes 5 (some .boolean)) (rmD 3) (roP D G H [.ref mo, .int (nI en), .int vr]) (vp_Si (fun r => r = bI (tkN σ w0 en vr w0))) 0 0 (fun _ => False) := by
  refine Met.ofW (cc := cX8_takes) (maxL := 5) (ret := (some .boolean)) (by decide) rfl ?_
  intro p e s m args below meth c s₁ B hml hv
  obtain ⟨rfl, hH, hK⟩ := hv
  have hx := B.exec
  have hb := B.bytes
  have hr := B.returns
  have hts : ∀ w ∈ TT, w.before _ s = true := fun w h => atoms_spec (ws := ww yX8_takes cX8_takes 5 (some .boolean)) B.pre w (List.mem_cons_of_mem _ h)
  have hown : s.vm.findClass RX8 = some m.cls := findClass_of_methodNamed B.named
  have hlocks := B.notSynchronized
  rw [hH]
  have hl := lv_entry ([.ref mo, .int (nI en), .int vr]) (n := 5) (Nat.le_of_ble_eq_true rfl)
  rw [lg_entry_eq]
  generalize (lg_sl ([.ref mo, .int (nI en), .int vr]) ++ List.replicate (5 - (lg_sl ([.ref mo, .int (nI en), .int vr])).length) Slot.unset).toArray = ls at hl ⊢
  have hl : lv_has ls 5 [(0, .ref mo), (1, .int (nI en)), (2, .int vr)] := hl
  refine w_join (P := fun b9 => b9 = bI (tkN σ w0 en vr 0)) 54 (ls := ls) (rest := []) (fun b2 e_b2 => ?_) (fun J1 => ?_)
  · -- behind the meeting at 54
    subst e_b2
    refine lv_istore_n (lv' := [(3, .int (bI (tkN σ w0 en vr 0))), (0, .ref mo), (1, .int (nI en)), (2, .int vr)]) hx hb dX8_takes_54 rfl hl (by decide) rfl (fun ls hl => ?_)
    refine lv_iconst (v := 0) hx hb dX8_takes_55 (by decide) ?_
    refine lv_istore (lv' := [(4, .int 0), (3, .int (bI (tkN σ w0 en vr 0))), (0, .ref mo), (1, .int (nI en)), (2, .int vr)]) hx hb dX8_takes_56 hl (by decide) rfl (fun ls hl => ?_)
    refine w_for (N := w0) 58 (L := fun q9 ls => lv_has ls 5 [(4, .int (nI q9)), (3, .int (bI (tkN σ w0 en vr q9))), (0, .ref mo), (1, .int (nI en)), (2, .int vr)]) (fun k9 ls hk hL ih => ?_) 0 ls (Nat.zero_le _) (hl)
    have hl := hL
    have hl : lv_has ls 5 [(4, .int (nI k9)), (3, .int (bI (tkN σ w0 en vr k9))), (0, .ref mo), (1, .int (nI en)), (2, .int vr)] := hl
    refine lv_iload_n hx hb dX8_takes_58 rfl (lv_at hl 1 rfl) ?_
    refine lv_if_eq (tgt := 112) hx hb dX8_takes_59 (by decide) (fun c3 => ?_) (fun c3 => ?_)
    · -- 59 taken
      have c3 := bI_0 c3
      refine lv_iload_n hx hb dX8_takes_112 rfl (lv_at hl 1 rfl) ?_
      exact ro_zret (v := bI (tkN σ w0 en vr k9)) hx hb hr hH hlocks dX8_takes_113 bI_b (tkN_f (by omega) c3)
    · -- 59 not
      have c3 := bI_1 c3
      refine lv_iload hx hb dX8_takes_62 (lv_at hl 0 rfl) ?_
      refine lv_aload_n hx hb dX8_takes_64 rfl (lv_at hl 2 rfl) ?_
      refine va_get (D := D) (ci := 8) (v := .int (σ 22 0)) (C := RX8) (T := TX8) (N := 33) hx hb hts iX8 hown hK.1 hP 0 rfl rfl 22 (by decide) (hts _ q_701) (fun _ h9 => h9) rfl dX8_takes_65 ?_
      refine lv_icmp_ge (tgt := 112) hx hb dX8_takes_68 (by decide) (fun c4 => ?_) (fun c4 => ?_)
      · -- 68 taken
        have c4 : w0 ≤ k9 := (nI_leI (a := w0) (b := k9) (by omega) (by omega)).mp (by have h8 := c4; rw [h22] at h8; exact h8)
        refine lv_iload_n hx hb dX8_takes_112 rfl (lv_at hl 1 rfl) ?_
        exact ro_zret (v := bI (tkN σ w0 en vr k9)) hx hb hr hH hlocks dX8_takes_113 bI_b (by rw [show k9 = w0 by omega])
      · -- 68 not
        have c4 : ¬ w0 ≤ k9 := fun h9 => c4 (by rw [h22]; exact (nI_leI (a := w0) (b := k9) (by omega) (by omega)).mpr h9)
        refine lv_aload_n hx hb dX8_takes_71 rfl (lv_at hl 2 rfl) ?_
        refine lv_aload_n hx hb dX8_takes_72 rfl (lv_at hl 2 rfl) ?_
        refine va_get (D := D) (ci := 8) (v := .ref ((ad 23))) (C := RX8) (T := TX8) (N := 33) hx hb hts iX8 hown hK.1 hP 0 rfl rfl 23 (by decide) (hts _ q_702) (fun _ h9 => h9) rfl dX8_takes_73 ?_
        refine lv_iload hx hb dX8_takes_76 (lv_at hl 0 rfl) ?_
        refine iald_n (f := σ 23) hx hb hK.1 hP 19 0 rfl rfl (k9) rfl (by omega) (by decide) dX8_takes_78 ?_
        refine lv_aload_n hx hb dX8_takes_79 rfl (lv_at hl 2 rfl) ?_
        refine va_get (D := D) (ci := 8) (v := .ref ((ad 24))) (C := RX8) (T := TX8) (N := 33) hx hb hts iX8 hown hK.1 hP 0 rfl rfl 24 (by decide) (hts _ q_703) (fun _ h9 => h9) rfl dX8_takes_80 ?_
        refine lv_iload hx hb dX8_takes_83 (lv_at hl 0 rfl) ?_
        refine iald_n (f := σ 24) hx hb hK.1 hP 20 0 rfl rfl (k9) rfl (by omega) (by decide) dX8_takes_85 ?_
        refine lv_aload_n hx hb dX8_takes_86 rfl (lv_at hl 2 rfl) ?_
        refine lv_iload_n hx hb dX8_takes_87 rfl (lv_at hl 3 rfl) ?_
        refine lv_iload hx hb dX8_takes_88 (lv_at hl 0 rfl) ?_
        refine lv_iload_n hx hb dX8_takes_90 rfl (lv_at hl 4 rfl) ?_
        refine ro_Vi (D := D) (G := G) (As := [.int (nI en), .int (nI k9), .int vr]) (rest := [.int (σ 24 k9), .int (σ 23 k9), .ref mo]) ⟨hx, hb, hml, hown, hts⟩ (m_kindAt l D G _ mo ad _ _ hP (en) (k9) (by omega) hm vr (fun h9 => hvr (by have h8 := (tkN_def.mp c3).1; rw [if_pos h9] at h8; exact h8.1)) (fun h9 => by omega) (by omega)) gV_X8_X8_kindAt hdV_X8_kindAt ⟨Nat.le_of_ble_eq_true rfl, Nat.le_of_ble_eq_true rfl⟩ hK (va_recv hK.1 hP (ci := 8) (q0 := 0) rfl rfl) rfl hl.1 rfl (Nat.le_of_ble_eq_true rfl) dX8_takes_91 ⟨Nat.le_of_ble_eq_true rfl, Nat.le_of_ble_eq_true rfl⟩ (fun r5 e_r5 => ?_)
        subst e_r5
        refine lv_aload_n hx hb dX8_takes_94 rfl (lv_at hl 2 rfl) ?_
        refine lv_iload_n hx hb dX8_takes_95 rfl (lv_at hl 3 rfl) ?_
        refine lv_iload hx hb dX8_takes_96 (lv_at hl 0 rfl) ?_
        refine lv_iload_n hx hb dX8_takes_98 rfl (lv_at hl 4 rfl) ?_
        refine ro_Vi (D := D) (G := G) (As := [.int (nI en), .int (nI k9), .int vr]) (rest := [.int (kindF σ en k9 vr), .int (σ 24 k9), .int (σ 23 k9), .ref mo]) ⟨hx, hb, hml, hown, hts⟩ (m_dimAt l D G _ mo ad _ _ hP (en) (k9) (by omega) hm vr (fun h9 => hvr (by have h8 := (tkN_def.mp c3).1; rw [if_pos h9] at h8; exact h8.1)) (fun h9 => by omega) (by omega)) gV_X8_X8_dimAt hdV_X8_dimAt ⟨Nat.le_of_ble_eq_true rfl, Nat.le_of_ble_eq_true rfl⟩ hK (va_recv hK.1 hP (ci := 8) (q0 := 0) rfl rfl) rfl hl.1 rfl (Nat.le_of_ble_eq_true rfl) dX8_takes_99 ⟨Nat.le_of_ble_eq_true rfl, Nat.le_of_ble_eq_true rfl⟩ (fun r6 e_r6 => ?_)
        subst e_r6
        refine ro_Vi (D := D) (G := G) (As := [.int (σ 23 k9), .int (σ 24 k9), .int (kindF σ en k9 vr), .int (dimF σ en k9 vr)]) (rest := []) ⟨hx, hb, hml, hown, hts⟩ (m_fits l D G _ mo ad _ _ hP (σ 23 k9) (σ 24 k9) (kindF σ en k9 vr) (dimF σ en k9 vr) (hkg _ (by omega)) (hkf (tkN_z c3) _ (by omega)) hb6) gV_X8_X8_fits hdV_X8_fits ⟨Nat.le_of_ble_eq_true rfl, Nat.le_of_ble_eq_true rfl⟩ hK (va_recv hK.1 hP (ci := 8) (q0 := 0) rfl rfl) rfl hl.1 rfl (Nat.le_of_ble_eq_true rfl) dX8_takes_102 ⟨Nat.le_of_ble_eq_true rfl, Nat.le_of_ble_eq_true rfl⟩ (fun r7 e_r7 => ?_)
        subst e_r7
        refine lv_istore_n (lv' := [(3, .int (bI (fitP σ (σ 23 k9) (σ 24 k9) (kindF σ en k9 vr) (dimF σ en k9 vr)))), (4, .int (nI k9)), (0, .ref mo), (1, .int (nI en)), (2, .int vr)]) hx hb dX8_takes_105 rfl hl (by decide) rfl (fun ls hl => ?_)
        refine lv_iinc (v := nI (k9 + 1)) (lv' := [(4, .int (nI (k9 + 1))), (3, .int (bI (fitP σ (σ 23 k9) (σ 24 k9) (kindF σ en k9 vr) (dimF σ en k9 vr)))), (0, .ref mo), (1, .int (nI en)), (2, .int vr)]) hx hb dX8_takes_106 hl (k := 1) rfl (nI_1 _) (by decide) rfl (fun ls hl => ?_)
        refine lv_goto (tgt := 58) hx hb dX8_takes_109 (by decide) ?_
        rw [tkN_s c3] at hl
        exact ih _ (by omega) (lv_sub hl [0, 1, 2, 3, 4] rfl)
  · -- up to the meeting at 54
    refine lv_iload_n hx hb dX8_takes_0 rfl (lv_at hl 2 rfl) ?_
    refine lv_if_eq (tgt := 36) hx hb dX8_takes_1 (by decide) (fun c8 => ?_) (fun c8 => ?_)
    · -- 1 taken
      refine lv_aload_n hx hb dX8_takes_36 rfl (lv_at hl 0 rfl) ?_
      refine va_get (D := D) (ci := 8) (v := .int (σ 22 0)) (C := RX8) (T := TX8) (N := 33) hx hb hts iX8 hown hK.1 hP 0 rfl rfl 22 (by decide) (hts _ q_701) (fun _ h9 => h9) rfl dX8_takes_37 ?_
      refine lv_aload_n hx hb dX8_takes_40 rfl (lv_at hl 0 rfl) ?_
      refine va_get (D := D) (ci := 8) (v := .ref ((ad 18))) (C := RX8) (T := TX8) (N := 33) hx hb hts iX8 hown hK.1 hP 0 rfl rfl 18 (by decide) (hts _ q_697) (fun _ h9 => h9) rfl dX8_takes_41 ?_
      refine lv_iload_n hx hb dX8_takes_44 rfl (lv_at hl 1 rfl) ?_
      refine iald_n (f := σ 18) hx hb hK.1 hP 16 0 rfl rfl (en) rfl (by omega) (by decide) dX8_takes_45 ?_
      refine lv_icmp_ne (tgt := 53) hx hb dX8_takes_46 (by decide) (fun c9 => ?_) (fun c9 => ?_)
      · -- 46 taken
        have c9 : ¬ w0 = (mnE σ en) := fun h9 => c9 (by first | (rw [h22, hm.1, h9]; done) | (rw [h22, hm.1, h9]; rfl))
        refine lv_iconst (v := 0) hx hb dX8_takes_53 (by decide) ?_
        exact J1 0 ((bI_f (by rw [tkN_def]; simp only [eq_true c8, eq_false c9, not_true, not_false_iff, not_true_eq_false, not_false_eq_true, true_or, or_true, false_or, or_false, or_self, and_self, true_and, and_true, false_and, and_false, if_true, if_false, Nat.not_lt_zero, false_implies, implies_true, forall_const])).symm)
      · -- 46 not
        have c9 : w0 = (mnE σ en) := nI_inj (by omega) (by omega) (by have h8 := c9; rw [h22, hm.1] at h8; exact h8)
        refine lv_iconst (v := 1) hx hb dX8_takes_49 (by decide) ?_
        refine lv_goto (tgt := 54) hx hb dX8_takes_50 (by decide) ?_
        exact J1 1 ((bI_t (by rw [tkN_def]; simp only [eq_true c8, eq_true c9, not_true, not_false_iff, not_true_eq_false, not_false_eq_true, true_or, or_true, false_or, or_false, or_self, and_self, true_and, and_true, false_and, and_false, if_true, if_false, Nat.not_lt_zero, false_implies, implies_true, forall_const])).symm)
    · -- 1 not
      refine lv_aload_n hx hb dX8_takes_4 rfl (lv_at hl 0 rfl) ?_
      refine va_get (D := D) (ci := 8) (v := .ref ((ad 17))) (C := RX8) (T := TX8) (N := 33) hx hb hts iX8 hown hK.1 hP 0 rfl rfl 17 (by decide) (hts _ q_696) (fun _ h9 => h9) rfl dX8_takes_5 ?_
      refine lv_iload_n hx hb dX8_takes_8 rfl (lv_at hl 1 rfl) ?_
      refine zald_n (f := σ 17) hx hb hK.1 hP 15 2 rfl rfl (en) rfl (by omega) (by decide) dX8_takes_9 ?_
      refine lv_if_eq (tgt := 32) hx hb dX8_takes_10 (by decide) (fun c10 => ?_) (fun c10 => ?_)
      · -- 10 taken
        refine lv_iconst (v := 0) hx hb dX8_takes_32 (by decide) ?_
        refine lv_goto (tgt := 54) hx hb dX8_takes_33 (by decide) ?_
        exact J1 0 ((bI_f (by rw [tkN_def]; simp only [eq_false c8, eq_true c10, not_true, not_false_iff, not_true_eq_false, not_false_eq_true, true_or, or_true, false_or, or_false, or_self, and_self, true_and, and_true, false_and, and_false, if_true, if_false, Nat.not_lt_zero, false_implies, implies_true, forall_const])).symm)
      · -- 10 not
        have hv1 := hvr c10
        refine lv_aload_n hx hb dX8_takes_13 rfl (lv_at hl 0 rfl) ?_
        refine va_get (D := D) (ci := 8) (v := .int (σ 22 0)) (C := RX8) (T := TX8) (N := 33) hx hb hts iX8 hown hK.1 hP 0 rfl rfl 22 (by decide) (hts _ q_701) (fun _ h9 => h9) rfl dX8_takes_14 ?_
        refine lv_aload_n hx hb dX8_takes_17 rfl (lv_at hl 0 rfl) ?_
        refine va_get (D := D) (ci := 8) (v := .ref ((ad 18))) (C := RX8) (T := TX8) (N := 33) hx hb hts iX8 hown hK.1 hP 0 rfl rfl 18 (by decide) (hts _ q_697) (fun _ h9 => h9) rfl dX8_takes_18 ?_
        refine lv_iload_n hx hb dX8_takes_21 rfl (lv_at hl 1 rfl) ?_
        refine iald_n (f := σ 18) hx hb hK.1 hP 16 0 rfl rfl (en) rfl (by omega) (by decide) dX8_takes_22 ?_
        refine lv_iconst (v := 1) hx hb dX8_takes_23 (by decide) ?_
        refine lv_isub hx hb dX8_takes_24 ?_
        refine lv_icmp_lt (tgt := 32) hx hb dX8_takes_25 (by decide) (fun c11 => ?_) (fun c11 => ?_)
        · -- 25 taken
          have c11 : w0 < ((mnE σ en) - 1) := (nI_ltI (a := w0) (b := ((mnE σ en) - 1)) (by omega) (by omega)).mp (by have h8 := c11; rw [h22, (n_sub (a := (mnE σ en)) (b := 1) hm.1 (rfl : (1 : Int32) = nI 1) (by omega))] at h8; exact h8)
          refine lv_iconst (v := 0) hx hb dX8_takes_32 (by decide) ?_
          refine lv_goto (tgt := 54) hx hb dX8_takes_33 (by decide) ?_
          exact J1 0 ((bI_f (by rw [tkN_def]; simp only [eq_false c8, eq_false c10, eq_true c11, not_true, not_false_iff, not_true_eq_false, not_false_eq_true, true_or, or_true, false_or, or_false, or_self, and_self, true_and, and_true, false_and, and_false, if_true, if_false, Nat.not_lt_zero, false_implies, implies_true, forall_const])).symm)
        · -- 25 not
          have c11 : ¬ w0 < ((mnE σ en) - 1) := fun h9 => c11 (by rw [h22, (n_sub (a := (mnE σ en)) (b := 1) hm.1 (rfl : (1 : Int32) = nI 1) (by omega))]; exact (nI_ltI (a := w0) (b := ((mnE σ en) - 1)) (by omega) (by omega)).mpr h9)
          refine lv_iconst (v := 1) hx hb dX8_takes_28 (by decide) ?_
          refine lv_goto (tgt := 54) hx hb dX8_takes_29 (by decide) ?_
          exact J1 1 ((bI_t (by rw [tkN_def]; simp only [eq_false c8, eq_false c10, eq_false c11, not_true, not_false_iff, not_true_eq_false, not_false_eq_true, true_or, or_true, false_or, or_false, or_self, and_self, true_and, and_true, false_and, and_false, if_true, if_false, Nat.not_lt_zero, false_implies, implies_true, forall_const])).symm)
set_option maxHeartbeats 4000000 in
set_option maxRecDepth 100000 in
theorem m_isNearer (l : Launch) (D : va_G) (G : Nat → ClassId) (H : Heap) (mo : Nat) (ad : Nat → Nat) (σ : MS) (τ : Nat → Int64) (hP : va_P D vwCl (mW G mo ad σ τ) H) (w0 : Nat) (h22 : σ 22 0 = nI w0) (hw : w0 ≤ 5) (a b : Nat) (ha : a < 60) (hb0 : b < 60) (hma : okM σ a) (hmb : okM σ b) (vr : Int32) (hva : ¬ vr = 0 → 1 ≤ mnE σ a) (hvb : ¬ vr = 0 → 1 ≤ mnE σ b) (hkfa : ∀ q, q < plN σ w0 a b vr → kdO (kindF σ a q vr)) (hkfb : ∀ q, q < plN σ w0 a b vr → kdO (kindF σ b q vr)) (hb6 : ∀ i, σ 6 i = 0 ∨ σ 6 i = 1) : Met l yX8_isNearer (ww yX8_isNearer cX8_isNearer 7 (some .boolean)) (rmD 3) (roP D G H [.ref mo, .int (nI a), .int (nI b), .int vr]) (vp_Si (fun r => r = bI (nrN σ a b vr (plN σ w0 a b vr)))) 0 0 (fun _ => False) := by
  refine Met.ofW (cc := cX8_isNearer) (maxL := 7) (ret := (some .boolean)) (by decide) rfl ?_
  intro p e s m args below meth c s₁ B hml hv
  obtain ⟨rfl, hH, hK⟩ := hv
  have hx := B.exec
  have hb := B.bytes
  have hr := B.returns
  have hts : ∀ w ∈ TT, w.before _ s = true := fun w h => atoms_spec (ws := ww yX8_isNearer cX8_isNearer 7 (some .boolean)) B.pre w (List.mem_cons_of_mem _ h)
  have hown : s.vm.findClass RX8 = some m.cls := findClass_of_methodNamed B.named
  have hlocks := B.notSynchronized
  rw [hH]
  have hp7 := plO_le (σ := σ) (v := vr) hw hma.2
  have hp8 := plO_le (σ := σ) (v := vr) hp7 hmb.2
  have hp9 : plN σ w0 a b vr = plO σ (plO σ w0 a vr) b vr := rfl
  have hl := lv_entry ([.ref mo, .int (nI a), .int (nI b), .int vr]) (n := 7) (Nat.le_of_ble_eq_true rfl)
  rw [lg_entry_eq]
  generalize (lg_sl ([.ref mo, .int (nI a), .int (nI b), .int vr]) ++ List.replicate (7 - (lg_sl ([.ref mo, .int (nI a), .int (nI b), .int vr])).length) Slot.unset).toArray = ls at hl ⊢
  have hl : lv_has ls 7 [(0, .ref mo), (1, .int (nI a)), (2, .int (nI b)), (3, .int vr)] := hl
  refine lv_aload_n hx hb dX8_isNearer_0 rfl (lv_at hl 0 rfl) ?_
  refine va_get (D := D) (ci := 8) (v := .int (σ 22 0)) (C := RX8) (T := TX8) (N := 33) hx hb hts iX8 hown hK.1 hP 0 rfl rfl 22 (by decide) (hts _ q_701) (fun _ h9 => h9) rfl dX8_isNearer_1 ?_
  refine lv_istore (lv' := [(4, .int (σ 22 0)), (0, .ref mo), (1, .int (nI a)), (2, .int (nI b)), (3, .int vr)]) hx hb dX8_isNearer_4 hl (by decide) rfl (fun ls hl => ?_)
  refine w_join (P := fun b9 => b9 = nI (plO σ w0 a vr)) 32 (ls := ls) (rest := []) (fun b2 e_b2 => ?_) (fun J1 => ?_)
  · -- behind the meeting at 32
    subst e_b2
    refine lv_istore (lv' := [(4, .int (nI (plO σ w0 a vr))), (0, .ref mo), (1, .int (nI a)), (2, .int (nI b)), (3, .int vr)]) hx hb dX8_isNearer_32 hl (by decide) rfl (fun ls hl => ?_)
    refine w_join (P := fun b9 => b9 = nI (plO σ (plO σ w0 a vr) b vr)) 60 (ls := ls) (rest := []) (fun b4 e_b4 => ?_) (fun J3 => ?_)
    · -- behind the meeting at 60
      subst e_b4
      refine lv_istore (lv' := [(4, .int (nI (plO σ (plO σ w0 a vr) b vr))), (0, .ref mo), (1, .int (nI a)), (2, .int (nI b)), (3, .int vr)]) hx hb dX8_isNearer_60 hl (by decide) rfl (fun ls hl => ?_)
      refine lv_iconst (v := 1) hx hb dX8_isNearer_62 (by decide) ?_
      refine lv_istore (lv' := [(5, .int 1), (4, .int (nI (plO σ (plO σ w0 a vr) b vr))), (0, .ref mo), (1, .int (nI a)), (2, .int (nI b)), (3, .int vr)]) hx hb dX8_isNearer_63 hl (by decide) rfl (fun ls hl => ?_)
      refine lv_iconst (v := 0) hx hb dX8_isNearer_65 (by decide) ?_
      refine lv_istore (lv' := [(6, .int 0), (5, .int 1), (4, .int (nI (plO σ (plO σ w0 a vr) b vr))), (0, .ref mo), (1, .int (nI a)), (2, .int (nI b)), (3, .int vr)]) hx hb dX8_isNearer_66 hl (by decide) rfl (fun ls hl => ?_)
      refine w_for (N := plN σ w0 a b vr) 68 (L := fun q9 ls => lv_has ls 7 [(6, .int (nI q9)), (5, .int (bI (nrN σ a b vr q9))), (4, .int (nI (plO σ (plO σ w0 a vr) b vr))), (0, .ref mo), (1, .int (nI a)), (2, .int (nI b)), (3, .int vr)]) (fun k9 ls hk hL ih => ?_) 0 ls (Nat.zero_le _) (by rw [nrN_0 (σ := σ) (a := a) (b := b) (v := vr)] at hl; exact hl)
      have hl := hL
      have hl : lv_has ls 7 [(6, .int (nI k9)), (5, .int (bI (nrN σ a b vr k9))), (4, .int (nI (plO σ (plO σ w0 a vr) b vr))), (0, .ref mo), (1, .int (nI a)), (2, .int (nI b)), (3, .int vr)] := hl
      refine lv_iload hx hb dX8_isNearer_68 (lv_at hl 1 rfl) ?_
      refine lv_if_eq (tgt := 124) hx hb dX8_isNearer_70 (by decide) (fun c5 => ?_) (fun c5 => ?_)
      · -- 70 taken
        have c5 := bI_0 c5
        refine lv_iload hx hb dX8_isNearer_124 (lv_at hl 1 rfl) ?_
        exact ro_zret (v := bI (nrN σ a b vr k9)) hx hb hr hH hlocks dX8_isNearer_126 bI_b (nrN_f (by omega) c5)
      · -- 70 not
        have c5 := bI_1 c5
        refine lv_iload hx hb dX8_isNearer_73 (lv_at hl 0 rfl) ?_
        refine lv_iload hx hb dX8_isNearer_75 (lv_at hl 2 rfl) ?_
        refine lv_icmp_ge (tgt := 124) hx hb dX8_isNearer_77 (by decide) (fun c6 => ?_) (fun c6 => ?_)
        · -- 77 taken
          have c6 : (plO σ (plO σ w0 a vr) b vr) ≤ k9 := (nI_leI (a := (plO σ (plO σ w0 a vr) b vr)) (b := k9) (by omega) (by omega)).mp (by have h8 := c6; exact h8)
          refine lv_iload hx hb dX8_isNearer_124 (lv_at hl 1 rfl) ?_
          exact ro_zret (v := bI (nrN σ a b vr k9)) hx hb hr hH hlocks dX8_isNearer_126 bI_b (by rw [show k9 = plN σ w0 a b vr by omega])
        · -- 77 not
          have c6 : ¬ (plO σ (plO σ w0 a vr) b vr) ≤ k9 := fun h9 => c6 (by exact (nI_leI (a := (plO σ (plO σ w0 a vr) b vr)) (b := k9) (by omega) (by omega)).mpr h9)
          refine lv_aload_n hx hb dX8_isNearer_80 rfl (lv_at hl 3 rfl) ?_
          refine lv_aload_n hx hb dX8_isNearer_81 rfl (lv_at hl 3 rfl) ?_
          refine lv_iload_n hx hb dX8_isNearer_82 rfl (lv_at hl 4 rfl) ?_
          refine lv_iload hx hb dX8_isNearer_83 (lv_at hl 0 rfl) ?_
          refine lv_iload_n hx hb dX8_isNearer_85 rfl (lv_at hl 6 rfl) ?_
          refine ro_Vi (D := D) (G := G) (As := [.int (nI a), .int (nI k9), .int vr]) (rest := [.ref mo]) ⟨hx, hb, hml, hown, hts⟩ (m_kindAt l D G _ mo ad _ _ hP (a) (k9) (by omega) hma vr hva (fun h9 => by omega) (by omega)) gV_X8_X8_kindAt hdV_X8_kindAt ⟨Nat.le_of_ble_eq_true rfl, Nat.le_of_ble_eq_true rfl⟩ hK (va_recv hK.1 hP (ci := 8) (q0 := 0) rfl rfl) rfl hl.1 rfl (Nat.le_of_ble_eq_true rfl) dX8_isNearer_86 ⟨Nat.le_of_ble_eq_true rfl, Nat.le_of_ble_eq_true rfl⟩ (fun r7 e_r7 => ?_)
          subst e_r7
          refine lv_aload_n hx hb dX8_isNearer_89 rfl (lv_at hl 3 rfl) ?_
          refine lv_iload_n hx hb dX8_isNearer_90 rfl (lv_at hl 4 rfl) ?_
          refine lv_iload hx hb dX8_isNearer_91 (lv_at hl 0 rfl) ?_
          refine lv_iload_n hx hb dX8_isNearer_93 rfl (lv_at hl 6 rfl) ?_
          refine ro_Vi (D := D) (G := G) (As := [.int (nI a), .int (nI k9), .int vr]) (rest := [.int (kindF σ a k9 vr), .ref mo]) ⟨hx, hb, hml, hown, hts⟩ (m_dimAt l D G _ mo ad _ _ hP (a) (k9) (by omega) hma vr hva (fun h9 => by omega) (by omega)) gV_X8_X8_dimAt hdV_X8_dimAt ⟨Nat.le_of_ble_eq_true rfl, Nat.le_of_ble_eq_true rfl⟩ hK (va_recv hK.1 hP (ci := 8) (q0 := 0) rfl rfl) rfl hl.1 rfl (Nat.le_of_ble_eq_true rfl) dX8_isNearer_94 ⟨Nat.le_of_ble_eq_true rfl, Nat.le_of_ble_eq_true rfl⟩ (fun r8 e_r8 => ?_)
          subst e_r8
          refine lv_aload_n hx hb dX8_isNearer_97 rfl (lv_at hl 3 rfl) ?_
          refine lv_iload_n hx hb dX8_isNearer_98 rfl (lv_at hl 5 rfl) ?_
          refine lv_iload hx hb dX8_isNearer_99 (lv_at hl 0 rfl) ?_
          refine lv_iload_n hx hb dX8_isNearer_101 rfl (lv_at hl 6 rfl) ?_
          refine ro_Vi (D := D) (G := G) (As := [.int (nI b), .int (nI k9), .int vr]) (rest := [.int (dimF σ a k9 vr), .int (kindF σ a k9 vr), .ref mo]) ⟨hx, hb, hml, hown, hts⟩ (m_kindAt l D G _ mo ad _ _ hP (b) (k9) (by omega) hmb vr hvb (fun h9 => by omega) (by omega)) gV_X8_X8_kindAt hdV_X8_kindAt ⟨Nat.le_of_ble_eq_true rfl, Nat.le_of_ble_eq_true rfl⟩ hK (va_recv hK.1 hP (ci := 8) (q0 := 0) rfl rfl) rfl hl.1 rfl (Nat.le_of_ble_eq_true rfl) dX8_isNearer_102 ⟨Nat.le_of_ble_eq_true rfl, Nat.le_of_ble_eq_true rfl⟩ (fun r9 e_r9 => ?_)
          subst e_r9
          refine lv_aload_n hx hb dX8_isNearer_105 rfl (lv_at hl 3 rfl) ?_
          refine lv_iload_n hx hb dX8_isNearer_106 rfl (lv_at hl 5 rfl) ?_
          refine lv_iload hx hb dX8_isNearer_107 (lv_at hl 0 rfl) ?_
          refine lv_iload_n hx hb dX8_isNearer_109 rfl (lv_at hl 6 rfl) ?_
          refine ro_Vi (D := D) (G := G) (As := [.int (nI b), .int (nI k9), .int vr]) (rest := [.int (kindF σ b k9 vr), .int (dimF σ a k9 vr), .int (kindF σ a k9 vr), .ref mo]) ⟨hx, hb, hml, hown, hts⟩ (m_dimAt l D G _ mo ad _ _ hP (b) (k9) (by omega) hmb vr hvb (fun h9 => by omega) (by omega)) gV_X8_X8_dimAt hdV_X8_dimAt ⟨Nat.le_of_ble_eq_true rfl, Nat.le_of_ble_eq_true rfl⟩ hK (va_recv hK.1 hP (ci := 8) (q0 := 0) rfl rfl) rfl hl.1 rfl (Nat.le_of_ble_eq_true rfl) dX8_isNearer_110 ⟨Nat.le_of_ble_eq_true rfl, Nat.le_of_ble_eq_true rfl⟩ (fun r10 e_r10 => ?_)
          subst e_r10
          refine ro_Vi (D := D) (G := G) (As := [.int (kindF σ a k9 vr), .int (dimF σ a k9 vr), .int (kindF σ b k9 vr), .int (dimF σ b k9 vr)]) (rest := []) ⟨hx, hb, hml, hown, hts⟩ (m_fits l D G _ mo ad _ _ hP (kindF σ a k9 vr) (dimF σ a k9 vr) (kindF σ b k9 vr) (dimF σ b k9 vr) (hkfa _ (by omega)) (hkfb _ (by omega)) hb6) gV_X8_X8_fits hdV_X8_fits ⟨Nat.le_of_ble_eq_true rfl, Nat.le_of_ble_eq_true rfl⟩ hK (va_recv hK.1 hP (ci := 8) (q0 := 0) rfl rfl) rfl hl.1 rfl (Nat.le_of_ble_eq_true rfl) dX8_isNearer_113 ⟨Nat.le_of_ble_eq_true rfl, Nat.le_of_ble_eq_true rfl⟩ (fun r11 e_r11 => ?_)
          subst e_r11
          refine lv_istore (lv' := [(5, .int (bI (fitP σ (kindF σ a k9 vr) (dimF σ a k9 vr) (kindF σ b k9 vr) (dimF σ b k9 vr)))), (6, .int (nI k9)), (4, .int (nI (plO σ (plO σ w0 a vr) b vr))), (0, .ref mo), (1, .int (nI a)), (2, .int (nI b)), (3, .int vr)]) hx hb dX8_isNearer_116 hl (by decide) rfl (fun ls hl => ?_)
          refine lv_iinc (v := nI (k9 + 1)) (lv' := [(6, .int (nI (k9 + 1))), (5, .int (bI (fitP σ (kindF σ a k9 vr) (dimF σ a k9 vr) (kindF σ b k9 vr) (dimF σ b k9 vr)))), (4, .int (nI (plO σ (plO σ w0 a vr) b vr))), (0, .ref mo), (1, .int (nI a)), (2, .int (nI b)), (3, .int vr)]) hx hb dX8_isNearer_118 hl (k := 1) rfl (nI_1 _) (by decide) rfl (fun ls hl => ?_)
          refine lv_goto (tgt := 68) hx hb dX8_isNearer_121 (by decide) ?_
          rw [nrN_s c5] at hl
          exact ih _ (by omega) (lv_sub hl [0, 1, 2, 3, 4, 5, 6] rfl)
    · -- up to the meeting at 60
      refine lv_iload_n hx hb dX8_isNearer_34 rfl (lv_at hl 4 rfl) ?_
      refine lv_if_eq (tgt := 58) hx hb dX8_isNearer_35 (by decide) (fun c12 => ?_) (fun c12 => ?_)
      · -- 35 taken
        refine lv_iload hx hb dX8_isNearer_58 (lv_at hl 0 rfl) ?_
        exact J3 (nI (plO σ w0 a vr)) (by exact congrArg nI (plO_0 c12).symm)
      · -- 35 not
        refine lv_aload_n hx hb dX8_isNearer_38 rfl (lv_at hl 1 rfl) ?_
        refine va_get (D := D) (ci := 8) (v := .ref ((ad 18))) (C := RX8) (T := TX8) (N := 33) hx hb hts iX8 hown hK.1 hP 0 rfl rfl 18 (by decide) (hts _ q_697) (fun _ h9 => h9) rfl dX8_isNearer_39 ?_
        refine lv_iload_n hx hb dX8_isNearer_42 rfl (lv_at hl 3 rfl) ?_
        refine iald_n (f := σ 18) hx hb hK.1 hP 16 0 rfl rfl (b) rfl (by omega) (by decide) dX8_isNearer_43 ?_
        refine lv_iload hx hb dX8_isNearer_44 (lv_at hl 0 rfl) ?_
        refine lv_icmp_le (tgt := 58) hx hb dX8_isNearer_46 (by decide) (fun c13 => ?_) (fun c13 => ?_)
        · -- 46 taken
          have c13 : (mnE σ b) ≤ (plO σ w0 a vr) := (nI_leI (a := (mnE σ b)) (b := (plO σ w0 a vr)) (by omega) (by omega)).mp (by have h8 := c13; rw [hmb.1] at h8; exact h8)
          refine lv_iload hx hb dX8_isNearer_58 (lv_at hl 0 rfl) ?_
          exact J3 (nI (plO σ w0 a vr)) (by exact congrArg nI (plO_1 c12 c13).symm)
        · -- 46 not
          have c13 : ¬ (mnE σ b) ≤ (plO σ w0 a vr) := fun h9 => c13 (by rw [hmb.1]; exact (nI_leI (a := (mnE σ b)) (b := (plO σ w0 a vr)) (by omega) (by omega)).mpr h9)
          refine lv_aload_n hx hb dX8_isNearer_49 rfl (lv_at hl 1 rfl) ?_
          refine va_get (D := D) (ci := 8) (v := .ref ((ad 18))) (C := RX8) (T := TX8) (N := 33) hx hb hts iX8 hown hK.1 hP 0 rfl rfl 18 (by decide) (hts _ q_697) (fun _ h9 => h9) rfl dX8_isNearer_50 ?_
          refine lv_iload_n hx hb dX8_isNearer_53 rfl (lv_at hl 3 rfl) ?_
          refine iald_n (f := σ 18) hx hb hK.1 hP 16 0 rfl rfl (b) rfl (by omega) (by decide) dX8_isNearer_54 ?_
          refine lv_goto (tgt := 60) hx hb dX8_isNearer_55 (by decide) ?_
          exact J3 (σ 18 b) (by rw [hmb.1]; exact congrArg nI (plO_2 c12 c13).symm)
  · -- up to the meeting at 32
    refine lv_iload_n hx hb dX8_isNearer_6 rfl (lv_at hl 4 rfl) ?_
    refine lv_if_eq (tgt := 30) hx hb dX8_isNearer_7 (by decide) (fun c14 => ?_) (fun c14 => ?_)
    · -- 7 taken
      refine lv_iload hx hb dX8_isNearer_30 (lv_at hl 0 rfl) ?_
      exact J1 (σ 22 0) (by rw [h22]; exact congrArg nI (plO_0 c14).symm)
    · -- 7 not
      refine lv_aload_n hx hb dX8_isNearer_10 rfl (lv_at hl 1 rfl) ?_
      refine va_get (D := D) (ci := 8) (v := .ref ((ad 18))) (C := RX8) (T := TX8) (N := 33) hx hb hts iX8 hown hK.1 hP 0 rfl rfl 18 (by decide) (hts _ q_697) (fun _ h9 => h9) rfl dX8_isNearer_11 ?_
      refine lv_iload_n hx hb dX8_isNearer_14 rfl (lv_at hl 2 rfl) ?_
      refine iald_n (f := σ 18) hx hb hK.1 hP 16 0 rfl rfl (a) rfl (by omega) (by decide) dX8_isNearer_15 ?_
      refine lv_iload hx hb dX8_isNearer_16 (lv_at hl 0 rfl) ?_
      refine lv_icmp_le (tgt := 30) hx hb dX8_isNearer_18 (by decide) (fun c15 => ?_) (fun c15 => ?_)
      · -- 18 taken
        have c15 : (mnE σ a) ≤ w0 := (nI_leI (a := (mnE σ a)) (b := w0) (by omega) (by omega)).mp (by have h8 := c15; rw [hma.1, h22] at h8; exact h8)
        refine lv_iload hx hb dX8_isNearer_30 (lv_at hl 0 rfl) ?_
        exact J1 (σ 22 0) (by rw [h22]; exact congrArg nI (plO_1 c14 c15).symm)
      · -- 18 not
        have c15 : ¬ (mnE σ a) ≤ w0 := fun h9 => c15 (by rw [hma.1, h22]; exact (nI_leI (a := (mnE σ a)) (b := w0) (by omega) (by omega)).mpr h9)
        refine lv_aload_n hx hb dX8_isNearer_21 rfl (lv_at hl 1 rfl) ?_
        refine va_get (D := D) (ci := 8) (v := .ref ((ad 18))) (C := RX8) (T := TX8) (N := 33) hx hb hts iX8 hown hK.1 hP 0 rfl rfl 18 (by decide) (hts _ q_697) (fun _ h9 => h9) rfl dX8_isNearer_22 ?_
        refine lv_iload_n hx hb dX8_isNearer_25 rfl (lv_at hl 2 rfl) ?_
        refine iald_n (f := σ 18) hx hb hK.1 hP 16 0 rfl rfl (a) rfl (by omega) (by decide) dX8_isNearer_26 ?_
        refine lv_goto (tgt := 32) hx hb dX8_isNearer_27 (by decide) ?_
        exact J1 (σ 18 a) (by rw [hma.1]; exact congrArg nI (plO_2 c14 c15).symm)
set_option maxHeartbeats 4000000 in
set_option maxRecDepth 100000 in
theorem m_makes (l : Launch) (D : va_G) (G : Nat → ClassId) (H : Heap) (mo : Nat) (ad : Nat → Nat) (σ : MS) (τ : Nat → Int64) (hP : va_P D vwCl (mW G mo ad σ τ) H) (t en wa : Nat) (ht : t < 12) (he : en < 60) (hwa : wa < 60) (hee : okE σ en) (hm : okM σ en) (hb6 : ∀ i, σ 6 i = 0 ∨ σ 6 i = 1) : Met l yX8_makes (ww yX8_makes cX8_makes 4 (some .boolean)) (rmD 1) (roP D G H [.ref mo, .int (nI t), .int (nI en), .int (nI wa)]) (vp_Si (fun r => r = bI (mkP σ t en wa))) 0 0 (fun _ => False) := by
  refine Met.ofW (cc := cX8_makes) (maxL := 4) (ret := (some .boolean)) (by decide) rfl ?_
  intro p e s m args below meth c s₁ B hml hv
  obtain ⟨rfl, hH, hK⟩ := hv
  have hx := B.exec
  have hb := B.bytes
  have hr := B.returns
  have hts : ∀ w ∈ TT, w.before _ s = true := fun w h => atoms_spec (ws := ww yX8_makes cX8_makes 4 (some .boolean)) B.pre w (List.mem_cons_of_mem _ h)
  have hown : s.vm.findClass RX8 = some m.cls := findClass_of_methodNamed B.named
  have hlocks := B.notSynchronized
  rw [hH]
  have hl := lv_entry ([.ref mo, .int (nI t), .int (nI en), .int (nI wa)]) (n := 4) (Nat.le_of_ble_eq_true rfl)
  rw [lg_entry_eq]
  generalize (lg_sl ([.ref mo, .int (nI t), .int (nI en), .int (nI wa)]) ++ List.replicate (4 - (lg_sl ([.ref mo, .int (nI t), .int (nI en), .int (nI wa)])).length) Slot.unset).toArray = ls at hl ⊢
  have hl : lv_has ls 4 [(0, .ref mo), (1, .int (nI t)), (2, .int (nI en)), (3, .int (nI wa))] := hl
  refine lv_aload_n hx hb dX8_makes_0 rfl (lv_at hl 0 rfl) ?_
  refine va_get (D := D) (ci := 8) (v := .ref ((ad 8))) (C := RX8) (T := TX8) (N := 33) hx hb hts iX8 hown hK.1 hP 0 rfl rfl 8 (by decide) (hts _ q_687) (fun _ h9 => h9) rfl dX8_makes_1 ?_
  refine lv_iload_n hx hb dX8_makes_4 rfl (lv_at hl 2 rfl) ?_
  refine zald_n (f := σ 8) hx hb hK.1 hP 6 2 rfl rfl (en) rfl (by omega) (by decide) dX8_makes_5 ?_
  refine lv_if_eq (tgt := 47) hx hb dX8_makes_6 (by decide) (fun c1 => ?_) (fun c1 => ?_)
  · -- 6 taken
    refine lv_iconst (v := 0) hx hb dX8_makes_47 (by decide) ?_
    exact ro_zret (v := 0) hx hb hr hH hlocks dX8_makes_48 (Or.inl rfl) ((bI_f (by rw [mkP_def]; simp only [eq_true c1, not_true, not_false_iff, not_true_eq_false, not_false_eq_true, true_or, or_true, false_or, or_false, or_self, and_self, true_and, and_true, false_and, and_false, if_true, if_false])).symm)
  · -- 6 not
    refine lv_aload_n hx hb dX8_makes_9 rfl (lv_at hl 0 rfl) ?_
    refine lv_iload_n hx hb dX8_makes_10 rfl (lv_at hl 1 rfl) ?_
    refine lv_aload_n hx hb dX8_makes_11 rfl (lv_at hl 0 rfl) ?_
    refine va_get (D := D) (ci := 8) (v := .ref ((ad 9))) (C := RX8) (T := TX8) (N := 33) hx hb hts iX8 hown hK.1 hP 0 rfl rfl 9 (by decide) (hts _ q_688) (fun _ h9 => h9) rfl dX8_makes_12 ?_
    refine lv_iload_n hx hb dX8_makes_15 rfl (lv_at hl 2 rfl) ?_
    refine iald_n (f := σ 9) hx hb hK.1 hP 7 0 rfl rfl (en) rfl (by omega) (by decide) dX8_makes_16 ?_
    refine W.eq (g2 := F0 m 17 ls [.int (nI (tyE σ en)), .int (nI t), .ref mo]) (congrArg (fun z9 => F0 m 17 ls [.int z9, .int (nI t), .ref mo]) hee.1) ?_
    refine ro_Vi (D := D) (G := G) (As := [.int (nI t), .int (nI (tyE σ en))]) (rest := []) ⟨hx, hb, hml, hown, hts⟩ (m_lies l D G _ mo ad _ _ hP (t) ((tyE σ en)) (by omega) (by omega) hb6) gV_X8_X8_lies hdV_X8_lies ⟨Nat.le_of_ble_eq_true rfl, Nat.le_of_ble_eq_true rfl⟩ hK (va_recv hK.1 hP (ci := 8) (q0 := 0) rfl rfl) rfl hl.1 rfl (Nat.le_of_ble_eq_true rfl) dX8_makes_17 ⟨Nat.le_of_ble_eq_true rfl, Nat.le_of_ble_eq_true rfl⟩ (fun r2 e_r2 => ?_)
    subst e_r2
    refine lv_if_eq (tgt := 47) hx hb dX8_makes_20 (by decide) (fun c3 => ?_) (fun c3 => ?_)
    · -- 20 taken
      have c3 := bI_0 c3
      refine lv_iconst (v := 0) hx hb dX8_makes_47 (by decide) ?_
      exact ro_zret (v := 0) hx hb hr hH hlocks dX8_makes_48 (Or.inl rfl) ((bI_f (by rw [mkP_def]; simp only [eq_false c1, eq_false c3, not_true, not_false_iff, not_true_eq_false, not_false_eq_true, true_or, or_true, false_or, or_false, or_self, and_self, true_and, and_true, false_and, and_false, if_true, if_false])).symm)
    · -- 20 not
      have c3 := bI_1 c3
      refine lv_aload_n hx hb dX8_makes_23 rfl (lv_at hl 0 rfl) ?_
      refine va_get (D := D) (ci := 8) (v := .ref ((ad 10))) (C := RX8) (T := TX8) (N := 33) hx hb hts iX8 hown hK.1 hP 0 rfl rfl 10 (by decide) (hts _ q_689) (fun _ h9 => h9) rfl dX8_makes_24 ?_
      refine lv_iload_n hx hb dX8_makes_27 rfl (lv_at hl 2 rfl) ?_
      refine iald_n (f := σ 10) hx hb hK.1 hP 8 0 rfl rfl (en) rfl (by omega) (by decide) dX8_makes_28 ?_
      refine lv_aload_n hx hb dX8_makes_29 rfl (lv_at hl 0 rfl) ?_
      refine va_get (D := D) (ci := 8) (v := .ref ((ad 10))) (C := RX8) (T := TX8) (N := 33) hx hb hts iX8 hown hK.1 hP 0 rfl rfl 10 (by decide) (hts _ q_689) (fun _ h9 => h9) rfl dX8_makes_30 ?_
      refine lv_iload_n hx hb dX8_makes_33 rfl (lv_at hl 3 rfl) ?_
      refine iald_n (f := σ 10) hx hb hK.1 hP 8 0 rfl rfl (wa) rfl (by omega) (by decide) dX8_makes_34 ?_
      refine lv_icmp_ne (tgt := 47) hx hb dX8_makes_35 (by decide) (fun c4 => ?_) (fun c4 => ?_)
      · -- 35 taken
        refine lv_iconst (v := 0) hx hb dX8_makes_47 (by decide) ?_
        exact ro_zret (v := 0) hx hb hr hH hlocks dX8_makes_48 (Or.inl rfl) ((bI_f (by rw [mkP_def]; simp only [eq_false c1, eq_true c3, eq_false c4, not_true, not_false_iff, not_true_eq_false, not_false_eq_true, true_or, or_true, false_or, or_false, or_self, and_self, true_and, and_true, false_and, and_false, if_true, if_false])).symm)
      · -- 35 not
        refine lv_aload_n hx hb dX8_makes_38 rfl (lv_at hl 0 rfl) ?_
        refine lv_iload_n hx hb dX8_makes_39 rfl (lv_at hl 2 rfl) ?_
        refine lv_iload_n hx hb dX8_makes_40 rfl (lv_at hl 3 rfl) ?_
        refine ro_Vi (D := D) (G := G) (As := [.int (nI en), .int (nI wa)]) (rest := []) ⟨hx, hb, hml, hown, hts⟩ (m_sameParts l D G _ mo ad _ _ hP (en) (wa) (by omega) (by omega) hm) gV_X8_X8_sameParts hdV_X8_sameParts ⟨Nat.le_of_ble_eq_true rfl, Nat.le_of_ble_eq_true rfl⟩ hK (va_recv hK.1 hP (ci := 8) (q0 := 0) rfl rfl) rfl hl.1 rfl (Nat.le_of_ble_eq_true rfl) dX8_makes_41 ⟨Nat.le_of_ble_eq_true rfl, Nat.le_of_ble_eq_true rfl⟩ (fun r5 e_r5 => ?_)
        subst e_r5
        refine lv_if_ne (tgt := 49) hx hb dX8_makes_44 (by decide) (fun c6 => ?_) (fun c6 => ?_)
        · -- 44 taken
          have c6 := bI_1 c6
          refine lv_aload_n hx hb dX8_makes_49 rfl (lv_at hl 0 rfl) ?_
          refine lv_aload_n hx hb dX8_makes_50 rfl (lv_at hl 0 rfl) ?_
          refine va_get (D := D) (ci := 8) (v := .ref ((ad 9))) (C := RX8) (T := TX8) (N := 33) hx hb hts iX8 hown hK.1 hP 0 rfl rfl 9 (by decide) (hts _ q_688) (fun _ h9 => h9) rfl dX8_makes_51 ?_
          refine lv_iload_n hx hb dX8_makes_54 rfl (lv_at hl 2 rfl) ?_
          refine iald_n (f := σ 9) hx hb hK.1 hP 7 0 rfl rfl (en) rfl (by omega) (by decide) dX8_makes_55 ?_
          refine W.eq (g2 := F0 m 56 ls [.int (nI (tyE σ en)), .ref mo]) (congrArg (fun z9 => F0 m 56 ls [.int z9, .ref mo]) hee.1) ?_
          refine ro_Vi (D := D) (G := G) (As := [.int (nI (tyE σ en))]) (rest := []) ⟨hx, hb, hml, hown, hts⟩ (m_isFace l D G _ mo ad _ _ hP ((tyE σ en)) (by omega)) gV_X8_X8_isFace hdV_X8_isFace ⟨Nat.le_of_ble_eq_true rfl, Nat.le_of_ble_eq_true rfl⟩ hK (va_recv hK.1 hP (ci := 8) (q0 := 0) rfl rfl) rfl hl.1 rfl (Nat.le_of_ble_eq_true rfl) dX8_makes_56 ⟨Nat.le_of_ble_eq_true rfl, Nat.le_of_ble_eq_true rfl⟩ (fun r7 e_r7 => ?_)
          subst e_r7
          refine lv_if_eq (tgt := 81) hx hb dX8_makes_59 (by decide) (fun c8 => ?_) (fun c8 => ?_)
          · -- 59 taken
            have c8 := bI_0 c8
            refine lv_aload_n hx hb dX8_makes_81 rfl (lv_at hl 0 rfl) ?_
            refine va_get (D := D) (ci := 8) (v := .ref ((ad 16))) (C := RX8) (T := TX8) (N := 33) hx hb hts iX8 hown hK.1 hP 0 rfl rfl 16 (by decide) (hts _ q_695) (fun _ h9 => h9) rfl dX8_makes_82 ?_
            refine lv_iload_n hx hb dX8_makes_85 rfl (lv_at hl 2 rfl) ?_
            refine zald_n (f := σ 16) hx hb hK.1 hP 14 2 rfl rfl (en) rfl (by omega) (by decide) dX8_makes_86 ?_
            refine lv_if_ne (tgt := 103) hx hb dX8_makes_87 (by decide) (fun c9 => ?_) (fun c9 => ?_)
            · -- 87 taken
              refine lv_aload_n hx hb dX8_makes_103 rfl (lv_at hl 0 rfl) ?_
              refine va_get (D := D) (ci := 8) (v := .ref ((ad 13))) (C := RX8) (T := TX8) (N := 33) hx hb hts iX8 hown hK.1 hP 0 rfl rfl 13 (by decide) (hts _ q_692) (fun _ h9 => h9) rfl dX8_makes_104 ?_
              refine lv_iload_n hx hb dX8_makes_107 rfl (lv_at hl 2 rfl) ?_
              refine iald_n (f := σ 13) hx hb hK.1 hP 11 0 rfl rfl (en) rfl (by omega) (by decide) dX8_makes_108 ?_
              refine lv_bipush (v := 12) hx hb dX8_makes_109 (by decide) ?_
              refine lv_iand hx hb dX8_makes_111 ?_
              refine lv_if_ne (tgt := 119) hx hb dX8_makes_112 (by decide) (fun c10 => ?_) (fun c10 => ?_)
              · -- 112 taken
                refine lv_iconst (v := 0) hx hb dX8_makes_119 (by decide) ?_
                exact ro_zret (v := 0) hx hb hr hH hlocks dX8_makes_120 (Or.inl rfl) ((bI_f (by rw [mkP_def]; simp only [eq_false c1, eq_true c3, eq_true c4, eq_true c6, eq_false c8, eq_false c9, eq_false c10, not_true, not_false_iff, not_true_eq_false, not_false_eq_true, true_or, or_true, false_or, or_false, or_self, and_self, true_and, and_true, false_and, and_false, if_true, if_false])).symm)
              · -- 112 not
                refine lv_iconst (v := 1) hx hb dX8_makes_115 (by decide) ?_
                refine lv_goto (tgt := 120) hx hb dX8_makes_116 (by decide) ?_
                exact ro_zret (v := 1) hx hb hr hH hlocks dX8_makes_120 (Or.inr rfl) ((bI_t (by rw [mkP_def]; simp only [eq_false c1, eq_true c3, eq_true c4, eq_true c6, eq_false c8, eq_false c9, eq_true c10, not_true, not_false_iff, not_true_eq_false, not_false_eq_true, true_or, or_true, false_or, or_false, or_self, and_self, true_and, and_true, false_and, and_false, if_true, if_false])).symm)
            · -- 87 not
              refine lv_aload_n hx hb dX8_makes_90 rfl (lv_at hl 0 rfl) ?_
              refine va_get (D := D) (ci := 8) (v := .ref ((ad 13))) (C := RX8) (T := TX8) (N := 33) hx hb hts iX8 hown hK.1 hP 0 rfl rfl 13 (by decide) (hts _ q_692) (fun _ h9 => h9) rfl dX8_makes_91 ?_
              refine lv_iload_n hx hb dX8_makes_94 rfl (lv_at hl 2 rfl) ?_
              refine iald_n (f := σ 13) hx hb hK.1 hP 11 0 rfl rfl (en) rfl (by omega) (by decide) dX8_makes_95 ?_
              refine lv_sipush (v := 256) hx hb dX8_makes_96 (by decide) ?_
              refine lv_iand hx hb dX8_makes_99 ?_
              refine lv_if_le (tgt := 119) hx hb dX8_makes_100 (by decide) (fun c11 => ?_) (fun c11 => ?_)
              · -- 100 taken
                have c11 := and_le (by decide) c11
                refine lv_iconst (v := 0) hx hb dX8_makes_119 (by decide) ?_
                exact ro_zret (v := 0) hx hb hr hH hlocks dX8_makes_120 (Or.inl rfl) ((bI_f (by rw [mkP_def]; simp only [eq_false c1, eq_true c3, eq_true c4, eq_true c6, eq_false c8, eq_true c9, eq_true c11, not_true, not_false_iff, not_true_eq_false, not_false_eq_true, true_or, or_true, false_or, or_false, or_self, and_self, true_and, and_true, false_and, and_false, if_true, if_false])).symm)
              · -- 100 not
                have c11 := and_nle c11
                refine lv_aload_n hx hb dX8_makes_103 rfl (lv_at hl 0 rfl) ?_
                refine va_get (D := D) (ci := 8) (v := .ref ((ad 13))) (C := RX8) (T := TX8) (N := 33) hx hb hts iX8 hown hK.1 hP 0 rfl rfl 13 (by decide) (hts _ q_692) (fun _ h9 => h9) rfl dX8_makes_104 ?_
                refine lv_iload_n hx hb dX8_makes_107 rfl (lv_at hl 2 rfl) ?_
                refine iald_n (f := σ 13) hx hb hK.1 hP 11 0 rfl rfl (en) rfl (by omega) (by decide) dX8_makes_108 ?_
                refine lv_bipush (v := 12) hx hb dX8_makes_109 (by decide) ?_
                refine lv_iand hx hb dX8_makes_111 ?_
                refine lv_if_ne (tgt := 119) hx hb dX8_makes_112 (by decide) (fun c12 => ?_) (fun c12 => ?_)
                · -- 112 taken
                  refine lv_iconst (v := 0) hx hb dX8_makes_119 (by decide) ?_
                  exact ro_zret (v := 0) hx hb hr hH hlocks dX8_makes_120 (Or.inl rfl) ((bI_f (by rw [mkP_def]; simp only [eq_false c1, eq_true c3, eq_true c4, eq_true c6, eq_false c8, eq_true c9, eq_false c11, eq_false c12, not_true, not_false_iff, not_true_eq_false, not_false_eq_true, true_or, or_true, false_or, or_false, or_self, and_self, true_and, and_true, false_and, and_false, if_true, if_false])).symm)
                · -- 112 not
                  refine lv_iconst (v := 1) hx hb dX8_makes_115 (by decide) ?_
                  refine lv_goto (tgt := 120) hx hb dX8_makes_116 (by decide) ?_
                  exact ro_zret (v := 1) hx hb hr hH hlocks dX8_makes_120 (Or.inr rfl) ((bI_t (by rw [mkP_def]; simp only [eq_false c1, eq_true c3, eq_true c4, eq_true c6, eq_false c8, eq_true c9, eq_false c11, eq_true c12, not_true, not_false_iff, not_true_eq_false, not_false_eq_true, true_or, or_true, false_or, or_false, or_self, and_self, true_and, and_true, false_and, and_false, if_true, if_false])).symm)
          · -- 59 not
            have c8 := bI_1 c8
            refine lv_aload_n hx hb dX8_makes_62 rfl (lv_at hl 0 rfl) ?_
            refine va_get (D := D) (ci := 8) (v := .ref ((ad 13))) (C := RX8) (T := TX8) (N := 33) hx hb hts iX8 hown hK.1 hP 0 rfl rfl 13 (by decide) (hts _ q_692) (fun _ h9 => h9) rfl dX8_makes_63 ?_
            refine lv_iload_n hx hb dX8_makes_66 rfl (lv_at hl 2 rfl) ?_
            refine iald_n (f := σ 13) hx hb hK.1 hP 11 0 rfl rfl (en) rfl (by omega) (by decide) dX8_makes_67 ?_
            refine lv_sipush (v := 1024) hx hb dX8_makes_68 (by decide) ?_
            refine lv_iand hx hb dX8_makes_71 ?_
            refine lv_if_le (tgt := 79) hx hb dX8_makes_72 (by decide) (fun c13 => ?_) (fun c13 => ?_)
            · -- 72 taken
              have c13 := and_le (by decide) c13
              refine lv_iconst (v := 0) hx hb dX8_makes_79 (by decide) ?_
              exact ro_zret (v := 0) hx hb hr hH hlocks dX8_makes_80 (Or.inl rfl) ((bI_f (by rw [mkP_def]; simp only [eq_false c1, eq_true c3, eq_true c4, eq_true c6, eq_true c8, eq_true c13, not_true, not_false_iff, not_true_eq_false, not_false_eq_true, true_or, or_true, false_or, or_false, or_self, and_self, true_and, and_true, false_and, and_false, if_true, if_false])).symm)
            · -- 72 not
              have c13 := and_nle c13
              refine lv_iconst (v := 1) hx hb dX8_makes_75 (by decide) ?_
              refine lv_goto (tgt := 80) hx hb dX8_makes_76 (by decide) ?_
              exact ro_zret (v := 1) hx hb hr hH hlocks dX8_makes_80 (Or.inr rfl) ((bI_t (by rw [mkP_def]; simp only [eq_false c1, eq_true c3, eq_true c4, eq_true c6, eq_true c8, eq_false c13, not_true, not_false_iff, not_true_eq_false, not_false_eq_true, true_or, or_true, false_or, or_false, or_self, and_self, true_and, and_true, false_and, and_false, if_true, if_false])).symm)
        · -- 44 not
          have c6 := bI_0 c6
          refine lv_iconst (v := 0) hx hb dX8_makes_47 (by decide) ?_
          exact ro_zret (v := 0) hx hb hr hH hlocks dX8_makes_48 (Or.inl rfl) ((bI_f (by rw [mkP_def]; simp only [eq_false c1, eq_true c3, eq_true c4, eq_false c6, not_true, not_false_iff, not_true_eq_false, not_false_eq_true, true_or, or_true, false_or, or_false, or_self, and_self, true_and, and_true, false_and, and_false, if_true, if_false])).symm)
set_option maxHeartbeats 4000000 in
set_option maxRecDepth 100000 in
theorem m_isLacked (l : Launch) (D : va_G) (G : Nat → ClassId) (H : Heap) (mo : Nat) (ad : Nat → Nat) (σ : MS) (τ : Nat → Int64) (hP : va_P D vwCl (mW G mo ad σ τ) H) (k : Nat) (h7 : σ 7 0 = nI k) (hk60 : k ≤ 60) (t en : Nat) (ht : t < 12) (he : en < 60) (hee : okE σ en) (heo : ∀ i, i < k → okE σ i) (hmo : ∀ i, i < k → okM σ i) (hb6 : ∀ i, σ 6 i = 0 ∨ σ 6 i = 1) : Met l yX8_isLacked (ww yX8_isLacked cX8_isLacked 5 (some .boolean)) (rmD 2) (roP D G H [.ref mo, .int (nI t), .int (nI en)]) (vp_Si (fun r => r = bI (lkN σ t en k))) 0 0 (fun _ => False) := by
  refine Met.ofW (cc := cX8_isLacked) (maxL := 5) (ret := (some .boolean)) (by decide) rfl ?_
  intro p e s m args below meth c s₁ B hml hv
  obtain ⟨rfl, hH, hK⟩ := hv
  have hx := B.exec
  have hb := B.bytes
  have hr := B.returns
  have hts : ∀ w ∈ TT, w.before _ s = true := fun w h => atoms_spec (ws := ww yX8_isLacked cX8_isLacked 5 (some .boolean)) B.pre w (List.mem_cons_of_mem _ h)
  have hown : s.vm.findClass RX8 = some m.cls := findClass_of_methodNamed B.named
  have hlocks := B.notSynchronized
  rw [hH]
  have hl := lv_entry ([.ref mo, .int (nI t), .int (nI en)]) (n := 5) (Nat.le_of_ble_eq_true rfl)
  rw [lg_entry_eq]
  generalize (lg_sl ([.ref mo, .int (nI t), .int (nI en)]) ++ List.replicate (5 - (lg_sl ([.ref mo, .int (nI t), .int (nI en)])).length) Slot.unset).toArray = ls at hl ⊢
  have hl : lv_has ls 5 [(0, .ref mo), (1, .int (nI t)), (2, .int (nI en))] := hl
  refine w_join (P := fun b9 => b9 = bI (lkN σ t en 0)) 41 (ls := ls) (rest := []) (fun b2 e_b2 => ?_) (fun J1 => ?_)
  · -- behind the meeting at 41
    subst e_b2
    refine lv_istore_n (lv' := [(3, .int (bI (lkN σ t en 0))), (0, .ref mo), (1, .int (nI t)), (2, .int (nI en))]) hx hb dX8_isLacked_41 rfl hl (by decide) rfl (fun ls hl => ?_)
    refine lv_iconst (v := 0) hx hb dX8_isLacked_42 (by decide) ?_
    refine lv_istore (lv' := [(4, .int 0), (3, .int (bI (lkN σ t en 0))), (0, .ref mo), (1, .int (nI t)), (2, .int (nI en))]) hx hb dX8_isLacked_43 hl (by decide) rfl (fun ls hl => ?_)
    refine w_for (N := k) 45 (L := fun q9 ls => lv_has ls 5 [(4, .int (nI q9)), (3, .int (bI (lkN σ t en q9))), (0, .ref mo), (1, .int (nI t)), (2, .int (nI en))]) (fun k9 ls hk hL ih => ?_) 0 ls (Nat.zero_le _) (hl)
    have hl := hL
    have hl : lv_has ls 5 [(4, .int (nI k9)), (3, .int (bI (lkN σ t en k9))), (0, .ref mo), (1, .int (nI t)), (2, .int (nI en))] := hl
    refine lv_iload hx hb dX8_isLacked_45 (lv_at hl 0 rfl) ?_
    refine lv_aload_n hx hb dX8_isLacked_47 rfl (lv_at hl 2 rfl) ?_
    refine va_get (D := D) (ci := 8) (v := .int (σ 7 0)) (C := RX8) (T := TX8) (N := 33) hx hb hts iX8 hown hK.1 hP 0 rfl rfl 7 (by decide) (hts _ q_686) (fun _ h9 => h9) rfl dX8_isLacked_48 ?_
    refine lv_icmp_ge (tgt := 81) hx hb dX8_isLacked_51 (by decide) (fun c3 => ?_) (fun c3 => ?_)
    · -- 51 taken
      have c3 : k ≤ k9 := (nI_leI (a := k) (b := k9) (by omega) (by omega)).mp (by have h8 := c3; rw [h7] at h8; exact h8)
      refine lv_iload_n hx hb dX8_isLacked_81 rfl (lv_at hl 1 rfl) ?_
      exact ro_zret (v := bI (lkN σ t en k9)) hx hb hr hH hlocks dX8_isLacked_82 bI_b (by rw [show k9 = k by omega])
    · -- 51 not
      have c3 : ¬ k ≤ k9 := fun h9 => c3 (by rw [h7]; exact (nI_leI (a := k) (b := k9) (by omega) (by omega)).mpr h9)
      refine lv_iload_n hx hb dX8_isLacked_54 rfl (lv_at hl 1 rfl) ?_
      refine lv_if_eq (tgt := 81) hx hb dX8_isLacked_55 (by decide) (fun c4 => ?_) (fun c4 => ?_)
      · -- 55 taken
        have c4 := bI_0 c4
        refine lv_iload_n hx hb dX8_isLacked_81 rfl (lv_at hl 1 rfl) ?_
        exact ro_zret (v := bI (lkN σ t en k9)) hx hb hr hH hlocks dX8_isLacked_82 bI_b (lkN_f (by omega) c4)
      · -- 55 not
        have c4 := bI_1 c4
        refine w_join (P := fun b9 => b9 = bI (¬ mkP σ t k9 en)) 74 (ls := ls) (rest := []) (fun b6 e_b6 => ?_) (fun J5 => ?_)
        · -- behind the meeting at 74
          subst e_b6
          refine lv_istore_n (lv' := [(3, .int (bI (¬ mkP σ t k9 en))), (4, .int (nI k9)), (0, .ref mo), (1, .int (nI t)), (2, .int (nI en))]) hx hb dX8_isLacked_74 rfl hl (by decide) rfl (fun ls hl => ?_)
          refine lv_iinc (v := nI (k9 + 1)) (lv' := [(4, .int (nI (k9 + 1))), (3, .int (bI (¬ mkP σ t k9 en))), (0, .ref mo), (1, .int (nI t)), (2, .int (nI en))]) hx hb dX8_isLacked_75 hl (k := 1) rfl (nI_1 _) (by decide) rfl (fun ls hl => ?_)
          refine lv_goto (tgt := 45) hx hb dX8_isLacked_78 (by decide) ?_
          rw [lkN_s c4] at hl
          exact ih _ (by omega) (lv_sub hl [0, 1, 2, 3, 4] rfl)
        · -- up to the meeting at 74
          refine lv_aload_n hx hb dX8_isLacked_58 rfl (lv_at hl 2 rfl) ?_
          refine lv_iload_n hx hb dX8_isLacked_59 rfl (lv_at hl 3 rfl) ?_
          refine lv_iload hx hb dX8_isLacked_60 (lv_at hl 0 rfl) ?_
          refine lv_iload_n hx hb dX8_isLacked_62 rfl (lv_at hl 4 rfl) ?_
          refine ro_Vi (D := D) (G := G) (As := [.int (nI t), .int (nI k9), .int (nI en)]) (rest := []) ⟨hx, hb, hml, hown, hts⟩ (m_makes l D G _ mo ad _ _ hP (t) (k9) (en) (by omega) (by omega) (by omega) (heo k9 (by omega)) (hmo k9 (by omega)) hb6) gV_X8_X8_makes hdV_X8_makes ⟨Nat.le_of_ble_eq_true rfl, Nat.le_of_ble_eq_true rfl⟩ hK (va_recv hK.1 hP (ci := 8) (q0 := 0) rfl rfl) rfl hl.1 rfl (Nat.le_of_ble_eq_true rfl) dX8_isLacked_63 ⟨Nat.le_of_ble_eq_true rfl, Nat.le_of_ble_eq_true rfl⟩ (fun r7 e_r7 => ?_)
          subst e_r7
          refine lv_if_ne (tgt := 73) hx hb dX8_isLacked_66 (by decide) (fun c8 => ?_) (fun c8 => ?_)
          · -- 66 taken
            have c8 := bI_1 c8
            refine lv_iconst (v := 0) hx hb dX8_isLacked_73 (by decide) ?_
            exact J5 0 ((bI_f (by simp only [eq_true c8, not_true, not_false_iff, not_true_eq_false, not_false_eq_true, true_or, or_true, false_or, or_false, or_self, and_self, true_and, and_true, false_and, and_false, if_true, if_false])).symm)
          · -- 66 not
            have c8 := bI_0 c8
            refine lv_iconst (v := 1) hx hb dX8_isLacked_69 (by decide) ?_
            refine lv_goto (tgt := 74) hx hb dX8_isLacked_70 (by decide) ?_
            exact J5 1 ((bI_t (by simp only [eq_false c8, not_true, not_false_iff, not_true_eq_false, not_false_eq_true, true_or, or_true, false_or, or_false, or_self, and_self, true_and, and_true, false_and, and_false, if_true, if_false])).symm)
  · -- up to the meeting at 41
    refine lv_aload_n hx hb dX8_isLacked_0 rfl (lv_at hl 0 rfl) ?_
    refine va_get (D := D) (ci := 8) (v := .ref ((ad 8))) (C := RX8) (T := TX8) (N := 33) hx hb hts iX8 hown hK.1 hP 0 rfl rfl 8 (by decide) (hts _ q_687) (fun _ h9 => h9) rfl dX8_isLacked_1 ?_
    refine lv_iload_n hx hb dX8_isLacked_4 rfl (lv_at hl 2 rfl) ?_
    refine zald_n (f := σ 8) hx hb hK.1 hP 6 2 rfl rfl (en) rfl (by omega) (by decide) dX8_isLacked_5 ?_
    refine lv_if_eq (tgt := 40) hx hb dX8_isLacked_6 (by decide) (fun c9 => ?_) (fun c9 => ?_)
    · -- 6 taken
      refine lv_iconst (v := 0) hx hb dX8_isLacked_40 (by decide) ?_
      exact J1 0 ((bI_f (by rw [lkN_def]; simp only [eq_true c9, not_true, not_false_iff, not_true_eq_false, not_false_eq_true, true_or, or_true, false_or, or_false, or_self, and_self, true_and, and_true, false_and, and_false, if_true, if_false, Nat.not_lt_zero, false_implies, implies_true, forall_const])).symm)
    · -- 6 not
      refine lv_aload_n hx hb dX8_isLacked_9 rfl (lv_at hl 0 rfl) ?_
      refine va_get (D := D) (ci := 8) (v := .ref ((ad 13))) (C := RX8) (T := TX8) (N := 33) hx hb hts iX8 hown hK.1 hP 0 rfl rfl 13 (by decide) (hts _ q_692) (fun _ h9 => h9) rfl dX8_isLacked_10 ?_
      refine lv_iload_n hx hb dX8_isLacked_13 rfl (lv_at hl 2 rfl) ?_
      refine iald_n (f := σ 13) hx hb hK.1 hP 11 0 rfl rfl (en) rfl (by omega) (by decide) dX8_isLacked_14 ?_
      refine lv_sipush (v := 128) hx hb dX8_isLacked_15 (by decide) ?_
      refine lv_iand hx hb dX8_isLacked_18 ?_
      refine lv_if_le (tgt := 40) hx hb dX8_isLacked_19 (by decide) (fun c10 => ?_) (fun c10 => ?_)
      · -- 19 taken
        have c10 := and_le (by decide) c10
        refine lv_iconst (v := 0) hx hb dX8_isLacked_40 (by decide) ?_
        exact J1 0 ((bI_f (by rw [lkN_def]; simp only [eq_false c9, eq_true c10, not_true, not_false_iff, not_true_eq_false, not_false_eq_true, true_or, or_true, false_or, or_false, or_self, and_self, true_and, and_true, false_and, and_false, if_true, if_false, Nat.not_lt_zero, false_implies, implies_true, forall_const])).symm)
      · -- 19 not
        have c10 := and_nle c10
        refine lv_aload_n hx hb dX8_isLacked_22 rfl (lv_at hl 0 rfl) ?_
        refine lv_iload_n hx hb dX8_isLacked_23 rfl (lv_at hl 1 rfl) ?_
        refine lv_aload_n hx hb dX8_isLacked_24 rfl (lv_at hl 0 rfl) ?_
        refine va_get (D := D) (ci := 8) (v := .ref ((ad 9))) (C := RX8) (T := TX8) (N := 33) hx hb hts iX8 hown hK.1 hP 0 rfl rfl 9 (by decide) (hts _ q_688) (fun _ h9 => h9) rfl dX8_isLacked_25 ?_
        refine lv_iload_n hx hb dX8_isLacked_28 rfl (lv_at hl 2 rfl) ?_
        refine iald_n (f := σ 9) hx hb hK.1 hP 7 0 rfl rfl (en) rfl (by omega) (by decide) dX8_isLacked_29 ?_
        refine W.eq (g2 := F0 m 30 ls [.int (nI (tyE σ en)), .int (nI t), .ref mo]) (congrArg (fun z9 => F0 m 30 ls [.int z9, .int (nI t), .ref mo]) hee.1) ?_
        refine ro_Vi (D := D) (G := G) (As := [.int (nI t), .int (nI (tyE σ en))]) (rest := []) ⟨hx, hb, hml, hown, hts⟩ (m_lies l D G _ mo ad _ _ hP (t) ((tyE σ en)) (by omega) (by omega) hb6) gV_X8_X8_lies hdV_X8_lies ⟨Nat.le_of_ble_eq_true rfl, Nat.le_of_ble_eq_true rfl⟩ hK (va_recv hK.1 hP (ci := 8) (q0 := 0) rfl rfl) rfl hl.1 rfl (Nat.le_of_ble_eq_true rfl) dX8_isLacked_30 ⟨Nat.le_of_ble_eq_true rfl, Nat.le_of_ble_eq_true rfl⟩ (fun r11 e_r11 => ?_)
        subst e_r11
        refine lv_if_eq (tgt := 40) hx hb dX8_isLacked_33 (by decide) (fun c12 => ?_) (fun c12 => ?_)
        · -- 33 taken
          have c12 := bI_0 c12
          refine lv_iconst (v := 0) hx hb dX8_isLacked_40 (by decide) ?_
          exact J1 0 ((bI_f (by rw [lkN_def]; simp only [eq_false c9, eq_false c10, eq_false c12, not_true, not_false_iff, not_true_eq_false, not_false_eq_true, true_or, or_true, false_or, or_false, or_self, and_self, true_and, and_true, false_and, and_false, if_true, if_false, Nat.not_lt_zero, false_implies, implies_true, forall_const])).symm)
        · -- 33 not
          have c12 := bI_1 c12
          refine lv_iconst (v := 1) hx hb dX8_isLacked_36 (by decide) ?_
          refine lv_goto (tgt := 41) hx hb dX8_isLacked_37 (by decide) ?_
          exact J1 1 ((bI_t (by rw [lkN_def]; simp only [eq_false c9, eq_false c10, eq_true c12, not_true, not_false_iff, not_true_eq_false, not_false_eq_true, true_or, or_true, false_or, or_false, or_self, and_self, true_and, and_true, false_and, and_false, if_true, if_false, Nat.not_lt_zero, false_implies, implies_true, forall_const])).symm)
