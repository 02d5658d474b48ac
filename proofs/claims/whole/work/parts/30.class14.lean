theorem pm_front {a b l : va_W} : ((a ++ b) ++ l).Perm (a ++ (l ++ b)) := by
  rw [List.append_assoc]; exact List.perm_append_comm.append_left a
theorem plE_cons {G : Nat → ClassId} {ea : Nat → Nat → Nat} {σ : MS} {κ : Nat → Int64} {k : Nat} {pl : va_W} (hE : plE G ea σ κ k pl) (c : Nat × va_E) : plE G ea σ κ k (c :: pl) := fun e he z hz => List.mem_cons_of_mem c (hE e he z hz)
theorem aRef_z {σ : MS} {n : Nat} {t name kind d m : Int32} : aRef σ n t name kind d m = 0 ∨ ¬ 0 ≤ aRef σ n t name kind d m := by
  unfold aRef
  split
  · exact Or.inr (by decide)
  · split
    · exact Or.inr (by decide)
    · split
      · exact Or.inr (by decide)
      · split
        · exact Or.inr (by decide)
        · exact Or.inl rfl
theorem aRef_b {σ : MS} {n : Nat} {t name kind d m : Int32} (h : ¬ σ 21 0 = 0) : ¬ aRef σ n t name kind d m = 0 := fun q => h (aRef_ok (show 0 ≤ aRef σ n t name kind d m by rw [q]; decide)).2.2.2.2.2.2.2.2.1
theorem fd_cell {σ : MS} {k q : Nat} {t name kind d mk : Int32} {κ : Nat → Int64} {v : Int64} : fdW (fun _ => q) (su (su (su (layS (su σ 0 0 0) k t name kind d mk) 8 k 0) 14 k 0) 7 0 (nI (k + 1))) (vp_updL κ k v) k = [(q, .inr (3, [.int t, .int name, .int kind, .int d, .int mk, .int 0, .long v]))] := by
  have e9 : (su (su (su (layS (su σ 0 0 0) k t name kind d mk) 8 k 0) 14 k 0) 7 0 (nI (k + 1))) 9 k = t := pk_us
  have e10 : (su (su (su (layS (su σ 0 0 0) k t name kind d mk) 8 k 0) 14 k 0) 7 0 (nI (k + 1))) 10 k = name := pk_us
  have e11 : (su (su (su (layS (su σ 0 0 0) k t name kind d mk) 8 k 0) 14 k 0) 7 0 (nI (k + 1))) 11 k = kind := pk_us
  have e12 : (su (su (su (layS (su σ 0 0 0) k t name kind d mk) 8 k 0) 14 k 0) 7 0 (nI (k + 1))) 12 k = d := pk_us
  have e13 : (su (su (su (layS (su σ 0 0 0) k t name kind d mk) 8 k 0) 14 k 0) 7 0 (nI (k + 1))) 13 k = mk := pk_us
  have e14 : (su (su (su (layS (su σ 0 0 0) k t name kind d mk) 8 k 0) 14 k 0) 7 0 (nI (k + 1))) 14 k = 0 := pk_us
  unfold fdW; rw [e9, e10, e11, e12, e13, e14, show vp_updL κ k v k = v from if_pos rfl]
theorem bg_new {σ : MS} {k : Nat} {G : Nat → ClassId} {a : Nat → Nat} {t name kind d mk bd : Int32} : mbW G a (su (su (su (su (layS (su σ 0 0 0) k t name kind d mk) 16 k bd) 17 k 0) 18 k 0) 21 0 1) k (-1) = bgW G a t name kind d mk bd 0 0 (fun _ => 0) (fun _ => 0) (-1) := by
  have e9 : (su (su (su (su (layS (su σ 0 0 0) k t name kind d mk) 16 k bd) 17 k 0) 18 k 0) 21 0 1) 9 k = t := pk_us
  have e10 : (su (su (su (su (layS (su σ 0 0 0) k t name kind d mk) 16 k bd) 17 k 0) 18 k 0) 21 0 1) 10 k = name := pk_us
  have e11 : (su (su (su (su (layS (su σ 0 0 0) k t name kind d mk) 16 k bd) 17 k 0) 18 k 0) 21 0 1) 11 k = kind := pk_us
  have e12 : (su (su (su (su (layS (su σ 0 0 0) k t name kind d mk) 16 k bd) 17 k 0) 18 k 0) 21 0 1) 12 k = d := pk_us
  have e13 : (su (su (su (su (layS (su σ 0 0 0) k t name kind d mk) 16 k bd) 17 k 0) 18 k 0) 21 0 1) 13 k = mk := pk_us
  have e16 : (su (su (su (su (layS (su σ 0 0 0) k t name kind d mk) 16 k bd) 17 k 0) 18 k 0) 21 0 1) 16 k = bd := pk_us
  have e17 : (su (su (su (su (layS (su σ 0 0 0) k t name kind d mk) 16 k bd) 17 k 0) 18 k 0) 21 0 1) 17 k = 0 := pk_us
  have e18 : (su (su (su (su (layS (su σ 0 0 0) k t name kind d mk) 16 k bd) 17 k 0) 18 k 0) 21 0 1) 18 k = 0 := pk_us
  have hp : ∀ c, pkF (su (su (su (su (layS (su σ 0 0 0) k t name kind d mk) 16 k bd) 17 k 0) 18 k 0) 21 0 1) c k = fun _ => 0 := fun c => by
    funext i; unfold pkF mnE; rw [e18]; exact if_neg (Nat.not_lt_zero i)
  unfold mbW bgW; rw [hp, hp, e9, e10, e11, e12, e13, e16, e17, e18]

theorem dX7_field_0 : decode cX7_field 0 = .ok (.aload_n 0, 1) := by decide +kernel
theorem dX7_field_1 : decode cX7_field 1 = .ok (.iload_n 1, 1) := by decide +kernel
theorem dX7_field_2 : decode cX7_field 2 = .ok (.iload_n 2, 1) := by decide +kernel
theorem dX7_field_3 : decode cX7_field 3 = .ok (.iload_n 3, 1) := by decide +kernel
theorem dX7_field_4 : decode cX7_field 4 = .ok (.iload 4, 2) := by decide +kernel
theorem dX7_field_6 : decode cX7_field 6 = .ok (.iload 5, 2) := by decide +kernel
theorem q_175 : Cond.methodLink "FieldMember" 79 ⟨"FieldMember", "refusalOfNew", "(IIIII)I"⟩ ∈ TT := tt_t (i := 175) (by decide +kernel) (by decide +kernel)
theorem q_178 : Cond.code ⟨"FieldMember", "refusalOfNew", "(IIIII)I"⟩ prog_1_method_28_code 6 (some .int) ∈ TT := tt_t (i := 178) (by decide +kernel) (by decide +kernel)
theorem q_177 : Cond.instanceMethod ⟨"FieldMember", "refusalOfNew", "(IIIII)I"⟩ ∈ TT := tt_t (i := 177) (by decide +kernel) (by decide +kernel)
theorem qs_1 : Cond.selects "FieldMember" ⟨"FieldMember", "refusalOfNew", "(IIIII)I"⟩ ⟨"FieldMember", "refusalOfNew", "(IIIII)I"⟩ ∈ TT := tt_s (i := 1) (by decide +kernel) (by decide +kernel)
theorem gV_X7_X7_refusalOfNew : GoodIn TT (wsV RX7 79 RX7 yX7_refusalOfNew (ww yX7_refusalOfNew cX7_refusalOfNew 6 (some .int))) := tt_V q_175 q_177 qs_1 q_1 q_178
theorem hdV_X7_refusalOfNew : yX7_refusalOfNew.cls = RX7 ∧ yX7_refusalOfNew.cls ≠ "java/lang/invoke/MethodHandle" ∧ yX7_refusalOfNew.cls ≠ "java/lang/invoke/VarHandle" ∧ (parseMethodDescriptor yX7_refusalOfNew.desc).map (fun d => d.parameters.length) = some 5 := by decide +kernel
theorem dX7_field_8 : decode cX7_field 8 = .ok (.invokevirtual 79, 3) := by decide +kernel
theorem dX7_field_11 : decode cX7_field 11 = .ok (.istore 6, 2) := by decide +kernel
theorem dX7_field_13 : decode cX7_field 13 = .ok (.iload 6, 2) := by decide +kernel
theorem dX7_field_15 : decode cX7_field 15 = .ok (.ifCond .eq 6, 3) := by decide +kernel
theorem dX7_field_18 : decode cX7_field 18 = .ok (.iload 6, 2) := by decide +kernel
theorem dX7_field_20 : decode cX7_field 20 = .ok (.ireturn, 1) := by decide +kernel
theorem dX7_member_0 : decode cX7_member 0 = .ok (.aload_n 0, 1) := by decide +kernel
theorem dX7_member_1 : decode cX7_member 1 = .ok (.iload_n 1, 1) := by decide +kernel
theorem dX7_member_2 : decode cX7_member 2 = .ok (.iload_n 2, 1) := by decide +kernel
theorem dX7_member_3 : decode cX7_member 3 = .ok (.iload_n 3, 1) := by decide +kernel
theorem dX7_member_4 : decode cX7_member 4 = .ok (.iload 4, 2) := by decide +kernel
theorem dX7_member_6 : decode cX7_member 6 = .ok (.iload 5, 2) := by decide +kernel
theorem dX7_member_8 : decode cX7_member 8 = .ok (.invokevirtual 79, 3) := by decide +kernel
theorem dX7_member_11 : decode cX7_member 11 = .ok (.istore 7, 2) := by decide +kernel
theorem dX7_member_13 : decode cX7_member 13 = .ok (.iload 7, 2) := by decide +kernel
theorem dX7_member_15 : decode cX7_member 15 = .ok (.ifCond .eq 6, 3) := by decide +kernel
theorem dX7_member_18 : decode cX7_member 18 = .ok (.iload 7, 2) := by decide +kernel
theorem dX7_member_20 : decode cX7_member 20 = .ok (.ireturn, 1) := by decide +kernel
theorem dX7_field_21 : decode cX7_field 21 = .ok (.aload_n 0, 1) := by decide +kernel
theorem dX7_field_22 : decode cX7_field 22 = .ok (.getfield 12, 3) := by decide +kernel
theorem dX7_field_25 : decode cX7_field 25 = .ok (.iload_n 1, 1) := by decide +kernel
theorem dX7_field_26 : decode cX7_field 26 = .ok (.invokevirtual 54, 3) := by decide +kernel
theorem dX7_field_29 : decode cX7_field 29 = .ok (.istore 7, 2) := by decide +kernel
theorem dX7_field_31 : decode cX7_field 31 = .ok (.iload_n 3, 1) := by decide +kernel
theorem dX7_field_32 : decode cX7_field 32 = .ok (.iload 5, 2) := by decide +kernel
theorem dX7_field_34 : decode cX7_field 34 = .ok (.iload 7, 2) := by decide +kernel
theorem q_192 : Cond.methodLink "FieldMember" 83 ⟨"FieldMember$Rules", "ofField", "(IIZ)I"⟩ ∈ TT := tt_t (i := 192) (by decide +kernel) (by decide +kernel)
theorem q_194 : Cond.code ⟨"FieldMember$Rules", "ofField", "(IIZ)I"⟩ prog_7_method_2_code 4 (some .int) ∈ TT := tt_t (i := 194) (by decide +kernel) (by decide +kernel)
theorem q_193 : Cond.static ⟨"FieldMember$Rules", "ofField", "(IIZ)I"⟩ ∈ TT := tt_t (i := 193) (by decide +kernel) (by decide +kernel)
theorem gS_X7_X5_ofField : GoodIn TT (va_wsS RX7 83 yX5_ofField (ww yX5_ofField cX5_ofField 4 (some .int))) := tt_S q_192 q_193 q_6 q_194
theorem hdS_X5_ofField : yX5_ofField.cls ≠ "java/lang/invoke/MethodHandle" ∧ yX5_ofField.cls ≠ "java/lang/invoke/VarHandle" ∧ (parseMethodDescriptor yX5_ofField.desc).map (fun d => d.parameters.length) = some 3 := by decide +kernel
theorem dX7_field_36 : decode cX7_field 36 = .ok (.invokestatic 83, 3) := by decide +kernel
theorem dX7_field_39 : decode cX7_field 39 = .ok (.istore 8, 2) := by decide +kernel
theorem dX7_field_41 : decode cX7_field 41 = .ok (.iload 8, 2) := by decide +kernel
theorem dX7_field_43 : decode cX7_field 43 = .ok (.ifCond .ne 17, 3) := by decide +kernel
theorem dX7_field_60 : decode cX7_field 60 = .ok (.iload 8, 2) := by decide +kernel
theorem dX7_field_62 : decode cX7_field 62 = .ok (.ifCond .eq 10, 3) := by decide +kernel
theorem dX7_field_65 : decode cX7_field 65 = .ok (.aload_n 0, 1) := by decide +kernel
theorem dX7_field_66 : decode cX7_field 66 = .ok (.iload 8, 2) := by decide +kernel
theorem dX7_field_68 : decode cX7_field 68 = .ok (.invokevirtual 92, 3) := by decide +kernel
theorem dX7_field_71 : decode cX7_field 71 = .ok (.ireturn, 1) := by decide +kernel
theorem dX7_field_46 : decode cX7_field 46 = .ok (.aload_n 0, 1) := by decide +kernel
theorem dX7_field_47 : decode cX7_field 47 = .ok (.iload_n 1, 1) := by decide +kernel
theorem dX7_field_48 : decode cX7_field 48 = .ok (.iload_n 2, 1) := by decide +kernel
theorem dX7_field_49 : decode cX7_field 49 = .ok (.invokevirtual 89, 3) := by decide +kernel
theorem dX7_field_52 : decode cX7_field 52 = .ok (.iconst (-1), 1) := by decide +kernel
theorem dX7_field_53 : decode cX7_field 53 = .ok (.if_icmp .eq 7, 3) := by decide +kernel
theorem dX7_field_72 : decode cX7_field 72 = .ok (.iload 7, 2) := by decide +kernel
theorem dX7_field_74 : decode cX7_field 74 = .ok (.ifCond .eq 8, 3) := by decide +kernel
theorem dX7_field_82 : decode cX7_field 82 = .ok (.iconst 0, 1) := by decide +kernel
theorem dX7_field_83 : decode cX7_field 83 = .ok (.istore 9, 2) := by decide +kernel
theorem dX7_field_85 : decode cX7_field 85 = .ok (.aload_n 0, 1) := by decide +kernel
theorem q_208 : Cond.instantiable "FieldMember$Field" 7 ∈ TT := tt_t (i := 208) (by decide +kernel) (by decide +kernel)
theorem q_8 : Cond.initialized "FieldMember$Field" ∈ TT := tt_t (i := 8) (by decide +kernel) (by decide +kernel)
theorem dX7_field_86 : decode cX7_field 86 = .ok (.new 96, 3) := by decide +kernel
theorem dX7_field_89 : decode cX7_field 89 = .ok (.dup, 1) := by decide +kernel
theorem dX7_field_90 : decode cX7_field 90 = .ok (.iload_n 1, 1) := by decide +kernel
theorem dX7_field_91 : decode cX7_field 91 = .ok (.iload_n 2, 1) := by decide +kernel
theorem dX7_field_92 : decode cX7_field 92 = .ok (.iload_n 3, 1) := by decide +kernel
theorem dX7_field_93 : decode cX7_field 93 = .ok (.iload 4, 2) := by decide +kernel
theorem dX7_field_95 : decode cX7_field 95 = .ok (.iload 5, 2) := by decide +kernel
theorem dX7_field_97 : decode cX7_field 97 = .ok (.iload 9, 2) := by decide +kernel
theorem dX7_field_99 : decode cX7_field 99 = .ok (.ior, 1) := by decide +kernel
theorem q_211 : Cond.code ⟨"FieldMember$Field", "<init>", "(IIIII)V"⟩ prog_4_method_1_code 6 none ∈ TT := tt_t (i := 211) (by decide +kernel) (by decide +kernel)
theorem q_209 : Cond.methodLink "FieldMember" 98 ⟨"FieldMember$Field", "<init>", "(IIIII)V"⟩ ∈ TT := tt_t (i := 209) (by decide +kernel) (by decide +kernel)
theorem q_210 : Cond.instanceMethod ⟨"FieldMember$Field", "<init>", "(IIIII)V"⟩ ∈ TT := tt_t (i := 210) (by decide +kernel) (by decide +kernel)
theorem dX7_field_100 : decode cX7_field 100 = .ok (.invokespecial 98, 3) := by decide +kernel
theorem dX7_field_103 : decode cX7_field 103 = .ok (.invokevirtual 101, 3) := by decide +kernel
theorem dX7_field_106 : decode cX7_field 106 = .ok (.ireturn, 1) := by decide +kernel
theorem dX7_field_77 : decode cX7_field 77 = .ok (.bipush 25, 2) := by decide +kernel
theorem dX7_field_79 : decode cX7_field 79 = .ok (.goto 4, 3) := by decide +kernel
theorem dX7_field_56 : decode cX7_field 56 = .ok (.bipush 6, 2) := by decide +kernel
theorem dX7_field_58 : decode cX7_field 58 = .ok (.istore 8, 2) := by decide +kernel
theorem brk_n1 {v : Int32} (h : okR v) : ¬ (-40) - nI v.toNatClampNeg = 1 := by
  have h2 := h.2
  have : ∀ j : Fin 26, ¬ (-40) - nI j.val = 1 := by decide
  exact this ⟨_, h2⟩
theorem dX7_member_21 : decode cX7_member 21 = .ok (.aload_n 0, 1) := by decide +kernel
theorem dX7_member_22 : decode cX7_member 22 = .ok (.getfield 12, 3) := by decide +kernel
theorem dX7_member_25 : decode cX7_member 25 = .ok (.iload_n 1, 1) := by decide +kernel
theorem dX7_member_26 : decode cX7_member 26 = .ok (.invokevirtual 54, 3) := by decide +kernel
theorem dX7_member_29 : decode cX7_member 29 = .ok (.istore 8, 2) := by decide +kernel
theorem dX7_member_31 : decode cX7_member 31 = .ok (.iload 8, 2) := by decide +kernel
theorem dX7_member_33 : decode cX7_member 33 = .ok (.ifCond .eq 13, 3) := by decide +kernel
theorem dX7_member_46 : decode cX7_member 46 = .ok (.iload 5, 2) := by decide +kernel
theorem dX7_member_48 : decode cX7_member 48 = .ok (.iload 6, 2) := by decide +kernel
theorem dX7_member_50 : decode cX7_member 50 = .ok (.aload_n 0, 1) := by decide +kernel
theorem dX7_member_51 : decode cX7_member 51 = .ok (.getfield 12, 3) := by decide +kernel
theorem dX7_member_54 : decode cX7_member 54 = .ok (.iload_n 1, 1) := by decide +kernel
theorem q_300 : Cond.methodLink "FieldMember" 150 ⟨"FieldMember$Types", "sortOf", "(I)I"⟩ ∈ TT := tt_t (i := 300) (by decide +kernel) (by decide +kernel)
theorem gV_X7_X6_sortOf : GoodIn TT (wsV RX7 150 RX6 yX6_sortOf (ww yX6_sortOf cX6_sortOf 2 (some .int))) := tt_V q_300 q_117 q_118 q_2 q_119
theorem dX7_member_55 : decode cX7_member 55 = .ok (.invokevirtual 150, 3) := by decide +kernel
theorem dX7_member_58 : decode cX7_member 58 = .ok (.iconst 1, 1) := by decide +kernel
theorem dX7_member_59 : decode cX7_member 59 = .ok (.if_icmp .ne 7, 3) := by decide +kernel
theorem dX7_member_66 : decode cX7_member 66 = .ok (.iconst 0, 1) := by decide +kernel
theorem q_301 : Cond.methodLink "FieldMember" 153 ⟨"FieldMember$Rules", "ofClassMember", "(IZZ)I"⟩ ∈ TT := tt_t (i := 301) (by decide +kernel) (by decide +kernel)
theorem q_303 : Cond.code ⟨"FieldMember$Rules", "ofClassMember", "(IZZ)I"⟩ prog_7_method_4_code 4 (some .int) ∈ TT := tt_t (i := 303) (by decide +kernel) (by decide +kernel)
theorem q_302 : Cond.static ⟨"FieldMember$Rules", "ofClassMember", "(IZZ)I"⟩ ∈ TT := tt_t (i := 302) (by decide +kernel) (by decide +kernel)
theorem gS_X7_X5_ofClassMember : GoodIn TT (va_wsS RX7 153 yX5_ofClassMember (ww yX5_ofClassMember cX5_ofClassMember 4 (some .int))) := tt_S q_301 q_302 q_6 q_303
theorem hdS_X5_ofClassMember : yX5_ofClassMember.cls ≠ "java/lang/invoke/MethodHandle" ∧ yX5_ofClassMember.cls ≠ "java/lang/invoke/VarHandle" ∧ (parseMethodDescriptor yX5_ofClassMember.desc).map (fun d => d.parameters.length) = some 3 := by decide +kernel
theorem dX7_member_67 : decode cX7_member 67 = .ok (.invokestatic 153, 3) := by decide +kernel
theorem dX7_member_70 : decode cX7_member 70 = .ok (.istore 9, 2) := by decide +kernel
theorem dX7_member_72 : decode cX7_member 72 = .ok (.iload 9, 2) := by decide +kernel
theorem dX7_member_74 : decode cX7_member 74 = .ok (.ifCond .eq 10, 3) := by decide +kernel
theorem dX7_member_84 : decode cX7_member 84 = .ok (.iload 8, 2) := by decide +kernel
theorem dX7_member_86 : decode cX7_member 86 = .ok (.ifCond .eq 14, 3) := by decide +kernel
theorem dX7_member_100 : decode cX7_member 100 = .ok (.iload 5, 2) := by decide +kernel
theorem dX7_member_102 : decode cX7_member 102 = .ok (.istore 10, 2) := by decide +kernel
theorem dX7_member_104 : decode cX7_member 104 = .ok (.aload_n 0, 1) := by decide +kernel
theorem q_308 : Cond.instantiable "FieldMember$Member" 9 ∈ TT := tt_t (i := 308) (by decide +kernel) (by decide +kernel)
theorem dX7_member_105 : decode cX7_member 105 = .ok (.new 160, 3) := by decide +kernel
theorem dX7_member_108 : decode cX7_member 108 = .ok (.dup, 1) := by decide +kernel
theorem dX7_member_109 : decode cX7_member 109 = .ok (.iload_n 1, 1) := by decide +kernel
theorem dX7_member_110 : decode cX7_member 110 = .ok (.iload_n 2, 1) := by decide +kernel
theorem dX7_member_111 : decode cX7_member 111 = .ok (.iload_n 3, 1) := by decide +kernel
theorem dX7_member_112 : decode cX7_member 112 = .ok (.iload 4, 2) := by decide +kernel
theorem dX7_member_114 : decode cX7_member 114 = .ok (.iload 10, 2) := by decide +kernel
theorem dX7_member_116 : decode cX7_member 116 = .ok (.iload 6, 2) := by decide +kernel
theorem q_311 : Cond.code ⟨"FieldMember$Member", "<init>", "(IIIIIZ)V"⟩ prog_5_method_1_code 7 none ∈ TT := tt_t (i := 311) (by decide +kernel) (by decide +kernel)
theorem q_309 : Cond.methodLink "FieldMember" 162 ⟨"FieldMember$Member", "<init>", "(IIIIIZ)V"⟩ ∈ TT := tt_t (i := 309) (by decide +kernel) (by decide +kernel)
theorem q_310 : Cond.instanceMethod ⟨"FieldMember$Member", "<init>", "(IIIIIZ)V"⟩ ∈ TT := tt_t (i := 310) (by decide +kernel) (by decide +kernel)
theorem dX7_member_118 : decode cX7_member 118 = .ok (.invokespecial 162, 3) := by decide +kernel
theorem dX7_member_121 : decode cX7_member 121 = .ok (.putfield 65, 3) := by decide +kernel
theorem dX7_member_124 : decode cX7_member 124 = .ok (.iconst 1, 1) := by decide +kernel
theorem dX7_member_125 : decode cX7_member 125 = .ok (.ireturn, 1) := by decide +kernel
theorem dX7_member_77 : decode cX7_member 77 = .ok (.aload_n 0, 1) := by decide +kernel
theorem dX7_member_78 : decode cX7_member 78 = .ok (.iload 9, 2) := by decide +kernel
theorem dX7_member_80 : decode cX7_member 80 = .ok (.invokevirtual 92, 3) := by decide +kernel
theorem dX7_member_83 : decode cX7_member 83 = .ok (.ireturn, 1) := by decide +kernel
theorem dX7_member_62 : decode cX7_member 62 = .ok (.iconst 1, 1) := by decide +kernel
theorem dX7_member_63 : decode cX7_member 63 = .ok (.goto 4, 3) := by decide +kernel
theorem dX7_member_36 : decode cX7_member 36 = .ok (.iload 5, 2) := by decide +kernel
theorem dX7_member_38 : decode cX7_member 38 = .ok (.iload 6, 2) := by decide +kernel
theorem q_288 : Cond.methodLink "FieldMember" 146 ⟨"FieldMember$Rules", "ofFaceMember", "(IZ)I"⟩ ∈ TT := tt_t (i := 288) (by decide +kernel) (by decide +kernel)
theorem q_290 : Cond.code ⟨"FieldMember$Rules", "ofFaceMember", "(IZ)I"⟩ prog_7_method_3_code 4 (some .int) ∈ TT := tt_t (i := 290) (by decide +kernel) (by decide +kernel)
theorem q_289 : Cond.static ⟨"FieldMember$Rules", "ofFaceMember", "(IZ)I"⟩ ∈ TT := tt_t (i := 289) (by decide +kernel) (by decide +kernel)
theorem gS_X7_X5_ofFaceMember : GoodIn TT (va_wsS RX7 146 yX5_ofFaceMember (ww yX5_ofFaceMember cX5_ofFaceMember 4 (some .int))) := tt_S q_288 q_289 q_6 q_290
theorem hdS_X5_ofFaceMember : yX5_ofFaceMember.cls ≠ "java/lang/invoke/MethodHandle" ∧ yX5_ofFaceMember.cls ≠ "java/lang/invoke/VarHandle" ∧ (parseMethodDescriptor yX5_ofFaceMember.desc).map (fun d => d.parameters.length) = some 2 := by decide +kernel
theorem dX7_member_40 : decode cX7_member 40 = .ok (.invokestatic 146, 3) := by decide +kernel
theorem dX7_member_43 : decode cX7_member 43 = .ok (.goto 27, 3) := by decide +kernel
theorem dX7_member_89 : decode cX7_member 89 = .ok (.iload 5, 2) := by decide +kernel
theorem dX7_member_91 : decode cX7_member 91 = .ok (.iload 5, 2) := by decide +kernel
theorem q_304 : Cond.methodLink "FieldMember" 157 ⟨"FieldMember$Rules", "faceMarks", "(I)I"⟩ ∈ TT := tt_t (i := 304) (by decide +kernel) (by decide +kernel)
theorem q_306 : Cond.code ⟨"FieldMember$Rules", "faceMarks", "(I)I"⟩ prog_7_method_6_code 2 (some .int) ∈ TT := tt_t (i := 306) (by decide +kernel) (by decide +kernel)
theorem q_305 : Cond.static ⟨"FieldMember$Rules", "faceMarks", "(I)I"⟩ ∈ TT := tt_t (i := 305) (by decide +kernel) (by decide +kernel)
theorem gS_X7_X5_faceMarks : GoodIn TT (va_wsS RX7 157 yX5_faceMarks (ww yX5_faceMarks cX5_faceMarks 2 (some .int))) := tt_S q_304 q_305 q_6 q_306
theorem hdS_X5_faceMarks : yX5_faceMarks.cls ≠ "java/lang/invoke/MethodHandle" ∧ yX5_faceMarks.cls ≠ "java/lang/invoke/VarHandle" ∧ (parseMethodDescriptor yX5_faceMarks.desc).map (fun d => d.parameters.length) = some 1 := by decide +kernel
theorem dX7_member_93 : decode cX7_member 93 = .ok (.invokestatic 157, 3) := by decide +kernel
theorem dX7_member_96 : decode cX7_member 96 = .ok (.ior, 1) := by decide +kernel
theorem dX7_member_97 : decode cX7_member 97 = .ok (.goto 5, 3) := by decide +kernel
set_option maxHeartbeats 800000 in
set_option maxRecDepth 100000 in
theorem c_fieldBusy (l : Launch) (D : va_G) (G : Nat → ClassId) (ca : Nat → Nat) (ea : Nat → Nat → Nat) (n k w0 : Nat) (σ x : MS) (κ : Nat → Int64) (pl : va_W) (sz : Nat) (hE : plE G ea σ κ k pl) (hI : cI σ x n k w0) (ba : Nat → Nat) (hoB : mI σ n k) (t name kind dd mm : Int32) (c21 : ¬ σ 21 0 = 0) (τ : Nat → Int64) : Met l yX7_field (ww yX7_field cX7_field 10 (some .int)) (rmC 3 1 7) (cmP D G sz (cF G ca (.ref (ba 0)) (enF ea k) σ x ++ (mbW G ba σ k (-1) ++ pl)) [.ref ((ca 0)), .int t, .int name, .int kind, .int dd, .int mm]) (cmQi D (va_A (cF G ca (.ref (ba 0)) (enF ea k) σ x ++ (mbW G ba σ k (-1) ++ pl)) sz) ((oField σ τ n k t name kind dd mm).1) (fun z8 => z8 = cF G ca (.ref (ba 0)) (enF ea k) (oField σ τ n k t name kind dd mm).2.1 x ++ (mbW G ba σ k (-1) ++ pl))) 1 7 (va_A (cF G ca (.ref (ba 0)) (enF ea k) σ x ++ (mbW G ba σ k (-1) ++ pl)) sz) := by
  refine Met.ofW (cc := cX7_field) (maxL := 10) (ret := (some .int)) (by decide) rfl ?_
  intro p e s m args below meth c s₁ B hml hv
  obtain ⟨rfl, hsz, hP, hK, hD0⟩ := hv
  have hx := B.exec
  have hb := B.bytes
  have hr := B.returns
  have hts : ∀ w ∈ TT, w.before _ s = true := fun w h => atoms_spec (ws := ww yX7_field cX7_field 10 (some .int)) B.pre w (List.mem_cons_of_mem _ h)
  have hown : s.vm.findClass RX7 = some m.cls := findClass_of_methodNamed B.named
  have hlocks := B.notSynchronized
  subst hsz
  have hD : va_D (va_A (cF G ca (.ref (ba 0)) (enF ea k) σ x ++ (mbW G ba σ k (-1) ++ pl)) s.heap.size) (cF G ca (.ref (ba 0)) (enF ea k) σ x ++ (mbW G ba σ k (-1) ++ pl)) := hD0.self
  generalize hAe : va_A (cF G ca (.ref (ba 0)) (enF ea k) σ x ++ (mbW G ba σ k (-1) ++ pl)) s.heap.size = A at hD ⊢
  have hA : ∀ q : Nat, s.heap.size ≤ q → A q := fun q h => by rw [← hAe]; exact Or.inr h
  have hS : va_S A s.heap s.heap [] := va_S.rf
  have hP : va_P D vwCl (cF G ca (.ref (ba 0)) (enF ea k) σ x ++ (mbW G ba σ k (-1) ++ pl)) s.heap := hP
  have hI0 := hI
  obtain ⟨h1, hn, h7, hk60, h22, hw, hab, hfa, hmi, hak, hrf⟩ := hI
  have hoo := hoB
  obtain ⟨heB, hmB, hkB, hpB⟩ := hoB
  have htB := heB.2
  have hzB := hmB.2
  have hl := lv_entry ([.ref ((ca 0)), .int t, .int name, .int kind, .int dd, .int mm]) (n := 10) (Nat.le_of_ble_eq_true rfl)
  rw [lg_entry_eq]
  generalize (lg_sl ([.ref ((ca 0)), .int t, .int name, .int kind, .int dd, .int mm]) ++ List.replicate (10 - (lg_sl ([.ref ((ca 0)), .int t, .int name, .int kind, .int dd, .int mm])).length) Slot.unset).toArray = ls at hl ⊢
  have hl : lv_has ls 10 [(0, .ref ((ca 0))), (1, .int t), (2, .int name), (3, .int kind), (4, .int dd), (5, .int mm)] := hl
  refine lv_aload_n hx hb dX7_field_0 rfl (lv_at hl 0 rfl) ?_
  refine lv_iload_n hx hb dX7_field_1 rfl (lv_at hl 1 rfl) ?_
  refine lv_iload_n hx hb dX7_field_2 rfl (lv_at hl 2 rfl) ?_
  refine lv_iload_n hx hb dX7_field_3 rfl (lv_at hl 3 rfl) ?_
  refine lv_iload hx hb dX7_field_4 (lv_at hl 4 rfl) ?_
  refine lv_iload hx hb dX7_field_6 (lv_at hl 5 rfl) ?_
  have hPf : va_P D vwCl (cF G ca (.ref (ba 0)) (enF ea k) σ x) _ := cF_of hP
  have hEf : ∀ e, e < k → va_P D vwCl (eW G (ea e) σ κ e) _ := plE_P hP (plE_app hE _)
  have hBf := bg_M hP
  refine ro_Vi (D := D) (G := G) (As := [.int t, .int name, .int kind, .int dd, .int mm]) (rest := []) ⟨hx, hb, hml, hown, hts⟩ (c_refusalOfNew l D G _ ca _ ea n k w0 σ x κ hPf hEf hI0 ba (Or.inr ⟨rfl, c21, hBf, hoo⟩) t name kind dd mm) gV_X7_X7_refusalOfNew hdV_X7_refusalOfNew ⟨Nat.le_of_ble_eq_true rfl, Nat.le_of_ble_eq_true rfl⟩ hK (va_recv hK.1 hP (ci := 7) (q0 := 0) rfl rfl) rfl hl.1 rfl (Nat.le_of_ble_eq_true rfl) dX7_field_8 ⟨Nat.le_of_ble_eq_true rfl, Nat.le_of_ble_eq_true rfl⟩ (fun r1 e_r1 => ?_)
  subst e_r1
  refine W.eq (g2 := F0 m 11 ls [.int (aRef σ n t name kind dd mm)]) rfl ?_
  refine lv_istore (lv' := [(6, .int (aRef σ n t name kind dd mm)), (0, .ref ((ca 0))), (1, .int t), (2, .int name), (3, .int kind), (4, .int dd), (5, .int mm)]) hx hb dX7_field_11 hl (by decide) rfl (fun ls hl => ?_)
  refine lv_iload hx hb dX7_field_13 (lv_at hl 0 rfl) ?_
  refine lv_if_eq (tgt := 21) hx hb dX7_field_15 (by decide) (fun c2 => ?_) (fun c2 => ?_)
  · -- 15 taken
    exact absurd c2 (aRef_b c21)
  · -- 15 not
    refine lv_iload hx hb dX7_field_18 (lv_at hl 0 rfl) ?_
    refine W.widen (k := 1) (n := 7) (Nat.le_of_ble_eq_true rfl) (Nat.le_of_ble_eq_true rfl) ?_
    exact cm_iret (v0 := aRef σ n t name kind dd mm) hx hb hr hlocks hP hD hS dX7_field_20 (by unfold oField; rw [if_pos (aRef_z.resolve_left c2)]) (by unfold oField; rw [if_pos (aRef_z.resolve_left c2)]; rfl)
set_option maxHeartbeats 800000 in
set_option maxRecDepth 100000 in
theorem c_memberBusy (l : Launch) (D : va_G) (G : Nat → ClassId) (ca : Nat → Nat) (ea : Nat → Nat → Nat) (n k w0 : Nat) (σ x : MS) (κ : Nat → Int64) (pl : va_W) (sz : Nat) (hE : plE G ea σ κ k pl) (hI : cI σ x n k w0) (ba : Nat → Nat) (hoB : mI σ n k) (t name kind dd mm : Int32) (bd : Int32) (c21 : ¬ σ 21 0 = 0) (τ : Nat → Int64) : Met l yX7_member (ww yX7_member cX7_member 11 (some .int)) (rmC 4 4 22) (cmP D G sz (cF G ca (.ref (ba 0)) (enF ea k) σ x ++ (mbW G ba σ k (-1) ++ pl)) [.ref ((ca 0)), .int t, .int name, .int kind, .int dd, .int mm, .int bd]) (cmQi D (va_A (cF G ca (.ref (ba 0)) (enF ea k) σ x ++ (mbW G ba σ k (-1) ++ pl)) sz) ((oMember σ τ n k t name kind dd mm bd).1) (fun z8 => z8 = cF G ca (.ref (ba 0)) (enF ea k) (oMember σ τ n k t name kind dd mm bd).2.1 x ++ (mbW G ba σ k (-1) ++ pl))) 4 22 (va_A (cF G ca (.ref (ba 0)) (enF ea k) σ x ++ (mbW G ba σ k (-1) ++ pl)) sz) := by
  refine Met.ofW (cc := cX7_member) (maxL := 11) (ret := (some .int)) (by decide) rfl ?_
  intro p e s m args below meth c s₁ B hml hv
  obtain ⟨rfl, hsz, hP, hK, hD0⟩ := hv
  have hx := B.exec
  have hb := B.bytes
  have hr := B.returns
  have hts : ∀ w ∈ TT, w.before _ s = true := fun w h => atoms_spec (ws := ww yX7_member cX7_member 11 (some .int)) B.pre w (List.mem_cons_of_mem _ h)
  have hown : s.vm.findClass RX7 = some m.cls := findClass_of_methodNamed B.named
  have hlocks := B.notSynchronized
  subst hsz
  have hD : va_D (va_A (cF G ca (.ref (ba 0)) (enF ea k) σ x ++ (mbW G ba σ k (-1) ++ pl)) s.heap.size) (cF G ca (.ref (ba 0)) (enF ea k) σ x ++ (mbW G ba σ k (-1) ++ pl)) := hD0.self
  generalize hAe : va_A (cF G ca (.ref (ba 0)) (enF ea k) σ x ++ (mbW G ba σ k (-1) ++ pl)) s.heap.size = A at hD ⊢
  have hA : ∀ q : Nat, s.heap.size ≤ q → A q := fun q h => by rw [← hAe]; exact Or.inr h
  have hS : va_S A s.heap s.heap [] := va_S.rf
  have hP : va_P D vwCl (cF G ca (.ref (ba 0)) (enF ea k) σ x ++ (mbW G ba σ k (-1) ++ pl)) s.heap := hP
  have hI0 := hI
  obtain ⟨h1, hn, h7, hk60, h22, hw, hab, hfa, hmi, hak, hrf⟩ := hI
  have hoo := hoB
  obtain ⟨heB, hmB, hkB, hpB⟩ := hoB
  have htB := heB.2
  have hzB := hmB.2
  have hl := lv_entry ([.ref ((ca 0)), .int t, .int name, .int kind, .int dd, .int mm, .int bd]) (n := 11) (Nat.le_of_ble_eq_true rfl)
  rw [lg_entry_eq]
  generalize (lg_sl ([.ref ((ca 0)), .int t, .int name, .int kind, .int dd, .int mm, .int bd]) ++ List.replicate (11 - (lg_sl ([.ref ((ca 0)), .int t, .int name, .int kind, .int dd, .int mm, .int bd])).length) Slot.unset).toArray = ls at hl ⊢
  have hl : lv_has ls 11 [(0, .ref ((ca 0))), (1, .int t), (2, .int name), (3, .int kind), (4, .int dd), (5, .int mm), (6, .int bd)] := hl
  refine lv_aload_n hx hb dX7_member_0 rfl (lv_at hl 0 rfl) ?_
  refine lv_iload_n hx hb dX7_member_1 rfl (lv_at hl 1 rfl) ?_
  refine lv_iload_n hx hb dX7_member_2 rfl (lv_at hl 2 rfl) ?_
  refine lv_iload_n hx hb dX7_member_3 rfl (lv_at hl 3 rfl) ?_
  refine lv_iload hx hb dX7_member_4 (lv_at hl 4 rfl) ?_
  refine lv_iload hx hb dX7_member_6 (lv_at hl 5 rfl) ?_
  have hPf : va_P D vwCl (cF G ca (.ref (ba 0)) (enF ea k) σ x) _ := cF_of hP
  have hEf : ∀ e, e < k → va_P D vwCl (eW G (ea e) σ κ e) _ := plE_P hP (plE_app hE _)
  have hBf := bg_M hP
  refine ro_Vi (D := D) (G := G) (As := [.int t, .int name, .int kind, .int dd, .int mm]) (rest := []) ⟨hx, hb, hml, hown, hts⟩ (c_refusalOfNew l D G _ ca _ ea n k w0 σ x κ hPf hEf hI0 ba (Or.inr ⟨rfl, c21, hBf, hoo⟩) t name kind dd mm) gV_X7_X7_refusalOfNew hdV_X7_refusalOfNew ⟨Nat.le_of_ble_eq_true rfl, Nat.le_of_ble_eq_true rfl⟩ hK (va_recv hK.1 hP (ci := 7) (q0 := 0) rfl rfl) rfl hl.1 rfl (Nat.le_of_ble_eq_true rfl) dX7_member_8 ⟨Nat.le_of_ble_eq_true rfl, Nat.le_of_ble_eq_true rfl⟩ (fun r1 e_r1 => ?_)
  subst e_r1
  refine W.eq (g2 := F0 m 11 ls [.int (aRef σ n t name kind dd mm)]) rfl ?_
  refine lv_istore (lv' := [(7, .int (aRef σ n t name kind dd mm)), (0, .ref ((ca 0))), (1, .int t), (2, .int name), (3, .int kind), (4, .int dd), (5, .int mm), (6, .int bd)]) hx hb dX7_member_11 hl (by decide) rfl (fun ls hl => ?_)
  refine lv_iload hx hb dX7_member_13 (lv_at hl 0 rfl) ?_
  refine lv_if_eq (tgt := 21) hx hb dX7_member_15 (by decide) (fun c2 => ?_) (fun c2 => ?_)
  · -- 15 taken
    exact absurd c2 (aRef_b c21)
  · -- 15 not
    refine lv_iload hx hb dX7_member_18 (lv_at hl 0 rfl) ?_
    refine W.widen (k := 4) (n := 22) (Nat.le_of_ble_eq_true rfl) (Nat.le_of_ble_eq_true rfl) ?_
    exact cm_iret (v0 := aRef σ n t name kind dd mm) hx hb hr hlocks hP hD hS dX7_member_20 (by unfold oMember; rw [if_pos (aRef_z.resolve_left c2)]) (by unfold oMember; rw [if_pos (aRef_z.resolve_left c2)]; rfl)
set_option maxHeartbeats 800000 in
set_option maxRecDepth 100000 in
theorem c_field (l : Launch) (D : va_G) (G : Nat → ClassId) (ca : Nat → Nat) (ea : Nat → Nat → Nat) (n k w0 : Nat) (σ x : MS) (κ : Nat → Int64) (pl : va_W) (sz : Nat) (hE : plE G ea σ κ k pl) (hI : cI σ x n k w0) (t name kind dd mm : Int32) (c21 : σ 21 0 = 0) (τ : Nat → Int64) : Met l yX7_field (ww yX7_field cX7_field 10 (some .int)) (rmC 3 1 7) (cmP D G sz (cF G ca .null (enF ea k) σ x ++ pl) [.ref ((ca 0)), .int t, .int name, .int kind, .int dd, .int mm]) (cmQi D (va_A (cF G ca .null (enF ea k) σ x ++ pl) sz) ((oField σ τ n k t name kind dd mm).1) (fun z8 => (¬ 0 ≤ (oField σ τ n k t name kind dd mm).1 ∧ z8 = cF G ca .null (enF ea k) (oField σ τ n k t name kind dd mm).2.1 x ++ pl) ∨ (0 ≤ (oField σ τ n k t name kind dd mm).1 ∧ ∃ q : Nat, z8 = cF G ca .null (va_up (enF ea k) k (some q)) (oField σ τ n k t name kind dd mm).2.1 x ++ (fdW (fun _ => q) (oField σ τ n k t name kind dd mm).2.1 (vp_updL κ k 0) k ++ pl)))) 1 7 (va_A (cF G ca .null (enF ea k) σ x ++ pl) sz) := by
  refine Met.ofW (cc := cX7_field) (maxL := 10) (ret := (some .int)) (by decide) rfl ?_
  intro p e s m args below meth c s₁ B hml hv
  obtain ⟨rfl, hsz, hP, hK, hD0⟩ := hv
  have hx := B.exec
  have hb := B.bytes
  have hr := B.returns
  have hts : ∀ w ∈ TT, w.before _ s = true := fun w h => atoms_spec (ws := ww yX7_field cX7_field 10 (some .int)) B.pre w (List.mem_cons_of_mem _ h)
  have hown : s.vm.findClass RX7 = some m.cls := findClass_of_methodNamed B.named
  have hlocks := B.notSynchronized
  subst hsz
  have hD : va_D (va_A (cF G ca .null (enF ea k) σ x ++ pl) s.heap.size) (cF G ca .null (enF ea k) σ x ++ pl) := hD0.self
  generalize hAe : va_A (cF G ca .null (enF ea k) σ x ++ pl) s.heap.size = A at hD ⊢
  have hA : ∀ q : Nat, s.heap.size ≤ q → A q := fun q h => by rw [← hAe]; exact Or.inr h
  have hS : va_S A s.heap s.heap [] := va_S.rf
  have hP : va_P D vwCl (cF G ca .null (enF ea k) σ x ++ pl) s.heap := hP
  have hI0 := hI
  obtain ⟨h1, hn, h7, hk60, h22, hw, hab, hfa, hmi, hak, hrf⟩ := hI
  have hl := lv_entry ([.ref ((ca 0)), .int t, .int name, .int kind, .int dd, .int mm]) (n := 10) (Nat.le_of_ble_eq_true rfl)
  rw [lg_entry_eq]
  generalize (lg_sl ([.ref ((ca 0)), .int t, .int name, .int kind, .int dd, .int mm]) ++ List.replicate (10 - (lg_sl ([.ref ((ca 0)), .int t, .int name, .int kind, .int dd, .int mm])).length) Slot.unset).toArray = ls at hl ⊢
  have hl : lv_has ls 10 [(0, .ref ((ca 0))), (1, .int t), (2, .int name), (3, .int kind), (4, .int dd), (5, .int mm)] := hl
  refine lv_aload_n hx hb dX7_field_0 rfl (lv_at hl 0 rfl) ?_
  refine lv_iload_n hx hb dX7_field_1 rfl (lv_at hl 1 rfl) ?_
  refine lv_iload_n hx hb dX7_field_2 rfl (lv_at hl 2 rfl) ?_
  refine lv_iload_n hx hb dX7_field_3 rfl (lv_at hl 3 rfl) ?_
  refine lv_iload hx hb dX7_field_4 (lv_at hl 4 rfl) ?_
  refine lv_iload hx hb dX7_field_6 (lv_at hl 5 rfl) ?_
  have hPf : va_P D vwCl (cF G ca (.null) (enF ea k) σ x) _ := cF_of hP
  have hEf : ∀ e, e < k → va_P D vwCl (eW G (ea e) σ κ e) _ := plE_P hP hE
  refine ro_Vi (D := D) (G := G) (As := [.int t, .int name, .int kind, .int dd, .int mm]) (rest := []) ⟨hx, hb, hml, hown, hts⟩ (c_refusalOfNew l D G _ ca _ ea n k w0 σ x κ hPf hEf hI0 (fun i => i) (Or.inl ⟨rfl, c21⟩) t name kind dd mm) gV_X7_X7_refusalOfNew hdV_X7_refusalOfNew ⟨Nat.le_of_ble_eq_true rfl, Nat.le_of_ble_eq_true rfl⟩ hK (va_recv hK.1 hP (ci := 7) (q0 := 0) rfl rfl) rfl hl.1 rfl (Nat.le_of_ble_eq_true rfl) dX7_field_8 ⟨Nat.le_of_ble_eq_true rfl, Nat.le_of_ble_eq_true rfl⟩ (fun r1 e_r1 => ?_)
  subst e_r1
  refine W.eq (g2 := F0 m 11 ls [.int (aRef σ n t name kind dd mm)]) rfl ?_
  refine lv_istore (lv' := [(6, .int (aRef σ n t name kind dd mm)), (0, .ref ((ca 0))), (1, .int t), (2, .int name), (3, .int kind), (4, .int dd), (5, .int mm)]) hx hb dX7_field_11 hl (by decide) rfl (fun ls hl => ?_)
  refine lv_iload hx hb dX7_field_13 (lv_at hl 0 rfl) ?_
  refine lv_if_eq (tgt := 21) hx hb dX7_field_15 (by decide) (fun c2 => ?_) (fun c2 => ?_)
  · -- 15 taken
    obtain ⟨r1, r2, r3, r4, r5, r6, r7, r8, r9, r10⟩ := aRef_ok (show 0 ≤ aRef σ n t name kind dd mm by rw [c2]; decide)
    have hk59 : k < 60 := by rcases Nat.lt_or_ge k 60 with z | z; exact z; exact absurd (by rw [h7, show k = 60 by omega]; rfl) r10
    obtain ⟨jt, h_jt, rfl⟩ := okN_ex (by omega) r1
    have hcl : (nI jt).toNatClampNeg = jt := nI_clamp (by omega)
    have d1 : ¬ ¬ 0 ≤ aRef σ n (nI jt) name kind dd mm := fun h9 => h9 (by rw [c2]; decide)
    refine lv_aload_n hx hb dX7_field_21 rfl (lv_at hl 1 rfl) ?_
    refine va_get (D := D) (ci := 7) (v := .ref ((ca 1))) (C := RX7) (T := TX7) (N := 11) hx hb hts iX7 hown hK.1 hP 0 rfl rfl 0 (by decide) (hts _ q_73) (fun _ h9 => h9) rfl dX7_field_22 ?_
    refine lv_iload_n hx hb dX7_field_25 rfl (lv_at hl 2 rfl) ?_
    refine ro_Vi (D := D) (G := G) (As := [.int (nI jt)]) (rest := []) ⟨hx, hb, hml, hown, hts⟩ (c_isFaceN l D G _ ca σ x (cF_ty hPf) n h1 hn (jt) (by omega)) gV_X7_X6_isFace hdV_X6_isFace ⟨Nat.le_of_ble_eq_true rfl, Nat.le_of_ble_eq_true rfl⟩ hK (va_recv hK.1 hP (ci := 6) (q0 := 1) rfl rfl) rfl hl.1 rfl (Nat.le_of_ble_eq_true rfl) dX7_field_26 ⟨Nat.le_of_ble_eq_true rfl, Nat.le_of_ble_eq_true rfl⟩ (fun r3 e_r3 => ?_)
    subst e_r3
    refine W.eq (g2 := F0 m 29 ls [.int (bI (σ 2 jt = 3))]) rfl ?_
    refine lv_istore (lv' := [(7, .int (bI (σ 2 jt = 3))), (6, .int (aRef σ n (nI jt) name kind dd mm)), (0, .ref ((ca 0))), (1, .int (nI jt)), (2, .int name), (3, .int kind), (4, .int dd), (5, .int mm)]) hx hb dX7_field_29 hl (by decide) rfl (fun ls hl => ?_)
    refine lv_iload_n hx hb dX7_field_31 rfl (lv_at hl 5 rfl) ?_
    refine lv_iload hx hb dX7_field_32 (lv_at hl 7 rfl) ?_
    refine lv_iload hx hb dX7_field_34 (lv_at hl 0 rfl) ?_
    refine ro_Si (D := D) (G := G) (As := [.int kind, .int mm, .int (bI (σ 2 jt = 3))]) (rest := []) ⟨hx, hb, hml, hown, hts⟩ (c_ofField l D G _ kind mm (bI (σ 2 jt = 3))) gS_X7_X5_ofField hdS_X5_ofField ⟨Nat.le_of_ble_eq_true rfl, Nat.le_of_ble_eq_true rfl⟩ hK rfl hl.1 rfl (Nat.le_of_ble_eq_true rfl) dX7_field_36 ⟨Nat.le_of_ble_eq_true rfl, Nat.le_of_ble_eq_true rfl⟩ (fun r4 e_r4 => ?_)
    subst e_r4
    refine W.eq (g2 := F0 m 39 ls [.int (rfF kind mm (bI (σ 2 jt = 3)))]) rfl ?_
    refine lv_istore (lv' := [(8, .int (rfF kind mm (bI (σ 2 jt = 3)))), (7, .int (bI (σ 2 jt = 3))), (6, .int (aRef σ n (nI jt) name kind dd mm)), (0, .ref ((ca 0))), (1, .int (nI jt)), (2, .int name), (3, .int kind), (4, .int dd), (5, .int mm)]) hx hb dX7_field_39 hl (by decide) rfl (fun ls hl => ?_)
    refine lv_iload hx hb dX7_field_41 (lv_at hl 0 rfl) ?_
    refine lv_if_ne (tgt := 60) hx hb dX7_field_43 (by decide) (fun c5 => ?_) (fun c5 => ?_)
    · -- 43 taken
      have hRu : rfF kind mm (bI (σ 2 jt = 3)) = aRF σ k jt name kind mm := by rw [← rule_f r8, if_neg (fun h9 => c5 h9.1)]
      refine lv_iload hx hb dX7_field_60 (lv_at hl 0 rfl) ?_
      refine lv_if_eq (tgt := 72) hx hb dX7_field_62 (by decide) (fun hh => absurd hh c5) (fun hh => ?_)
      refine lv_aload_n hx hb dX7_field_65 rfl (lv_at hl 3 rfl) ?_
      refine lv_iload hx hb dX7_field_66 (lv_at hl 0 rfl) ?_
      have hop := okR_pos (aRF_ok (σ := σ) (k := k) (t := jt) (name := name) (kind := kind) (m := mm)) (fun h9 => c5 (hRu.trans h9))
      refine W.eq (g2 := F0 m 68 ls [.int (nI ((aRF σ k jt name kind mm).toNatClampNeg)), .ref ((ca 0))]) (congrArg (fun z9 => F0 m 68 ls [.int z9, .ref ((ca 0))]) (hRu.trans aRF_ok.1)) ?_
      refine cm_Vi (D := D) (G := G) (As := [.int (nI ((aRF σ k jt name kind mm).toNatClampNeg))]) (rest := []) ⟨hx, hb, hml, hown, hts⟩ (c_breakRule l D G ca _ ea n k w0 σ x κ _ _ hE hI0 (((aRF σ k jt name kind mm).toNatClampNeg)) (by omega) (by omega)) gV_X7_X7_breakRule hdV_X7_breakRule ⟨Nat.le_of_ble_eq_true rfl, Nat.le_of_ble_eq_true rfl⟩ hK (va_recv hK.1 hP (ci := 7) (q0 := 0) rfl rfl) hP hD hS hA rfl hl.1 rfl (Nat.le_of_ble_eq_true rfl) dX7_field_68 ⟨Nat.le_of_ble_eq_true rfl, Nat.le_of_ble_eq_true rfl⟩ (fun ws H locs hw hP hD hS => ?_)
      subst hw
      have hP : va_P D vwCl (cF G ca (.null) (enF ea k) (su (su σ 27 (((aRF σ k jt name kind mm).toNatClampNeg)) (σ 27 (((aRF σ k jt name kind mm).toNatClampNeg)) + 1)) 26 (0) (σ 26 0 + 1)) x ++ pl) H := hP
      have hD : va_D A (cF G ca (.null) (enF ea k) (su (su σ 27 (((aRF σ k jt name kind mm).toNatClampNeg)) (σ 27 (((aRF σ k jt name kind mm).toNatClampNeg)) + 1)) 26 (0) (σ 26 0 + 1)) x ++ pl) := hD
      refine W.eq (g2 := F0 m 71 ls [.int ((-40) - nI (((aRF σ k jt name kind mm).toNatClampNeg)))]) rfl ?_
      refine W.widen (k := 1) (n := 7) (Nat.le_of_ble_eq_true rfl) (Nat.le_of_ble_eq_true rfl) ?_
      exact cm_iret (v0 := (-40) - nI (((aRF σ k jt name kind mm).toNatClampNeg))) hx hb hr hlocks hP hD hS dX7_field_71 (by unfold oField; rw [if_neg d1, hcl, if_pos (fun h9 => c5 (hRu.trans ((okR_le aRF_ok).mp h9)))]) (Or.inl ⟨by unfold oField; rw [if_neg d1, hcl, if_pos (fun h9 => c5 (hRu.trans ((okR_le aRF_ok).mp h9)))]; exact brk_neg aRF_ok, by unfold oField; rw [if_neg d1, hcl, if_pos (fun h9 => c5 (hRu.trans ((okR_le aRF_ok).mp h9)))]; rfl⟩)
    · -- 43 not
      refine lv_aload_n hx hb dX7_field_46 rfl (lv_at hl 3 rfl) ?_
      refine lv_iload_n hx hb dX7_field_47 rfl (lv_at hl 4 rfl) ?_
      refine lv_iload_n hx hb dX7_field_48 rfl (lv_at hl 5 rfl) ?_
      refine ro_Vi (D := D) (G := G) (As := [.int (nI jt), .int name]) (rest := []) ⟨hx, hb, hml, hown, hts⟩ (c_ownField l D G _ ca _ ea n k w0 σ x κ hPf hEf hI0 (nI jt) name) gV_X7_X7_ownField hdV_X7_ownField ⟨Nat.le_of_ble_eq_true rfl, Nat.le_of_ble_eq_true rfl⟩ hK (va_recv hK.1 hP (ci := 7) (q0 := 0) rfl rfl) rfl hl.1 rfl (Nat.le_of_ble_eq_true rfl) dX7_field_49 ⟨Nat.le_of_ble_eq_true rfl, Nat.le_of_ble_eq_true rfl⟩ (fun r7 e_r7 => ?_)
      subst e_r7
      refine W.eq (g2 := F0 m 52 ls [.int (fld σ k (nI jt) name)]) rfl ?_
      refine lv_iconst (v := -1) hx hb dX7_field_52 (by decide) ?_
      refine lv_icmp_eq (tgt := 60) hx hb dX7_field_53 (by decide) (fun c8 => ?_) (fun c8 => ?_)
      · -- 53 taken
        have hRu0 : aRF σ k jt name kind mm = 0 := by rw [← rule_f r8, if_neg (fun h9 => h9.2 c8)]; exact c5
        refine lv_iload hx hb dX7_field_60 (lv_at hl 0 rfl) ?_
        refine lv_if_eq (tgt := 72) hx hb dX7_field_62 (by decide) (fun hh => ?_) (fun hh => absurd c5 hh)
        refine lv_iload hx hb dX7_field_72 (lv_at hl 1 rfl) ?_
        refine lv_if_eq (tgt := 82) hx hb dX7_field_74 (by decide) (fun c10 => ?_) (fun c10 => ?_)
        · -- 74 taken
          have c10 := bI_0 c10
          refine lv_iconst (v := 0) hx hb dX7_field_82 (by decide) ?_
          refine lv_istore (lv' := [(9, .int 0), (8, .int (rfF kind mm (bI (σ 2 jt = 3)))), (7, .int (bI (σ 2 jt = 3))), (6, .int (aRef σ n (nI jt) name kind dd mm)), (0, .ref ((ca 0))), (1, .int (nI jt)), (2, .int name), (3, .int kind), (4, .int dd), (5, .int mm)]) hx hb dX7_field_83 hl (by decide) rfl (fun ls hl => ?_)
          refine lv_aload_n hx hb dX7_field_85 rfl (lv_at hl 4 rfl) ?_
          refine va_new (ci := 3) (fs := [.int 0, .int 0, .int 0, .int 0, .int 0, .int 0, .long 0]) (C := RX2) (T := TX2) (N := 7) hx hb hts iX2 tyX2 tyX2_ok hown (hts _ q_203) (hts _ q_208) (hts _ q_8) hK.1 hP hD hS hA rfl (fun j hj => by rcases (show j = 0 ∨ j = 1 ∨ j = 2 ∨ j = 3 ∨ j = 4 ∨ j = 5 ∨ j = 6 by omega) with rfl | rfl | rfl | rfl | rfl | rfl | rfl <;> rfl) (Nat.le_of_ble_eq_true rfl) (Nat.le_of_ble_eq_true rfl) dX7_field_86 (fun q11 H hP hD hS => ?_)
          refine lv_dup hx hb dX7_field_89 rfl ?_
          refine lv_iload_n hx hb dX7_field_90 rfl (lv_at hl 5 rfl) ?_
          refine lv_iload_n hx hb dX7_field_91 rfl (lv_at hl 6 rfl) ?_
          refine lv_iload_n hx hb dX7_field_92 rfl (lv_at hl 7 rfl) ?_
          refine lv_iload hx hb dX7_field_93 (lv_at hl 8 rfl) ?_
          refine lv_iload hx hb dX7_field_95 (lv_at hl 9 rfl) ?_
          refine lv_iload hx hb dX7_field_97 (lv_at hl 0 rfl) ?_
          refine lv_ior hx hb dX7_field_99 ?_
          refine W.eq (g2 := F0 m 100 ls [.int mm, .int dd, .int kind, .int name, .int (nI jt), .ref q11, .ref q11, .ref ((ca 0))]) (congrArg (fun z9 => F0 m 100 ls [.int z9, .int dd, .int kind, .int name, .int (nI jt), .ref q11, .ref q11, .ref ((ca 0))]) (Int32.or_zero : mm ||| 0 = mm)) ?_
          refine cm_I (n := 5) (wr := cF G ca (.null) (enF ea k) σ x ++ pl) (wc := [(q11, .inr (3, [.int 0, .int 0, .int 0, .int 0, .int 0, .int 0, .long 0]))]) (D := D) (G := G) (As := [.int (nI jt), .int name, .int kind, .int dd, .int mm]) (rest := [.ref q11, .ref ((ca 0))]) ⟨hx, hb, hml, hown, hts⟩ (c_fieldInit l D G q11 _ (nI jt) name kind dd mm) q_211 q_8 q_209 q_210 rfl (by decide +kernel) ⟨(Nat.le_of_ble_eq_true rfl), (Nat.le_of_ble_eq_true rfl)⟩ hK hP hD hS hA rfl hl.1 rfl (Nat.le_of_ble_eq_true rfl) dX7_field_100 ⟨(Nat.le_of_ble_eq_true rfl), (Nat.le_of_ble_eq_true rfl)⟩ (fun w1 H locs hw hP hD hS => ?_)
          subst hw
          have hP := P_perm hP pm_front
          have hD := D_perm pm_front hD
          have hP : va_P D vwCl (cF G ca (.null) (enF ea k) σ x ++ ((q11, .inr (3, [.int (nI jt), .int name, .int kind, .int dd, .int mm, .int 0, .long 0])) :: pl)) H := hP
          have hD : va_D A (cF G ca (.null) (enF ea k) σ x ++ ((q11, .inr (3, [.int (nI jt), .int name, .int kind, .int dd, .int mm, .int 0, .long 0])) :: pl)) := hD
          refine cm_Vi (D := D) (G := G) (As := [.ref q11]) (rest := []) ⟨hx, hb, hml, hown, hts⟩ (c_addEntry l D G ca _ ea n k w0 σ x κ _ _ (plE_cons hE _) hI0 q11 14 3 _ _ rfl rfl (fun U h => h.2.2.2.1) hk59) gV_X7_X7_addEntry hdV_X7_addEntry ⟨Nat.le_of_ble_eq_true rfl, Nat.le_of_ble_eq_true rfl⟩ hK (va_recv hK.1 hP (ci := 7) (q0 := 0) rfl rfl) hP hD hS hA rfl hl.1 rfl (Nat.le_of_ble_eq_true rfl) dX7_field_103 ⟨Nat.le_of_ble_eq_true rfl, Nat.le_of_ble_eq_true rfl⟩ (fun ws H locs hw hP hD hS => ?_)
          subst hw
          have hP : va_P D vwCl (cF G ca (.null) (va_up (enF ea k) k (some q11)) (su σ 7 (0) (nI (k + 1))) x ++ ((q11, .inr (3, [.int (nI jt), .int name, .int kind, .int dd, .int mm, .int 0, .long 0])) :: pl)) H := hP
          have hD : va_D A (cF G ca (.null) (va_up (enF ea k) k (some q11)) (su σ 7 (0) (nI (k + 1))) x ++ ((q11, .inr (3, [.int (nI jt), .int name, .int kind, .int dd, .int mm, .int 0, .long 0])) :: pl)) := hD
          refine W.eq (g2 := F0 m 106 ls [.int (nI k)]) rfl ?_
          exact cm_iret (v0 := nI k) hx hb hr hlocks hP hD hS dX7_field_106 (by unfold oField; rw [if_neg d1, hcl, if_neg (show ¬ ¬ aRF σ k jt name kind mm ≤ 0 from fun h9 => h9 (by rw [hRu0]; decide))]) (Or.inr ⟨by unfold oField; rw [if_neg d1, hcl, if_neg (show ¬ ¬ aRF σ k jt name kind mm ≤ 0 from fun h9 => h9 (by rw [hRu0]; decide))]; exact nI_pos' (by omega), q11, by unfold oField; rw [if_neg d1, hcl, if_neg (show ¬ ¬ aRF σ k jt name kind mm ≤ 0 from fun h9 => h9 (by rw [hRu0]; decide))]; rw [if_neg c10]; rw [fd_cell]; rfl⟩)
        · -- 74 not
          have c10 := bI_1 c10
          refine lv_bipush (v := 25) hx hb dX7_field_77 (by decide) ?_
          refine lv_goto (tgt := 83) hx hb dX7_field_79 (by decide) ?_
          refine lv_istore (lv' := [(9, .int 25), (8, .int (rfF kind mm (bI (σ 2 jt = 3)))), (7, .int (bI (σ 2 jt = 3))), (6, .int (aRef σ n (nI jt) name kind dd mm)), (0, .ref ((ca 0))), (1, .int (nI jt)), (2, .int name), (3, .int kind), (4, .int dd), (5, .int mm)]) hx hb dX7_field_83 hl (by decide) rfl (fun ls hl => ?_)
          refine lv_aload_n hx hb dX7_field_85 rfl (lv_at hl 4 rfl) ?_
          refine va_new (ci := 3) (fs := [.int 0, .int 0, .int 0, .int 0, .int 0, .int 0, .long 0]) (C := RX2) (T := TX2) (N := 7) hx hb hts iX2 tyX2 tyX2_ok hown (hts _ q_203) (hts _ q_208) (hts _ q_8) hK.1 hP hD hS hA rfl (fun j hj => by rcases (show j = 0 ∨ j = 1 ∨ j = 2 ∨ j = 3 ∨ j = 4 ∨ j = 5 ∨ j = 6 by omega) with rfl | rfl | rfl | rfl | rfl | rfl | rfl <;> rfl) (Nat.le_of_ble_eq_true rfl) (Nat.le_of_ble_eq_true rfl) dX7_field_86 (fun q12 H hP hD hS => ?_)
          refine lv_dup hx hb dX7_field_89 rfl ?_
          refine lv_iload_n hx hb dX7_field_90 rfl (lv_at hl 5 rfl) ?_
          refine lv_iload_n hx hb dX7_field_91 rfl (lv_at hl 6 rfl) ?_
          refine lv_iload_n hx hb dX7_field_92 rfl (lv_at hl 7 rfl) ?_
          refine lv_iload hx hb dX7_field_93 (lv_at hl 8 rfl) ?_
          refine lv_iload hx hb dX7_field_95 (lv_at hl 9 rfl) ?_
          refine lv_iload hx hb dX7_field_97 (lv_at hl 0 rfl) ?_
          refine lv_ior hx hb dX7_field_99 ?_
          refine cm_I (n := 5) (wr := cF G ca (.null) (enF ea k) σ x ++ pl) (wc := [(q12, .inr (3, [.int 0, .int 0, .int 0, .int 0, .int 0, .int 0, .long 0]))]) (D := D) (G := G) (As := [.int (nI jt), .int name, .int kind, .int dd, .int (mm ||| 25)]) (rest := [.ref q12, .ref ((ca 0))]) ⟨hx, hb, hml, hown, hts⟩ (c_fieldInit l D G q12 _ (nI jt) name kind dd (mm ||| 25)) q_211 q_8 q_209 q_210 rfl (by decide +kernel) ⟨(Nat.le_of_ble_eq_true rfl), (Nat.le_of_ble_eq_true rfl)⟩ hK hP hD hS hA rfl hl.1 rfl (Nat.le_of_ble_eq_true rfl) dX7_field_100 ⟨(Nat.le_of_ble_eq_true rfl), (Nat.le_of_ble_eq_true rfl)⟩ (fun w1 H locs hw hP hD hS => ?_)
          subst hw
          have hP := P_perm hP pm_front
          have hD := D_perm pm_front hD
          have hP : va_P D vwCl (cF G ca (.null) (enF ea k) σ x ++ ((q12, .inr (3, [.int (nI jt), .int name, .int kind, .int dd, .int (mm ||| 25), .int 0, .long 0])) :: pl)) H := hP
          have hD : va_D A (cF G ca (.null) (enF ea k) σ x ++ ((q12, .inr (3, [.int (nI jt), .int name, .int kind, .int dd, .int (mm ||| 25), .int 0, .long 0])) :: pl)) := hD
          refine cm_Vi (D := D) (G := G) (As := [.ref q12]) (rest := []) ⟨hx, hb, hml, hown, hts⟩ (c_addEntry l D G ca _ ea n k w0 σ x κ _ _ (plE_cons hE _) hI0 q12 14 3 _ _ rfl rfl (fun U h => h.2.2.2.1) hk59) gV_X7_X7_addEntry hdV_X7_addEntry ⟨Nat.le_of_ble_eq_true rfl, Nat.le_of_ble_eq_true rfl⟩ hK (va_recv hK.1 hP (ci := 7) (q0 := 0) rfl rfl) hP hD hS hA rfl hl.1 rfl (Nat.le_of_ble_eq_true rfl) dX7_field_103 ⟨Nat.le_of_ble_eq_true rfl, Nat.le_of_ble_eq_true rfl⟩ (fun ws H locs hw hP hD hS => ?_)
          subst hw
          have hP : va_P D vwCl (cF G ca (.null) (va_up (enF ea k) k (some q12)) (su σ 7 (0) (nI (k + 1))) x ++ ((q12, .inr (3, [.int (nI jt), .int name, .int kind, .int dd, .int (mm ||| 25), .int 0, .long 0])) :: pl)) H := hP
          have hD : va_D A (cF G ca (.null) (va_up (enF ea k) k (some q12)) (su σ 7 (0) (nI (k + 1))) x ++ ((q12, .inr (3, [.int (nI jt), .int name, .int kind, .int dd, .int (mm ||| 25), .int 0, .long 0])) :: pl)) := hD
          refine W.eq (g2 := F0 m 106 ls [.int (nI k)]) rfl ?_
          exact cm_iret (v0 := nI k) hx hb hr hlocks hP hD hS dX7_field_106 (by unfold oField; rw [if_neg d1, hcl, if_neg (show ¬ ¬ aRF σ k jt name kind mm ≤ 0 from fun h9 => h9 (by rw [hRu0]; decide))]) (Or.inr ⟨by unfold oField; rw [if_neg d1, hcl, if_neg (show ¬ ¬ aRF σ k jt name kind mm ≤ 0 from fun h9 => h9 (by rw [hRu0]; decide))]; exact nI_pos' (by omega), q12, by unfold oField; rw [if_neg d1, hcl, if_neg (show ¬ ¬ aRF σ k jt name kind mm ≤ 0 from fun h9 => h9 (by rw [hRu0]; decide))]; rw [if_pos c10, ← marks_f]; rw [fd_cell]; rfl⟩)
      · -- 53 not
        have hRu : (6 : Int32) = aRF σ k jt name kind mm := by rw [← rule_f r8, if_pos ⟨c5, c8⟩]
        refine lv_bipush (v := 6) hx hb dX7_field_56 (by decide) ?_
        refine lv_istore (lv' := [(8, .int 6), (7, .int (bI (σ 2 jt = 3))), (6, .int (aRef σ n (nI jt) name kind dd mm)), (0, .ref ((ca 0))), (1, .int (nI jt)), (2, .int name), (3, .int kind), (4, .int dd), (5, .int mm)]) hx hb dX7_field_58 hl (by decide) rfl (fun ls hl => ?_)
        refine lv_iload hx hb dX7_field_60 (lv_at hl 0 rfl) ?_
        refine lv_if_eq (tgt := 72) hx hb dX7_field_62 (by decide) (fun hh => absurd hh (by decide)) (fun hh => ?_)
        refine lv_aload_n hx hb dX7_field_65 rfl (lv_at hl 3 rfl) ?_
        refine lv_iload hx hb dX7_field_66 (lv_at hl 0 rfl) ?_
        refine cm_Vi (D := D) (G := G) (As := [.int 6]) (rest := []) ⟨hx, hb, hml, hown, hts⟩ (c_breakRule l D G ca _ ea n k w0 σ x κ _ _ hE hI0 (6) (by omega) (by omega)) gV_X7_X7_breakRule hdV_X7_breakRule ⟨Nat.le_of_ble_eq_true rfl, Nat.le_of_ble_eq_true rfl⟩ hK (va_recv hK.1 hP (ci := 7) (q0 := 0) rfl rfl) hP hD hS hA rfl hl.1 rfl (Nat.le_of_ble_eq_true rfl) dX7_field_68 ⟨Nat.le_of_ble_eq_true rfl, Nat.le_of_ble_eq_true rfl⟩ (fun ws H locs hw hP hD hS => ?_)
        subst hw
        have hP : va_P D vwCl (cF G ca (.null) (enF ea k) (su (su σ 27 (6) (σ 27 6 + 1)) 26 (0) (σ 26 0 + 1)) x ++ pl) H := hP
        have hD : va_D A (cF G ca (.null) (enF ea k) (su (su σ 27 (6) (σ 27 6 + 1)) 26 (0) (σ 26 0 + 1)) x ++ pl) := hD
        refine W.eq (g2 := F0 m 71 ls [.int ((-40) - nI 6)]) rfl ?_
        refine W.widen (k := 1) (n := 7) (Nat.le_of_ble_eq_true rfl) (Nat.le_of_ble_eq_true rfl) ?_
        exact cm_iret (v0 := (-40) - nI 6) hx hb hr hlocks hP hD hS dX7_field_71 (by unfold oField; rw [if_neg d1, hcl, ← hRu, if_pos (show ¬ (6 : Int32) ≤ 0 by decide)]; rfl) (Or.inl ⟨by unfold oField; rw [if_neg d1, hcl, ← hRu, if_pos (show ¬ (6 : Int32) ≤ 0 by decide)]; exact (show ¬ (0 : Int32) ≤ (-40) - nI 6 by decide), by unfold oField; rw [if_neg d1, hcl, ← hRu, if_pos (show ¬ (6 : Int32) ≤ 0 by decide)]; rfl⟩)
  · -- 15 not
    refine lv_iload hx hb dX7_field_18 (lv_at hl 0 rfl) ?_
    refine W.widen (k := 1) (n := 7) (Nat.le_of_ble_eq_true rfl) (Nat.le_of_ble_eq_true rfl) ?_
    exact cm_iret (v0 := aRef σ n t name kind dd mm) hx hb hr hlocks hP hD hS dX7_field_20 (by unfold oField; rw [if_pos (aRef_z.resolve_left c2)]) (Or.inl ⟨by unfold oField; rw [if_pos (aRef_z.resolve_left c2)]; exact (aRef_z.resolve_left c2), by unfold oField; rw [if_pos (aRef_z.resolve_left c2)]; rfl⟩)
set_option maxHeartbeats 800000 in
set_option maxRecDepth 100000 in
theorem c_member (l : Launch) (D : va_G) (G : Nat → ClassId) (ca : Nat → Nat) (ea : Nat → Nat → Nat) (n k w0 : Nat) (σ x : MS) (κ : Nat → Int64) (pl : va_W) (sz : Nat) (hE : plE G ea σ κ k pl) (hI : cI σ x n k w0) (t name kind dd mm : Int32) (bd : Int32) (hbd : bd = 0 ∨ bd = 1) (c21 : σ 21 0 = 0) (τ : Nat → Int64) : Met l yX7_member (ww yX7_member cX7_member 11 (some .int)) (rmC 4 4 22) (cmP D G sz (cF G ca .null (enF ea k) σ x ++ pl) [.ref ((ca 0)), .int t, .int name, .int kind, .int dd, .int mm, .int bd]) (cmQi D (va_A (cF G ca .null (enF ea k) σ x ++ pl) sz) ((oMember σ τ n k t name kind dd mm bd).1) (fun z8 => (¬ (oMember σ τ n k t name kind dd mm bd).1 = 1 ∧ z8 = cF G ca .null (enF ea k) (oMember σ τ n k t name kind dd mm bd).2.1 x ++ pl) ∨ ((oMember σ τ n k t name kind dd mm bd).1 = 1 ∧ ∃ ba : Nat → Nat, z8 = cF G ca (.ref (ba 0)) (enF ea k) (oMember σ τ n k t name kind dd mm bd).2.1 x ++ (mbW G ba (oMember σ τ n k t name kind dd mm bd).2.1 k (-1) ++ pl)))) 4 22 (va_A (cF G ca .null (enF ea k) σ x ++ pl) sz) := by
  refine Met.ofW (cc := cX7_member) (maxL := 11) (ret := (some .int)) (by decide) rfl ?_
  intro p e s m args below meth c s₁ B hml hv
  obtain ⟨rfl, hsz, hP, hK, hD0⟩ := hv
  have hx := B.exec
  have hb := B.bytes
  have hr := B.returns
  have hts : ∀ w ∈ TT, w.before _ s = true := fun w h => atoms_spec (ws := ww yX7_member cX7_member 11 (some .int)) B.pre w (List.mem_cons_of_mem _ h)
  have hown : s.vm.findClass RX7 = some m.cls := findClass_of_methodNamed B.named
  have hlocks := B.notSynchronized
  subst hsz
  have hD : va_D (va_A (cF G ca .null (enF ea k) σ x ++ pl) s.heap.size) (cF G ca .null (enF ea k) σ x ++ pl) := hD0.self
  generalize hAe : va_A (cF G ca .null (enF ea k) σ x ++ pl) s.heap.size = A at hD ⊢
  have hA : ∀ q : Nat, s.heap.size ≤ q → A q := fun q h => by rw [← hAe]; exact Or.inr h
  have hS : va_S A s.heap s.heap [] := va_S.rf
  have hP : va_P D vwCl (cF G ca .null (enF ea k) σ x ++ pl) s.heap := hP
  have hI0 := hI
  obtain ⟨h1, hn, h7, hk60, h22, hw, hab, hfa, hmi, hak, hrf⟩ := hI
  have hl := lv_entry ([.ref ((ca 0)), .int t, .int name, .int kind, .int dd, .int mm, .int bd]) (n := 11) (Nat.le_of_ble_eq_true rfl)
  rw [lg_entry_eq]
  generalize (lg_sl ([.ref ((ca 0)), .int t, .int name, .int kind, .int dd, .int mm, .int bd]) ++ List.replicate (11 - (lg_sl ([.ref ((ca 0)), .int t, .int name, .int kind, .int dd, .int mm, .int bd])).length) Slot.unset).toArray = ls at hl ⊢
  have hl : lv_has ls 11 [(0, .ref ((ca 0))), (1, .int t), (2, .int name), (3, .int kind), (4, .int dd), (5, .int mm), (6, .int bd)] := hl
  refine lv_aload_n hx hb dX7_member_0 rfl (lv_at hl 0 rfl) ?_
  refine lv_iload_n hx hb dX7_member_1 rfl (lv_at hl 1 rfl) ?_
  refine lv_iload_n hx hb dX7_member_2 rfl (lv_at hl 2 rfl) ?_
  refine lv_iload_n hx hb dX7_member_3 rfl (lv_at hl 3 rfl) ?_
  refine lv_iload hx hb dX7_member_4 (lv_at hl 4 rfl) ?_
  refine lv_iload hx hb dX7_member_6 (lv_at hl 5 rfl) ?_
  have hPf : va_P D vwCl (cF G ca (.null) (enF ea k) σ x) _ := cF_of hP
  have hEf : ∀ e, e < k → va_P D vwCl (eW G (ea e) σ κ e) _ := plE_P hP hE
  refine ro_Vi (D := D) (G := G) (As := [.int t, .int name, .int kind, .int dd, .int mm]) (rest := []) ⟨hx, hb, hml, hown, hts⟩ (c_refusalOfNew l D G _ ca _ ea n k w0 σ x κ hPf hEf hI0 (fun i => i) (Or.inl ⟨rfl, c21⟩) t name kind dd mm) gV_X7_X7_refusalOfNew hdV_X7_refusalOfNew ⟨Nat.le_of_ble_eq_true rfl, Nat.le_of_ble_eq_true rfl⟩ hK (va_recv hK.1 hP (ci := 7) (q0 := 0) rfl rfl) rfl hl.1 rfl (Nat.le_of_ble_eq_true rfl) dX7_member_8 ⟨Nat.le_of_ble_eq_true rfl, Nat.le_of_ble_eq_true rfl⟩ (fun r1 e_r1 => ?_)
  subst e_r1
  refine W.eq (g2 := F0 m 11 ls [.int (aRef σ n t name kind dd mm)]) rfl ?_
  refine lv_istore (lv' := [(7, .int (aRef σ n t name kind dd mm)), (0, .ref ((ca 0))), (1, .int t), (2, .int name), (3, .int kind), (4, .int dd), (5, .int mm), (6, .int bd)]) hx hb dX7_member_11 hl (by decide) rfl (fun ls hl => ?_)
  refine lv_iload hx hb dX7_member_13 (lv_at hl 0 rfl) ?_
  refine lv_if_eq (tgt := 21) hx hb dX7_member_15 (by decide) (fun c2 => ?_) (fun c2 => ?_)
  · -- 15 taken
    obtain ⟨r1, r2, r3, r4, r5, r6, r7, r8, r9, r10⟩ := aRef_ok (show 0 ≤ aRef σ n t name kind dd mm by rw [c2]; decide)
    have hk59 : k < 60 := by rcases Nat.lt_or_ge k 60 with z | z; exact z; exact absurd (by rw [h7, show k = 60 by omega]; rfl) r10
    obtain ⟨jt, h_jt, rfl⟩ := okN_ex (by omega) r1
    have hcl : (nI jt).toNatClampNeg = jt := nI_clamp (by omega)
    have d1 : ¬ ¬ 0 ≤ aRef σ n (nI jt) name kind dd mm := fun h9 => h9 (by rw [c2]; decide)
    refine lv_aload_n hx hb dX7_member_21 rfl (lv_at hl 1 rfl) ?_
    refine va_get (D := D) (ci := 7) (v := .ref ((ca 1))) (C := RX7) (T := TX7) (N := 11) hx hb hts iX7 hown hK.1 hP 0 rfl rfl 0 (by decide) (hts _ q_73) (fun _ h9 => h9) rfl dX7_member_22 ?_
    refine lv_iload_n hx hb dX7_member_25 rfl (lv_at hl 2 rfl) ?_
    refine ro_Vi (D := D) (G := G) (As := [.int (nI jt)]) (rest := []) ⟨hx, hb, hml, hown, hts⟩ (c_isFaceN l D G _ ca σ x (cF_ty hPf) n h1 hn (jt) (by omega)) gV_X7_X6_isFace hdV_X6_isFace ⟨Nat.le_of_ble_eq_true rfl, Nat.le_of_ble_eq_true rfl⟩ hK (va_recv hK.1 hP (ci := 6) (q0 := 1) rfl rfl) rfl hl.1 rfl (Nat.le_of_ble_eq_true rfl) dX7_member_26 ⟨Nat.le_of_ble_eq_true rfl, Nat.le_of_ble_eq_true rfl⟩ (fun r3 e_r3 => ?_)
    subst e_r3
    refine W.eq (g2 := F0 m 29 ls [.int (bI (σ 2 jt = 3))]) rfl ?_
    refine lv_istore (lv' := [(8, .int (bI (σ 2 jt = 3))), (7, .int (aRef σ n (nI jt) name kind dd mm)), (0, .ref ((ca 0))), (1, .int (nI jt)), (2, .int name), (3, .int kind), (4, .int dd), (5, .int mm), (6, .int bd)]) hx hb dX7_member_29 hl (by decide) rfl (fun ls hl => ?_)
    refine lv_iload hx hb dX7_member_31 (lv_at hl 0 rfl) ?_
    refine lv_if_eq (tgt := 46) hx hb dX7_member_33 (by decide) (fun c4 => ?_) (fun c4 => ?_)
    · -- 33 taken
      have c4 := bI_0 c4
      refine lv_iload hx hb dX7_member_46 (lv_at hl 7 rfl) ?_
      refine lv_iload hx hb dX7_member_48 (lv_at hl 8 rfl) ?_
      refine lv_aload_n hx hb dX7_member_50 rfl (lv_at hl 2 rfl) ?_
      refine va_get (D := D) (ci := 7) (v := .ref ((ca 1))) (C := RX7) (T := TX7) (N := 11) hx hb hts iX7 hown hK.1 hP 0 rfl rfl 0 (by decide) (hts _ q_73) (fun _ h9 => h9) rfl dX7_member_51 ?_
      refine lv_iload_n hx hb dX7_member_54 rfl (lv_at hl 3 rfl) ?_
      refine ro_Vi (D := D) (G := G) (As := [.int (nI jt)]) (rest := [.int bd, .int mm]) ⟨hx, hb, hml, hown, hts⟩ (c_sortOf l D G _ ca σ x (cF_ty hPf) n h1 hn (nI jt)) gV_X7_X6_sortOf hdV_X6_sortOf ⟨Nat.le_of_ble_eq_true rfl, Nat.le_of_ble_eq_true rfl⟩ hK (va_recv hK.1 hP (ci := 6) (q0 := 1) rfl rfl) rfl hl.1 rfl (Nat.le_of_ble_eq_true rfl) dX7_member_55 ⟨Nat.le_of_ble_eq_true rfl, Nat.le_of_ble_eq_true rfl⟩ (fun r5 e_r5 => ?_)
      subst e_r5
      refine W.eq (g2 := F0 m 58 ls [.int (soF (σ 2) n (nI jt)), .int bd, .int mm]) rfl ?_
      refine lv_iconst (v := 1) hx hb dX7_member_58 (by decide) ?_
      refine lv_icmp_ne (tgt := 66) hx hb dX7_member_59 (by decide) (fun c6 => ?_) (fun c6 => ?_)
      · -- 59 taken
        refine lv_iconst (v := 0) hx hb dX7_member_66 (by decide) ?_
        refine ro_Si (D := D) (G := G) (As := [.int mm, .int bd, .int 0]) (rest := []) ⟨hx, hb, hml, hown, hts⟩ (c_ofClassMember l D G _ mm bd 0) gS_X7_X5_ofClassMember hdS_X5_ofClassMember ⟨Nat.le_of_ble_eq_true rfl, Nat.le_of_ble_eq_true rfl⟩ hK rfl hl.1 rfl (Nat.le_of_ble_eq_true rfl) dX7_member_67 ⟨Nat.le_of_ble_eq_true rfl, Nat.le_of_ble_eq_true rfl⟩ (fun r7 e_r7 => ?_)
        subst e_r7
        refine W.eq (g2 := F0 m 70 ls [.int (rmcF mm bd 0)]) rfl ?_
        refine lv_istore (lv' := [(9, .int (rmcF mm bd 0)), (8, .int (bI (σ 2 jt = 3))), (7, .int (aRef σ n (nI jt) name kind dd mm)), (0, .ref ((ca 0))), (1, .int (nI jt)), (2, .int name), (3, .int kind), (4, .int dd), (5, .int mm), (6, .int bd)]) hx hb dX7_member_70 hl (by decide) rfl (fun ls hl => ?_)
        refine lv_iload hx hb dX7_member_72 (lv_at hl 0 rfl) ?_
        refine lv_if_eq (tgt := 84) hx hb dX7_member_74 (by decide) (fun c8 => ?_) (fun c8 => ?_)
        · -- 74 taken
          have hRu : rmcF mm bd 0 = aRM (σ 2 jt) mm bd := by rw [← rule_mc r8 c4, bI_f (by have h8 := c6; rw [soF_n hn h_jt] at h8; exact h8)]
          refine lv_iload hx hb dX7_member_84 (lv_at hl 1 rfl) ?_
          refine lv_if_eq (tgt := 100) hx hb dX7_member_86 (by decide) (fun hh => ?_) (fun hh => absurd (bI_1 hh) c4)
          refine lv_iload hx hb dX7_member_100 (lv_at hl 8 rfl) ?_
          refine lv_istore (lv' := [(10, .int mm), (9, .int (rmcF mm bd 0)), (8, .int (bI (σ 2 jt = 3))), (7, .int (aRef σ n (nI jt) name kind dd mm)), (0, .ref ((ca 0))), (1, .int (nI jt)), (2, .int name), (3, .int kind), (4, .int dd), (5, .int mm), (6, .int bd)]) hx hb dX7_member_102 hl (by decide) rfl (fun ls hl => ?_)
          refine lv_aload_n hx hb dX7_member_104 rfl (lv_at hl 4 rfl) ?_
          refine va_new (ci := 4) (fs := [.int 0, .int 0, .int 0, .int 0, .int 0, .int 0, .null, .int 0, .int 0]) (C := RX3) (T := TX3) (N := 9) hx hb hts iX3 tyX3 tyX3_ok hown (hts _ q_307) (hts _ q_308) (hts _ q_19) hK.1 hP hD hS hA rfl (fun j hj => by rcases (show j = 0 ∨ j = 1 ∨ j = 2 ∨ j = 3 ∨ j = 4 ∨ j = 5 ∨ j = 6 ∨ j = 7 ∨ j = 8 by omega) with rfl | rfl | rfl | rfl | rfl | rfl | rfl | rfl | rfl <;> rfl) (Nat.le_of_ble_eq_true rfl) (Nat.le_of_ble_eq_true rfl) dX7_member_105 (fun q10 H hP hD hS => ?_)
          refine lv_dup hx hb dX7_member_108 rfl ?_
          refine lv_iload_n hx hb dX7_member_109 rfl (lv_at hl 5 rfl) ?_
          refine lv_iload_n hx hb dX7_member_110 rfl (lv_at hl 6 rfl) ?_
          refine lv_iload_n hx hb dX7_member_111 rfl (lv_at hl 7 rfl) ?_
          refine lv_iload hx hb dX7_member_112 (lv_at hl 8 rfl) ?_
          refine lv_iload hx hb dX7_member_114 (lv_at hl 0 rfl) ?_
          refine lv_iload hx hb dX7_member_116 (lv_at hl 10 rfl) ?_
          refine cm_I (n := 6) (wr := cF G ca (.null) (enF ea k) σ x ++ pl) (wc := [(q10, .inr (4, [.int 0, .int 0, .int 0, .int 0, .int 0, .int 0, .null, .int 0, .int 0]))]) (D := D) (G := G) (As := [.int (nI jt), .int name, .int kind, .int dd, .int mm, .int bd]) (rest := [.ref q10, .ref ((ca 0))]) ⟨hx, hb, hml, hown, hts⟩ (c_memberInit l D G q10 _ (nI jt) name kind dd mm bd hbd) q_311 q_19 q_309 q_310 rfl (by decide +kernel) ⟨(Nat.le_of_ble_eq_true rfl), (Nat.le_of_ble_eq_true rfl)⟩ hK hP hD hS hA rfl hl.1 rfl (Nat.le_of_ble_eq_true rfl) dX7_member_118 ⟨(Nat.le_of_ble_eq_true rfl), (Nat.le_of_ble_eq_true rfl)⟩ (fun w1 H locs hw hP hD hS => ?_)
          obtain ⟨ba, rfl, rfl⟩ := hw
          have hP := P_perm hP pm_front
          have hD := D_perm pm_front hD
          have hP : va_P D vwCl (cF G ca (.null) (enF ea k) σ x ++ (bgW G ba (nI jt) name kind dd mm bd 0 0 (fun _ => 0) (fun _ => 0) ((-1)) ++ pl)) H := hP
          have hD : va_D A (cF G ca (.null) (enF ea k) σ x ++ (bgW G ba (nI jt) name kind dd mm bd 0 0 (fun _ => 0) (fun _ => 0) ((-1)) ++ pl)) := hD
          refine va_put (D := D) (ci := 7) (v := .ref ((ba 0))) (ty := .object "FieldMember$Member") (C := RX7) (T := TX7) (N := 11) hx hb hts iX7 tyX7 tyX7_ok nmX7 hown hK.1 hP hD hS 0 rfl rfl 3 (by decide) (hts _ q_76) (fun _ h9 => h9) rfl (by decide +kernel) rfl rfl (Nat.le_of_ble_eq_true rfl) dX7_member_121 (fun H locs hP hD hS => ?_)
          have hP : va_P D vwCl (cF G ca (.ref ((ba 0))) (enF ea k) σ x ++ (bgW G ba (nI jt) name kind dd mm bd 0 0 (fun _ => 0) (fun _ => 0) ((-1)) ++ pl)) H := hP
          have hD : va_D A (cF G ca (.ref ((ba 0))) (enF ea k) σ x ++ (bgW G ba (nI jt) name kind dd mm bd 0 0 (fun _ => 0) (fun _ => 0) ((-1)) ++ pl)) := hD
          refine lv_iconst (v := 1) hx hb dX7_member_124 (by decide) ?_
          exact cm_iret (v0 := 1) hx hb hr hlocks hP hD hS dX7_member_125 (by unfold oMember; rw [if_neg d1, hcl, if_neg (show ¬ ¬ aRM (σ 2 jt) mm bd ≤ 0 from fun h9 => h9 (by rw [← hRu, c8]; decide))]) (Or.inr ⟨by unfold oMember; rw [if_neg d1, hcl, if_neg (show ¬ ¬ aRM (σ 2 jt) mm bd ≤ 0 from fun h9 => h9 (by rw [← hRu, c8]; decide))], ba, by unfold oMember; rw [if_neg d1, hcl, if_neg (show ¬ ¬ aRM (σ 2 jt) mm bd ≤ 0 from fun h9 => h9 (by rw [← hRu, c8]; decide))]; rw [bg_new, ← marks_m r8, if_neg c4]; rfl⟩)
        · -- 74 not
          have hRu : rmcF mm bd 0 = aRM (σ 2 jt) mm bd := by rw [← rule_mc r8 c4, bI_f (by have h8 := c6; rw [soF_n hn h_jt] at h8; exact h8)]
          refine lv_aload_n hx hb dX7_member_77 rfl (lv_at hl 3 rfl) ?_
          refine lv_iload hx hb dX7_member_78 (lv_at hl 0 rfl) ?_
          have hop := okR_pos (aRM_ok (sort := σ 2 jt) (m := mm) (body := bd)) (fun h9 => c8 (hRu.trans h9))
          refine W.eq (g2 := F0 m 80 ls [.int (nI ((aRM (σ 2 jt) mm bd).toNatClampNeg)), .ref ((ca 0))]) (congrArg (fun z9 => F0 m 80 ls [.int z9, .ref ((ca 0))]) (hRu.trans aRM_ok.1)) ?_
          refine cm_Vi (D := D) (G := G) (As := [.int (nI ((aRM (σ 2 jt) mm bd).toNatClampNeg))]) (rest := []) ⟨hx, hb, hml, hown, hts⟩ (c_breakRule l D G ca _ ea n k w0 σ x κ _ _ hE hI0 (((aRM (σ 2 jt) mm bd).toNatClampNeg)) (by omega) (by omega)) gV_X7_X7_breakRule hdV_X7_breakRule ⟨Nat.le_of_ble_eq_true rfl, Nat.le_of_ble_eq_true rfl⟩ hK (va_recv hK.1 hP (ci := 7) (q0 := 0) rfl rfl) hP hD hS hA rfl hl.1 rfl (Nat.le_of_ble_eq_true rfl) dX7_member_80 ⟨Nat.le_of_ble_eq_true rfl, Nat.le_of_ble_eq_true rfl⟩ (fun ws H locs hw hP hD hS => ?_)
          subst hw
          have hP : va_P D vwCl (cF G ca (.null) (enF ea k) (su (su σ 27 (((aRM (σ 2 jt) mm bd).toNatClampNeg)) (σ 27 (((aRM (σ 2 jt) mm bd).toNatClampNeg)) + 1)) 26 (0) (σ 26 0 + 1)) x ++ pl) H := hP
          have hD : va_D A (cF G ca (.null) (enF ea k) (su (su σ 27 (((aRM (σ 2 jt) mm bd).toNatClampNeg)) (σ 27 (((aRM (σ 2 jt) mm bd).toNatClampNeg)) + 1)) 26 (0) (σ 26 0 + 1)) x ++ pl) := hD
          refine W.eq (g2 := F0 m 83 ls [.int ((-40) - nI (((aRM (σ 2 jt) mm bd).toNatClampNeg)))]) rfl ?_
          refine W.widen (k := 4) (n := 22) (Nat.le_of_ble_eq_true rfl) (Nat.le_of_ble_eq_true rfl) ?_
          exact cm_iret (v0 := (-40) - nI (((aRM (σ 2 jt) mm bd).toNatClampNeg))) hx hb hr hlocks hP hD hS dX7_member_83 (by unfold oMember; rw [if_neg d1, hcl, if_pos (fun h9 => c8 (hRu.trans ((okR_le aRM_ok).mp h9)))]) (Or.inl ⟨by unfold oMember; rw [if_neg d1, hcl, if_pos (fun h9 => c8 (hRu.trans ((okR_le aRM_ok).mp h9)))]; exact brk_n1 aRM_ok, by unfold oMember; rw [if_neg d1, hcl, if_pos (fun h9 => c8 (hRu.trans ((okR_le aRM_ok).mp h9)))]; rfl⟩)
      · -- 59 not
        refine lv_iconst (v := 1) hx hb dX7_member_62 (by decide) ?_
        refine lv_goto (tgt := 67) hx hb dX7_member_63 (by decide) ?_
        refine ro_Si (D := D) (G := G) (As := [.int mm, .int bd, .int 1]) (rest := []) ⟨hx, hb, hml, hown, hts⟩ (c_ofClassMember l D G _ mm bd 1) gS_X7_X5_ofClassMember hdS_X5_ofClassMember ⟨Nat.le_of_ble_eq_true rfl, Nat.le_of_ble_eq_true rfl⟩ hK rfl hl.1 rfl (Nat.le_of_ble_eq_true rfl) dX7_member_67 ⟨Nat.le_of_ble_eq_true rfl, Nat.le_of_ble_eq_true rfl⟩ (fun r11 e_r11 => ?_)
        subst e_r11
        refine W.eq (g2 := F0 m 70 ls [.int (rmcF mm bd 1)]) rfl ?_
        refine lv_istore (lv' := [(9, .int (rmcF mm bd 1)), (8, .int (bI (σ 2 jt = 3))), (7, .int (aRef σ n (nI jt) name kind dd mm)), (0, .ref ((ca 0))), (1, .int (nI jt)), (2, .int name), (3, .int kind), (4, .int dd), (5, .int mm), (6, .int bd)]) hx hb dX7_member_70 hl (by decide) rfl (fun ls hl => ?_)
        refine lv_iload hx hb dX7_member_72 (lv_at hl 0 rfl) ?_
        refine lv_if_eq (tgt := 84) hx hb dX7_member_74 (by decide) (fun c12 => ?_) (fun c12 => ?_)
        · -- 74 taken
          have hRu : rmcF mm bd 1 = aRM (σ 2 jt) mm bd := by rw [← rule_mc r8 c4, bI_t (by have h8 := c6; rw [soF_n hn h_jt] at h8; exact h8)]
          refine lv_iload hx hb dX7_member_84 (lv_at hl 1 rfl) ?_
          refine lv_if_eq (tgt := 100) hx hb dX7_member_86 (by decide) (fun hh => ?_) (fun hh => absurd (bI_1 hh) c4)
          refine lv_iload hx hb dX7_member_100 (lv_at hl 8 rfl) ?_
          refine lv_istore (lv' := [(10, .int mm), (9, .int (rmcF mm bd 1)), (8, .int (bI (σ 2 jt = 3))), (7, .int (aRef σ n (nI jt) name kind dd mm)), (0, .ref ((ca 0))), (1, .int (nI jt)), (2, .int name), (3, .int kind), (4, .int dd), (5, .int mm), (6, .int bd)]) hx hb dX7_member_102 hl (by decide) rfl (fun ls hl => ?_)
          refine lv_aload_n hx hb dX7_member_104 rfl (lv_at hl 4 rfl) ?_
          refine va_new (ci := 4) (fs := [.int 0, .int 0, .int 0, .int 0, .int 0, .int 0, .null, .int 0, .int 0]) (C := RX3) (T := TX3) (N := 9) hx hb hts iX3 tyX3 tyX3_ok hown (hts _ q_307) (hts _ q_308) (hts _ q_19) hK.1 hP hD hS hA rfl (fun j hj => by rcases (show j = 0 ∨ j = 1 ∨ j = 2 ∨ j = 3 ∨ j = 4 ∨ j = 5 ∨ j = 6 ∨ j = 7 ∨ j = 8 by omega) with rfl | rfl | rfl | rfl | rfl | rfl | rfl | rfl | rfl <;> rfl) (Nat.le_of_ble_eq_true rfl) (Nat.le_of_ble_eq_true rfl) dX7_member_105 (fun q14 H hP hD hS => ?_)
          refine lv_dup hx hb dX7_member_108 rfl ?_
          refine lv_iload_n hx hb dX7_member_109 rfl (lv_at hl 5 rfl) ?_
          refine lv_iload_n hx hb dX7_member_110 rfl (lv_at hl 6 rfl) ?_
          refine lv_iload_n hx hb dX7_member_111 rfl (lv_at hl 7 rfl) ?_
          refine lv_iload hx hb dX7_member_112 (lv_at hl 8 rfl) ?_
          refine lv_iload hx hb dX7_member_114 (lv_at hl 0 rfl) ?_
          refine lv_iload hx hb dX7_member_116 (lv_at hl 10 rfl) ?_
          refine cm_I (n := 6) (wr := cF G ca (.null) (enF ea k) σ x ++ pl) (wc := [(q14, .inr (4, [.int 0, .int 0, .int 0, .int 0, .int 0, .int 0, .null, .int 0, .int 0]))]) (D := D) (G := G) (As := [.int (nI jt), .int name, .int kind, .int dd, .int mm, .int bd]) (rest := [.ref q14, .ref ((ca 0))]) ⟨hx, hb, hml, hown, hts⟩ (c_memberInit l D G q14 _ (nI jt) name kind dd mm bd hbd) q_311 q_19 q_309 q_310 rfl (by decide +kernel) ⟨(Nat.le_of_ble_eq_true rfl), (Nat.le_of_ble_eq_true rfl)⟩ hK hP hD hS hA rfl hl.1 rfl (Nat.le_of_ble_eq_true rfl) dX7_member_118 ⟨(Nat.le_of_ble_eq_true rfl), (Nat.le_of_ble_eq_true rfl)⟩ (fun w1 H locs hw hP hD hS => ?_)
          obtain ⟨ba, rfl, rfl⟩ := hw
          have hP := P_perm hP pm_front
          have hD := D_perm pm_front hD
          have hP : va_P D vwCl (cF G ca (.null) (enF ea k) σ x ++ (bgW G ba (nI jt) name kind dd mm bd 0 0 (fun _ => 0) (fun _ => 0) ((-1)) ++ pl)) H := hP
          have hD : va_D A (cF G ca (.null) (enF ea k) σ x ++ (bgW G ba (nI jt) name kind dd mm bd 0 0 (fun _ => 0) (fun _ => 0) ((-1)) ++ pl)) := hD
          refine va_put (D := D) (ci := 7) (v := .ref ((ba 0))) (ty := .object "FieldMember$Member") (C := RX7) (T := TX7) (N := 11) hx hb hts iX7 tyX7 tyX7_ok nmX7 hown hK.1 hP hD hS 0 rfl rfl 3 (by decide) (hts _ q_76) (fun _ h9 => h9) rfl (by decide +kernel) rfl rfl (Nat.le_of_ble_eq_true rfl) dX7_member_121 (fun H locs hP hD hS => ?_)
          have hP : va_P D vwCl (cF G ca (.ref ((ba 0))) (enF ea k) σ x ++ (bgW G ba (nI jt) name kind dd mm bd 0 0 (fun _ => 0) (fun _ => 0) ((-1)) ++ pl)) H := hP
          have hD : va_D A (cF G ca (.ref ((ba 0))) (enF ea k) σ x ++ (bgW G ba (nI jt) name kind dd mm bd 0 0 (fun _ => 0) (fun _ => 0) ((-1)) ++ pl)) := hD
          refine lv_iconst (v := 1) hx hb dX7_member_124 (by decide) ?_
          exact cm_iret (v0 := 1) hx hb hr hlocks hP hD hS dX7_member_125 (by unfold oMember; rw [if_neg d1, hcl, if_neg (show ¬ ¬ aRM (σ 2 jt) mm bd ≤ 0 from fun h9 => h9 (by rw [← hRu, c12]; decide))]) (Or.inr ⟨by unfold oMember; rw [if_neg d1, hcl, if_neg (show ¬ ¬ aRM (σ 2 jt) mm bd ≤ 0 from fun h9 => h9 (by rw [← hRu, c12]; decide))], ba, by unfold oMember; rw [if_neg d1, hcl, if_neg (show ¬ ¬ aRM (σ 2 jt) mm bd ≤ 0 from fun h9 => h9 (by rw [← hRu, c12]; decide))]; rw [bg_new, ← marks_m r8, if_neg c4]; rfl⟩)
        · -- 74 not
          have hRu : rmcF mm bd 1 = aRM (σ 2 jt) mm bd := by rw [← rule_mc r8 c4, bI_t (by have h8 := c6; rw [soF_n hn h_jt] at h8; exact h8)]
          refine lv_aload_n hx hb dX7_member_77 rfl (lv_at hl 3 rfl) ?_
          refine lv_iload hx hb dX7_member_78 (lv_at hl 0 rfl) ?_
          have hop := okR_pos (aRM_ok (sort := σ 2 jt) (m := mm) (body := bd)) (fun h9 => c12 (hRu.trans h9))
          refine W.eq (g2 := F0 m 80 ls [.int (nI ((aRM (σ 2 jt) mm bd).toNatClampNeg)), .ref ((ca 0))]) (congrArg (fun z9 => F0 m 80 ls [.int z9, .ref ((ca 0))]) (hRu.trans aRM_ok.1)) ?_
          refine cm_Vi (D := D) (G := G) (As := [.int (nI ((aRM (σ 2 jt) mm bd).toNatClampNeg))]) (rest := []) ⟨hx, hb, hml, hown, hts⟩ (c_breakRule l D G ca _ ea n k w0 σ x κ _ _ hE hI0 (((aRM (σ 2 jt) mm bd).toNatClampNeg)) (by omega) (by omega)) gV_X7_X7_breakRule hdV_X7_breakRule ⟨Nat.le_of_ble_eq_true rfl, Nat.le_of_ble_eq_true rfl⟩ hK (va_recv hK.1 hP (ci := 7) (q0 := 0) rfl rfl) hP hD hS hA rfl hl.1 rfl (Nat.le_of_ble_eq_true rfl) dX7_member_80 ⟨Nat.le_of_ble_eq_true rfl, Nat.le_of_ble_eq_true rfl⟩ (fun ws H locs hw hP hD hS => ?_)
          subst hw
          have hP : va_P D vwCl (cF G ca (.null) (enF ea k) (su (su σ 27 (((aRM (σ 2 jt) mm bd).toNatClampNeg)) (σ 27 (((aRM (σ 2 jt) mm bd).toNatClampNeg)) + 1)) 26 (0) (σ 26 0 + 1)) x ++ pl) H := hP
          have hD : va_D A (cF G ca (.null) (enF ea k) (su (su σ 27 (((aRM (σ 2 jt) mm bd).toNatClampNeg)) (σ 27 (((aRM (σ 2 jt) mm bd).toNatClampNeg)) + 1)) 26 (0) (σ 26 0 + 1)) x ++ pl) := hD
          refine W.eq (g2 := F0 m 83 ls [.int ((-40) - nI (((aRM (σ 2 jt) mm bd).toNatClampNeg)))]) rfl ?_
          refine W.widen (k := 4) (n := 22) (Nat.le_of_ble_eq_true rfl) (Nat.le_of_ble_eq_true rfl) ?_
          exact cm_iret (v0 := (-40) - nI (((aRM (σ 2 jt) mm bd).toNatClampNeg))) hx hb hr hlocks hP hD hS dX7_member_83 (by unfold oMember; rw [if_neg d1, hcl, if_pos (fun h9 => c12 (hRu.trans ((okR_le aRM_ok).mp h9)))]) (Or.inl ⟨by unfold oMember; rw [if_neg d1, hcl, if_pos (fun h9 => c12 (hRu.trans ((okR_le aRM_ok).mp h9)))]; exact brk_n1 aRM_ok, by unfold oMember; rw [if_neg d1, hcl, if_pos (fun h9 => c12 (hRu.trans ((okR_le aRM_ok).mp h9)))]; rfl⟩)
    · -- 33 not
      have c4 := bI_1 c4
      refine lv_iload hx hb dX7_member_36 (lv_at hl 7 rfl) ?_
      refine lv_iload hx hb dX7_member_38 (lv_at hl 8 rfl) ?_
      refine ro_Si (D := D) (G := G) (As := [.int mm, .int bd]) (rest := []) ⟨hx, hb, hml, hown, hts⟩ (c_ofFaceMember l D G _ mm bd) gS_X7_X5_ofFaceMember hdS_X5_ofFaceMember ⟨Nat.le_of_ble_eq_true rfl, Nat.le_of_ble_eq_true rfl⟩ hK rfl hl.1 rfl (Nat.le_of_ble_eq_true rfl) dX7_member_40 ⟨Nat.le_of_ble_eq_true rfl, Nat.le_of_ble_eq_true rfl⟩ (fun r15 e_r15 => ?_)
      subst e_r15
      refine W.eq (g2 := F0 m 43 ls [.int (rmfF mm bd)]) rfl ?_
      refine lv_goto (tgt := 70) hx hb dX7_member_43 (by decide) ?_
      refine lv_istore (lv' := [(9, .int (rmfF mm bd)), (8, .int (bI (σ 2 jt = 3))), (7, .int (aRef σ n (nI jt) name kind dd mm)), (0, .ref ((ca 0))), (1, .int (nI jt)), (2, .int name), (3, .int kind), (4, .int dd), (5, .int mm), (6, .int bd)]) hx hb dX7_member_70 hl (by decide) rfl (fun ls hl => ?_)
      refine lv_iload hx hb dX7_member_72 (lv_at hl 0 rfl) ?_
      refine lv_if_eq (tgt := 84) hx hb dX7_member_74 (by decide) (fun c16 => ?_) (fun c16 => ?_)
      · -- 74 taken
        have hRu : rmfF mm bd = aRM (σ 2 jt) mm bd := by rw [c4]; exact rule_mf r8
        refine lv_iload hx hb dX7_member_84 (lv_at hl 1 rfl) ?_
        refine lv_if_eq (tgt := 100) hx hb dX7_member_86 (by decide) (fun hh => absurd c4 (bI_0 hh)) (fun hh => ?_)
        refine lv_iload hx hb dX7_member_89 (lv_at hl 8 rfl) ?_
        refine lv_iload hx hb dX7_member_91 (lv_at hl 8 rfl) ?_
        refine ro_Si (D := D) (G := G) (As := [.int mm]) (rest := [.int mm]) ⟨hx, hb, hml, hown, hts⟩ (c_faceMarks l D G _ mm) gS_X7_X5_faceMarks hdS_X5_faceMarks ⟨Nat.le_of_ble_eq_true rfl, Nat.le_of_ble_eq_true rfl⟩ hK rfl hl.1 rfl (Nat.le_of_ble_eq_true rfl) dX7_member_93 ⟨Nat.le_of_ble_eq_true rfl, Nat.le_of_ble_eq_true rfl⟩ (fun r18 e_r18 => ?_)
        subst e_r18
        refine W.eq (g2 := F0 m 96 ls [.int (fmkF mm), .int mm]) rfl ?_
        refine lv_ior hx hb dX7_member_96 ?_
        refine lv_goto (tgt := 102) hx hb dX7_member_97 (by decide) ?_
        refine lv_istore (lv' := [(10, .int (mm ||| (fmkF mm))), (9, .int (rmfF mm bd)), (8, .int (bI (σ 2 jt = 3))), (7, .int (aRef σ n (nI jt) name kind dd mm)), (0, .ref ((ca 0))), (1, .int (nI jt)), (2, .int name), (3, .int kind), (4, .int dd), (5, .int mm), (6, .int bd)]) hx hb dX7_member_102 hl (by decide) rfl (fun ls hl => ?_)
        refine lv_aload_n hx hb dX7_member_104 rfl (lv_at hl 4 rfl) ?_
        refine va_new (ci := 4) (fs := [.int 0, .int 0, .int 0, .int 0, .int 0, .int 0, .null, .int 0, .int 0]) (C := RX3) (T := TX3) (N := 9) hx hb hts iX3 tyX3 tyX3_ok hown (hts _ q_307) (hts _ q_308) (hts _ q_19) hK.1 hP hD hS hA rfl (fun j hj => by rcases (show j = 0 ∨ j = 1 ∨ j = 2 ∨ j = 3 ∨ j = 4 ∨ j = 5 ∨ j = 6 ∨ j = 7 ∨ j = 8 by omega) with rfl | rfl | rfl | rfl | rfl | rfl | rfl | rfl | rfl <;> rfl) (Nat.le_of_ble_eq_true rfl) (Nat.le_of_ble_eq_true rfl) dX7_member_105 (fun q19 H hP hD hS => ?_)
        refine lv_dup hx hb dX7_member_108 rfl ?_
        refine lv_iload_n hx hb dX7_member_109 rfl (lv_at hl 5 rfl) ?_
        refine lv_iload_n hx hb dX7_member_110 rfl (lv_at hl 6 rfl) ?_
        refine lv_iload_n hx hb dX7_member_111 rfl (lv_at hl 7 rfl) ?_
        refine lv_iload hx hb dX7_member_112 (lv_at hl 8 rfl) ?_
        refine lv_iload hx hb dX7_member_114 (lv_at hl 0 rfl) ?_
        refine lv_iload hx hb dX7_member_116 (lv_at hl 10 rfl) ?_
        refine cm_I (n := 6) (wr := cF G ca (.null) (enF ea k) σ x ++ pl) (wc := [(q19, .inr (4, [.int 0, .int 0, .int 0, .int 0, .int 0, .int 0, .null, .int 0, .int 0]))]) (D := D) (G := G) (As := [.int (nI jt), .int name, .int kind, .int dd, .int (mm ||| (fmkF mm)), .int bd]) (rest := [.ref q19, .ref ((ca 0))]) ⟨hx, hb, hml, hown, hts⟩ (c_memberInit l D G q19 _ (nI jt) name kind dd (mm ||| (fmkF mm)) bd hbd) q_311 q_19 q_309 q_310 rfl (by decide +kernel) ⟨(Nat.le_of_ble_eq_true rfl), (Nat.le_of_ble_eq_true rfl)⟩ hK hP hD hS hA rfl hl.1 rfl (Nat.le_of_ble_eq_true rfl) dX7_member_118 ⟨(Nat.le_of_ble_eq_true rfl), (Nat.le_of_ble_eq_true rfl)⟩ (fun w1 H locs hw hP hD hS => ?_)
        obtain ⟨ba, rfl, rfl⟩ := hw
        have hP := P_perm hP pm_front
        have hD := D_perm pm_front hD
        have hP : va_P D vwCl (cF G ca (.null) (enF ea k) σ x ++ (bgW G ba (nI jt) name kind dd (mm ||| (fmkF mm)) bd 0 0 (fun _ => 0) (fun _ => 0) ((-1)) ++ pl)) H := hP
        have hD : va_D A (cF G ca (.null) (enF ea k) σ x ++ (bgW G ba (nI jt) name kind dd (mm ||| (fmkF mm)) bd 0 0 (fun _ => 0) (fun _ => 0) ((-1)) ++ pl)) := hD
        refine va_put (D := D) (ci := 7) (v := .ref ((ba 0))) (ty := .object "FieldMember$Member") (C := RX7) (T := TX7) (N := 11) hx hb hts iX7 tyX7 tyX7_ok nmX7 hown hK.1 hP hD hS 0 rfl rfl 3 (by decide) (hts _ q_76) (fun _ h9 => h9) rfl (by decide +kernel) rfl rfl (Nat.le_of_ble_eq_true rfl) dX7_member_121 (fun H locs hP hD hS => ?_)
        have hP : va_P D vwCl (cF G ca (.ref ((ba 0))) (enF ea k) σ x ++ (bgW G ba (nI jt) name kind dd (mm ||| (fmkF mm)) bd 0 0 (fun _ => 0) (fun _ => 0) ((-1)) ++ pl)) H := hP
        have hD : va_D A (cF G ca (.ref ((ba 0))) (enF ea k) σ x ++ (bgW G ba (nI jt) name kind dd (mm ||| (fmkF mm)) bd 0 0 (fun _ => 0) (fun _ => 0) ((-1)) ++ pl)) := hD
        refine lv_iconst (v := 1) hx hb dX7_member_124 (by decide) ?_
        exact cm_iret (v0 := 1) hx hb hr hlocks hP hD hS dX7_member_125 (by unfold oMember; rw [if_neg d1, hcl, if_neg (show ¬ ¬ aRM (σ 2 jt) mm bd ≤ 0 from fun h9 => h9 (by rw [← hRu, c16]; decide))]) (Or.inr ⟨by unfold oMember; rw [if_neg d1, hcl, if_neg (show ¬ ¬ aRM (σ 2 jt) mm bd ≤ 0 from fun h9 => h9 (by rw [← hRu, c16]; decide))], ba, by unfold oMember; rw [if_neg d1, hcl, if_neg (show ¬ ¬ aRM (σ 2 jt) mm bd ≤ 0 from fun h9 => h9 (by rw [← hRu, c16]; decide))]; rw [bg_new, ← marks_m r8, if_pos c4]; rfl⟩)
      · -- 74 not
        have hRu : rmfF mm bd = aRM (σ 2 jt) mm bd := by rw [c4]; exact rule_mf r8
        refine lv_aload_n hx hb dX7_member_77 rfl (lv_at hl 3 rfl) ?_
        refine lv_iload hx hb dX7_member_78 (lv_at hl 0 rfl) ?_
        have hop := okR_pos (aRM_ok (sort := σ 2 jt) (m := mm) (body := bd)) (fun h9 => c16 (hRu.trans h9))
        refine W.eq (g2 := F0 m 80 ls [.int (nI ((aRM (σ 2 jt) mm bd).toNatClampNeg)), .ref ((ca 0))]) (congrArg (fun z9 => F0 m 80 ls [.int z9, .ref ((ca 0))]) (hRu.trans aRM_ok.1)) ?_
        refine cm_Vi (D := D) (G := G) (As := [.int (nI ((aRM (σ 2 jt) mm bd).toNatClampNeg))]) (rest := []) ⟨hx, hb, hml, hown, hts⟩ (c_breakRule l D G ca _ ea n k w0 σ x κ _ _ hE hI0 (((aRM (σ 2 jt) mm bd).toNatClampNeg)) (by omega) (by omega)) gV_X7_X7_breakRule hdV_X7_breakRule ⟨Nat.le_of_ble_eq_true rfl, Nat.le_of_ble_eq_true rfl⟩ hK (va_recv hK.1 hP (ci := 7) (q0 := 0) rfl rfl) hP hD hS hA rfl hl.1 rfl (Nat.le_of_ble_eq_true rfl) dX7_member_80 ⟨Nat.le_of_ble_eq_true rfl, Nat.le_of_ble_eq_true rfl⟩ (fun ws H locs hw hP hD hS => ?_)
        subst hw
        have hP : va_P D vwCl (cF G ca (.null) (enF ea k) (su (su σ 27 (((aRM (σ 2 jt) mm bd).toNatClampNeg)) (σ 27 (((aRM (σ 2 jt) mm bd).toNatClampNeg)) + 1)) 26 (0) (σ 26 0 + 1)) x ++ pl) H := hP
        have hD : va_D A (cF G ca (.null) (enF ea k) (su (su σ 27 (((aRM (σ 2 jt) mm bd).toNatClampNeg)) (σ 27 (((aRM (σ 2 jt) mm bd).toNatClampNeg)) + 1)) 26 (0) (σ 26 0 + 1)) x ++ pl) := hD
        refine W.eq (g2 := F0 m 83 ls [.int ((-40) - nI (((aRM (σ 2 jt) mm bd).toNatClampNeg)))]) rfl ?_
        refine W.widen (k := 4) (n := 22) (Nat.le_of_ble_eq_true rfl) (Nat.le_of_ble_eq_true rfl) ?_
        exact cm_iret (v0 := (-40) - nI (((aRM (σ 2 jt) mm bd).toNatClampNeg))) hx hb hr hlocks hP hD hS dX7_member_83 (by unfold oMember; rw [if_neg d1, hcl, if_pos (fun h9 => c16 (hRu.trans ((okR_le aRM_ok).mp h9)))]) (Or.inl ⟨by unfold oMember; rw [if_neg d1, hcl, if_pos (fun h9 => c16 (hRu.trans ((okR_le aRM_ok).mp h9)))]; exact brk_n1 aRM_ok, by unfold oMember; rw [if_neg d1, hcl, if_pos (fun h9 => c16 (hRu.trans ((okR_le aRM_ok).mp h9)))]; rfl⟩)
  · -- 15 not
    refine lv_iload hx hb dX7_member_18 (lv_at hl 0 rfl) ?_
    refine W.widen (k := 4) (n := 22) (Nat.le_of_ble_eq_true rfl) (Nat.le_of_ble_eq_true rfl) ?_
    exact cm_iret (v0 := aRef σ n t name kind dd mm) hx hb hr hlocks hP hD hS dX7_member_20 (by unfold oMember; rw [if_pos (aRef_z.resolve_left c2)]) (Or.inl ⟨by unfold oMember; rw [if_pos (aRef_z.resolve_left c2)]; exact fun h9 => (aRef_z.resolve_left c2) (by rw [show aRef σ n t name kind dd mm = 1 from h9]; decide), by unfold oMember; rw [if_pos (aRef_z.resolve_left c2)]; rfl⟩)
