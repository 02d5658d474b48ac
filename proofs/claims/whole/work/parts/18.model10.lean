/-- a method's contract, of a class some of whose methods the machine has itself: this one it hasn't -/
theorem met_ofWF {l : Launch} {y : MethodName} {ws ws' : List Cond} {rm : Room} {Pc : Array Value → State → Prop} {Qc : Array Value → State → Outcome → State → Prop} {mc ms : Nat} {free : Addr → Prop} {cc : ByteArray} {maxL : Nat} {ret : Option FieldType}
    (hy : plainFor y = true) (hw : ws = Cond.code y cc maxL ret :: ws')
    (body : ∀ p e s m args below meth c s₁, BodyLoose p l y (headSpec ws rm) cc maxL ret e s m args below meth c s₁ → c.maxLocals = maxL → Pc args s →
      W p l e (headSpec ws rm).room s m args below meth c s.heap [] 0 0 (MQ below Qc args s mc ms free) (entryFrame m args maxL)) : Met l y ws rm Pc Qc mc ms free := by
  refine MetFree.of_bodySF (code := cc) (maxLocals := maxL) (ret := ret) hy (fun args s m h hn => ?_) (fun p e s m args below meth c s₁ B hml hP _ => ?_)
  · have hc := Cond.code_spec hn (atoms_spec (ws := ws) h _ (by rw [hw]; exact List.mem_cons_self))
    exact hc.elim fun meth h1 => h1.elim fun c h2 => ⟨meth, c, h2.1, h2.2.1, h2.2.2.1, h2.2.2.2.1, h2.2.2.2.2.1, h2.2.2.2.2.2.1⟩
  · obtain ⟨t, a1, o, b1, b2, b3⟩ := body p e s m args below meth c s₁ B hml hP s₁ (by rw [B.state]; rfl) (Stand.of_body B)
    exact ⟨t, o, a1, b1, b2, b3⟩
theorem pf_1 : plainFor yJxf58ca_isNaN_12338 = true := by decide +kernel
theorem pf_2 : plainFor yJxf58ca_floatToIntBits_5c35a = true := by decide +kernel
def fbF (y : UInt32) : Int32 := if ¬ Op.cmpValue (FP.fcmp y y) .l = 0 then 2143289344 else y.toInt32
def dbF (y : UInt64) : Int64 := if ¬ Op.cmpValue (FP.dcmp y y) .l = 0 then 9221120237041090560 else y.toInt64
/-- what is told of a constant -/
def tvF (kind : Int32) (v : Int64) : Int64 := if kind = 7 then (fbF (FP.l2f v)).toInt64 else if kind = 8 then dbF (FP.l2d v) else v
def oConst (σ : MS) (τ : Nat → Int64) (k : Nat) (e : Int32) (v : Int64) : Int32 × MU :=
  if ¬ okN k e then (-11, su σ 0 0 0, τ) else if ¬ σ 8 e.toNatClampNeg = 0 then (-12, su σ 0 0 0, τ)
  else if ¬ σ 14 e.toNatClampNeg = 0 ∨ σ 13 e.toNatClampNeg &&& 16 = 0 ∨ ¬ (1 ≤ σ 11 e.toNatClampNeg ∧ σ 11 e.toNatClampNeg ≤ 8) ∨ ¬ σ 12 e.toNatClampNeg ≤ 0 then (-14, su σ 0 0 0, τ)
  else if ¬ icP (σ 11 e.toNatClampNeg) v then ((-40) - nI 7, brS (su σ 0 0 0) 7, τ)
  else (1, su (su σ 0 0 0) 14 e.toNatClampNeg 1, vp_updL τ e.toNatClampNeg (tvF (σ 11 e.toNatClampNeg) v))

theorem dJxf58ca_isNaN_12338_0 : decode cJxf58ca_isNaN_12338 0 = .ok (.fload_n 0, 1) := by decide +kernel
theorem dJxf58ca_isNaN_12338_1 : decode cJxf58ca_isNaN_12338 1 = .ok (.fload_n 0, 1) := by decide +kernel
theorem dJxf58ca_isNaN_12338_2 : decode cJxf58ca_isNaN_12338 2 = .ok (.fcmp .l, 1) := by decide +kernel
theorem dJxf58ca_isNaN_12338_3 : decode cJxf58ca_isNaN_12338 3 = .ok (.ifCond .eq 7, 3) := by decide +kernel
theorem dJxf58ca_isNaN_12338_10 : decode cJxf58ca_isNaN_12338 10 = .ok (.iconst 0, 1) := by decide +kernel
theorem dJxf58ca_isNaN_12338_11 : decode cJxf58ca_isNaN_12338 11 = .ok (.ireturn, 1) := by decide +kernel
theorem dJxf58ca_isNaN_12338_6 : decode cJxf58ca_isNaN_12338 6 = .ok (.iconst 1, 1) := by decide +kernel
theorem dJxf58ca_isNaN_12338_7 : decode cJxf58ca_isNaN_12338 7 = .ok (.goto 4, 3) := by decide +kernel
theorem dJxf58ca_floatToIntBits_5c35a_0 : decode cJxf58ca_floatToIntBits_5c35a 0 = .ok (.fload_n 0, 1) := by decide +kernel
theorem q_861 : Cond.methodLink "java/lang/Float" 59 ⟨"java/lang/Float", "isNaN", "(F)Z"⟩ ∈ TT := tt_t (i := 861) (by decide +kernel) (by decide +kernel)
theorem q_863 : Cond.code ⟨"java/lang/Float", "isNaN", "(F)Z"⟩ prog_15_method_6_code 1 (some .boolean) ∈ TT := tt_t (i := 863) (by decide +kernel) (by decide +kernel)
theorem q_10 : Cond.initialized "java/lang/Float" ∈ TT := tt_t (i := 10) (by decide +kernel) (by decide +kernel)
theorem q_862 : Cond.static ⟨"java/lang/Float", "isNaN", "(F)Z"⟩ ∈ TT := tt_t (i := 862) (by decide +kernel) (by decide +kernel)
theorem gS_Jxf58ca_Jxf58ca_isNaN_12338 : GoodIn TT (va_wsS RJxf58ca 59 yJxf58ca_isNaN_12338 (ww yJxf58ca_isNaN_12338 cJxf58ca_isNaN_12338 1 (some .boolean))) := tt_S q_861 q_862 q_10 q_863
theorem hdS_Jxf58ca_isNaN_12338 : yJxf58ca_isNaN_12338.cls ≠ "java/lang/invoke/MethodHandle" ∧ yJxf58ca_isNaN_12338.cls ≠ "java/lang/invoke/VarHandle" ∧ (parseMethodDescriptor yJxf58ca_isNaN_12338.desc).map (fun d => d.parameters.length) = some 1 := by decide +kernel
theorem dJxf58ca_floatToIntBits_5c35a_1 : decode cJxf58ca_floatToIntBits_5c35a 1 = .ok (.invokestatic 59, 3) := by decide +kernel
theorem dJxf58ca_floatToIntBits_5c35a_4 : decode cJxf58ca_floatToIntBits_5c35a 4 = .ok (.ifCond .ne 8, 3) := by decide +kernel
theorem q_867 : Cond.constant "java/lang/Float" 77 (2143289344 : Int32) ∈ TT := tt_t (i := 867) (by decide +kernel) (by decide +kernel)
theorem dJxf58ca_floatToIntBits_5c35a_12 : decode cJxf58ca_floatToIntBits_5c35a 12 = .ok (.ldc 77, 2) := by decide +kernel
theorem dJxf58ca_floatToIntBits_5c35a_14 : decode cJxf58ca_floatToIntBits_5c35a 14 = .ok (.ireturn, 1) := by decide +kernel
theorem dJxf58ca_floatToIntBits_5c35a_7 : decode cJxf58ca_floatToIntBits_5c35a 7 = .ok (.fload_n 0, 1) := by decide +kernel
theorem q_864 : Cond.methodLink "java/lang/Float" 74 ⟨"java/lang/Float", "floatToRawIntBits", "(F)I"⟩ ∈ TT := tt_t (i := 864) (by decide +kernel) (by decide +kernel)
theorem q_866 : Cond.native ⟨"java/lang/Float", "floatToRawIntBits", "(F)I"⟩ ∈ TT := tt_t (i := 866) (by decide +kernel) (by decide +kernel)
theorem q_865 : Cond.static ⟨"java/lang/Float", "floatToRawIntBits", "(F)I"⟩ ∈ TT := tt_t (i := 865) (by decide +kernel) (by decide +kernel)
theorem dJxf58ca_floatToIntBits_5c35a_8 : decode cJxf58ca_floatToIntBits_5c35a 8 = .ok (.invokestatic 74, 3) := by decide +kernel
theorem dJxf58ca_floatToIntBits_5c35a_11 : decode cJxf58ca_floatToIntBits_5c35a 11 = .ok (.ireturn, 1) := by decide +kernel
theorem dJxe99ae_isNaN_b9ae7_0 : decode cJxe99ae_isNaN_b9ae7 0 = .ok (.dload_n 0, 1) := by decide +kernel
theorem dJxe99ae_isNaN_b9ae7_1 : decode cJxe99ae_isNaN_b9ae7 1 = .ok (.dload_n 0, 1) := by decide +kernel
theorem dJxe99ae_isNaN_b9ae7_2 : decode cJxe99ae_isNaN_b9ae7 2 = .ok (.dcmp .l, 1) := by decide +kernel
theorem dJxe99ae_isNaN_b9ae7_3 : decode cJxe99ae_isNaN_b9ae7 3 = .ok (.ifCond .eq 7, 3) := by decide +kernel
theorem dJxe99ae_isNaN_b9ae7_10 : decode cJxe99ae_isNaN_b9ae7 10 = .ok (.iconst 0, 1) := by decide +kernel
theorem dJxe99ae_isNaN_b9ae7_11 : decode cJxe99ae_isNaN_b9ae7 11 = .ok (.ireturn, 1) := by decide +kernel
theorem dJxe99ae_isNaN_b9ae7_6 : decode cJxe99ae_isNaN_b9ae7 6 = .ok (.iconst 1, 1) := by decide +kernel
theorem dJxe99ae_isNaN_b9ae7_7 : decode cJxe99ae_isNaN_b9ae7 7 = .ok (.goto 4, 3) := by decide +kernel
theorem dJxe99ae_doubleToLongBits_ccdee_0 : decode cJxe99ae_doubleToLongBits_ccdee 0 = .ok (.dload_n 0, 1) := by decide +kernel
theorem q_871 : Cond.methodLink "java/lang/Double" 122 ⟨"java/lang/Double", "isNaN", "(D)Z"⟩ ∈ TT := tt_t (i := 871) (by decide +kernel) (by decide +kernel)
theorem q_873 : Cond.code ⟨"java/lang/Double", "isNaN", "(D)Z"⟩ prog_13_method_6_code 2 (some .boolean) ∈ TT := tt_t (i := 873) (by decide +kernel) (by decide +kernel)
theorem q_11 : Cond.initialized "java/lang/Double" ∈ TT := tt_t (i := 11) (by decide +kernel) (by decide +kernel)
theorem q_872 : Cond.static ⟨"java/lang/Double", "isNaN", "(D)Z"⟩ ∈ TT := tt_t (i := 872) (by decide +kernel) (by decide +kernel)
theorem gS_Jxe99ae_Jxe99ae_isNaN_b9ae7 : GoodIn TT (va_wsS RJxe99ae 122 yJxe99ae_isNaN_b9ae7 (ww yJxe99ae_isNaN_b9ae7 cJxe99ae_isNaN_b9ae7 2 (some .boolean))) := tt_S q_871 q_872 q_11 q_873
theorem hdS_Jxe99ae_isNaN_b9ae7 : yJxe99ae_isNaN_b9ae7.cls ≠ "java/lang/invoke/MethodHandle" ∧ yJxe99ae_isNaN_b9ae7.cls ≠ "java/lang/invoke/VarHandle" ∧ (parseMethodDescriptor yJxe99ae_isNaN_b9ae7.desc).map (fun d => d.parameters.length) = some 1 := by decide +kernel
theorem dJxe99ae_doubleToLongBits_ccdee_1 : decode cJxe99ae_doubleToLongBits_ccdee 1 = .ok (.invokestatic 122, 3) := by decide +kernel
theorem dJxe99ae_doubleToLongBits_ccdee_4 : decode cJxe99ae_doubleToLongBits_ccdee 4 = .ok (.ifCond .ne 8, 3) := by decide +kernel
theorem q_877 : Cond.constantLong "java/lang/Double" 137 (9221120237041090560 : Int64) ∈ TT := tt_t (i := 877) (by decide +kernel) (by decide +kernel)
theorem dJxe99ae_doubleToLongBits_ccdee_12 : decode cJxe99ae_doubleToLongBits_ccdee 12 = .ok (.ldc2_w 137, 3) := by decide +kernel
theorem dJxe99ae_doubleToLongBits_ccdee_15 : decode cJxe99ae_doubleToLongBits_ccdee 15 = .ok (.lreturn, 1) := by decide +kernel
theorem dJxe99ae_doubleToLongBits_ccdee_7 : decode cJxe99ae_doubleToLongBits_ccdee 7 = .ok (.dload_n 0, 1) := by decide +kernel
theorem q_874 : Cond.methodLink "java/lang/Double" 134 ⟨"java/lang/Double", "doubleToRawLongBits", "(D)J"⟩ ∈ TT := tt_t (i := 874) (by decide +kernel) (by decide +kernel)
theorem q_876 : Cond.native ⟨"java/lang/Double", "doubleToRawLongBits", "(D)J"⟩ ∈ TT := tt_t (i := 876) (by decide +kernel) (by decide +kernel)
theorem q_875 : Cond.static ⟨"java/lang/Double", "doubleToRawLongBits", "(D)J"⟩ ∈ TT := tt_t (i := 875) (by decide +kernel) (by decide +kernel)
theorem dJxe99ae_doubleToLongBits_ccdee_8 : decode cJxe99ae_doubleToLongBits_ccdee 8 = .ok (.invokestatic 134, 3) := by decide +kernel
theorem dJxe99ae_doubleToLongBits_ccdee_11 : decode cJxe99ae_doubleToLongBits_ccdee 11 = .ok (.lreturn, 1) := by decide +kernel
theorem dX8_constant_0 : decode cX8_constant 0 = .ok (.aload_n 0, 1) := by decide +kernel
theorem dX8_constant_1 : decode cX8_constant 1 = .ok (.iconst 0, 1) := by decide +kernel
theorem dX8_constant_2 : decode cX8_constant 2 = .ok (.putfield 90, 3) := by decide +kernel
theorem dX8_constant_5 : decode cX8_constant 5 = .ok (.aload_n 0, 1) := by decide +kernel
theorem dX8_constant_6 : decode cX8_constant 6 = .ok (.iload_n 1, 1) := by decide +kernel
theorem dX8_constant_7 : decode cX8_constant 7 = .ok (.invokevirtual 156, 3) := by decide +kernel
theorem dX8_constant_10 : decode cX8_constant 10 = .ok (.ifCond .ne 6, 3) := by decide +kernel
theorem dX8_constant_16 : decode cX8_constant 16 = .ok (.aload_n 0, 1) := by decide +kernel
theorem dX8_constant_17 : decode cX8_constant 17 = .ok (.getfield 26, 3) := by decide +kernel
theorem dX8_constant_20 : decode cX8_constant 20 = .ok (.iload_n 1, 1) := by decide +kernel
theorem dX8_constant_21 : decode cX8_constant 21 = .ok (.baload, 1) := by decide +kernel
theorem dX8_constant_22 : decode cX8_constant 22 = .ok (.ifCond .eq 6, 3) := by decide +kernel
theorem dX8_constant_28 : decode cX8_constant 28 = .ok (.aload_n 0, 1) := by decide +kernel
theorem dX8_constant_29 : decode cX8_constant 29 = .ok (.getfield 44, 3) := by decide +kernel
theorem dX8_constant_32 : decode cX8_constant 32 = .ok (.iload_n 1, 1) := by decide +kernel
theorem dX8_constant_33 : decode cX8_constant 33 = .ok (.baload, 1) := by decide +kernel
theorem dX8_constant_34 : decode cX8_constant 34 = .ok (.ifCond .ne 39, 3) := by decide +kernel
theorem dX8_constant_73 : decode cX8_constant 73 = .ok (.bipush (-14), 2) := by decide +kernel
theorem dX8_constant_75 : decode cX8_constant 75 = .ok (.ireturn, 1) := by decide +kernel
theorem dX8_constant_37 : decode cX8_constant 37 = .ok (.aload_n 0, 1) := by decide +kernel
theorem dX8_constant_38 : decode cX8_constant 38 = .ok (.getfield 41, 3) := by decide +kernel
theorem dX8_constant_41 : decode cX8_constant 41 = .ok (.iload_n 1, 1) := by decide +kernel
theorem dX8_constant_42 : decode cX8_constant 42 = .ok (.iaload, 1) := by decide +kernel
theorem dX8_constant_43 : decode cX8_constant 43 = .ok (.bipush 16, 2) := by decide +kernel
theorem dX8_constant_45 : decode cX8_constant 45 = .ok (.iand, 1) := by decide +kernel
theorem dX8_constant_46 : decode cX8_constant 46 = .ok (.ifCond .eq 27, 3) := by decide +kernel
theorem dX8_constant_49 : decode cX8_constant 49 = .ok (.aload_n 0, 1) := by decide +kernel
theorem dX8_constant_50 : decode cX8_constant 50 = .ok (.getfield 35, 3) := by decide +kernel
theorem dX8_constant_53 : decode cX8_constant 53 = .ok (.iload_n 1, 1) := by decide +kernel
theorem dX8_constant_54 : decode cX8_constant 54 = .ok (.iaload, 1) := by decide +kernel
theorem dX8_constant_55 : decode cX8_constant 55 = .ok (.iconst 1, 1) := by decide +kernel
theorem dX8_constant_56 : decode cX8_constant 56 = .ok (.bipush 8, 2) := by decide +kernel
theorem dX8_constant_58 : decode cX8_constant 58 = .ok (.invokestatic 97, 3) := by decide +kernel
theorem dX8_constant_61 : decode cX8_constant 61 = .ok (.ifCond .eq 12, 3) := by decide +kernel
theorem dX8_constant_64 : decode cX8_constant 64 = .ok (.aload_n 0, 1) := by decide +kernel
theorem dX8_constant_65 : decode cX8_constant 65 = .ok (.getfield 38, 3) := by decide +kernel
theorem dX8_constant_68 : decode cX8_constant 68 = .ok (.iload_n 1, 1) := by decide +kernel
theorem dX8_constant_69 : decode cX8_constant 69 = .ok (.iaload, 1) := by decide +kernel
theorem dX8_constant_70 : decode cX8_constant 70 = .ok (.ifCond .le 6, 3) := by decide +kernel
theorem dX8_constant_76 : decode cX8_constant 76 = .ok (.aload_n 0, 1) := by decide +kernel
theorem dX8_constant_77 : decode cX8_constant 77 = .ok (.getfield 35, 3) := by decide +kernel
theorem dX8_constant_80 : decode cX8_constant 80 = .ok (.iload_n 1, 1) := by decide +kernel
theorem dX8_constant_81 : decode cX8_constant 81 = .ok (.iaload, 1) := by decide +kernel
theorem dX8_constant_82 : decode cX8_constant 82 = .ok (.istore 4, 2) := by decide +kernel
theorem dX8_constant_198 : decode cX8_constant 198 = .ok (.istore 5, 2) := by decide +kernel
theorem dX8_constant_200 : decode cX8_constant 200 = .ok (.iload 5, 2) := by decide +kernel
theorem dX8_constant_202 : decode cX8_constant 202 = .ok (.ifCond .ne 10, 3) := by decide +kernel
theorem dX8_constant_212 : decode cX8_constant 212 = .ok (.aload_n 0, 1) := by decide +kernel
theorem dX8_constant_213 : decode cX8_constant 213 = .ok (.getfield 44, 3) := by decide +kernel
theorem dX8_constant_216 : decode cX8_constant 216 = .ok (.iload_n 1, 1) := by decide +kernel
theorem dX8_constant_217 : decode cX8_constant 217 = .ok (.iconst 1, 1) := by decide +kernel
theorem dX8_constant_218 : decode cX8_constant 218 = .ok (.bastore, 1) := by decide +kernel
theorem dX8_constant_219 : decode cX8_constant 219 = .ok (.aload_n 0, 1) := by decide +kernel
theorem dX8_constant_220 : decode cX8_constant 220 = .ok (.getfield 47, 3) := by decide +kernel
theorem dX8_constant_223 : decode cX8_constant 223 = .ok (.iload_n 1, 1) := by decide +kernel
theorem dX8_constant_224 : decode cX8_constant 224 = .ok (.iload 4, 2) := by decide +kernel
theorem dX8_constant_226 : decode cX8_constant 226 = .ok (.bipush 7, 2) := by decide +kernel
theorem dX8_constant_228 : decode cX8_constant 228 = .ok (.if_icmp .ne 12, 3) := by decide +kernel
theorem dX8_constant_240 : decode cX8_constant 240 = .ok (.iload 4, 2) := by decide +kernel
theorem dX8_constant_242 : decode cX8_constant 242 = .ok (.bipush 8, 2) := by decide +kernel
theorem dX8_constant_244 : decode cX8_constant 244 = .ok (.if_icmp .ne 11, 3) := by decide +kernel
theorem dX8_constant_255 : decode cX8_constant 255 = .ok (.lload_n 2, 1) := by decide +kernel
theorem dX8_constant_256 : decode cX8_constant 256 = .ok (.lastore, 1) := by decide +kernel
theorem dX8_constant_257 : decode cX8_constant 257 = .ok (.iconst 1, 1) := by decide +kernel
theorem dX8_constant_258 : decode cX8_constant 258 = .ok (.ireturn, 1) := by decide +kernel
theorem dX8_constant_247 : decode cX8_constant 247 = .ok (.lload_n 2, 1) := by decide +kernel
theorem dX8_constant_248 : decode cX8_constant 248 = .ok (.l2d, 1) := by decide +kernel
theorem q_868 : Cond.methodLink "FieldMemberModel" 165 ⟨"java/lang/Double", "doubleToLongBits", "(D)J"⟩ ∈ TT := tt_t (i := 868) (by decide +kernel) (by decide +kernel)
theorem q_870 : Cond.code ⟨"java/lang/Double", "doubleToLongBits", "(D)J"⟩ prog_13_method_23_code 2 (some .long) ∈ TT := tt_t (i := 870) (by decide +kernel) (by decide +kernel)
theorem q_869 : Cond.static ⟨"java/lang/Double", "doubleToLongBits", "(D)J"⟩ ∈ TT := tt_t (i := 869) (by decide +kernel) (by decide +kernel)
theorem gS_X8_Jxe99ae_doubleToLongBits_ccdee : GoodIn TT (va_wsS RX8 165 yJxe99ae_doubleToLongBits_ccdee (ww yJxe99ae_doubleToLongBits_ccdee cJxe99ae_doubleToLongBits_ccdee 2 (some .long))) := tt_S q_868 q_869 q_11 q_870
theorem hdS_Jxe99ae_doubleToLongBits_ccdee : yJxe99ae_doubleToLongBits_ccdee.cls ≠ "java/lang/invoke/MethodHandle" ∧ yJxe99ae_doubleToLongBits_ccdee.cls ≠ "java/lang/invoke/VarHandle" ∧ (parseMethodDescriptor yJxe99ae_doubleToLongBits_ccdee.desc).map (fun d => d.parameters.length) = some 1 := by decide +kernel
theorem dX8_constant_249 : decode cX8_constant 249 = .ok (.invokestatic 165, 3) := by decide +kernel
theorem dX8_constant_252 : decode cX8_constant 252 = .ok (.goto 4, 3) := by decide +kernel
theorem dX8_constant_231 : decode cX8_constant 231 = .ok (.lload_n 2, 1) := by decide +kernel
theorem dX8_constant_232 : decode cX8_constant 232 = .ok (.l2f, 1) := by decide +kernel
theorem q_858 : Cond.methodLink "FieldMemberModel" 159 ⟨"java/lang/Float", "floatToIntBits", "(F)I"⟩ ∈ TT := tt_t (i := 858) (by decide +kernel) (by decide +kernel)
theorem q_860 : Cond.code ⟨"java/lang/Float", "floatToIntBits", "(F)I"⟩ prog_15_method_24_code 1 (some .int) ∈ TT := tt_t (i := 860) (by decide +kernel) (by decide +kernel)
theorem q_859 : Cond.static ⟨"java/lang/Float", "floatToIntBits", "(F)I"⟩ ∈ TT := tt_t (i := 859) (by decide +kernel) (by decide +kernel)
theorem gS_X8_Jxf58ca_floatToIntBits_5c35a : GoodIn TT (va_wsS RX8 159 yJxf58ca_floatToIntBits_5c35a (ww yJxf58ca_floatToIntBits_5c35a cJxf58ca_floatToIntBits_5c35a 1 (some .int))) := tt_S q_858 q_859 q_10 q_860
theorem hdS_Jxf58ca_floatToIntBits_5c35a : yJxf58ca_floatToIntBits_5c35a.cls ≠ "java/lang/invoke/MethodHandle" ∧ yJxf58ca_floatToIntBits_5c35a.cls ≠ "java/lang/invoke/VarHandle" ∧ (parseMethodDescriptor yJxf58ca_floatToIntBits_5c35a.desc).map (fun d => d.parameters.length) = some 1 := by decide +kernel
theorem dX8_constant_233 : decode cX8_constant 233 = .ok (.invokestatic 159, 3) := by decide +kernel
theorem dX8_constant_236 : decode cX8_constant 236 = .ok (.i2l, 1) := by decide +kernel
theorem dX8_constant_237 : decode cX8_constant 237 = .ok (.goto 19, 3) := by decide +kernel
theorem dX8_constant_205 : decode cX8_constant 205 = .ok (.aload_n 0, 1) := by decide +kernel
theorem dX8_constant_206 : decode cX8_constant 206 = .ok (.bipush 7, 2) := by decide +kernel
theorem dX8_constant_208 : decode cX8_constant 208 = .ok (.invokevirtual 141, 3) := by decide +kernel
theorem dX8_constant_211 : decode cX8_constant 211 = .ok (.ireturn, 1) := by decide +kernel
theorem dX8_constant_84 : decode cX8_constant 84 = .ok (.iload 4, 2) := by decide +kernel
theorem dX8_constant_86 : decode cX8_constant 86 = .ok (.iconst 1, 1) := by decide +kernel
theorem dX8_constant_87 : decode cX8_constant 87 = .ok (.if_icmp .ne 23, 3) := by decide +kernel
theorem dX8_constant_110 : decode cX8_constant 110 = .ok (.iload 4, 2) := by decide +kernel
theorem dX8_constant_112 : decode cX8_constant 112 = .ok (.iconst 2, 1) := by decide +kernel
theorem dX8_constant_113 : decode cX8_constant 113 = .ok (.if_icmp .ne 20, 3) := by decide +kernel
theorem dX8_constant_133 : decode cX8_constant 133 = .ok (.iload 4, 2) := by decide +kernel
theorem dX8_constant_135 : decode cX8_constant 135 = .ok (.iconst 3, 1) := by decide +kernel
theorem dX8_constant_136 : decode cX8_constant 136 = .ok (.if_icmp .ne 20, 3) := by decide +kernel
theorem dX8_constant_156 : decode cX8_constant 156 = .ok (.iload 4, 2) := by decide +kernel
theorem dX8_constant_158 : decode cX8_constant 158 = .ok (.iconst 4, 1) := by decide +kernel
theorem dX8_constant_159 : decode cX8_constant 159 = .ok (.if_icmp .ne 20, 3) := by decide +kernel
theorem dX8_constant_179 : decode cX8_constant 179 = .ok (.iload 4, 2) := by decide +kernel
theorem dX8_constant_181 : decode cX8_constant 181 = .ok (.iconst 5, 1) := by decide +kernel
theorem dX8_constant_182 : decode cX8_constant 182 = .ok (.if_icmp .ne 11, 3) := by decide +kernel
theorem dX8_constant_193 : decode cX8_constant 193 = .ok (.iconst 1, 1) := by decide +kernel
theorem dX8_constant_194 : decode cX8_constant 194 = .ok (.goto 4, 3) := by decide +kernel
theorem dX8_constant_185 : decode cX8_constant 185 = .ok (.lload_n 2, 1) := by decide +kernel
theorem dX8_constant_186 : decode cX8_constant 186 = .ok (.lload_n 2, 1) := by decide +kernel
theorem dX8_constant_187 : decode cX8_constant 187 = .ok (.l2i, 1) := by decide +kernel
theorem dX8_constant_188 : decode cX8_constant 188 = .ok (.i2l, 1) := by decide +kernel
theorem dX8_constant_189 : decode cX8_constant 189 = .ok (.lcmp, 1) := by decide +kernel
theorem dX8_constant_190 : decode cX8_constant 190 = .ok (.ifCond .ne 7, 3) := by decide +kernel
theorem dX8_constant_197 : decode cX8_constant 197 = .ok (.iconst 0, 1) := by decide +kernel
theorem dX8_constant_162 : decode cX8_constant 162 = .ok (.lload_n 2, 1) := by decide +kernel
theorem dX8_constant_163 : decode cX8_constant 163 = .ok (.lload_n 2, 1) := by decide +kernel
theorem dX8_constant_164 : decode cX8_constant 164 = .ok (.l2i, 1) := by decide +kernel
theorem dX8_constant_165 : decode cX8_constant 165 = .ok (.i2c, 1) := by decide +kernel
theorem dX8_constant_166 : decode cX8_constant 166 = .ok (.i2l, 1) := by decide +kernel
theorem dX8_constant_167 : decode cX8_constant 167 = .ok (.lcmp, 1) := by decide +kernel
theorem dX8_constant_168 : decode cX8_constant 168 = .ok (.ifCond .ne 7, 3) := by decide +kernel
theorem dX8_constant_175 : decode cX8_constant 175 = .ok (.iconst 0, 1) := by decide +kernel
theorem dX8_constant_176 : decode cX8_constant 176 = .ok (.goto 22, 3) := by decide +kernel
theorem dX8_constant_171 : decode cX8_constant 171 = .ok (.iconst 1, 1) := by decide +kernel
theorem dX8_constant_172 : decode cX8_constant 172 = .ok (.goto 26, 3) := by decide +kernel
theorem dX8_constant_139 : decode cX8_constant 139 = .ok (.lload_n 2, 1) := by decide +kernel
theorem dX8_constant_140 : decode cX8_constant 140 = .ok (.lload_n 2, 1) := by decide +kernel
theorem dX8_constant_141 : decode cX8_constant 141 = .ok (.l2i, 1) := by decide +kernel
theorem dX8_constant_142 : decode cX8_constant 142 = .ok (.i2s, 1) := by decide +kernel
theorem dX8_constant_143 : decode cX8_constant 143 = .ok (.i2l, 1) := by decide +kernel
theorem dX8_constant_144 : decode cX8_constant 144 = .ok (.lcmp, 1) := by decide +kernel
theorem dX8_constant_145 : decode cX8_constant 145 = .ok (.ifCond .ne 7, 3) := by decide +kernel
theorem dX8_constant_152 : decode cX8_constant 152 = .ok (.iconst 0, 1) := by decide +kernel
theorem dX8_constant_153 : decode cX8_constant 153 = .ok (.goto 45, 3) := by decide +kernel
theorem dX8_constant_148 : decode cX8_constant 148 = .ok (.iconst 1, 1) := by decide +kernel
theorem dX8_constant_149 : decode cX8_constant 149 = .ok (.goto 49, 3) := by decide +kernel
theorem dX8_constant_116 : decode cX8_constant 116 = .ok (.lload_n 2, 1) := by decide +kernel
theorem dX8_constant_117 : decode cX8_constant 117 = .ok (.lload_n 2, 1) := by decide +kernel
theorem dX8_constant_118 : decode cX8_constant 118 = .ok (.l2i, 1) := by decide +kernel
theorem dX8_constant_119 : decode cX8_constant 119 = .ok (.i2b, 1) := by decide +kernel
theorem dX8_constant_120 : decode cX8_constant 120 = .ok (.i2l, 1) := by decide +kernel
theorem dX8_constant_121 : decode cX8_constant 121 = .ok (.lcmp, 1) := by decide +kernel
theorem dX8_constant_122 : decode cX8_constant 122 = .ok (.ifCond .ne 7, 3) := by decide +kernel
theorem dX8_constant_129 : decode cX8_constant 129 = .ok (.iconst 0, 1) := by decide +kernel
theorem dX8_constant_130 : decode cX8_constant 130 = .ok (.goto 68, 3) := by decide +kernel
theorem dX8_constant_125 : decode cX8_constant 125 = .ok (.iconst 1, 1) := by decide +kernel
theorem dX8_constant_126 : decode cX8_constant 126 = .ok (.goto 72, 3) := by decide +kernel
theorem dX8_constant_90 : decode cX8_constant 90 = .ok (.lload_n 2, 1) := by decide +kernel
theorem dX8_constant_91 : decode cX8_constant 91 = .ok (.lconst 0, 1) := by decide +kernel
theorem dX8_constant_92 : decode cX8_constant 92 = .ok (.lcmp, 1) := by decide +kernel
theorem dX8_constant_93 : decode cX8_constant 93 = .ok (.ifCond .eq 9, 3) := by decide +kernel
theorem dX8_constant_102 : decode cX8_constant 102 = .ok (.iconst 1, 1) := by decide +kernel
theorem dX8_constant_103 : decode cX8_constant 103 = .ok (.goto 95, 3) := by decide +kernel
theorem dX8_constant_96 : decode cX8_constant 96 = .ok (.lload_n 2, 1) := by decide +kernel
theorem dX8_constant_97 : decode cX8_constant 97 = .ok (.lconst 1, 1) := by decide +kernel
theorem dX8_constant_98 : decode cX8_constant 98 = .ok (.lcmp, 1) := by decide +kernel
theorem dX8_constant_99 : decode cX8_constant 99 = .ok (.ifCond .ne 7, 3) := by decide +kernel
theorem dX8_constant_106 : decode cX8_constant 106 = .ok (.iconst 0, 1) := by decide +kernel
theorem dX8_constant_107 : decode cX8_constant 107 = .ok (.goto 91, 3) := by decide +kernel
theorem dX8_constant_25 : decode cX8_constant 25 = .ok (.bipush (-12), 2) := by decide +kernel
theorem dX8_constant_27 : decode cX8_constant 27 = .ok (.ireturn, 1) := by decide +kernel
theorem dX8_constant_13 : decode cX8_constant 13 = .ok (.bipush (-11), 2) := by decide +kernel
theorem dX8_constant_15 : decode cX8_constant 15 = .ok (.ireturn, 1) := by decide +kernel
set_option maxHeartbeats 4000000 in
set_option maxRecDepth 100000 in
theorem c_fNaN (l : Launch) (D : va_G) (G : Nat → ClassId) (H : Heap) (y0 : UInt32) : Met l yJxf58ca_isNaN_12338 (ww yJxf58ca_isNaN_12338 cJxf58ca_isNaN_12338 1 (some .boolean)) (rmD 0) (roP D G H [.float y0]) (vp_Si (fun r => r = bI (¬ Op.cmpValue (FP.fcmp y0 y0) .l = 0))) 0 0 (fun _ => False) := by
  refine met_ofWF (cc := cJxf58ca_isNaN_12338) (maxL := 1) (ret := (some .boolean)) pf_1 rfl ?_
  intro p e s m args below meth c s₁ B hml hv
  obtain ⟨rfl, hH, hK⟩ := hv
  have hx := B.exec
  have hb := B.bytes
  have hr := B.returns
  have hts : ∀ w ∈ TT, w.before _ s = true := fun w h => atoms_spec (ws := ww yJxf58ca_isNaN_12338 cJxf58ca_isNaN_12338 1 (some .boolean)) B.pre w (List.mem_cons_of_mem _ h)
  have hown : s.vm.findClass RJxf58ca = some m.cls := findClass_of_methodNamed B.named
  have hlocks := B.notSynchronized
  rw [hH]
  have hl := lv_entry ([.float y0]) (n := 1) (Nat.le_of_ble_eq_true rfl)
  rw [lg_entry_eq]
  generalize (lg_sl ([.float y0]) ++ List.replicate (1 - (lg_sl ([.float y0])).length) Slot.unset).toArray = ls at hl ⊢
  have hl : lv_has ls 1 [(0, .float y0)] := hl
  refine lv_fload_n hx hb dJxf58ca_isNaN_12338_0 rfl (lv_at hl 0 rfl) ?_
  refine lv_fload_n hx hb dJxf58ca_isNaN_12338_1 rfl (lv_at hl 0 rfl) ?_
  refine lv_fcmp hx hb dJxf58ca_isNaN_12338_2 ?_
  refine lv_if_eq (tgt := 10) hx hb dJxf58ca_isNaN_12338_3 (by decide) (fun c1 => ?_) (fun c1 => ?_)
  · -- 3 taken
    refine lv_iconst (v := 0) hx hb dJxf58ca_isNaN_12338_10 (by decide) ?_
    exact ro_zret (v := 0) hx hb hr hH hlocks dJxf58ca_isNaN_12338_11 (Or.inl rfl) ((bI_f (by simp only [eq_true c1, not_true, not_false_iff, not_true_eq_false, not_false_eq_true, true_or, or_true, false_or, or_false, or_self, and_self, true_and, and_true, false_and, and_false, if_true, if_false])).symm)
  · -- 3 not
    refine lv_iconst (v := 1) hx hb dJxf58ca_isNaN_12338_6 (by decide) ?_
    refine lv_goto (tgt := 11) hx hb dJxf58ca_isNaN_12338_7 (by decide) ?_
    exact ro_zret (v := 1) hx hb hr hH hlocks dJxf58ca_isNaN_12338_11 (Or.inr rfl) ((bI_t (by simp only [eq_false c1, not_true, not_false_iff, not_true_eq_false, not_false_eq_true, true_or, or_true, false_or, or_false, or_self, and_self, true_and, and_true, false_and, and_false, if_true, if_false])).symm)
set_option maxHeartbeats 4000000 in
set_option maxRecDepth 100000 in
theorem c_fBits (l : Launch) (D : va_G) (G : Nat → ClassId) (H : Heap) (y0 : UInt32) : Met l yJxf58ca_floatToIntBits_5c35a (ww yJxf58ca_floatToIntBits_5c35a cJxf58ca_floatToIntBits_5c35a 1 (some .int)) (rmD 1) (roP D G H [.float y0]) (vp_Si (fun r => r = fbF y0)) 0 0 (fun _ => False) := by
  refine met_ofWF (cc := cJxf58ca_floatToIntBits_5c35a) (maxL := 1) (ret := (some .int)) pf_2 rfl ?_
  intro p e s m args below meth c s₁ B hml hv
  obtain ⟨rfl, hH, hK⟩ := hv
  have hx := B.exec
  have hb := B.bytes
  have hr := B.returns
  have hts : ∀ w ∈ TT, w.before _ s = true := fun w h => atoms_spec (ws := ww yJxf58ca_floatToIntBits_5c35a cJxf58ca_floatToIntBits_5c35a 1 (some .int)) B.pre w (List.mem_cons_of_mem _ h)
  have hown : s.vm.findClass RJxf58ca = some m.cls := findClass_of_methodNamed B.named
  have hlocks := B.notSynchronized
  rw [hH]
  have hl := lv_entry ([.float y0]) (n := 1) (Nat.le_of_ble_eq_true rfl)
  rw [lg_entry_eq]
  generalize (lg_sl ([.float y0]) ++ List.replicate (1 - (lg_sl ([.float y0])).length) Slot.unset).toArray = ls at hl ⊢
  have hl : lv_has ls 1 [(0, .float y0)] := hl
  refine lv_fload_n hx hb dJxf58ca_floatToIntBits_5c35a_0 rfl (lv_at hl 0 rfl) ?_
  refine ro_Si (D := D) (G := G) (As := [.float y0]) (rest := []) ⟨hx, hb, hml, hown, hts⟩ (c_fNaN l D G _ y0) gS_Jxf58ca_Jxf58ca_isNaN_12338 hdS_Jxf58ca_isNaN_12338 ⟨Nat.le_of_ble_eq_true rfl, Nat.le_of_ble_eq_true rfl⟩ hK rfl hl.1 rfl (Nat.le_of_ble_eq_true rfl) dJxf58ca_floatToIntBits_5c35a_1 ⟨Nat.le_of_ble_eq_true rfl, Nat.le_of_ble_eq_true rfl⟩ (fun r1 e_r1 => ?_)
  subst e_r1
  refine lv_if_ne (tgt := 12) hx hb dJxf58ca_floatToIntBits_5c35a_4 (by decide) (fun c2 => ?_) (fun c2 => ?_)
  · -- 4 taken
    have c2 := bI_1 c2
    refine lv_ldc hx hb hown (hts _ q_867) dJxf58ca_floatToIntBits_5c35a_12 ?_
    exact ro_iret (v := 2143289344) hx hb hr hH hlocks dJxf58ca_floatToIntBits_5c35a_14 (by unfold fbF; simp only [eq_false c2, not_true, not_false_iff, not_true_eq_false, not_false_eq_true, true_or, or_true, false_or, or_false, or_self, and_self, true_and, and_true, false_and, and_false, if_true, if_false])
  · -- 4 not
    have c2 := bI_0 c2
    refine lv_fload_n hx hb dJxf58ca_floatToIntBits_5c35a_7 rfl (lv_at hl 0 rfl) ?_
    refine vn_f2i hx hb (hml.trans hl.1.symm) hown (hts _ q_864) (hts _ q_866) (hts _ q_865) (hts _ q_10) (Nat.le_of_ble_eq_true rfl) (Nat.le_of_ble_eq_true rfl) dJxf58ca_floatToIntBits_5c35a_8 ?_
    exact ro_iret (v := y0.toInt32) hx hb hr hH hlocks dJxf58ca_floatToIntBits_5c35a_11 (by unfold fbF; simp only [eq_true (Decidable.of_not_not c2), not_true, not_false_iff, not_true_eq_false, not_false_eq_true, true_or, or_true, false_or, or_false, or_self, and_self, true_and, and_true, false_and, and_false, if_true, if_false])
set_option maxHeartbeats 4000000 in
set_option maxRecDepth 100000 in
theorem c_dNaN (l : Launch) (D : va_G) (G : Nat → ClassId) (H : Heap) (y0 : UInt64) : Met l yJxe99ae_isNaN_b9ae7 (ww yJxe99ae_isNaN_b9ae7 cJxe99ae_isNaN_b9ae7 2 (some .boolean)) (rmD 0) (roP D G H [.double y0]) (vp_Si (fun r => r = bI (¬ Op.cmpValue (FP.dcmp y0 y0) .l = 0))) 0 0 (fun _ => False) := by
  refine Met.ofW (cc := cJxe99ae_isNaN_b9ae7) (maxL := 2) (ret := (some .boolean)) (by decide) rfl ?_
  intro p e s m args below meth c s₁ B hml hv
  obtain ⟨rfl, hH, hK⟩ := hv
  have hx := B.exec
  have hb := B.bytes
  have hr := B.returns
  have hts : ∀ w ∈ TT, w.before _ s = true := fun w h => atoms_spec (ws := ww yJxe99ae_isNaN_b9ae7 cJxe99ae_isNaN_b9ae7 2 (some .boolean)) B.pre w (List.mem_cons_of_mem _ h)
  have hown : s.vm.findClass RJxe99ae = some m.cls := findClass_of_methodNamed B.named
  have hlocks := B.notSynchronized
  rw [hH]
  have hl := lv_entry ([.double y0]) (n := 2) (Nat.le_of_ble_eq_true rfl)
  rw [lg_entry_eq]
  generalize (lg_sl ([.double y0]) ++ List.replicate (2 - (lg_sl ([.double y0])).length) Slot.unset).toArray = ls at hl ⊢
  have hl : lv_has ls 2 [(0, .double y0)] := hl
  refine lv_dload_n hx hb dJxe99ae_isNaN_b9ae7_0 rfl (lv_at hl 0 rfl) ?_
  refine lv_dload_n hx hb dJxe99ae_isNaN_b9ae7_1 rfl (lv_at hl 0 rfl) ?_
  refine lv_dcmp hx hb dJxe99ae_isNaN_b9ae7_2 ?_
  refine lv_if_eq (tgt := 10) hx hb dJxe99ae_isNaN_b9ae7_3 (by decide) (fun c1 => ?_) (fun c1 => ?_)
  · -- 3 taken
    refine lv_iconst (v := 0) hx hb dJxe99ae_isNaN_b9ae7_10 (by decide) ?_
    exact ro_zret (v := 0) hx hb hr hH hlocks dJxe99ae_isNaN_b9ae7_11 (Or.inl rfl) ((bI_f (by simp only [eq_true c1, not_true, not_false_iff, not_true_eq_false, not_false_eq_true, true_or, or_true, false_or, or_false, or_self, and_self, true_and, and_true, false_and, and_false, if_true, if_false])).symm)
  · -- 3 not
    refine lv_iconst (v := 1) hx hb dJxe99ae_isNaN_b9ae7_6 (by decide) ?_
    refine lv_goto (tgt := 11) hx hb dJxe99ae_isNaN_b9ae7_7 (by decide) ?_
    exact ro_zret (v := 1) hx hb hr hH hlocks dJxe99ae_isNaN_b9ae7_11 (Or.inr rfl) ((bI_t (by simp only [eq_false c1, not_true, not_false_iff, not_true_eq_false, not_false_eq_true, true_or, or_true, false_or, or_false, or_self, and_self, true_and, and_true, false_and, and_false, if_true, if_false])).symm)
set_option maxHeartbeats 4000000 in
set_option maxRecDepth 100000 in
theorem c_dBits (l : Launch) (D : va_G) (G : Nat → ClassId) (H : Heap) (y0 : UInt64) : Met l yJxe99ae_doubleToLongBits_ccdee (ww yJxe99ae_doubleToLongBits_ccdee cJxe99ae_doubleToLongBits_ccdee 2 (some .long)) (rmD 1) (roP D G H [.double y0]) (vp_Sl (fun r => r = dbF y0)) 0 0 (fun _ => False) := by
  refine Met.ofW (cc := cJxe99ae_doubleToLongBits_ccdee) (maxL := 2) (ret := (some .long)) (by decide) rfl ?_
  intro p e s m args below meth c s₁ B hml hv
  obtain ⟨rfl, hH, hK⟩ := hv
  have hx := B.exec
  have hb := B.bytes
  have hr := B.returns
  have hts : ∀ w ∈ TT, w.before _ s = true := fun w h => atoms_spec (ws := ww yJxe99ae_doubleToLongBits_ccdee cJxe99ae_doubleToLongBits_ccdee 2 (some .long)) B.pre w (List.mem_cons_of_mem _ h)
  have hown : s.vm.findClass RJxe99ae = some m.cls := findClass_of_methodNamed B.named
  have hlocks := B.notSynchronized
  rw [hH]
  have hl := lv_entry ([.double y0]) (n := 2) (Nat.le_of_ble_eq_true rfl)
  rw [lg_entry_eq]
  generalize (lg_sl ([.double y0]) ++ List.replicate (2 - (lg_sl ([.double y0])).length) Slot.unset).toArray = ls at hl ⊢
  have hl : lv_has ls 2 [(0, .double y0)] := hl
  refine lv_dload_n hx hb dJxe99ae_doubleToLongBits_ccdee_0 rfl (lv_at hl 0 rfl) ?_
  refine ro_Si (D := D) (G := G) (As := [.double y0]) (rest := []) ⟨hx, hb, hml, hown, hts⟩ (c_dNaN l D G _ y0) gS_Jxe99ae_Jxe99ae_isNaN_b9ae7 hdS_Jxe99ae_isNaN_b9ae7 ⟨Nat.le_of_ble_eq_true rfl, Nat.le_of_ble_eq_true rfl⟩ hK rfl hl.1 rfl (Nat.le_of_ble_eq_true rfl) dJxe99ae_doubleToLongBits_ccdee_1 ⟨Nat.le_of_ble_eq_true rfl, Nat.le_of_ble_eq_true rfl⟩ (fun r1 e_r1 => ?_)
  subst e_r1
  refine lv_if_ne (tgt := 12) hx hb dJxe99ae_doubleToLongBits_ccdee_4 (by decide) (fun c2 => ?_) (fun c2 => ?_)
  · -- 4 taken
    have c2 := bI_1 c2
    refine lv_ldc2 hx hb hown (hts _ q_877) dJxe99ae_doubleToLongBits_ccdee_12 ?_
    exact ro_lret (v := 9221120237041090560) hx hb hr hH hlocks dJxe99ae_doubleToLongBits_ccdee_15 (by unfold dbF; simp only [eq_false c2, not_true, not_false_iff, not_true_eq_false, not_false_eq_true, true_or, or_true, false_or, or_false, or_self, and_self, true_and, and_true, false_and, and_false, if_true, if_false])
  · -- 4 not
    have c2 := bI_0 c2
    refine lv_dload_n hx hb dJxe99ae_doubleToLongBits_ccdee_7 rfl (lv_at hl 0 rfl) ?_
    refine vn_d2l hx hb (hml.trans hl.1.symm) hown (hts _ q_874) (hts _ q_876) (hts _ q_875) (hts _ q_11) (Nat.le_of_ble_eq_true rfl) (Nat.le_of_ble_eq_true rfl) dJxe99ae_doubleToLongBits_ccdee_8 ?_
    exact ro_lret (v := y0.toInt64) hx hb hr hH hlocks dJxe99ae_doubleToLongBits_ccdee_11 (by unfold dbF; simp only [eq_true (Decidable.of_not_not c2), not_true, not_false_iff, not_true_eq_false, not_false_eq_true, true_or, or_true, false_or, or_false, or_self, and_self, true_and, and_true, false_and, and_false, if_true, if_false])
set_option maxHeartbeats 4000000 in
set_option maxRecDepth 100000 in
theorem m_constant (l : Launch) (D : va_G) (G : Nat → ClassId) (mo : Nat) (ad : Nat → Nat) (σ : MS) (τ : Nat → Int64) (sz : Nat) (k : Nat) (h7 : σ 7 0 = nI k) (hk60 : k ≤ 60) (en : Int32) (v : Int64) : Met l yX8_constant (ww yX8_constant cX8_constant 6 (some .int)) (rmD 3) (muP D G sz mo ad (σ, τ) [.ref mo, .int en, .long v]) (muQi D G mo ad (muA G mo ad (σ, τ) sz) (oConst σ τ k en v).1 (oConst σ τ k en v).2) 0 0 (muA G mo ad (σ, τ) sz) := by
  refine Met.ofW (cc := cX8_constant) (maxL := 6) (ret := (some .int)) (by decide) rfl ?_
  intro p e s m args below meth c s₁ B hml hv
  obtain ⟨rfl, hsz, hP, hK, hD0⟩ := hv
  have hx := B.exec
  have hb := B.bytes
  have hr := B.returns
  have hts : ∀ w ∈ TT, w.before _ s = true := fun w h => atoms_spec (ws := ww yX8_constant cX8_constant 6 (some .int)) B.pre w (List.mem_cons_of_mem _ h)
  have hown : s.vm.findClass RX8 = some m.cls := findClass_of_methodNamed B.named
  have hlocks := B.notSynchronized
  subst hsz
  have hD : va_D (muA G mo ad (σ, τ) s.heap.size) (mW G mo ad σ τ) := hD0.self
  generalize hAe : muA G mo ad (σ, τ) s.heap.size = A at hD ⊢
  have hA : ∀ q : Nat, s.heap.size ≤ q → A q := fun q h => by rw [← hAe]; exact Or.inr h
  have hS : va_S A s.heap s.heap [] := va_S.rf
  have hP : va_P D vwCl (mW G mo ad σ τ) s.heap := hP
  have hl := lv_entry ([.ref mo, .int en, .long v]) (n := 6) (Nat.le_of_ble_eq_true rfl)
  rw [lg_entry_eq]
  generalize (lg_sl ([.ref mo, .int en, .long v]) ++ List.replicate (6 - (lg_sl ([.ref mo, .int en, .long v])).length) Slot.unset).toArray = ls at hl ⊢
  have hl : lv_has ls 6 [(0, .ref mo), (1, .int en), (2, .long v)] := hl
  refine lv_aload_n hx hb dX8_constant_0 rfl (lv_at hl 0 rfl) ?_
  refine lv_iconst (v := 0) hx hb dX8_constant_1 (by decide) ?_
  refine va_put (D := D) (ci := 8) (v := .int 0) (ty := .int) (C := RX8) (T := TX8) (N := 33) hx hb hts iX8 tyX8 tyX8_ok nmX8 hown hK.1 hP hD hS 0 rfl rfl 0 (by decide) (hts _ q_679) (fun _ h9 => h9) rfl (by decide +kernel) rfl rfl (Nat.le_of_ble_eq_true rfl) dX8_constant_2 (fun H locs hP hD hS => ?_)
  have hP : va_P D vwCl (mW G mo ad (su σ 0 (0) (0)) (τ)) H := hP
  have hD : va_D A (mW G mo ad (su σ 0 (0) (0)) (τ)) := hD
  refine lv_aload_n hx hb dX8_constant_5 rfl (lv_at hl 0 rfl) ?_
  refine lv_iload_n hx hb dX8_constant_6 rfl (lv_at hl 1 rfl) ?_
  refine ro_Vi (D := D) (G := G) (As := [.int en]) (rest := []) ⟨hx, hb, hml, hown, hts⟩ (m_isEntry l D G _ mo ad _ _ hP k h7 hk60 en) gV_X8_X8_isEntry hdV_X8_isEntry ⟨Nat.le_of_ble_eq_true rfl, Nat.le_of_ble_eq_true rfl⟩ hK (va_recv hK.1 hP (ci := 8) (q0 := 0) rfl rfl) rfl hl.1 rfl (Nat.le_of_ble_eq_true rfl) dX8_constant_7 ⟨Nat.le_of_ble_eq_true rfl, Nat.le_of_ble_eq_true rfl⟩ (fun r1 e_r1 => ?_)
  subst e_r1
  refine W.eq (g2 := F0 m 10 ls [.int (bI (okN k en))]) rfl ?_
  refine lv_if_ne (tgt := 16) hx hb dX8_constant_10 (by decide) (fun c2 => ?_) (fun c2 => ?_)
  · -- 10 taken
    have c2 := bI_1 c2
    obtain ⟨j3, h_j3, rfl⟩ := okN_ex (by omega) c2
    refine lv_aload_n hx hb dX8_constant_16 rfl (lv_at hl 0 rfl) ?_
    refine va_get (D := D) (ci := 8) (v := .ref ((ad 8))) (C := RX8) (T := TX8) (N := 33) hx hb hts iX8 hown hK.1 hP 0 rfl rfl 8 (by decide) (hts _ q_687) (fun _ h9 => h9) rfl dX8_constant_17 ?_
    refine lv_iload_n hx hb dX8_constant_20 rfl (lv_at hl 1 rfl) ?_
    refine zald_n (f := σ 8) hx hb hK.1 hP 6 2 rfl rfl (j3) rfl (by omega) (by decide) dX8_constant_21 ?_
    refine lv_if_eq (tgt := 28) hx hb dX8_constant_22 (by decide) (fun c4 => ?_) (fun c4 => ?_)
    · -- 22 taken
      refine lv_aload_n hx hb dX8_constant_28 rfl (lv_at hl 0 rfl) ?_
      refine va_get (D := D) (ci := 8) (v := .ref ((ad 14))) (C := RX8) (T := TX8) (N := 33) hx hb hts iX8 hown hK.1 hP 0 rfl rfl 14 (by decide) (hts _ q_693) (fun _ h9 => h9) rfl dX8_constant_29 ?_
      refine lv_iload_n hx hb dX8_constant_32 rfl (lv_at hl 1 rfl) ?_
      refine zald_n (f := σ 14) hx hb hK.1 hP 12 2 rfl rfl (j3) rfl (by omega) (by decide) dX8_constant_33 ?_
      refine lv_if_ne (tgt := 73) hx hb dX8_constant_34 (by decide) (fun c5 => ?_) (fun c5 => ?_)
      · -- 34 taken
        refine lv_bipush (v := -14) hx hb dX8_constant_73 (by decide) ?_
        have ho : oConst σ τ k (nI j3) v = ((-14), su σ 0 (0) (0), τ) := by unfold oConst; simp only [tvF, eq_true c2, eq_true c4, eq_false c5, nI_clamp (show j3 < 2 ^ 31 by omega), not_true, not_false_iff, not_true_eq_false, not_false_eq_true, true_or, or_true, false_or, or_false, or_self, and_self, true_and, and_true, false_and, and_false, if_true, if_false]; try rfl
        exact mu_iret (v0 := (-14)) (z := (su σ 0 (0) (0), τ)) hx hb hr hlocks hP hD hS dX8_constant_75 (by rw [ho]) (by rw [ho])
      · -- 34 not
        refine lv_aload_n hx hb dX8_constant_37 rfl (lv_at hl 0 rfl) ?_
        refine va_get (D := D) (ci := 8) (v := .ref ((ad 13))) (C := RX8) (T := TX8) (N := 33) hx hb hts iX8 hown hK.1 hP 0 rfl rfl 13 (by decide) (hts _ q_692) (fun _ h9 => h9) rfl dX8_constant_38 ?_
        refine lv_iload_n hx hb dX8_constant_41 rfl (lv_at hl 1 rfl) ?_
        refine iald_n (f := σ 13) hx hb hK.1 hP 11 0 rfl rfl (j3) rfl (by omega) (by decide) dX8_constant_42 ?_
        refine lv_bipush (v := 16) hx hb dX8_constant_43 (by decide) ?_
        refine lv_iand hx hb dX8_constant_45 ?_
        refine lv_if_eq (tgt := 73) hx hb dX8_constant_46 (by decide) (fun c6 => ?_) (fun c6 => ?_)
        · -- 46 taken
          refine lv_bipush (v := -14) hx hb dX8_constant_73 (by decide) ?_
          have ho : oConst σ τ k (nI j3) v = ((-14), su σ 0 (0) (0), τ) := by unfold oConst; simp only [tvF, eq_true c2, eq_true c4, eq_true c5, eq_true c6, nI_clamp (show j3 < 2 ^ 31 by omega), not_true, not_false_iff, not_true_eq_false, not_false_eq_true, true_or, or_true, false_or, or_false, or_self, and_self, true_and, and_true, false_and, and_false, if_true, if_false]; try rfl
          exact mu_iret (v0 := (-14)) (z := (su σ 0 (0) (0), τ)) hx hb hr hlocks hP hD hS dX8_constant_75 (by rw [ho]) (by rw [ho])
        · -- 46 not
          refine lv_aload_n hx hb dX8_constant_49 rfl (lv_at hl 0 rfl) ?_
          refine va_get (D := D) (ci := 8) (v := .ref ((ad 11))) (C := RX8) (T := TX8) (N := 33) hx hb hts iX8 hown hK.1 hP 0 rfl rfl 11 (by decide) (hts _ q_690) (fun _ h9 => h9) rfl dX8_constant_50 ?_
          refine lv_iload_n hx hb dX8_constant_53 rfl (lv_at hl 1 rfl) ?_
          refine iald_n (f := σ 11) hx hb hK.1 hP 9 0 rfl rfl (j3) rfl (by omega) (by decide) dX8_constant_54 ?_
          refine lv_iconst (v := 1) hx hb dX8_constant_55 (by decide) ?_
          refine lv_bipush (v := 8) hx hb dX8_constant_56 (by decide) ?_
          refine ro_Si (D := D) (G := G) (As := [.int (σ 11 j3), .int 1, .int 8]) (rest := []) ⟨hx, hb, hml, hown, hts⟩ (m_in l D G _ (σ 11 j3) 1 8) gS_X8_X8_in hdS_X8_in ⟨Nat.le_of_ble_eq_true rfl, Nat.le_of_ble_eq_true rfl⟩ hK rfl hl.1 rfl (Nat.le_of_ble_eq_true rfl) dX8_constant_58 ⟨Nat.le_of_ble_eq_true rfl, Nat.le_of_ble_eq_true rfl⟩ (fun r7 e_r7 => ?_)
          subst e_r7
          refine W.eq (g2 := F0 m 61 ls [.int (bI (1 ≤ σ 11 j3 ∧ σ 11 j3 ≤ 8))]) rfl ?_
          refine lv_if_eq (tgt := 73) hx hb dX8_constant_61 (by decide) (fun c8 => ?_) (fun c8 => ?_)
          · -- 61 taken
            have c8 := bI_0 c8
            refine lv_bipush (v := -14) hx hb dX8_constant_73 (by decide) ?_
            have ho : oConst σ τ k (nI j3) v = ((-14), su σ 0 (0) (0), τ) := by unfold oConst; simp only [tvF, eq_true c2, eq_true c4, eq_true c5, eq_false c6, eq_false c8, nI_clamp (show j3 < 2 ^ 31 by omega), not_true, not_false_iff, not_true_eq_false, not_false_eq_true, true_or, or_true, false_or, or_false, or_self, and_self, true_and, and_true, false_and, and_false, if_true, if_false]; try rfl
            exact mu_iret (v0 := (-14)) (z := (su σ 0 (0) (0), τ)) hx hb hr hlocks hP hD hS dX8_constant_75 (by rw [ho]) (by rw [ho])
          · -- 61 not
            have c8 := bI_1 c8
            refine lv_aload_n hx hb dX8_constant_64 rfl (lv_at hl 0 rfl) ?_
            refine va_get (D := D) (ci := 8) (v := .ref ((ad 12))) (C := RX8) (T := TX8) (N := 33) hx hb hts iX8 hown hK.1 hP 0 rfl rfl 12 (by decide) (hts _ q_691) (fun _ h9 => h9) rfl dX8_constant_65 ?_
            refine lv_iload_n hx hb dX8_constant_68 rfl (lv_at hl 1 rfl) ?_
            refine iald_n (f := σ 12) hx hb hK.1 hP 10 0 rfl rfl (j3) rfl (by omega) (by decide) dX8_constant_69 ?_
            refine lv_if_le (tgt := 76) hx hb dX8_constant_70 (by decide) (fun c9 => ?_) (fun c9 => ?_)
            · -- 70 taken
              refine lv_aload_n hx hb dX8_constant_76 rfl (lv_at hl 0 rfl) ?_
              refine va_get (D := D) (ci := 8) (v := .ref ((ad 11))) (C := RX8) (T := TX8) (N := 33) hx hb hts iX8 hown hK.1 hP 0 rfl rfl 11 (by decide) (hts _ q_690) (fun _ h9 => h9) rfl dX8_constant_77 ?_
              refine lv_iload_n hx hb dX8_constant_80 rfl (lv_at hl 1 rfl) ?_
              refine iald_n (f := σ 11) hx hb hK.1 hP 9 0 rfl rfl (j3) rfl (by omega) (by decide) dX8_constant_81 ?_
              refine lv_istore (lv' := [(4, .int (σ 11 j3)), (0, .ref mo), (1, .int (nI j3)), (2, .long v)]) hx hb dX8_constant_82 hl (by decide) rfl (fun ls hl => ?_)
              refine w_join (P := fun b9 => b9 = bI (icP (σ 11 j3) v)) 198 (ls := ls) (rest := []) (fun b11 e_b11 => ?_) (fun J10 => ?_)
              · -- behind the meeting at 198
                subst e_b11
                refine lv_istore (lv' := [(5, .int (bI (icP (σ 11 j3) v))), (4, .int (σ 11 j3)), (0, .ref mo), (1, .int (nI j3)), (2, .long v)]) hx hb dX8_constant_198 hl (by decide) rfl (fun ls hl => ?_)
                refine lv_iload hx hb dX8_constant_200 (lv_at hl 0 rfl) ?_
                refine lv_if_ne (tgt := 212) hx hb dX8_constant_202 (by decide) (fun c12 => ?_) (fun c12 => ?_)
                · -- 202 taken
                  have c12 := bI_1 c12
                  refine lv_aload_n hx hb dX8_constant_212 rfl (lv_at hl 2 rfl) ?_
                  refine va_get (D := D) (ci := 8) (v := .ref ((ad 14))) (C := RX8) (T := TX8) (N := 33) hx hb hts iX8 hown hK.1 hP 0 rfl rfl 14 (by decide) (hts _ q_693) (fun _ h9 => h9) rfl dX8_constant_213 ?_
                  refine lv_iload_n hx hb dX8_constant_216 rfl (lv_at hl 3 rfl) ?_
                  refine lv_iconst (v := 1) hx hb dX8_constant_217 (by decide) ?_
                  refine zast_n hx hb hK.1 hP hD hS 12 2 rfl rfl (j3) rfl (by omega) (by decide) (Or.inr rfl) dX8_constant_218 (fun H locs hP hD hS => ?_)
                  have hP : va_P D vwCl (mW G mo ad (su (su σ 0 (0) (0)) 14 (j3) (1)) (τ)) H := hP
                  have hD : va_D A (mW G mo ad (su (su σ 0 (0) (0)) 14 (j3) (1)) (τ)) := hD
                  refine lv_aload_n hx hb dX8_constant_219 rfl (lv_at hl 2 rfl) ?_
                  refine va_get (D := D) (ci := 8) (v := .ref ((ad 15))) (C := RX8) (T := TX8) (N := 33) hx hb hts iX8 hown hK.1 hP 0 rfl rfl 15 (by decide) (hts _ q_694) (fun _ h9 => h9) rfl dX8_constant_220 ?_
                  refine lv_iload_n hx hb dX8_constant_223 rfl (lv_at hl 3 rfl) ?_
                  refine lv_iload hx hb dX8_constant_224 (lv_at hl 1 rfl) ?_
                  refine lv_bipush (v := 7) hx hb dX8_constant_226 (by decide) ?_
                  refine lv_icmp_ne (tgt := 240) hx hb dX8_constant_228 (by decide) (fun c13 => ?_) (fun c13 => ?_)
                  · -- 228 taken
                    refine lv_iload hx hb dX8_constant_240 (lv_at hl 1 rfl) ?_
                    refine lv_bipush (v := 8) hx hb dX8_constant_242 (by decide) ?_
                    refine lv_icmp_ne (tgt := 255) hx hb dX8_constant_244 (by decide) (fun c14 => ?_) (fun c14 => ?_)
                    · -- 244 taken
                      refine lv_lload_n hx hb dX8_constant_255 rfl (lv_at hl 4 rfl) ?_
                      refine last_n hx hb hK.1 hP hD hS 13 1 rfl rfl (j3) rfl (by omega) (by decide) dX8_constant_256 (fun H locs hP hD hS => ?_)
                      have hP : va_P D vwCl (mW G mo ad (su (su σ 0 (0) (0)) 14 (j3) (1)) (vp_updL τ (j3) (v))) H := hP
                      have hD : va_D A (mW G mo ad (su (su σ 0 (0) (0)) 14 (j3) (1)) (vp_updL τ (j3) (v))) := hD
                      refine lv_iconst (v := 1) hx hb dX8_constant_257 (by decide) ?_
                      have ho : oConst σ τ k (nI j3) v = (1, su (su σ 0 (0) (0)) 14 (j3) (1), vp_updL τ (j3) (v)) := by unfold oConst; simp only [tvF, eq_true c2, eq_true c4, eq_true c5, eq_false c6, eq_true c8, eq_true c9, eq_true c12, eq_false c13, eq_false c14, nI_clamp (show j3 < 2 ^ 31 by omega), not_true, not_false_iff, not_true_eq_false, not_false_eq_true, true_or, or_true, false_or, or_false, or_self, and_self, true_and, and_true, false_and, and_false, if_true, if_false]; try rfl
                      exact mu_iret (v0 := 1) (z := (su (su σ 0 (0) (0)) 14 (j3) (1), vp_updL τ (j3) (v))) hx hb hr hlocks hP hD hS dX8_constant_258 (by rw [ho]) (by rw [ho])
                    · -- 244 not
                      refine lv_lload_n hx hb dX8_constant_247 rfl (lv_at hl 4 rfl) ?_
                      refine lv_l2d hx hb dX8_constant_248 ?_
                      refine ro_Sl (D := D) (G := G) (As := [.double (FP.l2d v)]) (rest := [.int (nI j3), .ref ((ad 15))]) ⟨hx, hb, hml, hown, hts⟩ (c_dBits l D G _ (FP.l2d v)) gS_X8_Jxe99ae_doubleToLongBits_ccdee hdS_Jxe99ae_doubleToLongBits_ccdee ⟨Nat.le_of_ble_eq_true rfl, Nat.le_of_ble_eq_true rfl⟩ hK rfl hl.1 rfl (Nat.le_of_ble_eq_true rfl) dX8_constant_249 ⟨Nat.le_of_ble_eq_true rfl, Nat.le_of_ble_eq_true rfl⟩ (fun r15 e_r15 => ?_)
                      subst e_r15
                      refine W.eq (g2 := F0 m 252 ls [.long (dbF (FP.l2d v)), .int (nI j3), .ref ((ad 15))]) rfl ?_
                      refine lv_goto (tgt := 256) hx hb dX8_constant_252 (by decide) ?_
                      refine last_n hx hb hK.1 hP hD hS 13 1 rfl rfl (j3) rfl (by omega) (by decide) dX8_constant_256 (fun H locs hP hD hS => ?_)
                      have hP : va_P D vwCl (mW G mo ad (su (su σ 0 (0) (0)) 14 (j3) (1)) (vp_updL τ (j3) (dbF (FP.l2d v)))) H := hP
                      have hD : va_D A (mW G mo ad (su (su σ 0 (0) (0)) 14 (j3) (1)) (vp_updL τ (j3) (dbF (FP.l2d v)))) := hD
                      refine lv_iconst (v := 1) hx hb dX8_constant_257 (by decide) ?_
                      have ho : oConst σ τ k (nI j3) v = (1, su (su σ 0 (0) (0)) 14 (j3) (1), vp_updL τ (j3) (dbF (FP.l2d v))) := by unfold oConst; simp only [tvF, eq_true c2, eq_true c4, eq_true c5, eq_false c6, eq_true c8, eq_true c9, eq_true c12, eq_false c13, eq_true c14, nI_clamp (show j3 < 2 ^ 31 by omega), not_true, not_false_iff, not_true_eq_false, not_false_eq_true, true_or, or_true, false_or, or_false, or_self, and_self, true_and, and_true, false_and, and_false, if_true, if_false]; try rfl
                      exact mu_iret (v0 := 1) (z := (su (su σ 0 (0) (0)) 14 (j3) (1), vp_updL τ (j3) (dbF (FP.l2d v)))) hx hb hr hlocks hP hD hS dX8_constant_258 (by rw [ho]) (by rw [ho])
                  · -- 228 not
                    refine lv_lload_n hx hb dX8_constant_231 rfl (lv_at hl 4 rfl) ?_
                    refine lv_l2f hx hb dX8_constant_232 ?_
                    refine ro_Si (D := D) (G := G) (As := [.float (FP.l2f v)]) (rest := [.int (nI j3), .ref ((ad 15))]) ⟨hx, hb, hml, hown, hts⟩ (c_fBits l D G _ (FP.l2f v)) gS_X8_Jxf58ca_floatToIntBits_5c35a hdS_Jxf58ca_floatToIntBits_5c35a ⟨Nat.le_of_ble_eq_true rfl, Nat.le_of_ble_eq_true rfl⟩ hK rfl hl.1 rfl (Nat.le_of_ble_eq_true rfl) dX8_constant_233 ⟨Nat.le_of_ble_eq_true rfl, Nat.le_of_ble_eq_true rfl⟩ (fun r16 e_r16 => ?_)
                    subst e_r16
                    refine W.eq (g2 := F0 m 236 ls [.int (fbF (FP.l2f v)), .int (nI j3), .ref ((ad 15))]) rfl ?_
                    refine lv_i2l hx hb dX8_constant_236 rfl ?_
                    refine lv_goto (tgt := 256) hx hb dX8_constant_237 (by decide) ?_
                    refine last_n hx hb hK.1 hP hD hS 13 1 rfl rfl (j3) rfl (by omega) (by decide) dX8_constant_256 (fun H locs hP hD hS => ?_)
                    have hP : va_P D vwCl (mW G mo ad (su (su σ 0 (0) (0)) 14 (j3) (1)) (vp_updL τ (j3) ((fbF (FP.l2f v)).toInt64))) H := hP
                    have hD : va_D A (mW G mo ad (su (su σ 0 (0) (0)) 14 (j3) (1)) (vp_updL τ (j3) ((fbF (FP.l2f v)).toInt64))) := hD
                    refine lv_iconst (v := 1) hx hb dX8_constant_257 (by decide) ?_
                    have ho : oConst σ τ k (nI j3) v = (1, su (su σ 0 (0) (0)) 14 (j3) (1), vp_updL τ (j3) ((fbF (FP.l2f v)).toInt64)) := by unfold oConst; simp only [tvF, eq_true c2, eq_true c4, eq_true c5, eq_false c6, eq_true c8, eq_true c9, eq_true c12, eq_true c13, nI_clamp (show j3 < 2 ^ 31 by omega), not_true, not_false_iff, not_true_eq_false, not_false_eq_true, true_or, or_true, false_or, or_false, or_self, and_self, true_and, and_true, false_and, and_false, if_true, if_false]; try rfl
                    exact mu_iret (v0 := 1) (z := (su (su σ 0 (0) (0)) 14 (j3) (1), vp_updL τ (j3) ((fbF (FP.l2f v)).toInt64))) hx hb hr hlocks hP hD hS dX8_constant_258 (by rw [ho]) (by rw [ho])
                · -- 202 not
                  have c12 := bI_0 c12
                  refine lv_aload_n hx hb dX8_constant_205 rfl (lv_at hl 2 rfl) ?_
                  refine lv_bipush (v := 7) hx hb dX8_constant_206 (by decide) ?_
                  refine mu_Vi (D := D) (G := G) (mo := mo) (ad := ad) (u := (su σ 0 (0) (0), τ)) (As := [.int 7]) (rest := []) ⟨hx, hb, hml, hown, hts⟩ (m_breaks l D G mo ad (su σ 0 (0) (0)) (τ) _ (7) (by omega)) gV_X8_X8_breaks hdV_X8_breaks ⟨Nat.le_of_ble_eq_true rfl, Nat.le_of_ble_eq_true rfl⟩ hK hP hD hS hA rfl hl.1 rfl (Nat.le_of_ble_eq_true rfl) dX8_constant_208 ⟨Nat.le_of_ble_eq_true rfl, Nat.le_of_ble_eq_true rfl⟩ (fun H locs hP hD hS => ?_)
                  have hP : va_P D vwCl (mW G mo ad (su (su (su σ 0 (0) (0)) 27 (7) (σ 27 7 + 1)) 26 (0) (σ 26 0 + 1)) (τ)) H := hP
                  have hD : va_D A (mW G mo ad (su (su (su σ 0 (0) (0)) 27 (7) (σ 27 7 + 1)) 26 (0) (σ 26 0 + 1)) (τ)) := hD
                  refine W.eq (g2 := F0 m 211 ls [.int ((-40) - nI 7)]) rfl ?_
                  have ho : oConst σ τ k (nI j3) v = ((-40) - nI 7, su (su (su σ 0 (0) (0)) 27 (7) (σ 27 7 + 1)) 26 (0) (σ 26 0 + 1), τ) := by unfold oConst; simp only [tvF, eq_true c2, eq_true c4, eq_true c5, eq_false c6, eq_true c8, eq_true c9, eq_false c12, nI_clamp (show j3 < 2 ^ 31 by omega), not_true, not_false_iff, not_true_eq_false, not_false_eq_true, true_or, or_true, false_or, or_false, or_self, and_self, true_and, and_true, false_and, and_false, if_true, if_false]; try rfl
                  exact mu_iret (v0 := (-40) - nI 7) (z := (su (su (su σ 0 (0) (0)) 27 (7) (σ 27 7 + 1)) 26 (0) (σ 26 0 + 1), τ)) hx hb hr hlocks hP hD hS dX8_constant_211 (by rw [ho]) (by rw [ho])
              · -- up to the meeting at 198
                refine lv_iload hx hb dX8_constant_84 (lv_at hl 0 rfl) ?_
                refine lv_iconst (v := 1) hx hb dX8_constant_86 (by decide) ?_
                refine lv_icmp_ne (tgt := 110) hx hb dX8_constant_87 (by decide) (fun c17 => ?_) (fun c17 => ?_)
                · -- 87 taken
                  refine lv_iload hx hb dX8_constant_110 (lv_at hl 0 rfl) ?_
                  refine lv_iconst (v := 2) hx hb dX8_constant_112 (by decide) ?_
                  refine lv_icmp_ne (tgt := 133) hx hb dX8_constant_113 (by decide) (fun c18 => ?_) (fun c18 => ?_)
                  · -- 113 taken
                    refine lv_iload hx hb dX8_constant_133 (lv_at hl 0 rfl) ?_
                    refine lv_iconst (v := 3) hx hb dX8_constant_135 (by decide) ?_
                    refine lv_icmp_ne (tgt := 156) hx hb dX8_constant_136 (by decide) (fun c19 => ?_) (fun c19 => ?_)
                    · -- 136 taken
                      refine lv_iload hx hb dX8_constant_156 (lv_at hl 0 rfl) ?_
                      refine lv_iconst (v := 4) hx hb dX8_constant_158 (by decide) ?_
                      refine lv_icmp_ne (tgt := 179) hx hb dX8_constant_159 (by decide) (fun c20 => ?_) (fun c20 => ?_)
                      · -- 159 taken
                        refine lv_iload hx hb dX8_constant_179 (lv_at hl 0 rfl) ?_
                        refine lv_iconst (v := 5) hx hb dX8_constant_181 (by decide) ?_
                        refine lv_icmp_ne (tgt := 193) hx hb dX8_constant_182 (by decide) (fun c21 => ?_) (fun c21 => ?_)
                        · -- 182 taken
                          refine lv_iconst (v := 1) hx hb dX8_constant_193 (by decide) ?_
                          refine lv_goto (tgt := 198) hx hb dX8_constant_194 (by decide) ?_
                          exact J10 1 ((bI_t (by rw [icP_def]; simp only [eq_false c17, eq_false c18, eq_false c19, eq_false c20, eq_false c21, not_true, not_false_iff, not_true_eq_false, not_false_eq_true, true_or, or_true, false_or, or_false, or_self, and_self, true_and, and_true, false_and, and_false, if_true, if_false])).symm)
                        · -- 182 not
                          refine lv_lload_n hx hb dX8_constant_185 rfl (lv_at hl 3 rfl) ?_
                          refine lv_lload_n hx hb dX8_constant_186 rfl (lv_at hl 3 rfl) ?_
                          refine lv_l2i hx hb dX8_constant_187 rfl ?_
                          refine lv_i2l hx hb dX8_constant_188 rfl ?_
                          refine W.lcmp hx hb dX8_constant_189 ?_
                          refine lv_if_ne (tgt := 197) hx hb dX8_constant_190 (by decide) (fun c22 => ?_) (fun c22 => ?_)
                          · -- 190 taken
                            have c22g := mt (lg_cmp_eq _ _).mpr c22
                            refine lv_iconst (v := 0) hx hb dX8_constant_197 (by decide) ?_
                            exact J10 0 ((bI_f (by rw [icP_def]; simp only [eq_false c17, eq_false c18, eq_false c19, eq_false c20, eq_true c21, eq_false c22g, not_true, not_false_iff, not_true_eq_false, not_false_eq_true, true_or, or_true, false_or, or_false, or_self, and_self, true_and, and_true, false_and, and_false, if_true, if_false])).symm)
                          · -- 190 not
                            have c22g := (lg_cmp_eq _ _).mp c22
                            refine lv_iconst (v := 1) hx hb dX8_constant_193 (by decide) ?_
                            refine lv_goto (tgt := 198) hx hb dX8_constant_194 (by decide) ?_
                            exact J10 1 ((bI_t (by rw [icP_def]; simp only [eq_false c17, eq_false c18, eq_false c19, eq_false c20, eq_true c21, eq_true c22g, not_true, not_false_iff, not_true_eq_false, not_false_eq_true, true_or, or_true, false_or, or_false, or_self, and_self, true_and, and_true, false_and, and_false, if_true, if_false])).symm)
                      · -- 159 not
                        refine lv_lload_n hx hb dX8_constant_162 rfl (lv_at hl 3 rfl) ?_
                        refine lv_lload_n hx hb dX8_constant_163 rfl (lv_at hl 3 rfl) ?_
                        refine lv_l2i hx hb dX8_constant_164 rfl ?_
                        refine lv_i2c hx hb dX8_constant_165 rfl ?_
                        refine lv_i2l hx hb dX8_constant_166 rfl ?_
                        refine W.lcmp hx hb dX8_constant_167 ?_
                        refine lv_if_ne (tgt := 175) hx hb dX8_constant_168 (by decide) (fun c23 => ?_) (fun c23 => ?_)
                        · -- 168 taken
                          have c23g := mt (lg_cmp_eq _ _).mpr c23
                          refine lv_iconst (v := 0) hx hb dX8_constant_175 (by decide) ?_
                          refine lv_goto (tgt := 198) hx hb dX8_constant_176 (by decide) ?_
                          exact J10 0 ((bI_f (by rw [icP_def]; simp only [eq_false c17, eq_false c18, eq_false c19, eq_true c20, eq_false c23g, not_true, not_false_iff, not_true_eq_false, not_false_eq_true, true_or, or_true, false_or, or_false, or_self, and_self, true_and, and_true, false_and, and_false, if_true, if_false])).symm)
                        · -- 168 not
                          have c23g := (lg_cmp_eq _ _).mp c23
                          refine lv_iconst (v := 1) hx hb dX8_constant_171 (by decide) ?_
                          refine lv_goto (tgt := 198) hx hb dX8_constant_172 (by decide) ?_
                          exact J10 1 ((bI_t (by rw [icP_def]; simp only [eq_false c17, eq_false c18, eq_false c19, eq_true c20, eq_true c23g, not_true, not_false_iff, not_true_eq_false, not_false_eq_true, true_or, or_true, false_or, or_false, or_self, and_self, true_and, and_true, false_and, and_false, if_true, if_false])).symm)
                    · -- 136 not
                      refine lv_lload_n hx hb dX8_constant_139 rfl (lv_at hl 3 rfl) ?_
                      refine lv_lload_n hx hb dX8_constant_140 rfl (lv_at hl 3 rfl) ?_
                      refine lv_l2i hx hb dX8_constant_141 rfl ?_
                      refine lv_i2s hx hb dX8_constant_142 rfl ?_
                      refine lv_i2l hx hb dX8_constant_143 rfl ?_
                      refine W.lcmp hx hb dX8_constant_144 ?_
                      refine lv_if_ne (tgt := 152) hx hb dX8_constant_145 (by decide) (fun c24 => ?_) (fun c24 => ?_)
                      · -- 145 taken
                        have c24g := mt (lg_cmp_eq _ _).mpr c24
                        refine lv_iconst (v := 0) hx hb dX8_constant_152 (by decide) ?_
                        refine lv_goto (tgt := 198) hx hb dX8_constant_153 (by decide) ?_
                        exact J10 0 ((bI_f (by rw [icP_def]; simp only [eq_false c17, eq_false c18, eq_true c19, eq_false c24g, not_true, not_false_iff, not_true_eq_false, not_false_eq_true, true_or, or_true, false_or, or_false, or_self, and_self, true_and, and_true, false_and, and_false, if_true, if_false])).symm)
                      · -- 145 not
                        have c24g := (lg_cmp_eq _ _).mp c24
                        refine lv_iconst (v := 1) hx hb dX8_constant_148 (by decide) ?_
                        refine lv_goto (tgt := 198) hx hb dX8_constant_149 (by decide) ?_
                        exact J10 1 ((bI_t (by rw [icP_def]; simp only [eq_false c17, eq_false c18, eq_true c19, eq_true c24g, not_true, not_false_iff, not_true_eq_false, not_false_eq_true, true_or, or_true, false_or, or_false, or_self, and_self, true_and, and_true, false_and, and_false, if_true, if_false])).symm)
                  · -- 113 not
                    refine lv_lload_n hx hb dX8_constant_116 rfl (lv_at hl 3 rfl) ?_
                    refine lv_lload_n hx hb dX8_constant_117 rfl (lv_at hl 3 rfl) ?_
                    refine lv_l2i hx hb dX8_constant_118 rfl ?_
                    refine lv_i2b hx hb dX8_constant_119 rfl ?_
                    refine lv_i2l hx hb dX8_constant_120 rfl ?_
                    refine W.lcmp hx hb dX8_constant_121 ?_
                    refine lv_if_ne (tgt := 129) hx hb dX8_constant_122 (by decide) (fun c25 => ?_) (fun c25 => ?_)
                    · -- 122 taken
                      have c25g := mt (lg_cmp_eq _ _).mpr c25
                      refine lv_iconst (v := 0) hx hb dX8_constant_129 (by decide) ?_
                      refine lv_goto (tgt := 198) hx hb dX8_constant_130 (by decide) ?_
                      exact J10 0 ((bI_f (by rw [icP_def]; simp only [eq_false c17, eq_true c18, eq_false c25g, not_true, not_false_iff, not_true_eq_false, not_false_eq_true, true_or, or_true, false_or, or_false, or_self, and_self, true_and, and_true, false_and, and_false, if_true, if_false])).symm)
                    · -- 122 not
                      have c25g := (lg_cmp_eq _ _).mp c25
                      refine lv_iconst (v := 1) hx hb dX8_constant_125 (by decide) ?_
                      refine lv_goto (tgt := 198) hx hb dX8_constant_126 (by decide) ?_
                      exact J10 1 ((bI_t (by rw [icP_def]; simp only [eq_false c17, eq_true c18, eq_true c25g, not_true, not_false_iff, not_true_eq_false, not_false_eq_true, true_or, or_true, false_or, or_false, or_self, and_self, true_and, and_true, false_and, and_false, if_true, if_false])).symm)
                · -- 87 not
                  refine lv_lload_n hx hb dX8_constant_90 rfl (lv_at hl 3 rfl) ?_
                  refine lv_lconst (v := 0) hx hb dX8_constant_91 (by decide) ?_
                  refine W.lcmp hx hb dX8_constant_92 ?_
                  refine lv_if_eq (tgt := 102) hx hb dX8_constant_93 (by decide) (fun c26 => ?_) (fun c26 => ?_)
                  · -- 93 taken
                    have c26g := (lg_cmp_eq _ _).mp c26
                    refine lv_iconst (v := 1) hx hb dX8_constant_102 (by decide) ?_
                    refine lv_goto (tgt := 198) hx hb dX8_constant_103 (by decide) ?_
                    exact J10 1 ((bI_t (by rw [icP_def]; simp only [eq_true c17, eq_true c26g, not_true, not_false_iff, not_true_eq_false, not_false_eq_true, true_or, or_true, false_or, or_false, or_self, and_self, true_and, and_true, false_and, and_false, if_true, if_false])).symm)
                  · -- 93 not
                    have c26g := mt (lg_cmp_eq _ _).mpr c26
                    refine lv_lload_n hx hb dX8_constant_96 rfl (lv_at hl 3 rfl) ?_
                    refine lv_lconst (v := 1) hx hb dX8_constant_97 (by decide) ?_
                    refine W.lcmp hx hb dX8_constant_98 ?_
                    refine lv_if_ne (tgt := 106) hx hb dX8_constant_99 (by decide) (fun c27 => ?_) (fun c27 => ?_)
                    · -- 99 taken
                      have c27g := mt (lg_cmp_eq _ _).mpr c27
                      refine lv_iconst (v := 0) hx hb dX8_constant_106 (by decide) ?_
                      refine lv_goto (tgt := 198) hx hb dX8_constant_107 (by decide) ?_
                      exact J10 0 ((bI_f (by rw [icP_def]; simp only [eq_true c17, eq_false c26g, eq_false c27g, not_true, not_false_iff, not_true_eq_false, not_false_eq_true, true_or, or_true, false_or, or_false, or_self, and_self, true_and, and_true, false_and, and_false, if_true, if_false])).symm)
                    · -- 99 not
                      have c27g := (lg_cmp_eq _ _).mp c27
                      refine lv_iconst (v := 1) hx hb dX8_constant_102 (by decide) ?_
                      refine lv_goto (tgt := 198) hx hb dX8_constant_103 (by decide) ?_
                      exact J10 1 ((bI_t (by rw [icP_def]; simp only [eq_true c17, eq_false c26g, eq_true c27g, not_true, not_false_iff, not_true_eq_false, not_false_eq_true, true_or, or_true, false_or, or_false, or_self, and_self, true_and, and_true, false_and, and_false, if_true, if_false])).symm)
            · -- 70 not
              refine lv_bipush (v := -14) hx hb dX8_constant_73 (by decide) ?_
              have ho : oConst σ τ k (nI j3) v = ((-14), su σ 0 (0) (0), τ) := by unfold oConst; simp only [tvF, eq_true c2, eq_true c4, eq_true c5, eq_false c6, eq_true c8, eq_false c9, nI_clamp (show j3 < 2 ^ 31 by omega), not_true, not_false_iff, not_true_eq_false, not_false_eq_true, true_or, or_true, false_or, or_false, or_self, and_self, true_and, and_true, false_and, and_false, if_true, if_false]; try rfl
              exact mu_iret (v0 := (-14)) (z := (su σ 0 (0) (0), τ)) hx hb hr hlocks hP hD hS dX8_constant_75 (by rw [ho]) (by rw [ho])
    · -- 22 not
      refine lv_bipush (v := -12) hx hb dX8_constant_25 (by decide) ?_
      have ho : oConst σ τ k (nI j3) v = ((-12), su σ 0 (0) (0), τ) := by unfold oConst; simp only [tvF, eq_true c2, eq_false c4, nI_clamp (show j3 < 2 ^ 31 by omega), not_true, not_false_iff, not_true_eq_false, not_false_eq_true, true_or, or_true, false_or, or_false, or_self, and_self, true_and, and_true, false_and, and_false, if_true, if_false]; try rfl
      exact mu_iret (v0 := (-12)) (z := (su σ 0 (0) (0), τ)) hx hb hr hlocks hP hD hS dX8_constant_27 (by rw [ho]) (by rw [ho])
  · -- 10 not
    have c2 := bI_0 c2
    refine lv_bipush (v := -11) hx hb dX8_constant_13 (by decide) ?_
    have ho : oConst σ τ k en v = ((-11), su σ 0 (0) (0), τ) := by unfold oConst; simp only [tvF, eq_false c2, not_true, not_false_iff, not_true_eq_false, not_false_eq_true, true_or, or_true, false_or, or_false, or_self, and_self, true_and, and_true, false_and, and_false, if_true, if_false]; try rfl
    exact mu_iret (v0 := (-11)) (z := (su σ 0 (0) (0), τ)) hx hb hr hlocks hP hD hS dX8_constant_15 (by rw [ho]) (by rw [ho])
