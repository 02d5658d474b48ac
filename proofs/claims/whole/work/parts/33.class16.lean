-- the exceptions that the class throws, and what they need
abbrev EA : String := "java/lang/ArrayIndexOutOfBoundsException"
abbrev EC : String := "java/lang/ClassCastException"
abbrev nmA : List String := ["java/lang/IndexOutOfBoundsException", "java/lang/RuntimeException", "java/lang/Exception"]
abbrev nmC : List String := ["java/lang/RuntimeException", "java/lang/Exception"]
def XS (sa : Nat → Nat) (U : State) : Prop := va_Nw (.declares (Bundle.initS "java/lang/IndexOutOfBoundsException")) U ∧ va_Nw (.declares (Bundle.initS "java/lang/RuntimeException")) U ∧ va_Nw (.declares (Bundle.initS "java/lang/Exception")) U ∧ va_Nw (.declares (Bundle.initS Bundle.tN)) U ∧ va_Nw (.castable EA EA) U ∧ va_Nw (.castable EC EC) U ∧ va_Nc EA EC U ∧ vk_R "FieldMember" 132 "no such ENTRY" (sa 0) U ∧ vk_R "FieldMember" 139 "a MEMBER has no CONSTANT" (sa 1) U ∧ vk_R "FieldMember" 218 "a FIELD has no PARAMETERS" (sa 2) U ∧ vk_R "FieldMember" 220 "no such PARAMETER" (sa 3) U
theorem XS.warm {sa : Nat → Nat} {s U : State} (hW : s.WarmedH U.vm) (h : XS sa s) : XS sa U := by
  obtain ⟨h1, h2, h3, h4, h5, h6, h7, h8, h9, h10, h11⟩ := h
  exact ⟨h1.warmD hW, h2.warmD hW, h3.warmD hW, h4.warmD hW, h5.warmC hW, h6.warmC hW, h7.moved hW.alike, h8.warm hW, h9.warm hW, h10.warm hW, h11.warm hW⟩
def XZ (A : Nat → Prop) (U : State) (H : Heap) : Prop := vx_Zq Bundle.tN "UNASSIGNED_STACK" Bundle.steD A U H ∧ vx_Zq Bundle.tN "SUPPRESSED_SENTINEL" Bundle.listD A U H
theorem XZ.moved {A : Nat → Prop} {u U : State} {H : Heap} (hvm : u.vm.Alike U.vm) (h : XZ A u H) : XZ A U H := ⟨h.1.moved hvm, h.2.moved hvm⟩
theorem XZ.kept {A : Nat → Prop} {U : State} {H H1 : Heap} (h : XZ A U H) (hq : ∀ a : Nat, a < H.size → ¬ A a → H1[a]? = H[a]?) : XZ A U H1 := ⟨h.1.kept hq, h.2.kept hq⟩
theorem XZ.narrow {A B : Nat → Prop} {U : State} {H : Heap} (h : XZ A U H) (hAB : ∀ q, B q → A q) : XZ B U H := ⟨h.1.narrow hAB, h.2.narrow hAB⟩
abbrev F0' : Nat → Prop := fun _ => False
theorem LA_ok : ∀ w ∈ (vx_atS "FieldMember" 134 EA nmA).filter goodWord, w ∈ TT := by
  have e : (vx_atS "FieldMember" 134 EA nmA).filter goodWord = ([12, 612, 570, 574, 577, 579, 613, 614, 27, 28, 564, 569, 575, 582, 606, 583, 607, 584, 608, 565, 567, 609, 562, 563, 581, 609, 623, 624, 625, 626, 626, 627, 628, 556, 556, 557, 558, 559, 559, 560, 561, 562, 646, 622, 639, 572, 631, 632, 634, 630, 580, 610, 629] : List Nat).filterMap (fun i => tables_1[i]?) := by decide +kernel
  intro w hw
  have hg := (List.mem_filter.mp hw).2
  rw [e] at hw
  obtain ⟨i, -, hi⟩ := List.mem_filterMap.mp hw
  exact tt_t hi hg
theorem LC_ok : ∀ w ∈ (vx_atS "FieldMember" 141 EC nmC).filter goodWord, w ∈ TT := by
  have e : (vx_atS "FieldMember" 141 EC nmC).filter goodWord = ([12, 612, 570, 574, 577, 579, 613, 614, 27, 28, 564, 569, 575, 582, 606, 583, 607, 584, 608, 565, 567, 609, 562, 563, 581, 609, 553, 554, 555, 556, 556, 557, 558, 559, 559, 560, 561, 562, 649, 552, 605, 573, 589, 591, 595, 587, 580, 610, 585] : List Nat).filterMap (fun i => tables_1[i]?) := by decide +kernel
  intro w hw
  have hg := (List.mem_filter.mp hw).2
  rw [e] at hw
  obtain ⟨i, -, hi⟩ := List.mem_filterMap.mp hw
  exact tt_t hi hg
theorem at_A {args : Array Value} {s : State} {sa : Nat → Nat} (hts : ∀ w ∈ TT, w.before args s = true) (h : XS sa s) : ∀ w ∈ vx_atS "FieldMember" 134 EA nmA, w.before args s = true :=
  vx_hat (B := [.declares (Bundle.initS "java/lang/IndexOutOfBoundsException"), .declares (Bundle.initS "java/lang/RuntimeException"), .declares (Bundle.initS "java/lang/Exception"), .declares (Bundle.initS Bundle.tN), .castable EA EA]) (fun w hw => hts w (LA_ok w hw)) (by decide +kernel) (vx_c (va_Nw.use rfl h.1) (vx_c (va_Nw.use rfl h.2.1) (vx_c (va_Nw.use rfl h.2.2.1) (vx_c (va_Nw.use rfl h.2.2.2.1) (vx_c (va_Nw.use rfl h.2.2.2.2.1) vx_n)))))
theorem at_C {args : Array Value} {s : State} {sa : Nat → Nat} (hts : ∀ w ∈ TT, w.before args s = true) (h : XS sa s) : ∀ w ∈ vx_atS "FieldMember" 141 EC nmC, w.before args s = true :=
  vx_hat (B := [.declares (Bundle.initS "java/lang/RuntimeException"), .declares (Bundle.initS "java/lang/Exception"), .declares (Bundle.initS Bundle.tN), .castable EC EC]) (fun w hw => hts w (LC_ok w hw)) (by decide +kernel) (vx_c (va_Nw.use rfl h.2.1) (vx_c (va_Nw.use rfl h.2.2.1) (vx_c (va_Nw.use rfl h.2.2.2.1) (vx_c (va_Nw.use rfl h.2.2.2.2.2.1) vx_n))))
theorem gd_A : ∀ w ∈ Cond.classLink "FieldMember" 130 EA :: Cond.initialized EA :: vx_atS "FieldMember" 134 EA nmA, vx_ot w = true := by decide +kernel
theorem gd_C : ∀ w ∈ Cond.classLink "FieldMember" 137 EC :: Cond.initialized EC :: vx_atS "FieldMember" 141 EC nmC, vx_ot w = true := by decide +kernel
/-- a start that names the heap, and what exceptions need -/
abbrev xoP (D : va_G) (G : Nat → ClassId) (sa : Nat → Nat) (H : Heap) (As : List Value) : Array Value → State → Prop := va_Pc As (fun U => U.heap = H ∧ KK D G U ∧ XS sa U ∧ XZ F0' U H)
/-- which exception: by the reference's fault -/
abbrev xoX (fa : Int32) : String → State → State → Prop := vx_X (fun _ : Unit => True) (fun E _ _ => (E = EC ∧ fa = 1) ∨ (E = EA ∧ fa = 2)) F0'
section XV
variable {p : Program} {l : Launch} {e : Env} {R : Room} {s : State} {m : MethodId} {args : Array Value} {below : List Frame} {meth : Method} {c : Code} {H : Heap} {locs : List Loc} {XC : String → State → State → Prop} {mc ms : Nat} {free : Addr → Prop}
variable {cc : ByteArray} {pc : Nat} {ls : Array Slot} {rest : List Value}
theorem vx_lr {v : Int64} {P : Int64 → Prop} (hx : p.tables.exec = Jvm.exec) (hb : c.code = cc) (hr : meth.sig.returnType = some .long) (hH : s.heap = H) (hlocks : meth.locks = false) (hdg : decode cc pc = .ok (.lreturn, 1)) (hp : P v) : W p l e R s m args below meth c H [] 0 0 (vx_MQ below (va_Ql (fun r (_ : Unit) => P r) (fun _ _ => True) F0') XC args s mc ms free) (F0 m pc ls [.long v]) := by
  refine W.widen (k := mc) (n := ms) (Nat.zero_le _) (Nat.zero_le _) (vx_ret ?_)
  exact W.lret hx hb hr (fun t ht _ => ⟨⟨v, (), rfl, hp, trivial⟩, by rw [ht, hH]; exact Nat.le_refl _, fun q _ _ => by rw [ht, hH]⟩) (fun _ h => nomatch h) hdg hlocks
theorem vx_ir {v : Int32} {P : Int32 → Prop} (hx : p.tables.exec = Jvm.exec) (hb : c.code = cc) (hr : meth.sig.returnType = some .int) (hH : s.heap = H) (hlocks : meth.locks = false) (hdg : decode cc pc = .ok (.ireturn, 1)) (hp : P v) : W p l e R s m args below meth c H [] 0 0 (vx_MQ below (va_Qi (fun r (_ : Unit) => P r) (fun _ _ => True) F0') XC args s mc ms free) (F0 m pc ls [.int v]) := by
  refine W.widen (k := mc) (n := ms) (Nat.zero_le _) (Nat.zero_le _) (vx_ret ?_)
  exact W.iret hx hb hr (fun t ht _ => ⟨⟨v, (), rfl, hp, trivial⟩, by rw [ht, hH]; exact Nat.le_refl _, fun q _ _ => by rw [ht, hH]⟩) (fun _ h => nomatch h) hdg hlocks
variable {Qc : Array Value → State → Outcome → State → Prop} {sa : Nat → Nat} {tx : String} {is i4 : Nat}
theorem th_A {fa : Int32} (hx : p.tables.exec = Jvm.exec) (hb : c.code = cc) (hst : l.stackTraces = false) (hown : s.vm.findClass "FieldMember" = some m.cls) (q1 : Cond.classLink "FieldMember" 130 EA ∈ TT) (q2 : Cond.initialized EA ∈ TT) (hts : ∀ w ∈ TT, w.before args s = true) (hXS : XS sa s) (hXZ : XZ F0' s H) (hH : s.heap = H) (hstr : vk_R "FieldMember" is tx (sa i4) s) (hsize : ls.size = c.maxLocals)
    (d0 : decode cc pc = .ok (.new 130, 3)) (d3 : decode cc (pc + 3) = .ok (.dup, 1)) (d4 : decode cc (pc + 4) = .ok (.ldc is, 2)) (d6 : decode cc (pc + 6) = .ok (.invokespecial 134, 3)) (d9 : decode cc (pc + 9) = .ok (.athrow, 1)) (hnt : ∀ x ∈ c.exceptionTable.toList, False)
    (hR1 : 6 < R.frames) (hR2 : (rest.map fun v => v.category).sum + 95 ≤ R.locals) (hR3 : 1 ≤ R.cells) (hR4 : 6 ≤ R.slots) (hlocks : meth.locks = false) (hfa : fa = 2) : W p l e R s m args below meth c H [] 0 0 (vx_MQ below Qc (xoX fa) args s 1 6 free) (F0 m pc ls rest) := by
  subst hH
  exact vx_throwS (names := nmA) (text := tx) (sa := sa i4) (A := F0') hx hb hst hown (by decide +kernel) (by decide +kernel) (hts _ q1) (hts _ q2) hstr (at_A hts hXS) gd_A hXZ.1 hXZ.2 va_S.rf hsize d0 d3 d4 d6 d9 (fun x hx => (hnt x hx).elim) hR1 hR2 (by omega) (by omega) hlocks (fun t _ hz hq => ⟨(), trivial, Or.inr ⟨rfl, hfa⟩, hz, fun q h _ => hq q h⟩) (fun _ h => nomatch h) (by omega) (by omega)
theorem th_C {fa : Int32} (hx : p.tables.exec = Jvm.exec) (hb : c.code = cc) (hst : l.stackTraces = false) (hown : s.vm.findClass "FieldMember" = some m.cls) (q1 : Cond.classLink "FieldMember" 137 EC ∈ TT) (q2 : Cond.initialized EC ∈ TT) (hts : ∀ w ∈ TT, w.before args s = true) (hXS : XS sa s) (hXZ : XZ F0' s H) (hH : s.heap = H) (hstr : vk_R "FieldMember" is tx (sa i4) s) (hsize : ls.size = c.maxLocals)
    (d0 : decode cc pc = .ok (.new 137, 3)) (d3 : decode cc (pc + 3) = .ok (.dup, 1)) (d4 : decode cc (pc + 4) = .ok (.ldc is, 2)) (d6 : decode cc (pc + 6) = .ok (.invokespecial 141, 3)) (d9 : decode cc (pc + 9) = .ok (.athrow, 1)) (hnt : ∀ x ∈ c.exceptionTable.toList, False)
    (hR1 : 6 < R.frames) (hR2 : (rest.map fun v => v.category).sum + 95 ≤ R.locals) (hR3 : 1 ≤ R.cells) (hR4 : 6 ≤ R.slots) (hlocks : meth.locks = false) (hfa : fa = 1) : W p l e R s m args below meth c H [] 0 0 (vx_MQ below Qc (xoX fa) args s 1 6 free) (F0 m pc ls rest) := by
  subst hH
  exact vx_throwS (names := nmC) (text := tx) (sa := sa i4) (A := F0') hx hb hst hown (by decide +kernel) (by decide +kernel) (hts _ q1) (hts _ q2) hstr (at_C hts hXS) gd_C hXZ.1 hXZ.2 va_S.rf hsize d0 d3 d4 d6 d9 (fun x hx => (hnt x hx).elim) (by show 2 + 3 < R.frames; omega) (by show _ + (13 * 3 + 43) ≤ R.locals; omega) (by omega) (by omega) hlocks (fun t _ hz hq => ⟨(), trivial, Or.inl ⟨rfl, hfa⟩, hz, fun q h _ => hq q h⟩) (fun _ h => nomatch h) (by omega) (by omega)
end XV

theorem dX7_value_0 : decode cX7_value 0 = .ok (.aload_n 0, 1) := by decide +kernel
theorem dX7_value_1 : decode cX7_value 1 = .ok (.iload_n 1, 1) := by decide +kernel
theorem dX7_value_2 : decode cX7_value 2 = .ok (.invokevirtual 105, 3) := by decide +kernel
theorem dX7_value_5 : decode cX7_value 5 = .ok (.astore_n 2, 1) := by decide +kernel
theorem dX7_value_6 : decode cX7_value 6 = .ok (.aload_n 2, 1) := by decide +kernel
theorem dX7_value_7 : decode cX7_value 7 = .ok (.ifnonnull 13, 3) := by decide +kernel
theorem dX7_value_20 : decode cX7_value 20 = .ok (.aload_n 2, 1) := by decide +kernel
theorem dX7_value_21 : decode cX7_value 21 = .ok (.instanceof 96, 3) := by decide +kernel
theorem dX7_value_24 : decode cX7_value 24 = .ok (.ifCond .eq 11, 3) := by decide +kernel
theorem dX7_value_35 : decode cX7_value 35 = .ok (.new 137, 3) := by decide +kernel
theorem dX7_value_38 : decode cX7_value 38 = .ok (.dup, 1) := by decide +kernel
theorem dX7_value_39 : decode cX7_value 39 = .ok (.ldc 139, 2) := by decide +kernel
theorem dX7_value_41 : decode cX7_value 41 = .ok (.invokespecial 141, 3) := by decide +kernel
theorem dX7_value_44 : decode cX7_value 44 = .ok (.athrow, 1) := by decide +kernel
theorem q_647 : Cond.classLink "FieldMember" 137 "java/lang/ClassCastException" ∈ TT := tt_t (i := 647) (by decide +kernel) (by decide +kernel)
theorem q_15 : Cond.initialized "java/lang/ClassCastException" ∈ TT := tt_t (i := 15) (by decide +kernel) (by decide +kernel)
theorem dX7_value_27 : decode cX7_value 27 = .ok (.aload_n 2, 1) := by decide +kernel
theorem dX7_value_28 : decode cX7_value 28 = .ok (.checkcast 96, 3) := by decide +kernel
theorem dX7_value_31 : decode cX7_value 31 = .ok (.astore_n 3, 1) := by decide +kernel
theorem dX7_value_32 : decode cX7_value 32 = .ok (.goto 13, 3) := by decide +kernel
theorem dX7_value_45 : decode cX7_value 45 = .ok (.aload_n 3, 1) := by decide +kernel
theorem dX7_value_46 : decode cX7_value 46 = .ok (.getfield 109, 3) := by decide +kernel
theorem dX7_value_49 : decode cX7_value 49 = .ok (.ifCond .eq 17, 3) := by decide +kernel
theorem dX7_value_66 : decode cX7_value 66 = .ok (.lconst 0, 1) := by decide +kernel
theorem dX7_value_67 : decode cX7_value 67 = .ok (.lreturn, 1) := by decide +kernel
theorem dX7_value_52 : decode cX7_value 52 = .ok (.aload_n 3, 1) := by decide +kernel
theorem dX7_value_53 : decode cX7_value 53 = .ok (.getfield 117, 3) := by decide +kernel
theorem dX7_value_56 : decode cX7_value 56 = .ok (.aload_n 3, 1) := by decide +kernel
theorem dX7_value_57 : decode cX7_value 57 = .ok (.getfield 126, 3) := by decide +kernel
theorem q_650 : Cond.methodLink "FieldMember" 142 ⟨"FieldMember$Constants", "asLong", "(IJ)J"⟩ ∈ TT := tt_t (i := 650) (by decide +kernel) (by decide +kernel)
theorem q_652 : Cond.code ⟨"FieldMember$Constants", "asLong", "(IJ)J"⟩ prog_2_method_3_code 5 (some .long) ∈ TT := tt_t (i := 652) (by decide +kernel) (by decide +kernel)
theorem q_651 : Cond.static ⟨"FieldMember$Constants", "asLong", "(IJ)J"⟩ ∈ TT := tt_t (i := 651) (by decide +kernel) (by decide +kernel)
theorem gS_X7_X0_asLong : GoodIn TT (va_wsS RX7 142 yX0_asLong (ww yX0_asLong cX0_asLong 5 (some .long))) := tt_S q_650 q_651 q_9 q_652
theorem hdS_X0_asLong : yX0_asLong.cls ≠ "java/lang/invoke/MethodHandle" ∧ yX0_asLong.cls ≠ "java/lang/invoke/VarHandle" ∧ (parseMethodDescriptor yX0_asLong.desc).map (fun d => d.parameters.length) = some 2 := by decide +kernel
theorem dX7_value_60 : decode cX7_value 60 = .ok (.invokestatic 142, 3) := by decide +kernel
theorem dX7_value_63 : decode cX7_value 63 = .ok (.goto 4, 3) := by decide +kernel
theorem dX7_value_10 : decode cX7_value 10 = .ok (.new 130, 3) := by decide +kernel
theorem dX7_value_13 : decode cX7_value 13 = .ok (.dup, 1) := by decide +kernel
theorem dX7_value_14 : decode cX7_value 14 = .ok (.ldc 132, 2) := by decide +kernel
theorem dX7_value_16 : decode cX7_value 16 = .ok (.invokespecial 134, 3) := by decide +kernel
theorem dX7_value_19 : decode cX7_value 19 = .ok (.athrow, 1) := by decide +kernel
theorem q_644 : Cond.classLink "FieldMember" 130 "java/lang/ArrayIndexOutOfBoundsException" ∈ TT := tt_t (i := 644) (by decide +kernel) (by decide +kernel)
theorem q_18 : Cond.initialized "java/lang/ArrayIndexOutOfBoundsException" ∈ TT := tt_t (i := 18) (by decide +kernel) (by decide +kernel)
theorem rk_pk {σ : MS} {c e : Nat} {i : Int32} (h : okN (mnE σ e) i) (h5 : mnE σ e ≤ 5) : rkF (pkF σ c e) (mnE σ e) i = σ c (5 * e + i.toNatClampNeg) := by
  obtain ⟨j, hj, rfl⟩ := okN_ex (by omega) h
  rw [rkF_n h5 hj, pkF_n hj, nI_clamp (by omega)]
theorem dX7_parameterOf_0 : decode cX7_parameterOf 0 = .ok (.aload_n 0, 1) := by decide +kernel
theorem dX7_parameterOf_1 : decode cX7_parameterOf 1 = .ok (.iload_n 1, 1) := by decide +kernel
theorem dX7_parameterOf_2 : decode cX7_parameterOf 2 = .ok (.invokevirtual 105, 3) := by decide +kernel
theorem dX7_parameterOf_5 : decode cX7_parameterOf 5 = .ok (.astore 4, 2) := by decide +kernel
theorem dX7_parameterOf_7 : decode cX7_parameterOf 7 = .ok (.aload 4, 2) := by decide +kernel
theorem dX7_parameterOf_9 : decode cX7_parameterOf 9 = .ok (.ifnonnull 13, 3) := by decide +kernel
theorem dX7_parameterOf_22 : decode cX7_parameterOf 22 = .ok (.aload 4, 2) := by decide +kernel
theorem dX7_parameterOf_24 : decode cX7_parameterOf 24 = .ok (.instanceof 160, 3) := by decide +kernel
theorem dX7_parameterOf_27 : decode cX7_parameterOf 27 = .ok (.ifCond .eq 13, 3) := by decide +kernel
theorem dX7_parameterOf_40 : decode cX7_parameterOf 40 = .ok (.new 137, 3) := by decide +kernel
theorem dX7_parameterOf_43 : decode cX7_parameterOf 43 = .ok (.dup, 1) := by decide +kernel
theorem dX7_parameterOf_44 : decode cX7_parameterOf 44 = .ok (.ldc 218, 2) := by decide +kernel
theorem dX7_parameterOf_46 : decode cX7_parameterOf 46 = .ok (.invokespecial 141, 3) := by decide +kernel
theorem dX7_parameterOf_49 : decode cX7_parameterOf 49 = .ok (.athrow, 1) := by decide +kernel
theorem dX7_parameterOf_30 : decode cX7_parameterOf 30 = .ok (.aload 4, 2) := by decide +kernel
theorem dX7_parameterOf_32 : decode cX7_parameterOf 32 = .ok (.checkcast 160, 3) := by decide +kernel
theorem dX7_parameterOf_35 : decode cX7_parameterOf 35 = .ok (.astore 5, 2) := by decide +kernel
theorem dX7_parameterOf_37 : decode cX7_parameterOf 37 = .ok (.goto 13, 3) := by decide +kernel
theorem dX7_parameterOf_50 : decode cX7_parameterOf 50 = .ok (.aload 5, 2) := by decide +kernel
theorem dX7_parameterOf_52 : decode cX7_parameterOf 52 = .ok (.getfield 171, 3) := by decide +kernel
theorem dX7_parameterOf_55 : decode cX7_parameterOf 55 = .ok (.astore 6, 2) := by decide +kernel
theorem dX7_parameterOf_57 : decode cX7_parameterOf 57 = .ok (.iload_n 2, 1) := by decide +kernel
theorem dX7_parameterOf_58 : decode cX7_parameterOf 58 = .ok (.ifCond .lt 12, 3) := by decide +kernel
theorem dX7_parameterOf_70 : decode cX7_parameterOf 70 = .ok (.new 130, 3) := by decide +kernel
theorem dX7_parameterOf_73 : decode cX7_parameterOf 73 = .ok (.dup, 1) := by decide +kernel
theorem dX7_parameterOf_74 : decode cX7_parameterOf 74 = .ok (.ldc 220, 2) := by decide +kernel
theorem dX7_parameterOf_76 : decode cX7_parameterOf 76 = .ok (.invokespecial 134, 3) := by decide +kernel
theorem dX7_parameterOf_79 : decode cX7_parameterOf 79 = .ok (.athrow, 1) := by decide +kernel
theorem dX7_parameterOf_61 : decode cX7_parameterOf 61 = .ok (.iload_n 2, 1) := by decide +kernel
theorem dX7_parameterOf_62 : decode cX7_parameterOf 62 = .ok (.aload 6, 2) := by decide +kernel
theorem dX7_parameterOf_64 : decode cX7_parameterOf 64 = .ok (.getfield 212, 3) := by decide +kernel
theorem dX7_parameterOf_67 : decode cX7_parameterOf 67 = .ok (.if_icmp .lt 13, 3) := by decide +kernel
theorem dX7_parameterOf_80 : decode cX7_parameterOf 80 = .ok (.iload_n 3, 1) := by decide +kernel
theorem dX7_parameterOf_81 : decode cX7_parameterOf 81 = .ok (.ifCond .eq 12, 3) := by decide +kernel
theorem dX7_parameterOf_93 : decode cX7_parameterOf 93 = .ok (.aload 6, 2) := by decide +kernel
theorem dX7_parameterOf_95 : decode cX7_parameterOf 95 = .ok (.iload_n 2, 1) := by decide +kernel
theorem dX7_parameterOf_96 : decode cX7_parameterOf 96 = .ok (.invokevirtual 225, 3) := by decide +kernel
theorem dX7_parameterOf_99 : decode cX7_parameterOf 99 = .ok (.ireturn, 1) := by decide +kernel
theorem dX7_parameterOf_84 : decode cX7_parameterOf 84 = .ok (.aload 6, 2) := by decide +kernel
theorem dX7_parameterOf_86 : decode cX7_parameterOf 86 = .ok (.iload_n 2, 1) := by decide +kernel
theorem dX7_parameterOf_87 : decode cX7_parameterOf 87 = .ok (.invokevirtual 222, 3) := by decide +kernel
theorem dX7_parameterOf_90 : decode cX7_parameterOf 90 = .ok (.goto 9, 3) := by decide +kernel
theorem dX7_parameterOf_12 : decode cX7_parameterOf 12 = .ok (.new 130, 3) := by decide +kernel
theorem dX7_parameterOf_15 : decode cX7_parameterOf 15 = .ok (.dup, 1) := by decide +kernel
theorem dX7_parameterOf_16 : decode cX7_parameterOf 16 = .ok (.ldc 132, 2) := by decide +kernel
theorem dX7_parameterOf_18 : decode cX7_parameterOf 18 = .ok (.invokespecial 134, 3) := by decide +kernel
theorem dX7_parameterOf_21 : decode cX7_parameterOf 21 = .ok (.athrow, 1) := by decide +kernel
set_option maxHeartbeats 800000 in
set_option maxRecDepth 100000 in
theorem c_value (l : Launch) (D : va_G) (G : Nat → ClassId) (H : Heap) (ca : Nat → Nat) (bg : Value) (ea : Nat → Nat → Nat) (n k w0 : Nat) (σ x : MS) (κ : Nat → Int64) (hP : va_P D vwCl (cF G ca bg (enF ea k) σ x) H) (hE : ∀ e, e < k → va_P D vwCl (eW G (ea e) σ κ e) H) (hI : cI σ x n k w0) (hst : l.stackTraces = false) (sa : Nat → Nat) (en : Int32) (τ : Nat → Int64) (hV : TV σ τ κ k) : vx_Met l yX7_value (ww yX7_value cX7_value 4 (some .long)) (rmC 8 1 6) (xoP D G sa H [.ref ((ca 0)), .int en]) (va_Ql (fun r (_ : Unit) => (oValue σ τ k en).2.1 0 0 = 0 ∧ r = (oValue σ τ k en).1) (fun _ _ => True) F0') (xoX ((oValue σ τ k en).2.1 0 0)) 1 6 F0' := by
  refine vx_ofW (cc := cX7_value) (maxL := 4) (ret := (some .long)) (by decide) rfl ?_
  intro p e s m args below meth c s₁ B hml hnt hv
  obtain ⟨rfl, hH, hK, hXS, hXZ⟩ := hv
  have hx := B.exec
  have hb := B.bytes
  have hr := B.returns
  have hts : ∀ w ∈ TT, w.before _ s = true := fun w h => atoms_spec (ws := ww yX7_value cX7_value 4 (some .long)) B.pre w (List.mem_cons_of_mem _ h)
  have hown : s.vm.findClass RX7 = some m.cls := findClass_of_methodNamed B.named
  have hlocks := B.notSynchronized
  rw [hH]
  have hI0 := hI
  obtain ⟨h1, hn, h7, hk60, h22, hw, hab, hfa, hmi, hak, hrf⟩ := hI
  have hl := lv_entry ([.ref ((ca 0)), .int en]) (n := 4) (Nat.le_of_ble_eq_true rfl)
  rw [lg_entry_eq]
  generalize (lg_sl ([.ref ((ca 0)), .int en]) ++ List.replicate (4 - (lg_sl ([.ref ((ca 0)), .int en])).length) Slot.unset).toArray = ls at hl ⊢
  have hl : lv_has ls 4 [(0, .ref ((ca 0))), (1, .int en)] := hl
  refine lv_aload_n hx hb dX7_value_0 rfl (lv_at hl 0 rfl) ?_
  refine lv_iload_n hx hb dX7_value_1 rfl (lv_at hl 1 rfl) ?_
  refine ro_Vq (D := D) (G := G) (As := [.int en]) (rest := []) ⟨hx, hb, hml, hown, hts⟩ (c_entryAt l D G _ ca _ ea n k w0 σ x κ hP hE hI0 en) gV_X7_X7_entryAt hdV_X7_entryAt ⟨Nat.le_of_ble_eq_true rfl, Nat.le_of_ble_eq_true rfl⟩ hK (va_recv hK.1 hP (ci := 7) (q0 := 0) rfl rfl) rfl hl.1 rfl (Nat.le_of_ble_eq_true rfl) dX7_value_2 ⟨Nat.le_of_ble_eq_true rfl, Nat.le_of_ble_eq_true rfl⟩ (fun r1 e_r1 => ?_)
  subst e_r1
  by_cases ce2 : okN k en
  · -- entry: True
    obtain ⟨j3, h_j3, rfl⟩ := okN_ex (by omega) ce2
    refine W.eq (g2 := F0 m 5 ls (.ref (ea j3 0) :: [])) (congrArg (fun z9 => F0 m 5 ls (va_rf z9 :: [])) (eaF_t h_j3 hk60)) ?_
    refine lv_astore_n (lv' := [(2, .ref ((ea j3 0))), (0, .ref ((ca 0))), (1, .int (nI j3))]) hx hb dX7_value_5 rfl hl (by decide) rfl (fun ls hl => ?_)
    refine lv_aload_n hx hb dX7_value_6 rfl (lv_at hl 0 rfl) ?_
    refine lv_ifnonnull (tgt := 20) hx hb dX7_value_7 (by decide) ?_
    refine lv_aload_n hx hb dX7_value_20 rfl (lv_at hl 0 rfl) ?_
    refine inst_f hx hb hown (hts _ q_203) hK (hE j3 (by omega)) dX7_value_21 ?_
    refine lv_if_eq (tgt := 35) hx hb dX7_value_24 (by decide) (fun c4 => ?_) (fun c4 => ?_)
    · -- 24 taken
      have c4 := bI_0 c4
      exact th_C hx hb hst hown q_647 q_15 hts hXS hXZ hH hXS.2.2.2.2.2.2.2.2.1 (by rw [hml]; exact hl.1) dX7_value_35 dX7_value_38 dX7_value_39 dX7_value_41 dX7_value_44 hnt (Nat.le_of_ble_eq_true rfl) (Nat.le_of_ble_eq_true rfl) (Nat.le_of_ble_eq_true rfl) (Nat.le_of_ble_eq_true rfl) hlocks (by simp only [oValue, eq_true ce2, eq_false c4, nI_clamp (show j3 < 2 ^ 31 by omega), not_true, not_false_iff, not_true_eq_false, not_false_eq_true, true_or, or_true, false_or, or_false, or_self, and_self, true_and, and_true, false_and, and_false, if_true, if_false]; rfl)
    · -- 24 not
      have c4 := bI_1 c4
      refine lv_aload_n hx hb dX7_value_27 rfl (lv_at hl 0 rfl) ?_
      have hF_j3 := eW_f (hE j3 (by omega)) c4
      have hmi_j3 := hmi j3 (by omega)
      have ht_j3 := hmi_j3.1.2
      have hz_j3 := hmi_j3.2.1.2
      refine va_castY (C := RX2) hx hb hown (hts _ q_203) hK.2.1 (va_recv hK.1 hF_j3 (ci := 3) (q0 := 0) rfl rfl) dX7_value_28 ?_
      refine lv_astore_n (lv' := [(3, .ref ((ea j3 0))), (2, .ref ((ea j3 0))), (0, .ref ((ca 0))), (1, .int (nI j3))]) hx hb dX7_value_31 rfl hl (by decide) rfl (fun ls hl => ?_)
      refine lv_goto (tgt := 45) hx hb dX7_value_32 (by decide) ?_
      refine lv_aload_n hx hb dX7_value_45 rfl (lv_at hl 0 rfl) ?_
      refine va_get (D := D) (ci := 3) (v := .int (σ 14 j3)) (C := RX2) (T := TX2) (N := 7) hx hb hts iX2 hown hK.1 hF_j3 0 rfl rfl 5 (by decide) (hts _ q_216) (fun _ h9 => h9) rfl dX7_value_46 ?_
      refine lv_if_eq (tgt := 66) hx hb dX7_value_49 (by decide) (fun c5 => ?_) (fun c5 => ?_)
      · -- 49 taken
        refine lv_lconst (v := 0) hx hb dX7_value_66 (by decide) ?_
        exact vx_lr (v := 0) hx hb hr hH hlocks dX7_value_67 (⟨by simp only [oValue, eq_true ce2, eq_true c4, eq_true c5, nI_clamp (show j3 < 2 ^ 31 by omega), not_true, not_false_iff, not_true_eq_false, not_false_eq_true, true_or, or_true, false_or, or_false, or_self, and_self, true_and, and_true, false_and, and_false, if_true, if_false]; rfl, by simp only [oValue, eq_true ce2, eq_true c4, eq_true c5, nI_clamp (show j3 < 2 ^ 31 by omega), not_true, not_false_iff, not_true_eq_false, not_false_eq_true, true_or, or_true, false_or, or_false, or_self, and_self, true_and, and_true, false_and, and_false, if_true, if_false]⟩)
      · -- 49 not
        refine lv_aload_n hx hb dX7_value_52 rfl (lv_at hl 0 rfl) ?_
        refine va_get (D := D) (ci := 3) (v := .int (σ 11 j3)) (C := RX2) (T := TX2) (N := 7) hx hb hts iX2 hown hK.1 hF_j3 0 rfl rfl 2 (by decide) (hts _ q_230) (fun x9 h9 => u_same (hts _ q_229) x9 h9) rfl dX7_value_53 ?_
        refine lv_aload_n hx hb dX7_value_56 rfl (lv_at hl 0 rfl) ?_
        refine va_get (D := D) (ci := 3) (v := .long (κ j3)) (C := RX2) (T := TX2) (N := 7) hx hb hts iX2 hown hK.1 hF_j3 0 rfl rfl 6 (by decide) (hts _ q_217) (fun _ h9 => h9) rfl dX7_value_57 ?_
        refine ro_Sl (D := D) (G := G) (As := [.int (σ 11 j3), .long (κ j3)]) (rest := []) ⟨hx, hb, hml, hown, hts⟩ (c_asLong l D G _ (σ 11 j3) (κ j3)) gS_X7_X0_asLong hdS_X0_asLong ⟨Nat.le_of_ble_eq_true rfl, Nat.le_of_ble_eq_true rfl⟩ hK rfl hl.1 rfl (Nat.le_of_ble_eq_true rfl) dX7_value_60 ⟨Nat.le_of_ble_eq_true rfl, Nat.le_of_ble_eq_true rfl⟩ (fun r6 e_r6 => ?_)
        subst e_r6
        refine lv_goto (tgt := 67) hx hb dX7_value_63 (by decide) ?_
        exact vx_lr (v := alF (σ 11 j3) (κ j3)) hx hb hr hH hlocks dX7_value_67 (⟨by simp only [oValue, eq_true ce2, eq_true c4, eq_false c5, nI_clamp (show j3 < 2 ^ 31 by omega), not_true, not_false_iff, not_true_eq_false, not_false_eq_true, true_or, or_true, false_or, or_false, or_self, and_self, true_and, and_true, false_and, and_false, if_true, if_false]; rfl, by simp only [oValue, eq_true ce2, eq_true c4, eq_false c5, nI_clamp (show j3 < 2 ^ 31 by omega), not_true, not_false_iff, not_true_eq_false, not_false_eq_true, true_or, or_true, false_or, or_false, or_self, and_self, true_and, and_true, false_and, and_false, if_true, if_false]; rw [al_tv]; exact (hV j3 (by omega) c4 c5).symm⟩)
  · -- entry: False
    refine W.eq (g2 := F0 m 5 ls (.null :: [])) (congrArg (fun z9 => F0 m 5 ls (va_rf z9 :: [])) (eaF_f ce2)) ?_
    refine lv_astore_nN (lv' := [(2, .null), (0, .ref ((ca 0))), (1, .int en)]) hx hb dX7_value_5 rfl hl (by decide) rfl (fun ls hl => ?_)
    refine lv_aload_nN hx hb dX7_value_6 rfl (lv_at hl 0 rfl) ?_
    refine lv_ifnonnullN hx hb dX7_value_7 ?_
    exact th_A hx hb hst hown q_644 q_18 hts hXS hXZ hH hXS.2.2.2.2.2.2.2.1 (by rw [hml]; exact hl.1) dX7_value_10 dX7_value_13 dX7_value_14 dX7_value_16 dX7_value_19 hnt (Nat.le_of_ble_eq_true rfl) (Nat.le_of_ble_eq_true rfl) (Nat.le_of_ble_eq_true rfl) (Nat.le_of_ble_eq_true rfl) hlocks (by simp only [oValue, eq_false ce2, not_true, not_false_iff, not_true_eq_false, not_false_eq_true, true_or, or_true, false_or, or_false, or_self, and_self, true_and, and_true, false_and, and_false, if_true, if_false]; rfl)
set_option maxHeartbeats 800000 in
set_option maxRecDepth 100000 in
theorem c_parameterOf (l : Launch) (D : va_G) (G : Nat → ClassId) (H : Heap) (ca : Nat → Nat) (bg : Value) (ea : Nat → Nat → Nat) (n k w0 : Nat) (σ x : MS) (κ : Nat → Int64) (hP : va_P D vwCl (cF G ca bg (enF ea k) σ x) H) (hE : ∀ e, e < k → va_P D vwCl (eW G (ea e) σ κ e) H) (hI : cI σ x n k w0) (hst : l.stackTraces = false) (sa : Nat → Nat) (en ii dm : Int32) (τ : Nat → Int64) : vx_Met l yX7_parameterOf (ww yX7_parameterOf cX7_parameterOf 7 (some .int)) (rmC 8 1 6) (xoP D G sa H [.ref ((ca 0)), .int en, .int ii, .int dm]) (va_Qi (fun r (_ : Unit) => (oParOf σ τ k en ii dm).2.1 0 0 = 0 ∧ r = (oParOf σ τ k en ii dm).1) (fun _ _ => True) F0') (xoX ((oParOf σ τ k en ii dm).2.1 0 0)) 1 6 F0' := by
  refine vx_ofW (cc := cX7_parameterOf) (maxL := 7) (ret := (some .int)) (by decide) rfl ?_
  intro p e s m args below meth c s₁ B hml hnt hv
  obtain ⟨rfl, hH, hK, hXS, hXZ⟩ := hv
  have hx := B.exec
  have hb := B.bytes
  have hr := B.returns
  have hts : ∀ w ∈ TT, w.before _ s = true := fun w h => atoms_spec (ws := ww yX7_parameterOf cX7_parameterOf 7 (some .int)) B.pre w (List.mem_cons_of_mem _ h)
  have hown : s.vm.findClass RX7 = some m.cls := findClass_of_methodNamed B.named
  have hlocks := B.notSynchronized
  rw [hH]
  have hI0 := hI
  obtain ⟨h1, hn, h7, hk60, h22, hw, hab, hfa, hmi, hak, hrf⟩ := hI
  have hl := lv_entry ([.ref ((ca 0)), .int en, .int ii, .int dm]) (n := 7) (Nat.le_of_ble_eq_true rfl)
  rw [lg_entry_eq]
  generalize (lg_sl ([.ref ((ca 0)), .int en, .int ii, .int dm]) ++ List.replicate (7 - (lg_sl ([.ref ((ca 0)), .int en, .int ii, .int dm])).length) Slot.unset).toArray = ls at hl ⊢
  have hl : lv_has ls 7 [(0, .ref ((ca 0))), (1, .int en), (2, .int ii), (3, .int dm)] := hl
  refine lv_aload_n hx hb dX7_parameterOf_0 rfl (lv_at hl 0 rfl) ?_
  refine lv_iload_n hx hb dX7_parameterOf_1 rfl (lv_at hl 1 rfl) ?_
  refine ro_Vq (D := D) (G := G) (As := [.int en]) (rest := []) ⟨hx, hb, hml, hown, hts⟩ (c_entryAt l D G _ ca _ ea n k w0 σ x κ hP hE hI0 en) gV_X7_X7_entryAt hdV_X7_entryAt ⟨Nat.le_of_ble_eq_true rfl, Nat.le_of_ble_eq_true rfl⟩ hK (va_recv hK.1 hP (ci := 7) (q0 := 0) rfl rfl) rfl hl.1 rfl (Nat.le_of_ble_eq_true rfl) dX7_parameterOf_2 ⟨Nat.le_of_ble_eq_true rfl, Nat.le_of_ble_eq_true rfl⟩ (fun r1 e_r1 => ?_)
  subst e_r1
  by_cases ce2 : okN k en
  · -- entry: True
    obtain ⟨j3, h_j3, rfl⟩ := okN_ex (by omega) ce2
    refine W.eq (g2 := F0 m 5 ls (.ref (ea j3 0) :: [])) (congrArg (fun z9 => F0 m 5 ls (va_rf z9 :: [])) (eaF_t h_j3 hk60)) ?_
    refine lv_astore (lv' := [(4, .ref ((ea j3 0))), (0, .ref ((ca 0))), (1, .int (nI j3)), (2, .int ii), (3, .int dm)]) hx hb dX7_parameterOf_5 hl (by decide) rfl (fun ls hl => ?_)
    refine lv_aload hx hb dX7_parameterOf_7 (lv_at hl 0 rfl) ?_
    refine lv_ifnonnull (tgt := 22) hx hb dX7_parameterOf_9 (by decide) ?_
    refine lv_aload hx hb dX7_parameterOf_22 (lv_at hl 0 rfl) ?_
    refine inst_m hx hb hown (hts _ q_307) hK (hE j3 (by omega)) dX7_parameterOf_24 ?_
    refine lv_if_eq (tgt := 40) hx hb dX7_parameterOf_27 (by decide) (fun c4 => ?_) (fun c4 => ?_)
    · -- 27 taken
      have c4 := bI_0 c4
      exact th_C hx hb hst hown q_647 q_15 hts hXS hXZ hH hXS.2.2.2.2.2.2.2.2.2.1 (by rw [hml]; exact hl.1) dX7_parameterOf_40 dX7_parameterOf_43 dX7_parameterOf_44 dX7_parameterOf_46 dX7_parameterOf_49 hnt (Nat.le_of_ble_eq_true rfl) (Nat.le_of_ble_eq_true rfl) (Nat.le_of_ble_eq_true rfl) (Nat.le_of_ble_eq_true rfl) hlocks (by simp only [oParOf, eq_true ce2, eq_true (Decidable.of_not_not c4), nI_clamp (show j3 < 2 ^ 31 by omega), not_true, not_false_iff, not_true_eq_false, not_false_eq_true, true_or, or_true, false_or, or_false, or_self, and_self, true_and, and_true, false_and, and_false, if_true, if_false]; rfl)
    · -- 27 not
      have c4 := bI_1 c4
      refine lv_aload hx hb dX7_parameterOf_30 (lv_at hl 0 rfl) ?_
      have hM_j3 := eW_m (hE j3 (by omega)) c4
      have hmi_j3 := mJ_m (hmi j3 (by omega)) c4
      have ht_j3 := hmi_j3.1.2
      have hz_j3 := hmi_j3.2.1.2
      refine va_castY (C := RX3) hx hb hown (hts _ q_307) hK.2.2.1 (va_recv hK.1 hM_j3 (ci := 4) (q0 := 0) rfl rfl) dX7_parameterOf_32 ?_
      refine lv_astore (lv' := [(5, .ref ((ea j3 0))), (4, .ref ((ea j3 0))), (0, .ref ((ca 0))), (1, .int (nI j3)), (2, .int ii), (3, .int dm)]) hx hb dX7_parameterOf_35 hl (by decide) rfl (fun ls hl => ?_)
      refine lv_goto (tgt := 50) hx hb dX7_parameterOf_37 (by decide) ?_
      refine lv_aload hx hb dX7_parameterOf_50 (lv_at hl 0 rfl) ?_
      refine va_get (D := D) (ci := 4) (v := .ref ((ea j3 1))) (C := RX3) (T := TX3) (N := 9) hx hb hts iX3 hown hK.1 hM_j3 0 rfl rfl 6 (by decide) (hts _ q_318) (fun _ h9 => h9) rfl dX7_parameterOf_52 ?_
      refine lv_astore (lv' := [(6, .ref ((ea j3 1))), (5, .ref ((ea j3 0))), (4, .ref ((ea j3 0))), (0, .ref ((ca 0))), (1, .int (nI j3)), (2, .int ii), (3, .int dm)]) hx hb dX7_parameterOf_55 hl (by decide) rfl (fun ls hl => ?_)
      refine lv_iload_n hx hb dX7_parameterOf_57 rfl (lv_at hl 5 rfl) ?_
      refine lv_if_lt (tgt := 70) hx hb dX7_parameterOf_58 (by decide) (fun c5 => ?_) (fun c5 => ?_)
      · -- 58 taken
        exact th_A hx hb hst hown q_644 q_18 hts hXS hXZ hH hXS.2.2.2.2.2.2.2.2.2.2 (by rw [hml]; exact hl.1) dX7_parameterOf_70 dX7_parameterOf_73 dX7_parameterOf_74 dX7_parameterOf_76 dX7_parameterOf_79 hnt (Nat.le_of_ble_eq_true rfl) (Nat.le_of_ble_eq_true rfl) (Nat.le_of_ble_eq_true rfl) (Nat.le_of_ble_eq_true rfl) hlocks (by simp only [oParOf, eq_true ce2, eq_false c4, eq_false (show ¬ okN (mnE σ j3) ii from fun h9 => by have h7 := (okN_def.mp h9).1; have h8 := c5; simp only [i_le, i_lt, Int32.reduceToInt] at h7 h8; omega), nI_clamp (show j3 < 2 ^ 31 by omega), not_true, not_false_iff, not_true_eq_false, not_false_eq_true, true_or, or_true, false_or, or_false, or_self, and_self, true_and, and_true, false_and, and_false, if_true, if_false]; rfl)
      · -- 58 not
        refine lv_iload_n hx hb dX7_parameterOf_61 rfl (lv_at hl 5 rfl) ?_
        refine lv_aload hx hb dX7_parameterOf_62 (lv_at hl 0 rfl) ?_
        refine va_get (D := D) (ci := 5) (v := .int (σ 18 j3)) (C := RX4) (T := TX4) (N := 3) hx hb hts iX4 hown hK.1 hM_j3 1 rfl rfl 2 (by decide) (hts _ q_65) (fun _ h9 => h9) rfl dX7_parameterOf_64 ?_
        refine lv_icmp_lt (tgt := 80) hx hb dX7_parameterOf_67 (by decide) (fun c6 => ?_) (fun c6 => ?_)
        · -- 67 taken
          have hok : okN (mnE σ j3) ii := okN_def.mpr ⟨by have h8 := c5; simp only [i_le, i_lt, Int32.reduceToInt] at h8 ⊢; omega, by have h8 := c6; rw [hmi_j3.2.1.1] at h8; exact h8⟩
          refine lv_iload_n hx hb dX7_parameterOf_80 rfl (lv_at hl 6 rfl) ?_
          refine lv_if_eq (tgt := 93) hx hb dX7_parameterOf_81 (by decide) (fun c7 => ?_) (fun c7 => ?_)
          · -- 81 taken
            refine lv_aload hx hb dX7_parameterOf_93 (lv_at hl 0 rfl) ?_
            refine lv_iload_n hx hb dX7_parameterOf_95 rfl (lv_at hl 5 rfl) ?_
            refine ro_Vi (D := D) (G := G) (As := [.int ii]) (rest := []) ⟨hx, hb, hml, hown, hts⟩ (c_rkindAt l D G _ _ _ _ _ _ (mnE σ j3) hmi_j3.2.1.2 (mb_row hM_j3 hmi_j3.2.1) ii) gV_X7_X4_kindAt hdV_X4_kindAt ⟨Nat.le_of_ble_eq_true rfl, Nat.le_of_ble_eq_true rfl⟩ hK (va_recv hK.1 hM_j3 (ci := 5) (q0 := 1) rfl rfl) rfl hl.1 rfl (Nat.le_of_ble_eq_true rfl) dX7_parameterOf_96 ⟨Nat.le_of_ble_eq_true rfl, Nat.le_of_ble_eq_true rfl⟩ (fun r8 e_r8 => ?_)
            subst e_r8
            exact vx_ir (v := rkF (pkF σ 19 j3) (mnE σ j3) ii) hx hb hr hH hlocks dX7_parameterOf_99 (⟨by simp only [oParOf, eq_true ce2, eq_false c4, eq_true hok, eq_true c7, nI_clamp (show j3 < 2 ^ 31 by omega), not_true, not_false_iff, not_true_eq_false, not_false_eq_true, true_or, or_true, false_or, or_false, or_self, and_self, true_and, and_true, false_and, and_false, if_true, if_false]; rfl, by simp only [oParOf, eq_true ce2, eq_false c4, eq_true hok, eq_true c7, nI_clamp (show j3 < 2 ^ 31 by omega), not_true, not_false_iff, not_true_eq_false, not_false_eq_true, true_or, or_true, false_or, or_false, or_self, and_self, true_and, and_true, false_and, and_false, if_true, if_false]; exact rk_pk hok (by have := hmi_j3.2.1.2; omega)⟩)
          · -- 81 not
            refine lv_aload hx hb dX7_parameterOf_84 (lv_at hl 0 rfl) ?_
            refine lv_iload_n hx hb dX7_parameterOf_86 rfl (lv_at hl 5 rfl) ?_
            refine ro_Vi (D := D) (G := G) (As := [.int ii]) (rest := []) ⟨hx, hb, hml, hown, hts⟩ (c_rdimsAt l D G _ _ _ _ _ _ (mnE σ j3) hmi_j3.2.1.2 (mb_row hM_j3 hmi_j3.2.1) ii) gV_X7_X4_dimsAt hdV_X4_dimsAt ⟨Nat.le_of_ble_eq_true rfl, Nat.le_of_ble_eq_true rfl⟩ hK (va_recv hK.1 hM_j3 (ci := 5) (q0 := 1) rfl rfl) rfl hl.1 rfl (Nat.le_of_ble_eq_true rfl) dX7_parameterOf_87 ⟨Nat.le_of_ble_eq_true rfl, Nat.le_of_ble_eq_true rfl⟩ (fun r9 e_r9 => ?_)
            subst e_r9
            refine lv_goto (tgt := 99) hx hb dX7_parameterOf_90 (by decide) ?_
            exact vx_ir (v := rkF (pkF σ 20 j3) (mnE σ j3) ii) hx hb hr hH hlocks dX7_parameterOf_99 (⟨by simp only [oParOf, eq_true ce2, eq_false c4, eq_true hok, eq_false c7, nI_clamp (show j3 < 2 ^ 31 by omega), not_true, not_false_iff, not_true_eq_false, not_false_eq_true, true_or, or_true, false_or, or_false, or_self, and_self, true_and, and_true, false_and, and_false, if_true, if_false]; rfl, by simp only [oParOf, eq_true ce2, eq_false c4, eq_true hok, eq_false c7, nI_clamp (show j3 < 2 ^ 31 by omega), not_true, not_false_iff, not_true_eq_false, not_false_eq_true, true_or, or_true, false_or, or_false, or_self, and_self, true_and, and_true, false_and, and_false, if_true, if_false]; exact rk_pk hok (by have := hmi_j3.2.1.2; omega)⟩)
        · -- 67 not
          exact th_A hx hb hst hown q_644 q_18 hts hXS hXZ hH hXS.2.2.2.2.2.2.2.2.2.2 (by rw [hml]; exact hl.1) dX7_parameterOf_70 dX7_parameterOf_73 dX7_parameterOf_74 dX7_parameterOf_76 dX7_parameterOf_79 hnt (Nat.le_of_ble_eq_true rfl) (Nat.le_of_ble_eq_true rfl) (Nat.le_of_ble_eq_true rfl) (Nat.le_of_ble_eq_true rfl) hlocks (by simp only [oParOf, eq_true ce2, eq_false c4, eq_false (show ¬ okN (mnE σ j3) ii from fun h9 => c6 (by rw [hmi_j3.2.1.1]; exact (okN_def.mp h9).2)), nI_clamp (show j3 < 2 ^ 31 by omega), not_true, not_false_iff, not_true_eq_false, not_false_eq_true, true_or, or_true, false_or, or_false, or_self, and_self, true_and, and_true, false_and, and_false, if_true, if_false]; rfl)
  · -- entry: False
    refine W.eq (g2 := F0 m 5 ls (.null :: [])) (congrArg (fun z9 => F0 m 5 ls (va_rf z9 :: [])) (eaF_f ce2)) ?_
    refine lv_astoreN (lv' := [(4, .null), (0, .ref ((ca 0))), (1, .int en), (2, .int ii), (3, .int dm)]) hx hb dX7_parameterOf_5 hl (by decide) rfl (fun ls hl => ?_)
    refine lv_aloadN hx hb dX7_parameterOf_7 (lv_at hl 0 rfl) ?_
    refine lv_ifnonnullN hx hb dX7_parameterOf_9 ?_
    exact th_A hx hb hst hown q_644 q_18 hts hXS hXZ hH hXS.2.2.2.2.2.2.2.1 (by rw [hml]; exact hl.1) dX7_parameterOf_12 dX7_parameterOf_15 dX7_parameterOf_16 dX7_parameterOf_18 dX7_parameterOf_21 hnt (Nat.le_of_ble_eq_true rfl) (Nat.le_of_ble_eq_true rfl) (Nat.le_of_ble_eq_true rfl) (Nat.le_of_ble_eq_true rfl) hlocks (by simp only [oParOf, eq_false ce2, not_true, not_false_iff, not_true_eq_false, not_false_eq_true, true_or, or_true, false_or, or_false, or_self, and_self, true_and, and_true, false_and, and_false, if_true, if_false]; rfl)
