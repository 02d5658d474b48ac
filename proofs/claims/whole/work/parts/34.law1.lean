theorem D_one {A : Nat → Prop} {c : Nat × va_E} (h : A c.1) : va_D A [c] := D_cons.mpr ⟨h, fun _ h => absurd h List.not_mem_nil, ⟨fun i j x y hx => by simp at hx, fun k q h => by simp at h⟩⟩
theorem P_keep {D : va_G} {cl : List vw_C} {ws : va_W} {H H1 : Heap} (hP : va_P D cl ws H) (hk : ∀ q : Nat, q < H.size → ¬ F0' q → H1[q]? = H[q]?) : va_P D cl ws H1 := fun k q hq => (hP k q hq).kept (hk q.1 (hP k q hq).lt (fun h => h))
theorem dL_value_0 : decode cL_value 0 = .ok (.aload_n 2, 1) := by decide +kernel
theorem dL_value_1 : decode cL_value 1 = .ok (.iconst 0, 1) := by decide +kernel
theorem dL_value_2 : decode cL_value 2 = .ok (.aload_n 0, 1) := by decide +kernel
theorem dL_value_3 : decode cL_value 3 = .ok (.iload_n 1, 1) := by decide +kernel
theorem q_640 : Cond.methodLink "FieldMemberLaw" 7 ⟨"FieldMember", "value", "(I)J"⟩ ∈ TT := tt_t (i := 640) (by decide +kernel) (by decide +kernel)
theorem q_643 : Cond.code ⟨"FieldMember", "value", "(I)J"⟩ prog_1_method_7_code 4 (some .long) ∈ TT := tt_t (i := 643) (by decide +kernel) (by decide +kernel)
theorem q_641 : Cond.instanceMethod ⟨"FieldMember", "value", "(I)J"⟩ ∈ TT := tt_t (i := 641) (by decide +kernel) (by decide +kernel)
theorem q_642 : Cond.selects "FieldMember" ⟨"FieldMember", "value", "(I)J"⟩ ⟨"FieldMember", "value", "(I)J"⟩ ∈ TT := tt_t (i := 642) (by decide +kernel) (by decide +kernel)
theorem gV_L_X7_value : GoodIn TT (wsV RL 7 RX7 yX7_value (ww yX7_value cX7_value 4 (some .long))) := tt_V q_640 q_641 q_642 q_1 q_643
theorem hdV_X7_value : yX7_value.cls = RX7 ∧ yX7_value.cls ≠ "java/lang/invoke/MethodHandle" ∧ yX7_value.cls ≠ "java/lang/invoke/VarHandle" ∧ (parseMethodDescriptor yX7_value.desc).map (fun d => d.parameters.length) = some 1 := by decide +kernel
theorem q_551 : Cond.classLink "FieldMemberLaw" 13 "java/lang/ClassCastException" ∈ TT := tt_t (i := 551) (by decide +kernel) (by decide +kernel)
theorem q_621 : Cond.classLink "FieldMemberLaw" 15 "java/lang/ArrayIndexOutOfBoundsException" ∈ TT := tt_t (i := 621) (by decide +kernel) (by decide +kernel)
theorem dL_value_4 : decode cL_value 4 = .ok (.invokevirtual 7, 3) := by decide +kernel
theorem dL_value_11 : decode cL_value 11 = .ok (.astore_n 3, 1) := by decide +kernel
theorem dL_value_12 : decode cL_value 12 = .ok (.iconst 1, 1) := by decide +kernel
theorem dL_value_13 : decode cL_value 13 = .ok (.ireturn, 1) := by decide +kernel
theorem dL_value_14 : decode cL_value 14 = .ok (.astore_n 3, 1) := by decide +kernel
theorem dL_value_15 : decode cL_value 15 = .ok (.iconst 2, 1) := by decide +kernel
theorem dL_value_16 : decode cL_value 16 = .ok (.ireturn, 1) := by decide +kernel
theorem dL_value_7 : decode cL_value 7 = .ok (.lastore, 1) := by decide +kernel
theorem dL_value_8 : decode cL_value 8 = .ok (.goto 9, 3) := by decide +kernel
theorem dL_value_17 : decode cL_value 17 = .ok (.iconst 0, 1) := by decide +kernel
theorem dL_value_18 : decode cL_value 18 = .ok (.ireturn, 1) := by decide +kernel
theorem dL_parameterOf_0 : decode cL_parameterOf 0 = .ok (.aload 4, 2) := by decide +kernel
theorem dL_parameterOf_2 : decode cL_parameterOf 2 = .ok (.iconst 0, 1) := by decide +kernel
theorem dL_parameterOf_3 : decode cL_parameterOf 3 = .ok (.aload_n 0, 1) := by decide +kernel
theorem dL_parameterOf_4 : decode cL_parameterOf 4 = .ok (.iload_n 1, 1) := by decide +kernel
theorem dL_parameterOf_5 : decode cL_parameterOf 5 = .ok (.iload_n 2, 1) := by decide +kernel
theorem dL_parameterOf_6 : decode cL_parameterOf 6 = .ok (.iload_n 3, 1) := by decide +kernel
theorem q_667 : Cond.methodLink "FieldMemberLaw" 17 ⟨"FieldMember", "parameterOf", "(IIZ)I"⟩ ∈ TT := tt_t (i := 667) (by decide +kernel) (by decide +kernel)
theorem q_670 : Cond.code ⟨"FieldMember", "parameterOf", "(IIZ)I"⟩ prog_1_method_13_code 7 (some .int) ∈ TT := tt_t (i := 670) (by decide +kernel) (by decide +kernel)
theorem q_668 : Cond.instanceMethod ⟨"FieldMember", "parameterOf", "(IIZ)I"⟩ ∈ TT := tt_t (i := 668) (by decide +kernel) (by decide +kernel)
theorem q_669 : Cond.selects "FieldMember" ⟨"FieldMember", "parameterOf", "(IIZ)I"⟩ ⟨"FieldMember", "parameterOf", "(IIZ)I"⟩ ∈ TT := tt_t (i := 669) (by decide +kernel) (by decide +kernel)
theorem gV_L_X7_parameterOf : GoodIn TT (wsV RL 17 RX7 yX7_parameterOf (ww yX7_parameterOf cX7_parameterOf 7 (some .int))) := tt_V q_667 q_668 q_669 q_1 q_670
theorem hdV_X7_parameterOf : yX7_parameterOf.cls = RX7 ∧ yX7_parameterOf.cls ≠ "java/lang/invoke/MethodHandle" ∧ yX7_parameterOf.cls ≠ "java/lang/invoke/VarHandle" ∧ (parseMethodDescriptor yX7_parameterOf.desc).map (fun d => d.parameters.length) = some 3 := by decide +kernel
theorem dL_parameterOf_7 : decode cL_parameterOf 7 = .ok (.invokevirtual 17, 3) := by decide +kernel
theorem dL_parameterOf_15 : decode cL_parameterOf 15 = .ok (.astore 5, 2) := by decide +kernel
theorem dL_parameterOf_17 : decode cL_parameterOf 17 = .ok (.iconst 1, 1) := by decide +kernel
theorem dL_parameterOf_18 : decode cL_parameterOf 18 = .ok (.ireturn, 1) := by decide +kernel
theorem dL_parameterOf_19 : decode cL_parameterOf 19 = .ok (.astore 5, 2) := by decide +kernel
theorem dL_parameterOf_21 : decode cL_parameterOf 21 = .ok (.iconst 2, 1) := by decide +kernel
theorem dL_parameterOf_22 : decode cL_parameterOf 22 = .ok (.ireturn, 1) := by decide +kernel
theorem dL_parameterOf_10 : decode cL_parameterOf 10 = .ok (.i2l, 1) := by decide +kernel
theorem dL_parameterOf_11 : decode cL_parameterOf 11 = .ok (.lastore, 1) := by decide +kernel
theorem dL_parameterOf_12 : decode cL_parameterOf 12 = .ok (.goto 11, 3) := by decide +kernel
theorem dL_parameterOf_23 : decode cL_parameterOf 23 = .ok (.iconst 0, 1) := by decide +kernel
theorem dL_parameterOf_24 : decode cL_parameterOf 24 = .ok (.ireturn, 1) := by decide +kernel
set_option maxHeartbeats 800000 in
set_option maxRecDepth 100000 in
theorem c_lvalue (l : Launch) (D : va_G) (G : Nat → ClassId) (H : Heap) (ca : Nat → Nat) (bg : Value) (ea : Nat → Nat → Nat) (n k w0 : Nat) (σ x : MS) (κ : Nat → Int64) (hP : va_P D vwCl (cF G ca bg (enF ea k) σ x) H) (hE : ∀ e, e < k → va_P D vwCl (eW G (ea e) σ κ e) H) (hI : cI σ x n k w0) (hst : l.stackTraces = false) (sa : Nat → Nat) (en : Int32) (τ : Nat → Int64) (hV : TV σ τ κ k) (o : Nat) (f : Nat → Int64) (hPo : va_P D vwCl [(o, .inl (G 1, 1, .inr (.inl f)))] H) : vx_Met l yL_value (.codeWith yL_value cL_value 4 (some .int) [(0, 8, 11, 13), (0, 8, 14, 15)] :: TT) (rmC 9 1 6) (xoP D G sa H [.ref (ca 0), .int en, .ref o]) (va_Qi (fun r (f' : Nat → Int64) => r = (oValue σ τ k en).2.1 0 0 ∧ ((oValue σ τ k en).2.1 0 0 = 0 → f' 0 = (oValue σ τ k en).1)) (fun f' t => va_P D vwCl [(o, .inl (G 1, 1, .inr (.inl f')))] t.heap) (fun q => q = o ∨ H.size ≤ q)) (vx_X (fun _ : Unit => False) (fun _ _ _ => True) F0') 1 6 (fun q => q = o ∨ H.size ≤ q) := by
  refine vx_ofWH (cc := cL_value) (maxL := 4) (ret := some .int) (by decide) rfl ?_
  intro p e s m args below meth c s₁ B hml hv
  obtain ⟨rfl, hH, hK, hXS, hXZ⟩ := hv
  have hx := B.exec
  have hb := B.bytes
  have hr := B.returns
  have hts : ∀ w ∈ TT, w.before _ s = true := fun w h => atoms_spec (ws := .codeWith yL_value cL_value 4 (some .int) [(0, 8, 11, 13), (0, 8, 14, 15)] :: TT) B.pre w (List.mem_cons_of_mem _ h)
  have htab : c.exceptionTable.toList = tableOf [(0, 8, 11, 13), (0, 8, 14, 15)] := vx_table (x := yL_value) B (atoms_spec (ws := .codeWith yL_value cL_value 4 (some .int) [(0, 8, 11, 13), (0, 8, 14, 15)] :: TT) B.pre _ List.mem_cons_self)
  have hown : s.vm.findClass RL = some m.cls := findClass_of_methodNamed B.named
  have hlocks := B.notSynchronized
  have hS : va_S (fun q => q = o ∨ H.size ≤ q) s.heap H [] := by rw [hH]; exact va_S.rf
  rw [hH]
  have hD : va_D (fun q => q = o ∨ H.size ≤ q) [((o, .inl (G 1, 1, .inr (.inl f))) : Nat × va_E)] := D_one (Or.inl rfl)
  have hl := lv_entry ([.ref (ca 0), .int en, .ref o]) (n := 4) (Nat.le_of_ble_eq_true rfl)
  rw [lg_entry_eq]
  generalize (lg_sl ([.ref (ca 0), .int en, .ref o]) ++ List.replicate (4 - (lg_sl ([.ref (ca 0), .int en, .ref o])).length) Slot.unset).toArray = ls at hl ⊢
  have hl : lv_has ls 4 [(0, .ref (ca 0)), (1, .int en), (2, .ref o)] := hl
  refine lv_aload_n hx hb dL_value_0 rfl (lv_at hl 2 rfl) ?_
  refine lv_iconst (v := 0) hx hb dL_value_1 (by decide) ?_
  refine lv_aload_n hx hb dL_value_2 rfl (lv_at hl 0 rfl) ?_
  refine lv_iload_n hx hb dL_value_3 rfl (lv_at hl 1 rfl) ?_
  refine vx_calll (vx_runV (As := [.int en]) (rest := [.int 0, .ref o]) ⟨hx, hb, hml, hown, hts⟩ (c_value l D G H ca _ ea n k w0 σ x κ hP hE hI hst sa en τ hV) (cwV 1 hts gV_L_X7_value rfl rfl rfl hdV_X7_value ⟨(Nat.le_of_ble_eq_true rfl), (Nat.le_of_ble_eq_true rfl)⟩) ⟨fun _ _ _ _ q => q, va_recv hK.1 hP (ci := 7) (q0 := 0) rfl rfl, fun U hU hW => ⟨rfl, hU, hK.warm hW, hXS.warm hW, hXZ.moved hW.alike⟩⟩ rfl rfl hl.1 rfl (lv_room (Nat.le_of_ble_eq_true rfl)) dL_value_4 ⟨(Nat.le_of_ble_eq_true rfl), (Nat.le_of_ble_eq_true rfl)⟩) hS (fun q _ h => h.elim) (fun q h => h.elim) (fun q _ h => h.elim) (fun E ce q9 u t H1 locs1 ht hvm hpx hBX hz hk hS1 hce hcv hcl => ?_) (fun r u t H1 locs1 ht hvm hp hB hz hk hS1 => ?_)
  · have hP1 := P_keep hPo hk
    rcases hBX with ⟨rfl, h1⟩ | ⟨rfl, h1⟩
    · refine vx_catch (own := RL) (name := EC) hown [] ⟨0, 8, 11, 13⟩ [⟨0, 8, 14, 15⟩] (by rw [htab]; rfl) (fun z h => nomatch h) (by decide) (by decide) (hts _ q_551) (va_Nw.use rfl hXS.2.2.2.2.2.1) hce hcv hcl ?_
      refine lv_astore_n (lv' := [(3, .ref q9), (0, .ref (ca 0)), (1, .int en), (2, .ref o)]) hx hb dL_value_11 rfl hl (by decide) rfl (fun ls hl => ?_)
      refine lv_iconst (v := 1) hx hb dL_value_12 (by decide) ?_
      exact vx_ret (W.iret hx hb hr (fun t ht _ => ⟨⟨1, f, rfl, ⟨h1.symm, fun h9 => absurd (h1.symm.trans h9) (by decide)⟩, by show va_P D vwCl _ t.heap; rw [ht]; exact hP1⟩, hS1.F ht⟩) hS1.2.2 dL_value_13 hlocks)
    · refine vx_catch (own := RL) (name := EA) hown [⟨0, 8, 11, 13⟩] ⟨0, 8, 14, 15⟩ [] (by rw [htab]; rfl) (fun z h => by rw [List.mem_singleton.mp h]; exact Or.inr ⟨by decide, EC, hts _ q_551, hXS.2.2.2.2.2.2.1⟩) (by decide) (by decide) (hts _ q_621) (va_Nw.use rfl hXS.2.2.2.2.1) hce hcv hcl ?_
      refine lv_astore_n (lv' := [(3, .ref q9), (0, .ref (ca 0)), (1, .int en), (2, .ref o)]) hx hb dL_value_14 rfl hl (by decide) rfl (fun ls hl => ?_)
      refine lv_iconst (v := 2) hx hb dL_value_15 (by decide) ?_
      exact vx_ret (W.iret hx hb hr (fun t ht _ => ⟨⟨2, f, rfl, ⟨h1.symm, fun h9 => absurd (h1.symm.trans h9) (by decide)⟩, by show va_P D vwCl _ t.heap; rw [ht]; exact hP1⟩, hS1.F ht⟩) hS1.2.2 dL_value_16 hlocks)
  · have hP1 := P_keep hPo hk
    refine last_n hx hb hK.1 hP1 hD hS1 0 1 rfl rfl 0 rfl (by decide) (by decide) dL_value_7 (fun H2 locs2 hP2 hD2 hS2 => ?_)
    refine lv_goto (tgt := 17) hx hb dL_value_8 (by decide) ?_
    refine lv_iconst (v := 0) hx hb dL_value_17 (by decide) ?_
    exact vx_ret (W.iret hx hb hr (fun t ht _ => ⟨⟨0, vp_updL f 0 r, rfl, ⟨hp.1.symm, fun _ => by rw [← hp.2]; exact if_pos rfl⟩, by show va_P D vwCl _ t.heap; rw [ht]; exact hP2⟩, hS2.F ht⟩) hS2.2.2 dL_value_18 hlocks)
set_option maxHeartbeats 800000 in
set_option maxRecDepth 100000 in
theorem c_lparameterOf (l : Launch) (D : va_G) (G : Nat → ClassId) (H : Heap) (ca : Nat → Nat) (bg : Value) (ea : Nat → Nat → Nat) (n k w0 : Nat) (σ x : MS) (κ : Nat → Int64) (hP : va_P D vwCl (cF G ca bg (enF ea k) σ x) H) (hE : ∀ e, e < k → va_P D vwCl (eW G (ea e) σ κ e) H) (hI : cI σ x n k w0) (hst : l.stackTraces = false) (sa : Nat → Nat) (en ii dm : Int32) (τ : Nat → Int64) (o : Nat) (f : Nat → Int64) (hPo : va_P D vwCl [(o, .inl (G 1, 1, .inr (.inl f)))] H) : vx_Met l yL_parameterOf (.codeWith yL_parameterOf cL_parameterOf 6 (some .int) [(0, 12, 15, 13), (0, 12, 19, 15)] :: TT) (rmC 9 1 6) (xoP D G sa H [.ref (ca 0), .int en, .int ii, .int dm, .ref o]) (va_Qi (fun r (f' : Nat → Int64) => r = (oParOf σ τ k en ii dm).2.1 0 0 ∧ ((oParOf σ τ k en ii dm).2.1 0 0 = 0 → f' 0 = (oParOf σ τ k en ii dm).1.toInt64)) (fun f' t => va_P D vwCl [(o, .inl (G 1, 1, .inr (.inl f')))] t.heap) (fun q => q = o ∨ H.size ≤ q)) (vx_X (fun _ : Unit => False) (fun _ _ _ => True) F0') 1 6 (fun q => q = o ∨ H.size ≤ q) := by
  refine vx_ofWH (cc := cL_parameterOf) (maxL := 6) (ret := some .int) (by decide) rfl ?_
  intro p e s m args below meth c s₁ B hml hv
  obtain ⟨rfl, hH, hK, hXS, hXZ⟩ := hv
  have hx := B.exec
  have hb := B.bytes
  have hr := B.returns
  have hts : ∀ w ∈ TT, w.before _ s = true := fun w h => atoms_spec (ws := .codeWith yL_parameterOf cL_parameterOf 6 (some .int) [(0, 12, 15, 13), (0, 12, 19, 15)] :: TT) B.pre w (List.mem_cons_of_mem _ h)
  have htab : c.exceptionTable.toList = tableOf [(0, 12, 15, 13), (0, 12, 19, 15)] := vx_table (x := yL_parameterOf) B (atoms_spec (ws := .codeWith yL_parameterOf cL_parameterOf 6 (some .int) [(0, 12, 15, 13), (0, 12, 19, 15)] :: TT) B.pre _ List.mem_cons_self)
  have hown : s.vm.findClass RL = some m.cls := findClass_of_methodNamed B.named
  have hlocks := B.notSynchronized
  have hS : va_S (fun q => q = o ∨ H.size ≤ q) s.heap H [] := by rw [hH]; exact va_S.rf
  rw [hH]
  have hD : va_D (fun q => q = o ∨ H.size ≤ q) [((o, .inl (G 1, 1, .inr (.inl f))) : Nat × va_E)] := D_one (Or.inl rfl)
  have hl := lv_entry ([.ref (ca 0), .int en, .int ii, .int dm, .ref o]) (n := 6) (Nat.le_of_ble_eq_true rfl)
  rw [lg_entry_eq]
  generalize (lg_sl ([.ref (ca 0), .int en, .int ii, .int dm, .ref o]) ++ List.replicate (6 - (lg_sl ([.ref (ca 0), .int en, .int ii, .int dm, .ref o])).length) Slot.unset).toArray = ls at hl ⊢
  have hl : lv_has ls 6 [(0, .ref (ca 0)), (1, .int en), (2, .int ii), (3, .int dm), (4, .ref o)] := hl
  refine lv_aload hx hb dL_parameterOf_0 (lv_at hl 4 rfl) ?_
  refine lv_iconst (v := 0) hx hb dL_parameterOf_2 (by decide) ?_
  refine lv_aload_n hx hb dL_parameterOf_3 rfl (lv_at hl 0 rfl) ?_
  refine lv_iload_n hx hb dL_parameterOf_4 rfl (lv_at hl 1 rfl) ?_
  refine lv_iload_n hx hb dL_parameterOf_5 rfl (lv_at hl 2 rfl) ?_
  refine lv_iload_n hx hb dL_parameterOf_6 rfl (lv_at hl 3 rfl) ?_
  refine vx_calli (vx_runV (As := [.int en, .int ii, .int dm]) (rest := [.int 0, .ref o]) ⟨hx, hb, hml, hown, hts⟩ (c_parameterOf l D G H ca _ ea n k w0 σ x κ hP hE hI hst sa en ii dm τ) (cwV 3 hts gV_L_X7_parameterOf rfl rfl rfl hdV_X7_parameterOf ⟨(Nat.le_of_ble_eq_true rfl), (Nat.le_of_ble_eq_true rfl)⟩) ⟨fun _ _ _ _ q => q, va_recv hK.1 hP (ci := 7) (q0 := 0) rfl rfl, fun U hU hW => ⟨rfl, hU, hK.warm hW, hXS.warm hW, hXZ.moved hW.alike⟩⟩ rfl rfl hl.1 rfl (lv_room (Nat.le_of_ble_eq_true rfl)) dL_parameterOf_7 ⟨(Nat.le_of_ble_eq_true rfl), (Nat.le_of_ble_eq_true rfl)⟩) hS (fun q _ h => h.elim) (fun q h => h.elim) (fun q _ h => h.elim) (fun E ce q9 u t H1 locs1 ht hvm hpx hBX hz hk hS1 hce hcv hcl => ?_) (fun r u t H1 locs1 ht hvm hp hB hz hk hS1 => ?_)
  · have hP1 := P_keep hPo hk
    rcases hBX with ⟨rfl, h1⟩ | ⟨rfl, h1⟩
    · refine vx_catch (own := RL) (name := EC) hown [] ⟨0, 12, 15, 13⟩ [⟨0, 12, 19, 15⟩] (by rw [htab]; rfl) (fun z h => nomatch h) (by decide) (by decide) (hts _ q_551) (va_Nw.use rfl hXS.2.2.2.2.2.1) hce hcv hcl ?_
      refine lv_astore (lv' := [(5, .ref q9), (0, .ref (ca 0)), (1, .int en), (2, .int ii), (3, .int dm), (4, .ref o)]) hx hb dL_parameterOf_15 hl (by decide) rfl (fun ls hl => ?_)
      refine lv_iconst (v := 1) hx hb dL_parameterOf_17 (by decide) ?_
      exact vx_ret (W.iret hx hb hr (fun t ht _ => ⟨⟨1, f, rfl, ⟨h1.symm, fun h9 => absurd (h1.symm.trans h9) (by decide)⟩, by show va_P D vwCl _ t.heap; rw [ht]; exact hP1⟩, hS1.F ht⟩) hS1.2.2 dL_parameterOf_18 hlocks)
    · refine vx_catch (own := RL) (name := EA) hown [⟨0, 12, 15, 13⟩] ⟨0, 12, 19, 15⟩ [] (by rw [htab]; rfl) (fun z h => by rw [List.mem_singleton.mp h]; exact Or.inr ⟨by decide, EC, hts _ q_551, hXS.2.2.2.2.2.2.1⟩) (by decide) (by decide) (hts _ q_621) (va_Nw.use rfl hXS.2.2.2.2.1) hce hcv hcl ?_
      refine lv_astore (lv' := [(5, .ref q9), (0, .ref (ca 0)), (1, .int en), (2, .int ii), (3, .int dm), (4, .ref o)]) hx hb dL_parameterOf_19 hl (by decide) rfl (fun ls hl => ?_)
      refine lv_iconst (v := 2) hx hb dL_parameterOf_21 (by decide) ?_
      exact vx_ret (W.iret hx hb hr (fun t ht _ => ⟨⟨2, f, rfl, ⟨h1.symm, fun h9 => absurd (h1.symm.trans h9) (by decide)⟩, by show va_P D vwCl _ t.heap; rw [ht]; exact hP1⟩, hS1.F ht⟩) hS1.2.2 dL_parameterOf_22 hlocks)
  · have hP1 := P_keep hPo hk
    refine lv_i2l hx hb dL_parameterOf_10 rfl ?_
    refine last_n hx hb hK.1 hP1 hD hS1 0 1 rfl rfl 0 rfl (by decide) (by decide) dL_parameterOf_11 (fun H2 locs2 hP2 hD2 hS2 => ?_)
    refine lv_goto (tgt := 23) hx hb dL_parameterOf_12 (by decide) ?_
    refine lv_iconst (v := 0) hx hb dL_parameterOf_23 (by decide) ?_
    exact vx_ret (W.iret hx hb hr (fun t ht _ => ⟨⟨0, vp_updL f 0 r.toInt64, rfl, ⟨hp.1.symm, fun _ => by rw [← hp.2]; exact if_pos rfl⟩, by show va_P D vwCl _ t.heap; rw [ht]; exact hP2⟩, hS2.F ht⟩) hS2.2.2 dL_parameterOf_24 hlocks)
