theorem dX7_constant_0 : decode cX7_constant 0 = .ok (.aload_n 0, 1) := by decide +kernel
theorem dX7_constant_1 : decode cX7_constant 1 = .ok (.iload_n 1, 1) := by decide +kernel
theorem dX7_constant_2 : decode cX7_constant 2 = .ok (.invokevirtual 105, 3) := by decide +kernel
theorem dX7_constant_5 : decode cX7_constant 5 = .ok (.astore 4, 2) := by decide +kernel
theorem dX7_constant_7 : decode cX7_constant 7 = .ok (.aload 4, 2) := by decide +kernel
theorem dX7_constant_9 : decode cX7_constant 9 = .ok (.ifnonnull 6, 3) := by decide +kernel
theorem dX7_constant_15 : decode cX7_constant 15 = .ok (.aload 4, 2) := by decide +kernel
theorem dX7_constant_17 : decode cX7_constant 17 = .ok (.instanceof 96, 3) := by decide +kernel
theorem dX7_constant_20 : decode cX7_constant 20 = .ok (.ifCond .eq 13, 3) := by decide +kernel
theorem dX7_constant_33 : decode cX7_constant 33 = .ok (.bipush (-12), 2) := by decide +kernel
theorem dX7_constant_35 : decode cX7_constant 35 = .ok (.ireturn, 1) := by decide +kernel
theorem dX7_constant_23 : decode cX7_constant 23 = .ok (.aload 4, 2) := by decide +kernel
theorem dX7_constant_25 : decode cX7_constant 25 = .ok (.checkcast 96, 3) := by decide +kernel
theorem dX7_constant_28 : decode cX7_constant 28 = .ok (.astore 5, 2) := by decide +kernel
theorem dX7_constant_30 : decode cX7_constant 30 = .ok (.goto 6, 3) := by decide +kernel
theorem dX7_constant_36 : decode cX7_constant 36 = .ok (.aload 5, 2) := by decide +kernel
theorem q_216 : Cond.fieldLink "FieldMember" 109 "FieldMember$Field" "told" "Z" ∈ TT := tt_t (i := 216) (by decide +kernel) (by decide +kernel)
theorem dX7_constant_38 : decode cX7_constant 38 = .ok (.getfield 109, 3) := by decide +kernel
theorem dX7_constant_41 : decode cX7_constant 41 = .ok (.ifCond .ne 11, 3) := by decide +kernel
theorem dX7_constant_52 : decode cX7_constant 52 = .ok (.bipush (-14), 2) := by decide +kernel
theorem dX7_constant_54 : decode cX7_constant 54 = .ok (.ireturn, 1) := by decide +kernel
theorem dX7_constant_44 : decode cX7_constant 44 = .ok (.aload 5, 2) := by decide +kernel
theorem q_271 : Cond.methodLink "FieldMember" 113 ⟨"FieldMember$Field", "mayHaveConstant", "()Z"⟩ ∈ TT := tt_t (i := 271) (by decide +kernel) (by decide +kernel)
theorem q_274 : Cond.code ⟨"FieldMember$Field", "mayHaveConstant", "()Z"⟩ prog_4_method_2_code 1 (some .boolean) ∈ TT := tt_t (i := 274) (by decide +kernel) (by decide +kernel)
theorem q_272 : Cond.instanceMethod ⟨"FieldMember$Field", "mayHaveConstant", "()Z"⟩ ∈ TT := tt_t (i := 272) (by decide +kernel) (by decide +kernel)
theorem q_273 : Cond.selects "FieldMember$Field" ⟨"FieldMember$Field", "mayHaveConstant", "()Z"⟩ ⟨"FieldMember$Field", "mayHaveConstant", "()Z"⟩ ∈ TT := tt_t (i := 273) (by decide +kernel) (by decide +kernel)
theorem gV_X7_X2_mayHaveConstant : GoodIn TT (wsV RX7 113 RX2 yX2_mayHaveConstant (ww yX2_mayHaveConstant cX2_mayHaveConstant 1 (some .boolean))) := tt_V q_271 q_272 q_273 q_8 q_274
theorem hdV_X2_mayHaveConstant : yX2_mayHaveConstant.cls = RX2 ∧ yX2_mayHaveConstant.cls ≠ "java/lang/invoke/MethodHandle" ∧ yX2_mayHaveConstant.cls ≠ "java/lang/invoke/VarHandle" ∧ (parseMethodDescriptor yX2_mayHaveConstant.desc).map (fun d => d.parameters.length) = some 0 := by decide +kernel
theorem dX7_constant_46 : decode cX7_constant 46 = .ok (.invokevirtual 113, 3) := by decide +kernel
theorem dX7_constant_49 : decode cX7_constant 49 = .ok (.ifCond .ne 6, 3) := by decide +kernel
theorem dX7_constant_55 : decode cX7_constant 55 = .ok (.aload 5, 2) := by decide +kernel
theorem q_230 : Cond.fieldLink "FieldMember" 117 "FieldMember$Field" "kind" "I" ∈ TT := tt_t (i := 230) (by decide +kernel) (by decide +kernel)
theorem dX7_constant_57 : decode cX7_constant 57 = .ok (.getfield 117, 3) := by decide +kernel
theorem dX7_constant_60 : decode cX7_constant 60 = .ok (.lload_n 2, 1) := by decide +kernel
theorem q_281 : Cond.methodLink "FieldMember" 120 ⟨"FieldMember$Constants", "isOfKind", "(IJ)Z"⟩ ∈ TT := tt_t (i := 281) (by decide +kernel) (by decide +kernel)
theorem q_283 : Cond.code ⟨"FieldMember$Constants", "isOfKind", "(IJ)Z"⟩ prog_2_method_2_code 3 (some .boolean) ∈ TT := tt_t (i := 283) (by decide +kernel) (by decide +kernel)
theorem q_282 : Cond.static ⟨"FieldMember$Constants", "isOfKind", "(IJ)Z"⟩ ∈ TT := tt_t (i := 282) (by decide +kernel) (by decide +kernel)
theorem gS_X7_X0_isOfKind : GoodIn TT (va_wsS RX7 120 yX0_isOfKind (ww yX0_isOfKind cX0_isOfKind 3 (some .boolean))) := tt_S q_281 q_282 q_9 q_283
theorem hdS_X0_isOfKind : yX0_isOfKind.cls ≠ "java/lang/invoke/MethodHandle" ∧ yX0_isOfKind.cls ≠ "java/lang/invoke/VarHandle" ∧ (parseMethodDescriptor yX0_isOfKind.desc).map (fun d => d.parameters.length) = some 2 := by decide +kernel
theorem dX7_constant_61 : decode cX7_constant 61 = .ok (.invokestatic 120, 3) := by decide +kernel
theorem dX7_constant_64 : decode cX7_constant 64 = .ok (.ifCond .ne 10, 3) := by decide +kernel
theorem dX7_constant_74 : decode cX7_constant 74 = .ok (.aload 5, 2) := by decide +kernel
theorem dX7_constant_76 : decode cX7_constant 76 = .ok (.iconst 1, 1) := by decide +kernel
theorem dX7_constant_77 : decode cX7_constant 77 = .ok (.putfield 109, 3) := by decide +kernel
theorem dX7_constant_80 : decode cX7_constant 80 = .ok (.aload 5, 2) := by decide +kernel
theorem dX7_constant_82 : decode cX7_constant 82 = .ok (.lload_n 2, 1) := by decide +kernel
theorem q_217 : Cond.fieldLink "FieldMember" 126 "FieldMember$Field" "constant" "J" ∈ TT := tt_t (i := 217) (by decide +kernel) (by decide +kernel)
theorem dX7_constant_83 : decode cX7_constant 83 = .ok (.putfield 126, 3) := by decide +kernel
theorem dX7_constant_86 : decode cX7_constant 86 = .ok (.iconst 1, 1) := by decide +kernel
theorem dX7_constant_87 : decode cX7_constant 87 = .ok (.ireturn, 1) := by decide +kernel
theorem dX7_constant_67 : decode cX7_constant 67 = .ok (.aload_n 0, 1) := by decide +kernel
theorem dX7_constant_68 : decode cX7_constant 68 = .ok (.bipush 7, 2) := by decide +kernel
theorem dX7_constant_70 : decode cX7_constant 70 = .ok (.invokevirtual 92, 3) := by decide +kernel
theorem dX7_constant_73 : decode cX7_constant 73 = .ok (.ireturn, 1) := by decide +kernel
theorem dX7_constant_12 : decode cX7_constant 12 = .ok (.bipush (-11), 2) := by decide +kernel
theorem dX7_constant_14 : decode cX7_constant 14 = .ok (.ireturn, 1) := by decide +kernel
set_option maxHeartbeats 800000 in
set_option maxRecDepth 100000 in
theorem c_constant (l : Launch) (D : va_G) (G : Nat → ClassId) (ca : Nat → Nat) (bg : Value) (ea : Nat → Nat → Nat) (n k w0 : Nat) (σ x : MS) (κ : Nat → Int64) (pl : va_W) (sz : Nat) (hE : plE G ea σ κ k pl) (hI : cI σ x n k w0) (en : Int32) (v : Int64) (hdm : ∀ e, e < k → 0 ≤ σ 12 e) (τ : Nat → Int64) : Met l yX7_constant (ww yX7_constant cX7_constant 6 (some .int)) (rmC 2 0 0) (cmP D G sz (cF G ca bg (enF ea k) σ x ++ pl) [.ref ((ca 0)), .int en, .long v]) (cmQi D (va_A (cF G ca bg (enF ea k) σ x ++ pl) sz) ((oConst σ τ k en v).1) (fun z8 => (¬ (oConst σ τ k en v).1 = 1 ∧ z8 = cF G ca bg (enF ea k) (oConst σ τ k en v).2.1 x ++ pl) ∨ ∃ i : Nat, pl[i]? = some (ea en.toNatClampNeg 0, .inr (3, [.int (σ 9 en.toNatClampNeg), .int (σ 10 en.toNatClampNeg), .int (σ 11 en.toNatClampNeg), .int (σ 12 en.toNatClampNeg), .int (σ 13 en.toNatClampNeg), .int (σ 14 en.toNatClampNeg), .long (κ en.toNatClampNeg)])) ∧ (oConst σ τ k en v).1 = 1 ∧ z8 = cF G ca bg (enF ea k) (oConst σ τ k en v).2.1 x ++ pl.set i (ea en.toNatClampNeg 0, .inr (3, [.int (σ 9 en.toNatClampNeg), .int (σ 10 en.toNatClampNeg), .int (σ 11 en.toNatClampNeg), .int (σ 12 en.toNatClampNeg), .int (σ 13 en.toNatClampNeg), .int 1, .long v])))) 0 0 (va_A (cF G ca bg (enF ea k) σ x ++ pl) sz) := by
  refine Met.ofW (cc := cX7_constant) (maxL := 6) (ret := (some .int)) (by decide) rfl ?_
  intro p e s m args below meth c s₁ B hml hv
  obtain ⟨rfl, hsz, hP, hK, hD0⟩ := hv
  have hx := B.exec
  have hb := B.bytes
  have hr := B.returns
  have hts : ∀ w ∈ TT, w.before _ s = true := fun w h => atoms_spec (ws := ww yX7_constant cX7_constant 6 (some .int)) B.pre w (List.mem_cons_of_mem _ h)
  have hown : s.vm.findClass RX7 = some m.cls := findClass_of_methodNamed B.named
  have hlocks := B.notSynchronized
  subst hsz
  have hD : va_D (va_A (cF G ca bg (enF ea k) σ x ++ pl) s.heap.size) (cF G ca bg (enF ea k) σ x ++ pl) := hD0.self
  generalize hAe : va_A (cF G ca bg (enF ea k) σ x ++ pl) s.heap.size = A at hD ⊢
  have hA : ∀ q : Nat, s.heap.size ≤ q → A q := fun q h => by rw [← hAe]; exact Or.inr h
  have hS : va_S A s.heap s.heap [] := va_S.rf
  have hP : va_P D vwCl (cF G ca bg (enF ea k) σ x ++ pl) s.heap := hP
  have hI0 := hI
  obtain ⟨h1, hn, h7, hk60, h22, hw, hab, hfa, hmi, hak, hrf⟩ := hI
  have hl := lv_entry ([.ref ((ca 0)), .int en, .long v]) (n := 6) (Nat.le_of_ble_eq_true rfl)
  rw [lg_entry_eq]
  generalize (lg_sl ([.ref ((ca 0)), .int en, .long v]) ++ List.replicate (6 - (lg_sl ([.ref ((ca 0)), .int en, .long v])).length) Slot.unset).toArray = ls at hl ⊢
  have hl : lv_has ls 6 [(0, .ref ((ca 0))), (1, .int en), (2, .long v)] := hl
  refine lv_aload_n hx hb dX7_constant_0 rfl (lv_at hl 0 rfl) ?_
  refine lv_iload_n hx hb dX7_constant_1 rfl (lv_at hl 1 rfl) ?_
  have hPf : va_P D vwCl (cF G ca bg (enF ea k) σ x) _ := cF_of hP
  have hEf : ∀ e, e < k → va_P D vwCl (eW G (ea e) σ κ e) _ := plE_P hP hE
  refine ro_Vq (D := D) (G := G) (As := [.int en]) (rest := []) ⟨hx, hb, hml, hown, hts⟩ (c_entryAt l D G _ ca _ ea n k w0 σ x κ hPf hEf hI0 en) gV_X7_X7_entryAt hdV_X7_entryAt ⟨Nat.le_of_ble_eq_true rfl, Nat.le_of_ble_eq_true rfl⟩ hK (va_recv hK.1 hP (ci := 7) (q0 := 0) rfl rfl) rfl hl.1 rfl (Nat.le_of_ble_eq_true rfl) dX7_constant_2 ⟨Nat.le_of_ble_eq_true rfl, Nat.le_of_ble_eq_true rfl⟩ (fun r1 e_r1 => ?_)
  subst e_r1
  by_cases ce2 : okN k en
  · -- entry: True
    obtain ⟨j3, h_j3, rfl⟩ := okN_ex (by omega) ce2
    refine W.eq (g2 := F0 m 5 ls (.ref (ea j3 0) :: [])) (congrArg (fun z9 => F0 m 5 ls (va_rf z9 :: [])) (eaF_t h_j3 hk60)) ?_
    refine lv_astore (lv' := [(4, .ref ((ea j3 0))), (0, .ref ((ca 0))), (1, .int (nI j3)), (2, .long v)]) hx hb dX7_constant_5 hl (by decide) rfl (fun ls hl => ?_)
    refine lv_aload hx hb dX7_constant_7 (lv_at hl 0 rfl) ?_
    refine lv_ifnonnull (tgt := 15) hx hb dX7_constant_9 (by decide) ?_
    refine lv_aload hx hb dX7_constant_15 (lv_at hl 0 rfl) ?_
    refine inst_f hx hb hown (hts _ q_203) hK (hEf j3 (by omega)) dX7_constant_17 ?_
    refine lv_if_eq (tgt := 33) hx hb dX7_constant_20 (by decide) (fun c4 => ?_) (fun c4 => ?_)
    · -- 20 taken
      have c4 := bI_0 c4
      refine lv_bipush (v := -12) hx hb dX7_constant_33 (by decide) ?_
      exact cm_iret (v0 := (-12)) hx hb hr hlocks hP hD hS dX7_constant_35 (by unfold oConst; simp only [eq_true ce2, eq_false c4, nI_clamp (show j3 < 2 ^ 31 by omega), not_true, not_false_iff, not_true_eq_false, not_false_eq_true, true_or, or_true, false_or, or_false, or_self, and_self, true_and, and_true, false_and, and_false, if_true, if_false, eq_false (show ¬ (0 : Int32) ≤ -11 by decide), eq_false (show ¬ (0 : Int32) ≤ -12 by decide), eq_false (show ¬ (0 : Int32) ≤ -13 by decide), eq_false (show ¬ (0 : Int32) ≤ -14 by decide), eq_false (show ¬ (0 : Int32) ≤ -15 by decide)]; try rfl) (Or.inl ⟨by unfold oConst; simp only [eq_true ce2, eq_false c4, nI_clamp (show j3 < 2 ^ 31 by omega), not_true, not_false_iff, not_true_eq_false, not_false_eq_true, true_or, or_true, false_or, or_false, or_self, and_self, true_and, and_true, false_and, and_false, if_true, if_false, eq_false (show ¬ (0 : Int32) ≤ -11 by decide), eq_false (show ¬ (0 : Int32) ≤ -12 by decide), eq_false (show ¬ (0 : Int32) ≤ -13 by decide), eq_false (show ¬ (0 : Int32) ≤ -14 by decide), eq_false (show ¬ (0 : Int32) ≤ -15 by decide)]; exact (show ¬ (-12) = 1 by decide), by unfold oConst; simp only [eq_true ce2, eq_false c4, nI_clamp (show j3 < 2 ^ 31 by omega), not_true, not_false_iff, not_true_eq_false, not_false_eq_true, true_or, or_true, false_or, or_false, or_self, and_self, true_and, and_true, false_and, and_false, if_true, if_false, eq_false (show ¬ (0 : Int32) ≤ -11 by decide), eq_false (show ¬ (0 : Int32) ≤ -12 by decide), eq_false (show ¬ (0 : Int32) ≤ -13 by decide), eq_false (show ¬ (0 : Int32) ≤ -14 by decide), eq_false (show ¬ (0 : Int32) ≤ -15 by decide)]; try rfl⟩)
    · -- 20 not
      have c4 := bI_1 c4
      refine lv_aload hx hb dX7_constant_23 (lv_at hl 0 rfl) ?_
      have hF_j3 := eW_f (hEf j3 (by omega)) c4
      have hmi_j3 := hmi j3 (by omega)
      have ht_j3 := hmi_j3.1.2
      have hz_j3 := hmi_j3.2.1.2
      refine va_castY (C := RX2) hx hb hown (hts _ q_203) hK.2.1 (va_recv hK.1 hF_j3 (ci := 3) (q0 := 0) rfl rfl) dX7_constant_25 ?_
      refine lv_astore (lv' := [(5, .ref ((ea j3 0))), (4, .ref ((ea j3 0))), (0, .ref ((ca 0))), (1, .int (nI j3)), (2, .long v)]) hx hb dX7_constant_28 hl (by decide) rfl (fun ls hl => ?_)
      refine lv_goto (tgt := 36) hx hb dX7_constant_30 (by decide) ?_
      refine lv_aload hx hb dX7_constant_36 (lv_at hl 0 rfl) ?_
      refine va_get (D := D) (ci := 3) (v := .int (σ 14 j3)) (C := RX2) (T := TX2) (N := 7) hx hb hts iX2 hown hK.1 hF_j3 0 rfl rfl 5 (by decide) (hts _ q_216) (fun _ h9 => h9) rfl dX7_constant_38 ?_
      refine lv_if_ne (tgt := 52) hx hb dX7_constant_41 (by decide) (fun c5 => ?_) (fun c5 => ?_)
      · -- 41 taken
        refine lv_bipush (v := -14) hx hb dX7_constant_52 (by decide) ?_
        exact cm_iret (v0 := (-14)) hx hb hr hlocks hP hD hS dX7_constant_54 (by unfold oConst; simp only [eq_true ce2, eq_true c4, eq_false c5, nI_clamp (show j3 < 2 ^ 31 by omega), not_true, not_false_iff, not_true_eq_false, not_false_eq_true, true_or, or_true, false_or, or_false, or_self, and_self, true_and, and_true, false_and, and_false, if_true, if_false, eq_false (show ¬ (0 : Int32) ≤ -11 by decide), eq_false (show ¬ (0 : Int32) ≤ -12 by decide), eq_false (show ¬ (0 : Int32) ≤ -13 by decide), eq_false (show ¬ (0 : Int32) ≤ -14 by decide), eq_false (show ¬ (0 : Int32) ≤ -15 by decide)]; try rfl) (Or.inl ⟨by unfold oConst; simp only [eq_true ce2, eq_true c4, eq_false c5, nI_clamp (show j3 < 2 ^ 31 by omega), not_true, not_false_iff, not_true_eq_false, not_false_eq_true, true_or, or_true, false_or, or_false, or_self, and_self, true_and, and_true, false_and, and_false, if_true, if_false, eq_false (show ¬ (0 : Int32) ≤ -11 by decide), eq_false (show ¬ (0 : Int32) ≤ -12 by decide), eq_false (show ¬ (0 : Int32) ≤ -13 by decide), eq_false (show ¬ (0 : Int32) ≤ -14 by decide), eq_false (show ¬ (0 : Int32) ≤ -15 by decide)]; exact (show ¬ (-14) = 1 by decide), by unfold oConst; simp only [eq_true ce2, eq_true c4, eq_false c5, nI_clamp (show j3 < 2 ^ 31 by omega), not_true, not_false_iff, not_true_eq_false, not_false_eq_true, true_or, or_true, false_or, or_false, or_self, and_self, true_and, and_true, false_and, and_false, if_true, if_false, eq_false (show ¬ (0 : Int32) ≤ -11 by decide), eq_false (show ¬ (0 : Int32) ≤ -12 by decide), eq_false (show ¬ (0 : Int32) ≤ -13 by decide), eq_false (show ¬ (0 : Int32) ≤ -14 by decide), eq_false (show ¬ (0 : Int32) ≤ -15 by decide)]; try rfl⟩)
      · -- 41 not
        refine lv_aload hx hb dX7_constant_44 (lv_at hl 0 rfl) ?_
        refine ro_Vi (D := D) (G := G) (As := []) (rest := []) ⟨hx, hb, hml, hown, hts⟩ (c_mayHaveConstant l D G _ _ σ κ (j3) hF_j3) gV_X7_X2_mayHaveConstant hdV_X2_mayHaveConstant ⟨Nat.le_of_ble_eq_true rfl, Nat.le_of_ble_eq_true rfl⟩ hK (va_recv hK.1 hF_j3 (ci := 3) (q0 := 0) rfl rfl) rfl hl.1 rfl (Nat.le_of_ble_eq_true rfl) dX7_constant_46 ⟨Nat.le_of_ble_eq_true rfl, Nat.le_of_ble_eq_true rfl⟩ (fun r6 e_r6 => ?_)
        subst e_r6
        refine W.eq (g2 := F0 m 49 ls [.int (bI (mhP σ j3))]) rfl ?_
        refine lv_if_ne (tgt := 55) hx hb dX7_constant_49 (by decide) (fun c7 => ?_) (fun c7 => ?_)
        · -- 49 taken
          have c7 := bI_1 c7
          refine lv_aload hx hb dX7_constant_55 (lv_at hl 0 rfl) ?_
          refine va_get (D := D) (ci := 3) (v := .int (σ 11 j3)) (C := RX2) (T := TX2) (N := 7) hx hb hts iX2 hown hK.1 hF_j3 0 rfl rfl 2 (by decide) (hts _ q_230) (fun x9 h9 => u_same (hts _ q_229) x9 h9) rfl dX7_constant_57 ?_
          refine lv_lload_n hx hb dX7_constant_60 rfl (lv_at hl 4 rfl) ?_
          refine ro_Si (D := D) (G := G) (As := [.int (σ 11 j3), .long v]) (rest := []) ⟨hx, hb, hml, hown, hts⟩ (c_isOfKind l D G _ (σ 11 j3) v) gS_X7_X0_isOfKind hdS_X0_isOfKind ⟨Nat.le_of_ble_eq_true rfl, Nat.le_of_ble_eq_true rfl⟩ hK rfl hl.1 rfl (Nat.le_of_ble_eq_true rfl) dX7_constant_61 ⟨Nat.le_of_ble_eq_true rfl, Nat.le_of_ble_eq_true rfl⟩ (fun r8 e_r8 => ?_)
          subst e_r8
          refine W.eq (g2 := F0 m 64 ls [.int (bI (icP (σ 11 j3) v))]) rfl ?_
          refine lv_if_ne (tgt := 74) hx hb dX7_constant_64 (by decide) (fun c9 => ?_) (fun c9 => ?_)
          · -- 64 taken
            have c9 := bI_1 c9
            obtain ⟨qi, hqi⟩ := pl_at hE h_j3 c4
            refine lv_aload hx hb dX7_constant_74 (lv_at hl 0 rfl) ?_
            refine lv_iconst (v := 1) hx hb dX7_constant_76 (by decide) ?_
            refine va_put (D := D) (ci := 3) (v := .int 1) (ty := .boolean) (C := RX2) (T := TX2) (N := 7) hx hb hts iX2 tyX2 tyX2_ok nmX2 hown hK.1 hP hD hS (14 + qi) (get_r rfl hqi) rfl 5 (by decide) (hts _ q_216) (fun _ h9 => h9) rfl (by decide +kernel) rfl rfl (Nat.le_of_ble_eq_true rfl) dX7_constant_77 (fun H locs hP hD hS => ?_)
            rw [set_r (n := 14) rfl] at hP hD
            have hqi0 := hqi
            have hqi := get_s (c := ((ea j3 0, .inr (3, [.int (σ 9 j3), .int (σ 10 j3), .int (σ 11 j3), .int (σ 12 j3), .int (σ 13 j3), .int (1), .long (κ j3)])) : Nat × va_E)) hqi0
            have hP : va_P D vwCl (cF G ca bg (enF ea k) σ x ++ pl.set qi (ea j3 0, .inr (3, [.int (σ 9 j3), .int (σ 10 j3), .int (σ 11 j3), .int (σ 12 j3), .int (σ 13 j3), .int (1), .long (κ j3)]))) H := hP
            have hD : va_D A (cF G ca bg (enF ea k) σ x ++ pl.set qi (ea j3 0, .inr (3, [.int (σ 9 j3), .int (σ 10 j3), .int (σ 11 j3), .int (σ 12 j3), .int (σ 13 j3), .int (1), .long (κ j3)]))) := hD
            refine lv_aload hx hb dX7_constant_80 (lv_at hl 0 rfl) ?_
            refine lv_lload_n hx hb dX7_constant_82 rfl (lv_at hl 4 rfl) ?_
            refine va_put (D := D) (ci := 3) (v := .long v) (ty := .long) (C := RX2) (T := TX2) (N := 7) hx hb hts iX2 tyX2 tyX2_ok nmX2 hown hK.1 hP hD hS (14 + qi) (get_r rfl hqi) rfl 6 (by decide) (hts _ q_217) (fun _ h9 => h9) rfl (by decide +kernel) rfl rfl (Nat.le_of_ble_eq_true rfl) dX7_constant_83 (fun H locs hP hD hS => ?_)
            rw [set_r (n := 14) rfl] at hP hD
            rw [List.set_set] at hP hD
            have hqi := get_s (c := ((ea j3 0, .inr (3, [.int (σ 9 j3), .int (σ 10 j3), .int (σ 11 j3), .int (σ 12 j3), .int (σ 13 j3), .int (1), .long (v)])) : Nat × va_E)) hqi0
            have hP : va_P D vwCl (cF G ca bg (enF ea k) σ x ++ pl.set qi (ea j3 0, .inr (3, [.int (σ 9 j3), .int (σ 10 j3), .int (σ 11 j3), .int (σ 12 j3), .int (σ 13 j3), .int (1), .long (v)]))) H := hP
            have hD : va_D A (cF G ca bg (enF ea k) σ x ++ pl.set qi (ea j3 0, .inr (3, [.int (σ 9 j3), .int (σ 10 j3), .int (σ 11 j3), .int (σ 12 j3), .int (σ 13 j3), .int (1), .long (v)]))) := hD
            refine lv_iconst (v := 1) hx hb dX7_constant_86 (by decide) ?_
            exact cm_iret (v0 := 1) hx hb hr hlocks hP hD hS dX7_constant_87 (by unfold oConst; simp only [eq_true ce2, eq_true c4, eq_true c5, eq_true c7, eq_true c9, eq_false ((mh_iff (hdm j3 (by omega))).mp c7), nI_clamp (show j3 < 2 ^ 31 by omega), not_true, not_false_iff, not_true_eq_false, not_false_eq_true, true_or, or_true, false_or, or_false, or_self, and_self, true_and, and_true, false_and, and_false, if_true, if_false, eq_false (show ¬ (0 : Int32) ≤ -11 by decide), eq_false (show ¬ (0 : Int32) ≤ -12 by decide), eq_false (show ¬ (0 : Int32) ≤ -13 by decide), eq_false (show ¬ (0 : Int32) ≤ -14 by decide), eq_false (show ¬ (0 : Int32) ≤ -15 by decide)]; try rfl) (Or.inr ⟨qi, by simp only [nI_clamp (show j3 < 2 ^ 31 by omega)]; exact hqi0, by unfold oConst; simp only [eq_true ce2, eq_true c4, eq_true c5, eq_true c7, eq_true c9, eq_false ((mh_iff (hdm j3 (by omega))).mp c7), nI_clamp (show j3 < 2 ^ 31 by omega), not_true, not_false_iff, not_true_eq_false, not_false_eq_true, true_or, or_true, false_or, or_false, or_self, and_self, true_and, and_true, false_and, and_false, if_true, if_false, eq_false (show ¬ (0 : Int32) ≤ -11 by decide), eq_false (show ¬ (0 : Int32) ≤ -12 by decide), eq_false (show ¬ (0 : Int32) ≤ -13 by decide), eq_false (show ¬ (0 : Int32) ≤ -14 by decide), eq_false (show ¬ (0 : Int32) ≤ -15 by decide)], by unfold oConst; simp only [eq_true ce2, eq_true c4, eq_true c5, eq_true c7, eq_true c9, eq_false ((mh_iff (hdm j3 (by omega))).mp c7), nI_clamp (show j3 < 2 ^ 31 by omega), not_true, not_false_iff, not_true_eq_false, not_false_eq_true, true_or, or_true, false_or, or_false, or_self, and_self, true_and, and_true, false_and, and_false, if_true, if_false, eq_false (show ¬ (0 : Int32) ≤ -11 by decide), eq_false (show ¬ (0 : Int32) ≤ -12 by decide), eq_false (show ¬ (0 : Int32) ≤ -13 by decide), eq_false (show ¬ (0 : Int32) ≤ -14 by decide), eq_false (show ¬ (0 : Int32) ≤ -15 by decide)]; try rfl⟩)
          · -- 64 not
            have c9 := bI_0 c9
            refine lv_aload_n hx hb dX7_constant_67 rfl (lv_at hl 2 rfl) ?_
            refine lv_bipush (v := 7) hx hb dX7_constant_68 (by decide) ?_
            refine cm_Vi (D := D) (G := G) (As := [.int 7]) (rest := []) ⟨hx, hb, hml, hown, hts⟩ (c_breakRule l D G ca _ ea n k w0 σ x κ _ _ hE hI0 (7) (by omega) (by omega)) gV_X7_X7_breakRule hdV_X7_breakRule ⟨Nat.le_of_ble_eq_true rfl, Nat.le_of_ble_eq_true rfl⟩ hK (va_recv hK.1 hP (ci := 7) (q0 := 0) rfl rfl) hP hD hS hA rfl hl.1 rfl (Nat.le_of_ble_eq_true rfl) dX7_constant_70 ⟨Nat.le_of_ble_eq_true rfl, Nat.le_of_ble_eq_true rfl⟩ (fun ws H locs hw hP hD hS => ?_)
            subst hw
            have hP : va_P D vwCl (cF G ca bg (enF ea k) (su (su σ 27 (7) (σ 27 7 + 1)) 26 (0) (σ 26 0 + 1)) x ++ pl) H := hP
            have hD : va_D A (cF G ca bg (enF ea k) (su (su σ 27 (7) (σ 27 7 + 1)) 26 (0) (σ 26 0 + 1)) x ++ pl) := hD
            refine W.eq (g2 := F0 m 73 ls [.int ((-40) - nI 7)]) rfl ?_
            exact cm_iret (v0 := (-40) - nI 7) hx hb hr hlocks hP hD hS dX7_constant_73 (by unfold oConst; simp only [eq_true ce2, eq_true c4, eq_true c5, eq_true c7, eq_false c9, eq_false ((mh_iff (hdm j3 (by omega))).mp c7), nI_clamp (show j3 < 2 ^ 31 by omega), not_true, not_false_iff, not_true_eq_false, not_false_eq_true, true_or, or_true, false_or, or_false, or_self, and_self, true_and, and_true, false_and, and_false, if_true, if_false, eq_false (show ¬ (0 : Int32) ≤ -11 by decide), eq_false (show ¬ (0 : Int32) ≤ -12 by decide), eq_false (show ¬ (0 : Int32) ≤ -13 by decide), eq_false (show ¬ (0 : Int32) ≤ -14 by decide), eq_false (show ¬ (0 : Int32) ≤ -15 by decide)]; try rfl) (Or.inl ⟨by unfold oConst; simp only [eq_true ce2, eq_true c4, eq_true c5, eq_true c7, eq_false c9, eq_false ((mh_iff (hdm j3 (by omega))).mp c7), nI_clamp (show j3 < 2 ^ 31 by omega), not_true, not_false_iff, not_true_eq_false, not_false_eq_true, true_or, or_true, false_or, or_false, or_self, and_self, true_and, and_true, false_and, and_false, if_true, if_false, eq_false (show ¬ (0 : Int32) ≤ -11 by decide), eq_false (show ¬ (0 : Int32) ≤ -12 by decide), eq_false (show ¬ (0 : Int32) ≤ -13 by decide), eq_false (show ¬ (0 : Int32) ≤ -14 by decide), eq_false (show ¬ (0 : Int32) ≤ -15 by decide)]; exact (show ¬ (-40) - nI 7 = 1 by decide), by unfold oConst; simp only [eq_true ce2, eq_true c4, eq_true c5, eq_true c7, eq_false c9, eq_false ((mh_iff (hdm j3 (by omega))).mp c7), nI_clamp (show j3 < 2 ^ 31 by omega), not_true, not_false_iff, not_true_eq_false, not_false_eq_true, true_or, or_true, false_or, or_false, or_self, and_self, true_and, and_true, false_and, and_false, if_true, if_false, eq_false (show ¬ (0 : Int32) ≤ -11 by decide), eq_false (show ¬ (0 : Int32) ≤ -12 by decide), eq_false (show ¬ (0 : Int32) ≤ -13 by decide), eq_false (show ¬ (0 : Int32) ≤ -14 by decide), eq_false (show ¬ (0 : Int32) ≤ -15 by decide)]; try rfl⟩)
        · -- 49 not
          have c7 := bI_0 c7
          refine lv_bipush (v := -14) hx hb dX7_constant_52 (by decide) ?_
          exact cm_iret (v0 := (-14)) hx hb hr hlocks hP hD hS dX7_constant_54 (by unfold oConst; simp only [eq_true ce2, eq_true c4, eq_true c5, eq_false c7, eq_true (Decidable.of_not_not (mt (mh_iff (hdm j3 (by omega))).mpr c7)), nI_clamp (show j3 < 2 ^ 31 by omega), not_true, not_false_iff, not_true_eq_false, not_false_eq_true, true_or, or_true, false_or, or_false, or_self, and_self, true_and, and_true, false_and, and_false, if_true, if_false, eq_false (show ¬ (0 : Int32) ≤ -11 by decide), eq_false (show ¬ (0 : Int32) ≤ -12 by decide), eq_false (show ¬ (0 : Int32) ≤ -13 by decide), eq_false (show ¬ (0 : Int32) ≤ -14 by decide), eq_false (show ¬ (0 : Int32) ≤ -15 by decide)]; try rfl) (Or.inl ⟨by unfold oConst; simp only [eq_true ce2, eq_true c4, eq_true c5, eq_false c7, eq_true (Decidable.of_not_not (mt (mh_iff (hdm j3 (by omega))).mpr c7)), nI_clamp (show j3 < 2 ^ 31 by omega), not_true, not_false_iff, not_true_eq_false, not_false_eq_true, true_or, or_true, false_or, or_false, or_self, and_self, true_and, and_true, false_and, and_false, if_true, if_false, eq_false (show ¬ (0 : Int32) ≤ -11 by decide), eq_false (show ¬ (0 : Int32) ≤ -12 by decide), eq_false (show ¬ (0 : Int32) ≤ -13 by decide), eq_false (show ¬ (0 : Int32) ≤ -14 by decide), eq_false (show ¬ (0 : Int32) ≤ -15 by decide)]; exact (show ¬ (-14) = 1 by decide), by unfold oConst; simp only [eq_true ce2, eq_true c4, eq_true c5, eq_false c7, eq_true (Decidable.of_not_not (mt (mh_iff (hdm j3 (by omega))).mpr c7)), nI_clamp (show j3 < 2 ^ 31 by omega), not_true, not_false_iff, not_true_eq_false, not_false_eq_true, true_or, or_true, false_or, or_false, or_self, and_self, true_and, and_true, false_and, and_false, if_true, if_false, eq_false (show ¬ (0 : Int32) ≤ -11 by decide), eq_false (show ¬ (0 : Int32) ≤ -12 by decide), eq_false (show ¬ (0 : Int32) ≤ -13 by decide), eq_false (show ¬ (0 : Int32) ≤ -14 by decide), eq_false (show ¬ (0 : Int32) ≤ -15 by decide)]; try rfl⟩)
  · -- entry: False
    refine W.eq (g2 := F0 m 5 ls (.null :: [])) (congrArg (fun z9 => F0 m 5 ls (va_rf z9 :: [])) (eaF_f ce2)) ?_
    refine lv_astoreN (lv' := [(4, .null), (0, .ref ((ca 0))), (1, .int en), (2, .long v)]) hx hb dX7_constant_5 hl (by decide) rfl (fun ls hl => ?_)
    refine lv_aloadN hx hb dX7_constant_7 (lv_at hl 0 rfl) ?_
    refine lv_ifnonnullN hx hb dX7_constant_9 ?_
    refine lv_bipush (v := -11) hx hb dX7_constant_12 (by decide) ?_
    exact cm_iret (v0 := (-11)) hx hb hr hlocks hP hD hS dX7_constant_14 (by unfold oConst; simp only [eq_false ce2, not_true, not_false_iff, not_true_eq_false, not_false_eq_true, true_or, or_true, false_or, or_false, or_self, and_self, true_and, and_true, false_and, and_false, if_true, if_false, eq_false (show ¬ (0 : Int32) ≤ -11 by decide), eq_false (show ¬ (0 : Int32) ≤ -12 by decide), eq_false (show ¬ (0 : Int32) ≤ -13 by decide), eq_false (show ¬ (0 : Int32) ≤ -14 by decide), eq_false (show ¬ (0 : Int32) ≤ -15 by decide)]; try rfl) (Or.inl ⟨by unfold oConst; simp only [eq_false ce2, not_true, not_false_iff, not_true_eq_false, not_false_eq_true, true_or, or_true, false_or, or_false, or_self, and_self, true_and, and_true, false_and, and_false, if_true, if_false, eq_false (show ¬ (0 : Int32) ≤ -11 by decide), eq_false (show ¬ (0 : Int32) ≤ -12 by decide), eq_false (show ¬ (0 : Int32) ≤ -13 by decide), eq_false (show ¬ (0 : Int32) ≤ -14 by decide), eq_false (show ¬ (0 : Int32) ≤ -15 by decide)]; exact (show ¬ (-11) = 1 by decide), by unfold oConst; simp only [eq_false ce2, not_true, not_false_iff, not_true_eq_false, not_false_eq_true, true_or, or_true, false_or, or_false, or_self, and_self, true_and, and_true, false_and, and_false, if_true, if_false, eq_false (show ¬ (0 : Int32) ≤ -11 by decide), eq_false (show ¬ (0 : Int32) ≤ -12 by decide), eq_false (show ¬ (0 : Int32) ≤ -13 by decide), eq_false (show ¬ (0 : Int32) ≤ -14 by decide), eq_false (show ¬ (0 : Int32) ≤ -15 by decide)]; try rfl⟩)
