theorem q_712 : Cond.lays "FieldMemberModel" "FieldMemberModel" "fault" "I" ∈ TT := tt_t (i := 712) (by decide +kernel) (by decide +kernel)
theorem q_714 : Cond.lays "FieldMemberModel" "FieldMemberModel" "types" "I" ∈ TT := tt_t (i := 714) (by decide +kernel) (by decide +kernel)
theorem q_716 : Cond.laysFinal "FieldMemberModel" "FieldMemberModel" "sorts" "[I" ∈ TT := tt_t (i := 716) (by decide +kernel) (by decide +kernel)
theorem q_718 : Cond.laysFinal "FieldMemberModel" "FieldMemberModel" "parents" "[I" ∈ TT := tt_t (i := 718) (by decide +kernel) (by decide +kernel)
theorem q_720 : Cond.laysFinal "FieldMemberModel" "FieldMemberModel" "faces" "[I" ∈ TT := tt_t (i := 720) (by decide +kernel) (by decide +kernel)
theorem q_722 : Cond.laysFinal "FieldMemberModel" "FieldMemberModel" "faceCount" "[I" ∈ TT := tt_t (i := 722) (by decide +kernel) (by decide +kernel)
theorem q_724 : Cond.laysFinal "FieldMemberModel" "FieldMemberModel" "isBelow" "[Z" ∈ TT := tt_t (i := 724) (by decide +kernel) (by decide +kernel)
theorem q_726 : Cond.lays "FieldMemberModel" "FieldMemberModel" "entries" "I" ∈ TT := tt_t (i := 726) (by decide +kernel) (by decide +kernel)
theorem q_728 : Cond.laysFinal "FieldMemberModel" "FieldMemberModel" "isMember" "[Z" ∈ TT := tt_t (i := 728) (by decide +kernel) (by decide +kernel)
theorem q_730 : Cond.laysFinal "FieldMemberModel" "FieldMemberModel" "ofType" "[I" ∈ TT := tt_t (i := 730) (by decide +kernel) (by decide +kernel)
theorem q_732 : Cond.laysFinal "FieldMemberModel" "FieldMemberModel" "names" "[I" ∈ TT := tt_t (i := 732) (by decide +kernel) (by decide +kernel)
theorem q_734 : Cond.laysFinal "FieldMemberModel" "FieldMemberModel" "kinds" "[I" ∈ TT := tt_t (i := 734) (by decide +kernel) (by decide +kernel)
theorem q_736 : Cond.laysFinal "FieldMemberModel" "FieldMemberModel" "dims" "[I" ∈ TT := tt_t (i := 736) (by decide +kernel) (by decide +kernel)
theorem q_738 : Cond.laysFinal "FieldMemberModel" "FieldMemberModel" "marks" "[I" ∈ TT := tt_t (i := 738) (by decide +kernel) (by decide +kernel)
theorem q_740 : Cond.laysFinal "FieldMemberModel" "FieldMemberModel" "isTold" "[Z" ∈ TT := tt_t (i := 740) (by decide +kernel) (by decide +kernel)
theorem q_742 : Cond.laysFinal "FieldMemberModel" "FieldMemberModel" "told" "[J" ∈ TT := tt_t (i := 742) (by decide +kernel) (by decide +kernel)
theorem q_744 : Cond.laysFinal "FieldMemberModel" "FieldMemberModel" "hasBody" "[Z" ∈ TT := tt_t (i := 744) (by decide +kernel) (by decide +kernel)
theorem q_746 : Cond.laysFinal "FieldMemberModel" "FieldMemberModel" "isVaried" "[Z" ∈ TT := tt_t (i := 746) (by decide +kernel) (by decide +kernel)
theorem q_748 : Cond.laysFinal "FieldMemberModel" "FieldMemberModel" "many" "[I" ∈ TT := tt_t (i := 748) (by decide +kernel) (by decide +kernel)
theorem q_750 : Cond.laysFinal "FieldMemberModel" "FieldMemberModel" "partKinds" "[I" ∈ TT := tt_t (i := 750) (by decide +kernel) (by decide +kernel)
theorem q_752 : Cond.laysFinal "FieldMemberModel" "FieldMemberModel" "partDims" "[I" ∈ TT := tt_t (i := 752) (by decide +kernel) (by decide +kernel)
theorem q_754 : Cond.lays "FieldMemberModel" "FieldMemberModel" "isBegun" "Z" ∈ TT := tt_t (i := 754) (by decide +kernel) (by decide +kernel)
theorem q_756 : Cond.lays "FieldMemberModel" "FieldMemberModel" "waits" "I" ∈ TT := tt_t (i := 756) (by decide +kernel) (by decide +kernel)
theorem q_758 : Cond.laysFinal "FieldMemberModel" "FieldMemberModel" "argumentKinds" "[I" ∈ TT := tt_t (i := 758) (by decide +kernel) (by decide +kernel)
theorem q_760 : Cond.laysFinal "FieldMemberModel" "FieldMemberModel" "argumentDims" "[I" ∈ TT := tt_t (i := 760) (by decide +kernel) (by decide +kernel)
theorem q_762 : Cond.lays "FieldMemberModel" "FieldMemberModel" "way" "I" ∈ TT := tt_t (i := 762) (by decide +kernel) (by decide +kernel)
theorem q_764 : Cond.lays "FieldMemberModel" "FieldMemberModel" "rulesBroken" "I" ∈ TT := tt_t (i := 764) (by decide +kernel) (by decide +kernel)
theorem q_766 : Cond.laysFinal "FieldMemberModel" "FieldMemberModel" "broken" "[I" ∈ TT := tt_t (i := 766) (by decide +kernel) (by decide +kernel)
theorem q_768 : Cond.laysFinal "FieldMemberModel" "FieldMemberModel" "met" "[I" ∈ TT := tt_t (i := 768) (by decide +kernel) (by decide +kernel)
theorem q_770 : Cond.laysFinal "FieldMemberModel" "FieldMemberModel" "foundIn" "[I" ∈ TT := tt_t (i := 770) (by decide +kernel) (by decide +kernel)
theorem q_772 : Cond.laysFinal "FieldMemberModel" "FieldMemberModel" "isCandidate" "[Z" ∈ TT := tt_t (i := 772) (by decide +kernel) (by decide +kernel)
theorem q_774 : Cond.laysFinal "FieldMemberModel" "FieldMemberModel" "isFound" "[Z" ∈ TT := tt_t (i := 774) (by decide +kernel) (by decide +kernel)
theorem q_776 : Cond.laysFinal "FieldMemberModel" "FieldMemberModel" "isTaken" "[Z" ∈ TT := tt_t (i := 776) (by decide +kernel) (by decide +kernel)
theorem iX8 : ∀ w ∈ wsX80, w ∈ TT := by
  have h : wsX80 = [Cond.lays "FieldMemberModel" "FieldMemberModel" "fault" "I", Cond.lays "FieldMemberModel" "FieldMemberModel" "types" "I", Cond.laysFinal "FieldMemberModel" "FieldMemberModel" "sorts" "[I", Cond.laysFinal "FieldMemberModel" "FieldMemberModel" "parents" "[I", Cond.laysFinal "FieldMemberModel" "FieldMemberModel" "faces" "[I", Cond.laysFinal "FieldMemberModel" "FieldMemberModel" "faceCount" "[I", Cond.laysFinal "FieldMemberModel" "FieldMemberModel" "isBelow" "[Z", Cond.lays "FieldMemberModel" "FieldMemberModel" "entries" "I", Cond.laysFinal "FieldMemberModel" "FieldMemberModel" "isMember" "[Z", Cond.laysFinal "FieldMemberModel" "FieldMemberModel" "ofType" "[I", Cond.laysFinal "FieldMemberModel" "FieldMemberModel" "names" "[I", Cond.laysFinal "FieldMemberModel" "FieldMemberModel" "kinds" "[I", Cond.laysFinal "FieldMemberModel" "FieldMemberModel" "dims" "[I", Cond.laysFinal "FieldMemberModel" "FieldMemberModel" "marks" "[I", Cond.laysFinal "FieldMemberModel" "FieldMemberModel" "isTold" "[Z", Cond.laysFinal "FieldMemberModel" "FieldMemberModel" "told" "[J", Cond.laysFinal "FieldMemberModel" "FieldMemberModel" "hasBody" "[Z", Cond.laysFinal "FieldMemberModel" "FieldMemberModel" "isVaried" "[Z", Cond.laysFinal "FieldMemberModel" "FieldMemberModel" "many" "[I", Cond.laysFinal "FieldMemberModel" "FieldMemberModel" "partKinds" "[I", Cond.laysFinal "FieldMemberModel" "FieldMemberModel" "partDims" "[I", Cond.lays "FieldMemberModel" "FieldMemberModel" "isBegun" "Z", Cond.lays "FieldMemberModel" "FieldMemberModel" "waits" "I", Cond.laysFinal "FieldMemberModel" "FieldMemberModel" "argumentKinds" "[I", Cond.laysFinal "FieldMemberModel" "FieldMemberModel" "argumentDims" "[I", Cond.lays "FieldMemberModel" "FieldMemberModel" "way" "I", Cond.lays "FieldMemberModel" "FieldMemberModel" "rulesBroken" "I", Cond.laysFinal "FieldMemberModel" "FieldMemberModel" "broken" "[I", Cond.laysFinal "FieldMemberModel" "FieldMemberModel" "met" "[I", Cond.laysFinal "FieldMemberModel" "FieldMemberModel" "foundIn" "[I", Cond.laysFinal "FieldMemberModel" "FieldMemberModel" "isCandidate" "[Z", Cond.laysFinal "FieldMemberModel" "FieldMemberModel" "isFound" "[Z", Cond.laysFinal "FieldMemberModel" "FieldMemberModel" "isTaken" "[Z"] := by decide +kernel
  rw [h]
  exact tt_c q_712 (tt_c q_714 (tt_c q_716 (tt_c q_718 (tt_c q_720 (tt_c q_722 (tt_c q_724 (tt_c q_726 (tt_c q_728 (tt_c q_730 (tt_c q_732 (tt_c q_734 (tt_c q_736 (tt_c q_738 (tt_c q_740 (tt_c q_742 (tt_c q_744 (tt_c q_746 (tt_c q_748 (tt_c q_750 (tt_c q_752 (tt_c q_754 (tt_c q_756 (tt_c q_758 (tt_c q_760 (tt_c q_762 (tt_c q_764 (tt_c q_766 (tt_c q_768 (tt_c q_770 (tt_c q_772 (tt_c q_774 (tt_c q_776 (fun _ h => nomatch h)))))))))))))))))))))))))))))))))
theorem dX8_in_0 : decode cX8_in 0 = .ok (.iload_n 0, 1) := by decide +kernel
theorem dX8_in_1 : decode cX8_in 1 = .ok (.iload_n 1, 1) := by decide +kernel
theorem dX8_in_2 : decode cX8_in 2 = .ok (.if_icmp .lt 12, 3) := by decide +kernel
theorem dX8_in_14 : decode cX8_in 14 = .ok (.iconst 0, 1) := by decide +kernel
theorem dX8_in_15 : decode cX8_in 15 = .ok (.ireturn, 1) := by decide +kernel
theorem dX8_in_5 : decode cX8_in 5 = .ok (.iload_n 0, 1) := by decide +kernel
theorem dX8_in_6 : decode cX8_in 6 = .ok (.iload_n 2, 1) := by decide +kernel
theorem dX8_in_7 : decode cX8_in 7 = .ok (.if_icmp .gt 7, 3) := by decide +kernel
theorem dX8_in_10 : decode cX8_in 10 = .ok (.iconst 1, 1) := by decide +kernel
theorem dX8_in_11 : decode cX8_in 11 = .ok (.goto 4, 3) := by decide +kernel
theorem dX8_isType_0 : decode cX8_isType 0 = .ok (.iload_n 1, 1) := by decide +kernel
theorem dX8_isType_1 : decode cX8_isType 1 = .ok (.iconst 0, 1) := by decide +kernel
theorem dX8_isType_2 : decode cX8_isType 2 = .ok (.aload_n 0, 1) := by decide +kernel
theorem q_680 : Cond.fieldLink "FieldMemberModel" 94 "FieldMemberModel" "types" "I" ∈ TT := tt_t (i := 680) (by decide +kernel) (by decide +kernel)
theorem dX8_isType_3 : decode cX8_isType 3 = .ok (.getfield 94, 3) := by decide +kernel
theorem dX8_isType_6 : decode cX8_isType 6 = .ok (.iconst 1, 1) := by decide +kernel
theorem dX8_isType_7 : decode cX8_isType 7 = .ok (.isub, 1) := by decide +kernel
theorem q_788 : Cond.methodLink "FieldMemberModel" 97 ⟨"FieldMemberModel", "in", "(III)Z"⟩ ∈ TT := tt_t (i := 788) (by decide +kernel) (by decide +kernel)
theorem q_790 : Cond.code ⟨"FieldMemberModel", "in", "(III)Z"⟩ prog_10_method_3_code 3 (some .boolean) ∈ TT := tt_t (i := 790) (by decide +kernel) (by decide +kernel)
theorem q_4 : Cond.initialized "FieldMemberModel" ∈ TT := tt_t (i := 4) (by decide +kernel) (by decide +kernel)
theorem q_789 : Cond.static ⟨"FieldMemberModel", "in", "(III)Z"⟩ ∈ TT := tt_t (i := 789) (by decide +kernel) (by decide +kernel)
theorem gS_X8_X8_in : GoodIn TT (va_wsS RX8 97 yX8_in (ww yX8_in cX8_in 3 (some .boolean))) := tt_S q_788 q_789 q_4 q_790
theorem hdS_X8_in : yX8_in.cls ≠ "java/lang/invoke/MethodHandle" ∧ yX8_in.cls ≠ "java/lang/invoke/VarHandle" ∧ (parseMethodDescriptor yX8_in.desc).map (fun d => d.parameters.length) = some 3 := by decide +kernel
theorem dX8_isType_8 : decode cX8_isType 8 = .ok (.invokestatic 97, 3) := by decide +kernel
theorem dX8_isType_11 : decode cX8_isType 11 = .ok (.ireturn, 1) := by decide +kernel
theorem dX8_isFace_0 : decode cX8_isFace 0 = .ok (.aload_n 0, 1) := by decide +kernel
theorem q_681 : Cond.fieldLink "FieldMemberModel" 7 "FieldMemberModel" "sorts" "[I" ∈ TT := tt_t (i := 681) (by decide +kernel) (by decide +kernel)
theorem dX8_isFace_1 : decode cX8_isFace 1 = .ok (.getfield 7, 3) := by decide +kernel
theorem dX8_isFace_4 : decode cX8_isFace 4 = .ok (.iload_n 1, 1) := by decide +kernel
theorem dX8_isFace_5 : decode cX8_isFace 5 = .ok (.iaload, 1) := by decide +kernel
theorem dX8_isFace_6 : decode cX8_isFace 6 = .ok (.iconst 3, 1) := by decide +kernel
theorem dX8_isFace_7 : decode cX8_isFace 7 = .ok (.if_icmp .ne 7, 3) := by decide +kernel
theorem dX8_isFace_14 : decode cX8_isFace 14 = .ok (.iconst 0, 1) := by decide +kernel
theorem dX8_isFace_15 : decode cX8_isFace 15 = .ok (.ireturn, 1) := by decide +kernel
theorem dX8_isFace_10 : decode cX8_isFace 10 = .ok (.iconst 1, 1) := by decide +kernel
theorem dX8_isFace_11 : decode cX8_isFace 11 = .ok (.goto 4, 3) := by decide +kernel
theorem dX8_lies_0 : decode cX8_lies 0 = .ok (.aload_n 0, 1) := by decide +kernel
theorem q_685 : Cond.fieldLink "FieldMemberModel" 22 "FieldMemberModel" "isBelow" "[Z" ∈ TT := tt_t (i := 685) (by decide +kernel) (by decide +kernel)
theorem dX8_lies_1 : decode cX8_lies 1 = .ok (.getfield 22, 3) := by decide +kernel
theorem dX8_lies_4 : decode cX8_lies 4 = .ok (.bipush 12, 2) := by decide +kernel
theorem dX8_lies_6 : decode cX8_lies 6 = .ok (.iload_n 1, 1) := by decide +kernel
theorem dX8_lies_7 : decode cX8_lies 7 = .ok (.imul, 1) := by decide +kernel
theorem dX8_lies_8 : decode cX8_lies 8 = .ok (.iload_n 2, 1) := by decide +kernel
theorem dX8_lies_9 : decode cX8_lies 9 = .ok (.iadd, 1) := by decide +kernel
theorem dX8_lies_10 : decode cX8_lies 10 = .ok (.baload, 1) := by decide +kernel
theorem dX8_lies_11 : decode cX8_lies 11 = .ok (.ireturn, 1) := by decide +kernel
set_option maxHeartbeats 4000000 in
set_option maxRecDepth 100000 in
theorem m_in (l : Launch) (D : va_G) (G : Nat → ClassId) (H : Heap) (v : Int32) (lo : Int32) (hi : Int32) : Met l yX8_in (ww yX8_in cX8_in 3 (some .boolean)) (rmD 0) (roP D G H [.int v, .int lo, .int hi]) (vp_Si (fun r => r = bI (lo ≤ v ∧ v ≤ hi))) 0 0 (fun _ => False) := by
  refine Met.ofW (cc := cX8_in) (maxL := 3) (ret := (some .boolean)) (by decide) rfl ?_
  intro p e s m args below meth c s₁ B hml hv
  obtain ⟨rfl, hH, hK⟩ := hv
  have hx := B.exec
  have hb := B.bytes
  have hr := B.returns
  have hts : ∀ w ∈ TT, w.before _ s = true := fun w h => atoms_spec (ws := ww yX8_in cX8_in 3 (some .boolean)) B.pre w (List.mem_cons_of_mem _ h)
  have hown : s.vm.findClass RX8 = some m.cls := findClass_of_methodNamed B.named
  have hlocks := B.notSynchronized
  rw [hH]
  have hl := lv_entry ([.int v, .int lo, .int hi]) (n := 3) (Nat.le_of_ble_eq_true rfl)
  rw [lg_entry_eq]
  generalize (lg_sl ([.int v, .int lo, .int hi]) ++ List.replicate (3 - (lg_sl ([.int v, .int lo, .int hi])).length) Slot.unset).toArray = ls at hl ⊢
  have hl : lv_has ls 3 [(0, .int v), (1, .int lo), (2, .int hi)] := hl
  refine lv_iload_n hx hb dX8_in_0 rfl (lv_at hl 0 rfl) ?_
  refine lv_iload_n hx hb dX8_in_1 rfl (lv_at hl 1 rfl) ?_
  refine lv_icmp_lt (tgt := 14) hx hb dX8_in_2 (by decide) (fun c1 => ?_) (fun c1 => ?_)
  · -- 2 taken
    refine lv_iconst (v := 0) hx hb dX8_in_14 (by decide) ?_
    exact ro_zret (v := 0) hx hb hr hH hlocks dX8_in_15 (Or.inl rfl) ((bI_f (by simp only [i_le, i_lt, i_eq, Int32.reduceToInt] at c1 ⊢; omega)).symm)
  · -- 2 not
    refine lv_iload_n hx hb dX8_in_5 rfl (lv_at hl 0 rfl) ?_
    refine lv_iload_n hx hb dX8_in_6 rfl (lv_at hl 2 rfl) ?_
    refine lv_icmp_gt (tgt := 14) hx hb dX8_in_7 (by decide) (fun c2 => ?_) (fun c2 => ?_)
    · -- 7 taken
      refine lv_iconst (v := 0) hx hb dX8_in_14 (by decide) ?_
      exact ro_zret (v := 0) hx hb hr hH hlocks dX8_in_15 (Or.inl rfl) ((bI_f (by simp only [i_le, i_lt, i_eq, Int32.reduceToInt] at c1 c2 ⊢; omega)).symm)
    · -- 7 not
      refine lv_iconst (v := 1) hx hb dX8_in_10 (by decide) ?_
      refine lv_goto (tgt := 15) hx hb dX8_in_11 (by decide) ?_
      exact ro_zret (v := 1) hx hb hr hH hlocks dX8_in_15 (Or.inr rfl) ((bI_t (by simp only [i_le, i_lt, i_eq, Int32.reduceToInt] at c1 c2 ⊢; omega)).symm)
set_option maxHeartbeats 4000000 in
set_option maxRecDepth 100000 in
theorem m_isType (l : Launch) (D : va_G) (G : Nat → ClassId) (H : Heap) (mo : Nat) (ad : Nat → Nat) (σ : MS) (τ : Nat → Int64) (hP : va_P D vwCl (mW G mo ad σ τ) H) (t : Int32) : Met l yX8_isType (ww yX8_isType cX8_isType 2 (some .boolean)) (rmD 1) (roP D G H [.ref mo, .int t]) (vp_Si (fun r => r = bI (0 ≤ t ∧ t ≤ σ 1 0 - 1))) 0 0 (fun _ => False) := by
  refine Met.ofW (cc := cX8_isType) (maxL := 2) (ret := (some .boolean)) (by decide) rfl ?_
  intro p e s m args below meth c s₁ B hml hv
  obtain ⟨rfl, hH, hK⟩ := hv
  have hx := B.exec
  have hb := B.bytes
  have hr := B.returns
  have hts : ∀ w ∈ TT, w.before _ s = true := fun w h => atoms_spec (ws := ww yX8_isType cX8_isType 2 (some .boolean)) B.pre w (List.mem_cons_of_mem _ h)
  have hown : s.vm.findClass RX8 = some m.cls := findClass_of_methodNamed B.named
  have hlocks := B.notSynchronized
  rw [hH]
  have hl := lv_entry ([.ref mo, .int t]) (n := 2) (Nat.le_of_ble_eq_true rfl)
  rw [lg_entry_eq]
  generalize (lg_sl ([.ref mo, .int t]) ++ List.replicate (2 - (lg_sl ([.ref mo, .int t])).length) Slot.unset).toArray = ls at hl ⊢
  have hl : lv_has ls 2 [(0, .ref mo), (1, .int t)] := hl
  refine lv_iload_n hx hb dX8_isType_0 rfl (lv_at hl 1 rfl) ?_
  refine lv_iconst (v := 0) hx hb dX8_isType_1 (by decide) ?_
  refine lv_aload_n hx hb dX8_isType_2 rfl (lv_at hl 0 rfl) ?_
  refine va_get (D := D) (ci := 8) (v := .int (σ 1 0)) (C := RX8) (T := TX8) (N := 33) hx hb hts iX8 hown hK.1 hP 0 rfl rfl 1 (by decide) (hts _ q_680) (fun _ h9 => h9) rfl dX8_isType_3 ?_
  refine lv_iconst (v := 1) hx hb dX8_isType_6 (by decide) ?_
  refine lv_isub hx hb dX8_isType_7 ?_
  refine ro_Si (D := D) (G := G) (As := [.int t, .int 0, .int ((σ 1 0) - 1)]) (rest := []) ⟨hx, hb, hml, hown, hts⟩ (m_in l D G _ t 0 ((σ 1 0) - 1)) gS_X8_X8_in hdS_X8_in ⟨Nat.le_of_ble_eq_true rfl, Nat.le_of_ble_eq_true rfl⟩ hK rfl hl.1 rfl (Nat.le_of_ble_eq_true rfl) dX8_isType_8 ⟨Nat.le_of_ble_eq_true rfl, Nat.le_of_ble_eq_true rfl⟩ (fun r1 e_r1 => ?_)
  subst e_r1
  exact ro_zret (v := bI (0 ≤ t ∧ t ≤ (σ 1 0) - 1)) hx hb hr hH hlocks dX8_isType_11 bI_b (rfl)
set_option maxHeartbeats 4000000 in
set_option maxRecDepth 100000 in
theorem m_isFace (l : Launch) (D : va_G) (G : Nat → ClassId) (H : Heap) (mo : Nat) (ad : Nat → Nat) (σ : MS) (τ : Nat → Int64) (hP : va_P D vwCl (mW G mo ad σ τ) H) (t : Nat) (ht : t < 12) : Met l yX8_isFace (ww yX8_isFace cX8_isFace 2 (some .boolean)) (rmD 0) (roP D G H [.ref mo, .int (nI t)]) (vp_Si (fun r => r = bI (σ 2 t = 3))) 0 0 (fun _ => False) := by
  refine Met.ofW (cc := cX8_isFace) (maxL := 2) (ret := (some .boolean)) (by decide) rfl ?_
  intro p e s m args below meth c s₁ B hml hv
  obtain ⟨rfl, hH, hK⟩ := hv
  have hx := B.exec
  have hb := B.bytes
  have hr := B.returns
  have hts : ∀ w ∈ TT, w.before _ s = true := fun w h => atoms_spec (ws := ww yX8_isFace cX8_isFace 2 (some .boolean)) B.pre w (List.mem_cons_of_mem _ h)
  have hown : s.vm.findClass RX8 = some m.cls := findClass_of_methodNamed B.named
  have hlocks := B.notSynchronized
  rw [hH]
  have hl := lv_entry ([.ref mo, .int (nI t)]) (n := 2) (Nat.le_of_ble_eq_true rfl)
  rw [lg_entry_eq]
  generalize (lg_sl ([.ref mo, .int (nI t)]) ++ List.replicate (2 - (lg_sl ([.ref mo, .int (nI t)])).length) Slot.unset).toArray = ls at hl ⊢
  have hl : lv_has ls 2 [(0, .ref mo), (1, .int (nI t))] := hl
  refine lv_aload_n hx hb dX8_isFace_0 rfl (lv_at hl 0 rfl) ?_
  refine va_get (D := D) (ci := 8) (v := .ref ((ad 2))) (C := RX8) (T := TX8) (N := 33) hx hb hts iX8 hown hK.1 hP 0 rfl rfl 2 (by decide) (hts _ q_681) (fun _ h9 => h9) rfl dX8_isFace_1 ?_
  refine lv_iload_n hx hb dX8_isFace_4 rfl (lv_at hl 1 rfl) ?_
  refine iald_n (f := σ 2) hx hb hK.1 hP 1 0 rfl rfl (t) rfl (by omega) (by decide) dX8_isFace_5 ?_
  refine lv_iconst (v := 3) hx hb dX8_isFace_6 (by decide) ?_
  refine lv_icmp_ne (tgt := 14) hx hb dX8_isFace_7 (by decide) (fun c1 => ?_) (fun c1 => ?_)
  · -- 7 taken
    refine lv_iconst (v := 0) hx hb dX8_isFace_14 (by decide) ?_
    exact ro_zret (v := 0) hx hb hr hH hlocks dX8_isFace_15 (Or.inl rfl) ((bI_f c1).symm)
  · -- 7 not
    refine lv_iconst (v := 1) hx hb dX8_isFace_10 (by decide) ?_
    refine lv_goto (tgt := 15) hx hb dX8_isFace_11 (by decide) ?_
    exact ro_zret (v := 1) hx hb hr hH hlocks dX8_isFace_15 (Or.inr rfl) ((bI_t c1).symm)
set_option maxHeartbeats 4000000 in
set_option maxRecDepth 100000 in
theorem m_lies (l : Launch) (D : va_G) (G : Nat → ClassId) (H : Heap) (mo : Nat) (ad : Nat → Nat) (σ : MS) (τ : Nat → Int64) (hP : va_P D vwCl (mW G mo ad σ τ) H) (t o : Nat) (ht : t < 12) (ho : o < 12) (hb6 : ∀ i, σ 6 i = 0 ∨ σ 6 i = 1) : Met l yX8_lies (ww yX8_lies cX8_lies 3 (some .boolean)) (rmD 0) (roP D G H [.ref mo, .int (nI t), .int (nI o)]) (vp_Si (fun r => r = σ 6 (12 * t + o))) 0 0 (fun _ => False) := by
  refine Met.ofW (cc := cX8_lies) (maxL := 3) (ret := (some .boolean)) (by decide) rfl ?_
  intro p e s m args below meth c s₁ B hml hv
  obtain ⟨rfl, hH, hK⟩ := hv
  have hx := B.exec
  have hb := B.bytes
  have hr := B.returns
  have hts : ∀ w ∈ TT, w.before _ s = true := fun w h => atoms_spec (ws := ww yX8_lies cX8_lies 3 (some .boolean)) B.pre w (List.mem_cons_of_mem _ h)
  have hown : s.vm.findClass RX8 = some m.cls := findClass_of_methodNamed B.named
  have hlocks := B.notSynchronized
  rw [hH]
  have hl := lv_entry ([.ref mo, .int (nI t), .int (nI o)]) (n := 3) (Nat.le_of_ble_eq_true rfl)
  rw [lg_entry_eq]
  generalize (lg_sl ([.ref mo, .int (nI t), .int (nI o)]) ++ List.replicate (3 - (lg_sl ([.ref mo, .int (nI t), .int (nI o)])).length) Slot.unset).toArray = ls at hl ⊢
  have hl : lv_has ls 3 [(0, .ref mo), (1, .int (nI t)), (2, .int (nI o))] := hl
  refine lv_aload_n hx hb dX8_lies_0 rfl (lv_at hl 0 rfl) ?_
  refine va_get (D := D) (ci := 8) (v := .ref ((ad 6))) (C := RX8) (T := TX8) (N := 33) hx hb hts iX8 hown hK.1 hP 0 rfl rfl 6 (by decide) (hts _ q_685) (fun _ h9 => h9) rfl dX8_lies_1 ?_
  refine lv_bipush (v := 12) hx hb dX8_lies_4 (by decide) ?_
  refine lv_iload_n hx hb dX8_lies_6 rfl (lv_at hl 1 rfl) ?_
  refine lv_imul hx hb dX8_lies_7 ?_
  refine lv_iload_n hx hb dX8_lies_8 rfl (lv_at hl 2 rfl) ?_
  refine lv_iadd hx hb dX8_lies_9 ?_
  refine zald_n (f := σ 6) hx hb hK.1 hP 5 2 rfl rfl (((12 * t) + o)) (n_add (n_mul rfl rfl) rfl) (by omega) (by decide) dX8_lies_10 ?_
  exact ro_zret (v := σ 6 (((12 * t) + o))) hx hb hr hH hlocks dX8_lies_11 (hb6 _) (rfl)
