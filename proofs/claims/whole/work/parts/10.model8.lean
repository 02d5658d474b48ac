theorem dX8_nearest_0 : decode cX8_nearest 0 = .ok (.iconst 0, 1) := by decide +kernel
theorem dX8_nearest_1 : decode cX8_nearest 1 = .ok (.istore_n 2, 1) := by decide +kernel
theorem dX8_nearest_2 : decode cX8_nearest 2 = .ok (.iload_n 2, 1) := by decide +kernel
theorem dX8_nearest_3 : decode cX8_nearest 3 = .ok (.aload_n 0, 1) := by decide +kernel
theorem dX8_nearest_4 : decode cX8_nearest 4 = .ok (.getfield 119, 3) := by decide +kernel
theorem dX8_nearest_7 : decode cX8_nearest 7 = .ok (.if_icmp .ge 38, 3) := by decide +kernel
theorem dX8_nearest_45 : decode cX8_nearest 45 = .ok (.iconst (-1), 1) := by decide +kernel
theorem dX8_nearest_46 : decode cX8_nearest 46 = .ok (.istore_n 2, 1) := by decide +kernel
theorem dX8_nearest_47 : decode cX8_nearest 47 = .ok (.iconst 0, 1) := by decide +kernel
theorem dX8_nearest_48 : decode cX8_nearest 48 = .ok (.istore_n 3, 1) := by decide +kernel
theorem dX8_nearest_49 : decode cX8_nearest 49 = .ok (.iconst 0, 1) := by decide +kernel
theorem dX8_nearest_50 : decode cX8_nearest 50 = .ok (.istore 4, 2) := by decide +kernel
theorem dX8_nearest_52 : decode cX8_nearest 52 = .ok (.iload 4, 2) := by decide +kernel
theorem dX8_nearest_54 : decode cX8_nearest 54 = .ok (.aload_n 0, 1) := by decide +kernel
theorem dX8_nearest_55 : decode cX8_nearest 55 = .ok (.getfield 119, 3) := by decide +kernel
theorem dX8_nearest_58 : decode cX8_nearest 58 = .ok (.if_icmp .ge 114, 3) := by decide +kernel
theorem dX8_nearest_172 : decode cX8_nearest 172 = .ok (.iload_n 3, 1) := by decide +kernel
theorem dX8_nearest_173 : decode cX8_nearest 173 = .ok (.ifCond .eq 13, 3) := by decide +kernel
theorem dX8_nearest_186 : decode cX8_nearest 186 = .ok (.iload_n 2, 1) := by decide +kernel
theorem dX8_nearest_187 : decode cX8_nearest 187 = .ok (.ireturn, 1) := by decide +kernel
theorem dX8_nearest_176 : decode cX8_nearest 176 = .ok (.iload_n 2, 1) := by decide +kernel
theorem dX8_nearest_177 : decode cX8_nearest 177 = .ok (.iconst (-1), 1) := by decide +kernel
theorem dX8_nearest_178 : decode cX8_nearest 178 = .ok (.if_icmp .ne 8, 3) := by decide +kernel
theorem dX8_nearest_181 : decode cX8_nearest 181 = .ok (.bipush (-2), 2) := by decide +kernel
theorem dX8_nearest_183 : decode cX8_nearest 183 = .ok (.goto 4, 3) := by decide +kernel
theorem dX8_nearest_61 : decode cX8_nearest 61 = .ok (.aload_n 0, 1) := by decide +kernel
theorem q_711 : Cond.fieldLink "FieldMemberModel" 87 "FieldMemberModel" "isTaken" "[Z" ∈ TT := tt_t (i := 711) (by decide +kernel) (by decide +kernel)
theorem dX8_nearest_62 : decode cX8_nearest 62 = .ok (.getfield 87, 3) := by decide +kernel
theorem dX8_nearest_65 : decode cX8_nearest 65 = .ok (.iload 4, 2) := by decide +kernel
theorem dX8_nearest_67 : decode cX8_nearest 67 = .ok (.baload, 1) := by decide +kernel
theorem dX8_nearest_68 : decode cX8_nearest 68 = .ok (.istore 5, 2) := by decide +kernel
theorem dX8_nearest_84 : decode cX8_nearest 84 = .ok (.istore_n 3, 1) := by decide +kernel
theorem dX8_nearest_85 : decode cX8_nearest 85 = .ok (.iconst 0, 1) := by decide +kernel
theorem dX8_nearest_86 : decode cX8_nearest 86 = .ok (.istore 6, 2) := by decide +kernel
theorem dX8_nearest_88 : decode cX8_nearest 88 = .ok (.iload 6, 2) := by decide +kernel
theorem dX8_nearest_90 : decode cX8_nearest 90 = .ok (.aload_n 0, 1) := by decide +kernel
theorem dX8_nearest_91 : decode cX8_nearest 91 = .ok (.getfield 119, 3) := by decide +kernel
theorem dX8_nearest_94 : decode cX8_nearest 94 = .ok (.if_icmp .ge 50, 3) := by decide +kernel
theorem dX8_nearest_165 : decode cX8_nearest 165 = .ok (.istore_n 2, 1) := by decide +kernel
theorem dX8_nearest_166 : decode cX8_nearest 166 = .ok (.iinc 4 1, 3) := by decide +kernel
theorem dX8_nearest_169 : decode cX8_nearest 169 = .ok (.goto (-117), 3) := by decide +kernel
theorem dX8_nearest_144 : decode cX8_nearest 144 = .ok (.iload 5, 2) := by decide +kernel
theorem dX8_nearest_146 : decode cX8_nearest 146 = .ok (.ifCond .eq 18, 3) := by decide +kernel
theorem dX8_nearest_164 : decode cX8_nearest 164 = .ok (.iload_n 2, 1) := by decide +kernel
theorem dX8_nearest_149 : decode cX8_nearest 149 = .ok (.iload_n 2, 1) := by decide +kernel
theorem dX8_nearest_150 : decode cX8_nearest 150 = .ok (.iconst (-1), 1) := by decide +kernel
theorem dX8_nearest_151 : decode cX8_nearest 151 = .ok (.if_icmp .ne 8, 3) := by decide +kernel
theorem dX8_nearest_159 : decode cX8_nearest 159 = .ok (.bipush (-2), 2) := by decide +kernel
theorem dX8_nearest_161 : decode cX8_nearest 161 = .ok (.goto 4, 3) := by decide +kernel
theorem dX8_nearest_154 : decode cX8_nearest 154 = .ok (.iload 4, 2) := by decide +kernel
theorem dX8_nearest_156 : decode cX8_nearest 156 = .ok (.goto 9, 3) := by decide +kernel
theorem dX8_nearest_136 : decode cX8_nearest 136 = .ok (.istore 5, 2) := by decide +kernel
theorem dX8_nearest_138 : decode cX8_nearest 138 = .ok (.iinc 6 1, 3) := by decide +kernel
theorem dX8_nearest_141 : decode cX8_nearest 141 = .ok (.goto (-53), 3) := by decide +kernel
theorem dX8_nearest_97 : decode cX8_nearest 97 = .ok (.iload 5, 2) := by decide +kernel
theorem dX8_nearest_99 : decode cX8_nearest 99 = .ok (.ifCond .eq 36, 3) := by decide +kernel
theorem dX8_nearest_135 : decode cX8_nearest 135 = .ok (.iconst 0, 1) := by decide +kernel
theorem dX8_nearest_102 : decode cX8_nearest 102 = .ok (.iload 6, 2) := by decide +kernel
theorem dX8_nearest_104 : decode cX8_nearest 104 = .ok (.iload 4, 2) := by decide +kernel
theorem dX8_nearest_106 : decode cX8_nearest 106 = .ok (.if_icmp .eq 25, 3) := by decide +kernel
theorem dX8_nearest_131 : decode cX8_nearest 131 = .ok (.iconst 1, 1) := by decide +kernel
theorem dX8_nearest_132 : decode cX8_nearest 132 = .ok (.goto 4, 3) := by decide +kernel
theorem dX8_nearest_109 : decode cX8_nearest 109 = .ok (.aload_n 0, 1) := by decide +kernel
theorem dX8_nearest_110 : decode cX8_nearest 110 = .ok (.getfield 87, 3) := by decide +kernel
theorem dX8_nearest_113 : decode cX8_nearest 113 = .ok (.iload 6, 2) := by decide +kernel
theorem dX8_nearest_115 : decode cX8_nearest 115 = .ok (.baload, 1) := by decide +kernel
theorem dX8_nearest_116 : decode cX8_nearest 116 = .ok (.ifCond .eq 15, 3) := by decide +kernel
theorem dX8_nearest_119 : decode cX8_nearest 119 = .ok (.aload_n 0, 1) := by decide +kernel
theorem dX8_nearest_120 : decode cX8_nearest 120 = .ok (.iload 4, 2) := by decide +kernel
theorem dX8_nearest_122 : decode cX8_nearest 122 = .ok (.iload 6, 2) := by decide +kernel
theorem dX8_nearest_124 : decode cX8_nearest 124 = .ok (.iload_n 1, 1) := by decide +kernel
theorem q_976 : Cond.methodLink "FieldMemberModel" 216 ⟨"FieldMemberModel", "isNearer", "(IIZ)Z"⟩ ∈ TT := tt_t (i := 976) (by decide +kernel) (by decide +kernel)
theorem q_979 : Cond.code ⟨"FieldMemberModel", "isNearer", "(IIZ)Z"⟩ prog_10_method_45_code 7 (some .boolean) ∈ TT := tt_t (i := 979) (by decide +kernel) (by decide +kernel)
theorem q_978 : Cond.instanceMethod ⟨"FieldMemberModel", "isNearer", "(IIZ)Z"⟩ ∈ TT := tt_t (i := 978) (by decide +kernel) (by decide +kernel)
theorem qs_56 : Cond.selects "FieldMemberModel" ⟨"FieldMemberModel", "isNearer", "(IIZ)Z"⟩ ⟨"FieldMemberModel", "isNearer", "(IIZ)Z"⟩ ∈ TT := tt_s (i := 56) (by decide +kernel) (by decide +kernel)
theorem gV_X8_X8_isNearer : GoodIn TT (wsV RX8 216 RX8 yX8_isNearer (ww yX8_isNearer cX8_isNearer 7 (some .boolean))) := tt_V q_976 q_978 qs_56 q_4 q_979
theorem hdV_X8_isNearer : yX8_isNearer.cls = RX8 ∧ yX8_isNearer.cls ≠ "java/lang/invoke/MethodHandle" ∧ yX8_isNearer.cls ≠ "java/lang/invoke/VarHandle" ∧ (parseMethodDescriptor yX8_isNearer.desc).map (fun d => d.parameters.length) = some 3 := by decide +kernel
theorem dX8_nearest_125 : decode cX8_nearest 125 = .ok (.invokevirtual 216, 3) := by decide +kernel
theorem dX8_nearest_128 : decode cX8_nearest 128 = .ok (.ifCond .eq 7, 3) := by decide +kernel
theorem dX8_nearest_70 : decode cX8_nearest 70 = .ok (.iload_n 3, 1) := by decide +kernel
theorem dX8_nearest_71 : decode cX8_nearest 71 = .ok (.ifCond .ne 8, 3) := by decide +kernel
theorem dX8_nearest_79 : decode cX8_nearest 79 = .ok (.iconst 1, 1) := by decide +kernel
theorem dX8_nearest_80 : decode cX8_nearest 80 = .ok (.goto 4, 3) := by decide +kernel
theorem dX8_nearest_74 : decode cX8_nearest 74 = .ok (.iload 5, 2) := by decide +kernel
theorem dX8_nearest_76 : decode cX8_nearest 76 = .ok (.ifCond .eq 7, 3) := by decide +kernel
theorem dX8_nearest_83 : decode cX8_nearest 83 = .ok (.iconst 0, 1) := by decide +kernel
theorem dX8_nearest_10 : decode cX8_nearest 10 = .ok (.aload_n 0, 1) := by decide +kernel
theorem dX8_nearest_11 : decode cX8_nearest 11 = .ok (.getfield 87, 3) := by decide +kernel
theorem dX8_nearest_14 : decode cX8_nearest 14 = .ok (.iload_n 2, 1) := by decide +kernel
theorem dX8_nearest_38 : decode cX8_nearest 38 = .ok (.bastore, 1) := by decide +kernel
theorem dX8_nearest_39 : decode cX8_nearest 39 = .ok (.iinc 2 1, 3) := by decide +kernel
theorem dX8_nearest_42 : decode cX8_nearest 42 = .ok (.goto (-40), 3) := by decide +kernel
theorem dX8_nearest_15 : decode cX8_nearest 15 = .ok (.aload_n 0, 1) := by decide +kernel
theorem dX8_nearest_16 : decode cX8_nearest 16 = .ok (.getfield 84, 3) := by decide +kernel
theorem dX8_nearest_19 : decode cX8_nearest 19 = .ok (.iload_n 2, 1) := by decide +kernel
theorem dX8_nearest_20 : decode cX8_nearest 20 = .ok (.baload, 1) := by decide +kernel
theorem dX8_nearest_21 : decode cX8_nearest 21 = .ok (.ifCond .eq 16, 3) := by decide +kernel
theorem dX8_nearest_37 : decode cX8_nearest 37 = .ok (.iconst 0, 1) := by decide +kernel
theorem dX8_nearest_24 : decode cX8_nearest 24 = .ok (.aload_n 0, 1) := by decide +kernel
theorem dX8_nearest_25 : decode cX8_nearest 25 = .ok (.iload_n 2, 1) := by decide +kernel
theorem dX8_nearest_26 : decode cX8_nearest 26 = .ok (.iload_n 1, 1) := by decide +kernel
theorem q_957 : Cond.methodLink "FieldMemberModel" 212 ⟨"FieldMemberModel", "takes", "(IZ)Z"⟩ ∈ TT := tt_t (i := 957) (by decide +kernel) (by decide +kernel)
theorem q_960 : Cond.code ⟨"FieldMemberModel", "takes", "(IZ)Z"⟩ prog_10_method_44_code 5 (some .boolean) ∈ TT := tt_t (i := 960) (by decide +kernel) (by decide +kernel)
theorem q_959 : Cond.instanceMethod ⟨"FieldMemberModel", "takes", "(IZ)Z"⟩ ∈ TT := tt_t (i := 959) (by decide +kernel) (by decide +kernel)
theorem qs_52 : Cond.selects "FieldMemberModel" ⟨"FieldMemberModel", "takes", "(IZ)Z"⟩ ⟨"FieldMemberModel", "takes", "(IZ)Z"⟩ ∈ TT := tt_s (i := 52) (by decide +kernel) (by decide +kernel)
theorem gV_X8_X8_takes : GoodIn TT (wsV RX8 212 RX8 yX8_takes (ww yX8_takes cX8_takes 5 (some .boolean))) := tt_V q_957 q_959 qs_52 q_4 q_960
theorem hdV_X8_takes : yX8_takes.cls = RX8 ∧ yX8_takes.cls ≠ "java/lang/invoke/MethodHandle" ∧ yX8_takes.cls ≠ "java/lang/invoke/VarHandle" ∧ (parseMethodDescriptor yX8_takes.desc).map (fun d => d.parameters.length) = some 2 := by decide +kernel
theorem dX8_nearest_27 : decode cX8_nearest 27 = .ok (.invokevirtual 212, 3) := by decide +kernel
theorem dX8_nearest_30 : decode cX8_nearest 30 = .ok (.ifCond .eq 7, 3) := by decide +kernel
theorem dX8_nearest_33 : decode cX8_nearest 33 = .ok (.iconst 1, 1) := by decide +kernel
theorem dX8_nearest_34 : decode cX8_nearest 34 = .ok (.goto 4, 3) := by decide +kernel
set_option maxHeartbeats 4000000 in
set_option maxRecDepth 100000 in
theorem m_nearest (l : Launch) (D : va_G) (G : Nat → ClassId) (mo : Nat) (ad : Nat → Nat) (σ : MS) (τ : Nat → Int64) (sz : Nat) (k : Nat) (h7 : σ 7 0 = nI k) (hk60 : k ≤ 60) (w0 : Nat) (h22 : σ 22 0 = nI w0) (hw : w0 ≤ 5) (hmo : ∀ i, i < k → okM σ i) (hvo : ∀ i, i < k → ¬ σ 17 i = 0 → 1 ≤ mnE σ i) (hkp : ∀ i, i < k → ∀ q, q < mnE σ i → kdO (σ 19 (5 * i + q))) (hkg : ∀ q, q < w0 → kdO (σ 23 q)) (vr : Int32) (hb6 : ∀ i, σ 6 i = 0 ∨ σ 6 i = 1) : Met l yX8_nearest (ww yX8_nearest cX8_nearest 7 (some .int)) (rmD 4) (muP D G sz mo ad (σ, τ) [.ref mo, .int vr]) (muQi D G mo ad (muA G mo ad (σ, τ) sz) ((nrA σ w0 k vr, (nrS σ w0 k vr, τ))).1 ((nrA σ w0 k vr, (nrS σ w0 k vr, τ))).2) 0 0 (muA G mo ad (σ, τ) sz) := by
  refine Met.ofW (cc := cX8_nearest) (maxL := 7) (ret := (some .int)) (by decide) rfl ?_
  intro p e s m args below meth c s₁ B hml hv
  obtain ⟨rfl, hsz, hP, hK, hD0⟩ := hv
  have hx := B.exec
  have hb := B.bytes
  have hr := B.returns
  have hts : ∀ w ∈ TT, w.before _ s = true := fun w h => atoms_spec (ws := ww yX8_nearest cX8_nearest 7 (some .int)) B.pre w (List.mem_cons_of_mem _ h)
  have hown : s.vm.findClass RX8 = some m.cls := findClass_of_methodNamed B.named
  have hlocks := B.notSynchronized
  subst hsz
  have hD : va_D (muA G mo ad (σ, τ) s.heap.size) (mW G mo ad σ τ) := hD0.self
  generalize hAe : muA G mo ad (σ, τ) s.heap.size = A at hD ⊢
  have hA : ∀ q : Nat, s.heap.size ≤ q → A q := fun q h => by rw [← hAe]; exact Or.inr h
  have hS : va_S A s.heap s.heap [] := va_S.rf
  have hP : va_P D vwCl (mW G mo ad σ τ) s.heap := hP
  have hl := lv_entry ([.ref mo, .int vr]) (n := 7) (Nat.le_of_ble_eq_true rfl)
  rw [lg_entry_eq]
  generalize (lg_sl ([.ref mo, .int vr]) ++ List.replicate (7 - (lg_sl ([.ref mo, .int vr])).length) Slot.unset).toArray = ls at hl ⊢
  have hl : lv_has ls 7 [(0, .ref mo), (1, .int vr)] := hl
  refine lv_iconst (v := 0) hx hb dX8_nearest_0 (by decide) ?_
  refine lv_istore_n (lv' := [(2, .int 0), (0, .ref mo), (1, .int vr)]) hx hb dX8_nearest_1 rfl hl (by decide) rfl (fun ls hl => ?_)
  refine w_forM (N := k) 2 (L := fun q9 ls H locs => lv_has ls 7 [(2, .int (nI q9)), (0, .ref mo), (1, .int vr)] ∧ va_P D vwCl (mW G mo ad (st σ 32 (tpF σ w0 vr (σ 32) q9)) (τ)) H ∧ va_D A (mW G mo ad (st σ 32 (tpF σ w0 vr (σ 32) q9)) (τ)) ∧ va_S A s.heap H locs) (fun k9 ls H locs hk hL ih2 => ?_) 0 ls _ _ (by omega) ⟨hl, hP, hD, hS⟩
  obtain ⟨hl, hP, hD, hS⟩ := hL
  have hl : lv_has ls 7 [(2, .int (nI k9)), (0, .ref mo), (1, .int vr)] := hl
  refine lv_iload_n hx hb dX8_nearest_2 rfl (lv_at hl 0 rfl) ?_
  refine lv_aload_n hx hb dX8_nearest_3 rfl (lv_at hl 1 rfl) ?_
  refine va_get (D := D) (ci := 8) (v := .int (σ 7 0)) (C := RX8) (T := TX8) (N := 33) hx hb hts iX8 hown hK.1 hP 0 rfl rfl 7 (by decide) (hts _ q_686) (fun _ h9 => h9) rfl dX8_nearest_4 ?_
  refine lv_icmp_ge (tgt := 45) hx hb dX8_nearest_7 (by decide) (fun c1 => ?_) (fun c1 => ?_)
  · -- 7 taken
    have c1 : k ≤ k9 := (nI_leI (a := k) (b := k9) (by omega) (by omega)).mp (by have h8 := c1; rw [h7] at h8; exact h8)
    obtain rfl : k = k9 := by omega
    have hP : va_P D vwCl (mW G mo ad (st σ 32 (tpF σ w0 vr (σ 32) k)) (τ)) H := hP
    have hD : va_D A (mW G mo ad (st σ 32 (tpF σ w0 vr (σ 32) k)) (τ)) := hD
    refine lv_iconst (v := -1) hx hb dX8_nearest_45 (by decide) ?_
    refine lv_istore_n (lv' := [(2, .int ((-1))), (0, .ref mo), (1, .int vr)]) hx hb dX8_nearest_46 rfl hl (by decide) rfl (fun ls hl => ?_)
    refine lv_iconst (v := 0) hx hb dX8_nearest_47 (by decide) ?_
    refine W.eq (g2 := F0 m 48 ls [.int (bI (smN σ w0 vr 0))]) (congrArg (fun z9 => F0 m 48 ls [.int z9]) smN_0) ?_
    refine lv_istore_n (lv' := [(3, .int (bI (smN σ w0 vr 0))), (2, .int ((-1))), (0, .ref mo), (1, .int vr)]) hx hb dX8_nearest_48 rfl hl (by decide) rfl (fun ls hl => ?_)
    refine lv_iconst (v := 0) hx hb dX8_nearest_49 (by decide) ?_
    refine lv_istore (lv' := [(4, .int 0), (3, .int (bI (smN σ w0 vr 0))), (2, .int ((-1))), (0, .ref mo), (1, .int vr)]) hx hb dX8_nearest_50 hl (by decide) rfl (fun ls hl => ?_)
    refine w_for (N := k) 52 (L := fun q9 ls => lv_has ls 7 [(4, .int (nI q9)), (3, .int (bI (smN σ w0 vr q9))), (2, .int (fdF σ w0 vr k q9)), (0, .ref mo), (1, .int vr)]) (fun k8 ls hk hL ih52 => ?_) 0 ls (Nat.zero_le _) (hl)
    have hl := hL
    have hl : lv_has ls 7 [(4, .int (nI k8)), (3, .int (bI (smN σ w0 vr k8))), (2, .int (fdF σ w0 vr k k8)), (0, .ref mo), (1, .int vr)] := hl
    refine lv_iload hx hb dX8_nearest_52 (lv_at hl 0 rfl) ?_
    refine lv_aload_n hx hb dX8_nearest_54 rfl (lv_at hl 3 rfl) ?_
    refine va_get (D := D) (ci := 8) (v := .int (σ 7 0)) (C := RX8) (T := TX8) (N := 33) hx hb hts iX8 hown hK.1 hP 0 rfl rfl 7 (by decide) (hts _ q_686) (fun _ h9 => h9) rfl dX8_nearest_55 ?_
    refine lv_icmp_ge (tgt := 172) hx hb dX8_nearest_58 (by decide) (fun c2 => ?_) (fun c2 => ?_)
    · -- 58 taken
      have c2 : k ≤ k8 := (nI_leI (a := k) (b := k8) (by omega) (by omega)).mp (by have h8 := c2; rw [h7] at h8; exact h8)
      obtain rfl : k = k8 := by omega
      have hP : va_P D vwCl (mW G mo ad (st σ 32 (tpF σ w0 vr (σ 32) k)) (τ)) H := hP
      have hD : va_D A (mW G mo ad (st σ 32 (tpF σ w0 vr (σ 32) k)) (τ)) := hD
      refine lv_iload_n hx hb dX8_nearest_172 rfl (lv_at hl 1 rfl) ?_
      refine lv_if_eq (tgt := 186) hx hb dX8_nearest_173 (by decide) (fun c3 => ?_) (fun c3 => ?_)
      · -- 173 taken
        have c3 := bI_0 c3
        refine lv_iload_n hx hb dX8_nearest_186 rfl (lv_at hl 2 rfl) ?_
        have ho : (nrA σ w0 k vr, (nrS σ w0 k vr, τ)) = (fdF σ w0 vr k k, st σ 32 (tpF σ w0 vr (σ 32) k), τ) := by unfold nrA; simp only [eq_false c3, not_true, not_false_iff, not_true_eq_false, not_false_eq_true, true_or, or_true, false_or, or_false, or_self, and_self, true_and, and_true, false_and, and_false, if_true, if_false]
        exact mu_iret (v0 := fdF σ w0 vr k k) (z := (st σ 32 (tpF σ w0 vr (σ 32) k), τ)) hx hb hr hlocks hP hD hS dX8_nearest_187 (by rw [ho]) (by rw [ho])
      · -- 173 not
        have c3 := bI_1 c3
        refine lv_iload_n hx hb dX8_nearest_176 rfl (lv_at hl 2 rfl) ?_
        refine lv_iconst (v := -1) hx hb dX8_nearest_177 (by decide) ?_
        refine lv_icmp_ne (tgt := 186) hx hb dX8_nearest_178 (by decide) (fun c4 => ?_) (fun c4 => ?_)
        · -- 178 taken
          refine lv_iload_n hx hb dX8_nearest_186 rfl (lv_at hl 2 rfl) ?_
          have ho : (nrA σ w0 k vr, (nrS σ w0 k vr, τ)) = (fdF σ w0 vr k k, st σ 32 (tpF σ w0 vr (σ 32) k), τ) := by unfold nrA; simp only [eq_true c3, eq_false c4, not_true, not_false_iff, not_true_eq_false, not_false_eq_true, true_or, or_true, false_or, or_false, or_self, and_self, true_and, and_true, false_and, and_false, if_true, if_false]
          exact mu_iret (v0 := fdF σ w0 vr k k) (z := (st σ 32 (tpF σ w0 vr (σ 32) k), τ)) hx hb hr hlocks hP hD hS dX8_nearest_187 (by rw [ho]) (by rw [ho])
        · -- 178 not
          refine lv_bipush (v := -2) hx hb dX8_nearest_181 (by decide) ?_
          refine lv_goto (tgt := 187) hx hb dX8_nearest_183 (by decide) ?_
          have ho : (nrA σ w0 k vr, (nrS σ w0 k vr, τ)) = ((-2), st σ 32 (tpF σ w0 vr (σ 32) k), τ) := by unfold nrA; simp only [eq_true c3, eq_true c4, not_true, not_false_iff, not_true_eq_false, not_false_eq_true, true_or, or_true, false_or, or_false, or_self, and_self, true_and, and_true, false_and, and_false, if_true, if_false]
          exact mu_iret (v0 := (-2)) (z := (st σ 32 (tpF σ w0 vr (σ 32) k), τ)) hx hb hr hlocks hP hD hS dX8_nearest_187 (by rw [ho]) (by rw [ho])
    · -- 58 not
      have c2 : ¬ k ≤ k8 := fun h9 => c2 (by rw [h7]; exact (nI_leI (a := k) (b := k8) (by omega) (by omega)).mpr h9)
      refine lv_aload_n hx hb dX8_nearest_61 rfl (lv_at hl 3 rfl) ?_
      refine va_get (D := D) (ci := 8) (v := .ref ((ad 32))) (C := RX8) (T := TX8) (N := 33) hx hb hts iX8 hown hK.1 hP 0 rfl rfl 32 (by decide) (hts _ q_711) (fun _ h9 => h9) rfl dX8_nearest_62 ?_
      refine lv_iload hx hb dX8_nearest_65 (lv_at hl 0 rfl) ?_
      refine zald_n (f := tpF σ w0 vr (σ 32) k) hx hb hK.1 hP 26 2 rfl rfl (k8) rfl (by omega) (by decide) dX8_nearest_67 ?_
      refine W.eq (g2 := F0 m 68 ls [.int (bI (tpP σ w0 vr k8))]) (congrArg (fun z9 => F0 m 68 ls [.int z9]) (tpF_at (by omega))) ?_
      refine lv_istore (lv' := [(5, .int (bI (tpP σ w0 vr k8))), (4, .int (nI k8)), (3, .int (bI (smN σ w0 vr k8))), (2, .int (fdF σ w0 vr k k8)), (0, .ref mo), (1, .int vr)]) hx hb dX8_nearest_68 hl (by decide) rfl (fun ls hl => ?_)
      refine w_join (P := fun b9 => b9 = bI (smN σ w0 vr k8 ∨ tpP σ w0 vr k8)) 84 (ls := ls) (rest := []) (fun b6 e_b6 => ?_) (fun J5 => ?_)
      · -- behind the meeting at 84
        subst e_b6
        refine lv_istore_n (lv' := [(3, .int (bI (smN σ w0 vr k8 ∨ tpP σ w0 vr k8))), (5, .int (bI (tpP σ w0 vr k8))), (4, .int (nI k8)), (2, .int (fdF σ w0 vr k k8)), (0, .ref mo), (1, .int vr)]) hx hb dX8_nearest_84 rfl hl (by decide) rfl (fun ls hl => ?_)
        refine lv_iconst (v := 0) hx hb dX8_nearest_85 (by decide) ?_
        refine lv_istore (lv' := [(6, .int 0), (3, .int (bI (smN σ w0 vr k8 ∨ tpP σ w0 vr k8))), (5, .int (bI (tpP σ w0 vr k8))), (4, .int (nI k8)), (2, .int (fdF σ w0 vr k k8)), (0, .ref mo), (1, .int vr)]) hx hb dX8_nearest_86 hl (by decide) rfl (fun ls hl => ?_)
        refine w_for (N := k) 88 (L := fun q9 ls => lv_has ls 7 [(6, .int (nI q9)), (3, .int (bI (smN σ w0 vr k8 ∨ tpP σ w0 vr k8))), (5, .int (bI (nuN σ w0 vr k8 q9))), (4, .int (nI k8)), (2, .int (fdF σ w0 vr k k8)), (0, .ref mo), (1, .int vr)]) (fun k9 ls hk hL ih88 => ?_) 0 ls (Nat.zero_le _) (by rw [nuN_0] at hl; exact hl)
        have hl := hL
        have hl : lv_has ls 7 [(6, .int (nI k9)), (3, .int (bI (smN σ w0 vr k8 ∨ tpP σ w0 vr k8))), (5, .int (bI (nuN σ w0 vr k8 k9))), (4, .int (nI k8)), (2, .int (fdF σ w0 vr k k8)), (0, .ref mo), (1, .int vr)] := hl
        refine lv_iload hx hb dX8_nearest_88 (lv_at hl 0 rfl) ?_
        refine lv_aload_n hx hb dX8_nearest_90 rfl (lv_at hl 5 rfl) ?_
        refine va_get (D := D) (ci := 8) (v := .int (σ 7 0)) (C := RX8) (T := TX8) (N := 33) hx hb hts iX8 hown hK.1 hP 0 rfl rfl 7 (by decide) (hts _ q_686) (fun _ h9 => h9) rfl dX8_nearest_91 ?_
        refine lv_icmp_ge (tgt := 144) hx hb dX8_nearest_94 (by decide) (fun c7 => ?_) (fun c7 => ?_)
        · -- 94 taken
          have c7 : k ≤ k9 := (nI_leI (a := k) (b := k9) (by omega) (by omega)).mp (by have h8 := c7; rw [h7] at h8; exact h8)
          obtain rfl : k = k9 := by omega
          have hP : va_P D vwCl (mW G mo ad (st σ 32 (tpF σ w0 vr (σ 32) k)) (τ)) H := hP
          have hD : va_D A (mW G mo ad (st σ 32 (tpF σ w0 vr (σ 32) k)) (τ)) := hD
          refine w_join (P := fun b9 => b9 = fdF σ w0 vr k (k8 + 1)) 165 (ls := ls) (rest := []) (fun b9 e_b9 => ?_) (fun J8 => ?_)
          · -- behind the meeting at 165
            subst e_b9
            refine lv_istore_n (lv' := [(2, .int (fdF σ w0 vr k (k8 + 1))), (6, .int (nI k)), (3, .int (bI (smN σ w0 vr k8 ∨ tpP σ w0 vr k8))), (5, .int (bI (nuN σ w0 vr k8 k))), (4, .int (nI k8)), (0, .ref mo), (1, .int vr)]) hx hb dX8_nearest_165 rfl hl (by decide) rfl (fun ls hl => ?_)
            refine lv_iinc (v := nI (k8 + 1)) (lv' := [(4, .int (nI (k8 + 1))), (2, .int (fdF σ w0 vr k (k8 + 1))), (6, .int (nI k)), (3, .int (bI (smN σ w0 vr k8 ∨ tpP σ w0 vr k8))), (5, .int (bI (nuN σ w0 vr k8 k))), (0, .ref mo), (1, .int vr)]) hx hb dX8_nearest_166 hl (k := 4) rfl (nI_1 _) (by decide) rfl (fun ls hl => ?_)
            refine lv_goto (tgt := 52) hx hb dX8_nearest_169 (by decide) ?_
            rw [smN_s] at hl
            exact ih52 _ (by omega) (lv_sub hl [0, 3, 1, 5, 6] rfl)
          · -- up to the meeting at 165
            refine lv_iload hx hb dX8_nearest_144 (lv_at hl 2 rfl) ?_
            refine lv_if_eq (tgt := 164) hx hb dX8_nearest_146 (by decide) (fun c10 => ?_) (fun c10 => ?_)
            · -- 146 taken
              have c10 := bI_0 c10
              refine lv_iload_n hx hb dX8_nearest_164 rfl (lv_at hl 4 rfl) ?_
              exact J8 (fdF σ w0 vr k k8) (by show _ = if nuN σ w0 vr k8 k then (if fdF σ w0 vr k k8 = -1 then nI k8 else -2) else fdF σ w0 vr k k8; simp only [eq_false c10, not_true, not_false_iff, not_true_eq_false, not_false_eq_true, true_or, or_true, false_or, or_false, or_self, and_self, true_and, and_true, false_and, and_false, if_true, if_false])
            · -- 146 not
              have c10 := bI_1 c10
              refine lv_iload_n hx hb dX8_nearest_149 rfl (lv_at hl 4 rfl) ?_
              refine lv_iconst (v := -1) hx hb dX8_nearest_150 (by decide) ?_
              refine lv_icmp_ne (tgt := 159) hx hb dX8_nearest_151 (by decide) (fun c11 => ?_) (fun c11 => ?_)
              · -- 151 taken
                refine lv_bipush (v := -2) hx hb dX8_nearest_159 (by decide) ?_
                refine lv_goto (tgt := 165) hx hb dX8_nearest_161 (by decide) ?_
                exact J8 (-2) (by show _ = if nuN σ w0 vr k8 k then (if fdF σ w0 vr k k8 = -1 then nI k8 else -2) else fdF σ w0 vr k k8; simp only [eq_true c10, eq_false c11, not_true, not_false_iff, not_true_eq_false, not_false_eq_true, true_or, or_true, false_or, or_false, or_self, and_self, true_and, and_true, false_and, and_false, if_true, if_false])
              · -- 151 not
                refine lv_iload hx hb dX8_nearest_154 (lv_at hl 3 rfl) ?_
                refine lv_goto (tgt := 165) hx hb dX8_nearest_156 (by decide) ?_
                exact J8 (nI k8) (by show _ = if nuN σ w0 vr k8 k then (if fdF σ w0 vr k k8 = -1 then nI k8 else -2) else fdF σ w0 vr k k8; simp only [eq_true c10, eq_true c11, not_true, not_false_iff, not_true_eq_false, not_false_eq_true, true_or, or_true, false_or, or_false, or_self, and_self, true_and, and_true, false_and, and_false, if_true, if_false])
        · -- 94 not
          have c7 : ¬ k ≤ k9 := fun h9 => c7 (by rw [h7]; exact (nI_leI (a := k) (b := k9) (by omega) (by omega)).mpr h9)
          refine w_join (P := fun b9 => b9 = bI (nuN σ w0 vr k8 k9 ∧ nqP σ w0 vr k8 k9)) 136 (ls := ls) (rest := []) (fun b13 e_b13 => ?_) (fun J12 => ?_)
          · -- behind the meeting at 136
            subst e_b13
            refine lv_istore (lv' := [(5, .int (bI (nuN σ w0 vr k8 k9 ∧ nqP σ w0 vr k8 k9))), (6, .int (nI k9)), (3, .int (bI (smN σ w0 vr k8 ∨ tpP σ w0 vr k8))), (4, .int (nI k8)), (2, .int (fdF σ w0 vr k k8)), (0, .ref mo), (1, .int vr)]) hx hb dX8_nearest_136 hl (by decide) rfl (fun ls hl => ?_)
            refine lv_iinc (v := nI (k9 + 1)) (lv' := [(6, .int (nI (k9 + 1))), (5, .int (bI (nuN σ w0 vr k8 k9 ∧ nqP σ w0 vr k8 k9))), (3, .int (bI (smN σ w0 vr k8 ∨ tpP σ w0 vr k8))), (4, .int (nI k8)), (2, .int (fdF σ w0 vr k k8)), (0, .ref mo), (1, .int vr)]) hx hb dX8_nearest_138 hl (k := 1) rfl (nI_1 _) (by decide) rfl (fun ls hl => ?_)
            refine lv_goto (tgt := 88) hx hb dX8_nearest_141 (by decide) ?_
            rw [nuN_s] at hl
            exact ih88 _ (by omega) (lv_sub hl [0, 2, 1, 3, 4, 5, 6] rfl)
          · -- up to the meeting at 136
            refine lv_iload hx hb dX8_nearest_97 (lv_at hl 2 rfl) ?_
            refine lv_if_eq (tgt := 135) hx hb dX8_nearest_99 (by decide) (fun c14 => ?_) (fun c14 => ?_)
            · -- 99 taken
              have c14 := bI_0 c14
              refine lv_iconst (v := 0) hx hb dX8_nearest_135 (by decide) ?_
              exact J12 0 ((bI_f (by unfold nqP; simp only [eq_false c7, eq_false c14, not_true, not_false_iff, not_true_eq_false, not_false_eq_true, true_or, or_true, false_or, or_false, or_self, and_self, true_and, and_true, false_and, and_false, if_true, if_false])).symm)
            · -- 99 not
              have c14 := bI_1 c14
              refine lv_iload hx hb dX8_nearest_102 (lv_at hl 0 rfl) ?_
              refine lv_iload hx hb dX8_nearest_104 (lv_at hl 3 rfl) ?_
              refine lv_icmp_eq (tgt := 131) hx hb dX8_nearest_106 (by decide) (fun c15 => ?_) (fun c15 => ?_)
              · -- 106 taken
                have c15 := nI_inj (by omega) (by omega) c15
                refine lv_iconst (v := 1) hx hb dX8_nearest_131 (by decide) ?_
                refine lv_goto (tgt := 136) hx hb dX8_nearest_132 (by decide) ?_
                exact J12 1 ((bI_t (by unfold nqP; simp only [eq_false c7, eq_true c14, eq_true c15, not_true, not_false_iff, not_true_eq_false, not_false_eq_true, true_or, or_true, false_or, or_false, or_self, and_self, true_and, and_true, false_and, and_false, if_true, if_false])).symm)
              · -- 106 not
                have c15 : ¬ k9 = k8 := fun h9 => c15 (by rw [h9])
                refine lv_aload_n hx hb dX8_nearest_109 rfl (lv_at hl 5 rfl) ?_
                refine va_get (D := D) (ci := 8) (v := .ref ((ad 32))) (C := RX8) (T := TX8) (N := 33) hx hb hts iX8 hown hK.1 hP 0 rfl rfl 32 (by decide) (hts _ q_711) (fun _ h9 => h9) rfl dX8_nearest_110 ?_
                refine lv_iload hx hb dX8_nearest_113 (lv_at hl 0 rfl) ?_
                refine zald_n (f := tpF σ w0 vr (σ 32) k) hx hb hK.1 hP 26 2 rfl rfl (k9) rfl (by omega) (by decide) dX8_nearest_115 ?_
                refine W.eq (g2 := F0 m 116 ls [.int (bI (tpP σ w0 vr k9))]) (congrArg (fun z9 => F0 m 116 ls [.int z9]) (tpF_at (by omega))) ?_
                refine lv_if_eq (tgt := 131) hx hb dX8_nearest_116 (by decide) (fun c16 => ?_) (fun c16 => ?_)
                · -- 116 taken
                  have c16 := bI_0 c16
                  refine lv_iconst (v := 1) hx hb dX8_nearest_131 (by decide) ?_
                  refine lv_goto (tgt := 136) hx hb dX8_nearest_132 (by decide) ?_
                  exact J12 1 ((bI_t (by unfold nqP; simp only [eq_false c7, eq_true c14, eq_false c15, eq_false c16, not_true, not_false_iff, not_true_eq_false, not_false_eq_true, true_or, or_true, false_or, or_false, or_self, and_self, true_and, and_true, false_and, and_false, if_true, if_false])).symm)
                · -- 116 not
                  have c16 := bI_1 c16
                  refine lv_aload_n hx hb dX8_nearest_119 rfl (lv_at hl 5 rfl) ?_
                  refine lv_iload hx hb dX8_nearest_120 (lv_at hl 3 rfl) ?_
                  refine lv_iload hx hb dX8_nearest_122 (lv_at hl 0 rfl) ?_
                  refine lv_iload_n hx hb dX8_nearest_124 rfl (lv_at hl 6 rfl) ?_
                  refine ro_Vi (D := D) (G := G) (As := [.int (nI k8), .int (nI k9), .int vr]) (rest := []) ⟨hx, hb, hml, hown, hts⟩ (m_isNearer l D G _ mo ad _ _ hP w0 h22 hw (k8) (k9) (by omega) (by omega) (hmo _ (by omega)) (hmo _ (by omega)) vr (fun h8 => hvo _ (by omega) (tkN_v (nuN_def.mp c14).1.2 h8)) (fun h8 => hvo _ (by omega) (tkN_v c16.2 h8)) (fun q hq => kd_of (hkp _ (by omega)) (fun h8 => hvo _ (by omega) (tkN_v (nuN_def.mp c14).1.2 h8)) (fun h8 => by have h5 := tkN_w (nuN_def.mp c14).1.2 h8; have hq : q < plO σ (plO σ w0 k8 vr) k9 vr := hq; rw [plO_0 h8, plO_0 h8] at hq; exact Nat.lt_of_lt_of_eq hq h5)) (fun q hq => kd_of (hkp _ (by omega)) (fun h8 => hvo _ (by omega) (tkN_v c16.2 h8)) (fun h8 => by have h5 := tkN_w c16.2 h8; have hq : q < plO σ (plO σ w0 k8 vr) k9 vr := hq; rw [plO_0 h8, plO_0 h8] at hq; exact Nat.lt_of_lt_of_eq hq h5)) hb6) gV_X8_X8_isNearer hdV_X8_isNearer ⟨Nat.le_of_ble_eq_true rfl, Nat.le_of_ble_eq_true rfl⟩ hK (va_recv hK.1 hP (ci := 8) (q0 := 0) rfl rfl) rfl hl.1 rfl (Nat.le_of_ble_eq_true rfl) dX8_nearest_125 ⟨Nat.le_of_ble_eq_true rfl, Nat.le_of_ble_eq_true rfl⟩ (fun r17 e_r17 => ?_)
                  subst e_r17
                  refine W.eq (g2 := F0 m 128 ls [.int (bI (nrN σ k8 k9 vr (plN σ w0 k8 k9 vr)))]) rfl ?_
                  refine lv_if_eq (tgt := 135) hx hb dX8_nearest_128 (by decide) (fun c18 => ?_) (fun c18 => ?_)
                  · -- 128 taken
                    have c18 := bI_0 c18
                    refine lv_iconst (v := 0) hx hb dX8_nearest_135 (by decide) ?_
                    exact J12 0 ((bI_f (by unfold nqP; simp only [eq_false c7, eq_true c14, eq_false c15, eq_true c16, eq_false c18, not_true, not_false_iff, not_true_eq_false, not_false_eq_true, true_or, or_true, false_or, or_false, or_self, and_self, true_and, and_true, false_and, and_false, if_true, if_false])).symm)
                  · -- 128 not
                    have c18 := bI_1 c18
                    refine lv_iconst (v := 1) hx hb dX8_nearest_131 (by decide) ?_
                    refine lv_goto (tgt := 136) hx hb dX8_nearest_132 (by decide) ?_
                    exact J12 1 ((bI_t (by unfold nqP; simp only [eq_false c7, eq_true c14, eq_false c15, eq_true c16, eq_true c18, not_true, not_false_iff, not_true_eq_false, not_false_eq_true, true_or, or_true, false_or, or_false, or_self, and_self, true_and, and_true, false_and, and_false, if_true, if_false])).symm)
      · -- up to the meeting at 84
        refine lv_iload_n hx hb dX8_nearest_70 rfl (lv_at hl 2 rfl) ?_
        refine lv_if_ne (tgt := 79) hx hb dX8_nearest_71 (by decide) (fun c19 => ?_) (fun c19 => ?_)
        · -- 71 taken
          have c19 := bI_1 c19
          refine lv_iconst (v := 1) hx hb dX8_nearest_79 (by decide) ?_
          refine lv_goto (tgt := 84) hx hb dX8_nearest_80 (by decide) ?_
          exact J5 1 ((bI_t (by simp only [eq_false c2, eq_true c19, not_true, not_false_iff, not_true_eq_false, not_false_eq_true, true_or, or_true, false_or, or_false, or_self, and_self, true_and, and_true, false_and, and_false, if_true, if_false])).symm)
        · -- 71 not
          have c19 := bI_0 c19
          refine lv_iload hx hb dX8_nearest_74 (lv_at hl 0 rfl) ?_
          refine lv_if_eq (tgt := 83) hx hb dX8_nearest_76 (by decide) (fun c20 => ?_) (fun c20 => ?_)
          · -- 76 taken
            have c20 := bI_0 c20
            refine lv_iconst (v := 0) hx hb dX8_nearest_83 (by decide) ?_
            exact J5 0 ((bI_f (by simp only [eq_false c2, eq_false c19, eq_false c20, not_true, not_false_iff, not_true_eq_false, not_false_eq_true, true_or, or_true, false_or, or_false, or_self, and_self, true_and, and_true, false_and, and_false, if_true, if_false])).symm)
          · -- 76 not
            have c20 := bI_1 c20
            refine lv_iconst (v := 1) hx hb dX8_nearest_79 (by decide) ?_
            refine lv_goto (tgt := 84) hx hb dX8_nearest_80 (by decide) ?_
            exact J5 1 ((bI_t (by simp only [eq_false c2, eq_false c19, eq_true c20, not_true, not_false_iff, not_true_eq_false, not_false_eq_true, true_or, or_true, false_or, or_false, or_self, and_self, true_and, and_true, false_and, and_false, if_true, if_false])).symm)
  · -- 7 not
    have c1 : ¬ k ≤ k9 := fun h9 => c1 (by rw [h7]; exact (nI_leI (a := k) (b := k9) (by omega) (by omega)).mpr h9)
    refine lv_aload_n hx hb dX8_nearest_10 rfl (lv_at hl 1 rfl) ?_
    refine va_get (D := D) (ci := 8) (v := .ref ((ad 32))) (C := RX8) (T := TX8) (N := 33) hx hb hts iX8 hown hK.1 hP 0 rfl rfl 32 (by decide) (hts _ q_711) (fun _ h9 => h9) rfl dX8_nearest_11 ?_
    refine lv_iload_n hx hb dX8_nearest_14 rfl (lv_at hl 0 rfl) ?_
    refine w_join (P := fun b9 => b9 = bI (tpP σ w0 vr k9)) 38 (ls := ls) (rest := [.int (nI k9), .ref ((ad 32))]) (fun b22 e_b22 => ?_) (fun J21 => ?_)
    · -- behind the meeting at 38
      subst e_b22
      refine zast_n hx hb hK.1 hP hD hS 26 2 rfl rfl (k9) rfl (by omega) (by decide) bI_b dX8_nearest_38 (fun H locs hP hD hS => ?_)
      have hP : va_P D vwCl (mW G mo ad (st σ 32 (upd (tpF σ w0 vr (σ 32) k9) (k9) (bI (tpP σ w0 vr k9)))) (τ)) H := hP
      have hD : va_D A (mW G mo ad (st σ 32 (upd (tpF σ w0 vr (σ 32) k9) (k9) (bI (tpP σ w0 vr k9)))) (τ)) := hD
      refine lv_iinc (v := nI (k9 + 1)) (lv' := [(2, .int (nI (k9 + 1))), (0, .ref mo), (1, .int vr)]) hx hb dX8_nearest_39 hl (k := 0) rfl (nI_1 _) (by decide) rfl (fun ls hl => ?_)
      refine lv_goto (tgt := 2) hx hb dX8_nearest_42 (by decide) ?_
      exact ih2 _ _ _ (by omega) ⟨lv_sub hl [0, 1, 2] rfl, hP, hD, hS⟩
    · -- up to the meeting at 38
      refine lv_aload_n hx hb dX8_nearest_15 rfl (lv_at hl 1 rfl) ?_
      refine va_get (D := D) (ci := 8) (v := .ref ((ad 31))) (C := RX8) (T := TX8) (N := 33) hx hb hts iX8 hown hK.1 hP 0 rfl rfl 31 (by decide) (hts _ q_710) (fun _ h9 => h9) rfl dX8_nearest_16 ?_
      refine lv_iload_n hx hb dX8_nearest_19 rfl (lv_at hl 0 rfl) ?_
      refine zald_n (f := σ 31) hx hb hK.1 hP 25 2 rfl rfl (k9) rfl (by omega) (by decide) dX8_nearest_20 ?_
      refine lv_if_eq (tgt := 37) hx hb dX8_nearest_21 (by decide) (fun c23 => ?_) (fun c23 => ?_)
      · -- 21 taken
        refine lv_iconst (v := 0) hx hb dX8_nearest_37 (by decide) ?_
        exact J21 0 ((bI_f (by unfold tpP; simp only [eq_false c1, eq_true c23, not_true, not_false_iff, not_true_eq_false, not_false_eq_true, true_or, or_true, false_or, or_false, or_self, and_self, true_and, and_true, false_and, and_false, if_true, if_false])).symm)
      · -- 21 not
        refine lv_aload_n hx hb dX8_nearest_24 rfl (lv_at hl 1 rfl) ?_
        refine lv_iload_n hx hb dX8_nearest_25 rfl (lv_at hl 0 rfl) ?_
        refine lv_iload_n hx hb dX8_nearest_26 rfl (lv_at hl 2 rfl) ?_
        refine ro_Vi (D := D) (G := G) (As := [.int (nI k9), .int vr]) (rest := [.int (nI k9), .ref ((ad 32))]) ⟨hx, hb, hml, hown, hts⟩ (m_takes l D G _ mo ad _ _ hP w0 h22 hw (k9) (by omega) (hmo _ (by omega)) vr (hvo _ (by omega)) hkg (fun h9 q hq => kd_of (hkp _ (by omega)) (fun h8 => hvo _ (by omega) (tkN_v h9 h8)) (fun h8 => by have := tkN_w h9 h8; omega)) hb6) gV_X8_X8_takes hdV_X8_takes ⟨Nat.le_of_ble_eq_true rfl, Nat.le_of_ble_eq_true rfl⟩ hK (va_recv hK.1 hP (ci := 8) (q0 := 0) rfl rfl) rfl hl.1 rfl (Nat.le_of_ble_eq_true rfl) dX8_nearest_27 ⟨Nat.le_of_ble_eq_true rfl, Nat.le_of_ble_eq_true rfl⟩ (fun r24 e_r24 => ?_)
        subst e_r24
        refine W.eq (g2 := F0 m 30 ls [.int (bI (tkN σ w0 k9 vr w0)), .int (nI k9), .ref ((ad 32))]) rfl ?_
        refine lv_if_eq (tgt := 37) hx hb dX8_nearest_30 (by decide) (fun c25 => ?_) (fun c25 => ?_)
        · -- 30 taken
          have c25 := bI_0 c25
          refine lv_iconst (v := 0) hx hb dX8_nearest_37 (by decide) ?_
          exact J21 0 ((bI_f (by unfold tpP; simp only [eq_false c1, eq_false c23, eq_false c25, not_true, not_false_iff, not_true_eq_false, not_false_eq_true, true_or, or_true, false_or, or_false, or_self, and_self, true_and, and_true, false_and, and_false, if_true, if_false])).symm)
        · -- 30 not
          have c25 := bI_1 c25
          refine lv_iconst (v := 1) hx hb dX8_nearest_33 (by decide) ?_
          refine lv_goto (tgt := 38) hx hb dX8_nearest_34 (by decide) ?_
          exact J21 1 ((bI_t (by unfold tpP; simp only [eq_false c1, eq_false c23, eq_true c25, not_true, not_false_iff, not_true_eq_false, not_false_eq_true, true_or, or_true, false_or, or_false, or_self, and_self, true_and, and_true, false_and, and_false, if_true, if_false])).symm)
