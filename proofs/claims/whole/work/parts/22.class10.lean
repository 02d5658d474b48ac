theorem rp_cases (kind d v al : Int32) : (kind = 0 ∧ rpF kind d v al = 18) ∨ (¬ kind = 0 ∧ ¬ al = 0 ∧ rpF kind d v al = 19) ∨ (¬ kind = 0 ∧ al = 0 ∧ (¬ v = 0 ∧ d = 0) ∧ rpF kind d v al = 20) ∨ (¬ kind = 0 ∧ al = 0 ∧ ¬ (¬ v = 0 ∧ d = 0) ∧ rpF kind d v al = 0) := by
  unfold rpF
  by_cases h1 : kind = 0
  · exact Or.inl ⟨h1, if_pos h1⟩
  · by_cases h2 : al = 0
    · by_cases h3 : ¬ v = 0 ∧ d = 0
      · exact Or.inr (Or.inr (Or.inl ⟨h1, h2, h3, by rw [if_neg h1, if_neg (fun q => q h2), if_pos h3]⟩))
      · exact Or.inr (Or.inr (Or.inr ⟨h1, h2, h3, by rw [if_neg h1, if_neg (fun q => q h2), if_neg h3]⟩))
    · exact Or.inr (Or.inl ⟨h1, h2, by rw [if_neg h1, if_pos h2]⟩)
/-- the cells of the begun member, with a parameter more -/
theorem bg_mb {G : Nat → ClassId} {ba : Nat → Nat} {σ : MS} {k : Nat} {kind d vr : Int32} (hm : okM σ k) (h5 : mnE σ k < 5) : bgW G ba (σ 9 k) (σ 10 k) (σ 11 k) (σ 12 k) (σ 13 k) (σ 16 k) vr (nI (mnE σ k + 1)) (upd (pkF σ 19 k) (mnE σ k) kind) (upd (pkF σ 20 k) (mnE σ k) d) (-1)
    = mbW G ba (su (su (su (su (su σ 0 0 0) 19 (5 * k + mnE σ k) kind) 20 (5 * k + mnE σ k) d) 17 k vr) 18 k (nI (mnE σ k + 1))) k (-1) := by
  have hz : ∀ (τ : MS), τ 18 k = nI (mnE σ k + 1) → mnE τ k = mnE σ k + 1 := fun τ h => by show (τ 18 k).toNatClampNeg = _; rw [h, nI_clamp (by omega)]
  have e18 : (su (su (su (su (su σ 0 0 0) 19 (5 * k + mnE σ k) kind) 20 (5 * k + mnE σ k) d) 17 k vr) 18 k (nI (mnE σ k + 1))) 18 k = nI (mnE σ k + 1) := pk_us
  have e17 : (su (su (su (su (su σ 0 0 0) 19 (5 * k + mnE σ k) kind) 20 (5 * k + mnE σ k) d) 17 k vr) 18 k (nI (mnE σ k + 1))) 17 k = vr := pk_us
  have f1 : upd (pkF σ 19 k) (mnE σ k) kind = pkF (su (su (su (su (su σ 0 0 0) 19 (5 * k + mnE σ k) kind) 20 (5 * k + mnE σ k) d) 17 k vr) 18 k (nI (mnE σ k + 1))) 19 k := by
    funext i
    unfold pkF
    rw [hz _ e18]
    show upd _ _ _ i = if i < mnE σ k + 1 then upd (σ 19) (5 * k + mnE σ k) kind (5 * k + i) else 0
    by_cases q : i = mnE σ k
    · rw [q, pk_us, if_pos (by omega), pk_us]
    · rw [pk_un q, pk_un (by omega)]
      by_cases q2 : i < mnE σ k
      · rw [if_pos q2, if_pos (by omega)]
      · rw [if_neg q2, if_neg (by omega)]
  have f2 : upd (pkF σ 20 k) (mnE σ k) d = pkF (su (su (su (su (su σ 0 0 0) 19 (5 * k + mnE σ k) kind) 20 (5 * k + mnE σ k) d) 17 k vr) 18 k (nI (mnE σ k + 1))) 20 k := by
    funext i
    unfold pkF
    rw [hz _ e18]
    show upd _ _ _ i = if i < mnE σ k + 1 then upd (σ 20) (5 * k + mnE σ k) d (5 * k + i) else 0
    by_cases q : i = mnE σ k
    · rw [q, pk_us, if_pos (by omega), pk_us]
    · rw [pk_un q, pk_un (by omega)]
      by_cases q2 : i < mnE σ k
      · rw [if_pos q2, if_pos (by omega)]
      · rw [if_neg q2, if_neg (by omega)]
  rw [f1, f2]
  unfold bgW mbW
  rw [e17, e18]
  rfl

theorem dX7_parameter_0 : decode cX7_parameter 0 = .ok (.aload_n 0, 1) := by decide +kernel
theorem dX7_parameter_1 : decode cX7_parameter 1 = .ok (.getfield 65, 3) := by decide +kernel
theorem dX7_parameter_4 : decode cX7_parameter 4 = .ok (.ifnonnull 6, 3) := by decide +kernel
theorem dX7_parameter_7 : decode cX7_parameter 7 = .ok (.bipush (-14), 2) := by decide +kernel
theorem dX7_parameter_9 : decode cX7_parameter 9 = .ok (.ireturn, 1) := by decide +kernel
theorem dX7_parameter_10 : decode cX7_parameter 10 = .ok (.aload_n 0, 1) := by decide +kernel
theorem dX7_parameter_11 : decode cX7_parameter 11 = .ok (.iload_n 1, 1) := by decide +kernel
theorem dX7_parameter_12 : decode cX7_parameter 12 = .ok (.invokevirtual 165, 3) := by decide +kernel
theorem dX7_parameter_15 : decode cX7_parameter 15 = .ok (.ifCond .eq 6, 3) := by decide +kernel
theorem dX7_parameter_21 : decode cX7_parameter 21 = .ok (.iload_n 1, 1) := by decide +kernel
theorem dX7_parameter_22 : decode cX7_parameter 22 = .ok (.iload_n 2, 1) := by decide +kernel
theorem dX7_parameter_23 : decode cX7_parameter 23 = .ok (.invokestatic 168, 3) := by decide +kernel
theorem dX7_parameter_26 : decode cX7_parameter 26 = .ok (.ifCond .ne 6, 3) := by decide +kernel
theorem dX7_parameter_32 : decode cX7_parameter 32 = .ok (.aload_n 0, 1) := by decide +kernel
theorem dX7_parameter_33 : decode cX7_parameter 33 = .ok (.getfield 65, 3) := by decide +kernel
theorem dX7_parameter_36 : decode cX7_parameter 36 = .ok (.getfield 171, 3) := by decide +kernel
theorem q_340 : Cond.methodLink "FieldMember" 174 ⟨"FieldMember$Row", "isFull", "()Z"⟩ ∈ TT := tt_t (i := 340) (by decide +kernel) (by decide +kernel)
theorem gV_X7_X4_isFull : GoodIn TT (wsV RX7 174 RX4 yX4_isFull (ww yX4_isFull cX4_isFull 1 (some .boolean))) := tt_V q_340 q_341 q_342 q_3 q_343
theorem dX7_parameter_39 : decode cX7_parameter 39 = .ok (.invokevirtual 174, 3) := by decide +kernel
theorem dX7_parameter_42 : decode cX7_parameter 42 = .ok (.ifCond .eq 6, 3) := by decide +kernel
theorem dX7_parameter_48 : decode cX7_parameter 48 = .ok (.iload_n 1, 1) := by decide +kernel
theorem dX7_parameter_49 : decode cX7_parameter 49 = .ok (.iload_n 2, 1) := by decide +kernel
theorem dX7_parameter_50 : decode cX7_parameter 50 = .ok (.iload_n 3, 1) := by decide +kernel
theorem dX7_parameter_51 : decode cX7_parameter 51 = .ok (.aload_n 0, 1) := by decide +kernel
theorem dX7_parameter_52 : decode cX7_parameter 52 = .ok (.getfield 65, 3) := by decide +kernel
theorem dX7_parameter_55 : decode cX7_parameter 55 = .ok (.getfield 177, 3) := by decide +kernel
theorem q_344 : Cond.methodLink "FieldMember" 180 ⟨"FieldMember$Rules", "ofParameter", "(IIZZ)I"⟩ ∈ TT := tt_t (i := 344) (by decide +kernel) (by decide +kernel)
theorem q_346 : Cond.code ⟨"FieldMember$Rules", "ofParameter", "(IIZZ)I"⟩ prog_7_method_5_code 4 (some .int) ∈ TT := tt_t (i := 346) (by decide +kernel) (by decide +kernel)
theorem q_345 : Cond.static ⟨"FieldMember$Rules", "ofParameter", "(IIZZ)I"⟩ ∈ TT := tt_t (i := 345) (by decide +kernel) (by decide +kernel)
theorem gS_X7_X5_ofParameter : GoodIn TT (va_wsS RX7 180 yX5_ofParameter (ww yX5_ofParameter cX5_ofParameter 4 (some .int))) := tt_S q_344 q_345 q_6 q_346
theorem hdS_X5_ofParameter : yX5_ofParameter.cls ≠ "java/lang/invoke/MethodHandle" ∧ yX5_ofParameter.cls ≠ "java/lang/invoke/VarHandle" ∧ (parseMethodDescriptor yX5_ofParameter.desc).map (fun d => d.parameters.length) = some 4 := by decide +kernel
theorem dX7_parameter_58 : decode cX7_parameter 58 = .ok (.invokestatic 180, 3) := by decide +kernel
theorem dX7_parameter_61 : decode cX7_parameter 61 = .ok (.istore 4, 2) := by decide +kernel
theorem dX7_parameter_63 : decode cX7_parameter 63 = .ok (.iload 4, 2) := by decide +kernel
theorem dX7_parameter_65 : decode cX7_parameter 65 = .ok (.ifCond .eq 10, 3) := by decide +kernel
theorem dX7_parameter_68 : decode cX7_parameter 68 = .ok (.aload_n 0, 1) := by decide +kernel
theorem dX7_parameter_69 : decode cX7_parameter 69 = .ok (.iload 4, 2) := by decide +kernel
theorem q_204 : Cond.methodLink "FieldMember" 92 ⟨"FieldMember", "breakRule", "(I)I"⟩ ∈ TT := tt_t (i := 204) (by decide +kernel) (by decide +kernel)
theorem q_207 : Cond.code ⟨"FieldMember", "breakRule", "(I)I"⟩ prog_1_method_29_code 2 (some .int) ∈ TT := tt_t (i := 207) (by decide +kernel) (by decide +kernel)
theorem q_206 : Cond.instanceMethod ⟨"FieldMember", "breakRule", "(I)I"⟩ ∈ TT := tt_t (i := 206) (by decide +kernel) (by decide +kernel)
theorem qs_4 : Cond.selects "FieldMember" ⟨"FieldMember", "breakRule", "(I)I"⟩ ⟨"FieldMember", "breakRule", "(I)I"⟩ ∈ TT := tt_s (i := 4) (by decide +kernel) (by decide +kernel)
theorem gV_X7_X7_breakRule : GoodIn TT (wsV RX7 92 RX7 yX7_breakRule (ww yX7_breakRule cX7_breakRule 2 (some .int))) := tt_V q_204 q_206 qs_4 q_1 q_207
theorem hdV_X7_breakRule : yX7_breakRule.cls = RX7 ∧ yX7_breakRule.cls ≠ "java/lang/invoke/MethodHandle" ∧ yX7_breakRule.cls ≠ "java/lang/invoke/VarHandle" ∧ (parseMethodDescriptor yX7_breakRule.desc).map (fun d => d.parameters.length) = some 1 := by decide +kernel
theorem dX7_parameter_71 : decode cX7_parameter 71 = .ok (.invokevirtual 92, 3) := by decide +kernel
theorem dX7_parameter_74 : decode cX7_parameter 74 = .ok (.ireturn, 1) := by decide +kernel
theorem dX7_parameter_75 : decode cX7_parameter 75 = .ok (.aload_n 0, 1) := by decide +kernel
theorem dX7_parameter_76 : decode cX7_parameter 76 = .ok (.getfield 65, 3) := by decide +kernel
theorem dX7_parameter_79 : decode cX7_parameter 79 = .ok (.iload_n 3, 1) := by decide +kernel
theorem dX7_parameter_80 : decode cX7_parameter 80 = .ok (.putfield 177, 3) := by decide +kernel
theorem dX7_parameter_83 : decode cX7_parameter 83 = .ok (.aload_n 0, 1) := by decide +kernel
theorem dX7_parameter_84 : decode cX7_parameter 84 = .ok (.getfield 65, 3) := by decide +kernel
theorem dX7_parameter_87 : decode cX7_parameter 87 = .ok (.getfield 171, 3) := by decide +kernel
theorem dX7_parameter_90 : decode cX7_parameter 90 = .ok (.iload_n 1, 1) := by decide +kernel
theorem dX7_parameter_91 : decode cX7_parameter 91 = .ok (.iload_n 2, 1) := by decide +kernel
theorem dX7_parameter_92 : decode cX7_parameter 92 = .ok (.invokevirtual 184, 3) := by decide +kernel
theorem dX7_parameter_95 : decode cX7_parameter 95 = .ok (.ireturn, 1) := by decide +kernel
theorem dX7_parameter_45 : decode cX7_parameter 45 = .ok (.bipush (-15), 2) := by decide +kernel
theorem dX7_parameter_47 : decode cX7_parameter 47 = .ok (.ireturn, 1) := by decide +kernel
theorem dX7_parameter_29 : decode cX7_parameter 29 = .ok (.bipush (-13), 2) := by decide +kernel
theorem dX7_parameter_31 : decode cX7_parameter 31 = .ok (.ireturn, 1) := by decide +kernel
theorem dX7_parameter_18 : decode cX7_parameter 18 = .ok (.bipush (-11), 2) := by decide +kernel
theorem dX7_parameter_20 : decode cX7_parameter 20 = .ok (.ireturn, 1) := by decide +kernel
set_option maxHeartbeats 800000 in
set_option maxRecDepth 100000 in
theorem c_parameterNo (l : Launch) (D : va_G) (G : Nat → ClassId) (ca : Nat → Nat) (ea : Nat → Nat → Nat) (n k w0 : Nat) (σ x : MS) (κ : Nat → Int64) (pl : va_W) (sz : Nat) (hE : plE G ea σ κ k pl) (hI : cI σ x n k w0) (kind dd vr : Int32) (c21 : σ 21 0 = 0) (τ : Nat → Int64) : Met l yX7_parameter (ww yX7_parameter cX7_parameter 5 (some .int)) (rmC 2 0 0) (cmP D G sz (cF G ca .null (enF ea k) σ x ++ pl) [.ref ((ca 0)), .int kind, .int dd, .int vr]) (cmQi D (va_A (cF G ca .null (enF ea k) σ x ++ pl) sz) ((oPar σ τ n k kind dd vr).1) (fun z8 => z8 = cF G ca .null (enF ea k) (oPar σ τ n k kind dd vr).2.1 x ++ pl)) 0 0 (va_A (cF G ca .null (enF ea k) σ x ++ pl) sz) := by
  refine Met.ofW (cc := cX7_parameter) (maxL := 5) (ret := (some .int)) (by decide) rfl ?_
  intro p e s m args below meth c s₁ B hml hv
  obtain ⟨rfl, hsz, hP, hK, hD0⟩ := hv
  have hx := B.exec
  have hb := B.bytes
  have hr := B.returns
  have hts : ∀ w ∈ TT, w.before _ s = true := fun w h => atoms_spec (ws := ww yX7_parameter cX7_parameter 5 (some .int)) B.pre w (List.mem_cons_of_mem _ h)
  have hown : s.vm.findClass RX7 = some m.cls := findClass_of_methodNamed B.named
  have hlocks := B.notSynchronized
  subst hsz
  have hD : va_D (va_A (cF G ca .null (enF ea k) σ x ++ pl) s.heap.size) (cF G ca .null (enF ea k) σ x ++ pl) := hD0.self
  generalize hAe : va_A (cF G ca .null (enF ea k) σ x ++ pl) s.heap.size = A at hD ⊢
  have hA : ∀ q : Nat, s.heap.size ≤ q → A q := fun q h => by rw [← hAe]; exact Or.inr h
  have hS : va_S A s.heap s.heap [] := va_S.rf
  have hP : va_P D vwCl (cF G ca .null (enF ea k) σ x ++ pl) s.heap := hP
  have hI0 := hI
  obtain ⟨h1, hn, h7, hk60, h22, hw, hab, hfa, hmi, hak, hrf⟩ := hI
  have hl := lv_entry ([.ref ((ca 0)), .int kind, .int dd, .int vr]) (n := 5) (Nat.le_of_ble_eq_true rfl)
  rw [lg_entry_eq]
  generalize (lg_sl ([.ref ((ca 0)), .int kind, .int dd, .int vr]) ++ List.replicate (5 - (lg_sl ([.ref ((ca 0)), .int kind, .int dd, .int vr])).length) Slot.unset).toArray = ls at hl ⊢
  have hl : lv_has ls 5 [(0, .ref ((ca 0))), (1, .int kind), (2, .int dd), (3, .int vr)] := hl
  refine lv_aload_n hx hb dX7_parameter_0 rfl (lv_at hl 0 rfl) ?_
  refine va_get (D := D) (ci := 7) (v := .null) (C := RX7) (T := TX7) (N := 11) hx hb hts iX7 hown hK.1 hP 0 rfl rfl 3 (by decide) (hts _ q_76) (fun _ h9 => h9) rfl dX7_parameter_1 ?_
  refine lv_ifnonnullN hx hb dX7_parameter_4 ?_
  refine lv_bipush (v := -14) hx hb dX7_parameter_7 (by decide) ?_
  exact cm_iret (v0 := (-14)) hx hb hr hlocks hP hD hS dX7_parameter_9 (by unfold oPar; rw [if_pos c21]) (by unfold oPar; rw [if_pos c21]; rfl)
set_option maxHeartbeats 800000 in
set_option maxRecDepth 100000 in
theorem c_parameter (l : Launch) (D : va_G) (G : Nat → ClassId) (ca : Nat → Nat) (ea : Nat → Nat → Nat) (n k w0 : Nat) (σ x : MS) (κ : Nat → Int64) (pl : va_W) (sz : Nat) (hE : plE G ea σ κ k pl) (hI : cI σ x n k w0) (ba : Nat → Nat) (hoB : mI σ n k) (kind dd vr : Int32) (hvr : vr = 0 ∨ vr = 1) (c21 : ¬ σ 21 0 = 0) (τ : Nat → Int64) : Met l yX7_parameter (ww yX7_parameter cX7_parameter 5 (some .int)) (rmC 2 0 0) (cmP D G sz (cF G ca (.ref (ba 0)) (enF ea k) σ x ++ (mbW G ba σ k (-1) ++ pl)) [.ref ((ca 0)), .int kind, .int dd, .int vr]) (cmQi D (va_A (cF G ca (.ref (ba 0)) (enF ea k) σ x ++ (mbW G ba σ k (-1) ++ pl)) sz) ((oPar σ τ n k kind dd vr).1) (fun z8 => z8 = cF G ca (.ref (ba 0)) (enF ea k) (oPar σ τ n k kind dd vr).2.1 x ++ (mbW G ba (oPar σ τ n k kind dd vr).2.1 k (-1) ++ pl))) 0 0 (va_A (cF G ca (.ref (ba 0)) (enF ea k) σ x ++ (mbW G ba σ k (-1) ++ pl)) sz) := by
  refine Met.ofW (cc := cX7_parameter) (maxL := 5) (ret := (some .int)) (by decide) rfl ?_
  intro p e s m args below meth c s₁ B hml hv
  obtain ⟨rfl, hsz, hP, hK, hD0⟩ := hv
  have hx := B.exec
  have hb := B.bytes
  have hr := B.returns
  have hts : ∀ w ∈ TT, w.before _ s = true := fun w h => atoms_spec (ws := ww yX7_parameter cX7_parameter 5 (some .int)) B.pre w (List.mem_cons_of_mem _ h)
  have hown : s.vm.findClass RX7 = some m.cls := findClass_of_methodNamed B.named
  have hlocks := B.notSynchronized
  subst hsz
  have hD : va_D (va_A (cF G ca (.ref (ba 0)) (enF ea k) σ x ++ (mbW G ba σ k (-1) ++ pl)) s.heap.size) (cF G ca (.ref (ba 0)) (enF ea k) σ x ++ (mbW G ba σ k (-1) ++ pl)) := hD0.self
  generalize hAe : va_A (cF G ca (.ref (ba 0)) (enF ea k) σ x ++ (mbW G ba σ k (-1) ++ pl)) s.heap.size = A at hD ⊢
  have hA : ∀ q : Nat, s.heap.size ≤ q → A q := fun q h => by rw [← hAe]; exact Or.inr h
  have hS : va_S A s.heap s.heap [] := va_S.rf
  have hP : va_P D vwCl (cF G ca (.ref (ba 0)) (enF ea k) σ x ++ (mbW G ba σ k (-1) ++ pl)) s.heap := hP
  have hI0 := hI
  obtain ⟨h1, hn, h7, hk60, h22, hw, hab, hfa, hmi, hak, hrf⟩ := hI
  have hoo := hoB
  obtain ⟨heB, hmB, hkB, hpB⟩ := hoB
  have htB := heB.2
  have hzB := hmB.2
  have hl := lv_entry ([.ref ((ca 0)), .int kind, .int dd, .int vr]) (n := 5) (Nat.le_of_ble_eq_true rfl)
  rw [lg_entry_eq]
  generalize (lg_sl ([.ref ((ca 0)), .int kind, .int dd, .int vr]) ++ List.replicate (5 - (lg_sl ([.ref ((ca 0)), .int kind, .int dd, .int vr])).length) Slot.unset).toArray = ls at hl ⊢
  have hl : lv_has ls 5 [(0, .ref ((ca 0))), (1, .int kind), (2, .int dd), (3, .int vr)] := hl
  refine lv_aload_n hx hb dX7_parameter_0 rfl (lv_at hl 0 rfl) ?_
  refine va_get (D := D) (ci := 7) (v := .ref ((ba 0))) (C := RX7) (T := TX7) (N := 11) hx hb hts iX7 hown hK.1 hP 0 rfl rfl 3 (by decide) (hts _ q_76) (fun _ h9 => h9) rfl dX7_parameter_1 ?_
  refine lv_ifnonnull (tgt := 10) hx hb dX7_parameter_4 (by decide) ?_
  refine lv_aload_n hx hb dX7_parameter_10 rfl (lv_at hl 0 rfl) ?_
  refine lv_iload_n hx hb dX7_parameter_11 rfl (lv_at hl 1 rfl) ?_
  have hPf : va_P D vwCl (cF G ca (.ref (ba 0)) (enF ea k) σ x) _ := cF_of hP
  have hEf : ∀ e, e < k → va_P D vwCl (eW G (ea e) σ κ e) _ := plE_P hP (plE_app hE _)
  refine ro_Vi (D := D) (G := G) (As := [.int kind]) (rest := []) ⟨hx, hb, hml, hown, hts⟩ (c_isUnknownKind l D G _ ca _ ea n k w0 σ x κ hPf hEf hI0 kind) gV_X7_X7_isUnknownKind hdV_X7_isUnknownKind ⟨Nat.le_of_ble_eq_true rfl, Nat.le_of_ble_eq_true rfl⟩ hK (va_recv hK.1 hP (ci := 7) (q0 := 0) rfl rfl) rfl hl.1 rfl (Nat.le_of_ble_eq_true rfl) dX7_parameter_12 ⟨Nat.le_of_ble_eq_true rfl, Nat.le_of_ble_eq_true rfl⟩ (fun r1 e_r1 => ?_)
  subst e_r1
  refine W.eq (g2 := F0 m 15 ls [.int (bI (noK n kind))]) rfl ?_
  refine lv_if_eq (tgt := 21) hx hb dX7_parameter_15 (by decide) (fun c2 => ?_) (fun c2 => ?_)
  · -- 15 taken
    have c2 := bI_0 c2
    refine lv_iload_n hx hb dX7_parameter_21 rfl (lv_at hl 1 rfl) ?_
    refine lv_iload_n hx hb dX7_parameter_22 rfl (lv_at hl 2 rfl) ?_
    refine ro_Si (D := D) (G := G) (As := [.int kind, .int dd]) (rest := []) ⟨hx, hb, hml, hown, hts⟩ (c_mayBeDeclared l D G _ kind dd) gS_X7_X7_mayBeDeclared hdS_X7_mayBeDeclared ⟨Nat.le_of_ble_eq_true rfl, Nat.le_of_ble_eq_true rfl⟩ hK rfl hl.1 rfl (Nat.le_of_ble_eq_true rfl) dX7_parameter_23 ⟨Nat.le_of_ble_eq_true rfl, Nat.le_of_ble_eq_true rfl⟩ (fun r3 e_r3 => ?_)
    subst e_r3
    refine W.eq (g2 := F0 m 26 ls [.int (bI (decP kind dd))]) rfl ?_
    refine lv_if_ne (tgt := 32) hx hb dX7_parameter_26 (by decide) (fun c4 => ?_) (fun c4 => ?_)
    · -- 26 taken
      have c4 := bI_1 c4
      refine lv_aload_n hx hb dX7_parameter_32 rfl (lv_at hl 0 rfl) ?_
      refine va_get (D := D) (ci := 7) (v := .ref ((ba 0))) (C := RX7) (T := TX7) (N := 11) hx hb hts iX7 hown hK.1 hP 0 rfl rfl 3 (by decide) (hts _ q_76) (fun _ h9 => h9) rfl dX7_parameter_33 ?_
      refine va_get (D := D) (ci := 4) (v := .ref ((ba 1))) (C := RX3) (T := TX3) (N := 9) hx hb hts iX3 hown hK.1 hP 14 rfl rfl 6 (by decide) (hts _ q_318) (fun _ h9 => h9) rfl dX7_parameter_36 ?_
      refine ro_Vi (D := D) (G := G) (As := []) (rest := []) ⟨hx, hb, hml, hown, hts⟩ (c_isFull l D G _ _ _ _ _ _ _ (by omega) (bg_row hP hmB.1) ) gV_X7_X4_isFull hdV_X4_isFull ⟨Nat.le_of_ble_eq_true rfl, Nat.le_of_ble_eq_true rfl⟩ hK (va_recv hK.1 hP (ci := 5) (q0 := 15) rfl rfl) rfl hl.1 rfl (Nat.le_of_ble_eq_true rfl) dX7_parameter_39 ⟨Nat.le_of_ble_eq_true rfl, Nat.le_of_ble_eq_true rfl⟩ (fun r5 e_r5 => ?_)
      subst e_r5
      refine W.eq (g2 := F0 m 42 ls [.int (bI (mnE σ k = 5))]) rfl ?_
      refine lv_if_eq (tgt := 48) hx hb dX7_parameter_42 (by decide) (fun c6 => ?_) (fun c6 => ?_)
      · -- 42 taken
        have c6 := bI_0 c6
        refine lv_iload_n hx hb dX7_parameter_48 rfl (lv_at hl 1 rfl) ?_
        refine lv_iload_n hx hb dX7_parameter_49 rfl (lv_at hl 2 rfl) ?_
        refine lv_iload_n hx hb dX7_parameter_50 rfl (lv_at hl 3 rfl) ?_
        refine lv_aload_n hx hb dX7_parameter_51 rfl (lv_at hl 0 rfl) ?_
        refine va_get (D := D) (ci := 7) (v := .ref ((ba 0))) (C := RX7) (T := TX7) (N := 11) hx hb hts iX7 hown hK.1 hP 0 rfl rfl 3 (by decide) (hts _ q_76) (fun _ h9 => h9) rfl dX7_parameter_52 ?_
        refine va_get (D := D) (ci := 4) (v := .int (σ 17 k)) (C := RX3) (T := TX3) (N := 9) hx hb hts iX3 hown hK.1 hP 14 rfl rfl 7 (by decide) (hts _ q_319) (fun _ h9 => h9) rfl dX7_parameter_55 ?_
        refine ro_Si (D := D) (G := G) (As := [.int kind, .int dd, .int vr, .int (σ 17 k)]) (rest := []) ⟨hx, hb, hml, hown, hts⟩ (c_ofParameter l D G _ kind dd vr (σ 17 k)) gS_X7_X5_ofParameter hdS_X5_ofParameter ⟨Nat.le_of_ble_eq_true rfl, Nat.le_of_ble_eq_true rfl⟩ hK rfl hl.1 rfl (Nat.le_of_ble_eq_true rfl) dX7_parameter_58 ⟨Nat.le_of_ble_eq_true rfl, Nat.le_of_ble_eq_true rfl⟩ (fun r7 e_r7 => ?_)
        subst e_r7
        refine W.eq (g2 := F0 m 61 ls [.int (rpF kind dd vr (σ 17 k))]) rfl ?_
        refine lv_istore (lv' := [(4, .int (rpF kind dd vr (σ 17 k))), (0, .ref ((ca 0))), (1, .int kind), (2, .int dd), (3, .int vr)]) hx hb dX7_parameter_61 hl (by decide) rfl (fun ls hl => ?_)
        rcases rp_cases kind dd vr (σ 17 k) with ⟨g1, ge⟩ | ⟨g1, g2, ge⟩ | ⟨g1, g2, g3, ge⟩ | ⟨g1, g2, g3, ge⟩
        · -- rule 18
          rw [ge] at hl
          refine lv_iload hx hb dX7_parameter_63 (lv_at hl 0 rfl) ?_
          refine lv_if_eq (tgt := 75) hx hb dX7_parameter_65 (by decide) (fun hh => absurd hh (by decide)) (fun hh => ?_)
          refine lv_aload_n hx hb dX7_parameter_68 rfl (lv_at hl 1 rfl) ?_
          refine lv_iload hx hb dX7_parameter_69 (lv_at hl 0 rfl) ?_
          refine cm_Vi (D := D) (G := G) (As := [.int 18]) (rest := []) ⟨hx, hb, hml, hown, hts⟩ (c_breakRule l D G ca _ ea n k w0 σ x κ _ _ (plE_app hE _) hI0 (18) (by omega) (by omega)) gV_X7_X7_breakRule hdV_X7_breakRule ⟨Nat.le_of_ble_eq_true rfl, Nat.le_of_ble_eq_true rfl⟩ hK (va_recv hK.1 hP (ci := 7) (q0 := 0) rfl rfl) hP hD hS hA rfl hl.1 rfl (Nat.le_of_ble_eq_true rfl) dX7_parameter_71 ⟨Nat.le_of_ble_eq_true rfl, Nat.le_of_ble_eq_true rfl⟩ (fun ws H locs hw hP hD hS => ?_)
          subst hw
          have hP : va_P D vwCl (cF G ca (.ref (ba 0)) (enF ea k) (su (su σ 27 (18) (σ 27 18 + 1)) 26 (0) (σ 26 0 + 1)) x ++ (bgW G ba (σ 9 k) (σ 10 k) (σ 11 k) (σ 12 k) (σ 13 k) (σ 16 k) (σ 17 k) (σ 18 k) (pkF σ 19 k) (pkF σ 20 k) ((-1)) ++ pl)) H := hP
          have hD : va_D A (cF G ca (.ref (ba 0)) (enF ea k) (su (su σ 27 (18) (σ 27 18 + 1)) 26 (0) (σ 26 0 + 1)) x ++ (bgW G ba (σ 9 k) (σ 10 k) (σ 11 k) (σ 12 k) (σ 13 k) (σ 16 k) (σ 17 k) (σ 18 k) (pkF σ 19 k) (pkF σ 20 k) ((-1)) ++ pl)) := hD
          refine W.eq (g2 := F0 m 74 ls [.int ((-40) - nI 18)]) rfl ?_
          exact cm_iret (v0 := (-40) - nI 18) hx hb hr hlocks hP hD hS dX7_parameter_74 (by unfold oPar; rw [if_neg c21, if_neg c2, if_neg (dec_iff.mp c4), if_neg c6, if_pos g1]; try rfl) (by unfold oPar; rw [if_neg c21, if_neg c2, if_neg (dec_iff.mp c4), if_neg c6, if_pos g1]; try rfl)
        · -- rule 19
          rw [ge] at hl
          refine lv_iload hx hb dX7_parameter_63 (lv_at hl 0 rfl) ?_
          refine lv_if_eq (tgt := 75) hx hb dX7_parameter_65 (by decide) (fun hh => absurd hh (by decide)) (fun hh => ?_)
          refine lv_aload_n hx hb dX7_parameter_68 rfl (lv_at hl 1 rfl) ?_
          refine lv_iload hx hb dX7_parameter_69 (lv_at hl 0 rfl) ?_
          refine cm_Vi (D := D) (G := G) (As := [.int 19]) (rest := []) ⟨hx, hb, hml, hown, hts⟩ (c_breakRule l D G ca _ ea n k w0 σ x κ _ _ (plE_app hE _) hI0 (19) (by omega) (by omega)) gV_X7_X7_breakRule hdV_X7_breakRule ⟨Nat.le_of_ble_eq_true rfl, Nat.le_of_ble_eq_true rfl⟩ hK (va_recv hK.1 hP (ci := 7) (q0 := 0) rfl rfl) hP hD hS hA rfl hl.1 rfl (Nat.le_of_ble_eq_true rfl) dX7_parameter_71 ⟨Nat.le_of_ble_eq_true rfl, Nat.le_of_ble_eq_true rfl⟩ (fun ws H locs hw hP hD hS => ?_)
          subst hw
          have hP : va_P D vwCl (cF G ca (.ref (ba 0)) (enF ea k) (su (su σ 27 (19) (σ 27 19 + 1)) 26 (0) (σ 26 0 + 1)) x ++ (bgW G ba (σ 9 k) (σ 10 k) (σ 11 k) (σ 12 k) (σ 13 k) (σ 16 k) (σ 17 k) (σ 18 k) (pkF σ 19 k) (pkF σ 20 k) ((-1)) ++ pl)) H := hP
          have hD : va_D A (cF G ca (.ref (ba 0)) (enF ea k) (su (su σ 27 (19) (σ 27 19 + 1)) 26 (0) (σ 26 0 + 1)) x ++ (bgW G ba (σ 9 k) (σ 10 k) (σ 11 k) (σ 12 k) (σ 13 k) (σ 16 k) (σ 17 k) (σ 18 k) (pkF σ 19 k) (pkF σ 20 k) ((-1)) ++ pl)) := hD
          refine W.eq (g2 := F0 m 74 ls [.int ((-40) - nI 19)]) rfl ?_
          exact cm_iret (v0 := (-40) - nI 19) hx hb hr hlocks hP hD hS dX7_parameter_74 (by unfold oPar; rw [if_neg c21, if_neg c2, if_neg (dec_iff.mp c4), if_neg c6, if_neg g1, if_pos g2]; try rfl) (by unfold oPar; rw [if_neg c21, if_neg c2, if_neg (dec_iff.mp c4), if_neg c6, if_neg g1, if_pos g2]; try rfl)
        · -- rule 20
          rw [ge] at hl
          refine lv_iload hx hb dX7_parameter_63 (lv_at hl 0 rfl) ?_
          refine lv_if_eq (tgt := 75) hx hb dX7_parameter_65 (by decide) (fun hh => absurd hh (by decide)) (fun hh => ?_)
          refine lv_aload_n hx hb dX7_parameter_68 rfl (lv_at hl 1 rfl) ?_
          refine lv_iload hx hb dX7_parameter_69 (lv_at hl 0 rfl) ?_
          refine cm_Vi (D := D) (G := G) (As := [.int 20]) (rest := []) ⟨hx, hb, hml, hown, hts⟩ (c_breakRule l D G ca _ ea n k w0 σ x κ _ _ (plE_app hE _) hI0 (20) (by omega) (by omega)) gV_X7_X7_breakRule hdV_X7_breakRule ⟨Nat.le_of_ble_eq_true rfl, Nat.le_of_ble_eq_true rfl⟩ hK (va_recv hK.1 hP (ci := 7) (q0 := 0) rfl rfl) hP hD hS hA rfl hl.1 rfl (Nat.le_of_ble_eq_true rfl) dX7_parameter_71 ⟨Nat.le_of_ble_eq_true rfl, Nat.le_of_ble_eq_true rfl⟩ (fun ws H locs hw hP hD hS => ?_)
          subst hw
          have hP : va_P D vwCl (cF G ca (.ref (ba 0)) (enF ea k) (su (su σ 27 (20) (σ 27 20 + 1)) 26 (0) (σ 26 0 + 1)) x ++ (bgW G ba (σ 9 k) (σ 10 k) (σ 11 k) (σ 12 k) (σ 13 k) (σ 16 k) (σ 17 k) (σ 18 k) (pkF σ 19 k) (pkF σ 20 k) ((-1)) ++ pl)) H := hP
          have hD : va_D A (cF G ca (.ref (ba 0)) (enF ea k) (su (su σ 27 (20) (σ 27 20 + 1)) 26 (0) (σ 26 0 + 1)) x ++ (bgW G ba (σ 9 k) (σ 10 k) (σ 11 k) (σ 12 k) (σ 13 k) (σ 16 k) (σ 17 k) (σ 18 k) (pkF σ 19 k) (pkF σ 20 k) ((-1)) ++ pl)) := hD
          refine W.eq (g2 := F0 m 74 ls [.int ((-40) - nI 20)]) rfl ?_
          exact cm_iret (v0 := (-40) - nI 20) hx hb hr hlocks hP hD hS dX7_parameter_74 (by unfold oPar; rw [if_neg c21, if_neg c2, if_neg (dec_iff.mp c4), if_neg c6, if_neg g1, if_neg (fun h9 => h9 g2), if_pos g3]; try rfl) (by unfold oPar; rw [if_neg c21, if_neg c2, if_neg (dec_iff.mp c4), if_neg c6, if_neg g1, if_neg (fun h9 => h9 g2), if_pos g3]; try rfl)
        · -- rule 0
          rw [ge] at hl
          refine lv_iload hx hb dX7_parameter_63 (lv_at hl 0 rfl) ?_
          refine lv_if_eq (tgt := 75) hx hb dX7_parameter_65 (by decide) (fun hh => ?_) (fun hh => absurd (by decide) hh)
          refine lv_aload_n hx hb dX7_parameter_75 rfl (lv_at hl 1 rfl) ?_
          refine va_get (D := D) (ci := 7) (v := .ref ((ba 0))) (C := RX7) (T := TX7) (N := 11) hx hb hts iX7 hown hK.1 hP 0 rfl rfl 3 (by decide) (hts _ q_76) (fun _ h9 => h9) rfl dX7_parameter_76 ?_
          refine lv_iload_n hx hb dX7_parameter_79 rfl (lv_at hl 4 rfl) ?_
          refine va_put (D := D) (ci := 4) (v := .int vr) (ty := .boolean) (C := RX3) (T := TX3) (N := 9) hx hb hts iX3 tyX3 tyX3_ok nmX3 hown hK.1 hP hD hS 14 rfl rfl 7 (by decide) (hts _ q_319) (fun _ h9 => h9) rfl (by decide +kernel) (by rcases hvr with h9 | h9 <;> rw [h9] <;> rfl) (by rcases hvr with h9 | h9 <;> rw [h9] <;> rfl) (Nat.le_of_ble_eq_true rfl) dX7_parameter_80 (fun H locs hP hD hS => ?_)
          have hP : va_P D vwCl (cF G ca (.ref (ba 0)) (enF ea k) σ x ++ (bgW G ba (σ 9 k) (σ 10 k) (σ 11 k) (σ 12 k) (σ 13 k) (σ 16 k) vr (σ 18 k) (pkF σ 19 k) (pkF σ 20 k) ((-1)) ++ pl)) H := hP
          have hD : va_D A (cF G ca (.ref (ba 0)) (enF ea k) σ x ++ (bgW G ba (σ 9 k) (σ 10 k) (σ 11 k) (σ 12 k) (σ 13 k) (σ 16 k) vr (σ 18 k) (pkF σ 19 k) (pkF σ 20 k) ((-1)) ++ pl)) := hD
          refine lv_aload_n hx hb dX7_parameter_83 rfl (lv_at hl 1 rfl) ?_
          refine va_get (D := D) (ci := 7) (v := .ref ((ba 0))) (C := RX7) (T := TX7) (N := 11) hx hb hts iX7 hown hK.1 hP 0 rfl rfl 3 (by decide) (hts _ q_76) (fun _ h9 => h9) rfl dX7_parameter_84 ?_
          refine va_get (D := D) (ci := 4) (v := .ref ((ba 1))) (C := RX3) (T := TX3) (N := 9) hx hb hts iX3 hown hK.1 hP 14 rfl rfl 6 (by decide) (hts _ q_318) (fun _ h9 => h9) rfl dX7_parameter_87 ?_
          refine lv_iload_n hx hb dX7_parameter_90 rfl (lv_at hl 2 rfl) ?_
          refine lv_iload_n hx hb dX7_parameter_91 rfl (lv_at hl 3 rfl) ?_
          refine cm_Vi (D := D) (G := G) (As := [.int kind, .int dd]) (rest := []) ⟨hx, hb, hml, hown, hts⟩ (c_bgAdd l D G ca _ _ σ x ba (σ 9 k) (σ 10 k) (σ 11 k) (σ 12 k) (σ 13 k) (σ 16 k) vr (σ 18 k) (pkF σ 19 k) (pkF σ 20 k) ((-1)) pl _ (mnE σ k) hmB.1 (by omega) kind dd) gV_X7_X4_add hdV_X4_add ⟨Nat.le_of_ble_eq_true rfl, Nat.le_of_ble_eq_true rfl⟩ hK (va_recv hK.1 hP (ci := 5) (q0 := 15) rfl rfl) hP hD hS hA rfl hl.1 rfl (Nat.le_of_ble_eq_true rfl) dX7_parameter_92 ⟨Nat.le_of_ble_eq_true rfl, Nat.le_of_ble_eq_true rfl⟩ (fun ws H locs hw hP hD hS => ?_)
          subst hw
          have hP : va_P D vwCl (cF G ca (.ref (ba 0)) (enF ea k) σ x ++ (bgW G ba (σ 9 k) (σ 10 k) (σ 11 k) (σ 12 k) (σ 13 k) (σ 16 k) vr (nI (mnE σ k + 1)) (upd (pkF σ 19 k) (mnE σ k) (kind)) (upd (pkF σ 20 k) (mnE σ k) (dd)) ((-1)) ++ pl)) H := hP
          have hD : va_D A (cF G ca (.ref (ba 0)) (enF ea k) σ x ++ (bgW G ba (σ 9 k) (σ 10 k) (σ 11 k) (σ 12 k) (σ 13 k) (σ 16 k) vr (nI (mnE σ k + 1)) (upd (pkF σ 19 k) (mnE σ k) (kind)) (upd (pkF σ 20 k) (mnE σ k) (dd)) ((-1)) ++ pl)) := hD
          refine W.eq (g2 := F0 m 95 ls [.int (nI (mnE σ k + 1))]) rfl ?_
          exact cm_iret (v0 := nI (mnE σ k + 1)) hx hb hr hlocks hP hD hS dX7_parameter_95 (by unfold oPar; rw [if_neg c21, if_neg c2, if_neg (dec_iff.mp c4), if_neg c6, if_neg g1, if_neg (fun h9 => h9 g2), if_neg g3]; try rfl) (by rw [bg_mb hmB (by omega)]; unfold oPar; rw [if_neg c21, if_neg c2, if_neg (dec_iff.mp c4), if_neg c6, if_neg g1, if_neg (fun h9 => h9 g2), if_neg g3]; try rfl)
      · -- 42 not
        have c6 := bI_1 c6
        refine lv_bipush (v := -15) hx hb dX7_parameter_45 (by decide) ?_
        exact cm_iret (v0 := (-15)) hx hb hr hlocks hP hD hS dX7_parameter_47 (by unfold oPar; rw [if_neg c21, if_neg c2, if_neg (dec_iff.mp c4), if_pos c6]; try rfl) (by unfold oPar; rw [if_neg c21, if_neg c2, if_neg (dec_iff.mp c4), if_pos c6]; try rfl)
    · -- 26 not
      have c4 := bI_0 c4
      refine lv_bipush (v := -13) hx hb dX7_parameter_29 (by decide) ?_
      exact cm_iret (v0 := (-13)) hx hb hr hlocks hP hD hS dX7_parameter_31 (by unfold oPar; rw [if_neg c21, if_neg c2, if_pos (Decidable.of_not_not (mt dec_iff.mpr c4))]; try rfl) (by unfold oPar; rw [if_neg c21, if_neg c2, if_pos (Decidable.of_not_not (mt dec_iff.mpr c4))]; try rfl)
  · -- 15 not
    have c2 := bI_1 c2
    refine lv_bipush (v := -11) hx hb dX7_parameter_18 (by decide) ?_
    exact cm_iret (v0 := (-11)) hx hb hr hlocks hP hD hS dX7_parameter_20 (by unfold oPar; rw [if_neg c21, if_pos c2]; try rfl) (by unfold oPar; rw [if_neg c21, if_pos c2]; try rfl)
