theorem bg_M {D : va_G} {cl : List vw_C} {G : Nat → ClassId} {H : Heap} {ca ba : Nat → Nat} {bg : Value} {en : Nat → Option Nat} {σ' σ x : MS} {k : Nat} {me : Int32} {pl : va_W} (h : va_P D cl (cF G ca bg en σ' x ++ (bgW G ba (σ 9 k) (σ 10 k) (σ 11 k) (σ 12 k) (σ 13 k) (σ 16 k) (σ 17 k) (σ 18 k) (pkF σ 19 k) (pkF σ 20 k) me ++ pl)) H) : va_P D cl (mbW G ba σ k me) H := h.sub [14, 15, 16, 17] rfl
theorem rmF_ok {σ : MS} {e : Nat} : ∀ f b, okR (rmF σ e f b)
  | 0, _ => okR_n 0
  | f + 1, b => by
    unfold rmF
    by_cases h : meetP σ e b
    · rw [if_pos h]
      split
      · exact aRA_ok
      · exact rmF_ok f (b + 1)
    · rw [if_neg h]
      split
      · exact okR_n 0
      · exact rmF_ok f (b + 1)
theorem okR_pos {v : Int32} (h : okR v) (q : ¬ v = 0) : 1 ≤ v.toNatClampNeg ∧ v.toNatClampNeg ≤ 25 := by
  refine ⟨?_, by have := h.2; omega⟩
  rcases Nat.eq_zero_or_pos v.toNatClampNeg with h0 | h0
  · have h1 := h.1; rw [h0] at h1; exact absurd (show v = 0 from h1) q
  · exact h0
theorem okR_le {v : Int32} (h : okR v) : v ≤ 0 ↔ v = 0 := by
  have h1 : v.toInt = (v.toNatClampNeg : Int) := by
    have := n_ti (a := v.toNatClampNeg) (by have := h.2; omega)
    rw [← h.1] at this; exact this
  simp only [i_le, i_eq, h1, Int32.reduceToInt]; omega
theorem set_r {a b : va_W} {n i : Nat} {c : Nat × va_E} (h : a.length = n) : (a ++ b).set (n + i) c = a ++ b.set i c := by
  rw [← h, List.set_append_right _ _ (Nat.le_add_right _ _), Nat.add_sub_cancel_left]
theorem get_r {a b : va_W} {n i : Nat} {c : Option (Nat × va_E)} (h : a.length = n) (q : b[i]? = c) : (a ++ b)[n + i]? = c := by
  rw [← h, List.getElem?_append_right (Nat.le_add_right _ _), Nat.add_sub_cancel_left]; exact q
theorem get_s {b : va_W} {i : Nat} {c o : Nat × va_E} (q : b[i]? = some o) : (b.set i c)[i]? = some c := by
  rw [List.getElem?_set_self (List.getElem?_eq_some_iff.mp q).1]
/-- where a field's cell lies in the pool -/
theorem pl_at {G : Nat → ClassId} {ea : Nat → Nat → Nat} {σ : MS} {κ : Nat → Int64} {k j : Nat} {pl : va_W} (hE : plE G ea σ κ k pl) (hj : j < k) (h8 : σ 8 j = 0) : ∃ i : Nat, pl[i]? = some ((ea j 0, .inr (3, [.int (σ 9 j), .int (σ 10 j), .int (σ 11 j), .int (σ 12 j), .int (σ 13 j), .int (σ 14 j), .long (κ j)])) : Nat × va_E) :=
  List.getElem?_of_mem (hE j hj _ (by rw [show eW G (ea j) σ κ j = _ from if_pos h8]; exact List.mem_singleton_self _))
theorem mh_iff {σ : MS} {j : Nat} (hd : 0 ≤ σ 12 j) : mhP σ j ↔ ¬ (σ 13 j &&& 16 = 0 ∨ ¬ (1 ≤ σ 11 j ∧ σ 11 j ≤ 8) ∨ ¬ σ 12 j ≤ 0) := by
  rw [mhP_def]
  by_cases h : σ 13 j &&& 16 = 0
  · simp only [h, not_true, false_and, true_or]
  · simp only [h, not_false_iff, true_and, false_or]
    simp only [i_le, i_lt, i_eq, Int32.reduceToInt] at hd ⊢; omega

theorem dX7_end_0 : decode cX7_end 0 = .ok (.aload_n 0, 1) := by decide +kernel
theorem dX7_end_1 : decode cX7_end 1 = .ok (.getfield 65, 3) := by decide +kernel
theorem dX7_end_4 : decode cX7_end 4 = .ok (.ifnonnull 6, 3) := by decide +kernel
theorem dX7_end_7 : decode cX7_end 7 = .ok (.bipush (-14), 2) := by decide +kernel
theorem dX7_end_9 : decode cX7_end 9 = .ok (.ireturn, 1) := by decide +kernel
theorem brk_neg {v : Int32} (h : okR v) : ¬ (0 : Int32) ≤ (-40) - nI v.toNatClampNeg := by
  have h2 := h.2
  have : ∀ j : Fin 26, ¬ (0 : Int32) ≤ (-40) - nI j.val := by decide
  exact this ⟨_, h2⟩
theorem dX7_end_10 : decode cX7_end 10 = .ok (.aload_n 0, 1) := by decide +kernel
theorem dX7_end_11 : decode cX7_end 11 = .ok (.getfield 65, 3) := by decide +kernel
theorem dX7_end_14 : decode cX7_end 14 = .ok (.astore_n 1, 1) := by decide +kernel
theorem dX7_end_15 : decode cX7_end 15 = .ok (.aload_n 0, 1) := by decide +kernel
theorem dX7_end_16 : decode cX7_end 16 = .ok (.aconst_null, 1) := by decide +kernel
theorem dX7_end_17 : decode cX7_end 17 = .ok (.putfield 65, 3) := by decide +kernel
theorem dX7_end_20 : decode cX7_end 20 = .ok (.aload_n 0, 1) := by decide +kernel
theorem dX7_end_21 : decode cX7_end 21 = .ok (.aload_n 1, 1) := by decide +kernel
theorem q_356 : Cond.methodLink "FieldMember" 185 ⟨"FieldMember", "isDeclaredTwice", "(LFieldMember$Member;)Z"⟩ ∈ TT := tt_t (i := 356) (by decide +kernel) (by decide +kernel)
theorem q_359 : Cond.code ⟨"FieldMember", "isDeclaredTwice", "(LFieldMember$Member;)Z"⟩ prog_1_method_33_code 5 (some .boolean) ∈ TT := tt_t (i := 359) (by decide +kernel) (by decide +kernel)
theorem q_358 : Cond.instanceMethod ⟨"FieldMember", "isDeclaredTwice", "(LFieldMember$Member;)Z"⟩ ∈ TT := tt_t (i := 358) (by decide +kernel) (by decide +kernel)
theorem qs_7 : Cond.selects "FieldMember" ⟨"FieldMember", "isDeclaredTwice", "(LFieldMember$Member;)Z"⟩ ⟨"FieldMember", "isDeclaredTwice", "(LFieldMember$Member;)Z"⟩ ∈ TT := tt_s (i := 7) (by decide +kernel) (by decide +kernel)
theorem gV_X7_X7_isDeclaredTwice : GoodIn TT (wsV RX7 185 RX7 yX7_isDeclaredTwice (ww yX7_isDeclaredTwice cX7_isDeclaredTwice 5 (some .boolean))) := tt_V q_356 q_358 qs_7 q_1 q_359
theorem hdV_X7_isDeclaredTwice : yX7_isDeclaredTwice.cls = RX7 ∧ yX7_isDeclaredTwice.cls ≠ "java/lang/invoke/MethodHandle" ∧ yX7_isDeclaredTwice.cls ≠ "java/lang/invoke/VarHandle" ∧ (parseMethodDescriptor yX7_isDeclaredTwice.desc).map (fun d => d.parameters.length) = some 1 := by decide +kernel
theorem dX7_end_22 : decode cX7_end 22 = .ok (.invokevirtual 185, 3) := by decide +kernel
theorem dX7_end_25 : decode cX7_end 25 = .ok (.ifCond .eq 8, 3) := by decide +kernel
theorem dX7_end_33 : decode cX7_end 33 = .ok (.aload_n 0, 1) := by decide +kernel
theorem dX7_end_34 : decode cX7_end 34 = .ok (.aload_n 1, 1) := by decide +kernel
theorem q_376 : Cond.methodLink "FieldMember" 189 ⟨"FieldMember", "ruleOfMeetings", "(LFieldMember$Member;)I"⟩ ∈ TT := tt_t (i := 376) (by decide +kernel) (by decide +kernel)
theorem q_379 : Cond.code ⟨"FieldMember", "ruleOfMeetings", "(LFieldMember$Member;)I"⟩ prog_1_method_34_code 5 (some .int) ∈ TT := tt_t (i := 379) (by decide +kernel) (by decide +kernel)
theorem q_378 : Cond.instanceMethod ⟨"FieldMember", "ruleOfMeetings", "(LFieldMember$Member;)I"⟩ ∈ TT := tt_t (i := 378) (by decide +kernel) (by decide +kernel)
theorem qs_8 : Cond.selects "FieldMember" ⟨"FieldMember", "ruleOfMeetings", "(LFieldMember$Member;)I"⟩ ⟨"FieldMember", "ruleOfMeetings", "(LFieldMember$Member;)I"⟩ ∈ TT := tt_s (i := 8) (by decide +kernel) (by decide +kernel)
theorem gV_X7_X7_ruleOfMeetings : GoodIn TT (wsV RX7 189 RX7 yX7_ruleOfMeetings (ww yX7_ruleOfMeetings cX7_ruleOfMeetings 5 (some .int))) := tt_V q_376 q_378 qs_8 q_1 q_379
theorem hdV_X7_ruleOfMeetings : yX7_ruleOfMeetings.cls = RX7 ∧ yX7_ruleOfMeetings.cls ≠ "java/lang/invoke/MethodHandle" ∧ yX7_ruleOfMeetings.cls ≠ "java/lang/invoke/VarHandle" ∧ (parseMethodDescriptor yX7_ruleOfMeetings.desc).map (fun d => d.parameters.length) = some 1 := by decide +kernel
theorem dX7_end_35 : decode cX7_end 35 = .ok (.invokevirtual 189, 3) := by decide +kernel
theorem dX7_end_38 : decode cX7_end 38 = .ok (.istore_n 2, 1) := by decide +kernel
theorem dX7_end_39 : decode cX7_end 39 = .ok (.iload_n 2, 1) := by decide +kernel
theorem dX7_end_40 : decode cX7_end 40 = .ok (.ifCond .eq 9, 3) := by decide +kernel
theorem dX7_end_49 : decode cX7_end 49 = .ok (.aload_n 1, 1) := by decide +kernel
theorem dX7_end_50 : decode cX7_end 50 = .ok (.aload_n 0, 1) := by decide +kernel
theorem dX7_end_51 : decode cX7_end 51 = .ok (.aload_n 1, 1) := by decide +kernel
theorem q_406 : Cond.methodLink "FieldMember" 193 ⟨"FieldMember", "leastMet", "(LFieldMember$Member;)I"⟩ ∈ TT := tt_t (i := 406) (by decide +kernel) (by decide +kernel)
theorem q_409 : Cond.code ⟨"FieldMember", "leastMet", "(LFieldMember$Member;)I"⟩ prog_1_method_35_code 5 (some .int) ∈ TT := tt_t (i := 409) (by decide +kernel) (by decide +kernel)
theorem q_408 : Cond.instanceMethod ⟨"FieldMember", "leastMet", "(LFieldMember$Member;)I"⟩ ∈ TT := tt_t (i := 408) (by decide +kernel) (by decide +kernel)
theorem qs_14 : Cond.selects "FieldMember" ⟨"FieldMember", "leastMet", "(LFieldMember$Member;)I"⟩ ⟨"FieldMember", "leastMet", "(LFieldMember$Member;)I"⟩ ∈ TT := tt_s (i := 14) (by decide +kernel) (by decide +kernel)
theorem gV_X7_X7_leastMet : GoodIn TT (wsV RX7 193 RX7 yX7_leastMet (ww yX7_leastMet cX7_leastMet 5 (some .int))) := tt_V q_406 q_408 qs_14 q_1 q_409
theorem hdV_X7_leastMet : yX7_leastMet.cls = RX7 ∧ yX7_leastMet.cls ≠ "java/lang/invoke/MethodHandle" ∧ yX7_leastMet.cls ≠ "java/lang/invoke/VarHandle" ∧ (parseMethodDescriptor yX7_leastMet.desc).map (fun d => d.parameters.length) = some 1 := by decide +kernel
theorem dX7_end_52 : decode cX7_end 52 = .ok (.invokevirtual 193, 3) := by decide +kernel
theorem dX7_end_55 : decode cX7_end 55 = .ok (.putfield 196, 3) := by decide +kernel
theorem dX7_end_58 : decode cX7_end 58 = .ok (.aload_n 0, 1) := by decide +kernel
theorem dX7_end_59 : decode cX7_end 59 = .ok (.aload_n 1, 1) := by decide +kernel
theorem q_259 : Cond.methodLink "FieldMember" 101 ⟨"FieldMember", "addEntry", "(LFieldMember$Entry;)I"⟩ ∈ TT := tt_t (i := 259) (by decide +kernel) (by decide +kernel)
theorem q_262 : Cond.code ⟨"FieldMember", "addEntry", "(LFieldMember$Entry;)I"⟩ prog_1_method_31_code 2 (some .int) ∈ TT := tt_t (i := 262) (by decide +kernel) (by decide +kernel)
theorem q_261 : Cond.instanceMethod ⟨"FieldMember", "addEntry", "(LFieldMember$Entry;)I"⟩ ∈ TT := tt_t (i := 261) (by decide +kernel) (by decide +kernel)
theorem qs_5 : Cond.selects "FieldMember" ⟨"FieldMember", "addEntry", "(LFieldMember$Entry;)I"⟩ ⟨"FieldMember", "addEntry", "(LFieldMember$Entry;)I"⟩ ∈ TT := tt_s (i := 5) (by decide +kernel) (by decide +kernel)
theorem gV_X7_X7_addEntry : GoodIn TT (wsV RX7 101 RX7 yX7_addEntry (ww yX7_addEntry cX7_addEntry 2 (some .int))) := tt_V q_259 q_261 qs_5 q_1 q_262
theorem hdV_X7_addEntry : yX7_addEntry.cls = RX7 ∧ yX7_addEntry.cls ≠ "java/lang/invoke/MethodHandle" ∧ yX7_addEntry.cls ≠ "java/lang/invoke/VarHandle" ∧ (parseMethodDescriptor yX7_addEntry.desc).map (fun d => d.parameters.length) = some 1 := by decide +kernel
theorem dX7_end_60 : decode cX7_end 60 = .ok (.invokevirtual 101, 3) := by decide +kernel
theorem dX7_end_63 : decode cX7_end 63 = .ok (.ireturn, 1) := by decide +kernel
theorem dX7_end_43 : decode cX7_end 43 = .ok (.aload_n 0, 1) := by decide +kernel
theorem dX7_end_44 : decode cX7_end 44 = .ok (.iload_n 2, 1) := by decide +kernel
theorem dX7_end_45 : decode cX7_end 45 = .ok (.invokevirtual 92, 3) := by decide +kernel
theorem dX7_end_48 : decode cX7_end 48 = .ok (.ireturn, 1) := by decide +kernel
theorem dX7_end_28 : decode cX7_end 28 = .ok (.bipush 21, 2) := by decide +kernel
theorem dX7_end_30 : decode cX7_end 30 = .ok (.goto 8, 3) := by decide +kernel
set_option maxHeartbeats 800000 in
set_option maxRecDepth 100000 in
theorem c_endNo (l : Launch) (D : va_G) (G : Nat → ClassId) (ca : Nat → Nat) (ea : Nat → Nat → Nat) (n k w0 : Nat) (σ x : MS) (κ : Nat → Int64) (pl : va_W) (sz : Nat) (hE : plE G ea σ κ k pl) (hI : cI σ x n k w0) (c21 : σ 21 0 = 0) (τ : Nat → Int64) : Met l yX7_end (ww yX7_end cX7_end 3 (some .int)) (rmC 6 0 0) (cmP D G sz (cF G ca .null (enF ea k) σ x ++ pl) [.ref ((ca 0))]) (cmQi D (va_A (cF G ca .null (enF ea k) σ x ++ pl) sz) ((oEnd σ τ k).1) (fun z8 => z8 = cF G ca .null (enF ea k) (oEnd σ τ k).2.1 x ++ pl)) 0 0 (va_A (cF G ca .null (enF ea k) σ x ++ pl) sz) := by
  refine Met.ofW (cc := cX7_end) (maxL := 3) (ret := (some .int)) (by decide) rfl ?_
  intro p e s m args below meth c s₁ B hml hv
  obtain ⟨rfl, hsz, hP, hK, hD0⟩ := hv
  have hx := B.exec
  have hb := B.bytes
  have hr := B.returns
  have hts : ∀ w ∈ TT, w.before _ s = true := fun w h => atoms_spec (ws := ww yX7_end cX7_end 3 (some .int)) B.pre w (List.mem_cons_of_mem _ h)
  have hown : s.vm.findClass RX7 = some m.cls := findClass_of_methodNamed B.named
  have hlocks := B.notSynchronized
  subst hsz
  have hD : va_D (va_A (cF G ca .null (enF ea k) σ x ++ pl) s.heap.size) (cF G ca .null (enF ea k) σ x ++ pl) := hD0.self
  generalize hAe : va_A (cF G ca .null (enF ea k) σ x ++ pl) s.heap.size = A at hD ⊢
  have hA : ∀ q : Nat, s.heap.size ≤ q → A q := fun q h => by rw [← hAe]; exact Or.inr h
  have hS : va_S A s.heap s.heap [] := va_S.rf
  have hP : va_P D vwCl (cF G ca .null (enF ea k) σ x ++ pl) s.heap := hP
  have hI0 := hI
  obtain ⟨h1, hn, h7, hk60, h22, hw, hab, hfa, hmi, hak, hrf⟩ := hI
  have hl := lv_entry ([.ref ((ca 0))]) (n := 3) (Nat.le_of_ble_eq_true rfl)
  rw [lg_entry_eq]
  generalize (lg_sl ([.ref ((ca 0))]) ++ List.replicate (3 - (lg_sl ([.ref ((ca 0))])).length) Slot.unset).toArray = ls at hl ⊢
  have hl : lv_has ls 3 [(0, .ref ((ca 0)))] := hl
  refine lv_aload_n hx hb dX7_end_0 rfl (lv_at hl 0 rfl) ?_
  refine va_get (D := D) (ci := 7) (v := .null) (C := RX7) (T := TX7) (N := 11) hx hb hts iX7 hown hK.1 hP 0 rfl rfl 3 (by decide) (hts _ q_76) (fun _ h9 => h9) rfl dX7_end_1 ?_
  refine lv_ifnonnullN hx hb dX7_end_4 ?_
  refine lv_bipush (v := -14) hx hb dX7_end_7 (by decide) ?_
  exact cm_iret (v0 := (-14)) hx hb hr hlocks hP hD hS dX7_end_9 (by unfold oEnd; rw [if_pos c21]) (by unfold oEnd; rw [if_pos c21]; rfl)
set_option maxHeartbeats 800000 in
set_option maxRecDepth 100000 in
theorem c_end (l : Launch) (D : va_G) (G : Nat → ClassId) (ca : Nat → Nat) (ea : Nat → Nat → Nat) (n k w0 : Nat) (σ x : MS) (κ : Nat → Int64) (pl : va_W) (sz : Nat) (hE : plE G ea σ κ k pl) (hI : cI σ x n k w0) (ba : Nat → Nat) (hoB : mI σ n k) (c21 : ¬ σ 21 0 = 0) (hk59 : k < 60) (τ : Nat → Int64) : Met l yX7_end (ww yX7_end cX7_end 3 (some .int)) (rmC 6 0 0) (cmP D G sz (cF G ca (.ref (ba 0)) (enF ea k) σ x ++ (mbW G ba σ k (-1) ++ pl)) [.ref ((ca 0))]) (cmQi D (va_A (cF G ca (.ref (ba 0)) (enF ea k) σ x ++ (mbW G ba σ k (-1) ++ pl)) sz) ((oEnd σ τ k).1) (fun z8 => (0 ≤ (oEnd σ τ k).1 ∧ z8 = cF G ca .null (va_up (enF ea k) k (some (ba 0))) (oEnd σ τ k).2.1 x ++ (mbW G ba σ k (fnd (fun b => meetP σ k b) k 0) ++ pl)) ∨ (¬ 0 ≤ (oEnd σ τ k).1 ∧ z8 = cF G ca .null (enF ea k) (oEnd σ τ k).2.1 x ++ (mbW G ba σ k (-1) ++ pl)))) 0 0 (va_A (cF G ca (.ref (ba 0)) (enF ea k) σ x ++ (mbW G ba σ k (-1) ++ pl)) sz) := by
  refine Met.ofW (cc := cX7_end) (maxL := 3) (ret := (some .int)) (by decide) rfl ?_
  intro p e s m args below meth c s₁ B hml hv
  obtain ⟨rfl, hsz, hP, hK, hD0⟩ := hv
  have hx := B.exec
  have hb := B.bytes
  have hr := B.returns
  have hts : ∀ w ∈ TT, w.before _ s = true := fun w h => atoms_spec (ws := ww yX7_end cX7_end 3 (some .int)) B.pre w (List.mem_cons_of_mem _ h)
  have hown : s.vm.findClass RX7 = some m.cls := findClass_of_methodNamed B.named
  have hlocks := B.notSynchronized
  subst hsz
  have hD : va_D (va_A (cF G ca (.ref (ba 0)) (enF ea k) σ x ++ (mbW G ba σ k (-1) ++ pl)) s.heap.size) (cF G ca (.ref (ba 0)) (enF ea k) σ x ++ (mbW G ba σ k (-1) ++ pl)) := hD0.self
  generalize hAe : va_A (cF G ca (.ref (ba 0)) (enF ea k) σ x ++ (mbW G ba σ k (-1) ++ pl)) s.heap.size = A at hD ⊢
  have hA : ∀ q : Nat, s.heap.size ≤ q → A q := fun q h => by rw [← hAe]; exact Or.inr h
  have hS : va_S A s.heap s.heap [] := va_S.rf
  have hP : va_P D vwCl (cF G ca (.ref (ba 0)) (enF ea k) σ x ++ (mbW G ba σ k (-1) ++ pl)) s.heap := hP
  have hI0 := hI
  obtain ⟨h1, hn, h7, hk60, h22, hw, hab, hfa, hmi, hak, hrf⟩ := hI
  have hoo := hoB
  obtain ⟨heB, hmB, hkB, hpB⟩ := hoB
  have htB := heB.2
  have hzB := hmB.2
  have hl := lv_entry ([.ref ((ca 0))]) (n := 3) (Nat.le_of_ble_eq_true rfl)
  rw [lg_entry_eq]
  generalize (lg_sl ([.ref ((ca 0))]) ++ List.replicate (3 - (lg_sl ([.ref ((ca 0))])).length) Slot.unset).toArray = ls at hl ⊢
  have hl : lv_has ls 3 [(0, .ref ((ca 0)))] := hl
  refine lv_aload_n hx hb dX7_end_0 rfl (lv_at hl 0 rfl) ?_
  refine va_get (D := D) (ci := 7) (v := .ref ((ba 0))) (C := RX7) (T := TX7) (N := 11) hx hb hts iX7 hown hK.1 hP 0 rfl rfl 3 (by decide) (hts _ q_76) (fun _ h9 => h9) rfl dX7_end_1 ?_
  refine lv_ifnonnull (tgt := 10) hx hb dX7_end_4 (by decide) ?_
  refine lv_aload_n hx hb dX7_end_10 rfl (lv_at hl 0 rfl) ?_
  refine va_get (D := D) (ci := 7) (v := .ref ((ba 0))) (C := RX7) (T := TX7) (N := 11) hx hb hts iX7 hown hK.1 hP 0 rfl rfl 3 (by decide) (hts _ q_76) (fun _ h9 => h9) rfl dX7_end_11 ?_
  refine lv_astore_n (lv' := [(1, .ref ((ba 0))), (0, .ref ((ca 0)))]) hx hb dX7_end_14 rfl hl (by decide) rfl (fun ls hl => ?_)
  refine lv_aload_n hx hb dX7_end_15 rfl (lv_at hl 1 rfl) ?_
  refine lv_null hx hb dX7_end_16 ?_
  refine va_put (D := D) (ci := 7) (v := .null) (ty := .object "FieldMember$Member") (C := RX7) (T := TX7) (N := 11) hx hb hts iX7 tyX7 tyX7_ok nmX7 hown hK.1 hP hD hS 0 rfl rfl 3 (by decide) (hts _ q_76) (fun _ h9 => h9) rfl (by decide +kernel) rfl rfl (Nat.le_of_ble_eq_true rfl) dX7_end_17 (fun H locs hP hD hS => ?_)
  have hP : va_P D vwCl (cF G ca (.null) (enF ea k) σ x ++ (bgW G ba (σ 9 k) (σ 10 k) (σ 11 k) (σ 12 k) (σ 13 k) (σ 16 k) (σ 17 k) (σ 18 k) (pkF σ 19 k) (pkF σ 20 k) ((-1)) ++ pl)) H := hP
  have hD : va_D A (cF G ca (.null) (enF ea k) σ x ++ (bgW G ba (σ 9 k) (σ 10 k) (σ 11 k) (σ 12 k) (σ 13 k) (σ 16 k) (σ 17 k) (σ 18 k) (pkF σ 19 k) (pkF σ 20 k) ((-1)) ++ pl)) := hD
  refine lv_aload_n hx hb dX7_end_20 rfl (lv_at hl 1 rfl) ?_
  refine lv_aload_n hx hb dX7_end_21 rfl (lv_at hl 0 rfl) ?_
  have hPf : va_P D vwCl (cF G ca (.null) (enF ea k) σ x) _ := cF_of hP
  have hEf : ∀ e, e < k → va_P D vwCl (eW G (ea e) σ κ e) _ := plE_P hP (plE_app hE _)
  have hBf := bg_M hP
  refine ro_Vi (D := D) (G := G) (As := [.ref ((ba 0))]) (rest := []) ⟨hx, hb, hml, hown, hts⟩ (c_isDeclaredTwice l D G _ ca _ ea n k w0 σ x κ hPf hEf hI0 ba k _ hBf hoo) gV_X7_X7_isDeclaredTwice hdV_X7_isDeclaredTwice ⟨Nat.le_of_ble_eq_true rfl, Nat.le_of_ble_eq_true rfl⟩ hK (va_recv hK.1 hP (ci := 7) (q0 := 0) rfl rfl) rfl hl.1 rfl (Nat.le_of_ble_eq_true rfl) dX7_end_22 ⟨Nat.le_of_ble_eq_true rfl, Nat.le_of_ble_eq_true rfl⟩ (fun r1 e_r1 => ?_)
  subst e_r1
  refine W.eq (g2 := F0 m 25 ls [.int (bI (tdP σ k k))]) rfl ?_
  refine lv_if_eq (tgt := 33) hx hb dX7_end_25 (by decide) (fun c2 => ?_) (fun c2 => ?_)
  · -- 25 taken
    have c2 := bI_0 c2
    refine lv_aload_n hx hb dX7_end_33 rfl (lv_at hl 1 rfl) ?_
    refine lv_aload_n hx hb dX7_end_34 rfl (lv_at hl 0 rfl) ?_
    refine ro_Vi (D := D) (G := G) (As := [.ref ((ba 0))]) (rest := []) ⟨hx, hb, hml, hown, hts⟩ (c_ruleOfMeetings l D G _ ca _ ea n k w0 σ x κ hPf hEf hI0 ba k _ hBf hoo (Nat.le_refl _)) gV_X7_X7_ruleOfMeetings hdV_X7_ruleOfMeetings ⟨Nat.le_of_ble_eq_true rfl, Nat.le_of_ble_eq_true rfl⟩ hK (va_recv hK.1 hP (ci := 7) (q0 := 0) rfl rfl) rfl hl.1 rfl (Nat.le_of_ble_eq_true rfl) dX7_end_35 ⟨Nat.le_of_ble_eq_true rfl, Nat.le_of_ble_eq_true rfl⟩ (fun r3 e_r3 => ?_)
    subst e_r3
    refine W.eq (g2 := F0 m 38 ls [.int (rmF σ k k 0)]) rfl ?_
    refine lv_istore_n (lv' := [(2, .int (rmF σ k k 0)), (1, .ref ((ba 0))), (0, .ref ((ca 0)))]) hx hb dX7_end_38 rfl hl (by decide) rfl (fun ls hl => ?_)
    refine lv_iload_n hx hb dX7_end_39 rfl (lv_at hl 0 rfl) ?_
    refine lv_if_eq (tgt := 49) hx hb dX7_end_40 (by decide) (fun c4 => ?_) (fun c4 => ?_)
    · -- 40 taken
      refine lv_aload_n hx hb dX7_end_49 rfl (lv_at hl 1 rfl) ?_
      refine lv_aload_n hx hb dX7_end_50 rfl (lv_at hl 2 rfl) ?_
      refine lv_aload_n hx hb dX7_end_51 rfl (lv_at hl 1 rfl) ?_
      refine ro_Vi (D := D) (G := G) (As := [.ref ((ba 0))]) (rest := [.ref ((ba 0))]) ⟨hx, hb, hml, hown, hts⟩ (c_leastMet l D G _ ca _ ea n k w0 σ x κ hPf hEf hI0 ba k _ hBf hoo (Nat.le_refl _)) gV_X7_X7_leastMet hdV_X7_leastMet ⟨Nat.le_of_ble_eq_true rfl, Nat.le_of_ble_eq_true rfl⟩ hK (va_recv hK.1 hP (ci := 7) (q0 := 0) rfl rfl) rfl hl.1 rfl (Nat.le_of_ble_eq_true rfl) dX7_end_52 ⟨Nat.le_of_ble_eq_true rfl, Nat.le_of_ble_eq_true rfl⟩ (fun r5 e_r5 => ?_)
      subst e_r5
      refine W.eq (g2 := F0 m 55 ls [.int (fnd (fun b => meetP σ k b) k 0), .ref ((ba 0))]) rfl ?_
      refine va_put (D := D) (ci := 4) (v := .int (fnd (fun b => meetP σ k b) k 0)) (ty := .int) (C := RX3) (T := TX3) (N := 9) hx hb hts iX3 tyX3 tyX3_ok nmX3 hown hK.1 hP hD hS 14 rfl rfl 8 (by decide) (hts _ q_321) (fun _ h9 => h9) rfl (by decide +kernel) rfl rfl (Nat.le_of_ble_eq_true rfl) dX7_end_55 (fun H locs hP hD hS => ?_)
      have hP : va_P D vwCl (cF G ca (.null) (enF ea k) σ x ++ (bgW G ba (σ 9 k) (σ 10 k) (σ 11 k) (σ 12 k) (σ 13 k) (σ 16 k) (σ 17 k) (σ 18 k) (pkF σ 19 k) (pkF σ 20 k) (fnd (fun b => meetP σ k b) k 0) ++ pl)) H := hP
      have hD : va_D A (cF G ca (.null) (enF ea k) σ x ++ (bgW G ba (σ 9 k) (σ 10 k) (σ 11 k) (σ 12 k) (σ 13 k) (σ 16 k) (σ 17 k) (σ 18 k) (pkF σ 19 k) (pkF σ 20 k) (fnd (fun b => meetP σ k b) k 0) ++ pl)) := hD
      refine lv_aload_n hx hb dX7_end_58 rfl (lv_at hl 2 rfl) ?_
      refine lv_aload_n hx hb dX7_end_59 rfl (lv_at hl 1 rfl) ?_
      refine cm_Vi (D := D) (G := G) (As := [.ref ((ba 0))]) (rest := []) ⟨hx, hb, hml, hown, hts⟩ (c_addEntry l D G ca _ ea n k w0 σ x κ _ _ (plE_app hE _) hI0 (ba 0) 14 4 _ _ rfl rfl (fun U h => h.2.2.2.2.1) hk59) gV_X7_X7_addEntry hdV_X7_addEntry ⟨Nat.le_of_ble_eq_true rfl, Nat.le_of_ble_eq_true rfl⟩ hK (va_recv hK.1 hP (ci := 7) (q0 := 0) rfl rfl) hP hD hS hA rfl hl.1 rfl (Nat.le_of_ble_eq_true rfl) dX7_end_60 ⟨Nat.le_of_ble_eq_true rfl, Nat.le_of_ble_eq_true rfl⟩ (fun ws H locs hw hP hD hS => ?_)
      subst hw
      have hP : va_P D vwCl (cF G ca (.null) (va_up (enF ea k) k (some (ba 0))) (su σ 7 (0) (nI (k + 1))) x ++ (bgW G ba (σ 9 k) (σ 10 k) (σ 11 k) (σ 12 k) (σ 13 k) (σ 16 k) (σ 17 k) (σ 18 k) (pkF σ 19 k) (pkF σ 20 k) (fnd (fun b => meetP σ k b) k 0) ++ pl)) H := hP
      have hD : va_D A (cF G ca (.null) (va_up (enF ea k) k (some (ba 0))) (su σ 7 (0) (nI (k + 1))) x ++ (bgW G ba (σ 9 k) (σ 10 k) (σ 11 k) (σ 12 k) (σ 13 k) (σ 16 k) (σ 17 k) (σ 18 k) (pkF σ 19 k) (pkF σ 20 k) (fnd (fun b => meetP σ k b) k 0) ++ pl)) := hD
      refine W.eq (g2 := F0 m 63 ls [.int (nI k)]) rfl ?_
      exact cm_iret (v0 := nI k) hx hb hr hlocks hP hD hS dX7_end_63 (by unfold oEnd; rw [if_neg c21, if_neg (fun h9 => c2 (tdP_def.mpr h9)), if_neg (fun h9 => h9 ((okR_le (rmF_ok _ _)).mpr c4))]; try rfl) (Or.inl ⟨by unfold oEnd; rw [if_neg c21, if_neg (fun h9 => c2 (tdP_def.mpr h9)), if_neg (fun h9 => h9 ((okR_le (rmF_ok _ _)).mpr c4))]; exact nI_pos' (by omega), by unfold oEnd; rw [if_neg c21, if_neg (fun h9 => c2 (tdP_def.mpr h9)), if_neg (fun h9 => h9 ((okR_le (rmF_ok _ _)).mpr c4))]; try rfl⟩)
    · -- 40 not
      refine lv_aload_n hx hb dX7_end_43 rfl (lv_at hl 2 rfl) ?_
      refine lv_iload_n hx hb dX7_end_44 rfl (lv_at hl 0 rfl) ?_
      have hok : okR (rmF σ k k 0) := rmF_ok _ _
      have hop := okR_pos hok c4
      refine W.eq (g2 := F0 m 45 ls [.int (nI ((rmF σ k k 0).toNatClampNeg)), .ref ((ca 0))]) (congrArg (fun z9 => F0 m 45 ls [.int z9, .ref ((ca 0))]) hok.1) ?_
      refine cm_Vi (D := D) (G := G) (As := [.int (nI ((rmF σ k k 0).toNatClampNeg))]) (rest := []) ⟨hx, hb, hml, hown, hts⟩ (c_breakRule l D G ca _ ea n k w0 σ x κ _ _ (plE_app hE _) hI0 (((rmF σ k k 0).toNatClampNeg)) (by omega) (by omega)) gV_X7_X7_breakRule hdV_X7_breakRule ⟨Nat.le_of_ble_eq_true rfl, Nat.le_of_ble_eq_true rfl⟩ hK (va_recv hK.1 hP (ci := 7) (q0 := 0) rfl rfl) hP hD hS hA rfl hl.1 rfl (Nat.le_of_ble_eq_true rfl) dX7_end_45 ⟨Nat.le_of_ble_eq_true rfl, Nat.le_of_ble_eq_true rfl⟩ (fun ws H locs hw hP hD hS => ?_)
      subst hw
      have hP : va_P D vwCl (cF G ca (.null) (enF ea k) (su (su σ 27 (((rmF σ k k 0).toNatClampNeg)) (σ 27 (((rmF σ k k 0).toNatClampNeg)) + 1)) 26 (0) (σ 26 0 + 1)) x ++ (bgW G ba (σ 9 k) (σ 10 k) (σ 11 k) (σ 12 k) (σ 13 k) (σ 16 k) (σ 17 k) (σ 18 k) (pkF σ 19 k) (pkF σ 20 k) ((-1)) ++ pl)) H := hP
      have hD : va_D A (cF G ca (.null) (enF ea k) (su (su σ 27 (((rmF σ k k 0).toNatClampNeg)) (σ 27 (((rmF σ k k 0).toNatClampNeg)) + 1)) 26 (0) (σ 26 0 + 1)) x ++ (bgW G ba (σ 9 k) (σ 10 k) (σ 11 k) (σ 12 k) (σ 13 k) (σ 16 k) (σ 17 k) (σ 18 k) (pkF σ 19 k) (pkF σ 20 k) ((-1)) ++ pl)) := hD
      refine W.eq (g2 := F0 m 48 ls [.int ((-40) - nI (((rmF σ k k 0).toNatClampNeg)))]) rfl ?_
      exact cm_iret (v0 := (-40) - nI (((rmF σ k k 0).toNatClampNeg))) hx hb hr hlocks hP hD hS dX7_end_48 (by unfold oEnd; rw [if_neg c21, if_neg (fun h9 => c2 (tdP_def.mpr h9)), if_pos (fun h9 => c4 ((okR_le (rmF_ok _ _)).mp h9))]; try rfl) (Or.inr ⟨by unfold oEnd; rw [if_neg c21, if_neg (fun h9 => c2 (tdP_def.mpr h9)), if_pos (fun h9 => c4 ((okR_le (rmF_ok _ _)).mp h9))]; exact brk_neg (rmF_ok _ _), by unfold oEnd; rw [if_neg c21, if_neg (fun h9 => c2 (tdP_def.mpr h9)), if_pos (fun h9 => c4 ((okR_le (rmF_ok _ _)).mp h9))]; try rfl⟩)
  · -- 25 not
    have c2 := bI_1 c2
    refine lv_bipush (v := 21) hx hb dX7_end_28 (by decide) ?_
    refine lv_goto (tgt := 38) hx hb dX7_end_30 (by decide) ?_
    refine lv_istore_n (lv' := [(2, .int 21), (1, .ref ((ba 0))), (0, .ref ((ca 0)))]) hx hb dX7_end_38 rfl hl (by decide) rfl (fun ls hl => ?_)
    refine lv_iload_n hx hb dX7_end_39 rfl (lv_at hl 0 rfl) ?_
    refine lv_if_eq (tgt := 49) hx hb dX7_end_40 (by decide) (fun hh => absurd hh (by decide)) (fun hh => ?_)
    refine lv_aload_n hx hb dX7_end_43 rfl (lv_at hl 2 rfl) ?_
    refine lv_iload_n hx hb dX7_end_44 rfl (lv_at hl 0 rfl) ?_
    refine cm_Vi (D := D) (G := G) (As := [.int 21]) (rest := []) ⟨hx, hb, hml, hown, hts⟩ (c_breakRule l D G ca _ ea n k w0 σ x κ _ _ (plE_app hE _) hI0 (21) (by omega) (by omega)) gV_X7_X7_breakRule hdV_X7_breakRule ⟨Nat.le_of_ble_eq_true rfl, Nat.le_of_ble_eq_true rfl⟩ hK (va_recv hK.1 hP (ci := 7) (q0 := 0) rfl rfl) hP hD hS hA rfl hl.1 rfl (Nat.le_of_ble_eq_true rfl) dX7_end_45 ⟨Nat.le_of_ble_eq_true rfl, Nat.le_of_ble_eq_true rfl⟩ (fun ws H locs hw hP hD hS => ?_)
    subst hw
    have hP : va_P D vwCl (cF G ca (.null) (enF ea k) (su (su σ 27 (21) (σ 27 21 + 1)) 26 (0) (σ 26 0 + 1)) x ++ (bgW G ba (σ 9 k) (σ 10 k) (σ 11 k) (σ 12 k) (σ 13 k) (σ 16 k) (σ 17 k) (σ 18 k) (pkF σ 19 k) (pkF σ 20 k) ((-1)) ++ pl)) H := hP
    have hD : va_D A (cF G ca (.null) (enF ea k) (su (su σ 27 (21) (σ 27 21 + 1)) 26 (0) (σ 26 0 + 1)) x ++ (bgW G ba (σ 9 k) (σ 10 k) (σ 11 k) (σ 12 k) (σ 13 k) (σ 16 k) (σ 17 k) (σ 18 k) (pkF σ 19 k) (pkF σ 20 k) ((-1)) ++ pl)) := hD
    refine W.eq (g2 := F0 m 48 ls [.int ((-40) - nI 21)]) rfl ?_
    exact cm_iret (v0 := (-40) - nI 21) hx hb hr hlocks hP hD hS dX7_end_48 (by unfold oEnd; rw [if_neg c21, if_pos (tdP_def.mp c2)]; try rfl) (Or.inr ⟨by unfold oEnd; rw [if_neg c21, if_pos (tdP_def.mp c2)]; exact (show ¬ (0 : Int32) ≤ (-40) - nI 21 by decide), by unfold oEnd; rw [if_neg c21, if_pos (tdP_def.mp c2)]; try rfl⟩)
