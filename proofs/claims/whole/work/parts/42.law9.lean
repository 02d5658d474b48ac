def R_law : String := "FieldMemberLaw"
def lw_P (b : Addr) (xs : List Int32) (args : Array Value) (s : State) : Prop := args = #[.ref b] ∧ s.IntsAt b xs ∧ xs.length ≤ 3584 ∧ (Jvm.Cond.and given_1 narrow_1).before args s = true
def lw_Q (_ : Array Value) (s : State) (o : Outcome) (t : State) : Prop := o = .returned (some (.int 1)) ∧ Framed s o t [] 603072 7262314
def lw_Z (below : List Frame) (a : Array Value) (s : State) : State → Prop := fun t => ∃ o, t.status = .running ∧ Ended t below o ∧ lw_Q a s o t
/-- the law's own end, with 1 on the stack, nothing written that was there before, its room as the claim has it -/
theorem lw_ret {p : Program} {l : Launch} {e : Env} {s : State} {m : MethodId} {below : List Frame} {meth : Method} {c : Code} {b : Nat} (hx : p.tables.exec = Jvm.exec) (hb : c.code = code) (hr : meth.sig.returnType = ret) (hlocks : meth.locks = false) {pc : Nat} {H : Heap} {ls : Array Slot} (hdg : decode code pc = .ok (.ireturn, 1)) : W p l e room_1 s m #[Value.ref b] below meth c H [] 603072 7262314 (lw_Z below #[Value.ref b] s) (F0 m pc ls [.int 1]) := by
  intro T hT X
  obtain ⟨fs, hret, hrun, hended, hW, hframe⟩ := X.leave (v := some (.int 1)) (hlocks := hlocks) (fun h => by rw [hr] at h; cases h)
  have hmeth' : T.vm.method? m = some meth := X.method'
  refine ⟨T.setFrames fs, ?_, .returned (some (.int 1)), hrun, hended, rfl, ⟨_, rfl⟩, hW, hframe⟩
  jvm_step X.here [X.here.top, hx, hb, hdg, hmeth', hr, ret, narrow_b1]
  (try refine ⟨rfl, ?_⟩); (try refine ⟨rfl, ?_⟩)
  first | (intro acts; rw [hret _ acts rfl rfl rfl]) | rw [hret _ _ rfl rfl rfl]
  exact Steps.refl _
/-- what holds at the law's entry: the machine, the code, the tables' words (any of lw_tbl by 'hts w (by decide +kernel)'), the script of L ints xs at the cell b, what the Statement gives of the start (any of its parts by flat_of_before) -/
def lw_At (p : Program) (s : State) (m : MethodId) (meth : Method) (c : Code) (b L : Nat) (xs : Nat → Int32) : Prop :=
  p.tables.exec = Jvm.exec ∧ c.code = code ∧ meth.sig.returnType = ret ∧ c.maxLocals = 8 ∧ s.vm.findClass R_law = some m.cls ∧ (∀ w ∈ lw_tbl, w.before #[Value.ref b] s = true) ∧ va_X b L xs s s.heap ∧ b < s.heap.size ∧ meth.locks = false ∧ (Jvm.Cond.and given_1 narrow_1).before #[Value.ref b] s = true

-- the start of the law
theorem tb_in {w : Cond} {i : Nat} (h : tables_1[i]? = some w) : w ∈ lw_tbl := List.mem_append_right _ (List.mem_of_getElem? h)
theorem vk_ex {own tx : String} {k cur : Nat} {args : Array Value} {s : State} (hc : s.vm.findClass own = some cur) (h : (Cond.stringRef own k tx).before args s = true) : ∃ a, vk_R own k tx a s := by
  obtain ⟨_, _, _, a, _, _, _, _, _, h6⟩ := Cond.stringRef_spec hc h
  exact ⟨a, vk_R.of h h6⟩
theorem ar_ex {args : Array Value} {s : State} {ty : FieldType} (h : (Cond.arrayClass ty).before args s = true) : ∃ cA : ClassId, ArrOfT s cA ty ∧ s.vm.findClass ("[" ++ ty.toString) = some cA := by
  obtain ⟨cA, kA, comp, h1, h2, h3⟩ := Cond.arrayClass_spec h
  exact ⟨cA, fun n z => ⟨fun k h => (by cases h), kA, h2, comp, h3⟩, h1⟩
theorem ao_ex {s : State} {C : String} (h : va_AO C s) : ∃ cA : ClassId, ArrOfT s cA (.object C) ∧ va_RA s cA (.object C) := by
  obtain ⟨comp, cA, kA, h1, h2, h3, h4, h5⟩ := Cond.arrayOver_spec h
  exact ⟨cA, fun n z => ⟨fun k h => (by cases h), kA, h3, comp, h4⟩, kA, comp, h3, h4, h1, h5⟩
theorem IV_0 {κ : Nat → Int64} : IV (fun _ _ => 0) (fun _ _ => 0) (fun _ => 0) κ 0 0 0 := by
  refine ⟨⟨⟨rfl, by decide⟩, ⟨rfl, by decide⟩, rfl, by decide⟩, ⟨fun _ => Or.inl rfl, fun t ht => absurd ht (Nat.not_lt_zero t), fun t ht => absurd ht (Nat.not_lt_zero t), fun t ht => absurd ht (Nat.not_lt_zero t)⟩, ⟨fun e he => absurd he (Nat.not_lt_zero e), fun a b ha => absurd ha (Nat.not_lt_zero a), fun e => ⟨⟨rfl, (show (0 : Int32).toNatClampNeg ≤ 5 by decide)⟩, fun q => absurd rfl q⟩, fun j q => absurd (show (0 : Int32) ≤ 9 by decide) q⟩, fun i hi => absurd hi (Nat.not_lt_zero i), fun e he => absurd he (Nat.not_lt_zero e), fun q => absurd rfl q⟩
theorem NX_0 {G : Nat → ClassId} {ca : Nat → Nat} : NX G ca ((fun _ _ => 0), (fun _ => 0)) (cF G ca .null (fun _ => none) (fun _ _ => 0) (fun _ _ => 0)) := by
  refine ⟨0, 0, 0, fun _ => 0, fun _ _ => 0, IV_0, fun _ _ => 0, fun _ => 0, .null, [], fun e he => absurd he (Nat.not_lt_zero e), fun e e' he => absurd he (Nat.not_lt_zero e), ?_, Or.inl ⟨rfl, rfl⟩⟩
  rw [List.append_nil]
  have : enF (fun _ _ => 0) 0 = fun _ => none := by funext i; exact if_neg (Nat.not_lt_zero i)
  rw [this]

theorem q_617 : Cond.laysFinal "java/lang/String" "java/lang/String" "value" "[B" ∈ TT := tt_t (i := 617) (by decide +kernel) (by decide +kernel)
theorem q_619 : Cond.laysFinal "java/lang/String" "java/lang/String" "coder" "B" ∈ TT := tt_t (i := 619) (by decide +kernel) (by decide +kernel)
theorem iJ0 : ∀ w ∈ wsJ00, w ∈ TT := by
  have h : wsJ00 = [Cond.laysFinal "java/lang/String" "java/lang/String" "value" "[B", Cond.laysFinal "java/lang/String" "java/lang/String" "coder" "B"] := by decide +kernel
  rw [h]
  exact tt_c q_617 (tt_c q_619 (fun _ h => nomatch h))
theorem q_629 : Cond.lays "java/lang/ArrayIndexOutOfBoundsException" "java/lang/Throwable" "backtrace" "Ljava/lang/Object;" ∈ TT := tt_t (i := 629) (by decide +kernel) (by decide +kernel)
theorem q_630 : Cond.lays "java/lang/ArrayIndexOutOfBoundsException" "java/lang/Throwable" "detailMessage" "Ljava/lang/String;" ∈ TT := tt_t (i := 630) (by decide +kernel) (by decide +kernel)
theorem q_631 : Cond.lays "java/lang/ArrayIndexOutOfBoundsException" "java/lang/Throwable" "cause" "Ljava/lang/Throwable;" ∈ TT := tt_t (i := 631) (by decide +kernel) (by decide +kernel)
theorem q_632 : Cond.lays "java/lang/ArrayIndexOutOfBoundsException" "java/lang/Throwable" "stackTrace" "[Ljava/lang/StackTraceElement;" ∈ TT := tt_t (i := 632) (by decide +kernel) (by decide +kernel)
theorem q_633 : Cond.lays "java/lang/ArrayIndexOutOfBoundsException" "java/lang/Throwable" "depth" "I" ∈ TT := tt_t (i := 633) (by decide +kernel) (by decide +kernel)
theorem q_634 : Cond.lays "java/lang/ArrayIndexOutOfBoundsException" "java/lang/Throwable" "suppressedExceptions" "Ljava/util/List;" ∈ TT := tt_t (i := 634) (by decide +kernel) (by decide +kernel)
theorem iJx00060 : ∀ w ∈ wsJx000600, w ∈ TT := by
  have h : wsJx000600 = [Cond.lays "java/lang/ArrayIndexOutOfBoundsException" "java/lang/Throwable" "backtrace" "Ljava/lang/Object;", Cond.lays "java/lang/ArrayIndexOutOfBoundsException" "java/lang/Throwable" "detailMessage" "Ljava/lang/String;", Cond.lays "java/lang/ArrayIndexOutOfBoundsException" "java/lang/Throwable" "cause" "Ljava/lang/Throwable;", Cond.lays "java/lang/ArrayIndexOutOfBoundsException" "java/lang/Throwable" "stackTrace" "[Ljava/lang/StackTraceElement;", Cond.lays "java/lang/ArrayIndexOutOfBoundsException" "java/lang/Throwable" "depth" "I", Cond.lays "java/lang/ArrayIndexOutOfBoundsException" "java/lang/Throwable" "suppressedExceptions" "Ljava/util/List;"] := by decide +kernel
  rw [h]
  exact tt_c q_629 (tt_c q_630 (tt_c q_631 (tt_c q_632 (tt_c q_633 (tt_c q_634 (fun _ h => nomatch h))))))
theorem q_585 : Cond.lays "java/lang/ClassCastException" "java/lang/Throwable" "backtrace" "Ljava/lang/Object;" ∈ TT := tt_t (i := 585) (by decide +kernel) (by decide +kernel)
theorem q_587 : Cond.lays "java/lang/ClassCastException" "java/lang/Throwable" "detailMessage" "Ljava/lang/String;" ∈ TT := tt_t (i := 587) (by decide +kernel) (by decide +kernel)
theorem q_589 : Cond.lays "java/lang/ClassCastException" "java/lang/Throwable" "cause" "Ljava/lang/Throwable;" ∈ TT := tt_t (i := 589) (by decide +kernel) (by decide +kernel)
theorem q_591 : Cond.lays "java/lang/ClassCastException" "java/lang/Throwable" "stackTrace" "[Ljava/lang/StackTraceElement;" ∈ TT := tt_t (i := 591) (by decide +kernel) (by decide +kernel)
theorem q_593 : Cond.lays "java/lang/ClassCastException" "java/lang/Throwable" "depth" "I" ∈ TT := tt_t (i := 593) (by decide +kernel) (by decide +kernel)
theorem q_595 : Cond.lays "java/lang/ClassCastException" "java/lang/Throwable" "suppressedExceptions" "Ljava/util/List;" ∈ TT := tt_t (i := 595) (by decide +kernel) (by decide +kernel)
theorem iJx3273f : ∀ w ∈ wsJx3273f0, w ∈ TT := by
  have h : wsJx3273f0 = [Cond.lays "java/lang/ClassCastException" "java/lang/Throwable" "backtrace" "Ljava/lang/Object;", Cond.lays "java/lang/ClassCastException" "java/lang/Throwable" "detailMessage" "Ljava/lang/String;", Cond.lays "java/lang/ClassCastException" "java/lang/Throwable" "cause" "Ljava/lang/Throwable;", Cond.lays "java/lang/ClassCastException" "java/lang/Throwable" "stackTrace" "[Ljava/lang/StackTraceElement;", Cond.lays "java/lang/ClassCastException" "java/lang/Throwable" "depth" "I", Cond.lays "java/lang/ClassCastException" "java/lang/Throwable" "suppressedExceptions" "Ljava/util/List;"] := by decide +kernel
  rw [h]
  exact tt_c q_585 (tt_c q_587 (tt_c q_589 (tt_c q_591 (tt_c q_593 (tt_c q_595 (fun _ h => nomatch h))))))
theorem dL_law_23 : decode cL_law 23 = .ok (.iload 4, 2) := by decide +kernel
theorem dL_law_25 : decode cL_law 25 = .ok (.aload_n 0, 1) := by decide +kernel
theorem dL_law_26 : decode cL_law 26 = .ok (.arraylength, 1) := by decide +kernel
theorem dL_law_27 : decode cL_law 27 = .ok (.bipush 7, 2) := by decide +kernel
theorem dL_law_29 : decode cL_law 29 = .ok (.isub, 1) := by decide +kernel
theorem dL_law_30 : decode cL_law 30 = .ok (.if_icmp .gt 995, 3) := by decide +kernel
theorem dL_law_1025 : decode cL_law 1025 = .ok (.iconst 1, 1) := by decide +kernel
theorem dL_law_1026 : decode cL_law 1026 = .ok (.ireturn, 1) := by decide +kernel
theorem dL_law_1019 : decode cL_law 1019 = .ok (.iinc 4 7, 3) := by decide +kernel
theorem dL_law_1022 : decode cL_law 1022 = .ok (.goto (-999), 3) := by decide +kernel
theorem dL_law_33 : decode cL_law 33 = .ok (.aload_n 0, 1) := by decide +kernel
theorem dL_law_34 : decode cL_law 34 = .ok (.iload 4, 2) := by decide +kernel
theorem dL_law_36 : decode cL_law 36 = .ok (.iaload, 1) := by decide +kernel
theorem dL_law_37 : decode cL_law 37 = .ok (.bipush 31, 2) := by decide +kernel
theorem dL_law_39 : decode cL_law 39 = .ok (.iand, 1) := by decide +kernel
theorem dL_law_40 : decode cL_law 40 = .ok (.tableswitch 979 0 19 #[96, 133, 170, 207, 280, 349, 404, 507, 572, 585, 622, 659, 755, 792, 829, 866, 879, 916, 941, 966], 96) := by decide +kernel
theorem dL_law_0 : decode cL_law 0 = .ok (.new 8, 3) := by decide +kernel
theorem dL_law_3 : decode cL_law 3 = .ok (.dup, 1) := by decide +kernel
theorem q_25 : Cond.code ⟨"FieldMember", "<init>", "()V"⟩ prog_1_method_1_code 1 none ∈ TT := tt_t (i := 25) (by decide +kernel) (by decide +kernel)
theorem q_23 : Cond.methodLink "FieldMemberLaw" 21 ⟨"FieldMember", "<init>", "()V"⟩ ∈ TT := tt_t (i := 23) (by decide +kernel) (by decide +kernel)
theorem q_24 : Cond.instanceMethod ⟨"FieldMember", "<init>", "()V"⟩ ∈ TT := tt_t (i := 24) (by decide +kernel) (by decide +kernel)
theorem dL_law_4 : decode cL_law 4 = .ok (.invokespecial 21, 3) := by decide +kernel
theorem dL_law_7 : decode cL_law 7 = .ok (.astore_n 1, 1) := by decide +kernel
theorem dL_law_8 : decode cL_law 8 = .ok (.new 22, 3) := by decide +kernel
theorem dL_law_11 : decode cL_law 11 = .ok (.dup, 1) := by decide +kernel
theorem q_677 : Cond.code ⟨"FieldMemberModel", "<init>", "()V"⟩ prog_10_method_1_code 1 none ∈ TT := tt_t (i := 677) (by decide +kernel) (by decide +kernel)
theorem q_675 : Cond.methodLink "FieldMemberLaw" 24 ⟨"FieldMemberModel", "<init>", "()V"⟩ ∈ TT := tt_t (i := 675) (by decide +kernel) (by decide +kernel)
theorem q_676 : Cond.instanceMethod ⟨"FieldMemberModel", "<init>", "()V"⟩ ∈ TT := tt_t (i := 676) (by decide +kernel) (by decide +kernel)
theorem dL_law_12 : decode cL_law 12 = .ok (.invokespecial 24, 3) := by decide +kernel
theorem dL_law_15 : decode cL_law 15 = .ok (.astore_n 2, 1) := by decide +kernel
theorem dL_law_16 : decode cL_law 16 = .ok (.iconst 1, 1) := by decide +kernel
theorem dL_law_17 : decode cL_law 17 = .ok (.newarray .long, 2) := by decide +kernel
theorem dL_law_19 : decode cL_law 19 = .ok (.astore_n 3, 1) := by decide +kernel
theorem dL_law_20 : decode cL_law 20 = .ok (.iconst 0, 1) := by decide +kernel
theorem dL_law_21 : decode cL_law 21 = .ok (.istore 4, 2) := by decide +kernel
set_option maxHeartbeats 1600000 in
set_option maxRecDepth 100000 in
theorem law_loop {p : Program} {l : Launch} {e : Env} {s : State} {m : MethodId} {below : List Frame} {meth : Method} {c : Code} {b L : Nat} {xs : Nat → Int32} {D : va_G} {G : Nat → ClassId} {sa : Nat → Nat} {ca : Nat → Nat} {mo : Nat} {ad : Nat → Nat} {o : Nat} (C0 : LCx p l s m c b L xs D G sa) (hr : meth.sig.returnType = ret) (hlocks : meth.locks = false) : ∀ (r j : Nat) (u : MU) (H : Heap) (locs : List Loc) (ls : Array Slot) (cells slots : Nat), L + 7 ≤ 7 * (j + r) → 7 * j ≤ L → cells = 42 + 4 * j → slots = 2093 + 22 * j → LW s D G ca mo ad o u H locs → lv_has ls 8 [(4, .int (nI (7 * j))), (3, .ref o), (2, .ref mo), (1, .ref (ca 0)), (0, .ref b)] → W p l e room_1 s m #[Value.ref b] below meth c H locs cells slots (lw_Z below #[Value.ref b] s) (F0 m 23 ls []) := by
  obtain ⟨hx, hb, hml, hown, hts, hX, hbl, hK, hXS, hXZ, hst, hL⟩ := id C0
  have hbA : ¬ (fun q : Nat => s.heap.size ≤ q) b := Nat.not_le.mpr hbl
  intro r
  induction r with
  | zero => intro j u H locs ls cells slots h1 h2; omega
  | succ r ih =>
    intro j u H locs ls cells slots h1 h2 hcs hss hW hl
    obtain ⟨f, z, hN, hP, hD, hS⟩ := id hW
    refine lv_iload hx hb dL_law_23 (lv_at hl 0 rfl) ?_
    refine lv_aload_n hx hb dL_law_25 rfl (lv_at hl 4 rfl) ?_
    refine va_slen hx hb hX hbl hbA hS dL_law_26 ?_
    refine lv_bipush (v := 7) hx hb dL_law_27 (by decide) ?_
    refine lv_isub hx hb dL_law_29 ?_
    have hsub : (Int32.ofNat L - 7).toInt = (L : Int) - 7 := pk_sub_toInt (a := L) (b := 7) (by omega) (by decide)
    refine lv_icmp_gt (tgt := 1025) hx hb dL_law_30 (by decide) (fun hh => ?_) (fun hh => ?_)
    · refine lv_iconst (v := 1) hx hb dL_law_1025 (by decide) ?_
      refine va_forget (fun q hq => hS.2.2 q hq) ?_
      refine W.widen (k := 603072) (n := 7262314) (by omega) (by omega) ?_
      exact lw_ret hx hb hr hlocks dL_law_1026
    · have hj : 7 * j + 6 < L := by simp only [i_lt, hsub, n_ti (show 7 * j < 2 ^ 31 by omega)] at hh; omega
      have nx : ∀ (u : MU) (H : Heap) (locs : List Loc) (ls : Array Slot), LW s D G ca mo ad o u H locs → lv_has ls 8 [(4, .int (nI (7 * j))), (3, .ref o), (2, .ref mo), (1, .ref (ca 0)), (0, .ref b)] → W p l e room_1 s m #[Value.ref b] below meth c H locs (cells + 4) (slots + 22) (lw_Z below #[Value.ref b] s) (F0 m 1019 ls []) := by
        intro u H locs ls hW hl
        refine lv_iinc (v := nI (7 * (j + 1))) (lv' := [(4, .int (nI (7 * (j + 1)))), (3, .ref o), (2, .ref mo), (1, .ref (ca 0)), (0, .ref b)]) hx hb dL_law_1019 hl (k := 0) rfl (nI_add (7 * j) 7) (by decide) rfl (fun ls hl => ?_)
        refine lv_goto (tgt := 23) hx hb dL_law_1022 (by decide) ?_
        exact ih (j + 1) u H locs ls _ _ (by omega) (by omega) (by omega) (by omega) hW hl
      refine lv_aload_n hx hb dL_law_33 rfl (lv_at hl 4 rfl) ?_
      refine lv_iload hx hb dL_law_34 (lv_at hl 0 rfl) ?_
      refine sld_n hx hb hX hbl hbA hS hL (7 * j) rfl (by omega) dL_law_36 ?_
      refine lv_bipush (v := 31) hx hb dL_law_37 (by decide) ?_
      refine lv_iand hx hb dL_law_39 ?_
      by_cases c0 : xs (7 * j) &&& 31 = 0
      · refine lv_tableIn (tgt := 136) hx hb dL_law_40 (by rw [c0]; decide) (by rw [c0]; decide) (by rw [c0]; rfl) (by decide) ?_
        exact lc_type C0 hj hW hl ⟨by omega, by omega⟩ nx
      by_cases c1 : xs (7 * j) &&& 31 = 1
      · refine lv_tableIn (tgt := 173) hx hb dL_law_40 (by rw [c1]; decide) (by rw [c1]; decide) (by rw [c1]; rfl) (by decide) ?_
        exact lc_face C0 hj hW hl ⟨by omega, by omega⟩ nx
      by_cases c2 : xs (7 * j) &&& 31 = 2
      · refine lv_tableIn (tgt := 210) hx hb dL_law_40 (by rw [c2]; decide) (by rw [c2]; decide) (by rw [c2]; rfl) (by decide) ?_
        exact lc_below C0 hj hW hl ⟨by omega, by omega⟩ nx
      by_cases c3 : xs (7 * j) &&& 31 = 3
      · refine lv_tableIn (tgt := 247) hx hb dL_law_40 (by rw [c3]; decide) (by rw [c3]; decide) (by rw [c3]; rfl) (by decide) ?_
        exact lc_field C0 hj hW hl ⟨by omega, by omega⟩ nx
      by_cases c4 : xs (7 * j) &&& 31 = 4
      · refine lv_tableIn (tgt := 320) hx hb dL_law_40 (by rw [c4]; decide) (by rw [c4]; decide) (by rw [c4]; rfl) (by decide) ?_
        exact lc_constant C0 hj hW hl ⟨by omega, by omega⟩ nx
      by_cases c5 : xs (7 * j) &&& 31 = 5
      · refine lv_tableIn (tgt := 389) hx hb dL_law_40 (by rw [c5]; decide) (by rw [c5]; decide) (by rw [c5]; rfl) (by decide) ?_
        exact lc_value C0 hj hW hl ⟨by omega, by omega⟩ nx
      by_cases c6 : xs (7 * j) &&& 31 = 6
      · refine lv_tableIn (tgt := 444) hx hb dL_law_40 (by rw [c6]; decide) (by rw [c6]; decide) (by rw [c6]; rfl) (by decide) ?_
        exact lc_member C0 hj hW hl ⟨by omega, by omega⟩ nx
      by_cases c7 : xs (7 * j) &&& 31 = 7
      · refine lv_tableIn (tgt := 547) hx hb dL_law_40 (by rw [c7]; decide) (by rw [c7]; decide) (by rw [c7]; rfl) (by decide) ?_
        exact lc_parameter C0 hj hW hl ⟨by omega, by omega⟩ nx
      by_cases c8 : xs (7 * j) &&& 31 = 8
      · refine lv_tableIn (tgt := 612) hx hb dL_law_40 (by rw [c8]; decide) (by rw [c8]; decide) (by rw [c8]; rfl) (by decide) ?_
        exact lc_end C0 hj hW hl ⟨by omega, by omega⟩ nx
      by_cases c9 : xs (7 * j) &&& 31 = 9
      · refine lv_tableIn (tgt := 625) hx hb dL_law_40 (by rw [c9]; decide) (by rw [c9]; decide) (by rw [c9]; rfl) (by decide) ?_
        exact lc_entry C0 hj hW hl ⟨by omega, by omega⟩ nx
      by_cases c10 : xs (7 * j) &&& 31 = 10
      · refine lv_tableIn (tgt := 662) hx hb dL_law_40 (by rw [c10]; decide) (by rw [c10]; decide) (by rw [c10]; rfl) (by decide) ?_
        exact lc_shape C0 hj hW hl ⟨by omega, by omega⟩ nx
      by_cases c11 : xs (7 * j) &&& 31 = 11
      · refine lv_tableIn (tgt := 699) hx hb dL_law_40 (by rw [c11]; decide) (by rw [c11]; decide) (by rw [c11]; rfl) (by decide) ?_
        exact lc_parameterOf C0 hj hW hl ⟨by omega, by omega⟩ nx
      by_cases c12 : xs (7 * j) &&& 31 = 12
      · refine lv_tableIn (tgt := 795) hx hb dL_law_40 (by rw [c12]; decide) (by rw [c12]; decide) (by rw [c12]; rfl) (by decide) ?_
        exact lc_sought C0 hj hW hl ⟨by omega, by omega⟩ nx
      by_cases c13 : xs (7 * j) &&& 31 = 13
      · refine lv_tableIn (tgt := 832) hx hb dL_law_40 (by rw [c13]; decide) (by rw [c13]; decide) (by rw [c13]; rfl) (by decide) ?_
        exact lc_argument C0 hj hW hl ⟨by omega, by omega⟩ nx
      by_cases c14 : xs (7 * j) &&& 31 = 14
      · refine lv_tableIn (tgt := 869) hx hb dL_law_40 (by rw [c14]; decide) (by rw [c14]; decide) (by rw [c14]; rfl) (by decide) ?_
        exact lc_call C0 hj hW hl ⟨by omega, by omega⟩ nx
      by_cases c15 : xs (7 * j) &&& 31 = 15
      · refine lv_tableIn (tgt := 906) hx hb dL_law_40 (by rw [c15]; decide) (by rw [c15]; decide) (by rw [c15]; rfl) (by decide) ?_
        exact lc_way C0 hj hW hl ⟨by omega, by omega⟩ nx
      by_cases c16 : xs (7 * j) &&& 31 = 16
      · refine lv_tableIn (tgt := 919) hx hb dL_law_40 (by rw [c16]; decide) (by rw [c16]; decide) (by rw [c16]; rfl) (by decide) ?_
        exact lc_lacks C0 hj hW hl ⟨by omega, by omega⟩ nx
      by_cases c17 : xs (7 * j) &&& 31 = 17
      · refine lv_tableIn (tgt := 956) hx hb dL_law_40 (by rw [c17]; decide) (by rw [c17]; decide) (by rw [c17]; rfl) (by decide) ?_
        exact lc_count C0 hj hW hl ⟨by omega, by omega⟩ nx
      by_cases c18 : xs (7 * j) &&& 31 = 18
      · refine lv_tableIn (tgt := 981) hx hb dL_law_40 (by rw [c18]; decide) (by rw [c18]; decide) (by rw [c18]; rfl) (by decide) ?_
        exact lc_broken C0 hj hW hl ⟨by omega, by omega⟩ nx
      by_cases c19 : xs (7 * j) &&& 31 = 19
      · refine lv_tableIn (tgt := 1006) hx hb dL_law_40 (by rw [c19]; decide) (by rw [c19]; decide) (by rw [c19]; rfl) (by decide) ?_
        exact lc_clear C0 hj hW hl ⟨by omega, by omega⟩ nx
      refine lv_tableOut (tgt := 1019) hx hb dL_law_40 (by simp only [i_eq, Int32.reduceToInt] at c0 c1 c2 c3 c4 c5 c6 c7 c8 c9 c10 c11 c12 c13 c14 c15 c16 c17 c18 c19; omega) (by decide) ?_
      exact W.widen (k := cells + 4) (n := slots + 22) (by omega) (by omega) (nx u H locs ls hW hl)
set_option maxHeartbeats 1600000 in
set_option maxRecDepth 100000 in
theorem whole_start {p : Program} {e : Env} {s : State} {m : MethodId} {below : List Frame} {meth : Method} {c : Code} (l : Launch) (hst : l.stackTraces = false) {b L : Nat} {xs : Nat → Int32} (hL : L ≤ 3584) (C0 : lw_At p s m meth c b L xs) : W p l e room_1 s m #[Value.ref b] below meth c s.heap [] 0 0 (lw_Z below #[Value.ref b] s) (entryFrame m ([Value.ref b] : List Value).toArray 8) := by
  obtain ⟨hx, hb, hr, hml, hown, hts0, hX, hbl, hlocks, hgv⟩ := id C0
  have hts : ∀ w ∈ TT, w.before #[Value.ref b] s = true := fun w h => hts0 w (List.mem_filter.mp h).1
  have hown : s.vm.findClass RL = some m.cls := hown
  have hfl := flat_of_before _ hgv
  have hA : ∀ q : Nat, s.heap.size ≤ q → (fun q : Nat => s.heap.size ≤ q) q := fun _ h => h
  obtain ⟨k0, y0, hKn0⟩ := u_known (C := RJ0) (T := TJ0) (N := 2) (n := 4) hts iJ0 (hts0 (Cond.instantiable "java/lang/String" 4) (tb_in (i := 615) (by decide +kernel)))
  obtain ⟨k1, y1, hKn1⟩ := u_known (C := RJx00060) (T := TJx00060) (N := 6) (n := 6) hts iJx00060 (hts0 (Cond.instantiable "java/lang/ArrayIndexOutOfBoundsException" 6) (tb_in (i := 622) (by decide +kernel)))
  obtain ⟨k2, y2, hKn2⟩ := u_known (C := RJx3273f) (T := TJx3273f) (N := 6) (n := 6) hts iJx3273f (hts0 (Cond.instantiable "java/lang/ClassCastException" 6) (tb_in (i := 552) (by decide +kernel)))
  obtain ⟨k3, y3, hKn3⟩ := u_known (C := RX2) (T := TX2) (N := 7) (n := 7) hts iX2 (hts0 (Cond.instantiable "FieldMember$Field" 7) (tb_in (i := 208) (by decide +kernel)))
  obtain ⟨k4, y4, hKn4⟩ := u_known (C := RX3) (T := TX3) (N := 9) (n := 9) hts iX3 (hts0 (Cond.instantiable "FieldMember$Member" 9) (tb_in (i := 308) (by decide +kernel)))
  obtain ⟨k5, y5, hKn5⟩ := u_known (C := RX4) (T := TX4) (N := 3) (n := 3) hts iX4 (hts0 (Cond.instantiable "FieldMember$Row" 3) (tb_in (i := 56) (by decide +kernel)))
  obtain ⟨k6, y6, hKn6⟩ := u_known (C := RX6) (T := TX6) (N := 5) (n := 5) hts iX6 (hts0 (Cond.instantiable "FieldMember$Types" 5) (tb_in (i := 30) (by decide +kernel)))
  obtain ⟨k7, y7, hKn7⟩ := u_known (C := RX7) (T := TX7) (N := 11) (n := 11) hts iX7 (hts0 (Cond.instantiable "FieldMember" 11) (tb_in (i := 22) (by decide +kernel)))
  obtain ⟨k8, y8, hKn8⟩ := u_known (C := RX8) (T := TX8) (N := 33) (n := 33) hts iX8 (hts0 (Cond.instantiable "FieldMemberModel" 33) (tb_in (i := 674) (by decide +kernel)))
  obtain ⟨D, hKc⟩ : ∃ D : va_G, ∀ (k : Nat) (q : vw_C), vwCl[k]? = some q → u_Kn s q.1 q.2.1 q.2.2 (D.1 k) (D.2 k) := by
    refine ⟨(fun k => if k = 0 then k0 else if k = 1 then k1 else if k = 2 then k2 else if k = 3 then k3 else if k = 4 then k4 else if k = 5 then k5 else if k = 6 then k6 else if k = 7 then k7 else k8, fun k => if k = 0 then y0 else if k = 1 then y1 else if k = 2 then y2 else if k = 3 then y3 else if k = 4 then y4 else if k = 5 then y5 else if k = 6 then y6 else if k = 7 then y7 else y8), ?_⟩
    intro k q hq
    match k, hq with
    | 0, hq => cases hq; exact hKn0
    | 1, hq => cases hq; exact hKn1
    | 2, hq => cases hq; exact hKn2
    | 3, hq => cases hq; exact hKn3
    | 4, hq => cases hq; exact hKn4
    | 5, hq => cases hq; exact hKn5
    | 6, hq => cases hq; exact hKn6
    | 7, hq => cases hq; exact hKn7
    | 8, hq => cases hq; exact hKn8
    | k + 9, hq => simp [vwCl] at hq
  obtain ⟨ai, ai1, ai2⟩ := ar_ex (hts0 (Cond.arrayClass .int) (tb_in (i := 52) (by decide +kernel)))
  obtain ⟨al, al1, al2⟩ := ar_ex (hts0 (Cond.arrayClass .long) (tb_in (i := 779) (by decide +kernel)))
  obtain ⟨az, az1, az2⟩ := ar_ex (hts0 (Cond.arrayClass .boolean) (tb_in (i := 107) (by decide +kernel)))
  have hAO : va_AO "FieldMember$Entry" s := va_AO.of (hts0 (Cond.arrayOver (.object "FieldMember$Entry")) (tb_in (i := 54) (by decide +kernel)))
  obtain ⟨ae, ae1, ae2⟩ := ao_ex hAO
  obtain ⟨G, hG0, hG1, hG2, hG3⟩ : ∃ G : Nat → ClassId, G 0 = ai ∧ G 1 = al ∧ G 2 = az ∧ G 3 = ae := ⟨fun i => if i = 0 then ai else if i = 1 then al else if i = 2 then az else ae, rfl, rfl, rfl, rfl⟩
  subst hG0 hG1 hG2 hG3
  have hKa : va_K D vwCl (tyG G) s := by
    refine ⟨hKc, fun k q hq => ?_⟩
    match k, hq with
    | 0, hq => cases hq; exact ⟨ai1, ai2⟩
    | 1, hq => cases hq; exact ⟨al1, al2⟩
    | 2, hq => cases hq; exact ⟨az1, az2⟩
    | 3, hq => cases hq; exact ⟨ae1, ae2⟩
    | k + 4, hq => simp [tyG] at hq
  have hXN : XN s := ⟨va_Nw.of rfl (hts0 (Cond.castable "FieldMember$Field" "FieldMember$Field") (tb_in (i := 1013) (by decide +kernel))), va_Nw.of rfl (hts0 (Cond.castable "FieldMember$Member" "FieldMember$Member") (tb_in (i := 1014) (by decide +kernel))), va_Nw.of rfl (hts0 (Cond.castable "FieldMember$Field" "FieldMember$Entry") (tb_in (i := 1015) (by decide +kernel))), va_Nw.of rfl (hts0 (Cond.castable "FieldMember$Member" "FieldMember$Entry") (tb_in (i := 1016) (by decide +kernel))), va_Nc.of (hfl (.not (.castable "FieldMember$Field" "FieldMember$Member")) (by decide +kernel)), va_Nc.of (hfl (.not (.castable "FieldMember$Member" "FieldMember$Field")) (by decide +kernel)), va_Nw.of rfl (hts0 (Cond.methodLinkNest "FieldMember" 11 ⟨"FieldMember$Types", "<init>", "()V"⟩ "FieldMember") (tb_in (i := 31) (by decide +kernel))), va_Nw.of rfl (hts0 (Cond.methodLinkNest "FieldMember" 24 ⟨"FieldMember$Row", "<init>", "()V"⟩ "FieldMember") (tb_in (i := 57) (by decide +kernel))), va_Nw.of rfl (hts0 (Cond.methodLinkNest "FieldMember$Member" 17 ⟨"FieldMember$Row", "<init>", "()V"⟩ "FieldMember") (tb_in (i := 314) (by decide +kernel))), hAO⟩
  have hK : KK D G s := ⟨hKa, hXN⟩
  have hcur : s.vm.findClass "FieldMember" = some (D.1 7) := (hKc 7 _ rfl).2.1
  obtain ⟨t0, ht0⟩ := vk_ex hcur (hts0 (Cond.stringRef "FieldMember" 132 "no such ENTRY") (tb_in (i := 645) (by decide +kernel)))
  obtain ⟨t1, ht1⟩ := vk_ex hcur (hts0 (Cond.stringRef "FieldMember" 139 "a MEMBER has no CONSTANT") (tb_in (i := 648) (by decide +kernel)))
  obtain ⟨t2, ht2⟩ := vk_ex hcur (hts0 (Cond.stringRef "FieldMember" 218 "a FIELD has no PARAMETERS") (tb_in (i := 671) (by decide +kernel)))
  obtain ⟨t3, ht3⟩ := vk_ex hcur (hts0 (Cond.stringRef "FieldMember" 220 "no such PARAMETER") (tb_in (i := 672) (by decide +kernel)))
  obtain ⟨sa, hXS⟩ : ∃ sa : Nat → Nat, XS sa s := ⟨fun i => if i = 0 then t0 else if i = 1 then t1 else if i = 2 then t2 else t3, va_Nw.of rfl (hts0 (Cond.declares ⟨"java/lang/IndexOutOfBoundsException", "<init>", "(Ljava/lang/String;)V"⟩) (tb_in (i := 638) (by decide +kernel))), va_Nw.of rfl (hts0 (Cond.declares ⟨"java/lang/RuntimeException", "<init>", "(Ljava/lang/String;)V"⟩) (tb_in (i := 600) (by decide +kernel))), va_Nw.of rfl (hts0 (Cond.declares ⟨"java/lang/Exception", "<init>", "(Ljava/lang/String;)V"⟩) (tb_in (i := 602) (by decide +kernel))), va_Nw.of rfl (hts0 (Cond.declares ⟨"java/lang/Throwable", "<init>", "(Ljava/lang/String;)V"⟩) (tb_in (i := 604) (by decide +kernel))), va_Nw.of rfl (hts0 (Cond.castable "java/lang/ArrayIndexOutOfBoundsException" "java/lang/ArrayIndexOutOfBoundsException") (tb_in (i := 636) (by decide +kernel))), va_Nw.of rfl (hts0 (Cond.castable "java/lang/ClassCastException" "java/lang/ClassCastException") (tb_in (i := 598) (by decide +kernel))), va_Nc.of (hfl (.not (.castable "java/lang/ArrayIndexOutOfBoundsException" "java/lang/ClassCastException")) (by decide +kernel)), ht0, ht1, ht2, ht3⟩
  have hXZ : XZ (fun q => s.heap.size ≤ q) s s.heap := ⟨vx_Zqof (hts0 (Cond.laysStatic "java/lang/Throwable" "UNASSIGNED_STACK" "[Ljava/lang/StackTraceElement;") (tb_in (i := 566) (by decide +kernel))) (hts0 (Cond.initialized "java/lang/Throwable") (tb_in (i := 12) (by decide +kernel))) (hfl (.isRef (.static "java/lang/Throwable" "UNASSIGNED_STACK" "[Ljava/lang/StackTraceElement;")) (by decide +kernel)) (fun a h => Nat.not_le.mpr h), vx_Zqof (hts0 (Cond.laysStatic "java/lang/Throwable" "SUPPRESSED_SENTINEL" "Ljava/util/List;") (tb_in (i := 568) (by decide +kernel))) (hts0 (Cond.initialized "java/lang/Throwable") (tb_in (i := 12) (by decide +kernel))) (hfl (.isRef (.static "java/lang/Throwable" "SUPPRESSED_SENTINEL" "Ljava/util/List;")) (by decide +kernel)) (fun a h => Nat.not_le.mpr h)⟩
  have hS : va_S (fun q : Nat => s.heap.size ≤ q) s.heap s.heap [] := va_S.rf
  have hP : va_P D vwCl [] s.heap := fun k q h => by simp at h
  have hD : va_D (fun q : Nat => s.heap.size ≤ q) [] := ⟨fun i j p q h => by simp at h, fun k q h => by simp at h⟩
  have hl := lv_entry ([.ref b]) (n := 8) (Nat.le_of_ble_eq_true rfl)
  rw [lg_entry_eq]
  generalize (lg_sl ([.ref b]) ++ List.replicate (8 - (lg_sl ([.ref b])).length) Slot.unset).toArray = ls at hl ⊢
  have hl : lv_has ls 8 [(0, .ref b)] := hl
  refine va_new (ci := 7) (fs := [.null, .null, .int 0, .null, .null, .int 0, .null, .int 0, .null, .null, .null]) (C := RX7) (T := TX7) (N := 11) hx hb hts iX7 tyX7 tyX7_ok hown (hts0 (Cond.classLink "FieldMemberLaw" 8 "FieldMember") (tb_in (i := 21) (by decide +kernel))) (hts0 (Cond.instantiable "FieldMember" 11) (tb_in (i := 22) (by decide +kernel))) (hts0 (Cond.initialized "FieldMember") (tb_in (i := 1) (by decide +kernel))) hK.1 hP hD hS hA rfl (fun j hj => by rcases (show j = 0 ∨ j = 1 ∨ j = 2 ∨ j = 3 ∨ j = 4 ∨ j = 5 ∨ j = 6 ∨ j = 7 ∨ j = 8 ∨ j = 9 ∨ j = 10 by omega) with rfl | rfl | rfl | rfl | rfl | rfl | rfl | rfl | rfl | rfl | rfl <;> rfl) (Nat.le_of_ble_eq_true rfl) (Nat.le_of_ble_eq_true rfl) dL_law_0 (fun q7 H hP hD hS => ?_)
  refine lv_dup hx hb dL_law_3 rfl ?_
  refine cm_I (n := 0) (wr := []) (wc := [(q7, .inr (7, [.null, .null, .int 0, .null, .null, .int 0, .null, .int 0, .null, .null, .null]))]) (D := D) (G := G) (As := []) (rest := [.ref q7]) ⟨hx, hb, hml, hown, hts⟩ (c_classInit l D G q7 _) q_25 q_1 q_23 q_24 rfl (by decide +kernel) ⟨(Nat.le_of_ble_eq_true rfl), (Nat.le_of_ble_eq_true rfl)⟩ hK hP hD hS hA rfl hl.1 rfl (Nat.le_of_ble_eq_true rfl) dL_law_4 ⟨(Nat.le_of_ble_eq_true rfl), (Nat.le_of_ble_eq_true rfl)⟩ (fun w1 H locs hw hP hD hS => ?_)
  obtain ⟨ca, rfl, rfl⟩ := hw
  have hP : va_P D vwCl (cF G ca .null (fun _ => none) (fun _ _ => 0) (fun _ _ => 0)) H := hP
  have hD : va_D (fun q : Nat => s.heap.size ≤ q) (cF G ca .null (fun _ => none) (fun _ _ => 0) (fun _ _ => 0)) := hD
  refine lv_astore_n (lv' := [(1, .ref (ca 0)), (0, .ref b)]) hx hb dL_law_7 rfl hl (by decide) rfl (fun ls hl => ?_)
  refine va_new (ci := 8) (fs := [.int 0, .int 0, .null, .null, .null, .null, .null, .int 0, .null, .null, .null, .null, .null, .null, .null, .null, .null, .null, .null, .null, .null, .int 0, .int 0, .null, .null, .int 0, .int 0, .null, .null, .null, .null, .null, .null]) (C := RX8) (T := TX8) (N := 33) hx hb hts iX8 tyX8 tyX8_ok hown (hts0 (Cond.classLink "FieldMemberLaw" 22 "FieldMemberModel") (tb_in (i := 673) (by decide +kernel))) (hts0 (Cond.instantiable "FieldMemberModel" 33) (tb_in (i := 674) (by decide +kernel))) (hts0 (Cond.initialized "FieldMemberModel") (tb_in (i := 4) (by decide +kernel))) hK.1 hP hD hS hA rfl (fun j hj => by rcases (show j = 0 ∨ j = 1 ∨ j = 2 ∨ j = 3 ∨ j = 4 ∨ j = 5 ∨ j = 6 ∨ j = 7 ∨ j = 8 ∨ j = 9 ∨ j = 10 ∨ j = 11 ∨ j = 12 ∨ j = 13 ∨ j = 14 ∨ j = 15 ∨ j = 16 ∨ j = 17 ∨ j = 18 ∨ j = 19 ∨ j = 20 ∨ j = 21 ∨ j = 22 ∨ j = 23 ∨ j = 24 ∨ j = 25 ∨ j = 26 ∨ j = 27 ∨ j = 28 ∨ j = 29 ∨ j = 30 ∨ j = 31 ∨ j = 32 by omega) with rfl | rfl | rfl | rfl | rfl | rfl | rfl | rfl | rfl | rfl | rfl | rfl | rfl | rfl | rfl | rfl | rfl | rfl | rfl | rfl | rfl | rfl | rfl | rfl | rfl | rfl | rfl | rfl | rfl | rfl | rfl | rfl | rfl <;> rfl) (Nat.le_of_ble_eq_true rfl) (Nat.le_of_ble_eq_true rfl) dL_law_8 (fun mo H hP hD hS => ?_)
  refine lv_dup hx hb dL_law_11 rfl ?_
  refine cm_I (n := 0) (wr := cF G ca .null (fun _ => none) (fun _ _ => 0) (fun _ _ => 0)) (wc := [(mo, .inr (8, [.int 0, .int 0, .null, .null, .null, .null, .null, .int 0, .null, .null, .null, .null, .null, .null, .null, .null, .null, .null, .null, .null, .null, .int 0, .int 0, .null, .null, .int 0, .int 0, .null, .null, .null, .null, .null, .null]))]) (D := D) (G := G) (As := []) (rest := [.ref mo]) ⟨hx, hb, hml, hown, hts⟩ (c_modelInit l D G mo _) q_677 q_4 q_675 q_676 rfl (by decide +kernel) ⟨(Nat.le_of_ble_eq_true rfl), (Nat.le_of_ble_eq_true rfl)⟩ hK hP hD hS hA rfl hl.1 rfl (Nat.le_of_ble_eq_true rfl) dL_law_12 ⟨(Nat.le_of_ble_eq_true rfl), (Nat.le_of_ble_eq_true rfl)⟩ (fun w1 H locs hw hP hD hS => ?_)
  obtain ⟨ad, rfl⟩ := hw
  refine lv_astore_n (lv' := [(2, .ref mo), (1, .ref (ca 0)), (0, .ref b)]) hx hb dL_law_15 rfl hl (by decide) rfl (fun ls hl => ?_)
  refine lv_iconst (v := 1) hx hb dL_law_16 (by decide) ?_
  refine newa_j hx hb q_779 hts hK hP hD hS hA (N' := 1) rfl (by decide) (Nat.le_of_ble_eq_true rfl) (Nat.le_of_ble_eq_true rfl) dL_law_17 (fun o H hP hD hS => ?_)
  refine lv_astore_n (lv' := [(3, .ref o), (2, .ref mo), (1, .ref (ca 0)), (0, .ref b)]) hx hb dL_law_19 rfl hl (by decide) rfl (fun ls hl => ?_)
  refine lv_iconst (v := 0) hx hb dL_law_20 (by decide) ?_
  refine lv_istore (lv' := [(4, .int 0), (3, .ref o), (2, .ref mo), (1, .ref (ca 0)), (0, .ref b)]) hx hb dL_law_21 hl (by decide) rfl (fun ls hl => ?_)
  refine W.widen (k := 42) (n := 2093) (Nat.le_of_ble_eq_true rfl) (Nat.le_of_ble_eq_true rfl) ?_
  exact law_loop (ca := ca) (mo := mo) (ad := ad) (o := o) ⟨hx, hb, hml, hown, hts, hX, hbl, hK, hXS, hXZ, hst, hL⟩ hr hlocks (L + 7) 0 ((fun _ _ => 0), (fun _ => 0)) H _ ls _ _ (by omega) (Nat.zero_le _) rfl rfl ⟨fun _ => 0, _, NX_0, P_perm hP pm_m, D_perm pm_m hD, hS⟩ hl
set_option maxHeartbeats 4000000 in
theorem lw_walk (l : Launch) (hst : l.stackTraces = false) (b : Addr) (xs : List Int32) : MetFree l x (headSpec (Jvm.Cond.code x code maxLocals ret :: tables_1) room_1) (lw_P b xs) (fun _ _ _ _ _ => True) lw_Q := by
  refine MetFree.of_bodyS (code := code) (maxLocals := maxLocals) (ret := ret) (by decide) ?_ ?_
  · intro args s m h hn
    obtain ⟨meth, c, h1, h2, h3, h4, h5, h6, -, -⟩ := Cond.code_spec hn (atoms_spec (ws := Jvm.Cond.code x code maxLocals ret :: tables_1) h _ List.mem_cons_self)
    exact ⟨meth, c, h1, h2, h3, h4, h5, h6⟩
  · intro p e s m args below meth c s₁ B hml0 hP _
    obtain ⟨rfl, hx, hbd, hgv⟩ := hP
    obtain ⟨scr, harrAt, hlist, hof, hsmall⟩ := hx
    obtain ⟨hcb, hkn, -, -⟩ := State.arrayAt?_spec harrAt
    have hown : s.vm.findClass R_law = some m.cls := findClass_of_methodNamed B.named
    have hts0 : ∀ c ∈ (Jvm.Cond.code x code maxLocals ret :: tables_1), c.before #[Value.ref b] s = true := atoms_spec (ws := Jvm.Cond.code x code maxLocals ret :: tables_1) B.pre
    have hts : ∀ w ∈ lw_tbl, w.before #[Value.ref b] s = true := k2_hts_sels lw_privs (fun w hw => hts0 w (List.mem_cons_of_mem _ hw)) lw_privs_ok
    have hml : c.maxLocals = 8 := B.maxLocals_eq (hts0 _ List.mem_cons_self)
    have X₀ : Stand p l e room_1 s m #[Value.ref b] below meth c s₁ [] 0 0 := Stand.of_body B
    have hh0 : s₁.heap = s.heap := by rw [B.state]; rfl
    have hsz : scr.slots.size = xs.length := by rw [← Array.length_toList, hlist, List.length_map]
    have hval : ∀ j : Nat, j < xs.length → scr.slots[j]? = some (.int (xs.getD j 0)) := fun j hj => by
      rw [← Array.getElem?_toList, hlist]
      simp [hj]
    have hbl : b < s.heap.size := (Array.getElem?_eq_some_iff.mp hcb).1
    have hX : va_X b xs.length (fun j => xs.getD j 0) s s.heap := ⟨scr, hcb, hof, hkn, hsz, hval⟩
    have K : W p l e room_1 s m #[Value.ref b] below meth c s₁.heap [] 0 0 (lw_Z below #[Value.ref b] s) (entryFrame m ([Value.ref b] : List Value).toArray 8) := by
      rw [hh0]
      exact whole_start l hst hbd ⟨B.exec, B.bytes, B.returns, hml, hown, hts, hX, hbl, B.notSynchronized, hgv⟩
    obtain ⟨t, a1, o, b1, b2, b3⟩ := K s₁ rfl X₀
    exact ⟨t, o, a1, b1, b2, b3⟩
theorem lw_pre_spec {args : Array Value} {s : State} (h : (Jvm.Cond.and given_1 narrow_1).before args s = true) (hr : rest_1_c.before args s = true) : ∃ (b : Addr) (xs : List Int32), lw_P b xs args s := by
  have hs := flat_of_before _ h
  have hq := flat_of_before _ hr
  have hc : (Cond.count 1).before args s = true := hs _ (by decide +kernel)
  have harr : (Cond.arrayOf (.arg 0) .int).before args s = true := hs _ (by decide +kernel)
  have hle : (Cond.le (.length (.arg 0)) (.int 3584)).before args s = true := hs _ (by decide +kernel)
  have hlen : (Cond.isInt (.length (.arg 0))).before args s = true := hq _ (by decide +kernel)
  have hall : (Cond.all (.arg 0) (.isInt (.elem (.arg 0) (.index 0)))).before args s = true := hq _ (by decide +kernel)
  obtain ⟨b, xs, hb, hx⟩ := State.ints_of_pre rfl harr hlen hall
  have hsm : xs.length < 2 ^ 31 := hx.choose_spec.2.2.2
  have hev : (Term.length (.arg 0)).eval args s none [] s = some (.int xs.length.toInt32) := hx.length_eval hb
  have hv := Cond.le_ints hev (show (Term.int 3584).eval args s none [] s = some (.int 3584) from rfl)
  have hd : xs.length.toInt32 ≤ 3584 := by
    simpa [Cond.before, Cond.holds, hv] using hle
  have hN : xs.length ≤ 3584 := (Int32.ofNat_le_ofNat hsm (by decide)).mp (show Int32.ofNat xs.length ≤ Int32.ofNat 3584 from hd)
  exact ⟨b, xs, Cond.one_arg hc (show args[0]? = some (.ref b) from hb), hx, hN, h⟩
theorem lw_comes (l : Launch) (hst : l.stackTraces = false) : Comes l x (Jvm.Cond.code x code maxLocals ret :: tables_1) room_1 (fun tb e args s => Calls_1 tb e args s ∧ rest_1 tb e args s ∧ Pre_1 tb e args s)
    (fun _ _ args s o t => lw_Q args s o t) := by
  intro p e ha hc hk s m args below hf hfit hheap happ hpre
  obtain ⟨b, xs, hP⟩ := lw_pre_spec hpre.2.2 hpre.2.1
  obtain ⟨k, o, h1, h2, h3, hQ⟩ := lw_walk l hst b xs p e ha hc hk s m args below hf ((Spec.applies_iff_loose hf).mp happ).1 hP trivial
  exact ⟨k, o, h1, h2, h3, hQ⟩
theorem lw_frame {s t : State} {o : Outcome} {args : Array Value} (h : Framed s o t [] 603072 7262314) :
    Framed s o t (fieldLocs frame_1_writes args s ++ arrayLocs frame_1_arrays args s ++ staticLocs frame_1_statics s) 603072 7262314 := h
theorem lw_limb (L : Cond) (hL : ∀ (args : Array Value) (s t : State), L.after args s (.returned (some (.int 1))) t = true) :
    ArmFor flags0 classFile x code maxLocals ret World_1 tables_1 room_1 Calls_1 rest_1 Pre_1
      (fun tb e a s o t => postC L tb e a s o t ∧ Framed s o t (fieldLocs frame_1_writes a s ++ arrayLocs frame_1_arrays a s ++ staticLocs frame_1_statics s) 603072 7262314) := by
  intro l hfl _ _ p e ha hc hk s m args below hf hfit hheap happ hpre
  have hst : l.stackTraces = false := by unfold Launch.stackTraces; rw [hfl]; decide +kernel
  obtain ⟨k, o, h1, h2, h3, rfl, hF⟩ := lw_comes l hst p e ha hc hk s m args below hf hfit hheap happ hpre
  exact ⟨k, _, h1, h2, h3, hL args s _, lw_frame hF⟩
theorem i_vc : Claimed_1_1 ∧ Claimed_1_2 := ⟨lw_limb limb_1_1 (fun args s t => by simp [limb_1_1, Cond.after, Cond.holds, Cond.value]), lw_limb limb_1_2 (fun args s t => Cond.after_iff.mpr (by
  first | (rw [show limb_1_2 = Cond.eq .result (.int 1) from rfl, Cond.eq_ints (x := 1) (y := 1) rfl rfl]; simp; done) | (simp [limb_1_2, Cond.value, Term.eval]; done)))⟩

