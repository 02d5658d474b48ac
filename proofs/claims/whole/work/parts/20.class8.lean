section JX
variable {p : Program} {l : Launch} {e : Env} {R : Room} {s : State} {m : MethodId} {args : Array Value} {below : List Frame} {meth : Method} {c : Code} {H : Heap} {locs : List Loc} {cells slots : Nat} {Q : State → Prop}
/-- roads meet with a number, some locals were changed -/
theorem w_joinX {P : Int32 → Prop} {L : Array Slot → Prop} (pcJ : Nat) {rest : List Value} {g : JFrame} (j : ∀ (b : Int32) (ls : Array Slot), P b → L ls → W p l e R s m args below meth c H locs cells slots Q (F0 m pcJ ls (.int b :: rest))) (k : (∀ (b : Int32) (ls : Array Slot), P b → L ls → W p l e R s m args below meth c H locs cells slots Q (F0 m pcJ ls (.int b :: rest))) → W p l e R s m args below meth c H locs cells slots Q g) : W p l e R s m args below meth c H locs cells slots Q g := k j
end JX
theorem fgF_at {σ : MS} {cd : Nat → Int32} {w : Nat} {v : Int32} {K : Nat} {f : Nat → Int32} : ∀ {k e : Nat}, e < k → fgF σ cd w v K f k e = bI (fgP σ cd w v K e)
  | k + 1, e, h => by
    show upd (fgF σ cd w v K f k) k _ e = _
    by_cases q : e = k
    · rw [q, pk_us]
    · rw [pk_un q]; exact fgF_at (by omega)
/-- what is marked as fitting is a member, and takes as many -/
theorem fg_ft {σ : MS} {cd : Nat → Int32} {w : Nat} {v : Int32} {K : Nat} {f : Nat → Int32} : ∀ e, e < K → ¬ fgF σ cd w v K f K e = 0 → ¬ σ 8 e = 0 ∧ mtb σ w e v := by
  intro e he h
  rw [fgF_at he] at h
  have h := bI_1 h
  exact ⟨h.2.1, (tk_iff.mp h.2.2.1).1⟩
/-- the answer of a call, as the class finds it -/
def ccA (σ x : MS) (k w t : Nat) (name : Int32) : Int32 :=
  if fgA σ (ccF σ t name (x 3) k) w 0 k k then nfF σ (fgF σ (ccF σ t name (x 3) k) w 0 k (x 4) k) w 0 k k 0 (-2)
  else if fgA σ (ccF σ t name (x 3) k) w 1 k k then nfF σ (fgF σ (ccF σ t name (x 3) k) w 1 k (fgF σ (ccF σ t name (x 3) k) w 0 k (x 4) k) k) w 1 k k 0 (-2) else -1
def ccY (σ x : MS) (k w t : Nat) (name : Int32) : Int32 := if ccA σ x k w t name < 0 then 0 else if fgA σ (ccF σ t name (x 3) k) w 0 k k then 1 else 2
/-- what the class finds in the types up to one -/
def skC (σ : MS) (K : Nat) (name : Int32) (fm : Nat → Int32) (f : Nat → Int32) : Nat → Nat → Int32
  | 0 => f
  | t + 1 => upd (skC σ K name fm f t) t (cfV σ K name (fm t) (skC σ K name fm f t) t)
/-- the places of the entries that are cleared -/
def enC (en : Nat → Option Nat) : Nat → Nat → Option Nat
  | 0 => en
  | k + 1 => va_up (enC en k) k none

theorem dX7_markCandidates_0 : decode cX7_markCandidates 0 = .ok (.iconst 0, 1) := by decide +kernel
theorem dX7_markCandidates_1 : decode cX7_markCandidates 1 = .ok (.istore_n 3, 1) := by decide +kernel
theorem dX7_markCandidates_2 : decode cX7_markCandidates 2 = .ok (.iload_n 3, 1) := by decide +kernel
theorem dX7_markCandidates_3 : decode cX7_markCandidates 3 = .ok (.aload_n 0, 1) := by decide +kernel
theorem dX7_markCandidates_4 : decode cX7_markCandidates 4 = .ok (.getfield 61, 3) := by decide +kernel
theorem dX7_markCandidates_7 : decode cX7_markCandidates 7 = .ok (.if_icmp .ge 62, 3) := by decide +kernel
theorem dX7_markCandidates_69 : decode cX7_markCandidates 69 = .ok (.return_, 1) := by decide +kernel
theorem dX7_markCandidates_10 : decode cX7_markCandidates 10 = .ok (.aload_n 0, 1) := by decide +kernel
theorem dX7_markCandidates_11 : decode cX7_markCandidates 11 = .ok (.getfield 36, 3) := by decide +kernel
theorem dX7_markCandidates_14 : decode cX7_markCandidates 14 = .ok (.iload_n 3, 1) := by decide +kernel
theorem dX7_markCandidates_62 : decode cX7_markCandidates 62 = .ok (.bastore, 1) := by decide +kernel
theorem dX7_markCandidates_63 : decode cX7_markCandidates 63 = .ok (.iinc 3 1, 3) := by decide +kernel
theorem dX7_markCandidates_66 : decode cX7_markCandidates 66 = .ok (.goto (-64), 3) := by decide +kernel
theorem dX7_markCandidates_15 : decode cX7_markCandidates 15 = .ok (.aload_n 0, 1) := by decide +kernel
theorem dX7_markCandidates_16 : decode cX7_markCandidates 16 = .ok (.getfield 18, 3) := by decide +kernel
theorem dX7_markCandidates_19 : decode cX7_markCandidates 19 = .ok (.iload_n 3, 1) := by decide +kernel
theorem dX7_markCandidates_20 : decode cX7_markCandidates 20 = .ok (.aaload, 1) := by decide +kernel
theorem dX7_markCandidates_21 : decode cX7_markCandidates 21 = .ok (.astore 5, 2) := by decide +kernel
theorem dX7_markCandidates_23 : decode cX7_markCandidates 23 = .ok (.aload 5, 2) := by decide +kernel
theorem dX7_markCandidates_25 : decode cX7_markCandidates 25 = .ok (.instanceof 160, 3) := by decide +kernel
theorem dX7_markCandidates_28 : decode cX7_markCandidates 28 = .ok (.ifCond .eq 33, 3) := by decide +kernel
theorem dX7_markCandidates_61 : decode cX7_markCandidates 61 = .ok (.iconst 0, 1) := by decide +kernel
theorem dX7_markCandidates_31 : decode cX7_markCandidates 31 = .ok (.aload 5, 2) := by decide +kernel
theorem dX7_markCandidates_33 : decode cX7_markCandidates 33 = .ok (.checkcast 160, 3) := by decide +kernel
theorem dX7_markCandidates_36 : decode cX7_markCandidates 36 = .ok (.astore 4, 2) := by decide +kernel
theorem dX7_markCandidates_38 : decode cX7_markCandidates 38 = .ok (.aload 4, 2) := by decide +kernel
theorem q_226 : Cond.fieldLink "FieldMember" 309 "FieldMember$Member" "name" "I" ∈ TT := tt_t (i := 226) (by decide +kernel) (by decide +kernel)
theorem dX7_markCandidates_40 : decode cX7_markCandidates 40 = .ok (.getfield 309, 3) := by decide +kernel
theorem dX7_markCandidates_43 : decode cX7_markCandidates 43 = .ok (.iload_n 2, 1) := by decide +kernel
theorem dX7_markCandidates_44 : decode cX7_markCandidates 44 = .ok (.if_icmp .ne 17, 3) := by decide +kernel
theorem dX7_markCandidates_47 : decode cX7_markCandidates 47 = .ok (.aload_n 0, 1) := by decide +kernel
theorem dX7_markCandidates_48 : decode cX7_markCandidates 48 = .ok (.iload_n 1, 1) := by decide +kernel
theorem dX7_markCandidates_49 : decode cX7_markCandidates 49 = .ok (.aload 4, 2) := by decide +kernel
theorem q_450 : Cond.methodLink "FieldMember" 310 ⟨"FieldMember", "isReachedFrom", "(ILFieldMember$Member;)Z"⟩ ∈ TT := tt_t (i := 450) (by decide +kernel) (by decide +kernel)
theorem q_453 : Cond.code ⟨"FieldMember", "isReachedFrom", "(ILFieldMember$Member;)Z"⟩ prog_1_method_45_code 3 (some .boolean) ∈ TT := tt_t (i := 453) (by decide +kernel) (by decide +kernel)
theorem q_452 : Cond.instanceMethod ⟨"FieldMember", "isReachedFrom", "(ILFieldMember$Member;)Z"⟩ ∈ TT := tt_t (i := 452) (by decide +kernel) (by decide +kernel)
theorem qs_18 : Cond.selects "FieldMember" ⟨"FieldMember", "isReachedFrom", "(ILFieldMember$Member;)Z"⟩ ⟨"FieldMember", "isReachedFrom", "(ILFieldMember$Member;)Z"⟩ ∈ TT := tt_s (i := 18) (by decide +kernel) (by decide +kernel)
theorem gV_X7_X7_isReachedFrom : GoodIn TT (wsV RX7 310 RX7 yX7_isReachedFrom (ww yX7_isReachedFrom cX7_isReachedFrom 3 (some .boolean))) := tt_V q_450 q_452 qs_18 q_1 q_453
theorem hdV_X7_isReachedFrom : yX7_isReachedFrom.cls = RX7 ∧ yX7_isReachedFrom.cls ≠ "java/lang/invoke/MethodHandle" ∧ yX7_isReachedFrom.cls ≠ "java/lang/invoke/VarHandle" ∧ (parseMethodDescriptor yX7_isReachedFrom.desc).map (fun d => d.parameters.length) = some 2 := by decide +kernel
theorem dX7_markCandidates_51 : decode cX7_markCandidates 51 = .ok (.invokevirtual 310, 3) := by decide +kernel
theorem dX7_markCandidates_54 : decode cX7_markCandidates 54 = .ok (.ifCond .eq 7, 3) := by decide +kernel
theorem dX7_markCandidates_57 : decode cX7_markCandidates 57 = .ok (.iconst 1, 1) := by decide +kernel
theorem dX7_markCandidates_58 : decode cX7_markCandidates 58 = .ok (.goto 4, 3) := by decide +kernel
theorem dX7_markFitting_0 : decode cX7_markFitting 0 = .ok (.iconst 0, 1) := by decide +kernel
theorem dX7_markFitting_1 : decode cX7_markFitting 1 = .ok (.istore_n 2, 1) := by decide +kernel
theorem dX7_markFitting_2 : decode cX7_markFitting 2 = .ok (.iconst 0, 1) := by decide +kernel
theorem dX7_markFitting_3 : decode cX7_markFitting 3 = .ok (.istore_n 3, 1) := by decide +kernel
theorem dX7_markFitting_4 : decode cX7_markFitting 4 = .ok (.iload_n 3, 1) := by decide +kernel
theorem dX7_markFitting_5 : decode cX7_markFitting 5 = .ok (.aload_n 0, 1) := by decide +kernel
theorem dX7_markFitting_6 : decode cX7_markFitting 6 = .ok (.getfield 61, 3) := by decide +kernel
theorem dX7_markFitting_9 : decode cX7_markFitting 9 = .ok (.if_icmp .ge 90, 3) := by decide +kernel
theorem dX7_markFitting_99 : decode cX7_markFitting 99 = .ok (.iload_n 2, 1) := by decide +kernel
theorem dX7_markFitting_100 : decode cX7_markFitting 100 = .ok (.ireturn, 1) := by decide +kernel
theorem dX7_markFitting_12 : decode cX7_markFitting 12 = .ok (.aload_n 0, 1) := by decide +kernel
theorem dX7_markFitting_13 : decode cX7_markFitting 13 = .ok (.getfield 40, 3) := by decide +kernel
theorem dX7_markFitting_16 : decode cX7_markFitting 16 = .ok (.iload_n 3, 1) := by decide +kernel
theorem dX7_markFitting_73 : decode cX7_markFitting 73 = .ok (.bastore, 1) := by decide +kernel
theorem dX7_markFitting_92 : decode cX7_markFitting 92 = .ok (.istore_n 2, 1) := by decide +kernel
theorem dX7_markFitting_93 : decode cX7_markFitting 93 = .ok (.iinc 3 1, 3) := by decide +kernel
theorem dX7_markFitting_96 : decode cX7_markFitting 96 = .ok (.goto (-92), 3) := by decide +kernel
theorem dX7_markFitting_74 : decode cX7_markFitting 74 = .ok (.iload_n 2, 1) := by decide +kernel
theorem dX7_markFitting_75 : decode cX7_markFitting 75 = .ok (.ifCond .ne 12, 3) := by decide +kernel
theorem dX7_markFitting_87 : decode cX7_markFitting 87 = .ok (.iconst 1, 1) := by decide +kernel
theorem dX7_markFitting_88 : decode cX7_markFitting 88 = .ok (.goto 4, 3) := by decide +kernel
theorem dX7_markFitting_78 : decode cX7_markFitting 78 = .ok (.aload_n 0, 1) := by decide +kernel
theorem dX7_markFitting_79 : decode cX7_markFitting 79 = .ok (.getfield 40, 3) := by decide +kernel
theorem dX7_markFitting_82 : decode cX7_markFitting 82 = .ok (.iload_n 3, 1) := by decide +kernel
theorem dX7_markFitting_83 : decode cX7_markFitting 83 = .ok (.baload, 1) := by decide +kernel
theorem dX7_markFitting_84 : decode cX7_markFitting 84 = .ok (.ifCond .eq 7, 3) := by decide +kernel
theorem dX7_markFitting_91 : decode cX7_markFitting 91 = .ok (.iconst 0, 1) := by decide +kernel
theorem dX7_markFitting_17 : decode cX7_markFitting 17 = .ok (.aload_n 0, 1) := by decide +kernel
theorem dX7_markFitting_18 : decode cX7_markFitting 18 = .ok (.getfield 36, 3) := by decide +kernel
theorem dX7_markFitting_21 : decode cX7_markFitting 21 = .ok (.iload_n 3, 1) := by decide +kernel
theorem dX7_markFitting_22 : decode cX7_markFitting 22 = .ok (.baload, 1) := by decide +kernel
theorem dX7_markFitting_23 : decode cX7_markFitting 23 = .ok (.ifCond .eq 49, 3) := by decide +kernel
theorem dX7_markFitting_72 : decode cX7_markFitting 72 = .ok (.iconst 0, 1) := by decide +kernel
theorem dX7_markFitting_26 : decode cX7_markFitting 26 = .ok (.aload_n 0, 1) := by decide +kernel
theorem dX7_markFitting_27 : decode cX7_markFitting 27 = .ok (.getfield 18, 3) := by decide +kernel
theorem dX7_markFitting_30 : decode cX7_markFitting 30 = .ok (.iload_n 3, 1) := by decide +kernel
theorem dX7_markFitting_31 : decode cX7_markFitting 31 = .ok (.aaload, 1) := by decide +kernel
theorem dX7_markFitting_32 : decode cX7_markFitting 32 = .ok (.astore 5, 2) := by decide +kernel
theorem dX7_markFitting_34 : decode cX7_markFitting 34 = .ok (.aload 5, 2) := by decide +kernel
theorem dX7_markFitting_36 : decode cX7_markFitting 36 = .ok (.instanceof 160, 3) := by decide +kernel
theorem dX7_markFitting_39 : decode cX7_markFitting 39 = .ok (.ifCond .eq 33, 3) := by decide +kernel
theorem dX7_markFitting_42 : decode cX7_markFitting 42 = .ok (.aload 5, 2) := by decide +kernel
theorem dX7_markFitting_44 : decode cX7_markFitting 44 = .ok (.checkcast 160, 3) := by decide +kernel
theorem dX7_markFitting_47 : decode cX7_markFitting 47 = .ok (.astore 4, 2) := by decide +kernel
theorem dX7_markFitting_49 : decode cX7_markFitting 49 = .ok (.aload_n 0, 1) := by decide +kernel
theorem dX7_markFitting_50 : decode cX7_markFitting 50 = .ok (.aload 4, 2) := by decide +kernel
theorem dX7_markFitting_52 : decode cX7_markFitting 52 = .ok (.iload_n 1, 1) := by decide +kernel
theorem q_458 : Cond.methodLink "FieldMember" 313 ⟨"FieldMember", "takesArguments", "(LFieldMember$Member;Z)Z"⟩ ∈ TT := tt_t (i := 458) (by decide +kernel) (by decide +kernel)
theorem q_461 : Cond.code ⟨"FieldMember", "takesArguments", "(LFieldMember$Member;Z)Z"⟩ prog_1_method_48_code 4 (some .boolean) ∈ TT := tt_t (i := 461) (by decide +kernel) (by decide +kernel)
theorem q_460 : Cond.instanceMethod ⟨"FieldMember", "takesArguments", "(LFieldMember$Member;Z)Z"⟩ ∈ TT := tt_t (i := 460) (by decide +kernel) (by decide +kernel)
theorem qs_20 : Cond.selects "FieldMember" ⟨"FieldMember", "takesArguments", "(LFieldMember$Member;Z)Z"⟩ ⟨"FieldMember", "takesArguments", "(LFieldMember$Member;Z)Z"⟩ ∈ TT := tt_s (i := 20) (by decide +kernel) (by decide +kernel)
theorem gV_X7_X7_takesArguments : GoodIn TT (wsV RX7 313 RX7 yX7_takesArguments (ww yX7_takesArguments cX7_takesArguments 4 (some .boolean))) := tt_V q_458 q_460 qs_20 q_1 q_461
theorem hdV_X7_takesArguments : yX7_takesArguments.cls = RX7 ∧ yX7_takesArguments.cls ≠ "java/lang/invoke/MethodHandle" ∧ yX7_takesArguments.cls ≠ "java/lang/invoke/VarHandle" ∧ (parseMethodDescriptor yX7_takesArguments.desc).map (fun d => d.parameters.length) = some 2 := by decide +kernel
theorem dX7_markFitting_53 : decode cX7_markFitting 53 = .ok (.invokevirtual 313, 3) := by decide +kernel
theorem dX7_markFitting_56 : decode cX7_markFitting 56 = .ok (.ifCond .eq 16, 3) := by decide +kernel
theorem dX7_markFitting_59 : decode cX7_markFitting 59 = .ok (.aload_n 0, 1) := by decide +kernel
theorem dX7_markFitting_60 : decode cX7_markFitting 60 = .ok (.aload 4, 2) := by decide +kernel
theorem q_489 : Cond.methodLink "FieldMember" 317 ⟨"FieldMember", "isStoodFor", "(LFieldMember$Member;)Z"⟩ ∈ TT := tt_t (i := 489) (by decide +kernel) (by decide +kernel)
theorem q_492 : Cond.code ⟨"FieldMember", "isStoodFor", "(LFieldMember$Member;)Z"⟩ prog_1_method_47_code 5 (some .boolean) ∈ TT := tt_t (i := 492) (by decide +kernel) (by decide +kernel)
theorem q_491 : Cond.instanceMethod ⟨"FieldMember", "isStoodFor", "(LFieldMember$Member;)Z"⟩ ∈ TT := tt_t (i := 491) (by decide +kernel) (by decide +kernel)
theorem qs_24 : Cond.selects "FieldMember" ⟨"FieldMember", "isStoodFor", "(LFieldMember$Member;)Z"⟩ ⟨"FieldMember", "isStoodFor", "(LFieldMember$Member;)Z"⟩ ∈ TT := tt_s (i := 24) (by decide +kernel) (by decide +kernel)
theorem gV_X7_X7_isStoodFor : GoodIn TT (wsV RX7 317 RX7 yX7_isStoodFor (ww yX7_isStoodFor cX7_isStoodFor 5 (some .boolean))) := tt_V q_489 q_491 qs_24 q_1 q_492
theorem hdV_X7_isStoodFor : yX7_isStoodFor.cls = RX7 ∧ yX7_isStoodFor.cls ≠ "java/lang/invoke/MethodHandle" ∧ yX7_isStoodFor.cls ≠ "java/lang/invoke/VarHandle" ∧ (parseMethodDescriptor yX7_isStoodFor.desc).map (fun d => d.parameters.length) = some 1 := by decide +kernel
theorem dX7_markFitting_62 : decode cX7_markFitting 62 = .ok (.invokevirtual 317, 3) := by decide +kernel
theorem dX7_markFitting_65 : decode cX7_markFitting 65 = .ok (.ifCond .ne 7, 3) := by decide +kernel
theorem dX7_markFitting_68 : decode cX7_markFitting 68 = .ok (.iconst 1, 1) := by decide +kernel
theorem dX7_markFitting_69 : decode cX7_markFitting 69 = .ok (.goto 4, 3) := by decide +kernel
set_option maxHeartbeats 800000 in
set_option maxRecDepth 100000 in
theorem c_markCandidates (l : Launch) (D : va_G) (G : Nat → ClassId) (ca : Nat → Nat) (bg : Value) (ea : Nat → Nat → Nat) (n k w0 : Nat) (σ x : MS) (κ : Nat → Int64) (pl : va_W) (sz : Nat) (hE : plE G ea σ κ k pl) (hI : cI σ x n k w0) (t : Nat) (ht : t < n) (name : Int32) : Met l yX7_markCandidates (ww yX7_markCandidates cX7_markCandidates 6 none) (rmC 5 0 0) (cmP D G sz (cF G ca bg (enF ea k) σ x ++ pl) [.ref ((ca 0)), .int (nI t), .int name]) (cmQv D (va_A (cF G ca bg (enF ea k) σ x ++ pl) sz) (fun z8 => z8 = cF G ca bg (enF ea k) σ (st x 3 (ccF σ t name (x 3) k)) ++ pl)) 0 0 (va_A (cF G ca bg (enF ea k) σ x ++ pl) sz) := by
  refine Met.ofW (cc := cX7_markCandidates) (maxL := 6) (ret := none) (by decide) rfl ?_
  intro p e s m args below meth c s₁ B hml hv
  obtain ⟨rfl, hsz, hP, hK, hD0⟩ := hv
  have hx := B.exec
  have hb := B.bytes
  have hr := B.returns
  have hts : ∀ w ∈ TT, w.before _ s = true := fun w h => atoms_spec (ws := ww yX7_markCandidates cX7_markCandidates 6 none) B.pre w (List.mem_cons_of_mem _ h)
  have hown : s.vm.findClass RX7 = some m.cls := findClass_of_methodNamed B.named
  have hlocks := B.notSynchronized
  subst hsz
  have hD : va_D (va_A (cF G ca bg (enF ea k) σ x ++ pl) s.heap.size) (cF G ca bg (enF ea k) σ x ++ pl) := hD0.self
  generalize hAe : va_A (cF G ca bg (enF ea k) σ x ++ pl) s.heap.size = A at hD ⊢
  have hA : ∀ q : Nat, s.heap.size ≤ q → A q := fun q h => by rw [← hAe]; exact Or.inr h
  have hS : va_S A s.heap s.heap [] := va_S.rf
  have hP : va_P D vwCl (cF G ca bg (enF ea k) σ x ++ pl) s.heap := hP
  have hI0 := hI
  obtain ⟨h1, hn, h7, hk60, h22, hw, hab, hfa, hmi, hak, hrf⟩ := hI
  have hl := lv_entry ([.ref ((ca 0)), .int (nI t), .int name]) (n := 6) (Nat.le_of_ble_eq_true rfl)
  rw [lg_entry_eq]
  generalize (lg_sl ([.ref ((ca 0)), .int (nI t), .int name]) ++ List.replicate (6 - (lg_sl ([.ref ((ca 0)), .int (nI t), .int name])).length) Slot.unset).toArray = ls at hl ⊢
  have hl : lv_has ls 6 [(0, .ref ((ca 0))), (1, .int (nI t)), (2, .int name)] := hl
  refine lv_iconst (v := 0) hx hb dX7_markCandidates_0 (by decide) ?_
  refine lv_istore_n (lv' := [(3, .int 0), (0, .ref ((ca 0))), (1, .int (nI t)), (2, .int name)]) hx hb dX7_markCandidates_1 rfl hl (by decide) rfl (fun ls hl => ?_)
  refine w_forM (N := k) 2 (L := fun q9 ls H locs => lv_has ls 6 [(3, .int (nI q9)), (0, .ref ((ca 0))), (1, .int (nI t)), (2, .int name)] ∧ va_P D vwCl (cF G ca bg (enF ea k) σ (st x 3 (ccF σ t name (x 3) q9)) ++ pl) H ∧ va_D A (cF G ca bg (enF ea k) σ (st x 3 (ccF σ t name (x 3) q9)) ++ pl) ∧ va_S A s.heap H locs) (fun k9 ls H locs hk hL ih2 => ?_) 0 ls _ _ (by omega) ⟨hl, hP, hD, hS⟩
  obtain ⟨hl, hP, hD, hS⟩ := hL
  have hl : lv_has ls 6 [(3, .int (nI k9)), (0, .ref ((ca 0))), (1, .int (nI t)), (2, .int name)] := hl
  refine lv_iload_n hx hb dX7_markCandidates_2 rfl (lv_at hl 0 rfl) ?_
  refine lv_aload_n hx hb dX7_markCandidates_3 rfl (lv_at hl 1 rfl) ?_
  refine va_get (D := D) (ci := 7) (v := .int (σ 7 0)) (C := RX7) (T := TX7) (N := 11) hx hb hts iX7 hown hK.1 hP 0 rfl rfl 2 (by decide) (hts _ q_75) (fun _ h9 => h9) rfl dX7_markCandidates_4 ?_
  refine lv_icmp_ge (tgt := 69) hx hb dX7_markCandidates_7 (by decide) (fun c1 => ?_) (fun c1 => ?_)
  · -- 7 taken
    have c1 : k ≤ k9 := (nI_leI (a := k) (b := k9) (by omega) (by omega)).mp (by have h8 := c1; rw [h7] at h8; exact h8)
    obtain rfl : k = k9 := by omega
    have hP : va_P D vwCl (cF G ca bg (enF ea k) σ (st x 3 (ccF σ t name (x 3) k)) ++ pl) H := hP
    have hD : va_D A (cF G ca bg (enF ea k) σ (st x 3 (ccF σ t name (x 3) k)) ++ pl) := hD
    exact cm_vret hx hb hr hlocks hP hD hS dX7_markCandidates_69 (rfl)
  · -- 7 not
    have c1 : ¬ k ≤ k9 := fun h9 => c1 (by rw [h7]; exact (nI_leI (a := k) (b := k9) (by omega) (by omega)).mpr h9)
    refine lv_aload_n hx hb dX7_markCandidates_10 rfl (lv_at hl 1 rfl) ?_
    refine va_get (D := D) (ci := 7) (v := .ref ((ca 12))) (C := RX7) (T := TX7) (N := 11) hx hb hts iX7 hown hK.1 hP 0 rfl rfl 9 (by decide) (hts _ q_82) (fun _ h9 => h9) rfl dX7_markCandidates_11 ?_
    refine lv_iload_n hx hb dX7_markCandidates_14 rfl (lv_at hl 0 rfl) ?_
    refine w_joinX (P := fun b9 => b9 = bI (¬ σ 8 k9 = 0 ∧ σ 10 k9 = name ∧ rcP σ t k9)) (L := fun ls => lv_has ls 6 [(3, .int (nI k9)), (0, .ref ((ca 0))), (1, .int (nI t)), (2, .int name)]) 62 (rest := [.int (nI k9), .ref ((ca 12))]) (fun b3 ls e_b3 hl => ?_) (fun J2 => ?_)
    · -- behind the meeting at 62
      subst e_b3
      refine zast_n hx hb hK.1 hP hD hS 12 2 rfl rfl (k9) rfl (by omega) (by decide) bI_b dX7_markCandidates_62 (fun H locs hP hD hS => ?_)
      have hP : va_P D vwCl (cF G ca bg (enF ea k) σ (st x 3 (upd (ccF σ t name (x 3) k9) (k9) (bI (¬ σ 8 k9 = 0 ∧ σ 10 k9 = name ∧ rcP σ t k9)))) ++ pl) H := hP
      have hD : va_D A (cF G ca bg (enF ea k) σ (st x 3 (upd (ccF σ t name (x 3) k9) (k9) (bI (¬ σ 8 k9 = 0 ∧ σ 10 k9 = name ∧ rcP σ t k9)))) ++ pl) := hD
      refine lv_iinc (v := nI (k9 + 1)) (lv' := [(3, .int (nI (k9 + 1))), (0, .ref ((ca 0))), (1, .int (nI t)), (2, .int name)]) hx hb dX7_markCandidates_63 hl (k := 0) rfl (nI_1 _) (by decide) rfl (fun ls hl => ?_)
      refine lv_goto (tgt := 2) hx hb dX7_markCandidates_66 (by decide) ?_
      exact ih2 _ _ _ (by omega) ⟨lv_sub hl [0, 1, 2, 3] rfl, hP, hD, hS⟩
    · -- up to the meeting at 62
      refine lv_aload_n hx hb dX7_markCandidates_15 rfl (lv_at hl 1 rfl) ?_
      refine va_get (D := D) (ci := 7) (v := .ref ((ca 6))) (C := RX7) (T := TX7) (N := 11) hx hb hts iX7 hown hK.1 hP 0 rfl rfl 1 (by decide) (hts _ q_74) (fun _ h9 => h9) rfl dX7_markCandidates_16 ?_
      refine lv_iload_n hx hb dX7_markCandidates_19 rfl (lv_at hl 0 rfl) ?_
      have hPf : va_P D vwCl (cF G ca bg (enF ea k) σ (st x 3 (ccF σ t name (x 3) k9))) _ := cF_of hP
      have hEf : ∀ e, e < k → va_P D vwCl (eW G (ea e) σ κ e) _ := plE_P hP hE
      refine aald_e hx hb hK.1 hP 6 rfl (k9) rfl (by omega) (by omega) dX7_markCandidates_20 ?_
      refine lv_astore (lv' := [(5, .ref ((ea k9 0))), (3, .int (nI k9)), (0, .ref ((ca 0))), (1, .int (nI t)), (2, .int name)]) hx hb dX7_markCandidates_21 hl (by decide) rfl (fun ls hl => ?_)
      refine lv_aload hx hb dX7_markCandidates_23 (lv_at hl 0 rfl) ?_
      refine inst_m hx hb hown (hts _ q_307) hK (hEf k9 (by omega)) dX7_markCandidates_25 ?_
      refine lv_if_eq (tgt := 61) hx hb dX7_markCandidates_28 (by decide) (fun c4 => ?_) (fun c4 => ?_)
      · -- 28 taken
        have c4 := bI_0 c4
        refine lv_iconst (v := 0) hx hb dX7_markCandidates_61 (by decide) ?_
        exact J2 0 _ ((bI_f (by simp only [eq_true (Decidable.of_not_not c4), not_true, not_false_iff, not_true_eq_false, not_false_eq_true, true_or, or_true, false_or, or_false, or_self, and_self, true_and, and_true, false_and, and_false, if_true, if_false])).symm) (lv_sub hl [1, 2, 3, 4] rfl)
      · -- 28 not
        have c4 := bI_1 c4
        refine lv_aload hx hb dX7_markCandidates_31 (lv_at hl 0 rfl) ?_
        have hM_k9 := eW_m (hEf k9 (by omega)) c4
        have hmi_k9 := mJ_m (hmi k9 (by omega)) c4
        have ht_k9 := hmi_k9.1.2
        have hz_k9 := hmi_k9.2.1.2
        refine va_castY (C := RX3) hx hb hown (hts _ q_307) hK.2.2.1 (va_recv hK.1 hM_k9 (ci := 4) (q0 := 0) rfl rfl) dX7_markCandidates_33 ?_
        refine lv_astore (lv' := [(4, .ref ((ea k9 0))), (5, .ref ((ea k9 0))), (3, .int (nI k9)), (0, .ref ((ca 0))), (1, .int (nI t)), (2, .int name)]) hx hb dX7_markCandidates_36 hl (by decide) rfl (fun ls hl => ?_)
        refine lv_aload hx hb dX7_markCandidates_38 (lv_at hl 0 rfl) ?_
        refine va_get (D := D) (ci := 4) (v := .int (σ 10 k9)) (C := RX3) (T := TX3) (N := 9) hx hb hts iX3 hown hK.1 hM_k9 0 rfl rfl 1 (by decide) (hts _ q_226) (fun x9 h9 => u_same (hts _ q_224) x9 h9) rfl dX7_markCandidates_40 ?_
        refine lv_iload_n hx hb dX7_markCandidates_43 rfl (lv_at hl 5 rfl) ?_
        refine lv_icmp_ne (tgt := 61) hx hb dX7_markCandidates_44 (by decide) (fun c5 => ?_) (fun c5 => ?_)
        · -- 44 taken
          refine lv_iconst (v := 0) hx hb dX7_markCandidates_61 (by decide) ?_
          exact J2 0 _ ((bI_f (by simp only [eq_false c4, eq_false c5, not_true, not_false_iff, not_true_eq_false, not_false_eq_true, true_or, or_true, false_or, or_false, or_self, and_self, true_and, and_true, false_and, and_false, if_true, if_false])).symm) (lv_sub hl [2, 3, 4, 5] rfl)
        · -- 44 not
          refine lv_aload_n hx hb dX7_markCandidates_47 rfl (lv_at hl 3 rfl) ?_
          refine lv_iload_n hx hb dX7_markCandidates_48 rfl (lv_at hl 4 rfl) ?_
          refine lv_aload hx hb dX7_markCandidates_49 (lv_at hl 0 rfl) ?_
          refine ro_Vi (D := D) (G := G) (As := [.int (nI t), .ref ((ea k9 0))]) (rest := [.int (nI k9), .ref ((ca 12))]) ⟨hx, hb, hml, hown, hts⟩ (c_isReachedFrom l D G _ ca _ ea n k w0 σ (st x 3 (ccF σ t name (x 3) k9)) κ hPf hEf hI0 (t) (by omega) (ea k9) k9 _ hM_k9 hmi_k9) gV_X7_X7_isReachedFrom hdV_X7_isReachedFrom ⟨Nat.le_of_ble_eq_true rfl, Nat.le_of_ble_eq_true rfl⟩ hK (va_recv hK.1 hP (ci := 7) (q0 := 0) rfl rfl) rfl hl.1 rfl (Nat.le_of_ble_eq_true rfl) dX7_markCandidates_51 ⟨Nat.le_of_ble_eq_true rfl, Nat.le_of_ble_eq_true rfl⟩ (fun r6 e_r6 => ?_)
          subst e_r6
          refine W.eq (g2 := F0 m 54 ls [.int (bI (rcP σ t k9)), .int (nI k9), .ref ((ca 12))]) rfl ?_
          refine lv_if_eq (tgt := 61) hx hb dX7_markCandidates_54 (by decide) (fun c7 => ?_) (fun c7 => ?_)
          · -- 54 taken
            have c7 := bI_0 c7
            refine lv_iconst (v := 0) hx hb dX7_markCandidates_61 (by decide) ?_
            exact J2 0 _ ((bI_f (by simp only [eq_false c4, eq_true c5, eq_false c7, not_true, not_false_iff, not_true_eq_false, not_false_eq_true, true_or, or_true, false_or, or_false, or_self, and_self, true_and, and_true, false_and, and_false, if_true, if_false])).symm) (lv_sub hl [2, 3, 4, 5] rfl)
          · -- 54 not
            have c7 := bI_1 c7
            refine lv_iconst (v := 1) hx hb dX7_markCandidates_57 (by decide) ?_
            refine lv_goto (tgt := 62) hx hb dX7_markCandidates_58 (by decide) ?_
            exact J2 1 _ ((bI_t (by simp only [eq_false c4, eq_true c5, eq_true c7, not_true, not_false_iff, not_true_eq_false, not_false_eq_true, true_or, or_true, false_or, or_false, or_self, and_self, true_and, and_true, false_and, and_false, if_true, if_false])).symm) (lv_sub hl [2, 3, 4, 5] rfl)
set_option maxHeartbeats 800000 in
set_option maxRecDepth 100000 in
theorem c_markFitting (l : Launch) (D : va_G) (G : Nat → ClassId) (ca : Nat → Nat) (bg : Value) (ea : Nat → Nat → Nat) (n k w0 : Nat) (σ x : MS) (κ : Nat → Int64) (pl : va_W) (sz : Nat) (hE : plE G ea σ κ k pl) (hI : cI σ x n k w0) (v : Int32) : Met l yX7_markFitting (ww yX7_markFitting cX7_markFitting 6 (some .boolean)) (rmC 4 0 0) (cmP D G sz (cF G ca bg (enF ea k) σ x ++ pl) [.ref ((ca 0)), .int v]) (cmQi D (va_A (cF G ca bg (enF ea k) σ x ++ pl) sz) (bI (fgA σ (x 3) w0 v k k)) (fun z8 => z8 = cF G ca bg (enF ea k) σ (st x 4 (fgF σ (x 3) w0 v k (x 4) k)) ++ pl)) 0 0 (va_A (cF G ca bg (enF ea k) σ x ++ pl) sz) := by
  refine Met.ofW (cc := cX7_markFitting) (maxL := 6) (ret := (some .boolean)) (by decide) rfl ?_
  intro p e s m args below meth c s₁ B hml hv
  obtain ⟨rfl, hsz, hP, hK, hD0⟩ := hv
  have hx := B.exec
  have hb := B.bytes
  have hr := B.returns
  have hts : ∀ w ∈ TT, w.before _ s = true := fun w h => atoms_spec (ws := ww yX7_markFitting cX7_markFitting 6 (some .boolean)) B.pre w (List.mem_cons_of_mem _ h)
  have hown : s.vm.findClass RX7 = some m.cls := findClass_of_methodNamed B.named
  have hlocks := B.notSynchronized
  subst hsz
  have hD : va_D (va_A (cF G ca bg (enF ea k) σ x ++ pl) s.heap.size) (cF G ca bg (enF ea k) σ x ++ pl) := hD0.self
  generalize hAe : va_A (cF G ca bg (enF ea k) σ x ++ pl) s.heap.size = A at hD ⊢
  have hA : ∀ q : Nat, s.heap.size ≤ q → A q := fun q h => by rw [← hAe]; exact Or.inr h
  have hS : va_S A s.heap s.heap [] := va_S.rf
  have hP : va_P D vwCl (cF G ca bg (enF ea k) σ x ++ pl) s.heap := hP
  have hI0 := hI
  obtain ⟨h1, hn, h7, hk60, h22, hw, hab, hfa, hmi, hak, hrf⟩ := hI
  have hl := lv_entry ([.ref ((ca 0)), .int v]) (n := 6) (Nat.le_of_ble_eq_true rfl)
  rw [lg_entry_eq]
  generalize (lg_sl ([.ref ((ca 0)), .int v]) ++ List.replicate (6 - (lg_sl ([.ref ((ca 0)), .int v])).length) Slot.unset).toArray = ls at hl ⊢
  have hl : lv_has ls 6 [(0, .ref ((ca 0))), (1, .int v)] := hl
  refine lv_iconst (v := 0) hx hb dX7_markFitting_0 (by decide) ?_
  refine lv_istore_n (lv' := [(2, .int 0), (0, .ref ((ca 0))), (1, .int v)]) hx hb dX7_markFitting_1 rfl hl (by decide) rfl (fun ls hl => ?_)
  refine lv_iconst (v := 0) hx hb dX7_markFitting_2 (by decide) ?_
  refine lv_istore_n (lv' := [(3, .int 0), (2, .int 0), (0, .ref ((ca 0))), (1, .int v)]) hx hb dX7_markFitting_3 rfl hl (by decide) rfl (fun ls hl => ?_)
  refine w_forM (N := k) 4 (L := fun q9 ls H locs => lv_has ls 6 [(3, .int (nI q9)), (2, .int (bI (fgA σ (x 3) w0 v k q9))), (0, .ref ((ca 0))), (1, .int v)] ∧ va_P D vwCl (cF G ca bg (enF ea k) σ (st x 4 (fgF σ (x 3) w0 v k (x 4) q9)) ++ pl) H ∧ va_D A (cF G ca bg (enF ea k) σ (st x 4 (fgF σ (x 3) w0 v k (x 4) q9)) ++ pl) ∧ va_S A s.heap H locs) (fun k9 ls H locs hk hL ih4 => ?_) 0 ls _ _ (by omega) ⟨(by rw [← fgA_0]; exact hl), hP, hD, hS⟩
  obtain ⟨hl, hP, hD, hS⟩ := hL
  have hl : lv_has ls 6 [(3, .int (nI k9)), (2, .int (bI (fgA σ (x 3) w0 v k k9))), (0, .ref ((ca 0))), (1, .int v)] := hl
  refine lv_iload_n hx hb dX7_markFitting_4 rfl (lv_at hl 0 rfl) ?_
  refine lv_aload_n hx hb dX7_markFitting_5 rfl (lv_at hl 2 rfl) ?_
  refine va_get (D := D) (ci := 7) (v := .int (σ 7 0)) (C := RX7) (T := TX7) (N := 11) hx hb hts iX7 hown hK.1 hP 0 rfl rfl 2 (by decide) (hts _ q_75) (fun _ h9 => h9) rfl dX7_markFitting_6 ?_
  refine lv_icmp_ge (tgt := 99) hx hb dX7_markFitting_9 (by decide) (fun c1 => ?_) (fun c1 => ?_)
  · -- 9 taken
    have c1 : k ≤ k9 := (nI_leI (a := k) (b := k9) (by omega) (by omega)).mp (by have h8 := c1; rw [h7] at h8; exact h8)
    obtain rfl : k = k9 := by omega
    have hP : va_P D vwCl (cF G ca bg (enF ea k) σ (st x 4 (fgF σ (x 3) w0 v k (x 4) k)) ++ pl) H := hP
    have hD : va_D A (cF G ca bg (enF ea k) σ (st x 4 (fgF σ (x 3) w0 v k (x 4) k)) ++ pl) := hD
    refine lv_iload_n hx hb dX7_markFitting_99 rfl (lv_at hl 1 rfl) ?_
    exact cm_zret (v0 := bI (fgA σ (x 3) w0 v k k)) hx hb hr hlocks hP hD hS dX7_markFitting_100 bI_b (rfl) (rfl)
  · -- 9 not
    have c1 : ¬ k ≤ k9 := fun h9 => c1 (by rw [h7]; exact (nI_leI (a := k) (b := k9) (by omega) (by omega)).mpr h9)
    refine lv_aload_n hx hb dX7_markFitting_12 rfl (lv_at hl 2 rfl) ?_
    refine va_get (D := D) (ci := 7) (v := .ref ((ca 13))) (C := RX7) (T := TX7) (N := 11) hx hb hts iX7 hown hK.1 hP 0 rfl rfl 10 (by decide) (hts _ q_83) (fun _ h9 => h9) rfl dX7_markFitting_13 ?_
    refine lv_iload_n hx hb dX7_markFitting_16 rfl (lv_at hl 0 rfl) ?_
    refine w_joinX (P := fun b9 => b9 = bI (fgP σ (x 3) w0 v k k9)) (L := fun ls => lv_has ls 6 [(3, .int (nI k9)), (2, .int (bI (fgA σ (x 3) w0 v k k9))), (0, .ref ((ca 0))), (1, .int v)]) 73 (rest := [.int (nI k9), .ref ((ca 13))]) (fun b3 ls e_b3 hl => ?_) (fun J2 => ?_)
    · -- behind the meeting at 73
      subst e_b3
      refine zast_n hx hb hK.1 hP hD hS 13 2 rfl rfl (k9) rfl (by omega) (by decide) bI_b dX7_markFitting_73 (fun H locs hP hD hS => ?_)
      have hP : va_P D vwCl (cF G ca bg (enF ea k) σ (st x 4 (upd (fgF σ (x 3) w0 v k (x 4) k9) (k9) (bI (fgP σ (x 3) w0 v k k9)))) ++ pl) H := hP
      have hD : va_D A (cF G ca bg (enF ea k) σ (st x 4 (upd (fgF σ (x 3) w0 v k (x 4) k9) (k9) (bI (fgP σ (x 3) w0 v k k9)))) ++ pl) := hD
      refine w_join (P := fun b9 => b9 = bI (fgA σ (x 3) w0 v k k9 ∨ fgP σ (x 3) w0 v k k9)) 92 (ls := ls) (rest := []) (fun b5 e_b5 => ?_) (fun J4 => ?_)
      · -- behind the meeting at 92
        subst e_b5
        refine lv_istore_n (lv' := [(2, .int (bI (fgA σ (x 3) w0 v k k9 ∨ fgP σ (x 3) w0 v k k9))), (3, .int (nI k9)), (0, .ref ((ca 0))), (1, .int v)]) hx hb dX7_markFitting_92 rfl hl (by decide) rfl (fun ls hl => ?_)
        refine lv_iinc (v := nI (k9 + 1)) (lv' := [(3, .int (nI (k9 + 1))), (2, .int (bI (fgA σ (x 3) w0 v k k9 ∨ fgP σ (x 3) w0 v k k9))), (0, .ref ((ca 0))), (1, .int v)]) hx hb dX7_markFitting_93 hl (k := 1) rfl (nI_1 _) (by decide) rfl (fun ls hl => ?_)
        refine lv_goto (tgt := 4) hx hb dX7_markFitting_96 (by decide) ?_
        rw [fgA_s] at hl
        exact ih4 _ _ _ (by omega) ⟨lv_sub hl [0, 1, 2, 3] rfl, hP, hD, hS⟩
      · -- up to the meeting at 92
        refine lv_iload_n hx hb dX7_markFitting_74 rfl (lv_at hl 1 rfl) ?_
        refine lv_if_ne (tgt := 87) hx hb dX7_markFitting_75 (by decide) (fun c6 => ?_) (fun c6 => ?_)
        · -- 75 taken
          have c6 := bI_1 c6
          refine lv_iconst (v := 1) hx hb dX7_markFitting_87 (by decide) ?_
          refine lv_goto (tgt := 92) hx hb dX7_markFitting_88 (by decide) ?_
          exact J4 1 ((bI_t (by simp only [eq_true c6, not_true, not_false_iff, not_true_eq_false, not_false_eq_true, true_or, or_true, false_or, or_false, or_self, and_self, true_and, and_true, false_and, and_false, if_true, if_false])).symm)
        · -- 75 not
          have c6 := bI_0 c6
          refine lv_aload_n hx hb dX7_markFitting_78 rfl (lv_at hl 2 rfl) ?_
          refine va_get (D := D) (ci := 7) (v := .ref ((ca 13))) (C := RX7) (T := TX7) (N := 11) hx hb hts iX7 hown hK.1 hP 0 rfl rfl 10 (by decide) (hts _ q_83) (fun _ h9 => h9) rfl dX7_markFitting_79 ?_
          refine lv_iload_n hx hb dX7_markFitting_82 rfl (lv_at hl 0 rfl) ?_
          refine zald_n (f := upd (fgF σ (x 3) w0 v k (x 4) k9) (k9) (bI (fgP σ (x 3) w0 v k k9))) hx hb hK.1 hP 13 2 rfl rfl (k9) rfl (by omega) (by decide) dX7_markFitting_83 ?_
          refine W.eq (g2 := F0 m 84 ls [.int (bI (fgP σ (x 3) w0 v k k9))]) (congrArg (fun z9 => F0 m 84 ls [.int z9]) pk_us) ?_
          refine lv_if_eq (tgt := 91) hx hb dX7_markFitting_84 (by decide) (fun c7 => ?_) (fun c7 => ?_)
          · -- 84 taken
            have c7 := bI_0 c7
            refine lv_iconst (v := 0) hx hb dX7_markFitting_91 (by decide) ?_
            exact J4 0 ((bI_f (by simp only [eq_false c6, eq_false c7, not_true, not_false_iff, not_true_eq_false, not_false_eq_true, true_or, or_true, false_or, or_false, or_self, and_self, true_and, and_true, false_and, and_false, if_true, if_false])).symm)
          · -- 84 not
            have c7 := bI_1 c7
            refine lv_iconst (v := 1) hx hb dX7_markFitting_87 (by decide) ?_
            refine lv_goto (tgt := 92) hx hb dX7_markFitting_88 (by decide) ?_
            exact J4 1 ((bI_t (by simp only [eq_false c6, eq_true c7, not_true, not_false_iff, not_true_eq_false, not_false_eq_true, true_or, or_true, false_or, or_false, or_self, and_self, true_and, and_true, false_and, and_false, if_true, if_false])).symm)
    · -- up to the meeting at 73
      refine lv_aload_n hx hb dX7_markFitting_17 rfl (lv_at hl 2 rfl) ?_
      refine va_get (D := D) (ci := 7) (v := .ref ((ca 12))) (C := RX7) (T := TX7) (N := 11) hx hb hts iX7 hown hK.1 hP 0 rfl rfl 9 (by decide) (hts _ q_82) (fun _ h9 => h9) rfl dX7_markFitting_18 ?_
      refine lv_iload_n hx hb dX7_markFitting_21 rfl (lv_at hl 0 rfl) ?_
      refine zald_n (f := x 3) hx hb hK.1 hP 12 2 rfl rfl (k9) rfl (by omega) (by decide) dX7_markFitting_22 ?_
      refine lv_if_eq (tgt := 72) hx hb dX7_markFitting_23 (by decide) (fun c8 => ?_) (fun c8 => ?_)
      · -- 23 taken
        refine lv_iconst (v := 0) hx hb dX7_markFitting_72 (by decide) ?_
        exact J2 0 _ ((bI_f (by simp only [fgP, eq_true c8, not_true, not_false_iff, not_true_eq_false, not_false_eq_true, true_or, or_true, false_or, or_false, or_self, and_self, true_and, and_true, false_and, and_false, if_true, if_false])).symm) (lv_sub hl [0, 1, 2, 3] rfl)
      · -- 23 not
        refine lv_aload_n hx hb dX7_markFitting_26 rfl (lv_at hl 2 rfl) ?_
        refine va_get (D := D) (ci := 7) (v := .ref ((ca 6))) (C := RX7) (T := TX7) (N := 11) hx hb hts iX7 hown hK.1 hP 0 rfl rfl 1 (by decide) (hts _ q_74) (fun _ h9 => h9) rfl dX7_markFitting_27 ?_
        refine lv_iload_n hx hb dX7_markFitting_30 rfl (lv_at hl 0 rfl) ?_
        have hPf : va_P D vwCl (cF G ca bg (enF ea k) σ (st x 4 (fgF σ (x 3) w0 v k (x 4) k9))) _ := cF_of hP
        have hEf : ∀ e, e < k → va_P D vwCl (eW G (ea e) σ κ e) _ := plE_P hP hE
        refine aald_e hx hb hK.1 hP 6 rfl (k9) rfl (by omega) (by omega) dX7_markFitting_31 ?_
        refine lv_astore (lv' := [(5, .ref ((ea k9 0))), (3, .int (nI k9)), (2, .int (bI (fgA σ (x 3) w0 v k k9))), (0, .ref ((ca 0))), (1, .int v)]) hx hb dX7_markFitting_32 hl (by decide) rfl (fun ls hl => ?_)
        refine lv_aload hx hb dX7_markFitting_34 (lv_at hl 0 rfl) ?_
        refine inst_m hx hb hown (hts _ q_307) hK (hEf k9 (by omega)) dX7_markFitting_36 ?_
        refine lv_if_eq (tgt := 72) hx hb dX7_markFitting_39 (by decide) (fun c9 => ?_) (fun c9 => ?_)
        · -- 39 taken
          have c9 := bI_0 c9
          refine lv_iconst (v := 0) hx hb dX7_markFitting_72 (by decide) ?_
          exact J2 0 _ ((bI_f (by simp only [fgP, eq_false c8, eq_true (Decidable.of_not_not c9), not_true, not_false_iff, not_true_eq_false, not_false_eq_true, true_or, or_true, false_or, or_false, or_self, and_self, true_and, and_true, false_and, and_false, if_true, if_false])).symm) (lv_sub hl [1, 2, 3, 4] rfl)
        · -- 39 not
          have c9 := bI_1 c9
          refine lv_aload hx hb dX7_markFitting_42 (lv_at hl 0 rfl) ?_
          have hM_k9 := eW_m (hEf k9 (by omega)) c9
          have hmi_k9 := mJ_m (hmi k9 (by omega)) c9
          have ht_k9 := hmi_k9.1.2
          have hz_k9 := hmi_k9.2.1.2
          refine va_castY (C := RX3) hx hb hown (hts _ q_307) hK.2.2.1 (va_recv hK.1 hM_k9 (ci := 4) (q0 := 0) rfl rfl) dX7_markFitting_44 ?_
          refine lv_astore (lv' := [(4, .ref ((ea k9 0))), (5, .ref ((ea k9 0))), (3, .int (nI k9)), (2, .int (bI (fgA σ (x 3) w0 v k k9))), (0, .ref ((ca 0))), (1, .int v)]) hx hb dX7_markFitting_47 hl (by decide) rfl (fun ls hl => ?_)
          refine lv_aload_n hx hb dX7_markFitting_49 rfl (lv_at hl 4 rfl) ?_
          refine lv_aload hx hb dX7_markFitting_50 (lv_at hl 0 rfl) ?_
          refine lv_iload_n hx hb dX7_markFitting_52 rfl (lv_at hl 5 rfl) ?_
          refine ro_Vi (D := D) (G := G) (As := [.ref ((ea k9 0)), .int v]) (rest := [.int (nI k9), .ref ((ca 13))]) ⟨hx, hb, hml, hown, hts⟩ (c_takesArguments l D G _ ca _ ea n k w0 σ (st x 4 (fgF σ (x 3) w0 v k (x 4) k9)) κ hPf hEf hI0 (ea k9) k9 _ hM_k9 hmi_k9 v) gV_X7_X7_takesArguments hdV_X7_takesArguments ⟨Nat.le_of_ble_eq_true rfl, Nat.le_of_ble_eq_true rfl⟩ hK (va_recv hK.1 hP (ci := 7) (q0 := 0) rfl rfl) rfl hl.1 rfl (Nat.le_of_ble_eq_true rfl) dX7_markFitting_53 ⟨Nat.le_of_ble_eq_true rfl, Nat.le_of_ble_eq_true rfl⟩ (fun r10 e_r10 => ?_)
          subst e_r10
          refine W.eq (g2 := F0 m 56 ls [.int (bI (tkN σ w0 k9 v w0)), .int (nI k9), .ref ((ca 13))]) rfl ?_
          refine lv_if_eq (tgt := 72) hx hb dX7_markFitting_56 (by decide) (fun c11 => ?_) (fun c11 => ?_)
          · -- 56 taken
            have c11 := bI_0 c11
            refine lv_iconst (v := 0) hx hb dX7_markFitting_72 (by decide) ?_
            exact J2 0 _ ((bI_f (by simp only [fgP, eq_false c8, eq_false c9, eq_false c11, not_true, not_false_iff, not_true_eq_false, not_false_eq_true, true_or, or_true, false_or, or_false, or_self, and_self, true_and, and_true, false_and, and_false, if_true, if_false])).symm) (lv_sub hl [2, 3, 4, 5] rfl)
          · -- 56 not
            have c11 := bI_1 c11
            refine lv_aload_n hx hb dX7_markFitting_59 rfl (lv_at hl 4 rfl) ?_
            refine lv_aload hx hb dX7_markFitting_60 (lv_at hl 0 rfl) ?_
            refine ro_Vi (D := D) (G := G) (As := [.ref ((ea k9 0))]) (rest := [.int (nI k9), .ref ((ca 13))]) ⟨hx, hb, hml, hown, hts⟩ (c_isStoodFor l D G _ ca _ ea n k w0 σ (st x 4 (fgF σ (x 3) w0 v k (x 4) k9)) κ hPf hEf hI0 (ea k9) k9 _ hM_k9 hmi_k9) gV_X7_X7_isStoodFor hdV_X7_isStoodFor ⟨Nat.le_of_ble_eq_true rfl, Nat.le_of_ble_eq_true rfl⟩ hK (va_recv hK.1 hP (ci := 7) (q0 := 0) rfl rfl) rfl hl.1 rfl (Nat.le_of_ble_eq_true rfl) dX7_markFitting_62 ⟨Nat.le_of_ble_eq_true rfl, Nat.le_of_ble_eq_true rfl⟩ (fun r12 e_r12 => ?_)
            subst e_r12
            refine W.eq (g2 := F0 m 65 ls [.int (bI (sfP σ (x 3) k9 k)), .int (nI k9), .ref ((ca 13))]) rfl ?_
            refine lv_if_ne (tgt := 72) hx hb dX7_markFitting_65 (by decide) (fun c13 => ?_) (fun c13 => ?_)
            · -- 65 taken
              have c13 := bI_1 c13
              refine lv_iconst (v := 0) hx hb dX7_markFitting_72 (by decide) ?_
              exact J2 0 _ ((bI_f (by simp only [fgP, eq_false c8, eq_false c9, eq_true c11, eq_true c13, not_true, not_false_iff, not_true_eq_false, not_false_eq_true, true_or, or_true, false_or, or_false, or_self, and_self, true_and, and_true, false_and, and_false, if_true, if_false])).symm) (lv_sub hl [2, 3, 4, 5] rfl)
            · -- 65 not
              have c13 := bI_0 c13
              refine lv_iconst (v := 1) hx hb dX7_markFitting_68 (by decide) ?_
              refine lv_goto (tgt := 73) hx hb dX7_markFitting_69 (by decide) ?_
              exact J2 1 _ ((bI_t (by simp only [fgP, eq_false c8, eq_false c9, eq_true c11, eq_false c13, not_true, not_false_iff, not_true_eq_false, not_false_eq_true, true_or, or_true, false_or, or_false, or_self, and_self, true_and, and_true, false_and, and_false, if_true, if_false])).symm) (lv_sub hl [2, 3, 4, 5] rfl)
