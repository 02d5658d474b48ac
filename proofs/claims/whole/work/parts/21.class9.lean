theorem arg_iff {kind d : Int32} : argP kind d ↔ ¬ (kind < 1 ∨ ¬ (0 ≤ d ∧ d ≤ 3) ∨ (kind = 9 ∧ ¬ d ≤ 0)) := by
  rw [argP_def]; simp only [i_le, i_lt, i_eq, Int32.reduceToInt]; omega
theorem dec_iff {kind d : Int32} : decP kind d ↔ ¬ (kind < 0 ∨ kind = 9 ∨ ¬ (0 ≤ d ∧ d ≤ 3) ∨ (kind = 0 ∧ ¬ d ≤ 0)) := by
  rw [decP_def]; simp only [i_le, i_lt, i_eq, Int32.reduceToInt]; omega
theorem mbp {f : Nat → Int32} {n : Nat} {p : Int32} (hs : ∀ t, t < n → 0 ≤ f t) (hn : n ≤ 12) : (soF f n p = 0 ∨ soF f n p = 1) ↔ ¬ (¬ okN n p ∨ ¬ f p.toNatClampNeg ≤ 1) := by
  unfold soF
  by_cases h : okN n p
  · rw [if_pos h]
    obtain ⟨j, hj, rfl⟩ := okN_ex (by omega) h
    have h0 := hs j hj
    rw [nI_clamp (by omega)]
    have hq : (¬ (¬ okN n (nI j) ∨ ¬ f j ≤ 1)) ↔ f j ≤ 1 := ⟨fun q => Decidable.of_not_not (fun r => q (Or.inr r)), fun q r => r.elim (fun z => z h) (fun z => z q)⟩
    rw [hq]
    simp only [i_le, i_eq, Int32.reduceToInt] at h0 ⊢; omega
  · rw [if_neg h]
    exact ⟨fun q => absurd q (by decide), fun q => absurd (Or.inl h) q⟩
def xTy (σ x : MS) (τ : Nat → Int64) (n : Nat) (sort parent : Int32) : MS := if 0 ≤ (oType σ τ n sort parent).1 then su (su x 0 n 0) 1 n (abvF parent 0 (x 1) n n) else x
/-- a face, as the class adds it: the answer and the masks -/
def cfa (σ x : MS) (n k : Nat) (t f : Int32) : Int32 × MS :=
  if ¬ okN n t ∨ ¬ soF (σ 2) n f = 3 then (-11, x) else if ¬ f < t then (-13, x) else if bitN (x 0) n t f ∨ 0 < σ 7 0 ∨ ¬ σ 21 0 = 0 then (-14, x)
  else if ¬ bcF (x 0 t.toNatClampNeg) < 3 then (-15, x)
  else (bcF (x 0 t.toNatClampNeg ||| 1 <<< (f &&& 31)), st (su x 0 t.toNatClampNeg (x 0 t.toNatClampNeg ||| 1 <<< (f &&& 31))) 1 (reA (σ 3) (upd (x 0) t.toNatClampNeg (x 0 t.toNatClampNeg ||| 1 <<< (f &&& 31))) (x 1) t.toNatClampNeg (n - t.toNatClampNeg)))
def cso (σ x : MS) (n k : Nat) (t name : Int32) : Int32 × MS :=
  if ¬ okN n t then (-11, x) else if ¬ (0 ≤ name ∧ name ≤ 49) then (-13, x)
  else (cfV σ k name (x 0 t.toNatClampNeg) (skC σ k name (x 0) (x 2) t.toNatClampNeg) t.toNatClampNeg, st x 2 (skC σ k name (x 0) (x 2) t.toNatClampNeg))
/-- a call, as the class does it: the answer, the way, the masks -/
def ccl (σ x : MS) (n k w : Nat) (t name : Int32) : Int32 × MS × MS :=
  if ¬ okN n t then (-11, σ, x) else if ¬ (0 ≤ name ∧ name ≤ 49) then (-13, σ, x)
  else (ccA σ x k w t.toNatClampNeg name, su (su σ 25 0 (ccY σ x k w t.toNatClampNeg name)) 22 0 0,
    if fgA σ (ccF σ t.toNatClampNeg name (x 3) k) w 0 k k then st (st x 3 (ccF σ t.toNatClampNeg name (x 3) k)) 4 (fgF σ (ccF σ t.toNatClampNeg name (x 3) k) w 0 k (x 4) k)
    else st (st x 3 (ccF σ t.toNatClampNeg name (x 3) k)) 4 (fgF σ (ccF σ t.toNatClampNeg name (x 3) k) w 1 k (fgF σ (ccF σ t.toNatClampNeg name (x 3) k) w 0 k (x 4) k) k))
/-- what stands in a place of the found ones is a field -/
abbrev ffO (σ : MS) (K : Nat) (T : Nat → Int32) (n : Nat) : Prop := ∀ i, i < n → okN K (T i) → σ 8 (T i).toNatClampNeg = 0
theorem fld_ok {σ : MS} {t name : Int32} {K : Nat} (hK : K ≤ 60) : ∀ (f i : Nat), i + f ≤ K → okN K (fnd (fldP σ t name) f i) → σ 8 (fnd (fldP σ t name) f i).toNatClampNeg = 0
  | 0, _, _, h => absurd (show (0 : Int32) ≤ -1 from (okN_def.mp h).1) (by decide)
  | f + 1, i, hi, h => by
    unfold fnd at h ⊢
    by_cases q : fldP σ t name i
    · rw [if_pos q, nI_clamp (by omega)]; exact q.1
    · rw [if_neg q] at h ⊢; exact fld_ok hK f (i + 1) (by omega) h
theorem both_f {σ : MS} {K : Nat} {a b : Int32} (ha : okN K a → σ 8 a.toNatClampNeg = 0) (hb : okN K b → σ 8 b.toNatClampNeg = 0) : okN K (bothF a b) → σ 8 (bothF a b).toNatClampNeg = 0 := by
  unfold bothF; repeat' split
  · exact hb
  · exact ha
  · intro h; have := okN_def.mp h; exact absurd this.1 (by decide)
theorem cpV_f {σ : MS} {K : Nat} {T : Nat → Int32} {p : Int32} (h : ∀ i, i < 12 → p = nI i → okN K (T i) → σ 8 (T i).toNatClampNeg = 0) : okN K (cpV σ K T p) → σ 8 (cpV σ K T p).toNatClampNeg = 0 := by
  unfold cpV; repeat' split
  · intro q; have := okN_def.mp q; exact absurd this.1 (by decide)
  · intro q; have := okN_def.mp q; exact absurd this.1 (by decide)
  · rename_i h1 h2
    obtain ⟨h3, h4⟩ := not_or.mp h1
    obtain ⟨j, hj, e⟩ := okN_ex (n := 12) (by decide) (lt12 h3 (Decidable.of_not_not h4))
    rw [e, nI_clamp (by omega)]
    exact h j hj e
theorem cbF_f {σ : MS} {K : Nat} {m : Int32} {T : Nat → Int32} {a : Int32} (ha : okN K a → σ 8 a.toNatClampNeg = 0) : ∀ t, ffO σ K T t → okN K (cbF m T a t) → σ 8 (cbF m T a t).toNatClampNeg = 0
  | 0, _ => ha
  | t + 1, h => by
    show okN K (if bitP m t then bothF (cbF m T a t) (T t) else cbF m T a t) → _
    have ih := cbF_f (m := m) ha t (fun i hi => h i (by omega))
    show okN K (if bitP m t then bothF (cbF m T a t) (T t) else cbF m T a t) → σ 8 (if bitP m t then bothF (cbF m T a t) (T t) else cbF m T a t).toNatClampNeg = 0
    split
    · exact both_f ih (h t (by omega))
    · exact ih
theorem cfV_f {σ : MS} {K : Nat} {name m : Int32} {T : Nat → Int32} {t : Nat} (hK : K ≤ 60) (hT : ffO σ K T t) (hp : ∀ i, i < 12 → σ 3 t = nI i → i < t) : okN K (cfV σ K name m T t) → σ 8 (cfV σ K name m T t).toNatClampNeg = 0 := by
  unfold cfV; split
  · exact fld_ok hK K 0 (by omega)
  · exact cbF_f (cpV_f (fun i hi e => hT i (hp i hi e))) t hT
theorem skC_f {σ : MS} {K : Nat} {name : Int32} {fm f : Nat → Int32} (hK : K ≤ 60) : ∀ t, (∀ s, s < t → ∀ i, i < 12 → σ 3 s = nI i → i < s) → ffO σ K (skC σ K name fm f t) t
  | 0, _ => fun i hi => absurd hi (Nat.not_lt_zero i)
  | t + 1, hp => fun i hi => by
    show okN K (upd (skC σ K name fm f t) t _ i) → σ 8 (upd (skC σ K name fm f t) t _ i).toNatClampNeg = 0
    have ih := skC_f (name := name) (fm := fm) (f := f) hK t (fun s hs => hp s (by omega))
    by_cases q : i = t
    · rw [q, pk_us]; exact cfV_f hK ih (hp t (by omega))
    · rw [pk_un q]; exact ih i (by omega)

theorem dX7_argument_0 : decode cX7_argument 0 = .ok (.aload_n 0, 1) := by decide +kernel
theorem dX7_argument_1 : decode cX7_argument 1 = .ok (.iload_n 1, 1) := by decide +kernel
theorem dX7_argument_2 : decode cX7_argument 2 = .ok (.invokevirtual 165, 3) := by decide +kernel
theorem dX7_argument_5 : decode cX7_argument 5 = .ok (.ifCond .eq 6, 3) := by decide +kernel
theorem dX7_argument_11 : decode cX7_argument 11 = .ok (.iload_n 1, 1) := by decide +kernel
theorem dX7_argument_12 : decode cX7_argument 12 = .ok (.iload_n 2, 1) := by decide +kernel
theorem q_439 : Cond.methodLink "FieldMember" 234 ⟨"FieldMember", "mayBeArgument", "(II)Z"⟩ ∈ TT := tt_t (i := 439) (by decide +kernel) (by decide +kernel)
theorem q_441 : Cond.code ⟨"FieldMember", "mayBeArgument", "(II)Z"⟩ prog_1_method_27_code 2 (some .boolean) ∈ TT := tt_t (i := 441) (by decide +kernel) (by decide +kernel)
theorem q_440 : Cond.static ⟨"FieldMember", "mayBeArgument", "(II)Z"⟩ ∈ TT := tt_t (i := 440) (by decide +kernel) (by decide +kernel)
theorem gS_X7_X7_mayBeArgument : GoodIn TT (va_wsS RX7 234 yX7_mayBeArgument (ww yX7_mayBeArgument cX7_mayBeArgument 2 (some .boolean))) := tt_S q_439 q_440 q_1 q_441
theorem hdS_X7_mayBeArgument : yX7_mayBeArgument.cls ≠ "java/lang/invoke/MethodHandle" ∧ yX7_mayBeArgument.cls ≠ "java/lang/invoke/VarHandle" ∧ (parseMethodDescriptor yX7_mayBeArgument.desc).map (fun d => d.parameters.length) = some 2 := by decide +kernel
theorem dX7_argument_13 : decode cX7_argument 13 = .ok (.invokestatic 234, 3) := by decide +kernel
theorem dX7_argument_16 : decode cX7_argument 16 = .ok (.ifCond .ne 6, 3) := by decide +kernel
theorem dX7_argument_22 : decode cX7_argument 22 = .ok (.aload_n 0, 1) := by decide +kernel
theorem dX7_argument_23 : decode cX7_argument 23 = .ok (.getfield 25, 3) := by decide +kernel
theorem dX7_argument_26 : decode cX7_argument 26 = .ok (.iload_n 1, 1) := by decide +kernel
theorem dX7_argument_27 : decode cX7_argument 27 = .ok (.iload_n 2, 1) := by decide +kernel
theorem q_347 : Cond.methodLink "FieldMember" 184 ⟨"FieldMember$Row", "add", "(II)I"⟩ ∈ TT := tt_t (i := 347) (by decide +kernel) (by decide +kernel)
theorem q_350 : Cond.code ⟨"FieldMember$Row", "add", "(II)I"⟩ prog_6_method_3_code 3 (some .int) ∈ TT := tt_t (i := 350) (by decide +kernel) (by decide +kernel)
theorem q_348 : Cond.instanceMethod ⟨"FieldMember$Row", "add", "(II)I"⟩ ∈ TT := tt_t (i := 348) (by decide +kernel) (by decide +kernel)
theorem q_349 : Cond.selects "FieldMember$Row" ⟨"FieldMember$Row", "add", "(II)I"⟩ ⟨"FieldMember$Row", "add", "(II)I"⟩ ∈ TT := tt_t (i := 349) (by decide +kernel) (by decide +kernel)
theorem gV_X7_X4_add : GoodIn TT (wsV RX7 184 RX4 yX4_add (ww yX4_add cX4_add 3 (some .int))) := tt_V q_347 q_348 q_349 q_3 q_350
theorem hdV_X4_add : yX4_add.cls = RX4 ∧ yX4_add.cls ≠ "java/lang/invoke/MethodHandle" ∧ yX4_add.cls ≠ "java/lang/invoke/VarHandle" ∧ (parseMethodDescriptor yX4_add.desc).map (fun d => d.parameters.length) = some 2 := by decide +kernel
theorem dX7_argument_28 : decode cX7_argument 28 = .ok (.invokevirtual 184, 3) := by decide +kernel
theorem dX7_argument_31 : decode cX7_argument 31 = .ok (.ireturn, 1) := by decide +kernel
theorem dX7_argument_19 : decode cX7_argument 19 = .ok (.bipush (-13), 2) := by decide +kernel
theorem dX7_argument_21 : decode cX7_argument 21 = .ok (.ireturn, 1) := by decide +kernel
theorem dX7_argument_8 : decode cX7_argument 8 = .ok (.bipush (-11), 2) := by decide +kernel
theorem dX7_argument_10 : decode cX7_argument 10 = .ok (.ireturn, 1) := by decide +kernel
theorem dX7_type_0 : decode cX7_type 0 = .ok (.iload_n 1, 1) := by decide +kernel
theorem dX7_type_1 : decode cX7_type 1 = .ok (.ifCond .lt 8, 3) := by decide +kernel
theorem dX7_type_9 : decode cX7_type 9 = .ok (.bipush (-13), 2) := by decide +kernel
theorem dX7_type_11 : decode cX7_type 11 = .ok (.ireturn, 1) := by decide +kernel
theorem dX7_type_4 : decode cX7_type 4 = .ok (.iload_n 1, 1) := by decide +kernel
theorem dX7_type_5 : decode cX7_type 5 = .ok (.iconst 3, 1) := by decide +kernel
theorem dX7_type_6 : decode cX7_type 6 = .ok (.if_icmp .le 6, 3) := by decide +kernel
theorem dX7_type_12 : decode cX7_type 12 = .ok (.iload_n 2, 1) := by decide +kernel
theorem dX7_type_13 : decode cX7_type 13 = .ok (.iconst (-1), 1) := by decide +kernel
theorem dX7_type_14 : decode cX7_type 14 = .ok (.if_icmp .eq 22, 3) := by decide +kernel
theorem dX7_type_36 : decode cX7_type 36 = .ok (.aload_n 0, 1) := by decide +kernel
theorem dX7_type_37 : decode cX7_type 37 = .ok (.getfield 12, 3) := by decide +kernel
theorem dX7_type_40 : decode cX7_type 40 = .ok (.iload_n 1, 1) := by decide +kernel
theorem dX7_type_41 : decode cX7_type 41 = .ok (.iload_n 2, 1) := by decide +kernel
theorem q_124 : Cond.methodLink "FieldMember" 47 ⟨"FieldMember$Types", "add", "(II)I"⟩ ∈ TT := tt_t (i := 124) (by decide +kernel) (by decide +kernel)
theorem q_127 : Cond.code ⟨"FieldMember$Types", "add", "(II)I"⟩ prog_8_method_10_code 3 (some .int) ∈ TT := tt_t (i := 127) (by decide +kernel) (by decide +kernel)
theorem q_125 : Cond.instanceMethod ⟨"FieldMember$Types", "add", "(II)I"⟩ ∈ TT := tt_t (i := 125) (by decide +kernel) (by decide +kernel)
theorem q_126 : Cond.selects "FieldMember$Types" ⟨"FieldMember$Types", "add", "(II)I"⟩ ⟨"FieldMember$Types", "add", "(II)I"⟩ ∈ TT := tt_t (i := 126) (by decide +kernel) (by decide +kernel)
theorem gV_X7_X6_add : GoodIn TT (wsV RX7 47 RX6 yX6_add (ww yX6_add cX6_add 3 (some .int))) := tt_V q_124 q_125 q_126 q_2 q_127
theorem hdV_X6_add : yX6_add.cls = RX6 ∧ yX6_add.cls ≠ "java/lang/invoke/MethodHandle" ∧ yX6_add.cls ≠ "java/lang/invoke/VarHandle" ∧ (parseMethodDescriptor yX6_add.desc).map (fun d => d.parameters.length) = some 2 := by decide +kernel
theorem dX7_type_42 : decode cX7_type 42 = .ok (.invokevirtual 47, 3) := by decide +kernel
theorem dX7_type_45 : decode cX7_type 45 = .ok (.ireturn, 1) := by decide +kernel
theorem dX7_type_17 : decode cX7_type 17 = .ok (.iload_n 1, 1) := by decide +kernel
theorem dX7_type_18 : decode cX7_type 18 = .ok (.iconst 3, 1) := by decide +kernel
theorem dX7_type_19 : decode cX7_type 19 = .ok (.if_icmp .eq 14, 3) := by decide +kernel
theorem dX7_type_33 : decode cX7_type 33 = .ok (.bipush (-11), 2) := by decide +kernel
theorem dX7_type_35 : decode cX7_type 35 = .ok (.ireturn, 1) := by decide +kernel
theorem dX7_type_22 : decode cX7_type 22 = .ok (.aload_n 0, 1) := by decide +kernel
theorem dX7_type_23 : decode cX7_type 23 = .ok (.getfield 12, 3) := by decide +kernel
theorem dX7_type_26 : decode cX7_type 26 = .ok (.iload_n 2, 1) := by decide +kernel
theorem q_112 : Cond.methodLink "FieldMember" 43 ⟨"FieldMember$Types", "mayBeParent", "(I)Z"⟩ ∈ TT := tt_t (i := 112) (by decide +kernel) (by decide +kernel)
theorem q_115 : Cond.code ⟨"FieldMember$Types", "mayBeParent", "(I)Z"⟩ prog_8_method_6_code 2 (some .boolean) ∈ TT := tt_t (i := 115) (by decide +kernel) (by decide +kernel)
theorem q_113 : Cond.instanceMethod ⟨"FieldMember$Types", "mayBeParent", "(I)Z"⟩ ∈ TT := tt_t (i := 113) (by decide +kernel) (by decide +kernel)
theorem q_114 : Cond.selects "FieldMember$Types" ⟨"FieldMember$Types", "mayBeParent", "(I)Z"⟩ ⟨"FieldMember$Types", "mayBeParent", "(I)Z"⟩ ∈ TT := tt_t (i := 114) (by decide +kernel) (by decide +kernel)
theorem gV_X7_X6_mayBeParent : GoodIn TT (wsV RX7 43 RX6 yX6_mayBeParent (ww yX6_mayBeParent cX6_mayBeParent 2 (some .boolean))) := tt_V q_112 q_113 q_114 q_2 q_115
theorem hdV_X6_mayBeParent : yX6_mayBeParent.cls = RX6 ∧ yX6_mayBeParent.cls ≠ "java/lang/invoke/MethodHandle" ∧ yX6_mayBeParent.cls ≠ "java/lang/invoke/VarHandle" ∧ (parseMethodDescriptor yX6_mayBeParent.desc).map (fun d => d.parameters.length) = some 1 := by decide +kernel
theorem dX7_type_27 : decode cX7_type 27 = .ok (.invokevirtual 43, 3) := by decide +kernel
theorem dX7_type_30 : decode cX7_type 30 = .ok (.ifCond .ne 6, 3) := by decide +kernel
theorem dX7_face_0 : decode cX7_face 0 = .ok (.aload_n 0, 1) := by decide +kernel
theorem dX7_face_1 : decode cX7_face 1 = .ok (.getfield 12, 3) := by decide +kernel
theorem dX7_face_4 : decode cX7_face 4 = .ok (.iload_n 1, 1) := by decide +kernel
theorem dX7_face_5 : decode cX7_face 5 = .ok (.invokevirtual 51, 3) := by decide +kernel
theorem dX7_face_8 : decode cX7_face 8 = .ok (.ifCond .eq 14, 3) := by decide +kernel
theorem dX7_face_22 : decode cX7_face 22 = .ok (.bipush (-11), 2) := by decide +kernel
theorem dX7_face_24 : decode cX7_face 24 = .ok (.ireturn, 1) := by decide +kernel
theorem dX7_face_11 : decode cX7_face 11 = .ok (.aload_n 0, 1) := by decide +kernel
theorem dX7_face_12 : decode cX7_face 12 = .ok (.getfield 12, 3) := by decide +kernel
theorem dX7_face_15 : decode cX7_face 15 = .ok (.iload_n 2, 1) := by decide +kernel
theorem dX7_face_16 : decode cX7_face 16 = .ok (.invokevirtual 54, 3) := by decide +kernel
theorem dX7_face_19 : decode cX7_face 19 = .ok (.ifCond .ne 6, 3) := by decide +kernel
theorem dX7_face_25 : decode cX7_face 25 = .ok (.iload_n 2, 1) := by decide +kernel
theorem dX7_face_26 : decode cX7_face 26 = .ok (.iload_n 1, 1) := by decide +kernel
theorem dX7_face_27 : decode cX7_face 27 = .ok (.if_icmp .lt 6, 3) := by decide +kernel
theorem dX7_face_33 : decode cX7_face 33 = .ok (.aload_n 0, 1) := by decide +kernel
theorem dX7_face_34 : decode cX7_face 34 = .ok (.getfield 12, 3) := by decide +kernel
theorem dX7_face_37 : decode cX7_face 37 = .ok (.iload_n 1, 1) := by decide +kernel
theorem dX7_face_38 : decode cX7_face 38 = .ok (.iload_n 2, 1) := by decide +kernel
theorem dX7_face_39 : decode cX7_face 39 = .ok (.invokevirtual 57, 3) := by decide +kernel
theorem dX7_face_42 : decode cX7_face 42 = .ok (.ifCond .ne 17, 3) := by decide +kernel
theorem dX7_face_59 : decode cX7_face 59 = .ok (.bipush (-14), 2) := by decide +kernel
theorem dX7_face_61 : decode cX7_face 61 = .ok (.ireturn, 1) := by decide +kernel
theorem dX7_face_45 : decode cX7_face 45 = .ok (.aload_n 0, 1) := by decide +kernel
theorem dX7_face_46 : decode cX7_face 46 = .ok (.getfield 61, 3) := by decide +kernel
theorem dX7_face_49 : decode cX7_face 49 = .ok (.ifCond .gt 10, 3) := by decide +kernel
theorem dX7_face_52 : decode cX7_face 52 = .ok (.aload_n 0, 1) := by decide +kernel
theorem dX7_face_53 : decode cX7_face 53 = .ok (.getfield 65, 3) := by decide +kernel
theorem dX7_face_56 : decode cX7_face 56 = .ok (.ifnull 6, 3) := by decide +kernel
theorem dX7_face_62 : decode cX7_face 62 = .ok (.aload_n 0, 1) := by decide +kernel
theorem dX7_face_63 : decode cX7_face 63 = .ok (.getfield 12, 3) := by decide +kernel
theorem dX7_face_66 : decode cX7_face 66 = .ok (.iload_n 1, 1) := by decide +kernel
theorem dX7_face_67 : decode cX7_face 67 = .ok (.iload_n 2, 1) := by decide +kernel
theorem q_150 : Cond.methodLink "FieldMember" 69 ⟨"FieldMember$Types", "addFace", "(II)I"⟩ ∈ TT := tt_t (i := 150) (by decide +kernel) (by decide +kernel)
theorem q_153 : Cond.code ⟨"FieldMember$Types", "addFace", "(II)I"⟩ prog_8_method_11_code 4 (some .int) ∈ TT := tt_t (i := 153) (by decide +kernel) (by decide +kernel)
theorem q_151 : Cond.instanceMethod ⟨"FieldMember$Types", "addFace", "(II)I"⟩ ∈ TT := tt_t (i := 151) (by decide +kernel) (by decide +kernel)
theorem q_152 : Cond.selects "FieldMember$Types" ⟨"FieldMember$Types", "addFace", "(II)I"⟩ ⟨"FieldMember$Types", "addFace", "(II)I"⟩ ∈ TT := tt_t (i := 152) (by decide +kernel) (by decide +kernel)
theorem gV_X7_X6_addFace : GoodIn TT (wsV RX7 69 RX6 yX6_addFace (ww yX6_addFace cX6_addFace 4 (some .int))) := tt_V q_150 q_151 q_152 q_2 q_153
theorem hdV_X6_addFace : yX6_addFace.cls = RX6 ∧ yX6_addFace.cls ≠ "java/lang/invoke/MethodHandle" ∧ yX6_addFace.cls ≠ "java/lang/invoke/VarHandle" ∧ (parseMethodDescriptor yX6_addFace.desc).map (fun d => d.parameters.length) = some 2 := by decide +kernel
theorem dX7_face_68 : decode cX7_face 68 = .ok (.invokevirtual 69, 3) := by decide +kernel
theorem dX7_face_71 : decode cX7_face 71 = .ok (.ireturn, 1) := by decide +kernel
theorem dX7_face_30 : decode cX7_face 30 = .ok (.bipush (-13), 2) := by decide +kernel
theorem dX7_face_32 : decode cX7_face 32 = .ok (.ireturn, 1) := by decide +kernel
theorem dX7_sought_0 : decode cX7_sought 0 = .ok (.aload_n 0, 1) := by decide +kernel
theorem dX7_sought_1 : decode cX7_sought 1 = .ok (.getfield 12, 3) := by decide +kernel
theorem dX7_sought_4 : decode cX7_sought 4 = .ok (.iload_n 1, 1) := by decide +kernel
theorem dX7_sought_5 : decode cX7_sought 5 = .ok (.invokevirtual 51, 3) := by decide +kernel
theorem dX7_sought_8 : decode cX7_sought 8 = .ok (.ifCond .ne 6, 3) := by decide +kernel
theorem dX7_sought_14 : decode cX7_sought 14 = .ok (.iload_n 2, 1) := by decide +kernel
theorem dX7_sought_15 : decode cX7_sought 15 = .ok (.invokestatic 228, 3) := by decide +kernel
theorem dX7_sought_18 : decode cX7_sought 18 = .ok (.ifCond .ne 6, 3) := by decide +kernel
theorem dX7_sought_24 : decode cX7_sought 24 = .ok (.iconst 0, 1) := by decide +kernel
theorem dX7_sought_25 : decode cX7_sought 25 = .ok (.istore_n 3, 1) := by decide +kernel
theorem dX7_sought_26 : decode cX7_sought 26 = .ok (.iload_n 3, 1) := by decide +kernel
theorem dX7_sought_27 : decode cX7_sought 27 = .ok (.iload_n 1, 1) := by decide +kernel
theorem dX7_sought_28 : decode cX7_sought 28 = .ok (.if_icmp .ge 21, 3) := by decide +kernel
theorem dX7_sought_49 : decode cX7_sought 49 = .ok (.aload_n 0, 1) := by decide +kernel
theorem dX7_sought_50 : decode cX7_sought 50 = .ok (.iload_n 1, 1) := by decide +kernel
theorem dX7_sought_51 : decode cX7_sought 51 = .ok (.iload_n 2, 1) := by decide +kernel
theorem q_422 : Cond.methodLink "FieldMember" 231 ⟨"FieldMember", "fieldFoundIn", "(II)I"⟩ ∈ TT := tt_t (i := 422) (by decide +kernel) (by decide +kernel)
theorem q_425 : Cond.code ⟨"FieldMember", "fieldFoundIn", "(II)I"⟩ prog_1_method_41_code 6 (some .int) ∈ TT := tt_t (i := 425) (by decide +kernel) (by decide +kernel)
theorem q_424 : Cond.instanceMethod ⟨"FieldMember", "fieldFoundIn", "(II)I"⟩ ∈ TT := tt_t (i := 424) (by decide +kernel) (by decide +kernel)
theorem qs_15 : Cond.selects "FieldMember" ⟨"FieldMember", "fieldFoundIn", "(II)I"⟩ ⟨"FieldMember", "fieldFoundIn", "(II)I"⟩ ∈ TT := tt_s (i := 15) (by decide +kernel) (by decide +kernel)
theorem gV_X7_X7_fieldFoundIn : GoodIn TT (wsV RX7 231 RX7 yX7_fieldFoundIn (ww yX7_fieldFoundIn cX7_fieldFoundIn 6 (some .int))) := tt_V q_422 q_424 qs_15 q_1 q_425
theorem hdV_X7_fieldFoundIn : yX7_fieldFoundIn.cls = RX7 ∧ yX7_fieldFoundIn.cls ≠ "java/lang/invoke/MethodHandle" ∧ yX7_fieldFoundIn.cls ≠ "java/lang/invoke/VarHandle" ∧ (parseMethodDescriptor yX7_fieldFoundIn.desc).map (fun d => d.parameters.length) = some 2 := by decide +kernel
theorem dX7_sought_52 : decode cX7_sought 52 = .ok (.invokevirtual 231, 3) := by decide +kernel
theorem dX7_sought_55 : decode cX7_sought 55 = .ok (.ireturn, 1) := by decide +kernel
theorem dX7_sought_31 : decode cX7_sought 31 = .ok (.aload_n 0, 1) := by decide +kernel
theorem dX7_sought_32 : decode cX7_sought 32 = .ok (.getfield 33, 3) := by decide +kernel
theorem dX7_sought_35 : decode cX7_sought 35 = .ok (.iload_n 3, 1) := by decide +kernel
theorem dX7_sought_36 : decode cX7_sought 36 = .ok (.aload_n 0, 1) := by decide +kernel
theorem dX7_sought_37 : decode cX7_sought 37 = .ok (.iload_n 3, 1) := by decide +kernel
theorem dX7_sought_38 : decode cX7_sought 38 = .ok (.iload_n 2, 1) := by decide +kernel
theorem dX7_sought_39 : decode cX7_sought 39 = .ok (.invokevirtual 231, 3) := by decide +kernel
theorem dX7_sought_42 : decode cX7_sought 42 = .ok (.iastore, 1) := by decide +kernel
theorem dX7_sought_43 : decode cX7_sought 43 = .ok (.iinc 3 1, 3) := by decide +kernel
theorem dX7_sought_46 : decode cX7_sought 46 = .ok (.goto (-20), 3) := by decide +kernel
theorem dX7_sought_21 : decode cX7_sought 21 = .ok (.bipush (-13), 2) := by decide +kernel
theorem dX7_sought_23 : decode cX7_sought 23 = .ok (.ireturn, 1) := by decide +kernel
theorem dX7_sought_11 : decode cX7_sought 11 = .ok (.bipush (-11), 2) := by decide +kernel
theorem dX7_sought_13 : decode cX7_sought 13 = .ok (.ireturn, 1) := by decide +kernel
theorem dX7_call_0 : decode cX7_call 0 = .ok (.aload_n 0, 1) := by decide +kernel
theorem dX7_call_1 : decode cX7_call 1 = .ok (.getfield 12, 3) := by decide +kernel
theorem dX7_call_4 : decode cX7_call 4 = .ok (.iload_n 1, 1) := by decide +kernel
theorem dX7_call_5 : decode cX7_call 5 = .ok (.invokevirtual 51, 3) := by decide +kernel
theorem dX7_call_8 : decode cX7_call 8 = .ok (.ifCond .ne 6, 3) := by decide +kernel
theorem dX7_call_14 : decode cX7_call 14 = .ok (.iload_n 2, 1) := by decide +kernel
theorem dX7_call_15 : decode cX7_call 15 = .ok (.invokestatic 228, 3) := by decide +kernel
theorem dX7_call_18 : decode cX7_call 18 = .ok (.ifCond .ne 6, 3) := by decide +kernel
theorem dX7_call_24 : decode cX7_call 24 = .ok (.aload_n 0, 1) := by decide +kernel
theorem dX7_call_25 : decode cX7_call 25 = .ok (.iload_n 1, 1) := by decide +kernel
theorem dX7_call_26 : decode cX7_call 26 = .ok (.iload_n 2, 1) := by decide +kernel
theorem q_446 : Cond.methodLink "FieldMember" 237 ⟨"FieldMember", "markCandidates", "(II)V"⟩ ∈ TT := tt_t (i := 446) (by decide +kernel) (by decide +kernel)
theorem q_449 : Cond.code ⟨"FieldMember", "markCandidates", "(II)V"⟩ prog_1_method_44_code 6 none ∈ TT := tt_t (i := 449) (by decide +kernel) (by decide +kernel)
theorem q_448 : Cond.instanceMethod ⟨"FieldMember", "markCandidates", "(II)V"⟩ ∈ TT := tt_t (i := 448) (by decide +kernel) (by decide +kernel)
theorem qs_17 : Cond.selects "FieldMember" ⟨"FieldMember", "markCandidates", "(II)V"⟩ ⟨"FieldMember", "markCandidates", "(II)V"⟩ ∈ TT := tt_s (i := 17) (by decide +kernel) (by decide +kernel)
theorem gV_X7_X7_markCandidates : GoodIn TT (wsV RX7 237 RX7 yX7_markCandidates (ww yX7_markCandidates cX7_markCandidates 6 none)) := tt_V q_446 q_448 qs_17 q_1 q_449
theorem hdV_X7_markCandidates : yX7_markCandidates.cls = RX7 ∧ yX7_markCandidates.cls ≠ "java/lang/invoke/MethodHandle" ∧ yX7_markCandidates.cls ≠ "java/lang/invoke/VarHandle" ∧ (parseMethodDescriptor yX7_markCandidates.desc).map (fun d => d.parameters.length) = some 2 := by decide +kernel
theorem dX7_call_27 : decode cX7_call 27 = .ok (.invokevirtual 237, 3) := by decide +kernel
theorem dX7_call_30 : decode cX7_call 30 = .ok (.iconst 1, 1) := by decide +kernel
theorem dX7_call_31 : decode cX7_call 31 = .ok (.istore_n 3, 1) := by decide +kernel
theorem dX7_call_32 : decode cX7_call 32 = .ok (.aload_n 0, 1) := by decide +kernel
theorem dX7_call_33 : decode cX7_call 33 = .ok (.iconst 0, 1) := by decide +kernel
theorem q_454 : Cond.methodLink "FieldMember" 241 ⟨"FieldMember", "markFitting", "(Z)Z"⟩ ∈ TT := tt_t (i := 454) (by decide +kernel) (by decide +kernel)
theorem q_457 : Cond.code ⟨"FieldMember", "markFitting", "(Z)Z"⟩ prog_1_method_46_code 6 (some .boolean) ∈ TT := tt_t (i := 457) (by decide +kernel) (by decide +kernel)
theorem q_456 : Cond.instanceMethod ⟨"FieldMember", "markFitting", "(Z)Z"⟩ ∈ TT := tt_t (i := 456) (by decide +kernel) (by decide +kernel)
theorem qs_19 : Cond.selects "FieldMember" ⟨"FieldMember", "markFitting", "(Z)Z"⟩ ⟨"FieldMember", "markFitting", "(Z)Z"⟩ ∈ TT := tt_s (i := 19) (by decide +kernel) (by decide +kernel)
theorem gV_X7_X7_markFitting : GoodIn TT (wsV RX7 241 RX7 yX7_markFitting (ww yX7_markFitting cX7_markFitting 6 (some .boolean))) := tt_V q_454 q_456 qs_19 q_1 q_457
theorem hdV_X7_markFitting : yX7_markFitting.cls = RX7 ∧ yX7_markFitting.cls ≠ "java/lang/invoke/MethodHandle" ∧ yX7_markFitting.cls ≠ "java/lang/invoke/VarHandle" ∧ (parseMethodDescriptor yX7_markFitting.desc).map (fun d => d.parameters.length) = some 1 := by decide +kernel
theorem dX7_call_34 : decode cX7_call 34 = .ok (.invokevirtual 241, 3) := by decide +kernel
theorem dX7_call_37 : decode cX7_call 37 = .ok (.istore 4, 2) := by decide +kernel
theorem dX7_call_39 : decode cX7_call 39 = .ok (.iload 4, 2) := by decide +kernel
theorem dX7_call_41 : decode cX7_call 41 = .ok (.ifCond .ne 12, 3) := by decide +kernel
theorem dX7_call_53 : decode cX7_call 53 = .ok (.iload 4, 2) := by decide +kernel
theorem dX7_call_55 : decode cX7_call 55 = .ok (.ifCond .eq 20, 3) := by decide +kernel
theorem dX7_call_58 : decode cX7_call 58 = .ok (.aload_n 0, 1) := by decide +kernel
theorem dX7_call_59 : decode cX7_call 59 = .ok (.iload_n 3, 1) := by decide +kernel
theorem dX7_call_60 : decode cX7_call 60 = .ok (.iconst 2, 1) := by decide +kernel
theorem dX7_call_61 : decode cX7_call 61 = .ok (.if_icmp .ne 7, 3) := by decide +kernel
theorem dX7_call_68 : decode cX7_call 68 = .ok (.iconst 0, 1) := by decide +kernel
theorem q_493 : Cond.methodLink "FieldMember" 245 ⟨"FieldMember", "nearestFitting", "(Z)I"⟩ ∈ TT := tt_t (i := 493) (by decide +kernel) (by decide +kernel)
theorem q_496 : Cond.code ⟨"FieldMember", "nearestFitting", "(Z)I"⟩ prog_1_method_50_code 6 (some .int) ∈ TT := tt_t (i := 496) (by decide +kernel) (by decide +kernel)
theorem q_495 : Cond.instanceMethod ⟨"FieldMember", "nearestFitting", "(Z)I"⟩ ∈ TT := tt_t (i := 495) (by decide +kernel) (by decide +kernel)
theorem qs_25 : Cond.selects "FieldMember" ⟨"FieldMember", "nearestFitting", "(Z)I"⟩ ⟨"FieldMember", "nearestFitting", "(Z)I"⟩ ∈ TT := tt_s (i := 25) (by decide +kernel) (by decide +kernel)
theorem gV_X7_X7_nearestFitting : GoodIn TT (wsV RX7 245 RX7 yX7_nearestFitting (ww yX7_nearestFitting cX7_nearestFitting 6 (some .int))) := tt_V q_493 q_495 qs_25 q_1 q_496
theorem hdV_X7_nearestFitting : yX7_nearestFitting.cls = RX7 ∧ yX7_nearestFitting.cls ≠ "java/lang/invoke/MethodHandle" ∧ yX7_nearestFitting.cls ≠ "java/lang/invoke/VarHandle" ∧ (parseMethodDescriptor yX7_nearestFitting.desc).map (fun d => d.parameters.length) = some 1 := by decide +kernel
theorem dX7_call_69 : decode cX7_call 69 = .ok (.invokevirtual 245, 3) := by decide +kernel
theorem dX7_call_72 : decode cX7_call 72 = .ok (.goto 4, 3) := by decide +kernel
theorem dX7_call_76 : decode cX7_call 76 = .ok (.istore 5, 2) := by decide +kernel
theorem dX7_call_78 : decode cX7_call 78 = .ok (.aload_n 0, 1) := by decide +kernel
theorem dX7_call_79 : decode cX7_call 79 = .ok (.iload 5, 2) := by decide +kernel
theorem dX7_call_81 : decode cX7_call 81 = .ok (.ifCond .lt 7, 3) := by decide +kernel
theorem dX7_call_88 : decode cX7_call 88 = .ok (.iconst 0, 1) := by decide +kernel
theorem dX7_call_89 : decode cX7_call 89 = .ok (.putfield 248, 3) := by decide +kernel
theorem dX7_call_92 : decode cX7_call 92 = .ok (.aload_n 0, 1) := by decide +kernel
theorem dX7_call_93 : decode cX7_call 93 = .ok (.getfield 25, 3) := by decide +kernel
theorem q_508 : Cond.methodLink "FieldMember" 251 ⟨"FieldMember$Row", "empty", "()V"⟩ ∈ TT := tt_t (i := 508) (by decide +kernel) (by decide +kernel)
theorem q_511 : Cond.code ⟨"FieldMember$Row", "empty", "()V"⟩ prog_6_method_4_code 1 none ∈ TT := tt_t (i := 511) (by decide +kernel) (by decide +kernel)
theorem q_509 : Cond.instanceMethod ⟨"FieldMember$Row", "empty", "()V"⟩ ∈ TT := tt_t (i := 509) (by decide +kernel) (by decide +kernel)
theorem q_510 : Cond.selects "FieldMember$Row" ⟨"FieldMember$Row", "empty", "()V"⟩ ⟨"FieldMember$Row", "empty", "()V"⟩ ∈ TT := tt_t (i := 510) (by decide +kernel) (by decide +kernel)
theorem gV_X7_X4_empty : GoodIn TT (wsV RX7 251 RX4 yX4_empty (ww yX4_empty cX4_empty 1 none)) := tt_V q_508 q_509 q_510 q_3 q_511
theorem hdV_X4_empty : yX4_empty.cls = RX4 ∧ yX4_empty.cls ≠ "java/lang/invoke/MethodHandle" ∧ yX4_empty.cls ≠ "java/lang/invoke/VarHandle" ∧ (parseMethodDescriptor yX4_empty.desc).map (fun d => d.parameters.length) = some 0 := by decide +kernel
theorem dX7_call_96 : decode cX7_call 96 = .ok (.invokevirtual 251, 3) := by decide +kernel
theorem dX7_call_99 : decode cX7_call 99 = .ok (.iload 5, 2) := by decide +kernel
theorem dX7_call_101 : decode cX7_call 101 = .ok (.ireturn, 1) := by decide +kernel
theorem dX7_call_84 : decode cX7_call 84 = .ok (.iload_n 3, 1) := by decide +kernel
theorem dX7_call_85 : decode cX7_call 85 = .ok (.goto 4, 3) := by decide +kernel
theorem dX7_call_44 : decode cX7_call 44 = .ok (.iconst 2, 1) := by decide +kernel
theorem dX7_call_45 : decode cX7_call 45 = .ok (.istore_n 3, 1) := by decide +kernel
theorem dX7_call_46 : decode cX7_call 46 = .ok (.aload_n 0, 1) := by decide +kernel
theorem dX7_call_47 : decode cX7_call 47 = .ok (.iconst 1, 1) := by decide +kernel
theorem dX7_call_48 : decode cX7_call 48 = .ok (.invokevirtual 241, 3) := by decide +kernel
theorem dX7_call_51 : decode cX7_call 51 = .ok (.istore 4, 2) := by decide +kernel
theorem dX7_call_75 : decode cX7_call 75 = .ok (.iconst (-1), 1) := by decide +kernel
theorem dX7_call_64 : decode cX7_call 64 = .ok (.iconst 1, 1) := by decide +kernel
theorem dX7_call_65 : decode cX7_call 65 = .ok (.goto 4, 3) := by decide +kernel
theorem dX7_call_21 : decode cX7_call 21 = .ok (.bipush (-13), 2) := by decide +kernel
theorem dX7_call_23 : decode cX7_call 23 = .ok (.ireturn, 1) := by decide +kernel
theorem dX7_call_11 : decode cX7_call 11 = .ok (.bipush (-11), 2) := by decide +kernel
theorem dX7_call_13 : decode cX7_call 13 = .ok (.ireturn, 1) := by decide +kernel
theorem dX7_clear_0 : decode cX7_clear 0 = .ok (.aload_n 0, 1) := by decide +kernel
theorem dX7_clear_1 : decode cX7_clear 1 = .ok (.getfield 61, 3) := by decide +kernel
theorem dX7_clear_4 : decode cX7_clear 4 = .ok (.istore_n 1, 1) := by decide +kernel
theorem dX7_clear_5 : decode cX7_clear 5 = .ok (.iconst 0, 1) := by decide +kernel
theorem dX7_clear_6 : decode cX7_clear 6 = .ok (.istore_n 2, 1) := by decide +kernel
theorem dX7_clear_7 : decode cX7_clear 7 = .ok (.iload_n 2, 1) := by decide +kernel
theorem dX7_clear_8 : decode cX7_clear 8 = .ok (.aload_n 0, 1) := by decide +kernel
theorem dX7_clear_9 : decode cX7_clear 9 = .ok (.getfield 61, 3) := by decide +kernel
theorem dX7_clear_12 : decode cX7_clear 12 = .ok (.if_icmp .ge 16, 3) := by decide +kernel
theorem dX7_clear_28 : decode cX7_clear 28 = .ok (.iconst 0, 1) := by decide +kernel
theorem dX7_clear_29 : decode cX7_clear 29 = .ok (.istore_n 2, 1) := by decide +kernel
theorem dX7_clear_30 : decode cX7_clear 30 = .ok (.iload_n 2, 1) := by decide +kernel
theorem dX7_clear_31 : decode cX7_clear 31 = .ok (.bipush 25, 2) := by decide +kernel
theorem dX7_clear_33 : decode cX7_clear 33 = .ok (.if_icmp .gt 16, 3) := by decide +kernel
theorem dX7_clear_49 : decode cX7_clear 49 = .ok (.aload_n 0, 1) := by decide +kernel
theorem dX7_clear_50 : decode cX7_clear 50 = .ok (.iconst 0, 1) := by decide +kernel
theorem dX7_clear_51 : decode cX7_clear 51 = .ok (.putfield 262, 3) := by decide +kernel
theorem dX7_clear_54 : decode cX7_clear 54 = .ok (.aload_n 0, 1) := by decide +kernel
theorem dX7_clear_55 : decode cX7_clear 55 = .ok (.iconst 0, 1) := by decide +kernel
theorem dX7_clear_56 : decode cX7_clear 56 = .ok (.putfield 61, 3) := by decide +kernel
theorem dX7_clear_59 : decode cX7_clear 59 = .ok (.aload_n 0, 1) := by decide +kernel
theorem dX7_clear_60 : decode cX7_clear 60 = .ok (.aconst_null, 1) := by decide +kernel
theorem dX7_clear_61 : decode cX7_clear 61 = .ok (.putfield 65, 3) := by decide +kernel
theorem dX7_clear_64 : decode cX7_clear 64 = .ok (.aload_n 0, 1) := by decide +kernel
theorem dX7_clear_65 : decode cX7_clear 65 = .ok (.iconst 0, 1) := by decide +kernel
theorem dX7_clear_66 : decode cX7_clear 66 = .ok (.putfield 248, 3) := by decide +kernel
theorem dX7_clear_69 : decode cX7_clear 69 = .ok (.aload_n 0, 1) := by decide +kernel
theorem dX7_clear_70 : decode cX7_clear 70 = .ok (.getfield 25, 3) := by decide +kernel
theorem dX7_clear_73 : decode cX7_clear 73 = .ok (.invokevirtual 251, 3) := by decide +kernel
theorem dX7_clear_76 : decode cX7_clear 76 = .ok (.aload_n 0, 1) := by decide +kernel
theorem dX7_clear_77 : decode cX7_clear 77 = .ok (.getfield 12, 3) := by decide +kernel
theorem q_544 : Cond.methodLink "FieldMember" 265 ⟨"FieldMember$Types", "empty", "()V"⟩ ∈ TT := tt_t (i := 544) (by decide +kernel) (by decide +kernel)
theorem q_547 : Cond.code ⟨"FieldMember$Types", "empty", "()V"⟩ prog_8_method_12_code 1 none ∈ TT := tt_t (i := 547) (by decide +kernel) (by decide +kernel)
theorem q_545 : Cond.instanceMethod ⟨"FieldMember$Types", "empty", "()V"⟩ ∈ TT := tt_t (i := 545) (by decide +kernel) (by decide +kernel)
theorem q_546 : Cond.selects "FieldMember$Types" ⟨"FieldMember$Types", "empty", "()V"⟩ ⟨"FieldMember$Types", "empty", "()V"⟩ ∈ TT := tt_t (i := 546) (by decide +kernel) (by decide +kernel)
theorem gV_X7_X6_empty : GoodIn TT (wsV RX7 265 RX6 yX6_empty (ww yX6_empty cX6_empty 1 none)) := tt_V q_544 q_545 q_546 q_2 q_547
theorem hdV_X6_empty : yX6_empty.cls = RX6 ∧ yX6_empty.cls ≠ "java/lang/invoke/MethodHandle" ∧ yX6_empty.cls ≠ "java/lang/invoke/VarHandle" ∧ (parseMethodDescriptor yX6_empty.desc).map (fun d => d.parameters.length) = some 0 := by decide +kernel
theorem dX7_clear_80 : decode cX7_clear 80 = .ok (.invokevirtual 265, 3) := by decide +kernel
theorem dX7_clear_83 : decode cX7_clear 83 = .ok (.iload_n 1, 1) := by decide +kernel
theorem dX7_clear_84 : decode cX7_clear 84 = .ok (.ireturn, 1) := by decide +kernel
theorem dX7_clear_36 : decode cX7_clear 36 = .ok (.aload_n 0, 1) := by decide +kernel
theorem dX7_clear_37 : decode cX7_clear 37 = .ok (.getfield 29, 3) := by decide +kernel
theorem dX7_clear_40 : decode cX7_clear 40 = .ok (.iload_n 2, 1) := by decide +kernel
theorem dX7_clear_41 : decode cX7_clear 41 = .ok (.iconst 0, 1) := by decide +kernel
theorem dX7_clear_42 : decode cX7_clear 42 = .ok (.iastore, 1) := by decide +kernel
theorem dX7_clear_43 : decode cX7_clear 43 = .ok (.iinc 2 1, 3) := by decide +kernel
theorem dX7_clear_46 : decode cX7_clear 46 = .ok (.goto (-16), 3) := by decide +kernel
theorem dX7_clear_15 : decode cX7_clear 15 = .ok (.aload_n 0, 1) := by decide +kernel
theorem dX7_clear_16 : decode cX7_clear 16 = .ok (.getfield 18, 3) := by decide +kernel
theorem dX7_clear_19 : decode cX7_clear 19 = .ok (.iload_n 2, 1) := by decide +kernel
theorem dX7_clear_20 : decode cX7_clear 20 = .ok (.aconst_null, 1) := by decide +kernel
theorem dX7_clear_21 : decode cX7_clear 21 = .ok (.aastore, 1) := by decide +kernel
theorem dX7_clear_22 : decode cX7_clear 22 = .ok (.iinc 2 1, 3) := by decide +kernel
theorem dX7_clear_25 : decode cX7_clear 25 = .ok (.goto (-18), 3) := by decide +kernel
set_option maxHeartbeats 800000 in
set_option maxRecDepth 100000 in
theorem c_argument (l : Launch) (D : va_G) (G : Nat → ClassId) (ca : Nat → Nat) (bg : Value) (ea : Nat → Nat → Nat) (n k w0 : Nat) (σ x : MS) (κ : Nat → Int64) (pl : va_W) (sz : Nat) (hE : plE G ea σ κ k pl) (hI : cI σ x n k w0) (kind dd : Int32) (τ : Nat → Int64) : Met l yX7_argument (ww yX7_argument cX7_argument 3 (some .int)) (rmC 2 0 0) (cmP D G sz (cF G ca bg (enF ea k) σ x ++ pl) [.ref ((ca 0)), .int kind, .int dd]) (cmQi D (va_A (cF G ca bg (enF ea k) σ x ++ pl) sz) ((oArg σ τ n w0 kind dd).1) (fun z8 => z8 = cF G ca bg (enF ea k) (oArg σ τ n w0 kind dd).2.1 x ++ pl)) 0 0 (va_A (cF G ca bg (enF ea k) σ x ++ pl) sz) := by
  refine Met.ofW (cc := cX7_argument) (maxL := 3) (ret := (some .int)) (by decide) rfl ?_
  intro p e s m args below meth c s₁ B hml hv
  obtain ⟨rfl, hsz, hP, hK, hD0⟩ := hv
  have hx := B.exec
  have hb := B.bytes
  have hr := B.returns
  have hts : ∀ w ∈ TT, w.before _ s = true := fun w h => atoms_spec (ws := ww yX7_argument cX7_argument 3 (some .int)) B.pre w (List.mem_cons_of_mem _ h)
  have hown : s.vm.findClass RX7 = some m.cls := findClass_of_methodNamed B.named
  have hlocks := B.notSynchronized
  subst hsz
  have hD : va_D (va_A (cF G ca bg (enF ea k) σ x ++ pl) s.heap.size) (cF G ca bg (enF ea k) σ x ++ pl) := hD0.self
  generalize hAe : va_A (cF G ca bg (enF ea k) σ x ++ pl) s.heap.size = A at hD ⊢
  have hA : ∀ q : Nat, s.heap.size ≤ q → A q := fun q h => by rw [← hAe]; exact Or.inr h
  have hS : va_S A s.heap s.heap [] := va_S.rf
  have hP : va_P D vwCl (cF G ca bg (enF ea k) σ x ++ pl) s.heap := hP
  have hI0 := hI
  obtain ⟨h1, hn, h7, hk60, h22, hw, hab, hfa, hmi, hak, hrf⟩ := hI
  have hl := lv_entry ([.ref ((ca 0)), .int kind, .int dd]) (n := 3) (Nat.le_of_ble_eq_true rfl)
  rw [lg_entry_eq]
  generalize (lg_sl ([.ref ((ca 0)), .int kind, .int dd]) ++ List.replicate (3 - (lg_sl ([.ref ((ca 0)), .int kind, .int dd])).length) Slot.unset).toArray = ls at hl ⊢
  have hl : lv_has ls 3 [(0, .ref ((ca 0))), (1, .int kind), (2, .int dd)] := hl
  refine lv_aload_n hx hb dX7_argument_0 rfl (lv_at hl 0 rfl) ?_
  refine lv_iload_n hx hb dX7_argument_1 rfl (lv_at hl 1 rfl) ?_
  have hPf : va_P D vwCl (cF G ca bg (enF ea k) σ x) _ := cF_of hP
  have hEf : ∀ e, e < k → va_P D vwCl (eW G (ea e) σ κ e) _ := plE_P hP hE
  refine ro_Vi (D := D) (G := G) (As := [.int kind]) (rest := []) ⟨hx, hb, hml, hown, hts⟩ (c_isUnknownKind l D G _ ca _ ea n k w0 σ x κ hPf hEf hI0 kind) gV_X7_X7_isUnknownKind hdV_X7_isUnknownKind ⟨Nat.le_of_ble_eq_true rfl, Nat.le_of_ble_eq_true rfl⟩ hK (va_recv hK.1 hP (ci := 7) (q0 := 0) rfl rfl) rfl hl.1 rfl (Nat.le_of_ble_eq_true rfl) dX7_argument_2 ⟨Nat.le_of_ble_eq_true rfl, Nat.le_of_ble_eq_true rfl⟩ (fun r1 e_r1 => ?_)
  subst e_r1
  refine W.eq (g2 := F0 m 5 ls [.int (bI (noK n kind))]) rfl ?_
  refine lv_if_eq (tgt := 11) hx hb dX7_argument_5 (by decide) (fun c2 => ?_) (fun c2 => ?_)
  · -- 5 taken
    have c2 := bI_0 c2
    refine lv_iload_n hx hb dX7_argument_11 rfl (lv_at hl 1 rfl) ?_
    refine lv_iload_n hx hb dX7_argument_12 rfl (lv_at hl 2 rfl) ?_
    refine ro_Si (D := D) (G := G) (As := [.int kind, .int dd]) (rest := []) ⟨hx, hb, hml, hown, hts⟩ (c_mayBeArgument l D G _ kind dd) gS_X7_X7_mayBeArgument hdS_X7_mayBeArgument ⟨Nat.le_of_ble_eq_true rfl, Nat.le_of_ble_eq_true rfl⟩ hK rfl hl.1 rfl (Nat.le_of_ble_eq_true rfl) dX7_argument_13 ⟨Nat.le_of_ble_eq_true rfl, Nat.le_of_ble_eq_true rfl⟩ (fun r3 e_r3 => ?_)
    subst e_r3
    refine W.eq (g2 := F0 m 16 ls [.int (bI (argP kind dd))]) rfl ?_
    refine lv_if_ne (tgt := 22) hx hb dX7_argument_16 (by decide) (fun c4 => ?_) (fun c4 => ?_)
    · -- 16 taken
      have c4 := bI_1 c4
      refine lv_aload_n hx hb dX7_argument_22 rfl (lv_at hl 0 rfl) ?_
      refine va_get (D := D) (ci := 7) (v := .ref ((ca 7))) (C := RX7) (T := TX7) (N := 11) hx hb hts iX7 hown hK.1 hP 0 rfl rfl 4 (by decide) (hts _ q_77) (fun _ h9 => h9) rfl dX7_argument_23 ?_
      refine lv_iload_n hx hb dX7_argument_26 rfl (lv_at hl 1 rfl) ?_
      refine lv_iload_n hx hb dX7_argument_27 rfl (lv_at hl 2 rfl) ?_
      by_cases h25 : w0 = 5
      · -- yes
        refine cm_Vi (D := D) (G := G) (As := [.int kind, .int dd]) (rest := []) ⟨hx, hb, hml, hown, hts⟩ (c_argFull l D G ca _ ea n k w0 σ x κ _ _ hE hI0 kind dd h25) gV_X7_X4_add hdV_X4_add ⟨Nat.le_of_ble_eq_true rfl, Nat.le_of_ble_eq_true rfl⟩ hK (va_recv hK.1 hP (ci := 5) (q0 := 7) rfl rfl) hP hD hS hA rfl hl.1 rfl (Nat.le_of_ble_eq_true rfl) dX7_argument_28 ⟨Nat.le_of_ble_eq_true rfl, Nat.le_of_ble_eq_true rfl⟩ (fun ws H locs hw hP hD hS => ?_)
        subst hw
        have hP : va_P D vwCl (cF G ca bg (enF ea k) σ x ++ pl) H := hP
        have hD : va_D A (cF G ca bg (enF ea k) σ x ++ pl) := hD
        refine W.eq (g2 := F0 m 31 ls [.int ((-15))]) rfl ?_
        exact cm_iret (v0 := (-15)) hx hb hr hlocks hP hD hS dX7_argument_31 (by unfold oArg; simp only [eq_false c2, eq_true c4, eq_false (arg_iff.mp c4), eq_true h25, if_true, not_true, not_false_iff, not_true_eq_false, not_false_eq_true, true_or, or_true, false_or, or_false, or_self, and_self, true_and, and_true, false_and, and_false, if_true, if_false, eq_false (show ¬ (0 : Int32) ≤ -11 by decide), eq_false (show ¬ (0 : Int32) ≤ -12 by decide), eq_false (show ¬ (0 : Int32) ≤ -13 by decide), eq_false (show ¬ (0 : Int32) ≤ -14 by decide), eq_false (show ¬ (0 : Int32) ≤ -15 by decide)]; try rfl) (by unfold oArg; simp only [eq_false c2, eq_true c4, eq_false (arg_iff.mp c4), eq_true h25, if_true, not_true, not_false_iff, not_true_eq_false, not_false_eq_true, true_or, or_true, false_or, or_false, or_self, and_self, true_and, and_true, false_and, and_false, if_true, if_false, eq_false (show ¬ (0 : Int32) ≤ -11 by decide), eq_false (show ¬ (0 : Int32) ≤ -12 by decide), eq_false (show ¬ (0 : Int32) ≤ -13 by decide), eq_false (show ¬ (0 : Int32) ≤ -14 by decide), eq_false (show ¬ (0 : Int32) ≤ -15 by decide)]; try rfl)
      · -- no
        refine cm_Vi (D := D) (G := G) (As := [.int kind, .int dd]) (rest := []) ⟨hx, hb, hml, hown, hts⟩ (c_argAdd l D G ca _ ea n k w0 σ x κ _ _ hE hI0 kind dd h25) gV_X7_X4_add hdV_X4_add ⟨Nat.le_of_ble_eq_true rfl, Nat.le_of_ble_eq_true rfl⟩ hK (va_recv hK.1 hP (ci := 5) (q0 := 7) rfl rfl) hP hD hS hA rfl hl.1 rfl (Nat.le_of_ble_eq_true rfl) dX7_argument_28 ⟨Nat.le_of_ble_eq_true rfl, Nat.le_of_ble_eq_true rfl⟩ (fun ws H locs hw hP hD hS => ?_)
        subst hw
        have hP : va_P D vwCl (cF G ca bg (enF ea k) (su (su (su σ 23 (w0) (kind)) 24 (w0) (dd)) 22 (0) (nI (w0 + 1))) x ++ pl) H := hP
        have hD : va_D A (cF G ca bg (enF ea k) (su (su (su σ 23 (w0) (kind)) 24 (w0) (dd)) 22 (0) (nI (w0 + 1))) x ++ pl) := hD
        refine W.eq (g2 := F0 m 31 ls [.int (nI (w0 + 1))]) rfl ?_
        exact cm_iret (v0 := nI (w0 + 1)) hx hb hr hlocks hP hD hS dX7_argument_31 (by unfold oArg; simp only [eq_false c2, eq_true c4, eq_false (arg_iff.mp c4), eq_false h25, if_true, not_true, not_false_iff, not_true_eq_false, not_false_eq_true, true_or, or_true, false_or, or_false, or_self, and_self, true_and, and_true, false_and, and_false, if_true, if_false, eq_false (show ¬ (0 : Int32) ≤ -11 by decide), eq_false (show ¬ (0 : Int32) ≤ -12 by decide), eq_false (show ¬ (0 : Int32) ≤ -13 by decide), eq_false (show ¬ (0 : Int32) ≤ -14 by decide), eq_false (show ¬ (0 : Int32) ≤ -15 by decide)]; try rfl) (by unfold oArg; simp only [eq_false c2, eq_true c4, eq_false (arg_iff.mp c4), eq_false h25, if_true, not_true, not_false_iff, not_true_eq_false, not_false_eq_true, true_or, or_true, false_or, or_false, or_self, and_self, true_and, and_true, false_and, and_false, if_true, if_false, eq_false (show ¬ (0 : Int32) ≤ -11 by decide), eq_false (show ¬ (0 : Int32) ≤ -12 by decide), eq_false (show ¬ (0 : Int32) ≤ -13 by decide), eq_false (show ¬ (0 : Int32) ≤ -14 by decide), eq_false (show ¬ (0 : Int32) ≤ -15 by decide)]; try rfl)
    · -- 16 not
      have c4 := bI_0 c4
      refine lv_bipush (v := -13) hx hb dX7_argument_19 (by decide) ?_
      exact cm_iret (v0 := (-13)) hx hb hr hlocks hP hD hS dX7_argument_21 (by unfold oArg; simp only [eq_false c2, eq_false c4, eq_true (Decidable.of_not_not (mt arg_iff.mpr c4)), if_true, not_true, not_false_iff, not_true_eq_false, not_false_eq_true, true_or, or_true, false_or, or_false, or_self, and_self, true_and, and_true, false_and, and_false, if_true, if_false, eq_false (show ¬ (0 : Int32) ≤ -11 by decide), eq_false (show ¬ (0 : Int32) ≤ -12 by decide), eq_false (show ¬ (0 : Int32) ≤ -13 by decide), eq_false (show ¬ (0 : Int32) ≤ -14 by decide), eq_false (show ¬ (0 : Int32) ≤ -15 by decide)]; try rfl) (by unfold oArg; simp only [eq_false c2, eq_false c4, eq_true (Decidable.of_not_not (mt arg_iff.mpr c4)), if_true, not_true, not_false_iff, not_true_eq_false, not_false_eq_true, true_or, or_true, false_or, or_false, or_self, and_self, true_and, and_true, false_and, and_false, if_true, if_false, eq_false (show ¬ (0 : Int32) ≤ -11 by decide), eq_false (show ¬ (0 : Int32) ≤ -12 by decide), eq_false (show ¬ (0 : Int32) ≤ -13 by decide), eq_false (show ¬ (0 : Int32) ≤ -14 by decide), eq_false (show ¬ (0 : Int32) ≤ -15 by decide)]; try rfl)
  · -- 5 not
    have c2 := bI_1 c2
    refine lv_bipush (v := -11) hx hb dX7_argument_8 (by decide) ?_
    exact cm_iret (v0 := (-11)) hx hb hr hlocks hP hD hS dX7_argument_10 (by unfold oArg; simp only [eq_true c2, if_true, not_true, not_false_iff, not_true_eq_false, not_false_eq_true, true_or, or_true, false_or, or_false, or_self, and_self, true_and, and_true, false_and, and_false, if_true, if_false, eq_false (show ¬ (0 : Int32) ≤ -11 by decide), eq_false (show ¬ (0 : Int32) ≤ -12 by decide), eq_false (show ¬ (0 : Int32) ≤ -13 by decide), eq_false (show ¬ (0 : Int32) ≤ -14 by decide), eq_false (show ¬ (0 : Int32) ≤ -15 by decide)]; try rfl) (by unfold oArg; simp only [eq_true c2, if_true, not_true, not_false_iff, not_true_eq_false, not_false_eq_true, true_or, or_true, false_or, or_false, or_self, and_self, true_and, and_true, false_and, and_false, if_true, if_false, eq_false (show ¬ (0 : Int32) ≤ -11 by decide), eq_false (show ¬ (0 : Int32) ≤ -12 by decide), eq_false (show ¬ (0 : Int32) ≤ -13 by decide), eq_false (show ¬ (0 : Int32) ≤ -14 by decide), eq_false (show ¬ (0 : Int32) ≤ -15 by decide)]; try rfl)
set_option maxHeartbeats 800000 in
set_option maxRecDepth 100000 in
theorem c_type (l : Launch) (D : va_G) (G : Nat → ClassId) (ca : Nat → Nat) (bg : Value) (ea : Nat → Nat → Nat) (n k w0 : Nat) (σ x : MS) (κ : Nat → Int64) (pl : va_W) (sz : Nat) (hE : plE G ea σ κ k pl) (hI : cI σ x n k w0) (sort parent : Int32) (hsr : ∀ t, t < n → 0 ≤ σ 2 t) (τ : Nat → Int64) : Met l yX7_type (ww yX7_type cX7_type 3 (some .int)) (rmC 4 0 0) (cmP D G sz (cF G ca bg (enF ea k) σ x ++ pl) [.ref ((ca 0)), .int sort, .int parent]) (cmQi D (va_A (cF G ca bg (enF ea k) σ x ++ pl) sz) ((oType σ τ n sort parent).1) (fun z8 => z8 = cF G ca bg (enF ea k) (oType σ τ n sort parent).2.1 (xTy σ x τ n sort parent) ++ pl)) 0 0 (va_A (cF G ca bg (enF ea k) σ x ++ pl) sz) := by
  refine Met.ofW (cc := cX7_type) (maxL := 3) (ret := (some .int)) (by decide) rfl ?_
  intro p e s m args below meth c s₁ B hml hv
  obtain ⟨rfl, hsz, hP, hK, hD0⟩ := hv
  have hx := B.exec
  have hb := B.bytes
  have hr := B.returns
  have hts : ∀ w ∈ TT, w.before _ s = true := fun w h => atoms_spec (ws := ww yX7_type cX7_type 3 (some .int)) B.pre w (List.mem_cons_of_mem _ h)
  have hown : s.vm.findClass RX7 = some m.cls := findClass_of_methodNamed B.named
  have hlocks := B.notSynchronized
  subst hsz
  have hD : va_D (va_A (cF G ca bg (enF ea k) σ x ++ pl) s.heap.size) (cF G ca bg (enF ea k) σ x ++ pl) := hD0.self
  generalize hAe : va_A (cF G ca bg (enF ea k) σ x ++ pl) s.heap.size = A at hD ⊢
  have hA : ∀ q : Nat, s.heap.size ≤ q → A q := fun q h => by rw [← hAe]; exact Or.inr h
  have hS : va_S A s.heap s.heap [] := va_S.rf
  have hP : va_P D vwCl (cF G ca bg (enF ea k) σ x ++ pl) s.heap := hP
  have hI0 := hI
  obtain ⟨h1, hn, h7, hk60, h22, hw, hab, hfa, hmi, hak, hrf⟩ := hI
  have hl := lv_entry ([.ref ((ca 0)), .int sort, .int parent]) (n := 3) (Nat.le_of_ble_eq_true rfl)
  rw [lg_entry_eq]
  generalize (lg_sl ([.ref ((ca 0)), .int sort, .int parent]) ++ List.replicate (3 - (lg_sl ([.ref ((ca 0)), .int sort, .int parent])).length) Slot.unset).toArray = ls at hl ⊢
  have hl : lv_has ls 3 [(0, .ref ((ca 0))), (1, .int sort), (2, .int parent)] := hl
  refine lv_iload_n hx hb dX7_type_0 rfl (lv_at hl 1 rfl) ?_
  refine lv_if_lt (tgt := 9) hx hb dX7_type_1 (by decide) (fun c1 => ?_) (fun c1 => ?_)
  · -- 1 taken
    refine lv_bipush (v := -13) hx hb dX7_type_9 (by decide) ?_
    exact cm_iret (v0 := (-13)) hx hb hr hlocks hP hD hS dX7_type_11 (by unfold oType; simp only [eq_true c1, eq_false (show ¬ 0 ≤ sort from fun h9 => by simp only [i_le, i_lt, Int32.reduceToInt] at c1 h9; omega), if_true, not_true, not_false_iff, not_true_eq_false, not_false_eq_true, true_or, or_true, false_or, or_false, or_self, and_self, true_and, and_true, false_and, and_false, if_true, if_false, eq_false (show ¬ (0 : Int32) ≤ -11 by decide), eq_false (show ¬ (0 : Int32) ≤ -12 by decide), eq_false (show ¬ (0 : Int32) ≤ -13 by decide), eq_false (show ¬ (0 : Int32) ≤ -14 by decide), eq_false (show ¬ (0 : Int32) ≤ -15 by decide)]; try rfl) (by unfold xTy oType; simp only [eq_true (show (0 : Int32) ≤ nI n from nI_pos' (by omega)), eq_true c1, eq_false (show ¬ 0 ≤ sort from fun h9 => by simp only [eq_true (show (0 : Int32) ≤ nI n from nI_pos' (by omega)), i_le, i_lt, Int32.reduceToInt] at c1 h9; omega), if_true, not_true, not_false_iff, not_true_eq_false, not_false_eq_true, true_or, or_true, false_or, or_false, or_self, and_self, true_and, and_true, false_and, and_false, if_true, if_false, eq_false (show ¬ (0 : Int32) ≤ -11 by decide), eq_false (show ¬ (0 : Int32) ≤ -12 by decide), eq_false (show ¬ (0 : Int32) ≤ -13 by decide), eq_false (show ¬ (0 : Int32) ≤ -14 by decide), eq_false (show ¬ (0 : Int32) ≤ -15 by decide)]; try rfl)
  · -- 1 not
    refine lv_iload_n hx hb dX7_type_4 rfl (lv_at hl 1 rfl) ?_
    refine lv_iconst (v := 3) hx hb dX7_type_5 (by decide) ?_
    refine lv_icmp_le (tgt := 12) hx hb dX7_type_6 (by decide) (fun c2 => ?_) (fun c2 => ?_)
    · -- 6 taken
      refine lv_iload_n hx hb dX7_type_12 rfl (lv_at hl 2 rfl) ?_
      refine lv_iconst (v := -1) hx hb dX7_type_13 (by decide) ?_
      refine lv_icmp_eq (tgt := 36) hx hb dX7_type_14 (by decide) (fun c3 => ?_) (fun c3 => ?_)
      · -- 14 taken
        refine lv_aload_n hx hb dX7_type_36 rfl (lv_at hl 0 rfl) ?_
        refine va_get (D := D) (ci := 7) (v := .ref ((ca 1))) (C := RX7) (T := TX7) (N := 11) hx hb hts iX7 hown hK.1 hP 0 rfl rfl 0 (by decide) (hts _ q_73) (fun _ h9 => h9) rfl dX7_type_37 ?_
        refine lv_iload_n hx hb dX7_type_40 rfl (lv_at hl 1 rfl) ?_
        refine lv_iload_n hx hb dX7_type_41 rfl (lv_at hl 2 rfl) ?_
        by_cases h24 : n = 12
        · -- yes
          refine cm_Vi (D := D) (G := G) (As := [.int sort, .int parent]) (rest := []) ⟨hx, hb, hml, hown, hts⟩ (c_tAddFull l D G ca _ ea n k w0 σ x κ _ _ hE hI0 sort parent h24) gV_X7_X6_add hdV_X6_add ⟨Nat.le_of_ble_eq_true rfl, Nat.le_of_ble_eq_true rfl⟩ hK (va_recv hK.1 hP (ci := 6) (q0 := 1) rfl rfl) hP hD hS hA rfl hl.1 rfl (Nat.le_of_ble_eq_true rfl) dX7_type_42 ⟨Nat.le_of_ble_eq_true rfl, Nat.le_of_ble_eq_true rfl⟩ (fun ws H locs hw hP hD hS => ?_)
          subst hw
          have hP : va_P D vwCl (cF G ca bg (enF ea k) σ x ++ pl) H := hP
          have hD : va_D A (cF G ca bg (enF ea k) σ x ++ pl) := hD
          refine W.eq (g2 := F0 m 45 ls [.int ((-15))]) rfl ?_
          exact cm_iret (v0 := (-15)) hx hb hr hlocks hP hD hS dX7_type_45 (by unfold oType; simp only [eq_false c1, eq_true c2, eq_true c3, eq_true (show 0 ≤ sort from by have h8 := c1; simp only [i_le, i_lt, Int32.reduceToInt] at h8 ⊢; omega), eq_true h24, if_true, not_true, not_false_iff, not_true_eq_false, not_false_eq_true, true_or, or_true, false_or, or_false, or_self, and_self, true_and, and_true, false_and, and_false, if_true, if_false, eq_false (show ¬ (0 : Int32) ≤ -11 by decide), eq_false (show ¬ (0 : Int32) ≤ -12 by decide), eq_false (show ¬ (0 : Int32) ≤ -13 by decide), eq_false (show ¬ (0 : Int32) ≤ -14 by decide), eq_false (show ¬ (0 : Int32) ≤ -15 by decide)]; try rfl) (by unfold xTy oType; simp only [eq_true (show (0 : Int32) ≤ nI n from nI_pos' (by omega)), eq_false c1, eq_true c2, eq_true c3, eq_true (show 0 ≤ sort from by have h8 := c1; simp only [eq_true (show (0 : Int32) ≤ nI n from nI_pos' (by omega)), i_le, i_lt, Int32.reduceToInt] at h8 ⊢; omega), eq_true h24, if_true, not_true, not_false_iff, not_true_eq_false, not_false_eq_true, true_or, or_true, false_or, or_false, or_self, and_self, true_and, and_true, false_and, and_false, if_true, if_false, eq_false (show ¬ (0 : Int32) ≤ -11 by decide), eq_false (show ¬ (0 : Int32) ≤ -12 by decide), eq_false (show ¬ (0 : Int32) ≤ -13 by decide), eq_false (show ¬ (0 : Int32) ≤ -14 by decide), eq_false (show ¬ (0 : Int32) ≤ -15 by decide)]; try rfl)
        · -- no
          refine cm_Vi (D := D) (G := G) (As := [.int sort, .int parent]) (rest := []) ⟨hx, hb, hml, hown, hts⟩ (c_tAdd l D G ca _ ea n k w0 σ x κ _ _ hE hI0 sort parent (by omega)) gV_X7_X6_add hdV_X6_add ⟨Nat.le_of_ble_eq_true rfl, Nat.le_of_ble_eq_true rfl⟩ hK (va_recv hK.1 hP (ci := 6) (q0 := 1) rfl rfl) hP hD hS hA rfl hl.1 rfl (Nat.le_of_ble_eq_true rfl) dX7_type_42 ⟨Nat.le_of_ble_eq_true rfl, Nat.le_of_ble_eq_true rfl⟩ (fun ws H locs hw hP hD hS => ?_)
          subst hw
          have hP : va_P D vwCl (cF G ca bg (enF ea k) (su (su (su σ 2 (n) (sort)) 3 (n) (parent)) 1 (0) (nI (n + 1))) (su (su x 0 (n) (0)) 1 (n) (abvF parent 0 (x 1) n n)) ++ pl) H := hP
          have hD : va_D A (cF G ca bg (enF ea k) (su (su (su σ 2 (n) (sort)) 3 (n) (parent)) 1 (0) (nI (n + 1))) (su (su x 0 (n) (0)) 1 (n) (abvF parent 0 (x 1) n n)) ++ pl) := hD
          refine W.eq (g2 := F0 m 45 ls [.int (nI n)]) rfl ?_
          exact cm_iret (v0 := nI n) hx hb hr hlocks hP hD hS dX7_type_45 (by unfold oType; simp only [eq_false c1, eq_true c2, eq_true c3, eq_true (show 0 ≤ sort from by have h8 := c1; simp only [i_le, i_lt, Int32.reduceToInt] at h8 ⊢; omega), eq_false h24, if_true, not_true, not_false_iff, not_true_eq_false, not_false_eq_true, true_or, or_true, false_or, or_false, or_self, and_self, true_and, and_true, false_and, and_false, if_true, if_false, eq_false (show ¬ (0 : Int32) ≤ -11 by decide), eq_false (show ¬ (0 : Int32) ≤ -12 by decide), eq_false (show ¬ (0 : Int32) ≤ -13 by decide), eq_false (show ¬ (0 : Int32) ≤ -14 by decide), eq_false (show ¬ (0 : Int32) ≤ -15 by decide)]; try rfl) (by unfold xTy oType; simp only [eq_true (show (0 : Int32) ≤ nI n from nI_pos' (by omega)), eq_false c1, eq_true c2, eq_true c3, eq_true (show 0 ≤ sort from by have h8 := c1; simp only [eq_true (show (0 : Int32) ≤ nI n from nI_pos' (by omega)), i_le, i_lt, Int32.reduceToInt] at h8 ⊢; omega), eq_false h24, if_true, not_true, not_false_iff, not_true_eq_false, not_false_eq_true, true_or, or_true, false_or, or_false, or_self, and_self, true_and, and_true, false_and, and_false, if_true, if_false, eq_false (show ¬ (0 : Int32) ≤ -11 by decide), eq_false (show ¬ (0 : Int32) ≤ -12 by decide), eq_false (show ¬ (0 : Int32) ≤ -13 by decide), eq_false (show ¬ (0 : Int32) ≤ -14 by decide), eq_false (show ¬ (0 : Int32) ≤ -15 by decide)]; try rfl)
      · -- 14 not
        refine lv_iload_n hx hb dX7_type_17 rfl (lv_at hl 1 rfl) ?_
        refine lv_iconst (v := 3) hx hb dX7_type_18 (by decide) ?_
        refine lv_icmp_eq (tgt := 33) hx hb dX7_type_19 (by decide) (fun c5 => ?_) (fun c5 => ?_)
        · -- 19 taken
          refine lv_bipush (v := -11) hx hb dX7_type_33 (by decide) ?_
          exact cm_iret (v0 := (-11)) hx hb hr hlocks hP hD hS dX7_type_35 (by unfold oType; simp only [eq_false c1, eq_true c2, eq_false c3, eq_true c5, eq_true (show 0 ≤ sort from by have h8 := c1; simp only [i_le, i_lt, Int32.reduceToInt] at h8 ⊢; omega), if_true, not_true, not_false_iff, not_true_eq_false, not_false_eq_true, true_or, or_true, false_or, or_false, or_self, and_self, true_and, and_true, false_and, and_false, if_true, if_false, eq_false (show ¬ (0 : Int32) ≤ -11 by decide), eq_false (show ¬ (0 : Int32) ≤ -12 by decide), eq_false (show ¬ (0 : Int32) ≤ -13 by decide), eq_false (show ¬ (0 : Int32) ≤ -14 by decide), eq_false (show ¬ (0 : Int32) ≤ -15 by decide)]; try rfl) (by unfold xTy oType; simp only [eq_true (show (0 : Int32) ≤ nI n from nI_pos' (by omega)), eq_false c1, eq_true c2, eq_false c3, eq_true c5, eq_true (show 0 ≤ sort from by have h8 := c1; simp only [eq_true (show (0 : Int32) ≤ nI n from nI_pos' (by omega)), i_le, i_lt, Int32.reduceToInt] at h8 ⊢; omega), if_true, not_true, not_false_iff, not_true_eq_false, not_false_eq_true, true_or, or_true, false_or, or_false, or_self, and_self, true_and, and_true, false_and, and_false, if_true, if_false, eq_false (show ¬ (0 : Int32) ≤ -11 by decide), eq_false (show ¬ (0 : Int32) ≤ -12 by decide), eq_false (show ¬ (0 : Int32) ≤ -13 by decide), eq_false (show ¬ (0 : Int32) ≤ -14 by decide), eq_false (show ¬ (0 : Int32) ≤ -15 by decide)]; try rfl)
        · -- 19 not
          refine lv_aload_n hx hb dX7_type_22 rfl (lv_at hl 0 rfl) ?_
          refine va_get (D := D) (ci := 7) (v := .ref ((ca 1))) (C := RX7) (T := TX7) (N := 11) hx hb hts iX7 hown hK.1 hP 0 rfl rfl 0 (by decide) (hts _ q_73) (fun _ h9 => h9) rfl dX7_type_23 ?_
          refine lv_iload_n hx hb dX7_type_26 rfl (lv_at hl 2 rfl) ?_
          have hPf : va_P D vwCl (cF G ca bg (enF ea k) σ x) _ := cF_of hP
          have hEf : ∀ e, e < k → va_P D vwCl (eW G (ea e) σ κ e) _ := plE_P hP hE
          refine ro_Vi (D := D) (G := G) (As := [.int parent]) (rest := []) ⟨hx, hb, hml, hown, hts⟩ (c_mayBeParent l D G _ ca σ x (cF_ty hPf) n h1 hn parent) gV_X7_X6_mayBeParent hdV_X6_mayBeParent ⟨Nat.le_of_ble_eq_true rfl, Nat.le_of_ble_eq_true rfl⟩ hK (va_recv hK.1 hP (ci := 6) (q0 := 1) rfl rfl) rfl hl.1 rfl (Nat.le_of_ble_eq_true rfl) dX7_type_27 ⟨Nat.le_of_ble_eq_true rfl, Nat.le_of_ble_eq_true rfl⟩ (fun r6 e_r6 => ?_)
          subst e_r6
          refine W.eq (g2 := F0 m 30 ls [.int (bI (soF (σ 2) n parent = 0 ∨ soF (σ 2) n parent = 1))]) rfl ?_
          refine lv_if_ne (tgt := 36) hx hb dX7_type_30 (by decide) (fun c7 => ?_) (fun c7 => ?_)
          · -- 30 taken
            have c7 := bI_1 c7
            refine lv_aload_n hx hb dX7_type_36 rfl (lv_at hl 0 rfl) ?_
            refine va_get (D := D) (ci := 7) (v := .ref ((ca 1))) (C := RX7) (T := TX7) (N := 11) hx hb hts iX7 hown hK.1 hP 0 rfl rfl 0 (by decide) (hts _ q_73) (fun _ h9 => h9) rfl dX7_type_37 ?_
            refine lv_iload_n hx hb dX7_type_40 rfl (lv_at hl 1 rfl) ?_
            refine lv_iload_n hx hb dX7_type_41 rfl (lv_at hl 2 rfl) ?_
            by_cases h28 : n = 12
            · -- yes
              refine cm_Vi (D := D) (G := G) (As := [.int sort, .int parent]) (rest := []) ⟨hx, hb, hml, hown, hts⟩ (c_tAddFull l D G ca _ ea n k w0 σ x κ _ _ hE hI0 sort parent h28) gV_X7_X6_add hdV_X6_add ⟨Nat.le_of_ble_eq_true rfl, Nat.le_of_ble_eq_true rfl⟩ hK (va_recv hK.1 hP (ci := 6) (q0 := 1) rfl rfl) hP hD hS hA rfl hl.1 rfl (Nat.le_of_ble_eq_true rfl) dX7_type_42 ⟨Nat.le_of_ble_eq_true rfl, Nat.le_of_ble_eq_true rfl⟩ (fun ws H locs hw hP hD hS => ?_)
              subst hw
              have hP : va_P D vwCl (cF G ca bg (enF ea k) σ x ++ pl) H := hP
              have hD : va_D A (cF G ca bg (enF ea k) σ x ++ pl) := hD
              refine W.eq (g2 := F0 m 45 ls [.int ((-15))]) rfl ?_
              exact cm_iret (v0 := (-15)) hx hb hr hlocks hP hD hS dX7_type_45 (by unfold oType; simp only [eq_false c1, eq_true c2, eq_false c3, eq_false c5, eq_true c7, eq_true (show 0 ≤ sort from by have h8 := c1; simp only [i_le, i_lt, Int32.reduceToInt] at h8 ⊢; omega), eq_false ((mbp hsr hn).mp c7), eq_true h28, if_true, not_true, not_false_iff, not_true_eq_false, not_false_eq_true, true_or, or_true, false_or, or_false, or_self, and_self, true_and, and_true, false_and, and_false, if_true, if_false, eq_false (show ¬ (0 : Int32) ≤ -11 by decide), eq_false (show ¬ (0 : Int32) ≤ -12 by decide), eq_false (show ¬ (0 : Int32) ≤ -13 by decide), eq_false (show ¬ (0 : Int32) ≤ -14 by decide), eq_false (show ¬ (0 : Int32) ≤ -15 by decide)]; try rfl) (by unfold xTy oType; simp only [eq_true (show (0 : Int32) ≤ nI n from nI_pos' (by omega)), eq_false c1, eq_true c2, eq_false c3, eq_false c5, eq_true c7, eq_true (show 0 ≤ sort from by have h8 := c1; simp only [eq_true (show (0 : Int32) ≤ nI n from nI_pos' (by omega)), i_le, i_lt, Int32.reduceToInt] at h8 ⊢; omega), eq_false ((mbp hsr hn).mp c7), eq_true h28, if_true, not_true, not_false_iff, not_true_eq_false, not_false_eq_true, true_or, or_true, false_or, or_false, or_self, and_self, true_and, and_true, false_and, and_false, if_true, if_false, eq_false (show ¬ (0 : Int32) ≤ -11 by decide), eq_false (show ¬ (0 : Int32) ≤ -12 by decide), eq_false (show ¬ (0 : Int32) ≤ -13 by decide), eq_false (show ¬ (0 : Int32) ≤ -14 by decide), eq_false (show ¬ (0 : Int32) ≤ -15 by decide)]; try rfl)
            · -- no
              refine cm_Vi (D := D) (G := G) (As := [.int sort, .int parent]) (rest := []) ⟨hx, hb, hml, hown, hts⟩ (c_tAdd l D G ca _ ea n k w0 σ x κ _ _ hE hI0 sort parent (by omega)) gV_X7_X6_add hdV_X6_add ⟨Nat.le_of_ble_eq_true rfl, Nat.le_of_ble_eq_true rfl⟩ hK (va_recv hK.1 hP (ci := 6) (q0 := 1) rfl rfl) hP hD hS hA rfl hl.1 rfl (Nat.le_of_ble_eq_true rfl) dX7_type_42 ⟨Nat.le_of_ble_eq_true rfl, Nat.le_of_ble_eq_true rfl⟩ (fun ws H locs hw hP hD hS => ?_)
              subst hw
              have hP : va_P D vwCl (cF G ca bg (enF ea k) (su (su (su σ 2 (n) (sort)) 3 (n) (parent)) 1 (0) (nI (n + 1))) (su (su x 0 (n) (0)) 1 (n) (abvF parent 0 (x 1) n n)) ++ pl) H := hP
              have hD : va_D A (cF G ca bg (enF ea k) (su (su (su σ 2 (n) (sort)) 3 (n) (parent)) 1 (0) (nI (n + 1))) (su (su x 0 (n) (0)) 1 (n) (abvF parent 0 (x 1) n n)) ++ pl) := hD
              refine W.eq (g2 := F0 m 45 ls [.int (nI n)]) rfl ?_
              exact cm_iret (v0 := nI n) hx hb hr hlocks hP hD hS dX7_type_45 (by unfold oType; simp only [eq_false c1, eq_true c2, eq_false c3, eq_false c5, eq_true c7, eq_true (show 0 ≤ sort from by have h8 := c1; simp only [i_le, i_lt, Int32.reduceToInt] at h8 ⊢; omega), eq_false ((mbp hsr hn).mp c7), eq_false h28, if_true, not_true, not_false_iff, not_true_eq_false, not_false_eq_true, true_or, or_true, false_or, or_false, or_self, and_self, true_and, and_true, false_and, and_false, if_true, if_false, eq_false (show ¬ (0 : Int32) ≤ -11 by decide), eq_false (show ¬ (0 : Int32) ≤ -12 by decide), eq_false (show ¬ (0 : Int32) ≤ -13 by decide), eq_false (show ¬ (0 : Int32) ≤ -14 by decide), eq_false (show ¬ (0 : Int32) ≤ -15 by decide)]; try rfl) (by unfold xTy oType; simp only [eq_true (show (0 : Int32) ≤ nI n from nI_pos' (by omega)), eq_false c1, eq_true c2, eq_false c3, eq_false c5, eq_true c7, eq_true (show 0 ≤ sort from by have h8 := c1; simp only [eq_true (show (0 : Int32) ≤ nI n from nI_pos' (by omega)), i_le, i_lt, Int32.reduceToInt] at h8 ⊢; omega), eq_false ((mbp hsr hn).mp c7), eq_false h28, if_true, not_true, not_false_iff, not_true_eq_false, not_false_eq_true, true_or, or_true, false_or, or_false, or_self, and_self, true_and, and_true, false_and, and_false, if_true, if_false, eq_false (show ¬ (0 : Int32) ≤ -11 by decide), eq_false (show ¬ (0 : Int32) ≤ -12 by decide), eq_false (show ¬ (0 : Int32) ≤ -13 by decide), eq_false (show ¬ (0 : Int32) ≤ -14 by decide), eq_false (show ¬ (0 : Int32) ≤ -15 by decide)]; try rfl)
          · -- 30 not
            have c7 := bI_0 c7
            refine lv_bipush (v := -11) hx hb dX7_type_33 (by decide) ?_
            exact cm_iret (v0 := (-11)) hx hb hr hlocks hP hD hS dX7_type_35 (by unfold oType; simp only [eq_false c1, eq_true c2, eq_false c3, eq_false c5, eq_false c7, eq_true (show 0 ≤ sort from by have h8 := c1; simp only [i_le, i_lt, Int32.reduceToInt] at h8 ⊢; omega), eq_true (Decidable.of_not_not (mt (mbp hsr hn).mpr c7)), if_true, not_true, not_false_iff, not_true_eq_false, not_false_eq_true, true_or, or_true, false_or, or_false, or_self, and_self, true_and, and_true, false_and, and_false, if_true, if_false, eq_false (show ¬ (0 : Int32) ≤ -11 by decide), eq_false (show ¬ (0 : Int32) ≤ -12 by decide), eq_false (show ¬ (0 : Int32) ≤ -13 by decide), eq_false (show ¬ (0 : Int32) ≤ -14 by decide), eq_false (show ¬ (0 : Int32) ≤ -15 by decide)]; try rfl) (by unfold xTy oType; simp only [eq_true (show (0 : Int32) ≤ nI n from nI_pos' (by omega)), eq_false c1, eq_true c2, eq_false c3, eq_false c5, eq_false c7, eq_true (show 0 ≤ sort from by have h8 := c1; simp only [eq_true (show (0 : Int32) ≤ nI n from nI_pos' (by omega)), i_le, i_lt, Int32.reduceToInt] at h8 ⊢; omega), eq_true (Decidable.of_not_not (mt (mbp hsr hn).mpr c7)), if_true, not_true, not_false_iff, not_true_eq_false, not_false_eq_true, true_or, or_true, false_or, or_false, or_self, and_self, true_and, and_true, false_and, and_false, if_true, if_false, eq_false (show ¬ (0 : Int32) ≤ -11 by decide), eq_false (show ¬ (0 : Int32) ≤ -12 by decide), eq_false (show ¬ (0 : Int32) ≤ -13 by decide), eq_false (show ¬ (0 : Int32) ≤ -14 by decide), eq_false (show ¬ (0 : Int32) ≤ -15 by decide)]; try rfl)
    · -- 6 not
      refine lv_bipush (v := -13) hx hb dX7_type_9 (by decide) ?_
      exact cm_iret (v0 := (-13)) hx hb hr hlocks hP hD hS dX7_type_11 (by unfold oType; simp only [eq_false c1, eq_false c2, eq_true (show 0 ≤ sort from by have h8 := c1; simp only [i_le, i_lt, Int32.reduceToInt] at h8 ⊢; omega), if_true, not_true, not_false_iff, not_true_eq_false, not_false_eq_true, true_or, or_true, false_or, or_false, or_self, and_self, true_and, and_true, false_and, and_false, if_true, if_false, eq_false (show ¬ (0 : Int32) ≤ -11 by decide), eq_false (show ¬ (0 : Int32) ≤ -12 by decide), eq_false (show ¬ (0 : Int32) ≤ -13 by decide), eq_false (show ¬ (0 : Int32) ≤ -14 by decide), eq_false (show ¬ (0 : Int32) ≤ -15 by decide)]; try rfl) (by unfold xTy oType; simp only [eq_true (show (0 : Int32) ≤ nI n from nI_pos' (by omega)), eq_false c1, eq_false c2, eq_true (show 0 ≤ sort from by have h8 := c1; simp only [eq_true (show (0 : Int32) ≤ nI n from nI_pos' (by omega)), i_le, i_lt, Int32.reduceToInt] at h8 ⊢; omega), if_true, not_true, not_false_iff, not_true_eq_false, not_false_eq_true, true_or, or_true, false_or, or_false, or_self, and_self, true_and, and_true, false_and, and_false, if_true, if_false, eq_false (show ¬ (0 : Int32) ≤ -11 by decide), eq_false (show ¬ (0 : Int32) ≤ -12 by decide), eq_false (show ¬ (0 : Int32) ≤ -13 by decide), eq_false (show ¬ (0 : Int32) ≤ -14 by decide), eq_false (show ¬ (0 : Int32) ≤ -15 by decide)]; try rfl)
set_option maxHeartbeats 800000 in
set_option maxRecDepth 100000 in
theorem c_face (l : Launch) (D : va_G) (G : Nat → ClassId) (ca : Nat → Nat) (bg : Value) (ea : Nat → Nat → Nat) (n k w0 : Nat) (σ x : MS) (κ : Nat → Int64) (pl : va_W) (sz : Nat) (hE : plE G ea σ κ k pl) (hI : cI σ x n k w0) (t f : Int32) (ba : Nat → Nat) (hbg : (bg = .null ∧ σ 21 0 = 0) ∨ (bg = .ref (ba 0) ∧ ¬ σ 21 0 = 0)) : Met l yX7_face (ww yX7_face cX7_face 3 (some .int)) (rmC 4 0 0) (cmP D G sz (cF G ca bg (enF ea k) σ x ++ pl) [.ref ((ca 0)), .int t, .int f]) (cmQi D (va_A (cF G ca bg (enF ea k) σ x ++ pl) sz) ((cfa σ x n k t f).1) (fun z8 => z8 = cF G ca bg (enF ea k) σ (cfa σ x n k t f).2 ++ pl)) 0 0 (va_A (cF G ca bg (enF ea k) σ x ++ pl) sz) := by
  refine Met.ofW (cc := cX7_face) (maxL := 3) (ret := (some .int)) (by decide) rfl ?_
  intro p e s m args below meth c s₁ B hml hv
  obtain ⟨rfl, hsz, hP, hK, hD0⟩ := hv
  have hx := B.exec
  have hb := B.bytes
  have hr := B.returns
  have hts : ∀ w ∈ TT, w.before _ s = true := fun w h => atoms_spec (ws := ww yX7_face cX7_face 3 (some .int)) B.pre w (List.mem_cons_of_mem _ h)
  have hown : s.vm.findClass RX7 = some m.cls := findClass_of_methodNamed B.named
  have hlocks := B.notSynchronized
  subst hsz
  have hD : va_D (va_A (cF G ca bg (enF ea k) σ x ++ pl) s.heap.size) (cF G ca bg (enF ea k) σ x ++ pl) := hD0.self
  generalize hAe : va_A (cF G ca bg (enF ea k) σ x ++ pl) s.heap.size = A at hD ⊢
  have hA : ∀ q : Nat, s.heap.size ≤ q → A q := fun q h => by rw [← hAe]; exact Or.inr h
  have hS : va_S A s.heap s.heap [] := va_S.rf
  have hP : va_P D vwCl (cF G ca bg (enF ea k) σ x ++ pl) s.heap := hP
  have hI0 := hI
  obtain ⟨h1, hn, h7, hk60, h22, hw, hab, hfa, hmi, hak, hrf⟩ := hI
  have hl := lv_entry ([.ref ((ca 0)), .int t, .int f]) (n := 3) (Nat.le_of_ble_eq_true rfl)
  rw [lg_entry_eq]
  generalize (lg_sl ([.ref ((ca 0)), .int t, .int f]) ++ List.replicate (3 - (lg_sl ([.ref ((ca 0)), .int t, .int f])).length) Slot.unset).toArray = ls at hl ⊢
  have hl : lv_has ls 3 [(0, .ref ((ca 0))), (1, .int t), (2, .int f)] := hl
  refine lv_aload_n hx hb dX7_face_0 rfl (lv_at hl 0 rfl) ?_
  refine va_get (D := D) (ci := 7) (v := .ref ((ca 1))) (C := RX7) (T := TX7) (N := 11) hx hb hts iX7 hown hK.1 hP 0 rfl rfl 0 (by decide) (hts _ q_73) (fun _ h9 => h9) rfl dX7_face_1 ?_
  refine lv_iload_n hx hb dX7_face_4 rfl (lv_at hl 1 rfl) ?_
  have hPf : va_P D vwCl (cF G ca bg (enF ea k) σ x) _ := cF_of hP
  have hEf : ∀ e, e < k → va_P D vwCl (eW G (ea e) σ κ e) _ := plE_P hP hE
  refine ro_Vi (D := D) (G := G) (As := [.int t]) (rest := []) ⟨hx, hb, hml, hown, hts⟩ (c_has l D G _ ca σ x (cF_ty hPf) n h1 hn t) gV_X7_X6_has hdV_X6_has ⟨Nat.le_of_ble_eq_true rfl, Nat.le_of_ble_eq_true rfl⟩ hK (va_recv hK.1 hP (ci := 6) (q0 := 1) rfl rfl) rfl hl.1 rfl (Nat.le_of_ble_eq_true rfl) dX7_face_5 ⟨Nat.le_of_ble_eq_true rfl, Nat.le_of_ble_eq_true rfl⟩ (fun r1 e_r1 => ?_)
  subst e_r1
  refine W.eq (g2 := F0 m 8 ls [.int (bI (okN n t))]) rfl ?_
  refine lv_if_eq (tgt := 22) hx hb dX7_face_8 (by decide) (fun c2 => ?_) (fun c2 => ?_)
  · -- 8 taken
    have c2 := bI_0 c2
    refine lv_bipush (v := -11) hx hb dX7_face_22 (by decide) ?_
    exact cm_iret (v0 := (-11)) hx hb hr hlocks hP hD hS dX7_face_24 (by unfold cfa; simp only [eq_false c2, if_true, not_true, not_false_iff, not_true_eq_false, not_false_eq_true, true_or, or_true, false_or, or_false, or_self, and_self, true_and, and_true, false_and, and_false, if_true, if_false, eq_false (show ¬ (0 : Int32) ≤ -11 by decide), eq_false (show ¬ (0 : Int32) ≤ -12 by decide), eq_false (show ¬ (0 : Int32) ≤ -13 by decide), eq_false (show ¬ (0 : Int32) ≤ -14 by decide), eq_false (show ¬ (0 : Int32) ≤ -15 by decide)]; try rfl) (by unfold cfa; simp only [eq_false c2, if_true, not_true, not_false_iff, not_true_eq_false, not_false_eq_true, true_or, or_true, false_or, or_false, or_self, and_self, true_and, and_true, false_and, and_false, if_true, if_false, eq_false (show ¬ (0 : Int32) ≤ -11 by decide), eq_false (show ¬ (0 : Int32) ≤ -12 by decide), eq_false (show ¬ (0 : Int32) ≤ -13 by decide), eq_false (show ¬ (0 : Int32) ≤ -14 by decide), eq_false (show ¬ (0 : Int32) ≤ -15 by decide)]; try rfl)
  · -- 8 not
    have c2 := bI_1 c2
    obtain ⟨j3, h_j3, rfl⟩ := okN_ex (by omega) c2
    refine lv_aload_n hx hb dX7_face_11 rfl (lv_at hl 0 rfl) ?_
    refine va_get (D := D) (ci := 7) (v := .ref ((ca 1))) (C := RX7) (T := TX7) (N := 11) hx hb hts iX7 hown hK.1 hP 0 rfl rfl 0 (by decide) (hts _ q_73) (fun _ h9 => h9) rfl dX7_face_12 ?_
    refine lv_iload_n hx hb dX7_face_15 rfl (lv_at hl 2 rfl) ?_
    refine ro_Vi (D := D) (G := G) (As := [.int f]) (rest := []) ⟨hx, hb, hml, hown, hts⟩ (c_isFace l D G _ ca σ x (cF_ty hPf) n h1 hn f) gV_X7_X6_isFace hdV_X6_isFace ⟨Nat.le_of_ble_eq_true rfl, Nat.le_of_ble_eq_true rfl⟩ hK (va_recv hK.1 hP (ci := 6) (q0 := 1) rfl rfl) rfl hl.1 rfl (Nat.le_of_ble_eq_true rfl) dX7_face_16 ⟨Nat.le_of_ble_eq_true rfl, Nat.le_of_ble_eq_true rfl⟩ (fun r4 e_r4 => ?_)
    subst e_r4
    refine W.eq (g2 := F0 m 19 ls [.int (bI (soF (σ 2) n f = 3))]) rfl ?_
    refine lv_if_ne (tgt := 25) hx hb dX7_face_19 (by decide) (fun c5 => ?_) (fun c5 => ?_)
    · -- 19 taken
      have c5 := bI_1 c5
      have hokf : okN n f := by rcases Decidable.em (okN n f) with h9 | h9; exact h9; have h8 := c5; unfold soF at h8; rw [if_neg h9] at h8; exact absurd h8 (by decide)
      obtain ⟨jf, h_jf, rfl⟩ := okN_ex (by omega) hokf
      refine lv_iload_n hx hb dX7_face_25 rfl (lv_at hl 2 rfl) ?_
      refine lv_iload_n hx hb dX7_face_26 rfl (lv_at hl 1 rfl) ?_
      refine lv_icmp_lt (tgt := 33) hx hb dX7_face_27 (by decide) (fun c6 => ?_) (fun c6 => ?_)
      · -- 27 taken
        refine lv_aload_n hx hb dX7_face_33 rfl (lv_at hl 0 rfl) ?_
        refine va_get (D := D) (ci := 7) (v := .ref ((ca 1))) (C := RX7) (T := TX7) (N := 11) hx hb hts iX7 hown hK.1 hP 0 rfl rfl 0 (by decide) (hts _ q_73) (fun _ h9 => h9) rfl dX7_face_34 ?_
        refine lv_iload_n hx hb dX7_face_37 rfl (lv_at hl 1 rfl) ?_
        refine lv_iload_n hx hb dX7_face_38 rfl (lv_at hl 2 rfl) ?_
        refine ro_Vi (D := D) (G := G) (As := [.int (nI j3), .int (nI jf)]) (rest := []) ⟨hx, hb, hml, hown, hts⟩ (c_hasFace l D G _ ca σ x (cF_ty hPf) n h1 hn (nI j3) (nI jf)) gV_X7_X6_hasFace hdV_X6_hasFace ⟨Nat.le_of_ble_eq_true rfl, Nat.le_of_ble_eq_true rfl⟩ hK (va_recv hK.1 hP (ci := 6) (q0 := 1) rfl rfl) rfl hl.1 rfl (Nat.le_of_ble_eq_true rfl) dX7_face_39 ⟨Nat.le_of_ble_eq_true rfl, Nat.le_of_ble_eq_true rfl⟩ (fun r7 e_r7 => ?_)
        subst e_r7
        refine W.eq (g2 := F0 m 42 ls [.int (bI (bitN (x 0) n (nI j3) (nI jf)))]) rfl ?_
        refine lv_if_ne (tgt := 59) hx hb dX7_face_42 (by decide) (fun c8 => ?_) (fun c8 => ?_)
        · -- 42 taken
          have c8 := bI_1 c8
          refine lv_bipush (v := -14) hx hb dX7_face_59 (by decide) ?_
          exact cm_iret (v0 := (-14)) hx hb hr hlocks hP hD hS dX7_face_61 (by unfold cfa; simp only [eq_true c2, eq_true c5, eq_true c6, eq_true c8, if_true, nI_clamp (show j3 < 2 ^ 31 by omega), nI_clamp (show jf < 2 ^ 31 by omega), not_true, not_false_iff, not_true_eq_false, not_false_eq_true, true_or, or_true, false_or, or_false, or_self, and_self, true_and, and_true, false_and, and_false, if_true, if_false, eq_false (show ¬ (0 : Int32) ≤ -11 by decide), eq_false (show ¬ (0 : Int32) ≤ -12 by decide), eq_false (show ¬ (0 : Int32) ≤ -13 by decide), eq_false (show ¬ (0 : Int32) ≤ -14 by decide), eq_false (show ¬ (0 : Int32) ≤ -15 by decide)]; try rfl) (by unfold cfa; simp only [eq_true c2, eq_true c5, eq_true c6, eq_true c8, if_true, nI_clamp (show j3 < 2 ^ 31 by omega), nI_clamp (show jf < 2 ^ 31 by omega), not_true, not_false_iff, not_true_eq_false, not_false_eq_true, true_or, or_true, false_or, or_false, or_self, and_self, true_and, and_true, false_and, and_false, if_true, if_false, eq_false (show ¬ (0 : Int32) ≤ -11 by decide), eq_false (show ¬ (0 : Int32) ≤ -12 by decide), eq_false (show ¬ (0 : Int32) ≤ -13 by decide), eq_false (show ¬ (0 : Int32) ≤ -14 by decide), eq_false (show ¬ (0 : Int32) ≤ -15 by decide)]; try rfl)
        · -- 42 not
          have c8 := bI_0 c8
          refine lv_aload_n hx hb dX7_face_45 rfl (lv_at hl 0 rfl) ?_
          refine va_get (D := D) (ci := 7) (v := .int (σ 7 0)) (C := RX7) (T := TX7) (N := 11) hx hb hts iX7 hown hK.1 hP 0 rfl rfl 2 (by decide) (hts _ q_75) (fun _ h9 => h9) rfl dX7_face_46 ?_
          refine lv_if_gt (tgt := 59) hx hb dX7_face_49 (by decide) (fun c9 => ?_) (fun c9 => ?_)
          · -- 49 taken
            refine lv_bipush (v := -14) hx hb dX7_face_59 (by decide) ?_
            exact cm_iret (v0 := (-14)) hx hb hr hlocks hP hD hS dX7_face_61 (by unfold cfa; simp only [eq_true c2, eq_true c5, eq_true c6, eq_false c8, eq_true c9, if_true, nI_clamp (show j3 < 2 ^ 31 by omega), nI_clamp (show jf < 2 ^ 31 by omega), not_true, not_false_iff, not_true_eq_false, not_false_eq_true, true_or, or_true, false_or, or_false, or_self, and_self, true_and, and_true, false_and, and_false, if_true, if_false, eq_false (show ¬ (0 : Int32) ≤ -11 by decide), eq_false (show ¬ (0 : Int32) ≤ -12 by decide), eq_false (show ¬ (0 : Int32) ≤ -13 by decide), eq_false (show ¬ (0 : Int32) ≤ -14 by decide), eq_false (show ¬ (0 : Int32) ≤ -15 by decide)]; try rfl) (by unfold cfa; simp only [eq_true c2, eq_true c5, eq_true c6, eq_false c8, eq_true c9, if_true, nI_clamp (show j3 < 2 ^ 31 by omega), nI_clamp (show jf < 2 ^ 31 by omega), not_true, not_false_iff, not_true_eq_false, not_false_eq_true, true_or, or_true, false_or, or_false, or_self, and_self, true_and, and_true, false_and, and_false, if_true, if_false, eq_false (show ¬ (0 : Int32) ≤ -11 by decide), eq_false (show ¬ (0 : Int32) ≤ -12 by decide), eq_false (show ¬ (0 : Int32) ≤ -13 by decide), eq_false (show ¬ (0 : Int32) ≤ -14 by decide), eq_false (show ¬ (0 : Int32) ≤ -15 by decide)]; try rfl)
          · -- 49 not
            refine lv_aload_n hx hb dX7_face_52 rfl (lv_at hl 0 rfl) ?_
            refine va_get (D := D) (ci := 7) (v := bg) (C := RX7) (T := TX7) (N := 11) hx hb hts iX7 hown hK.1 hP 0 rfl rfl 3 (by decide) (hts _ q_76) (fun _ h9 => h9) rfl dX7_face_53 ?_
            rcases hbg with ⟨hbn, c21⟩ | ⟨hbn, c21⟩
            · -- begun: n
              subst hbn
              refine lv_ifnullN (tgt := 62) hx hb dX7_face_56 (by decide) ?_
              refine lv_aload_n hx hb dX7_face_62 rfl (lv_at hl 0 rfl) ?_
              refine va_get (D := D) (ci := 7) (v := .ref ((ca 1))) (C := RX7) (T := TX7) (N := 11) hx hb hts iX7 hown hK.1 hP 0 rfl rfl 0 (by decide) (hts _ q_73) (fun _ h9 => h9) rfl dX7_face_63 ?_
              refine lv_iload_n hx hb dX7_face_66 rfl (lv_at hl 1 rfl) ?_
              refine lv_iload_n hx hb dX7_face_67 rfl (lv_at hl 2 rfl) ?_
              by_cases h210 : ¬ bcF (x 0 j3) < 3
              · -- yes
                refine cm_Vi (D := D) (G := G) (As := [.int (nI j3), .int (nI jf)]) (rest := []) ⟨hx, hb, hml, hown, hts⟩ (c_addFaceFull l D G ca _ ea n k w0 σ x κ _ _ hE hI0 (j3) (jf) (by omega) (by omega) h210) gV_X7_X6_addFace hdV_X6_addFace ⟨Nat.le_of_ble_eq_true rfl, Nat.le_of_ble_eq_true rfl⟩ hK (va_recv hK.1 hP (ci := 6) (q0 := 1) rfl rfl) hP hD hS hA rfl hl.1 rfl (Nat.le_of_ble_eq_true rfl) dX7_face_68 ⟨Nat.le_of_ble_eq_true rfl, Nat.le_of_ble_eq_true rfl⟩ (fun ws H locs hw hP hD hS => ?_)
                subst hw
                have hP : va_P D vwCl (cF G ca (.null) (enF ea k) σ x ++ pl) H := hP
                have hD : va_D A (cF G ca (.null) (enF ea k) σ x ++ pl) := hD
                refine W.eq (g2 := F0 m 71 ls [.int ((-15))]) rfl ?_
                exact cm_iret (v0 := (-15)) hx hb hr hlocks hP hD hS dX7_face_71 (by unfold cfa; simp only [eq_true c2, eq_true c5, eq_true c6, eq_false c8, eq_false c9, eq_true c21, eq_true h210, if_true, nI_clamp (show j3 < 2 ^ 31 by omega), nI_clamp (show jf < 2 ^ 31 by omega), not_true, not_false_iff, not_true_eq_false, not_false_eq_true, true_or, or_true, false_or, or_false, or_self, and_self, true_and, and_true, false_and, and_false, if_true, if_false, eq_false (show ¬ (0 : Int32) ≤ -11 by decide), eq_false (show ¬ (0 : Int32) ≤ -12 by decide), eq_false (show ¬ (0 : Int32) ≤ -13 by decide), eq_false (show ¬ (0 : Int32) ≤ -14 by decide), eq_false (show ¬ (0 : Int32) ≤ -15 by decide)]; try rfl) (by unfold cfa; simp only [eq_true c2, eq_true c5, eq_true c6, eq_false c8, eq_false c9, eq_true c21, eq_true h210, if_true, nI_clamp (show j3 < 2 ^ 31 by omega), nI_clamp (show jf < 2 ^ 31 by omega), not_true, not_false_iff, not_true_eq_false, not_false_eq_true, true_or, or_true, false_or, or_false, or_self, and_self, true_and, and_true, false_and, and_false, if_true, if_false, eq_false (show ¬ (0 : Int32) ≤ -11 by decide), eq_false (show ¬ (0 : Int32) ≤ -12 by decide), eq_false (show ¬ (0 : Int32) ≤ -13 by decide), eq_false (show ¬ (0 : Int32) ≤ -14 by decide), eq_false (show ¬ (0 : Int32) ≤ -15 by decide)]; try rfl)
              · -- no
                refine cm_Vi (D := D) (G := G) (As := [.int (nI j3), .int (nI jf)]) (rest := []) ⟨hx, hb, hml, hown, hts⟩ (c_addFace l D G ca _ ea n k w0 σ x κ _ _ hE hI0 (j3) (jf) (by omega) (by omega) (Decidable.of_not_not h210)) gV_X7_X6_addFace hdV_X6_addFace ⟨Nat.le_of_ble_eq_true rfl, Nat.le_of_ble_eq_true rfl⟩ hK (va_recv hK.1 hP (ci := 6) (q0 := 1) rfl rfl) hP hD hS hA rfl hl.1 rfl (Nat.le_of_ble_eq_true rfl) dX7_face_68 ⟨Nat.le_of_ble_eq_true rfl, Nat.le_of_ble_eq_true rfl⟩ (fun ws H locs hw hP hD hS => ?_)
                subst hw
                have hP : va_P D vwCl (cF G ca (.null) (enF ea k) σ (st (su x 0 (j3) (x 0 j3 ||| 1 <<< (nI jf &&& 31))) 1 (reA (σ 3) (upd (x 0) j3 (x 0 j3 ||| 1 <<< (nI jf &&& 31))) (x 1) j3 (n - j3))) ++ pl) H := hP
                have hD : va_D A (cF G ca (.null) (enF ea k) σ (st (su x 0 (j3) (x 0 j3 ||| 1 <<< (nI jf &&& 31))) 1 (reA (σ 3) (upd (x 0) j3 (x 0 j3 ||| 1 <<< (nI jf &&& 31))) (x 1) j3 (n - j3))) ++ pl) := hD
                refine W.eq (g2 := F0 m 71 ls [.int (bcF (x 0 j3 ||| 1 <<< (nI jf &&& 31)))]) rfl ?_
                exact cm_iret (v0 := bcF (x 0 j3 ||| 1 <<< (nI jf &&& 31))) hx hb hr hlocks hP hD hS dX7_face_71 (by unfold cfa; simp only [eq_true c2, eq_true c5, eq_true c6, eq_false c8, eq_false c9, eq_true c21, eq_false h210, if_true, nI_clamp (show j3 < 2 ^ 31 by omega), nI_clamp (show jf < 2 ^ 31 by omega), not_true, not_false_iff, not_true_eq_false, not_false_eq_true, true_or, or_true, false_or, or_false, or_self, and_self, true_and, and_true, false_and, and_false, if_true, if_false, eq_false (show ¬ (0 : Int32) ≤ -11 by decide), eq_false (show ¬ (0 : Int32) ≤ -12 by decide), eq_false (show ¬ (0 : Int32) ≤ -13 by decide), eq_false (show ¬ (0 : Int32) ≤ -14 by decide), eq_false (show ¬ (0 : Int32) ≤ -15 by decide)]; try rfl) (by unfold cfa; simp only [eq_true c2, eq_true c5, eq_true c6, eq_false c8, eq_false c9, eq_true c21, eq_false h210, if_true, nI_clamp (show j3 < 2 ^ 31 by omega), nI_clamp (show jf < 2 ^ 31 by omega), not_true, not_false_iff, not_true_eq_false, not_false_eq_true, true_or, or_true, false_or, or_false, or_self, and_self, true_and, and_true, false_and, and_false, if_true, if_false, eq_false (show ¬ (0 : Int32) ≤ -11 by decide), eq_false (show ¬ (0 : Int32) ≤ -12 by decide), eq_false (show ¬ (0 : Int32) ≤ -13 by decide), eq_false (show ¬ (0 : Int32) ≤ -14 by decide), eq_false (show ¬ (0 : Int32) ≤ -15 by decide)]; try rfl)
            · -- begun: a
              subst hbn
              refine lv_ifnull hx hb dX7_face_56 ?_
              refine lv_bipush (v := -14) hx hb dX7_face_59 (by decide) ?_
              exact cm_iret (v0 := (-14)) hx hb hr hlocks hP hD hS dX7_face_61 (by unfold cfa; simp only [eq_true c2, eq_true c5, eq_true c6, eq_false c8, eq_false c9, eq_false c21, if_true, nI_clamp (show j3 < 2 ^ 31 by omega), nI_clamp (show jf < 2 ^ 31 by omega), not_true, not_false_iff, not_true_eq_false, not_false_eq_true, true_or, or_true, false_or, or_false, or_self, and_self, true_and, and_true, false_and, and_false, if_true, if_false, eq_false (show ¬ (0 : Int32) ≤ -11 by decide), eq_false (show ¬ (0 : Int32) ≤ -12 by decide), eq_false (show ¬ (0 : Int32) ≤ -13 by decide), eq_false (show ¬ (0 : Int32) ≤ -14 by decide), eq_false (show ¬ (0 : Int32) ≤ -15 by decide)]; try rfl) (by unfold cfa; simp only [eq_true c2, eq_true c5, eq_true c6, eq_false c8, eq_false c9, eq_false c21, if_true, nI_clamp (show j3 < 2 ^ 31 by omega), nI_clamp (show jf < 2 ^ 31 by omega), not_true, not_false_iff, not_true_eq_false, not_false_eq_true, true_or, or_true, false_or, or_false, or_self, and_self, true_and, and_true, false_and, and_false, if_true, if_false, eq_false (show ¬ (0 : Int32) ≤ -11 by decide), eq_false (show ¬ (0 : Int32) ≤ -12 by decide), eq_false (show ¬ (0 : Int32) ≤ -13 by decide), eq_false (show ¬ (0 : Int32) ≤ -14 by decide), eq_false (show ¬ (0 : Int32) ≤ -15 by decide)]; try rfl)
      · -- 27 not
        refine lv_bipush (v := -13) hx hb dX7_face_30 (by decide) ?_
        exact cm_iret (v0 := (-13)) hx hb hr hlocks hP hD hS dX7_face_32 (by unfold cfa; simp only [eq_true c2, eq_true c5, eq_false c6, if_true, nI_clamp (show j3 < 2 ^ 31 by omega), nI_clamp (show jf < 2 ^ 31 by omega), not_true, not_false_iff, not_true_eq_false, not_false_eq_true, true_or, or_true, false_or, or_false, or_self, and_self, true_and, and_true, false_and, and_false, if_true, if_false, eq_false (show ¬ (0 : Int32) ≤ -11 by decide), eq_false (show ¬ (0 : Int32) ≤ -12 by decide), eq_false (show ¬ (0 : Int32) ≤ -13 by decide), eq_false (show ¬ (0 : Int32) ≤ -14 by decide), eq_false (show ¬ (0 : Int32) ≤ -15 by decide)]; try rfl) (by unfold cfa; simp only [eq_true c2, eq_true c5, eq_false c6, if_true, nI_clamp (show j3 < 2 ^ 31 by omega), nI_clamp (show jf < 2 ^ 31 by omega), not_true, not_false_iff, not_true_eq_false, not_false_eq_true, true_or, or_true, false_or, or_false, or_self, and_self, true_and, and_true, false_and, and_false, if_true, if_false, eq_false (show ¬ (0 : Int32) ≤ -11 by decide), eq_false (show ¬ (0 : Int32) ≤ -12 by decide), eq_false (show ¬ (0 : Int32) ≤ -13 by decide), eq_false (show ¬ (0 : Int32) ≤ -14 by decide), eq_false (show ¬ (0 : Int32) ≤ -15 by decide)]; try rfl)
    · -- 19 not
      have c5 := bI_0 c5
      refine lv_bipush (v := -11) hx hb dX7_face_22 (by decide) ?_
      exact cm_iret (v0 := (-11)) hx hb hr hlocks hP hD hS dX7_face_24 (by unfold cfa; simp only [eq_true c2, eq_false c5, if_true, nI_clamp (show j3 < 2 ^ 31 by omega), not_true, not_false_iff, not_true_eq_false, not_false_eq_true, true_or, or_true, false_or, or_false, or_self, and_self, true_and, and_true, false_and, and_false, if_true, if_false, eq_false (show ¬ (0 : Int32) ≤ -11 by decide), eq_false (show ¬ (0 : Int32) ≤ -12 by decide), eq_false (show ¬ (0 : Int32) ≤ -13 by decide), eq_false (show ¬ (0 : Int32) ≤ -14 by decide), eq_false (show ¬ (0 : Int32) ≤ -15 by decide)]; try rfl) (by unfold cfa; simp only [eq_true c2, eq_false c5, if_true, nI_clamp (show j3 < 2 ^ 31 by omega), not_true, not_false_iff, not_true_eq_false, not_false_eq_true, true_or, or_true, false_or, or_false, or_self, and_self, true_and, and_true, false_and, and_false, if_true, if_false, eq_false (show ¬ (0 : Int32) ≤ -11 by decide), eq_false (show ¬ (0 : Int32) ≤ -12 by decide), eq_false (show ¬ (0 : Int32) ≤ -13 by decide), eq_false (show ¬ (0 : Int32) ≤ -14 by decide), eq_false (show ¬ (0 : Int32) ≤ -15 by decide)]; try rfl)
set_option maxHeartbeats 800000 in
set_option maxRecDepth 100000 in
theorem c_sought (l : Launch) (D : va_G) (G : Nat → ClassId) (ca : Nat → Nat) (bg : Value) (ea : Nat → Nat → Nat) (n k w0 : Nat) (σ x : MS) (κ : Nat → Int64) (pl : va_W) (sz : Nat) (hE : plE G ea σ κ k pl) (hI : cI σ x n k w0) (t name : Int32) (hpt : ∀ s, s < n → ∀ i, i < 12 → σ 3 s = nI i → i < s) : Met l yX7_sought (ww yX7_sought cX7_sought 4 (some .int)) (rmC 3 0 0) (cmP D G sz (cF G ca bg (enF ea k) σ x ++ pl) [.ref ((ca 0)), .int t, .int name]) (cmQi D (va_A (cF G ca bg (enF ea k) σ x ++ pl) sz) ((cso σ x n k t name).1) (fun z8 => z8 = cF G ca bg (enF ea k) σ (cso σ x n k t name).2 ++ pl)) 0 0 (va_A (cF G ca bg (enF ea k) σ x ++ pl) sz) := by
  refine Met.ofW (cc := cX7_sought) (maxL := 4) (ret := (some .int)) (by decide) rfl ?_
  intro p e s m args below meth c s₁ B hml hv
  obtain ⟨rfl, hsz, hP, hK, hD0⟩ := hv
  have hx := B.exec
  have hb := B.bytes
  have hr := B.returns
  have hts : ∀ w ∈ TT, w.before _ s = true := fun w h => atoms_spec (ws := ww yX7_sought cX7_sought 4 (some .int)) B.pre w (List.mem_cons_of_mem _ h)
  have hown : s.vm.findClass RX7 = some m.cls := findClass_of_methodNamed B.named
  have hlocks := B.notSynchronized
  subst hsz
  have hD : va_D (va_A (cF G ca bg (enF ea k) σ x ++ pl) s.heap.size) (cF G ca bg (enF ea k) σ x ++ pl) := hD0.self
  generalize hAe : va_A (cF G ca bg (enF ea k) σ x ++ pl) s.heap.size = A at hD ⊢
  have hA : ∀ q : Nat, s.heap.size ≤ q → A q := fun q h => by rw [← hAe]; exact Or.inr h
  have hS : va_S A s.heap s.heap [] := va_S.rf
  have hP : va_P D vwCl (cF G ca bg (enF ea k) σ x ++ pl) s.heap := hP
  have hI0 := hI
  obtain ⟨h1, hn, h7, hk60, h22, hw, hab, hfa, hmi, hak, hrf⟩ := hI
  have hl := lv_entry ([.ref ((ca 0)), .int t, .int name]) (n := 4) (Nat.le_of_ble_eq_true rfl)
  rw [lg_entry_eq]
  generalize (lg_sl ([.ref ((ca 0)), .int t, .int name]) ++ List.replicate (4 - (lg_sl ([.ref ((ca 0)), .int t, .int name])).length) Slot.unset).toArray = ls at hl ⊢
  have hl : lv_has ls 4 [(0, .ref ((ca 0))), (1, .int t), (2, .int name)] := hl
  refine lv_aload_n hx hb dX7_sought_0 rfl (lv_at hl 0 rfl) ?_
  refine va_get (D := D) (ci := 7) (v := .ref ((ca 1))) (C := RX7) (T := TX7) (N := 11) hx hb hts iX7 hown hK.1 hP 0 rfl rfl 0 (by decide) (hts _ q_73) (fun _ h9 => h9) rfl dX7_sought_1 ?_
  refine lv_iload_n hx hb dX7_sought_4 rfl (lv_at hl 1 rfl) ?_
  have hPf : va_P D vwCl (cF G ca bg (enF ea k) σ x) _ := cF_of hP
  have hEf : ∀ e, e < k → va_P D vwCl (eW G (ea e) σ κ e) _ := plE_P hP hE
  refine ro_Vi (D := D) (G := G) (As := [.int t]) (rest := []) ⟨hx, hb, hml, hown, hts⟩ (c_has l D G _ ca σ x (cF_ty hPf) n h1 hn t) gV_X7_X6_has hdV_X6_has ⟨Nat.le_of_ble_eq_true rfl, Nat.le_of_ble_eq_true rfl⟩ hK (va_recv hK.1 hP (ci := 6) (q0 := 1) rfl rfl) rfl hl.1 rfl (Nat.le_of_ble_eq_true rfl) dX7_sought_5 ⟨Nat.le_of_ble_eq_true rfl, Nat.le_of_ble_eq_true rfl⟩ (fun r1 e_r1 => ?_)
  subst e_r1
  refine W.eq (g2 := F0 m 8 ls [.int (bI (okN n t))]) rfl ?_
  refine lv_if_ne (tgt := 14) hx hb dX7_sought_8 (by decide) (fun c2 => ?_) (fun c2 => ?_)
  · -- 8 taken
    have c2 := bI_1 c2
    obtain ⟨j3, h_j3, rfl⟩ := okN_ex (by omega) c2
    refine lv_iload_n hx hb dX7_sought_14 rfl (lv_at hl 2 rfl) ?_
    refine ro_Si (D := D) (G := G) (As := [.int name]) (rest := []) ⟨hx, hb, hml, hown, hts⟩ (c_isName l D G _ name) gS_X7_X7_isName hdS_X7_isName ⟨Nat.le_of_ble_eq_true rfl, Nat.le_of_ble_eq_true rfl⟩ hK rfl hl.1 rfl (Nat.le_of_ble_eq_true rfl) dX7_sought_15 ⟨Nat.le_of_ble_eq_true rfl, Nat.le_of_ble_eq_true rfl⟩ (fun r4 e_r4 => ?_)
    subst e_r4
    refine W.eq (g2 := F0 m 18 ls [.int (bI (0 ≤ name ∧ name ≤ 49))]) rfl ?_
    refine lv_if_ne (tgt := 24) hx hb dX7_sought_18 (by decide) (fun c5 => ?_) (fun c5 => ?_)
    · -- 18 taken
      have c5 := bI_1 c5
      refine lv_iconst (v := 0) hx hb dX7_sought_24 (by decide) ?_
      refine lv_istore_n (lv' := [(3, .int 0), (0, .ref ((ca 0))), (1, .int (nI j3)), (2, .int name)]) hx hb dX7_sought_25 rfl hl (by decide) rfl (fun ls hl => ?_)
      refine w_forM (N := j3) 26 (L := fun q9 ls H locs => lv_has ls 4 [(3, .int (nI q9)), (0, .ref ((ca 0))), (1, .int (nI j3)), (2, .int name)] ∧ va_P D vwCl (cF G ca bg (enF ea k) σ (st x 2 (skC σ k name (x 0) (x 2) q9)) ++ pl) H ∧ va_D A (cF G ca bg (enF ea k) σ (st x 2 (skC σ k name (x 0) (x 2) q9)) ++ pl) ∧ va_S A s.heap H locs) (fun k9 ls H locs hk hL ih26 => ?_) 0 ls _ _ (by omega) ⟨hl, hP, hD, hS⟩
      obtain ⟨hl, hP, hD, hS⟩ := hL
      have hl : lv_has ls 4 [(3, .int (nI k9)), (0, .ref ((ca 0))), (1, .int (nI j3)), (2, .int name)] := hl
      have hff := skC_f (σ := σ) (name := name) (fm := x 0) (f := x 2) hk60 k9 (fun s hs => hpt s (by omega))
      refine lv_iload_n hx hb dX7_sought_26 rfl (lv_at hl 0 rfl) ?_
      refine lv_iload_n hx hb dX7_sought_27 rfl (lv_at hl 2 rfl) ?_
      refine lv_icmp_ge (tgt := 49) hx hb dX7_sought_28 (by decide) (fun c6 => ?_) (fun c6 => ?_)
      · -- 28 taken
        have c6 : j3 ≤ k9 := (nI_leI (a := j3) (b := k9) (by omega) (by omega)).mp (by have h8 := c6; exact h8)
        obtain rfl : j3 = k9 := by omega
        have hP : va_P D vwCl (cF G ca bg (enF ea k) σ (st x 2 (skC σ k name (x 0) (x 2) j3)) ++ pl) H := hP
        have hD : va_D A (cF G ca bg (enF ea k) σ (st x 2 (skC σ k name (x 0) (x 2) j3)) ++ pl) := hD
        have hff := skC_f (σ := σ) (name := name) (fm := x 0) (f := x 2) hk60 j3 (fun s hs => hpt s (by omega))
        refine lv_aload_n hx hb dX7_sought_49 rfl (lv_at hl 1 rfl) ?_
        refine lv_iload_n hx hb dX7_sought_50 rfl (lv_at hl 2 rfl) ?_
        refine lv_iload_n hx hb dX7_sought_51 rfl (lv_at hl 3 rfl) ?_
        have hPf : va_P D vwCl (cF G ca bg (enF ea k) σ (st x 2 (skC σ k name (x 0) (x 2) j3))) _ := cF_of hP
        have hEf : ∀ e, e < k → va_P D vwCl (eW G (ea e) σ κ e) _ := plE_P hP hE
        refine ro_Vi (D := D) (G := G) (As := [.int (nI j3), .int name]) (rest := []) ⟨hx, hb, hml, hown, hts⟩ (c_fieldFoundIn l D G _ ca _ ea n k w0 σ (st x 2 (skC σ k name (x 0) (x 2) j3)) κ hPf hEf hI0 (j3) (by omega) name hff (hpt j3 (by omega))) gV_X7_X7_fieldFoundIn hdV_X7_fieldFoundIn ⟨Nat.le_of_ble_eq_true rfl, Nat.le_of_ble_eq_true rfl⟩ hK (va_recv hK.1 hP (ci := 7) (q0 := 0) rfl rfl) rfl hl.1 rfl (Nat.le_of_ble_eq_true rfl) dX7_sought_52 ⟨Nat.le_of_ble_eq_true rfl, Nat.le_of_ble_eq_true rfl⟩ (fun r7 e_r7 => ?_)
        subst e_r7
        refine W.eq (g2 := F0 m 55 ls [.int (cfV σ k name (x 0 j3) (skC σ k name (x 0) (x 2) j3) j3)]) rfl ?_
        exact cm_iret (v0 := cfV σ k name (x 0 j3) (skC σ k name (x 0) (x 2) j3) j3) hx hb hr hlocks hP hD hS dX7_sought_55 (by unfold cso; simp only [eq_true c2, eq_true c5, if_true, nI_clamp (show j3 < 2 ^ 31 by omega), not_true, not_false_iff, not_true_eq_false, not_false_eq_true, true_or, or_true, false_or, or_false, or_self, and_self, true_and, and_true, false_and, and_false, if_true, if_false, eq_false (show ¬ (0 : Int32) ≤ -11 by decide), eq_false (show ¬ (0 : Int32) ≤ -12 by decide), eq_false (show ¬ (0 : Int32) ≤ -13 by decide), eq_false (show ¬ (0 : Int32) ≤ -14 by decide), eq_false (show ¬ (0 : Int32) ≤ -15 by decide)]; try rfl) (by unfold cso; simp only [eq_true c2, eq_true c5, if_true, nI_clamp (show j3 < 2 ^ 31 by omega), not_true, not_false_iff, not_true_eq_false, not_false_eq_true, true_or, or_true, false_or, or_false, or_self, and_self, true_and, and_true, false_and, and_false, if_true, if_false, eq_false (show ¬ (0 : Int32) ≤ -11 by decide), eq_false (show ¬ (0 : Int32) ≤ -12 by decide), eq_false (show ¬ (0 : Int32) ≤ -13 by decide), eq_false (show ¬ (0 : Int32) ≤ -14 by decide), eq_false (show ¬ (0 : Int32) ≤ -15 by decide)]; try rfl)
      · -- 28 not
        have c6 : ¬ j3 ≤ k9 := fun h9 => c6 (by exact (nI_leI (a := j3) (b := k9) (by omega) (by omega)).mpr h9)
        refine lv_aload_n hx hb dX7_sought_31 rfl (lv_at hl 1 rfl) ?_
        refine va_get (D := D) (ci := 7) (v := .ref ((ca 11))) (C := RX7) (T := TX7) (N := 11) hx hb hts iX7 hown hK.1 hP 0 rfl rfl 8 (by decide) (hts _ q_81) (fun _ h9 => h9) rfl dX7_sought_32 ?_
        refine lv_iload_n hx hb dX7_sought_35 rfl (lv_at hl 0 rfl) ?_
        refine lv_aload_n hx hb dX7_sought_36 rfl (lv_at hl 1 rfl) ?_
        refine lv_iload_n hx hb dX7_sought_37 rfl (lv_at hl 0 rfl) ?_
        refine lv_iload_n hx hb dX7_sought_38 rfl (lv_at hl 3 rfl) ?_
        have hPf : va_P D vwCl (cF G ca bg (enF ea k) σ (st x 2 (skC σ k name (x 0) (x 2) k9))) _ := cF_of hP
        have hEf : ∀ e, e < k → va_P D vwCl (eW G (ea e) σ κ e) _ := plE_P hP hE
        refine ro_Vi (D := D) (G := G) (As := [.int (nI k9), .int name]) (rest := [.int (nI k9), .ref ((ca 11))]) ⟨hx, hb, hml, hown, hts⟩ (c_fieldFoundIn l D G _ ca _ ea n k w0 σ (st x 2 (skC σ k name (x 0) (x 2) k9)) κ hPf hEf hI0 (k9) (by omega) name hff (hpt k9 (by omega))) gV_X7_X7_fieldFoundIn hdV_X7_fieldFoundIn ⟨Nat.le_of_ble_eq_true rfl, Nat.le_of_ble_eq_true rfl⟩ hK (va_recv hK.1 hP (ci := 7) (q0 := 0) rfl rfl) rfl hl.1 rfl (Nat.le_of_ble_eq_true rfl) dX7_sought_39 ⟨Nat.le_of_ble_eq_true rfl, Nat.le_of_ble_eq_true rfl⟩ (fun r8 e_r8 => ?_)
        subst e_r8
        refine W.eq (g2 := F0 m 42 ls [.int (cfV σ k name (x 0 k9) (skC σ k name (x 0) (x 2) k9) k9), .int (nI k9), .ref ((ca 11))]) rfl ?_
        refine iast_n hx hb hK.1 hP hD hS 11 0 rfl rfl (k9) rfl (by omega) (by decide) dX7_sought_42 (fun H locs hP hD hS => ?_)
        have hP : va_P D vwCl (cF G ca bg (enF ea k) σ (st x 2 (upd (skC σ k name (x 0) (x 2) k9) (k9) (cfV σ k name (x 0 k9) (skC σ k name (x 0) (x 2) k9) k9))) ++ pl) H := hP
        have hD : va_D A (cF G ca bg (enF ea k) σ (st x 2 (upd (skC σ k name (x 0) (x 2) k9) (k9) (cfV σ k name (x 0 k9) (skC σ k name (x 0) (x 2) k9) k9))) ++ pl) := hD
        refine lv_iinc (v := nI (k9 + 1)) (lv' := [(3, .int (nI (k9 + 1))), (0, .ref ((ca 0))), (1, .int (nI j3)), (2, .int name)]) hx hb dX7_sought_43 hl (k := 0) rfl (nI_1 _) (by decide) rfl (fun ls hl => ?_)
        refine lv_goto (tgt := 26) hx hb dX7_sought_46 (by decide) ?_
        exact ih26 _ _ _ (by omega) ⟨lv_sub hl [0, 1, 2, 3] rfl, hP, hD, hS⟩
    · -- 18 not
      have c5 := bI_0 c5
      refine lv_bipush (v := -13) hx hb dX7_sought_21 (by decide) ?_
      exact cm_iret (v0 := (-13)) hx hb hr hlocks hP hD hS dX7_sought_23 (by unfold cso; simp only [eq_true c2, eq_false c5, if_true, nI_clamp (show j3 < 2 ^ 31 by omega), not_true, not_false_iff, not_true_eq_false, not_false_eq_true, true_or, or_true, false_or, or_false, or_self, and_self, true_and, and_true, false_and, and_false, if_true, if_false, eq_false (show ¬ (0 : Int32) ≤ -11 by decide), eq_false (show ¬ (0 : Int32) ≤ -12 by decide), eq_false (show ¬ (0 : Int32) ≤ -13 by decide), eq_false (show ¬ (0 : Int32) ≤ -14 by decide), eq_false (show ¬ (0 : Int32) ≤ -15 by decide)]; try rfl) (by unfold cso; simp only [eq_true c2, eq_false c5, if_true, nI_clamp (show j3 < 2 ^ 31 by omega), not_true, not_false_iff, not_true_eq_false, not_false_eq_true, true_or, or_true, false_or, or_false, or_self, and_self, true_and, and_true, false_and, and_false, if_true, if_false, eq_false (show ¬ (0 : Int32) ≤ -11 by decide), eq_false (show ¬ (0 : Int32) ≤ -12 by decide), eq_false (show ¬ (0 : Int32) ≤ -13 by decide), eq_false (show ¬ (0 : Int32) ≤ -14 by decide), eq_false (show ¬ (0 : Int32) ≤ -15 by decide)]; try rfl)
  · -- 8 not
    have c2 := bI_0 c2
    refine lv_bipush (v := -11) hx hb dX7_sought_11 (by decide) ?_
    exact cm_iret (v0 := (-11)) hx hb hr hlocks hP hD hS dX7_sought_13 (by unfold cso; simp only [eq_false c2, if_true, not_true, not_false_iff, not_true_eq_false, not_false_eq_true, true_or, or_true, false_or, or_false, or_self, and_self, true_and, and_true, false_and, and_false, if_true, if_false, eq_false (show ¬ (0 : Int32) ≤ -11 by decide), eq_false (show ¬ (0 : Int32) ≤ -12 by decide), eq_false (show ¬ (0 : Int32) ≤ -13 by decide), eq_false (show ¬ (0 : Int32) ≤ -14 by decide), eq_false (show ¬ (0 : Int32) ≤ -15 by decide)]; try rfl) (by unfold cso; simp only [eq_false c2, if_true, not_true, not_false_iff, not_true_eq_false, not_false_eq_true, true_or, or_true, false_or, or_false, or_self, and_self, true_and, and_true, false_and, and_false, if_true, if_false, eq_false (show ¬ (0 : Int32) ≤ -11 by decide), eq_false (show ¬ (0 : Int32) ≤ -12 by decide), eq_false (show ¬ (0 : Int32) ≤ -13 by decide), eq_false (show ¬ (0 : Int32) ≤ -14 by decide), eq_false (show ¬ (0 : Int32) ≤ -15 by decide)]; try rfl)
set_option maxHeartbeats 800000 in
set_option maxRecDepth 100000 in
theorem c_call (l : Launch) (D : va_G) (G : Nat → ClassId) (ca : Nat → Nat) (bg : Value) (ea : Nat → Nat → Nat) (n k w0 : Nat) (σ x : MS) (κ : Nat → Int64) (pl : va_W) (sz : Nat) (hE : plE G ea σ κ k pl) (hI : cI σ x n k w0) (t name : Int32) : Met l yX7_call (ww yX7_call cX7_call 6 (some .int)) (rmC 6 0 0) (cmP D G sz (cF G ca bg (enF ea k) σ x ++ pl) [.ref ((ca 0)), .int t, .int name]) (cmQi D (va_A (cF G ca bg (enF ea k) σ x ++ pl) sz) ((ccl σ x n k w0 t name).1) (fun z8 => z8 = cF G ca bg (enF ea k) (ccl σ x n k w0 t name).2.1 (ccl σ x n k w0 t name).2.2 ++ pl)) 0 0 (va_A (cF G ca bg (enF ea k) σ x ++ pl) sz) := by
  refine Met.ofW (cc := cX7_call) (maxL := 6) (ret := (some .int)) (by decide) rfl ?_
  intro p e s m args below meth c s₁ B hml hv
  obtain ⟨rfl, hsz, hP, hK, hD0⟩ := hv
  have hx := B.exec
  have hb := B.bytes
  have hr := B.returns
  have hts : ∀ w ∈ TT, w.before _ s = true := fun w h => atoms_spec (ws := ww yX7_call cX7_call 6 (some .int)) B.pre w (List.mem_cons_of_mem _ h)
  have hown : s.vm.findClass RX7 = some m.cls := findClass_of_methodNamed B.named
  have hlocks := B.notSynchronized
  subst hsz
  have hD : va_D (va_A (cF G ca bg (enF ea k) σ x ++ pl) s.heap.size) (cF G ca bg (enF ea k) σ x ++ pl) := hD0.self
  generalize hAe : va_A (cF G ca bg (enF ea k) σ x ++ pl) s.heap.size = A at hD ⊢
  have hA : ∀ q : Nat, s.heap.size ≤ q → A q := fun q h => by rw [← hAe]; exact Or.inr h
  have hS : va_S A s.heap s.heap [] := va_S.rf
  have hP : va_P D vwCl (cF G ca bg (enF ea k) σ x ++ pl) s.heap := hP
  have hI0 := hI
  obtain ⟨h1, hn, h7, hk60, h22, hw, hab, hfa, hmi, hak, hrf⟩ := hI
  have hl := lv_entry ([.ref ((ca 0)), .int t, .int name]) (n := 6) (Nat.le_of_ble_eq_true rfl)
  rw [lg_entry_eq]
  generalize (lg_sl ([.ref ((ca 0)), .int t, .int name]) ++ List.replicate (6 - (lg_sl ([.ref ((ca 0)), .int t, .int name])).length) Slot.unset).toArray = ls at hl ⊢
  have hl : lv_has ls 6 [(0, .ref ((ca 0))), (1, .int t), (2, .int name)] := hl
  refine lv_aload_n hx hb dX7_call_0 rfl (lv_at hl 0 rfl) ?_
  refine va_get (D := D) (ci := 7) (v := .ref ((ca 1))) (C := RX7) (T := TX7) (N := 11) hx hb hts iX7 hown hK.1 hP 0 rfl rfl 0 (by decide) (hts _ q_73) (fun _ h9 => h9) rfl dX7_call_1 ?_
  refine lv_iload_n hx hb dX7_call_4 rfl (lv_at hl 1 rfl) ?_
  have hPf : va_P D vwCl (cF G ca bg (enF ea k) σ x) _ := cF_of hP
  have hEf : ∀ e, e < k → va_P D vwCl (eW G (ea e) σ κ e) _ := plE_P hP hE
  refine ro_Vi (D := D) (G := G) (As := [.int t]) (rest := []) ⟨hx, hb, hml, hown, hts⟩ (c_has l D G _ ca σ x (cF_ty hPf) n h1 hn t) gV_X7_X6_has hdV_X6_has ⟨Nat.le_of_ble_eq_true rfl, Nat.le_of_ble_eq_true rfl⟩ hK (va_recv hK.1 hP (ci := 6) (q0 := 1) rfl rfl) rfl hl.1 rfl (Nat.le_of_ble_eq_true rfl) dX7_call_5 ⟨Nat.le_of_ble_eq_true rfl, Nat.le_of_ble_eq_true rfl⟩ (fun r1 e_r1 => ?_)
  subst e_r1
  refine W.eq (g2 := F0 m 8 ls [.int (bI (okN n t))]) rfl ?_
  refine lv_if_ne (tgt := 14) hx hb dX7_call_8 (by decide) (fun c2 => ?_) (fun c2 => ?_)
  · -- 8 taken
    have c2 := bI_1 c2
    obtain ⟨j3, h_j3, rfl⟩ := okN_ex (by omega) c2
    refine lv_iload_n hx hb dX7_call_14 rfl (lv_at hl 2 rfl) ?_
    refine ro_Si (D := D) (G := G) (As := [.int name]) (rest := []) ⟨hx, hb, hml, hown, hts⟩ (c_isName l D G _ name) gS_X7_X7_isName hdS_X7_isName ⟨Nat.le_of_ble_eq_true rfl, Nat.le_of_ble_eq_true rfl⟩ hK rfl hl.1 rfl (Nat.le_of_ble_eq_true rfl) dX7_call_15 ⟨Nat.le_of_ble_eq_true rfl, Nat.le_of_ble_eq_true rfl⟩ (fun r4 e_r4 => ?_)
    subst e_r4
    refine W.eq (g2 := F0 m 18 ls [.int (bI (0 ≤ name ∧ name ≤ 49))]) rfl ?_
    refine lv_if_ne (tgt := 24) hx hb dX7_call_18 (by decide) (fun c5 => ?_) (fun c5 => ?_)
    · -- 18 taken
      have c5 := bI_1 c5
      refine lv_aload_n hx hb dX7_call_24 rfl (lv_at hl 0 rfl) ?_
      refine lv_iload_n hx hb dX7_call_25 rfl (lv_at hl 1 rfl) ?_
      refine lv_iload_n hx hb dX7_call_26 rfl (lv_at hl 2 rfl) ?_
      refine cm_Vv (D := D) (G := G) (As := [.int (nI j3), .int name]) (rest := []) ⟨hx, hb, hml, hown, hts⟩ (c_markCandidates l D G ca _ ea n k w0 σ x κ _ _ hE hI0 (j3) (by omega) name) gV_X7_X7_markCandidates hdV_X7_markCandidates ⟨Nat.le_of_ble_eq_true rfl, Nat.le_of_ble_eq_true rfl⟩ hK (va_recv hK.1 hP (ci := 7) (q0 := 0) rfl rfl) hP hD hS hA rfl hl.1 rfl (Nat.le_of_ble_eq_true rfl) dX7_call_27 ⟨Nat.le_of_ble_eq_true rfl, Nat.le_of_ble_eq_true rfl⟩ (fun ws H locs hw hP hD hS => ?_)
      subst hw
      have hP : va_P D vwCl (cF G ca bg (enF ea k) σ (st x 3 (ccF σ j3 name (x 3) k)) ++ pl) H := hP
      have hD : va_D A (cF G ca bg (enF ea k) σ (st x 3 (ccF σ j3 name (x 3) k)) ++ pl) := hD
      refine lv_iconst (v := 1) hx hb dX7_call_30 (by decide) ?_
      refine lv_istore_n (lv' := [(3, .int 1), (0, .ref ((ca 0))), (1, .int (nI j3)), (2, .int name)]) hx hb dX7_call_31 rfl hl (by decide) rfl (fun ls hl => ?_)
      refine lv_aload_n hx hb dX7_call_32 rfl (lv_at hl 1 rfl) ?_
      refine lv_iconst (v := 0) hx hb dX7_call_33 (by decide) ?_
      refine cm_Vi (D := D) (G := G) (As := [.int 0]) (rest := []) ⟨hx, hb, hml, hown, hts⟩ (c_markFitting l D G ca _ ea n k w0 σ (st x 3 (ccF σ j3 name (x 3) k)) κ _ _ hE hI0 0) gV_X7_X7_markFitting hdV_X7_markFitting ⟨Nat.le_of_ble_eq_true rfl, Nat.le_of_ble_eq_true rfl⟩ hK (va_recv hK.1 hP (ci := 7) (q0 := 0) rfl rfl) hP hD hS hA rfl hl.1 rfl (Nat.le_of_ble_eq_true rfl) dX7_call_34 ⟨Nat.le_of_ble_eq_true rfl, Nat.le_of_ble_eq_true rfl⟩ (fun ws H locs hw hP hD hS => ?_)
      subst hw
      have hP : va_P D vwCl (cF G ca bg (enF ea k) σ (st (st x 3 (ccF σ j3 name (x 3) k)) 4 (fgF σ (ccF σ j3 name (x 3) k) w0 0 k (x 4) k)) ++ pl) H := hP
      have hD : va_D A (cF G ca bg (enF ea k) σ (st (st x 3 (ccF σ j3 name (x 3) k)) 4 (fgF σ (ccF σ j3 name (x 3) k) w0 0 k (x 4) k)) ++ pl) := hD
      refine W.eq (g2 := F0 m 37 ls [.int (bI (fgA σ (ccF σ j3 name (x 3) k) w0 0 k k))]) rfl ?_
      refine lv_istore (lv' := [(4, .int (bI (fgA σ (ccF σ j3 name (x 3) k) w0 0 k k))), (3, .int 1), (0, .ref ((ca 0))), (1, .int (nI j3)), (2, .int name)]) hx hb dX7_call_37 hl (by decide) rfl (fun ls hl => ?_)
      refine lv_iload hx hb dX7_call_39 (lv_at hl 0 rfl) ?_
      refine lv_if_ne (tgt := 53) hx hb dX7_call_41 (by decide) (fun c6 => ?_) (fun c6 => ?_)
      · -- 41 taken
        have c6 := bI_1 c6
        refine lv_iload hx hb dX7_call_53 (lv_at hl 0 rfl) ?_
        refine lv_if_eq (tgt := 75) hx hb dX7_call_55 (by decide) (fun hh => absurd c6 (bI_0 hh)) (fun hh => ?_)
        refine lv_aload_n hx hb dX7_call_58 rfl (lv_at hl 2 rfl) ?_
        refine lv_iload_n hx hb dX7_call_59 rfl (lv_at hl 1 rfl) ?_
        refine lv_iconst (v := 2) hx hb dX7_call_60 (by decide) ?_
        refine lv_icmp_ne (tgt := 68) hx hb dX7_call_61 (by decide) (fun hh => ?_) (fun hh => absurd hh (by decide))
        refine lv_iconst (v := 0) hx hb dX7_call_68 (by decide) ?_
        have hPf : va_P D vwCl (cF G ca bg (enF ea k) σ (st (st x 3 (ccF σ j3 name (x 3) k)) 4 (fgF σ (ccF σ j3 name (x 3) k) w0 0 k (x 4) k))) _ := cF_of hP
        have hEf : ∀ e, e < k → va_P D vwCl (eW G (ea e) σ κ e) _ := plE_P hP hE
        refine ro_Vi (D := D) (G := G) (As := [.int 0]) (rest := []) ⟨hx, hb, hml, hown, hts⟩ (c_nearestFitting l D G _ ca _ ea n k w0 σ (st (st x 3 (ccF σ j3 name (x 3) k)) 4 (fgF σ (ccF σ j3 name (x 3) k) w0 0 k (x 4) k)) κ hPf hEf hI0 0 (fun e h8 h9 => fg_ft (cd := (ccF σ j3 name (x 3) k)) (v := 0) (f := x 4) e h8 h9)) gV_X7_X7_nearestFitting hdV_X7_nearestFitting ⟨Nat.le_of_ble_eq_true rfl, Nat.le_of_ble_eq_true rfl⟩ hK (va_recv hK.1 hP (ci := 7) (q0 := 0) rfl rfl) rfl hl.1 rfl (Nat.le_of_ble_eq_true rfl) dX7_call_69 ⟨Nat.le_of_ble_eq_true rfl, Nat.le_of_ble_eq_true rfl⟩ (fun r8 e_r8 => ?_)
        subst e_r8
        refine W.eq (g2 := F0 m 72 ls [.int (nfF σ (fgF σ (ccF σ j3 name (x 3) k) w0 0 k (x 4) k) w0 0 k k 0 (-2))]) rfl ?_
        refine lv_goto (tgt := 76) hx hb dX7_call_72 (by decide) ?_
        refine lv_istore (lv' := [(5, .int (nfF σ (fgF σ (ccF σ j3 name (x 3) k) w0 0 k (x 4) k) w0 0 k k 0 (-2))), (4, .int (bI (fgA σ (ccF σ j3 name (x 3) k) w0 0 k k))), (3, .int 1), (0, .ref ((ca 0))), (1, .int (nI j3)), (2, .int name)]) hx hb dX7_call_76 hl (by decide) rfl (fun ls hl => ?_)
        refine lv_aload_n hx hb dX7_call_78 rfl (lv_at hl 3 rfl) ?_
        refine lv_iload hx hb dX7_call_79 (lv_at hl 0 rfl) ?_
        refine lv_if_lt (tgt := 88) hx hb dX7_call_81 (by decide) (fun c9 => ?_) (fun c9 => ?_)
        · -- 81 taken
          refine lv_iconst (v := 0) hx hb dX7_call_88 (by decide) ?_
          refine va_put (D := D) (ci := 7) (v := .int 0) (ty := .int) (C := RX7) (T := TX7) (N := 11) hx hb hts iX7 tyX7 tyX7_ok nmX7 hown hK.1 hP hD hS 0 rfl rfl 5 (by decide) (hts _ q_78) (fun _ h9 => h9) rfl (by decide +kernel) rfl rfl (Nat.le_of_ble_eq_true rfl) dX7_call_89 (fun H locs hP hD hS => ?_)
          have hP : va_P D vwCl (cF G ca bg (enF ea k) (su σ 25 (0) (0)) (st (st x 3 (ccF σ j3 name (x 3) k)) 4 (fgF σ (ccF σ j3 name (x 3) k) w0 0 k (x 4) k)) ++ pl) H := hP
          have hD : va_D A (cF G ca bg (enF ea k) (su σ 25 (0) (0)) (st (st x 3 (ccF σ j3 name (x 3) k)) 4 (fgF σ (ccF σ j3 name (x 3) k) w0 0 k (x 4) k)) ++ pl) := hD
          refine lv_aload_n hx hb dX7_call_92 rfl (lv_at hl 3 rfl) ?_
          refine va_get (D := D) (ci := 7) (v := .ref ((ca 7))) (C := RX7) (T := TX7) (N := 11) hx hb hts iX7 hown hK.1 hP 0 rfl rfl 4 (by decide) (hts _ q_77) (fun _ h9 => h9) rfl dX7_call_93 ?_
          refine cm_Vv (D := D) (G := G) (As := []) (rest := []) ⟨hx, hb, hml, hown, hts⟩ (c_argEmpty l D G ca _ ea n k w0 (su σ 25 (0) (0)) (st (st x 3 (ccF σ j3 name (x 3) k)) 4 (fgF σ (ccF σ j3 name (x 3) k) w0 0 k (x 4) k)) κ _ _ hE hI0 ) gV_X7_X4_empty hdV_X4_empty ⟨Nat.le_of_ble_eq_true rfl, Nat.le_of_ble_eq_true rfl⟩ hK (va_recv hK.1 hP (ci := 5) (q0 := 7) rfl rfl) hP hD hS hA rfl hl.1 rfl (Nat.le_of_ble_eq_true rfl) dX7_call_96 ⟨Nat.le_of_ble_eq_true rfl, Nat.le_of_ble_eq_true rfl⟩ (fun ws H locs hw hP hD hS => ?_)
          subst hw
          have hP : va_P D vwCl (cF G ca bg (enF ea k) (su (su σ 25 (0) (0)) 22 (0) (0)) (st (st x 3 (ccF σ j3 name (x 3) k)) 4 (fgF σ (ccF σ j3 name (x 3) k) w0 0 k (x 4) k)) ++ pl) H := hP
          have hD : va_D A (cF G ca bg (enF ea k) (su (su σ 25 (0) (0)) 22 (0) (0)) (st (st x 3 (ccF σ j3 name (x 3) k)) 4 (fgF σ (ccF σ j3 name (x 3) k) w0 0 k (x 4) k)) ++ pl) := hD
          refine lv_iload hx hb dX7_call_99 (lv_at hl 0 rfl) ?_
          exact cm_iret (v0 := nfF σ (fgF σ (ccF σ j3 name (x 3) k) w0 0 k (x 4) k) w0 0 k k 0 (-2)) hx hb hr hlocks hP hD hS dX7_call_101 (by unfold ccl ccY ccA; simp only [eq_true c2, eq_true c5, eq_true c6, eq_true c9, if_true, nI_clamp (show j3 < 2 ^ 31 by omega), not_true, not_false_iff, not_true_eq_false, not_false_eq_true, true_or, or_true, false_or, or_false, or_self, and_self, true_and, and_true, false_and, and_false, if_true, if_false, eq_false (show ¬ (0 : Int32) ≤ -11 by decide), eq_false (show ¬ (0 : Int32) ≤ -12 by decide), eq_false (show ¬ (0 : Int32) ≤ -13 by decide), eq_false (show ¬ (0 : Int32) ≤ -14 by decide), eq_false (show ¬ (0 : Int32) ≤ -15 by decide)]; try rfl) (by unfold ccl ccY ccA; simp only [eq_true c2, eq_true c5, eq_true c6, eq_true c9, if_true, nI_clamp (show j3 < 2 ^ 31 by omega), not_true, not_false_iff, not_true_eq_false, not_false_eq_true, true_or, or_true, false_or, or_false, or_self, and_self, true_and, and_true, false_and, and_false, if_true, if_false, eq_false (show ¬ (0 : Int32) ≤ -11 by decide), eq_false (show ¬ (0 : Int32) ≤ -12 by decide), eq_false (show ¬ (0 : Int32) ≤ -13 by decide), eq_false (show ¬ (0 : Int32) ≤ -14 by decide), eq_false (show ¬ (0 : Int32) ≤ -15 by decide)]; try rfl)
        · -- 81 not
          refine lv_iload_n hx hb dX7_call_84 rfl (lv_at hl 2 rfl) ?_
          refine lv_goto (tgt := 89) hx hb dX7_call_85 (by decide) ?_
          refine va_put (D := D) (ci := 7) (v := .int 1) (ty := .int) (C := RX7) (T := TX7) (N := 11) hx hb hts iX7 tyX7 tyX7_ok nmX7 hown hK.1 hP hD hS 0 rfl rfl 5 (by decide) (hts _ q_78) (fun _ h9 => h9) rfl (by decide +kernel) rfl rfl (Nat.le_of_ble_eq_true rfl) dX7_call_89 (fun H locs hP hD hS => ?_)
          have hP : va_P D vwCl (cF G ca bg (enF ea k) (su σ 25 (0) (1)) (st (st x 3 (ccF σ j3 name (x 3) k)) 4 (fgF σ (ccF σ j3 name (x 3) k) w0 0 k (x 4) k)) ++ pl) H := hP
          have hD : va_D A (cF G ca bg (enF ea k) (su σ 25 (0) (1)) (st (st x 3 (ccF σ j3 name (x 3) k)) 4 (fgF σ (ccF σ j3 name (x 3) k) w0 0 k (x 4) k)) ++ pl) := hD
          refine lv_aload_n hx hb dX7_call_92 rfl (lv_at hl 3 rfl) ?_
          refine va_get (D := D) (ci := 7) (v := .ref ((ca 7))) (C := RX7) (T := TX7) (N := 11) hx hb hts iX7 hown hK.1 hP 0 rfl rfl 4 (by decide) (hts _ q_77) (fun _ h9 => h9) rfl dX7_call_93 ?_
          refine cm_Vv (D := D) (G := G) (As := []) (rest := []) ⟨hx, hb, hml, hown, hts⟩ (c_argEmpty l D G ca _ ea n k w0 (su σ 25 (0) (1)) (st (st x 3 (ccF σ j3 name (x 3) k)) 4 (fgF σ (ccF σ j3 name (x 3) k) w0 0 k (x 4) k)) κ _ _ hE hI0 ) gV_X7_X4_empty hdV_X4_empty ⟨Nat.le_of_ble_eq_true rfl, Nat.le_of_ble_eq_true rfl⟩ hK (va_recv hK.1 hP (ci := 5) (q0 := 7) rfl rfl) hP hD hS hA rfl hl.1 rfl (Nat.le_of_ble_eq_true rfl) dX7_call_96 ⟨Nat.le_of_ble_eq_true rfl, Nat.le_of_ble_eq_true rfl⟩ (fun ws H locs hw hP hD hS => ?_)
          subst hw
          have hP : va_P D vwCl (cF G ca bg (enF ea k) (su (su σ 25 (0) (1)) 22 (0) (0)) (st (st x 3 (ccF σ j3 name (x 3) k)) 4 (fgF σ (ccF σ j3 name (x 3) k) w0 0 k (x 4) k)) ++ pl) H := hP
          have hD : va_D A (cF G ca bg (enF ea k) (su (su σ 25 (0) (1)) 22 (0) (0)) (st (st x 3 (ccF σ j3 name (x 3) k)) 4 (fgF σ (ccF σ j3 name (x 3) k) w0 0 k (x 4) k)) ++ pl) := hD
          refine lv_iload hx hb dX7_call_99 (lv_at hl 0 rfl) ?_
          exact cm_iret (v0 := nfF σ (fgF σ (ccF σ j3 name (x 3) k) w0 0 k (x 4) k) w0 0 k k 0 (-2)) hx hb hr hlocks hP hD hS dX7_call_101 (by unfold ccl ccY ccA; simp only [eq_true c2, eq_true c5, eq_true c6, eq_false c9, if_true, nI_clamp (show j3 < 2 ^ 31 by omega), not_true, not_false_iff, not_true_eq_false, not_false_eq_true, true_or, or_true, false_or, or_false, or_self, and_self, true_and, and_true, false_and, and_false, if_true, if_false, eq_false (show ¬ (0 : Int32) ≤ -11 by decide), eq_false (show ¬ (0 : Int32) ≤ -12 by decide), eq_false (show ¬ (0 : Int32) ≤ -13 by decide), eq_false (show ¬ (0 : Int32) ≤ -14 by decide), eq_false (show ¬ (0 : Int32) ≤ -15 by decide)]; try rfl) (by unfold ccl ccY ccA; simp only [eq_true c2, eq_true c5, eq_true c6, eq_false c9, if_true, nI_clamp (show j3 < 2 ^ 31 by omega), not_true, not_false_iff, not_true_eq_false, not_false_eq_true, true_or, or_true, false_or, or_false, or_self, and_self, true_and, and_true, false_and, and_false, if_true, if_false, eq_false (show ¬ (0 : Int32) ≤ -11 by decide), eq_false (show ¬ (0 : Int32) ≤ -12 by decide), eq_false (show ¬ (0 : Int32) ≤ -13 by decide), eq_false (show ¬ (0 : Int32) ≤ -14 by decide), eq_false (show ¬ (0 : Int32) ≤ -15 by decide)]; try rfl)
      · -- 41 not
        have c6 := bI_0 c6
        refine lv_iconst (v := 2) hx hb dX7_call_44 (by decide) ?_
        refine lv_istore_n (lv' := [(3, .int 2), (4, .int (bI (fgA σ (ccF σ j3 name (x 3) k) w0 0 k k))), (0, .ref ((ca 0))), (1, .int (nI j3)), (2, .int name)]) hx hb dX7_call_45 rfl hl (by decide) rfl (fun ls hl => ?_)
        refine lv_aload_n hx hb dX7_call_46 rfl (lv_at hl 2 rfl) ?_
        refine lv_iconst (v := 1) hx hb dX7_call_47 (by decide) ?_
        refine cm_Vi (D := D) (G := G) (As := [.int 1]) (rest := []) ⟨hx, hb, hml, hown, hts⟩ (c_markFitting l D G ca _ ea n k w0 σ (st (st x 3 (ccF σ j3 name (x 3) k)) 4 (fgF σ (ccF σ j3 name (x 3) k) w0 0 k (x 4) k)) κ _ _ hE hI0 1) gV_X7_X7_markFitting hdV_X7_markFitting ⟨Nat.le_of_ble_eq_true rfl, Nat.le_of_ble_eq_true rfl⟩ hK (va_recv hK.1 hP (ci := 7) (q0 := 0) rfl rfl) hP hD hS hA rfl hl.1 rfl (Nat.le_of_ble_eq_true rfl) dX7_call_48 ⟨Nat.le_of_ble_eq_true rfl, Nat.le_of_ble_eq_true rfl⟩ (fun ws H locs hw hP hD hS => ?_)
        subst hw
        have hP : va_P D vwCl (cF G ca bg (enF ea k) σ (st (st x 3 (ccF σ j3 name (x 3) k)) 4 (fgF σ (ccF σ j3 name (x 3) k) w0 1 k (fgF σ (ccF σ j3 name (x 3) k) w0 0 k (x 4) k) k)) ++ pl) H := hP
        have hD : va_D A (cF G ca bg (enF ea k) σ (st (st x 3 (ccF σ j3 name (x 3) k)) 4 (fgF σ (ccF σ j3 name (x 3) k) w0 1 k (fgF σ (ccF σ j3 name (x 3) k) w0 0 k (x 4) k) k)) ++ pl) := hD
        refine W.eq (g2 := F0 m 51 ls [.int (bI (fgA σ (ccF σ j3 name (x 3) k) w0 1 k k))]) rfl ?_
        refine lv_istore (lv' := [(4, .int (bI (fgA σ (ccF σ j3 name (x 3) k) w0 1 k k))), (3, .int 2), (0, .ref ((ca 0))), (1, .int (nI j3)), (2, .int name)]) hx hb dX7_call_51 hl (by decide) rfl (fun ls hl => ?_)
        refine lv_iload hx hb dX7_call_53 (lv_at hl 0 rfl) ?_
        refine lv_if_eq (tgt := 75) hx hb dX7_call_55 (by decide) (fun c10 => ?_) (fun c10 => ?_)
        · -- 55 taken
          have c10 := bI_0 c10
          refine lv_iconst (v := -1) hx hb dX7_call_75 (by decide) ?_
          refine lv_istore (lv' := [(5, .int ((-1))), (4, .int (bI (fgA σ (ccF σ j3 name (x 3) k) w0 1 k k))), (3, .int 2), (0, .ref ((ca 0))), (1, .int (nI j3)), (2, .int name)]) hx hb dX7_call_76 hl (by decide) rfl (fun ls hl => ?_)
          refine lv_aload_n hx hb dX7_call_78 rfl (lv_at hl 3 rfl) ?_
          refine lv_iload hx hb dX7_call_79 (lv_at hl 0 rfl) ?_
          refine lv_if_lt (tgt := 88) hx hb dX7_call_81 (by decide) (fun hh => ?_) (fun hh => absurd (by decide) hh)
          refine lv_iconst (v := 0) hx hb dX7_call_88 (by decide) ?_
          refine va_put (D := D) (ci := 7) (v := .int 0) (ty := .int) (C := RX7) (T := TX7) (N := 11) hx hb hts iX7 tyX7 tyX7_ok nmX7 hown hK.1 hP hD hS 0 rfl rfl 5 (by decide) (hts _ q_78) (fun _ h9 => h9) rfl (by decide +kernel) rfl rfl (Nat.le_of_ble_eq_true rfl) dX7_call_89 (fun H locs hP hD hS => ?_)
          have hP : va_P D vwCl (cF G ca bg (enF ea k) (su σ 25 (0) (0)) (st (st x 3 (ccF σ j3 name (x 3) k)) 4 (fgF σ (ccF σ j3 name (x 3) k) w0 1 k (fgF σ (ccF σ j3 name (x 3) k) w0 0 k (x 4) k) k)) ++ pl) H := hP
          have hD : va_D A (cF G ca bg (enF ea k) (su σ 25 (0) (0)) (st (st x 3 (ccF σ j3 name (x 3) k)) 4 (fgF σ (ccF σ j3 name (x 3) k) w0 1 k (fgF σ (ccF σ j3 name (x 3) k) w0 0 k (x 4) k) k)) ++ pl) := hD
          refine lv_aload_n hx hb dX7_call_92 rfl (lv_at hl 3 rfl) ?_
          refine va_get (D := D) (ci := 7) (v := .ref ((ca 7))) (C := RX7) (T := TX7) (N := 11) hx hb hts iX7 hown hK.1 hP 0 rfl rfl 4 (by decide) (hts _ q_77) (fun _ h9 => h9) rfl dX7_call_93 ?_
          refine cm_Vv (D := D) (G := G) (As := []) (rest := []) ⟨hx, hb, hml, hown, hts⟩ (c_argEmpty l D G ca _ ea n k w0 (su σ 25 (0) (0)) (st (st x 3 (ccF σ j3 name (x 3) k)) 4 (fgF σ (ccF σ j3 name (x 3) k) w0 1 k (fgF σ (ccF σ j3 name (x 3) k) w0 0 k (x 4) k) k)) κ _ _ hE hI0 ) gV_X7_X4_empty hdV_X4_empty ⟨Nat.le_of_ble_eq_true rfl, Nat.le_of_ble_eq_true rfl⟩ hK (va_recv hK.1 hP (ci := 5) (q0 := 7) rfl rfl) hP hD hS hA rfl hl.1 rfl (Nat.le_of_ble_eq_true rfl) dX7_call_96 ⟨Nat.le_of_ble_eq_true rfl, Nat.le_of_ble_eq_true rfl⟩ (fun ws H locs hw hP hD hS => ?_)
          subst hw
          have hP : va_P D vwCl (cF G ca bg (enF ea k) (su (su σ 25 (0) (0)) 22 (0) (0)) (st (st x 3 (ccF σ j3 name (x 3) k)) 4 (fgF σ (ccF σ j3 name (x 3) k) w0 1 k (fgF σ (ccF σ j3 name (x 3) k) w0 0 k (x 4) k) k)) ++ pl) H := hP
          have hD : va_D A (cF G ca bg (enF ea k) (su (su σ 25 (0) (0)) 22 (0) (0)) (st (st x 3 (ccF σ j3 name (x 3) k)) 4 (fgF σ (ccF σ j3 name (x 3) k) w0 1 k (fgF σ (ccF σ j3 name (x 3) k) w0 0 k (x 4) k) k)) ++ pl) := hD
          refine lv_iload hx hb dX7_call_99 (lv_at hl 0 rfl) ?_
          exact cm_iret (v0 := (-1)) hx hb hr hlocks hP hD hS dX7_call_101 (by unfold ccl ccY ccA; simp only [eq_true c2, eq_true c5, eq_false c6, eq_false c10, if_true, nI_clamp (show j3 < 2 ^ 31 by omega), not_true, not_false_iff, not_true_eq_false, not_false_eq_true, true_or, or_true, false_or, or_false, or_self, and_self, true_and, and_true, false_and, and_false, if_true, if_false, eq_false (show ¬ (0 : Int32) ≤ -11 by decide), eq_false (show ¬ (0 : Int32) ≤ -12 by decide), eq_false (show ¬ (0 : Int32) ≤ -13 by decide), eq_false (show ¬ (0 : Int32) ≤ -14 by decide), eq_false (show ¬ (0 : Int32) ≤ -15 by decide)]; try rfl) (by unfold ccl ccY ccA; simp only [eq_true c2, eq_true c5, eq_false c6, eq_false c10, if_true, nI_clamp (show j3 < 2 ^ 31 by omega), not_true, not_false_iff, not_true_eq_false, not_false_eq_true, true_or, or_true, false_or, or_false, or_self, and_self, true_and, and_true, false_and, and_false, if_true, if_false, eq_false (show ¬ (0 : Int32) ≤ -11 by decide), eq_false (show ¬ (0 : Int32) ≤ -12 by decide), eq_false (show ¬ (0 : Int32) ≤ -13 by decide), eq_false (show ¬ (0 : Int32) ≤ -14 by decide), eq_false (show ¬ (0 : Int32) ≤ -15 by decide)]; try rfl)
        · -- 55 not
          have c10 := bI_1 c10
          refine lv_aload_n hx hb dX7_call_58 rfl (lv_at hl 2 rfl) ?_
          refine lv_iload_n hx hb dX7_call_59 rfl (lv_at hl 1 rfl) ?_
          refine lv_iconst (v := 2) hx hb dX7_call_60 (by decide) ?_
          refine lv_icmp_ne (tgt := 68) hx hb dX7_call_61 (by decide) (fun hh => absurd (by decide) hh) (fun hh => ?_)
          refine lv_iconst (v := 1) hx hb dX7_call_64 (by decide) ?_
          refine lv_goto (tgt := 69) hx hb dX7_call_65 (by decide) ?_
          have hPf : va_P D vwCl (cF G ca bg (enF ea k) σ (st (st x 3 (ccF σ j3 name (x 3) k)) 4 (fgF σ (ccF σ j3 name (x 3) k) w0 1 k (fgF σ (ccF σ j3 name (x 3) k) w0 0 k (x 4) k) k))) _ := cF_of hP
          have hEf : ∀ e, e < k → va_P D vwCl (eW G (ea e) σ κ e) _ := plE_P hP hE
          refine ro_Vi (D := D) (G := G) (As := [.int 1]) (rest := []) ⟨hx, hb, hml, hown, hts⟩ (c_nearestFitting l D G _ ca _ ea n k w0 σ (st (st x 3 (ccF σ j3 name (x 3) k)) 4 (fgF σ (ccF σ j3 name (x 3) k) w0 1 k (fgF σ (ccF σ j3 name (x 3) k) w0 0 k (x 4) k) k)) κ hPf hEf hI0 1 (fun e h8 h9 => fg_ft (cd := (ccF σ j3 name (x 3) k)) (v := 1) (f := fgF σ (ccF σ j3 name (x 3) k) w0 0 k (x 4) k) e h8 h9)) gV_X7_X7_nearestFitting hdV_X7_nearestFitting ⟨Nat.le_of_ble_eq_true rfl, Nat.le_of_ble_eq_true rfl⟩ hK (va_recv hK.1 hP (ci := 7) (q0 := 0) rfl rfl) rfl hl.1 rfl (Nat.le_of_ble_eq_true rfl) dX7_call_69 ⟨Nat.le_of_ble_eq_true rfl, Nat.le_of_ble_eq_true rfl⟩ (fun r11 e_r11 => ?_)
          subst e_r11
          refine W.eq (g2 := F0 m 72 ls [.int (nfF σ (fgF σ (ccF σ j3 name (x 3) k) w0 1 k (fgF σ (ccF σ j3 name (x 3) k) w0 0 k (x 4) k) k) w0 1 k k 0 (-2))]) rfl ?_
          refine lv_goto (tgt := 76) hx hb dX7_call_72 (by decide) ?_
          refine lv_istore (lv' := [(5, .int (nfF σ (fgF σ (ccF σ j3 name (x 3) k) w0 1 k (fgF σ (ccF σ j3 name (x 3) k) w0 0 k (x 4) k) k) w0 1 k k 0 (-2))), (4, .int (bI (fgA σ (ccF σ j3 name (x 3) k) w0 1 k k))), (3, .int 2), (0, .ref ((ca 0))), (1, .int (nI j3)), (2, .int name)]) hx hb dX7_call_76 hl (by decide) rfl (fun ls hl => ?_)
          refine lv_aload_n hx hb dX7_call_78 rfl (lv_at hl 3 rfl) ?_
          refine lv_iload hx hb dX7_call_79 (lv_at hl 0 rfl) ?_
          refine lv_if_lt (tgt := 88) hx hb dX7_call_81 (by decide) (fun c12 => ?_) (fun c12 => ?_)
          · -- 81 taken
            refine lv_iconst (v := 0) hx hb dX7_call_88 (by decide) ?_
            refine va_put (D := D) (ci := 7) (v := .int 0) (ty := .int) (C := RX7) (T := TX7) (N := 11) hx hb hts iX7 tyX7 tyX7_ok nmX7 hown hK.1 hP hD hS 0 rfl rfl 5 (by decide) (hts _ q_78) (fun _ h9 => h9) rfl (by decide +kernel) rfl rfl (Nat.le_of_ble_eq_true rfl) dX7_call_89 (fun H locs hP hD hS => ?_)
            have hP : va_P D vwCl (cF G ca bg (enF ea k) (su σ 25 (0) (0)) (st (st x 3 (ccF σ j3 name (x 3) k)) 4 (fgF σ (ccF σ j3 name (x 3) k) w0 1 k (fgF σ (ccF σ j3 name (x 3) k) w0 0 k (x 4) k) k)) ++ pl) H := hP
            have hD : va_D A (cF G ca bg (enF ea k) (su σ 25 (0) (0)) (st (st x 3 (ccF σ j3 name (x 3) k)) 4 (fgF σ (ccF σ j3 name (x 3) k) w0 1 k (fgF σ (ccF σ j3 name (x 3) k) w0 0 k (x 4) k) k)) ++ pl) := hD
            refine lv_aload_n hx hb dX7_call_92 rfl (lv_at hl 3 rfl) ?_
            refine va_get (D := D) (ci := 7) (v := .ref ((ca 7))) (C := RX7) (T := TX7) (N := 11) hx hb hts iX7 hown hK.1 hP 0 rfl rfl 4 (by decide) (hts _ q_77) (fun _ h9 => h9) rfl dX7_call_93 ?_
            refine cm_Vv (D := D) (G := G) (As := []) (rest := []) ⟨hx, hb, hml, hown, hts⟩ (c_argEmpty l D G ca _ ea n k w0 (su σ 25 (0) (0)) (st (st x 3 (ccF σ j3 name (x 3) k)) 4 (fgF σ (ccF σ j3 name (x 3) k) w0 1 k (fgF σ (ccF σ j3 name (x 3) k) w0 0 k (x 4) k) k)) κ _ _ hE hI0 ) gV_X7_X4_empty hdV_X4_empty ⟨Nat.le_of_ble_eq_true rfl, Nat.le_of_ble_eq_true rfl⟩ hK (va_recv hK.1 hP (ci := 5) (q0 := 7) rfl rfl) hP hD hS hA rfl hl.1 rfl (Nat.le_of_ble_eq_true rfl) dX7_call_96 ⟨Nat.le_of_ble_eq_true rfl, Nat.le_of_ble_eq_true rfl⟩ (fun ws H locs hw hP hD hS => ?_)
            subst hw
            have hP : va_P D vwCl (cF G ca bg (enF ea k) (su (su σ 25 (0) (0)) 22 (0) (0)) (st (st x 3 (ccF σ j3 name (x 3) k)) 4 (fgF σ (ccF σ j3 name (x 3) k) w0 1 k (fgF σ (ccF σ j3 name (x 3) k) w0 0 k (x 4) k) k)) ++ pl) H := hP
            have hD : va_D A (cF G ca bg (enF ea k) (su (su σ 25 (0) (0)) 22 (0) (0)) (st (st x 3 (ccF σ j3 name (x 3) k)) 4 (fgF σ (ccF σ j3 name (x 3) k) w0 1 k (fgF σ (ccF σ j3 name (x 3) k) w0 0 k (x 4) k) k)) ++ pl) := hD
            refine lv_iload hx hb dX7_call_99 (lv_at hl 0 rfl) ?_
            exact cm_iret (v0 := nfF σ (fgF σ (ccF σ j3 name (x 3) k) w0 1 k (fgF σ (ccF σ j3 name (x 3) k) w0 0 k (x 4) k) k) w0 1 k k 0 (-2)) hx hb hr hlocks hP hD hS dX7_call_101 (by unfold ccl ccY ccA; simp only [eq_true c2, eq_true c5, eq_false c6, eq_true c10, eq_true c12, if_true, nI_clamp (show j3 < 2 ^ 31 by omega), not_true, not_false_iff, not_true_eq_false, not_false_eq_true, true_or, or_true, false_or, or_false, or_self, and_self, true_and, and_true, false_and, and_false, if_true, if_false, eq_false (show ¬ (0 : Int32) ≤ -11 by decide), eq_false (show ¬ (0 : Int32) ≤ -12 by decide), eq_false (show ¬ (0 : Int32) ≤ -13 by decide), eq_false (show ¬ (0 : Int32) ≤ -14 by decide), eq_false (show ¬ (0 : Int32) ≤ -15 by decide)]; try rfl) (by unfold ccl ccY ccA; simp only [eq_true c2, eq_true c5, eq_false c6, eq_true c10, eq_true c12, if_true, nI_clamp (show j3 < 2 ^ 31 by omega), not_true, not_false_iff, not_true_eq_false, not_false_eq_true, true_or, or_true, false_or, or_false, or_self, and_self, true_and, and_true, false_and, and_false, if_true, if_false, eq_false (show ¬ (0 : Int32) ≤ -11 by decide), eq_false (show ¬ (0 : Int32) ≤ -12 by decide), eq_false (show ¬ (0 : Int32) ≤ -13 by decide), eq_false (show ¬ (0 : Int32) ≤ -14 by decide), eq_false (show ¬ (0 : Int32) ≤ -15 by decide)]; try rfl)
          · -- 81 not
            refine lv_iload_n hx hb dX7_call_84 rfl (lv_at hl 2 rfl) ?_
            refine lv_goto (tgt := 89) hx hb dX7_call_85 (by decide) ?_
            refine va_put (D := D) (ci := 7) (v := .int 2) (ty := .int) (C := RX7) (T := TX7) (N := 11) hx hb hts iX7 tyX7 tyX7_ok nmX7 hown hK.1 hP hD hS 0 rfl rfl 5 (by decide) (hts _ q_78) (fun _ h9 => h9) rfl (by decide +kernel) rfl rfl (Nat.le_of_ble_eq_true rfl) dX7_call_89 (fun H locs hP hD hS => ?_)
            have hP : va_P D vwCl (cF G ca bg (enF ea k) (su σ 25 (0) (2)) (st (st x 3 (ccF σ j3 name (x 3) k)) 4 (fgF σ (ccF σ j3 name (x 3) k) w0 1 k (fgF σ (ccF σ j3 name (x 3) k) w0 0 k (x 4) k) k)) ++ pl) H := hP
            have hD : va_D A (cF G ca bg (enF ea k) (su σ 25 (0) (2)) (st (st x 3 (ccF σ j3 name (x 3) k)) 4 (fgF σ (ccF σ j3 name (x 3) k) w0 1 k (fgF σ (ccF σ j3 name (x 3) k) w0 0 k (x 4) k) k)) ++ pl) := hD
            refine lv_aload_n hx hb dX7_call_92 rfl (lv_at hl 3 rfl) ?_
            refine va_get (D := D) (ci := 7) (v := .ref ((ca 7))) (C := RX7) (T := TX7) (N := 11) hx hb hts iX7 hown hK.1 hP 0 rfl rfl 4 (by decide) (hts _ q_77) (fun _ h9 => h9) rfl dX7_call_93 ?_
            refine cm_Vv (D := D) (G := G) (As := []) (rest := []) ⟨hx, hb, hml, hown, hts⟩ (c_argEmpty l D G ca _ ea n k w0 (su σ 25 (0) (2)) (st (st x 3 (ccF σ j3 name (x 3) k)) 4 (fgF σ (ccF σ j3 name (x 3) k) w0 1 k (fgF σ (ccF σ j3 name (x 3) k) w0 0 k (x 4) k) k)) κ _ _ hE hI0 ) gV_X7_X4_empty hdV_X4_empty ⟨Nat.le_of_ble_eq_true rfl, Nat.le_of_ble_eq_true rfl⟩ hK (va_recv hK.1 hP (ci := 5) (q0 := 7) rfl rfl) hP hD hS hA rfl hl.1 rfl (Nat.le_of_ble_eq_true rfl) dX7_call_96 ⟨Nat.le_of_ble_eq_true rfl, Nat.le_of_ble_eq_true rfl⟩ (fun ws H locs hw hP hD hS => ?_)
            subst hw
            have hP : va_P D vwCl (cF G ca bg (enF ea k) (su (su σ 25 (0) (2)) 22 (0) (0)) (st (st x 3 (ccF σ j3 name (x 3) k)) 4 (fgF σ (ccF σ j3 name (x 3) k) w0 1 k (fgF σ (ccF σ j3 name (x 3) k) w0 0 k (x 4) k) k)) ++ pl) H := hP
            have hD : va_D A (cF G ca bg (enF ea k) (su (su σ 25 (0) (2)) 22 (0) (0)) (st (st x 3 (ccF σ j3 name (x 3) k)) 4 (fgF σ (ccF σ j3 name (x 3) k) w0 1 k (fgF σ (ccF σ j3 name (x 3) k) w0 0 k (x 4) k) k)) ++ pl) := hD
            refine lv_iload hx hb dX7_call_99 (lv_at hl 0 rfl) ?_
            exact cm_iret (v0 := nfF σ (fgF σ (ccF σ j3 name (x 3) k) w0 1 k (fgF σ (ccF σ j3 name (x 3) k) w0 0 k (x 4) k) k) w0 1 k k 0 (-2)) hx hb hr hlocks hP hD hS dX7_call_101 (by unfold ccl ccY ccA; simp only [eq_true c2, eq_true c5, eq_false c6, eq_true c10, eq_false c12, if_true, nI_clamp (show j3 < 2 ^ 31 by omega), not_true, not_false_iff, not_true_eq_false, not_false_eq_true, true_or, or_true, false_or, or_false, or_self, and_self, true_and, and_true, false_and, and_false, if_true, if_false, eq_false (show ¬ (0 : Int32) ≤ -11 by decide), eq_false (show ¬ (0 : Int32) ≤ -12 by decide), eq_false (show ¬ (0 : Int32) ≤ -13 by decide), eq_false (show ¬ (0 : Int32) ≤ -14 by decide), eq_false (show ¬ (0 : Int32) ≤ -15 by decide)]; try rfl) (by unfold ccl ccY ccA; simp only [eq_true c2, eq_true c5, eq_false c6, eq_true c10, eq_false c12, if_true, nI_clamp (show j3 < 2 ^ 31 by omega), not_true, not_false_iff, not_true_eq_false, not_false_eq_true, true_or, or_true, false_or, or_false, or_self, and_self, true_and, and_true, false_and, and_false, if_true, if_false, eq_false (show ¬ (0 : Int32) ≤ -11 by decide), eq_false (show ¬ (0 : Int32) ≤ -12 by decide), eq_false (show ¬ (0 : Int32) ≤ -13 by decide), eq_false (show ¬ (0 : Int32) ≤ -14 by decide), eq_false (show ¬ (0 : Int32) ≤ -15 by decide)]; try rfl)
    · -- 18 not
      have c5 := bI_0 c5
      refine lv_bipush (v := -13) hx hb dX7_call_21 (by decide) ?_
      exact cm_iret (v0 := (-13)) hx hb hr hlocks hP hD hS dX7_call_23 (by unfold ccl ccY ccA; simp only [eq_true c2, eq_false c5, if_true, nI_clamp (show j3 < 2 ^ 31 by omega), not_true, not_false_iff, not_true_eq_false, not_false_eq_true, true_or, or_true, false_or, or_false, or_self, and_self, true_and, and_true, false_and, and_false, if_true, if_false, eq_false (show ¬ (0 : Int32) ≤ -11 by decide), eq_false (show ¬ (0 : Int32) ≤ -12 by decide), eq_false (show ¬ (0 : Int32) ≤ -13 by decide), eq_false (show ¬ (0 : Int32) ≤ -14 by decide), eq_false (show ¬ (0 : Int32) ≤ -15 by decide)]; try rfl) (by unfold ccl ccY ccA; simp only [eq_true c2, eq_false c5, if_true, nI_clamp (show j3 < 2 ^ 31 by omega), not_true, not_false_iff, not_true_eq_false, not_false_eq_true, true_or, or_true, false_or, or_false, or_self, and_self, true_and, and_true, false_and, and_false, if_true, if_false, eq_false (show ¬ (0 : Int32) ≤ -11 by decide), eq_false (show ¬ (0 : Int32) ≤ -12 by decide), eq_false (show ¬ (0 : Int32) ≤ -13 by decide), eq_false (show ¬ (0 : Int32) ≤ -14 by decide), eq_false (show ¬ (0 : Int32) ≤ -15 by decide)]; try rfl)
  · -- 8 not
    have c2 := bI_0 c2
    refine lv_bipush (v := -11) hx hb dX7_call_11 (by decide) ?_
    exact cm_iret (v0 := (-11)) hx hb hr hlocks hP hD hS dX7_call_13 (by unfold ccl ccY ccA; simp only [eq_false c2, if_true, not_true, not_false_iff, not_true_eq_false, not_false_eq_true, true_or, or_true, false_or, or_false, or_self, and_self, true_and, and_true, false_and, and_false, if_true, if_false, eq_false (show ¬ (0 : Int32) ≤ -11 by decide), eq_false (show ¬ (0 : Int32) ≤ -12 by decide), eq_false (show ¬ (0 : Int32) ≤ -13 by decide), eq_false (show ¬ (0 : Int32) ≤ -14 by decide), eq_false (show ¬ (0 : Int32) ≤ -15 by decide)]; try rfl) (by unfold ccl ccY ccA; simp only [eq_false c2, if_true, not_true, not_false_iff, not_true_eq_false, not_false_eq_true, true_or, or_true, false_or, or_false, or_self, and_self, true_and, and_true, false_and, and_false, if_true, if_false, eq_false (show ¬ (0 : Int32) ≤ -11 by decide), eq_false (show ¬ (0 : Int32) ≤ -12 by decide), eq_false (show ¬ (0 : Int32) ≤ -13 by decide), eq_false (show ¬ (0 : Int32) ≤ -14 by decide), eq_false (show ¬ (0 : Int32) ≤ -15 by decide)]; try rfl)
set_option maxHeartbeats 800000 in
set_option maxRecDepth 100000 in
theorem c_argEmptyX (l : Launch) (D : va_G) (G : Nat → ClassId) (ca : Nat → Nat) (bg : Value) (en : Nat → Option Nat) (σ x : MS) (pl : va_W) (sz : Nat)  : Met l yX4_empty (ww yX4_empty cX4_empty 1 none) (rmC 0 0 0) (cmP D G sz (cF G ca bg en σ x ++ pl) [.ref ((ca 7))]) (cmQv D (va_A (cF G ca bg en σ x ++ pl) sz) (fun z8 => z8 = cF G ca bg en (su σ 22 0 0) x ++ pl)) 0 0 (va_A (cF G ca bg en σ x ++ pl) sz) := by
  refine Met.ofW (cc := cX4_empty) (maxL := 1) (ret := none) (by decide) rfl ?_
  intro p e s m args below meth c s₁ B hml hv
  obtain ⟨rfl, hsz, hP, hK, hD0⟩ := hv
  have hx := B.exec
  have hb := B.bytes
  have hr := B.returns
  have hts : ∀ w ∈ TT, w.before _ s = true := fun w h => atoms_spec (ws := ww yX4_empty cX4_empty 1 none) B.pre w (List.mem_cons_of_mem _ h)
  have hown : s.vm.findClass RX4 = some m.cls := findClass_of_methodNamed B.named
  have hlocks := B.notSynchronized
  subst hsz
  have hD : va_D (va_A (cF G ca bg en σ x ++ pl) s.heap.size) (cF G ca bg en σ x ++ pl) := hD0.self
  generalize hAe : va_A (cF G ca bg en σ x ++ pl) s.heap.size = A at hD ⊢
  have hA : ∀ q : Nat, s.heap.size ≤ q → A q := fun q h => by rw [← hAe]; exact Or.inr h
  have hS : va_S A s.heap s.heap [] := va_S.rf
  have hP : va_P D vwCl (cF G ca bg en σ x ++ pl) s.heap := hP
  have hl := lv_entry ([.ref ((ca 7))]) (n := 1) (Nat.le_of_ble_eq_true rfl)
  rw [lg_entry_eq]
  generalize (lg_sl ([.ref ((ca 7))]) ++ List.replicate (1 - (lg_sl ([.ref ((ca 7))])).length) Slot.unset).toArray = ls at hl ⊢
  have hl : lv_has ls 1 [(0, .ref ((ca 7)))] := hl
  refine lv_aload_n hx hb dX4_empty_0 rfl (lv_at hl 0 rfl) ?_
  refine lv_iconst (v := 0) hx hb dX4_empty_1 (by decide) ?_
  refine va_put (D := D) (ci := 5) (v := .int 0) (ty := .int) (C := RX4) (T := TX4) (N := 3) hx hb hts iX4 tyX4 tyX4_ok nmX4 hown hK.1 hP hD hS 7 rfl rfl 2 (by decide) (hts _ q_63) (fun _ h9 => h9) rfl (by decide +kernel) rfl rfl (Nat.le_of_ble_eq_true rfl) dX4_empty_2 (fun H locs hP hD hS => ?_)
  have hP : va_P D vwCl (cF G ca bg en (su σ 22 (0) (0)) x ++ pl) H := hP
  have hD : va_D A (cF G ca bg en (su σ 22 (0) (0)) x ++ pl) := hD
  exact cm_vret hx hb hr hlocks hP hD hS dX4_empty_5 (rfl)
set_option maxHeartbeats 800000 in
set_option maxRecDepth 100000 in
theorem c_typesEmptyX (l : Launch) (D : va_G) (G : Nat → ClassId) (ca : Nat → Nat) (bg : Value) (en : Nat → Option Nat) (σ x : MS) (pl : va_W) (sz : Nat)  : Met l yX6_empty (ww yX6_empty cX6_empty 1 none) (rmC 0 0 0) (cmP D G sz (cF G ca bg en σ x ++ pl) [.ref ((ca 1))]) (cmQv D (va_A (cF G ca bg en σ x ++ pl) sz) (fun z8 => z8 = cF G ca bg en (su σ 1 0 0) x ++ pl)) 0 0 (va_A (cF G ca bg en σ x ++ pl) sz) := by
  refine Met.ofW (cc := cX6_empty) (maxL := 1) (ret := none) (by decide) rfl ?_
  intro p e s m args below meth c s₁ B hml hv
  obtain ⟨rfl, hsz, hP, hK, hD0⟩ := hv
  have hx := B.exec
  have hb := B.bytes
  have hr := B.returns
  have hts : ∀ w ∈ TT, w.before _ s = true := fun w h => atoms_spec (ws := ww yX6_empty cX6_empty 1 none) B.pre w (List.mem_cons_of_mem _ h)
  have hown : s.vm.findClass RX6 = some m.cls := findClass_of_methodNamed B.named
  have hlocks := B.notSynchronized
  subst hsz
  have hD : va_D (va_A (cF G ca bg en σ x ++ pl) s.heap.size) (cF G ca bg en σ x ++ pl) := hD0.self
  generalize hAe : va_A (cF G ca bg en σ x ++ pl) s.heap.size = A at hD ⊢
  have hA : ∀ q : Nat, s.heap.size ≤ q → A q := fun q h => by rw [← hAe]; exact Or.inr h
  have hS : va_S A s.heap s.heap [] := va_S.rf
  have hP : va_P D vwCl (cF G ca bg en σ x ++ pl) s.heap := hP
  have hl := lv_entry ([.ref ((ca 1))]) (n := 1) (Nat.le_of_ble_eq_true rfl)
  rw [lg_entry_eq]
  generalize (lg_sl ([.ref ((ca 1))]) ++ List.replicate (1 - (lg_sl ([.ref ((ca 1))])).length) Slot.unset).toArray = ls at hl ⊢
  have hl : lv_has ls 1 [(0, .ref ((ca 1)))] := hl
  refine lv_aload_n hx hb dX6_empty_0 rfl (lv_at hl 0 rfl) ?_
  refine lv_iconst (v := 0) hx hb dX6_empty_1 (by decide) ?_
  refine va_put (D := D) (ci := 6) (v := .int 0) (ty := .int) (C := RX6) (T := TX6) (N := 5) hx hb hts iX6 tyX6 tyX6_ok nmX6 hown hK.1 hP hD hS 1 rfl rfl 4 (by decide) (hts _ q_39) (fun _ h9 => h9) rfl (by decide +kernel) rfl rfl (Nat.le_of_ble_eq_true rfl) dX6_empty_2 (fun H locs hP hD hS => ?_)
  have hP : va_P D vwCl (cF G ca bg en (su σ 1 (0) (0)) x ++ pl) H := hP
  have hD : va_D A (cF G ca bg en (su σ 1 (0) (0)) x ++ pl) := hD
  exact cm_vret hx hb hr hlocks hP hD hS dX6_empty_5 (rfl)
set_option maxHeartbeats 800000 in
set_option maxRecDepth 100000 in
theorem c_clear (l : Launch) (D : va_G) (G : Nat → ClassId) (ca : Nat → Nat) (bg : Value) (ea : Nat → Nat → Nat) (n k w0 : Nat) (σ x : MS) (κ : Nat → Int64) (pl : va_W) (sz : Nat) (hE : plE G ea σ κ k pl) (hI : cI σ x n k w0) (τ : Nat → Int64) : Met l yX7_clear (ww yX7_clear cX7_clear 3 (some .int)) (rmC 1 0 0) (cmP D G sz (cF G ca bg (enF ea k) σ x ++ pl) [.ref ((ca 0))]) (cmQi D (va_A (cF G ca bg (enF ea k) σ x ++ pl) sz) ((oClear σ τ k).1) (fun z8 => z8 = cF G ca .null (enC (enF ea k) k) (oClear σ τ k).2.1 x ++ pl)) 0 0 (va_A (cF G ca bg (enF ea k) σ x ++ pl) sz) := by
  refine Met.ofW (cc := cX7_clear) (maxL := 3) (ret := (some .int)) (by decide) rfl ?_
  intro p e s m args below meth c s₁ B hml hv
  obtain ⟨rfl, hsz, hP, hK, hD0⟩ := hv
  have hx := B.exec
  have hb := B.bytes
  have hr := B.returns
  have hts : ∀ w ∈ TT, w.before _ s = true := fun w h => atoms_spec (ws := ww yX7_clear cX7_clear 3 (some .int)) B.pre w (List.mem_cons_of_mem _ h)
  have hown : s.vm.findClass RX7 = some m.cls := findClass_of_methodNamed B.named
  have hlocks := B.notSynchronized
  subst hsz
  have hD : va_D (va_A (cF G ca bg (enF ea k) σ x ++ pl) s.heap.size) (cF G ca bg (enF ea k) σ x ++ pl) := hD0.self
  generalize hAe : va_A (cF G ca bg (enF ea k) σ x ++ pl) s.heap.size = A at hD ⊢
  have hA : ∀ q : Nat, s.heap.size ≤ q → A q := fun q h => by rw [← hAe]; exact Or.inr h
  have hS : va_S A s.heap s.heap [] := va_S.rf
  have hP : va_P D vwCl (cF G ca bg (enF ea k) σ x ++ pl) s.heap := hP
  have hI0 := hI
  obtain ⟨h1, hn, h7, hk60, h22, hw, hab, hfa, hmi, hak, hrf⟩ := hI
  have hl := lv_entry ([.ref ((ca 0))]) (n := 3) (Nat.le_of_ble_eq_true rfl)
  rw [lg_entry_eq]
  generalize (lg_sl ([.ref ((ca 0))]) ++ List.replicate (3 - (lg_sl ([.ref ((ca 0))])).length) Slot.unset).toArray = ls at hl ⊢
  have hl : lv_has ls 3 [(0, .ref ((ca 0)))] := hl
  refine lv_aload_n hx hb dX7_clear_0 rfl (lv_at hl 0 rfl) ?_
  refine va_get (D := D) (ci := 7) (v := .int (σ 7 0)) (C := RX7) (T := TX7) (N := 11) hx hb hts iX7 hown hK.1 hP 0 rfl rfl 2 (by decide) (hts _ q_75) (fun _ h9 => h9) rfl dX7_clear_1 ?_
  refine W.eq (g2 := F0 m 4 ls [.int (nI k)]) (congrArg (fun z9 => F0 m 4 ls [.int z9]) h7) ?_
  refine lv_istore_n (lv' := [(1, .int (nI k)), (0, .ref ((ca 0)))]) hx hb dX7_clear_4 rfl hl (by decide) rfl (fun ls hl => ?_)
  refine lv_iconst (v := 0) hx hb dX7_clear_5 (by decide) ?_
  refine lv_istore_n (lv' := [(2, .int 0), (1, .int (nI k)), (0, .ref ((ca 0)))]) hx hb dX7_clear_6 rfl hl (by decide) rfl (fun ls hl => ?_)
  refine w_forM (N := k) 7 (L := fun q9 ls H locs => lv_has ls 3 [(2, .int (nI q9)), (1, .int (nI k)), (0, .ref ((ca 0)))] ∧ va_P D vwCl (cF G ca bg (enC (enF ea k) q9) σ x ++ pl) H ∧ va_D A (cF G ca bg (enC (enF ea k) q9) σ x ++ pl) ∧ va_S A s.heap H locs) (fun k9 ls H locs hk hL ih7 => ?_) 0 ls _ _ (by omega) ⟨hl, hP, hD, hS⟩
  obtain ⟨hl, hP, hD, hS⟩ := hL
  have hl : lv_has ls 3 [(2, .int (nI k9)), (1, .int (nI k)), (0, .ref ((ca 0)))] := hl
  refine lv_iload_n hx hb dX7_clear_7 rfl (lv_at hl 0 rfl) ?_
  refine lv_aload_n hx hb dX7_clear_8 rfl (lv_at hl 2 rfl) ?_
  refine va_get (D := D) (ci := 7) (v := .int (σ 7 0)) (C := RX7) (T := TX7) (N := 11) hx hb hts iX7 hown hK.1 hP 0 rfl rfl 2 (by decide) (hts _ q_75) (fun _ h9 => h9) rfl dX7_clear_9 ?_
  refine lv_icmp_ge (tgt := 28) hx hb dX7_clear_12 (by decide) (fun c1 => ?_) (fun c1 => ?_)
  · -- 12 taken
    have c1 : k ≤ k9 := (nI_leI (a := k) (b := k9) (by omega) (by omega)).mp (by have h8 := c1; rw [h7] at h8; exact h8)
    obtain rfl : k = k9 := by omega
    have hP : va_P D vwCl (cF G ca bg (enC (enF ea k) k) σ x ++ pl) H := hP
    have hD : va_D A (cF G ca bg (enC (enF ea k) k) σ x ++ pl) := hD
    refine lv_iconst (v := 0) hx hb dX7_clear_28 (by decide) ?_
    refine lv_istore_n (lv' := [(2, .int 0), (1, .int (nI k)), (0, .ref ((ca 0)))]) hx hb dX7_clear_29 rfl hl (by decide) rfl (fun ls hl => ?_)
    refine w_forM (N := 26) 30 (L := fun q9 ls H locs => lv_has ls 3 [(2, .int (nI q9)), (1, .int (nI k)), (0, .ref ((ca 0)))] ∧ va_P D vwCl (cF G ca bg (enC (enF ea k) k) (st σ 27 (zeF (σ 27) q9)) x ++ pl) H ∧ va_D A (cF G ca bg (enC (enF ea k) k) (st σ 27 (zeF (σ 27) q9)) x ++ pl) ∧ va_S A s.heap H locs) (fun k9 ls H locs hk hL ih30 => ?_) 0 ls _ _ (by omega) ⟨hl, hP, hD, hS⟩
    obtain ⟨hl, hP, hD, hS⟩ := hL
    have hl : lv_has ls 3 [(2, .int (nI k9)), (1, .int (nI k)), (0, .ref ((ca 0)))] := hl
    refine lv_iload_n hx hb dX7_clear_30 rfl (lv_at hl 0 rfl) ?_
    refine lv_bipush (v := 25) hx hb dX7_clear_31 (by decide) ?_
    refine lv_icmp_gt (tgt := 49) hx hb dX7_clear_33 (by decide) (fun c2 => ?_) (fun c2 => ?_)
    · -- 33 taken
      have c2 : 25 < k9 := (nI_ltI (a := 25) (b := k9) (by omega) (by omega)).mp (by have h8 := c2; exact h8)
      obtain rfl : 26 = k9 := by omega
      have hP : va_P D vwCl (cF G ca bg (enC (enF ea k) k) (st σ 27 (zeF (σ 27) 26)) x ++ pl) H := hP
      have hD : va_D A (cF G ca bg (enC (enF ea k) k) (st σ 27 (zeF (σ 27) 26)) x ++ pl) := hD
      refine lv_aload_n hx hb dX7_clear_49 rfl (lv_at hl 2 rfl) ?_
      refine lv_iconst (v := 0) hx hb dX7_clear_50 (by decide) ?_
      refine va_put (D := D) (ci := 7) (v := .int 0) (ty := .int) (C := RX7) (T := TX7) (N := 11) hx hb hts iX7 tyX7 tyX7_ok nmX7 hown hK.1 hP hD hS 0 rfl rfl 7 (by decide) (hts _ q_80) (fun _ h9 => h9) rfl (by decide +kernel) rfl rfl (Nat.le_of_ble_eq_true rfl) dX7_clear_51 (fun H locs hP hD hS => ?_)
      have hP : va_P D vwCl (cF G ca bg (enC (enF ea k) k) (su (st σ 27 (zeF (σ 27) 26)) 26 (0) (0)) x ++ pl) H := hP
      have hD : va_D A (cF G ca bg (enC (enF ea k) k) (su (st σ 27 (zeF (σ 27) 26)) 26 (0) (0)) x ++ pl) := hD
      refine lv_aload_n hx hb dX7_clear_54 rfl (lv_at hl 2 rfl) ?_
      refine lv_iconst (v := 0) hx hb dX7_clear_55 (by decide) ?_
      refine va_put (D := D) (ci := 7) (v := .int 0) (ty := .int) (C := RX7) (T := TX7) (N := 11) hx hb hts iX7 tyX7 tyX7_ok nmX7 hown hK.1 hP hD hS 0 rfl rfl 2 (by decide) (hts _ q_75) (fun _ h9 => h9) rfl (by decide +kernel) rfl rfl (Nat.le_of_ble_eq_true rfl) dX7_clear_56 (fun H locs hP hD hS => ?_)
      have hP : va_P D vwCl (cF G ca bg (enC (enF ea k) k) (su (su (st σ 27 (zeF (σ 27) 26)) 26 (0) (0)) 7 (0) (0)) x ++ pl) H := hP
      have hD : va_D A (cF G ca bg (enC (enF ea k) k) (su (su (st σ 27 (zeF (σ 27) 26)) 26 (0) (0)) 7 (0) (0)) x ++ pl) := hD
      refine lv_aload_n hx hb dX7_clear_59 rfl (lv_at hl 2 rfl) ?_
      refine lv_null hx hb dX7_clear_60 ?_
      refine va_put (D := D) (ci := 7) (v := .null) (ty := .object "FieldMember$Member") (C := RX7) (T := TX7) (N := 11) hx hb hts iX7 tyX7 tyX7_ok nmX7 hown hK.1 hP hD hS 0 rfl rfl 3 (by decide) (hts _ q_76) (fun _ h9 => h9) rfl (by decide +kernel) rfl rfl (Nat.le_of_ble_eq_true rfl) dX7_clear_61 (fun H locs hP hD hS => ?_)
      have hP : va_P D vwCl (cF G ca (.null) (enC (enF ea k) k) (su (su (st σ 27 (zeF (σ 27) 26)) 26 (0) (0)) 7 (0) (0)) x ++ pl) H := hP
      have hD : va_D A (cF G ca (.null) (enC (enF ea k) k) (su (su (st σ 27 (zeF (σ 27) 26)) 26 (0) (0)) 7 (0) (0)) x ++ pl) := hD
      refine lv_aload_n hx hb dX7_clear_64 rfl (lv_at hl 2 rfl) ?_
      refine lv_iconst (v := 0) hx hb dX7_clear_65 (by decide) ?_
      refine va_put (D := D) (ci := 7) (v := .int 0) (ty := .int) (C := RX7) (T := TX7) (N := 11) hx hb hts iX7 tyX7 tyX7_ok nmX7 hown hK.1 hP hD hS 0 rfl rfl 5 (by decide) (hts _ q_78) (fun _ h9 => h9) rfl (by decide +kernel) rfl rfl (Nat.le_of_ble_eq_true rfl) dX7_clear_66 (fun H locs hP hD hS => ?_)
      have hP : va_P D vwCl (cF G ca (.null) (enC (enF ea k) k) (su (su (su (st σ 27 (zeF (σ 27) 26)) 26 (0) (0)) 7 (0) (0)) 25 (0) (0)) x ++ pl) H := hP
      have hD : va_D A (cF G ca (.null) (enC (enF ea k) k) (su (su (su (st σ 27 (zeF (σ 27) 26)) 26 (0) (0)) 7 (0) (0)) 25 (0) (0)) x ++ pl) := hD
      refine lv_aload_n hx hb dX7_clear_69 rfl (lv_at hl 2 rfl) ?_
      refine va_get (D := D) (ci := 7) (v := .ref ((ca 7))) (C := RX7) (T := TX7) (N := 11) hx hb hts iX7 hown hK.1 hP 0 rfl rfl 4 (by decide) (hts _ q_77) (fun _ h9 => h9) rfl dX7_clear_70 ?_
      refine cm_Vv (D := D) (G := G) (As := []) (rest := []) ⟨hx, hb, hml, hown, hts⟩ (c_argEmptyX l D G ca _ _ (su (su (su (st σ 27 (zeF (σ 27) 26)) 26 (0) (0)) 7 (0) (0)) 25 (0) (0)) x _ _ ) gV_X7_X4_empty hdV_X4_empty ⟨Nat.le_of_ble_eq_true rfl, Nat.le_of_ble_eq_true rfl⟩ hK (va_recv hK.1 hP (ci := 5) (q0 := 7) rfl rfl) hP hD hS hA rfl hl.1 rfl (Nat.le_of_ble_eq_true rfl) dX7_clear_73 ⟨Nat.le_of_ble_eq_true rfl, Nat.le_of_ble_eq_true rfl⟩ (fun ws H locs hw hP hD hS => ?_)
      subst hw
      have hP : va_P D vwCl (cF G ca (.null) (enC (enF ea k) k) (su (su (su (su (st σ 27 (zeF (σ 27) 26)) 26 (0) (0)) 7 (0) (0)) 25 (0) (0)) 22 (0) (0)) x ++ pl) H := hP
      have hD : va_D A (cF G ca (.null) (enC (enF ea k) k) (su (su (su (su (st σ 27 (zeF (σ 27) 26)) 26 (0) (0)) 7 (0) (0)) 25 (0) (0)) 22 (0) (0)) x ++ pl) := hD
      refine lv_aload_n hx hb dX7_clear_76 rfl (lv_at hl 2 rfl) ?_
      refine va_get (D := D) (ci := 7) (v := .ref ((ca 1))) (C := RX7) (T := TX7) (N := 11) hx hb hts iX7 hown hK.1 hP 0 rfl rfl 0 (by decide) (hts _ q_73) (fun _ h9 => h9) rfl dX7_clear_77 ?_
      refine cm_Vv (D := D) (G := G) (As := []) (rest := []) ⟨hx, hb, hml, hown, hts⟩ (c_typesEmptyX l D G ca _ _ (su (su (su (su (st σ 27 (zeF (σ 27) 26)) 26 (0) (0)) 7 (0) (0)) 25 (0) (0)) 22 (0) (0)) x _ _ ) gV_X7_X6_empty hdV_X6_empty ⟨Nat.le_of_ble_eq_true rfl, Nat.le_of_ble_eq_true rfl⟩ hK (va_recv hK.1 hP (ci := 6) (q0 := 1) rfl rfl) hP hD hS hA rfl hl.1 rfl (Nat.le_of_ble_eq_true rfl) dX7_clear_80 ⟨Nat.le_of_ble_eq_true rfl, Nat.le_of_ble_eq_true rfl⟩ (fun ws H locs hw hP hD hS => ?_)
      subst hw
      have hP : va_P D vwCl (cF G ca (.null) (enC (enF ea k) k) (su (su (su (su (su (st σ 27 (zeF (σ 27) 26)) 26 (0) (0)) 7 (0) (0)) 25 (0) (0)) 22 (0) (0)) 1 (0) (0)) x ++ pl) H := hP
      have hD : va_D A (cF G ca (.null) (enC (enF ea k) k) (su (su (su (su (su (st σ 27 (zeF (σ 27) 26)) 26 (0) (0)) 7 (0) (0)) 25 (0) (0)) 22 (0) (0)) 1 (0) (0)) x ++ pl) := hD
      refine lv_iload_n hx hb dX7_clear_83 rfl (lv_at hl 1 rfl) ?_
      exact cm_iret (v0 := nI k) hx hb hr hlocks hP hD hS dX7_clear_84 (rfl) (rfl)
    · -- 33 not
      have c2 : ¬ 25 < k9 := fun h9 => c2 (by exact (nI_ltI (a := 25) (b := k9) (by omega) (by omega)).mpr h9)
      refine lv_aload_n hx hb dX7_clear_36 rfl (lv_at hl 2 rfl) ?_
      refine va_get (D := D) (ci := 7) (v := .ref ((ca 10))) (C := RX7) (T := TX7) (N := 11) hx hb hts iX7 hown hK.1 hP 0 rfl rfl 6 (by decide) (hts _ q_79) (fun _ h9 => h9) rfl dX7_clear_37 ?_
      refine lv_iload_n hx hb dX7_clear_40 rfl (lv_at hl 0 rfl) ?_
      refine lv_iconst (v := 0) hx hb dX7_clear_41 (by decide) ?_
      refine iast_n hx hb hK.1 hP hD hS 10 0 rfl rfl (k9) rfl (by omega) (by decide) dX7_clear_42 (fun H locs hP hD hS => ?_)
      have hP : va_P D vwCl (cF G ca bg (enC (enF ea k) k) (st σ 27 (upd (zeF (σ 27) k9) (k9) (0))) x ++ pl) H := hP
      have hD : va_D A (cF G ca bg (enC (enF ea k) k) (st σ 27 (upd (zeF (σ 27) k9) (k9) (0))) x ++ pl) := hD
      refine lv_iinc (v := nI (k9 + 1)) (lv' := [(2, .int (nI (k9 + 1))), (1, .int (nI k)), (0, .ref ((ca 0)))]) hx hb dX7_clear_43 hl (k := 0) rfl (nI_1 _) (by decide) rfl (fun ls hl => ?_)
      refine lv_goto (tgt := 30) hx hb dX7_clear_46 (by decide) ?_
      exact ih30 _ _ _ (by omega) ⟨lv_sub hl [0, 1, 2] rfl, hP, hD, hS⟩
  · -- 12 not
    have c1 : ¬ k ≤ k9 := fun h9 => c1 (by rw [h7]; exact (nI_leI (a := k) (b := k9) (by omega) (by omega)).mpr h9)
    refine lv_aload_n hx hb dX7_clear_15 rfl (lv_at hl 2 rfl) ?_
    refine va_get (D := D) (ci := 7) (v := .ref ((ca 6))) (C := RX7) (T := TX7) (N := 11) hx hb hts iX7 hown hK.1 hP 0 rfl rfl 1 (by decide) (hts _ q_74) (fun _ h9 => h9) rfl dX7_clear_16 ?_
    refine lv_iload_n hx hb dX7_clear_19 rfl (lv_at hl 0 rfl) ?_
    refine lv_null hx hb dX7_clear_20 ?_
    refine aast_n hx hb hK.1 hP hD hS 6 rfl (k9) rfl (by omega) dX7_clear_21 (fun H locs hP hD hS => ?_)
    have hP : va_P D vwCl (cF G ca bg (va_up (enC (enF ea k) k9) (k9) none) σ x ++ pl) H := hP
    have hD : va_D A (cF G ca bg (va_up (enC (enF ea k) k9) (k9) none) σ x ++ pl) := hD
    refine lv_iinc (v := nI (k9 + 1)) (lv' := [(2, .int (nI (k9 + 1))), (1, .int (nI k)), (0, .ref ((ca 0)))]) hx hb dX7_clear_22 hl (k := 0) rfl (nI_1 _) (by decide) rfl (fun ls hl => ?_)
    refine lv_goto (tgt := 7) hx hb dX7_clear_25 (by decide) ?_
    exact ih7 _ _ _ (by omega) ⟨lv_sub hl [0, 1, 2] rfl, hP, hD, hS⟩
