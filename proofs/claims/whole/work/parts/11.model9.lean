def oCall (σ : MS) (τ : Nat → Int64) (n k w : Nat) (t name : Int32) : Int32 × MU :=
  if ¬ okN n t then (-11, su σ 0 0 0, τ) else if ¬ (0 ≤ name ∧ name ≤ 49) then (-13, su σ 0 0 0, τ)
  else if ¬ nrA (caS (su σ 0 0 0) t.toNatClampNeg name k) w k 0 = -1 then
    (nrA (caS (su σ 0 0 0) t.toNatClampNeg name k) w k 0, su (su (nrS (caS (su σ 0 0 0) t.toNatClampNeg name k) w k 0) 22 0 0) 25 0 (if 0 ≤ nrA (caS (su σ 0 0 0) t.toNatClampNeg name k) w k 0 then 1 else 0), τ)
  else (nrA (nrS (caS (su σ 0 0 0) t.toNatClampNeg name k) w k 0) w k 1, su (su (st (caS (su σ 0 0 0) t.toNatClampNeg name k) 32 (tpF (nrS (caS (su σ 0 0 0) t.toNatClampNeg name k) w k 0) w 1 (tpF (caS (su σ 0 0 0) t.toNatClampNeg name k) w 0 (σ 32) k) k)) 22 0 0) 25 0 (if 0 ≤ nrA (nrS (caS (su σ 0 0 0) t.toNatClampNeg name k) w k 0) w k 1 then 2 else 0), τ)
-- a name that is looked for
/-- what a place of the found ones holds: none, a clash, or an entry -/
abbrev okV (K : Nat) (x : Int32) : Prop := x = -1 ∨ x = -2 ∨ (x = nI x.toNatClampNeg ∧ x.toNatClampNeg < K)
def paV (σ : MS) (T : Nat → Int32) (t : Nat) : Int32 := if ¬ T (σ 3 t).toNatClampNeg < 0 ∧ ¬ σ 13 (T (σ 3 t).toNatClampNeg).toNatClampNeg &&& 4 = 0 then -1 else T (σ 3 t).toNatClampNeg
def f1V (σ : MS) (K : Nat) (name : Int32) (T : Nat → Int32) (t : Nat) : Int32 := if fld σ K (nI t) name = -1 ∧ ¬ σ 3 t = -1 then paV σ T t else fld σ K (nI t) name
def bfF (σ : MS) (T : Nat → Int32) (t : Nat) (x : Int32) : Nat → Int32
  | 0 => x
  | i + 1 => bothF (bfF σ T t x i) (T (σ 4 (3 * t + i)).toNatClampNeg)
def skV (σ : MS) (K : Nat) (name : Int32) (T : Nat → Int32) (t : Nat) : Int32 :=
  if f1V σ K name T t = -1 ∨ ¬ σ 9 (if 0 ≤ f1V σ K name T t then f1V σ K name T t else 0).toNatClampNeg = nI t ∨ f1V σ K name T t = -2 then bfF σ T t (f1V σ K name T t) (σ 5 t).toNatClampNeg else f1V σ K name T t
def skF (σ : MS) (K : Nat) (name : Int32) (f : Nat → Int32) : Nat → Nat → Int32
  | 0 => f
  | t + 1 => upd (skF σ K name f t) t (skV σ K name (skF σ K name f t) t)
def oSought (σ : MS) (τ : Nat → Int64) (n k : Nat) (t name : Int32) : Int32 × MU :=
  if ¬ okN n t then (-11, su σ 0 0 0, τ) else if ¬ (0 ≤ name ∧ name ≤ 49) then (-13, su σ 0 0 0, τ)
  else (skF σ k name (σ 29) (t.toNatClampNeg + 1) t.toNatClampNeg, st (su σ 0 0 0) 29 (skF σ k name (σ 29) (t.toNatClampNeg + 1)), τ)
theorem fnd_ok {P : Nat → Prop} [DecidablePred P] {K : Nat} (hK : K < 2 ^ 31) : ∀ (f i : Nat), i + f ≤ K → okV K (fnd P f i)
  | 0, _, _ => Or.inl rfl
  | f + 1, i, h => by
    unfold fnd; split
    · right; right; rw [nI_clamp (by omega)]; exact ⟨rfl, by omega⟩
    · exact fnd_ok hK f (i + 1) (by omega)
theorem both_ok {K : Nat} {x y : Int32} (hx : okV K x) (hy : okV K y) : okV K (bothF x y) := by
  unfold bothF; repeat' split
  · exact hy
  · exact hx
  · exact Or.inr (Or.inl rfl)
theorem paV_ok {σ : MS} {K : Nat} {T : Nat → Int32} {t : Nat} (h : okV K (T (σ 3 t).toNatClampNeg)) : okV K (paV σ T t) := by unfold paV; split; exact Or.inl rfl; exact h
theorem f1V_ok {σ : MS} {K : Nat} {name : Int32} {T : Nat → Int32} {t : Nat} (hK : K < 2 ^ 31) (h : ¬ σ 3 t = -1 → okV K (T (σ 3 t).toNatClampNeg)) : okV K (f1V σ K name T t) := by
  unfold f1V; split
  · rename_i q; exact paV_ok (h q.2)
  · exact fnd_ok hK K 0 (by omega)
theorem bfF_ok {σ : MS} {K : Nat} {T : Nat → Int32} {t : Nat} {x : Int32} (hx : okV K x) : ∀ i, (∀ q, q < i → okV K (T (σ 4 (3 * t + q)).toNatClampNeg)) → okV K (bfF σ T t x i)
  | 0, _ => hx
  | i + 1, h => both_ok (bfF_ok hx i (fun q hq => h q (by omega))) (h i (by omega))
/-- parents and faces are earlier types -/
abbrev eaP (σ : MS) (t : Nat) : Prop := (¬ σ 3 t = -1 → (σ 3 t).toNatClampNeg < t) ∧ ∀ q, q < (σ 5 t).toNatClampNeg → (σ 4 (3 * t + q)).toNatClampNeg < t
theorem skV_ok {σ : MS} {K : Nat} {name : Int32} {T : Nat → Int32} {t : Nat} (hK : K < 2 ^ 31) (he : eaP σ t) (h : ∀ i, i < t → okV K (T i)) : okV K (skV σ K name T t) := by
  have h1 := f1V_ok (σ := σ) (name := name) (T := T) (t := t) hK (fun q => h _ (he.1 q))
  have h2 := bfF_ok h1 _ (fun q hq => h _ (he.2 q hq))
  unfold skV; repeat' split
  all_goals first | exact h2 | exact h1
theorem skF_ok {σ : MS} {K : Nat} {name : Int32} {f : Nat → Int32} (hK : K < 2 ^ 31) : ∀ t, (∀ i, i < t → eaP σ i) → ∀ i, i < t → okV K (skF σ K name f t i)
  | t + 1, he, i, hi => by
    show okV K (upd (skF σ K name f t) t _ i)
    by_cases q : i = t
    · rw [q, pk_us]; exact skV_ok hK (he t (by omega)) (skF_ok hK t (fun j hj => he j (by omega)))
    · rw [pk_un q]; exact skF_ok hK t (fun j hj => he j (by omega)) i (by omega)
theorem okV_n {K : Nat} {x : Int32} (h : okV K x) (hx : ¬ x < 0) : x = nI x.toNatClampNeg ∧ x.toNatClampNeg < K := by
  rcases h with rfl | rfl | h
  · exact absurd (by decide) hx
  · exact absurd (by decide) hx
  · exact h

theorem dX8_call_0 : decode cX8_call 0 = .ok (.aload_n 0, 1) := by decide +kernel
theorem dX8_call_1 : decode cX8_call 1 = .ok (.iconst 0, 1) := by decide +kernel
theorem dX8_call_2 : decode cX8_call 2 = .ok (.putfield 90, 3) := by decide +kernel
theorem dX8_call_5 : decode cX8_call 5 = .ok (.aload_n 0, 1) := by decide +kernel
theorem dX8_call_6 : decode cX8_call 6 = .ok (.iload_n 1, 1) := by decide +kernel
theorem dX8_call_7 : decode cX8_call 7 = .ok (.invokevirtual 104, 3) := by decide +kernel
theorem dX8_call_10 : decode cX8_call 10 = .ok (.ifCond .ne 6, 3) := by decide +kernel
theorem dX8_call_16 : decode cX8_call 16 = .ok (.iload_n 2, 1) := by decide +kernel
theorem dX8_call_17 : decode cX8_call 17 = .ok (.iconst 0, 1) := by decide +kernel
theorem dX8_call_18 : decode cX8_call 18 = .ok (.bipush 49, 2) := by decide +kernel
theorem dX8_call_20 : decode cX8_call 20 = .ok (.invokestatic 97, 3) := by decide +kernel
theorem dX8_call_23 : decode cX8_call 23 = .ok (.ifCond .ne 6, 3) := by decide +kernel
theorem dX8_call_29 : decode cX8_call 29 = .ok (.aload_n 0, 1) := by decide +kernel
theorem dX8_call_30 : decode cX8_call 30 = .ok (.iload_n 1, 1) := by decide +kernel
theorem dX8_call_31 : decode cX8_call 31 = .ok (.iload_n 2, 1) := by decide +kernel
theorem q_949 : Cond.methodLink "FieldMemberModel" 220 ⟨"FieldMemberModel", "candidates", "(II)V"⟩ ∈ TT := tt_t (i := 949) (by decide +kernel) (by decide +kernel)
theorem q_952 : Cond.code ⟨"FieldMemberModel", "candidates", "(II)V"⟩ prog_10_method_41_code 6 none ∈ TT := tt_t (i := 952) (by decide +kernel) (by decide +kernel)
theorem q_951 : Cond.instanceMethod ⟨"FieldMemberModel", "candidates", "(II)V"⟩ ∈ TT := tt_t (i := 951) (by decide +kernel) (by decide +kernel)
theorem qs_50 : Cond.selects "FieldMemberModel" ⟨"FieldMemberModel", "candidates", "(II)V"⟩ ⟨"FieldMemberModel", "candidates", "(II)V"⟩ ∈ TT := tt_s (i := 50) (by decide +kernel) (by decide +kernel)
theorem gV_X8_X8_candidates : GoodIn TT (wsV RX8 220 RX8 yX8_candidates (ww yX8_candidates cX8_candidates 6 none)) := tt_V q_949 q_951 qs_50 q_4 q_952
theorem hdV_X8_candidates : yX8_candidates.cls = RX8 ∧ yX8_candidates.cls ≠ "java/lang/invoke/MethodHandle" ∧ yX8_candidates.cls ≠ "java/lang/invoke/VarHandle" ∧ (parseMethodDescriptor yX8_candidates.desc).map (fun d => d.parameters.length) = some 2 := by decide +kernel
theorem dX8_call_32 : decode cX8_call 32 = .ok (.invokevirtual 220, 3) := by decide +kernel
theorem dX8_call_35 : decode cX8_call 35 = .ok (.aload_n 0, 1) := by decide +kernel
theorem dX8_call_36 : decode cX8_call 36 = .ok (.iconst 0, 1) := by decide +kernel
theorem q_953 : Cond.methodLink "FieldMemberModel" 223 ⟨"FieldMemberModel", "nearest", "(Z)I"⟩ ∈ TT := tt_t (i := 953) (by decide +kernel) (by decide +kernel)
theorem q_956 : Cond.code ⟨"FieldMemberModel", "nearest", "(Z)I"⟩ prog_10_method_46_code 7 (some .int) ∈ TT := tt_t (i := 956) (by decide +kernel) (by decide +kernel)
theorem q_955 : Cond.instanceMethod ⟨"FieldMemberModel", "nearest", "(Z)I"⟩ ∈ TT := tt_t (i := 955) (by decide +kernel) (by decide +kernel)
theorem qs_51 : Cond.selects "FieldMemberModel" ⟨"FieldMemberModel", "nearest", "(Z)I"⟩ ⟨"FieldMemberModel", "nearest", "(Z)I"⟩ ∈ TT := tt_s (i := 51) (by decide +kernel) (by decide +kernel)
theorem gV_X8_X8_nearest : GoodIn TT (wsV RX8 223 RX8 yX8_nearest (ww yX8_nearest cX8_nearest 7 (some .int))) := tt_V q_953 q_955 qs_51 q_4 q_956
theorem hdV_X8_nearest : yX8_nearest.cls = RX8 ∧ yX8_nearest.cls ≠ "java/lang/invoke/MethodHandle" ∧ yX8_nearest.cls ≠ "java/lang/invoke/VarHandle" ∧ (parseMethodDescriptor yX8_nearest.desc).map (fun d => d.parameters.length) = some 1 := by decide +kernel
theorem dX8_call_37 : decode cX8_call 37 = .ok (.invokevirtual 223, 3) := by decide +kernel
theorem dX8_call_40 : decode cX8_call 40 = .ok (.istore_n 3, 1) := by decide +kernel
theorem dX8_call_41 : decode cX8_call 41 = .ok (.iconst 1, 1) := by decide +kernel
theorem dX8_call_42 : decode cX8_call 42 = .ok (.istore 4, 2) := by decide +kernel
theorem dX8_call_44 : decode cX8_call 44 = .ok (.iload_n 3, 1) := by decide +kernel
theorem dX8_call_45 : decode cX8_call 45 = .ok (.iconst (-1), 1) := by decide +kernel
theorem dX8_call_46 : decode cX8_call 46 = .ok (.if_icmp .ne 12, 3) := by decide +kernel
theorem dX8_call_58 : decode cX8_call 58 = .ok (.aload_n 0, 1) := by decide +kernel
theorem dX8_call_59 : decode cX8_call 59 = .ok (.iconst 0, 1) := by decide +kernel
theorem dX8_call_60 : decode cX8_call 60 = .ok (.putfield 196, 3) := by decide +kernel
theorem dX8_call_63 : decode cX8_call 63 = .ok (.aload_n 0, 1) := by decide +kernel
theorem dX8_call_64 : decode cX8_call 64 = .ok (.iload_n 3, 1) := by decide +kernel
theorem dX8_call_65 : decode cX8_call 65 = .ok (.ifCond .ge 7, 3) := by decide +kernel
theorem dX8_call_72 : decode cX8_call 72 = .ok (.iload 4, 2) := by decide +kernel
theorem dX8_call_74 : decode cX8_call 74 = .ok (.putfield 227, 3) := by decide +kernel
theorem dX8_call_77 : decode cX8_call 77 = .ok (.iload_n 3, 1) := by decide +kernel
theorem dX8_call_78 : decode cX8_call 78 = .ok (.ireturn, 1) := by decide +kernel
theorem dX8_call_68 : decode cX8_call 68 = .ok (.iconst 0, 1) := by decide +kernel
theorem dX8_call_69 : decode cX8_call 69 = .ok (.goto 5, 3) := by decide +kernel
theorem dX8_call_49 : decode cX8_call 49 = .ok (.aload_n 0, 1) := by decide +kernel
theorem dX8_call_50 : decode cX8_call 50 = .ok (.iconst 1, 1) := by decide +kernel
theorem dX8_call_51 : decode cX8_call 51 = .ok (.invokevirtual 223, 3) := by decide +kernel
theorem dX8_call_54 : decode cX8_call 54 = .ok (.istore_n 3, 1) := by decide +kernel
theorem dX8_call_55 : decode cX8_call 55 = .ok (.iconst 2, 1) := by decide +kernel
theorem dX8_call_56 : decode cX8_call 56 = .ok (.istore 4, 2) := by decide +kernel
theorem dX8_call_26 : decode cX8_call 26 = .ok (.bipush (-13), 2) := by decide +kernel
theorem dX8_call_28 : decode cX8_call 28 = .ok (.ireturn, 1) := by decide +kernel
theorem dX8_call_13 : decode cX8_call 13 = .ok (.bipush (-11), 2) := by decide +kernel
theorem dX8_call_15 : decode cX8_call 15 = .ok (.ireturn, 1) := by decide +kernel
section JL
variable {p : Program} {l : Launch} {e : Env} {R : Room} {s : State} {m : MethodId} {args : Array Value} {below : List Frame} {meth : Method} {c : Code} {H : Heap} {locs : List Loc} {cells slots : Nat} {Q : State → Prop}
/-- roads meet, a local differs -/
theorem w_joinL {P : Array Slot → Prop} (pcJ : Nat) {g : JFrame} (j : ∀ ls : Array Slot, P ls → W p l e R s m args below meth c H locs cells slots Q (F0 m pcJ ls [])) (k : (∀ ls : Array Slot, P ls → W p l e R s m args below meth c H locs cells slots Q (F0 m pcJ ls [])) → W p l e R s m args below meth c H locs cells slots Q g) : W p l e R s m args below meth c H locs cells slots Q g := k j
end JL
theorem dX8_sought_0 : decode cX8_sought 0 = .ok (.aload_n 0, 1) := by decide +kernel
theorem dX8_sought_1 : decode cX8_sought 1 = .ok (.iconst 0, 1) := by decide +kernel
theorem dX8_sought_2 : decode cX8_sought 2 = .ok (.putfield 90, 3) := by decide +kernel
theorem dX8_sought_5 : decode cX8_sought 5 = .ok (.aload_n 0, 1) := by decide +kernel
theorem dX8_sought_6 : decode cX8_sought 6 = .ok (.iload_n 1, 1) := by decide +kernel
theorem dX8_sought_7 : decode cX8_sought 7 = .ok (.invokevirtual 104, 3) := by decide +kernel
theorem dX8_sought_10 : decode cX8_sought 10 = .ok (.ifCond .ne 6, 3) := by decide +kernel
theorem dX8_sought_16 : decode cX8_sought 16 = .ok (.iload_n 2, 1) := by decide +kernel
theorem dX8_sought_17 : decode cX8_sought 17 = .ok (.iconst 0, 1) := by decide +kernel
theorem dX8_sought_18 : decode cX8_sought 18 = .ok (.bipush 49, 2) := by decide +kernel
theorem dX8_sought_20 : decode cX8_sought 20 = .ok (.invokestatic 97, 3) := by decide +kernel
theorem dX8_sought_23 : decode cX8_sought 23 = .ok (.ifCond .ne 6, 3) := by decide +kernel
theorem dX8_sought_29 : decode cX8_sought 29 = .ok (.iconst 0, 1) := by decide +kernel
theorem dX8_sought_30 : decode cX8_sought 30 = .ok (.istore_n 3, 1) := by decide +kernel
theorem dX8_sought_31 : decode cX8_sought 31 = .ok (.iload_n 3, 1) := by decide +kernel
theorem dX8_sought_32 : decode cX8_sought 32 = .ok (.iload_n 1, 1) := by decide +kernel
theorem dX8_sought_33 : decode cX8_sought 33 = .ok (.if_icmp .gt 155, 3) := by decide +kernel
theorem dX8_sought_188 : decode cX8_sought 188 = .ok (.aload_n 0, 1) := by decide +kernel
theorem q_708 : Cond.fieldLink "FieldMemberModel" 78 "FieldMemberModel" "foundIn" "[I" ∈ TT := tt_t (i := 708) (by decide +kernel) (by decide +kernel)
theorem dX8_sought_189 : decode cX8_sought 189 = .ok (.getfield 78, 3) := by decide +kernel
theorem dX8_sought_192 : decode cX8_sought 192 = .ok (.iload_n 1, 1) := by decide +kernel
theorem dX8_sought_193 : decode cX8_sought 193 = .ok (.iaload, 1) := by decide +kernel
theorem dX8_sought_194 : decode cX8_sought 194 = .ok (.ireturn, 1) := by decide +kernel
theorem dX8_sought_36 : decode cX8_sought 36 = .ok (.aload_n 0, 1) := by decide +kernel
theorem dX8_sought_37 : decode cX8_sought 37 = .ok (.iload_n 3, 1) := by decide +kernel
theorem dX8_sought_38 : decode cX8_sought 38 = .ok (.iload_n 2, 1) := by decide +kernel
theorem dX8_sought_39 : decode cX8_sought 39 = .ok (.invokevirtual 152, 3) := by decide +kernel
theorem dX8_sought_42 : decode cX8_sought 42 = .ok (.istore 4, 2) := by decide +kernel
theorem dX8_sought_174 : decode cX8_sought 174 = .ok (.aload_n 0, 1) := by decide +kernel
theorem dX8_sought_175 : decode cX8_sought 175 = .ok (.getfield 78, 3) := by decide +kernel
theorem dX8_sought_178 : decode cX8_sought 178 = .ok (.iload_n 3, 1) := by decide +kernel
theorem dX8_sought_179 : decode cX8_sought 179 = .ok (.iload 4, 2) := by decide +kernel
theorem dX8_sought_181 : decode cX8_sought 181 = .ok (.iastore, 1) := by decide +kernel
theorem dX8_sought_182 : decode cX8_sought 182 = .ok (.iinc 3 1, 3) := by decide +kernel
theorem dX8_sought_185 : decode cX8_sought 185 = .ok (.goto (-154), 3) := by decide +kernel
theorem dX8_sought_98 : decode cX8_sought 98 = .ok (.iload 4, 2) := by decide +kernel
theorem dX8_sought_100 : decode cX8_sought 100 = .ok (.iconst (-1), 1) := by decide +kernel
theorem dX8_sought_101 : decode cX8_sought 101 = .ok (.if_icmp .eq 30, 3) := by decide +kernel
theorem dX8_sought_131 : decode cX8_sought 131 = .ok (.iconst 0, 1) := by decide +kernel
theorem dX8_sought_132 : decode cX8_sought 132 = .ok (.istore 5, 2) := by decide +kernel
theorem dX8_sought_134 : decode cX8_sought 134 = .ok (.iload 5, 2) := by decide +kernel
theorem dX8_sought_136 : decode cX8_sought 136 = .ok (.aload_n 0, 1) := by decide +kernel
theorem dX8_sought_137 : decode cX8_sought 137 = .ok (.getfield 19, 3) := by decide +kernel
theorem dX8_sought_140 : decode cX8_sought 140 = .ok (.iload_n 3, 1) := by decide +kernel
theorem dX8_sought_141 : decode cX8_sought 141 = .ok (.iaload, 1) := by decide +kernel
theorem dX8_sought_142 : decode cX8_sought 142 = .ok (.if_icmp .ge 32, 3) := by decide +kernel
theorem dX8_sought_145 : decode cX8_sought 145 = .ok (.iload 4, 2) := by decide +kernel
theorem dX8_sought_147 : decode cX8_sought 147 = .ok (.aload_n 0, 1) := by decide +kernel
theorem dX8_sought_148 : decode cX8_sought 148 = .ok (.getfield 78, 3) := by decide +kernel
theorem dX8_sought_151 : decode cX8_sought 151 = .ok (.aload_n 0, 1) := by decide +kernel
theorem dX8_sought_152 : decode cX8_sought 152 = .ok (.getfield 16, 3) := by decide +kernel
theorem dX8_sought_155 : decode cX8_sought 155 = .ok (.iconst 3, 1) := by decide +kernel
theorem dX8_sought_156 : decode cX8_sought 156 = .ok (.iload_n 3, 1) := by decide +kernel
theorem dX8_sought_157 : decode cX8_sought 157 = .ok (.imul, 1) := by decide +kernel
theorem dX8_sought_158 : decode cX8_sought 158 = .ok (.iload 5, 2) := by decide +kernel
theorem dX8_sought_160 : decode cX8_sought 160 = .ok (.iadd, 1) := by decide +kernel
theorem dX8_sought_161 : decode cX8_sought 161 = .ok (.iaload, 1) := by decide +kernel
theorem dX8_sought_162 : decode cX8_sought 162 = .ok (.iaload, 1) := by decide +kernel
theorem q_938 : Cond.methodLink "FieldMemberModel" 193 ⟨"FieldMemberModel", "both", "(II)I"⟩ ∈ TT := tt_t (i := 938) (by decide +kernel) (by decide +kernel)
theorem q_940 : Cond.code ⟨"FieldMemberModel", "both", "(II)I"⟩ prog_10_method_36_code 2 (some .int) ∈ TT := tt_t (i := 940) (by decide +kernel) (by decide +kernel)
theorem q_939 : Cond.static ⟨"FieldMemberModel", "both", "(II)I"⟩ ∈ TT := tt_t (i := 939) (by decide +kernel) (by decide +kernel)
theorem gS_X8_X8_both : GoodIn TT (va_wsS RX8 193 yX8_both (ww yX8_both cX8_both 2 (some .int))) := tt_S q_938 q_939 q_4 q_940
theorem hdS_X8_both : yX8_both.cls ≠ "java/lang/invoke/MethodHandle" ∧ yX8_both.cls ≠ "java/lang/invoke/VarHandle" ∧ (parseMethodDescriptor yX8_both.desc).map (fun d => d.parameters.length) = some 2 := by decide +kernel
theorem dX8_sought_163 : decode cX8_sought 163 = .ok (.invokestatic 193, 3) := by decide +kernel
theorem dX8_sought_166 : decode cX8_sought 166 = .ok (.istore 4, 2) := by decide +kernel
theorem dX8_sought_168 : decode cX8_sought 168 = .ok (.iinc 5 1, 3) := by decide +kernel
theorem dX8_sought_171 : decode cX8_sought 171 = .ok (.goto (-37), 3) := by decide +kernel
theorem dX8_sought_104 : decode cX8_sought 104 = .ok (.aload_n 0, 1) := by decide +kernel
theorem dX8_sought_105 : decode cX8_sought 105 = .ok (.getfield 29, 3) := by decide +kernel
theorem dX8_sought_108 : decode cX8_sought 108 = .ok (.iload 4, 2) := by decide +kernel
theorem dX8_sought_110 : decode cX8_sought 110 = .ok (.ifCond .ge 7, 3) := by decide +kernel
theorem dX8_sought_117 : decode cX8_sought 117 = .ok (.iload 4, 2) := by decide +kernel
theorem dX8_sought_119 : decode cX8_sought 119 = .ok (.iaload, 1) := by decide +kernel
theorem dX8_sought_120 : decode cX8_sought 120 = .ok (.iload_n 3, 1) := by decide +kernel
theorem dX8_sought_121 : decode cX8_sought 121 = .ok (.if_icmp .ne 10, 3) := by decide +kernel
theorem dX8_sought_124 : decode cX8_sought 124 = .ok (.iload 4, 2) := by decide +kernel
theorem dX8_sought_126 : decode cX8_sought 126 = .ok (.bipush (-2), 2) := by decide +kernel
theorem dX8_sought_128 : decode cX8_sought 128 = .ok (.if_icmp .ne 46, 3) := by decide +kernel
theorem dX8_sought_113 : decode cX8_sought 113 = .ok (.iconst 0, 1) := by decide +kernel
theorem dX8_sought_114 : decode cX8_sought 114 = .ok (.goto 5, 3) := by decide +kernel
theorem dX8_sought_44 : decode cX8_sought 44 = .ok (.iload 4, 2) := by decide +kernel
theorem dX8_sought_46 : decode cX8_sought 46 = .ok (.iconst (-1), 1) := by decide +kernel
theorem dX8_sought_47 : decode cX8_sought 47 = .ok (.if_icmp .ne 51, 3) := by decide +kernel
theorem dX8_sought_50 : decode cX8_sought 50 = .ok (.aload_n 0, 1) := by decide +kernel
theorem dX8_sought_51 : decode cX8_sought 51 = .ok (.getfield 13, 3) := by decide +kernel
theorem dX8_sought_54 : decode cX8_sought 54 = .ok (.iload_n 3, 1) := by decide +kernel
theorem dX8_sought_55 : decode cX8_sought 55 = .ok (.iaload, 1) := by decide +kernel
theorem dX8_sought_56 : decode cX8_sought 56 = .ok (.iconst (-1), 1) := by decide +kernel
theorem dX8_sought_57 : decode cX8_sought 57 = .ok (.if_icmp .eq 41, 3) := by decide +kernel
theorem dX8_sought_60 : decode cX8_sought 60 = .ok (.aload_n 0, 1) := by decide +kernel
theorem dX8_sought_61 : decode cX8_sought 61 = .ok (.getfield 78, 3) := by decide +kernel
theorem dX8_sought_64 : decode cX8_sought 64 = .ok (.aload_n 0, 1) := by decide +kernel
theorem dX8_sought_65 : decode cX8_sought 65 = .ok (.getfield 13, 3) := by decide +kernel
theorem dX8_sought_68 : decode cX8_sought 68 = .ok (.iload_n 3, 1) := by decide +kernel
theorem dX8_sought_69 : decode cX8_sought 69 = .ok (.iaload, 1) := by decide +kernel
theorem dX8_sought_70 : decode cX8_sought 70 = .ok (.iaload, 1) := by decide +kernel
theorem dX8_sought_71 : decode cX8_sought 71 = .ok (.istore 5, 2) := by decide +kernel
theorem dX8_sought_73 : decode cX8_sought 73 = .ok (.iload 5, 2) := by decide +kernel
theorem dX8_sought_75 : decode cX8_sought 75 = .ok (.ifCond .lt 19, 3) := by decide +kernel
theorem dX8_sought_94 : decode cX8_sought 94 = .ok (.iload 5, 2) := by decide +kernel
theorem dX8_sought_96 : decode cX8_sought 96 = .ok (.istore 4, 2) := by decide +kernel
theorem dX8_sought_78 : decode cX8_sought 78 = .ok (.aload_n 0, 1) := by decide +kernel
theorem dX8_sought_79 : decode cX8_sought 79 = .ok (.getfield 41, 3) := by decide +kernel
theorem dX8_sought_82 : decode cX8_sought 82 = .ok (.iload 5, 2) := by decide +kernel
theorem dX8_sought_84 : decode cX8_sought 84 = .ok (.iaload, 1) := by decide +kernel
theorem dX8_sought_85 : decode cX8_sought 85 = .ok (.iconst 4, 1) := by decide +kernel
theorem dX8_sought_86 : decode cX8_sought 86 = .ok (.iand, 1) := by decide +kernel
theorem dX8_sought_87 : decode cX8_sought 87 = .ok (.ifCond .le 7, 3) := by decide +kernel
theorem dX8_sought_90 : decode cX8_sought 90 = .ok (.iconst (-1), 1) := by decide +kernel
theorem dX8_sought_91 : decode cX8_sought 91 = .ok (.goto 5, 3) := by decide +kernel
theorem dX8_sought_26 : decode cX8_sought 26 = .ok (.bipush (-13), 2) := by decide +kernel
theorem dX8_sought_28 : decode cX8_sought 28 = .ok (.ireturn, 1) := by decide +kernel
theorem dX8_sought_13 : decode cX8_sought 13 = .ok (.bipush (-11), 2) := by decide +kernel
theorem dX8_sought_15 : decode cX8_sought 15 = .ok (.ireturn, 1) := by decide +kernel
set_option maxHeartbeats 4000000 in
set_option maxRecDepth 100000 in
theorem m_call (l : Launch) (D : va_G) (G : Nat → ClassId) (mo : Nat) (ad : Nat → Nat) (σ : MS) (τ : Nat → Int64) (sz : Nat) (n : Nat) (h1 : σ 1 0 = nI n) (hn : n ≤ 12) (k : Nat) (h7 : σ 7 0 = nI k) (hk60 : k ≤ 60) (w0 : Nat) (h22 : σ 22 0 = nI w0) (hw : w0 ≤ 5) (hmo : ∀ i, i < k → okM σ i) (hvo : ∀ i, i < k → ¬ σ 17 i = 0 → 1 ≤ mnE σ i) (hkp : ∀ i, i < k → ∀ q, q < mnE σ i → kdO (σ 19 (5 * i + q))) (hkg : ∀ q, q < w0 → kdO (σ 23 q)) (hb6 : ∀ i, σ 6 i = 0 ∨ σ 6 i = 1) (heo : ∀ i, i < k → okE σ i) (t : Int32) (name : Int32) : Met l yX8_call (ww yX8_call cX8_call 5 (some .int)) (rmD 5) (muP D G sz mo ad (σ, τ) [.ref mo, .int t, .int name]) (muQi D G mo ad (muA G mo ad (σ, τ) sz) (oCall σ τ n k w0 t name).1 (oCall σ τ n k w0 t name).2) 0 0 (muA G mo ad (σ, τ) sz) := by
  refine Met.ofW (cc := cX8_call) (maxL := 5) (ret := (some .int)) (by decide) rfl ?_
  intro p e s m args below meth c s₁ B hml hv
  obtain ⟨rfl, hsz, hP, hK, hD0⟩ := hv
  have hx := B.exec
  have hb := B.bytes
  have hr := B.returns
  have hts : ∀ w ∈ TT, w.before _ s = true := fun w h => atoms_spec (ws := ww yX8_call cX8_call 5 (some .int)) B.pre w (List.mem_cons_of_mem _ h)
  have hown : s.vm.findClass RX8 = some m.cls := findClass_of_methodNamed B.named
  have hlocks := B.notSynchronized
  subst hsz
  have hD : va_D (muA G mo ad (σ, τ) s.heap.size) (mW G mo ad σ τ) := hD0.self
  generalize hAe : muA G mo ad (σ, τ) s.heap.size = A at hD ⊢
  have hA : ∀ q : Nat, s.heap.size ≤ q → A q := fun q h => by rw [← hAe]; exact Or.inr h
  have hS : va_S A s.heap s.heap [] := va_S.rf
  have hP : va_P D vwCl (mW G mo ad σ τ) s.heap := hP
  have hl := lv_entry ([.ref mo, .int t, .int name]) (n := 5) (Nat.le_of_ble_eq_true rfl)
  rw [lg_entry_eq]
  generalize (lg_sl ([.ref mo, .int t, .int name]) ++ List.replicate (5 - (lg_sl ([.ref mo, .int t, .int name])).length) Slot.unset).toArray = ls at hl ⊢
  have hl : lv_has ls 5 [(0, .ref mo), (1, .int t), (2, .int name)] := hl
  refine lv_aload_n hx hb dX8_call_0 rfl (lv_at hl 0 rfl) ?_
  refine lv_iconst (v := 0) hx hb dX8_call_1 (by decide) ?_
  refine va_put (D := D) (ci := 8) (v := .int 0) (ty := .int) (C := RX8) (T := TX8) (N := 33) hx hb hts iX8 tyX8 tyX8_ok nmX8 hown hK.1 hP hD hS 0 rfl rfl 0 (by decide) (hts _ q_679) (fun _ h9 => h9) rfl (by decide +kernel) rfl rfl (Nat.le_of_ble_eq_true rfl) dX8_call_2 (fun H locs hP hD hS => ?_)
  have hP : va_P D vwCl (mW G mo ad (su σ 0 (0) (0)) (τ)) H := hP
  have hD : va_D A (mW G mo ad (su σ 0 (0) (0)) (τ)) := hD
  refine lv_aload_n hx hb dX8_call_5 rfl (lv_at hl 0 rfl) ?_
  refine lv_iload_n hx hb dX8_call_6 rfl (lv_at hl 1 rfl) ?_
  refine ro_Vi (D := D) (G := G) (As := [.int t]) (rest := []) ⟨hx, hb, hml, hown, hts⟩ (m_isType l D G _ mo ad _ _ hP n h1 hn t) gV_X8_X8_isType hdV_X8_isType ⟨Nat.le_of_ble_eq_true rfl, Nat.le_of_ble_eq_true rfl⟩ hK (va_recv hK.1 hP (ci := 8) (q0 := 0) rfl rfl) rfl hl.1 rfl (Nat.le_of_ble_eq_true rfl) dX8_call_7 ⟨Nat.le_of_ble_eq_true rfl, Nat.le_of_ble_eq_true rfl⟩ (fun r1 e_r1 => ?_)
  subst e_r1
  refine W.eq (g2 := F0 m 10 ls [.int (bI (okN n t))]) rfl ?_
  refine lv_if_ne (tgt := 16) hx hb dX8_call_10 (by decide) (fun c2 => ?_) (fun c2 => ?_)
  · -- 10 taken
    have c2 := bI_1 c2
    obtain ⟨j3, h_j3, rfl⟩ := okN_ex (by omega) c2
    refine lv_iload_n hx hb dX8_call_16 rfl (lv_at hl 2 rfl) ?_
    refine lv_iconst (v := 0) hx hb dX8_call_17 (by decide) ?_
    refine lv_bipush (v := 49) hx hb dX8_call_18 (by decide) ?_
    refine ro_Si (D := D) (G := G) (As := [.int name, .int 0, .int 49]) (rest := []) ⟨hx, hb, hml, hown, hts⟩ (m_in l D G _ name 0 49) gS_X8_X8_in hdS_X8_in ⟨Nat.le_of_ble_eq_true rfl, Nat.le_of_ble_eq_true rfl⟩ hK rfl hl.1 rfl (Nat.le_of_ble_eq_true rfl) dX8_call_20 ⟨Nat.le_of_ble_eq_true rfl, Nat.le_of_ble_eq_true rfl⟩ (fun r4 e_r4 => ?_)
    subst e_r4
    refine W.eq (g2 := F0 m 23 ls [.int (bI (0 ≤ name ∧ name ≤ 49))]) rfl ?_
    refine lv_if_ne (tgt := 29) hx hb dX8_call_23 (by decide) (fun c5 => ?_) (fun c5 => ?_)
    · -- 23 taken
      have c5 := bI_1 c5
      refine lv_aload_n hx hb dX8_call_29 rfl (lv_at hl 0 rfl) ?_
      refine lv_iload_n hx hb dX8_call_30 rfl (lv_at hl 1 rfl) ?_
      refine lv_iload_n hx hb dX8_call_31 rfl (lv_at hl 2 rfl) ?_
      refine mu_Vv (D := D) (G := G) (mo := mo) (ad := ad) (u := (su σ 0 (0) (0), τ)) (As := [.int (nI j3), .int name]) (rest := []) ⟨hx, hb, hml, hown, hts⟩ (m_candidates l D G mo ad (su σ 0 (0) (0)) (τ) _ k h7 hk60 (j3) (by omega) name heo hmo hb6) gV_X8_X8_candidates hdV_X8_candidates ⟨Nat.le_of_ble_eq_true rfl, Nat.le_of_ble_eq_true rfl⟩ hK hP hD hS hA rfl hl.1 rfl (Nat.le_of_ble_eq_true rfl) dX8_call_32 ⟨Nat.le_of_ble_eq_true rfl, Nat.le_of_ble_eq_true rfl⟩ (fun H locs hP hD hS => ?_)
      have hP : va_P D vwCl (mW G mo ad (st (st (su σ 0 (0) (0)) 30 (cdF (su σ 0 0 0) j3 name (σ 30) k)) 31 (ffF (su σ 0 0 0) j3 name k (σ 31) k)) (τ)) H := hP
      have hD : va_D A (mW G mo ad (st (st (su σ 0 (0) (0)) 30 (cdF (su σ 0 0 0) j3 name (σ 30) k)) 31 (ffF (su σ 0 0 0) j3 name k (σ 31) k)) (τ)) := hD
      refine lv_aload_n hx hb dX8_call_35 rfl (lv_at hl 0 rfl) ?_
      refine lv_iconst (v := 0) hx hb dX8_call_36 (by decide) ?_
      refine mu_Vi (D := D) (G := G) (mo := mo) (ad := ad) (u := (st (st (su σ 0 (0) (0)) 30 (cdF (su σ 0 0 0) j3 name (σ 30) k)) 31 (ffF (su σ 0 0 0) j3 name k (σ 31) k), τ)) (As := [.int 0]) (rest := []) ⟨hx, hb, hml, hown, hts⟩ (m_nearest l D G mo ad (st (st (su σ 0 (0) (0)) 30 (cdF (su σ 0 0 0) j3 name (σ 30) k)) 31 (ffF (su σ 0 0 0) j3 name k (σ 31) k)) (τ) _ k h7 hk60 w0 h22 hw hmo hvo hkp hkg 0 hb6) gV_X8_X8_nearest hdV_X8_nearest ⟨Nat.le_of_ble_eq_true rfl, Nat.le_of_ble_eq_true rfl⟩ hK hP hD hS hA rfl hl.1 rfl (Nat.le_of_ble_eq_true rfl) dX8_call_37 ⟨Nat.le_of_ble_eq_true rfl, Nat.le_of_ble_eq_true rfl⟩ (fun H locs hP hD hS => ?_)
      have hP : va_P D vwCl (mW G mo ad (st (st (st (su σ 0 (0) (0)) 30 (cdF (su σ 0 0 0) j3 name (σ 30) k)) 31 (ffF (su σ 0 0 0) j3 name k (σ 31) k)) 32 (tpF (caS (su σ 0 0 0) j3 name k) w0 0 (σ 32) k)) (τ)) H := hP
      have hD : va_D A (mW G mo ad (st (st (st (su σ 0 (0) (0)) 30 (cdF (su σ 0 0 0) j3 name (σ 30) k)) 31 (ffF (su σ 0 0 0) j3 name k (σ 31) k)) 32 (tpF (caS (su σ 0 0 0) j3 name k) w0 0 (σ 32) k)) (τ)) := hD
      refine W.eq (g2 := F0 m 40 ls [.int (nrA (caS (su σ 0 0 0) j3 name k) w0 k 0)]) rfl ?_
      refine lv_istore_n (lv' := [(3, .int (nrA (caS (su σ 0 0 0) j3 name k) w0 k 0)), (0, .ref mo), (1, .int (nI j3)), (2, .int name)]) hx hb dX8_call_40 rfl hl (by decide) rfl (fun ls hl => ?_)
      refine lv_iconst (v := 1) hx hb dX8_call_41 (by decide) ?_
      refine lv_istore (lv' := [(4, .int 1), (3, .int (nrA (caS (su σ 0 0 0) j3 name k) w0 k 0)), (0, .ref mo), (1, .int (nI j3)), (2, .int name)]) hx hb dX8_call_42 hl (by decide) rfl (fun ls hl => ?_)
      refine lv_iload_n hx hb dX8_call_44 rfl (lv_at hl 1 rfl) ?_
      refine lv_iconst (v := -1) hx hb dX8_call_45 (by decide) ?_
      refine lv_icmp_ne (tgt := 58) hx hb dX8_call_46 (by decide) (fun c6 => ?_) (fun c6 => ?_)
      · -- 46 taken
        refine lv_aload_n hx hb dX8_call_58 rfl (lv_at hl 2 rfl) ?_
        refine lv_iconst (v := 0) hx hb dX8_call_59 (by decide) ?_
        refine va_put (D := D) (ci := 8) (v := .int 0) (ty := .int) (C := RX8) (T := TX8) (N := 33) hx hb hts iX8 tyX8 tyX8_ok nmX8 hown hK.1 hP hD hS 0 rfl rfl 22 (by decide) (hts _ q_701) (fun _ h9 => h9) rfl (by decide +kernel) rfl rfl (Nat.le_of_ble_eq_true rfl) dX8_call_60 (fun H locs hP hD hS => ?_)
        have hP : va_P D vwCl (mW G mo ad (su (st (st (st (su σ 0 (0) (0)) 30 (cdF (su σ 0 0 0) j3 name (σ 30) k)) 31 (ffF (su σ 0 0 0) j3 name k (σ 31) k)) 32 (tpF (caS (su σ 0 0 0) j3 name k) w0 0 (σ 32) k)) 22 (0) (0)) (τ)) H := hP
        have hD : va_D A (mW G mo ad (su (st (st (st (su σ 0 (0) (0)) 30 (cdF (su σ 0 0 0) j3 name (σ 30) k)) 31 (ffF (su σ 0 0 0) j3 name k (σ 31) k)) 32 (tpF (caS (su σ 0 0 0) j3 name k) w0 0 (σ 32) k)) 22 (0) (0)) (τ)) := hD
        refine lv_aload_n hx hb dX8_call_63 rfl (lv_at hl 2 rfl) ?_
        refine lv_iload_n hx hb dX8_call_64 rfl (lv_at hl 1 rfl) ?_
        refine lv_if_ge (tgt := 72) hx hb dX8_call_65 (by decide) (fun c7 => ?_) (fun c7 => ?_)
        · -- 65 taken
          refine lv_iload hx hb dX8_call_72 (lv_at hl 0 rfl) ?_
          refine va_put (D := D) (ci := 8) (v := .int 1) (ty := .int) (C := RX8) (T := TX8) (N := 33) hx hb hts iX8 tyX8 tyX8_ok nmX8 hown hK.1 hP hD hS 0 rfl rfl 25 (by decide) (hts _ q_704) (fun _ h9 => h9) rfl (by decide +kernel) rfl rfl (Nat.le_of_ble_eq_true rfl) dX8_call_74 (fun H locs hP hD hS => ?_)
          have hP : va_P D vwCl (mW G mo ad (su (su (st (st (st (su σ 0 (0) (0)) 30 (cdF (su σ 0 0 0) j3 name (σ 30) k)) 31 (ffF (su σ 0 0 0) j3 name k (σ 31) k)) 32 (tpF (caS (su σ 0 0 0) j3 name k) w0 0 (σ 32) k)) 22 (0) (0)) 25 (0) (1)) (τ)) H := hP
          have hD : va_D A (mW G mo ad (su (su (st (st (st (su σ 0 (0) (0)) 30 (cdF (su σ 0 0 0) j3 name (σ 30) k)) 31 (ffF (su σ 0 0 0) j3 name k (σ 31) k)) 32 (tpF (caS (su σ 0 0 0) j3 name k) w0 0 (σ 32) k)) 22 (0) (0)) 25 (0) (1)) (τ)) := hD
          refine lv_iload_n hx hb dX8_call_77 rfl (lv_at hl 1 rfl) ?_
          have ho : oCall σ τ n k w0 (nI j3) name = (nrA (caS (su σ 0 0 0) j3 name k) w0 k 0, su (su (st (st (st (su σ 0 (0) (0)) 30 (cdF (su σ 0 0 0) j3 name (σ 30) k)) 31 (ffF (su σ 0 0 0) j3 name k (σ 31) k)) 32 (tpF (caS (su σ 0 0 0) j3 name k) w0 0 (σ 32) k)) 22 (0) (0)) 25 (0) (1), τ) := by unfold oCall; simp only [eq_true c2, eq_true c5, eq_false c6, eq_true c7, nI_clamp (show j3 < 2 ^ 31 by omega), not_true, not_false_iff, not_true_eq_false, not_false_eq_true, true_or, or_true, false_or, or_false, or_self, and_self, true_and, and_true, false_and, and_false, if_true, if_false]; try rfl
          exact mu_iret (v0 := nrA (caS (su σ 0 0 0) j3 name k) w0 k 0) (z := (su (su (st (st (st (su σ 0 (0) (0)) 30 (cdF (su σ 0 0 0) j3 name (σ 30) k)) 31 (ffF (su σ 0 0 0) j3 name k (σ 31) k)) 32 (tpF (caS (su σ 0 0 0) j3 name k) w0 0 (σ 32) k)) 22 (0) (0)) 25 (0) (1), τ)) hx hb hr hlocks hP hD hS dX8_call_78 (by rw [ho]) (by rw [ho])
        · -- 65 not
          refine lv_iconst (v := 0) hx hb dX8_call_68 (by decide) ?_
          refine lv_goto (tgt := 74) hx hb dX8_call_69 (by decide) ?_
          refine va_put (D := D) (ci := 8) (v := .int 0) (ty := .int) (C := RX8) (T := TX8) (N := 33) hx hb hts iX8 tyX8 tyX8_ok nmX8 hown hK.1 hP hD hS 0 rfl rfl 25 (by decide) (hts _ q_704) (fun _ h9 => h9) rfl (by decide +kernel) rfl rfl (Nat.le_of_ble_eq_true rfl) dX8_call_74 (fun H locs hP hD hS => ?_)
          have hP : va_P D vwCl (mW G mo ad (su (su (st (st (st (su σ 0 (0) (0)) 30 (cdF (su σ 0 0 0) j3 name (σ 30) k)) 31 (ffF (su σ 0 0 0) j3 name k (σ 31) k)) 32 (tpF (caS (su σ 0 0 0) j3 name k) w0 0 (σ 32) k)) 22 (0) (0)) 25 (0) (0)) (τ)) H := hP
          have hD : va_D A (mW G mo ad (su (su (st (st (st (su σ 0 (0) (0)) 30 (cdF (su σ 0 0 0) j3 name (σ 30) k)) 31 (ffF (su σ 0 0 0) j3 name k (σ 31) k)) 32 (tpF (caS (su σ 0 0 0) j3 name k) w0 0 (σ 32) k)) 22 (0) (0)) 25 (0) (0)) (τ)) := hD
          refine lv_iload_n hx hb dX8_call_77 rfl (lv_at hl 1 rfl) ?_
          have ho : oCall σ τ n k w0 (nI j3) name = (nrA (caS (su σ 0 0 0) j3 name k) w0 k 0, su (su (st (st (st (su σ 0 (0) (0)) 30 (cdF (su σ 0 0 0) j3 name (σ 30) k)) 31 (ffF (su σ 0 0 0) j3 name k (σ 31) k)) 32 (tpF (caS (su σ 0 0 0) j3 name k) w0 0 (σ 32) k)) 22 (0) (0)) 25 (0) (0), τ) := by unfold oCall; simp only [eq_true c2, eq_true c5, eq_false c6, eq_false c7, nI_clamp (show j3 < 2 ^ 31 by omega), not_true, not_false_iff, not_true_eq_false, not_false_eq_true, true_or, or_true, false_or, or_false, or_self, and_self, true_and, and_true, false_and, and_false, if_true, if_false]; try rfl
          exact mu_iret (v0 := nrA (caS (su σ 0 0 0) j3 name k) w0 k 0) (z := (su (su (st (st (st (su σ 0 (0) (0)) 30 (cdF (su σ 0 0 0) j3 name (σ 30) k)) 31 (ffF (su σ 0 0 0) j3 name k (σ 31) k)) 32 (tpF (caS (su σ 0 0 0) j3 name k) w0 0 (σ 32) k)) 22 (0) (0)) 25 (0) (0), τ)) hx hb hr hlocks hP hD hS dX8_call_78 (by rw [ho]) (by rw [ho])
      · -- 46 not
        refine lv_aload_n hx hb dX8_call_49 rfl (lv_at hl 2 rfl) ?_
        refine lv_iconst (v := 1) hx hb dX8_call_50 (by decide) ?_
        refine mu_Vi (D := D) (G := G) (mo := mo) (ad := ad) (u := (st (st (st (su σ 0 (0) (0)) 30 (cdF (su σ 0 0 0) j3 name (σ 30) k)) 31 (ffF (su σ 0 0 0) j3 name k (σ 31) k)) 32 (tpF (caS (su σ 0 0 0) j3 name k) w0 0 (σ 32) k), τ)) (As := [.int 1]) (rest := []) ⟨hx, hb, hml, hown, hts⟩ (m_nearest l D G mo ad (st (st (st (su σ 0 (0) (0)) 30 (cdF (su σ 0 0 0) j3 name (σ 30) k)) 31 (ffF (su σ 0 0 0) j3 name k (σ 31) k)) 32 (tpF (caS (su σ 0 0 0) j3 name k) w0 0 (σ 32) k)) (τ) _ k h7 hk60 w0 h22 hw hmo hvo hkp hkg 1 hb6) gV_X8_X8_nearest hdV_X8_nearest ⟨Nat.le_of_ble_eq_true rfl, Nat.le_of_ble_eq_true rfl⟩ hK hP hD hS hA rfl hl.1 rfl (Nat.le_of_ble_eq_true rfl) dX8_call_51 ⟨Nat.le_of_ble_eq_true rfl, Nat.le_of_ble_eq_true rfl⟩ (fun H locs hP hD hS => ?_)
        have hP : va_P D vwCl (mW G mo ad (st (st (st (su σ 0 (0) (0)) 30 (cdF (su σ 0 0 0) j3 name (σ 30) k)) 31 (ffF (su σ 0 0 0) j3 name k (σ 31) k)) 32 (tpF (nrS (caS (su σ 0 0 0) j3 name k) w0 k 0) w0 1 (tpF (caS (su σ 0 0 0) j3 name k) w0 0 (σ 32) k) k)) (τ)) H := hP
        have hD : va_D A (mW G mo ad (st (st (st (su σ 0 (0) (0)) 30 (cdF (su σ 0 0 0) j3 name (σ 30) k)) 31 (ffF (su σ 0 0 0) j3 name k (σ 31) k)) 32 (tpF (nrS (caS (su σ 0 0 0) j3 name k) w0 k 0) w0 1 (tpF (caS (su σ 0 0 0) j3 name k) w0 0 (σ 32) k) k)) (τ)) := hD
        refine W.eq (g2 := F0 m 54 ls [.int (nrA (nrS (caS (su σ 0 0 0) j3 name k) w0 k 0) w0 k 1)]) rfl ?_
        refine lv_istore_n (lv' := [(3, .int (nrA (nrS (caS (su σ 0 0 0) j3 name k) w0 k 0) w0 k 1)), (4, .int 1), (0, .ref mo), (1, .int (nI j3)), (2, .int name)]) hx hb dX8_call_54 rfl hl (by decide) rfl (fun ls hl => ?_)
        refine lv_iconst (v := 2) hx hb dX8_call_55 (by decide) ?_
        refine lv_istore (lv' := [(4, .int 2), (3, .int (nrA (nrS (caS (su σ 0 0 0) j3 name k) w0 k 0) w0 k 1)), (0, .ref mo), (1, .int (nI j3)), (2, .int name)]) hx hb dX8_call_56 hl (by decide) rfl (fun ls hl => ?_)
        refine lv_aload_n hx hb dX8_call_58 rfl (lv_at hl 2 rfl) ?_
        refine lv_iconst (v := 0) hx hb dX8_call_59 (by decide) ?_
        refine va_put (D := D) (ci := 8) (v := .int 0) (ty := .int) (C := RX8) (T := TX8) (N := 33) hx hb hts iX8 tyX8 tyX8_ok nmX8 hown hK.1 hP hD hS 0 rfl rfl 22 (by decide) (hts _ q_701) (fun _ h9 => h9) rfl (by decide +kernel) rfl rfl (Nat.le_of_ble_eq_true rfl) dX8_call_60 (fun H locs hP hD hS => ?_)
        have hP : va_P D vwCl (mW G mo ad (su (st (st (st (su σ 0 (0) (0)) 30 (cdF (su σ 0 0 0) j3 name (σ 30) k)) 31 (ffF (su σ 0 0 0) j3 name k (σ 31) k)) 32 (tpF (nrS (caS (su σ 0 0 0) j3 name k) w0 k 0) w0 1 (tpF (caS (su σ 0 0 0) j3 name k) w0 0 (σ 32) k) k)) 22 (0) (0)) (τ)) H := hP
        have hD : va_D A (mW G mo ad (su (st (st (st (su σ 0 (0) (0)) 30 (cdF (su σ 0 0 0) j3 name (σ 30) k)) 31 (ffF (su σ 0 0 0) j3 name k (σ 31) k)) 32 (tpF (nrS (caS (su σ 0 0 0) j3 name k) w0 k 0) w0 1 (tpF (caS (su σ 0 0 0) j3 name k) w0 0 (σ 32) k) k)) 22 (0) (0)) (τ)) := hD
        refine lv_aload_n hx hb dX8_call_63 rfl (lv_at hl 2 rfl) ?_
        refine lv_iload_n hx hb dX8_call_64 rfl (lv_at hl 1 rfl) ?_
        refine lv_if_ge (tgt := 72) hx hb dX8_call_65 (by decide) (fun c8 => ?_) (fun c8 => ?_)
        · -- 65 taken
          refine lv_iload hx hb dX8_call_72 (lv_at hl 0 rfl) ?_
          refine va_put (D := D) (ci := 8) (v := .int 2) (ty := .int) (C := RX8) (T := TX8) (N := 33) hx hb hts iX8 tyX8 tyX8_ok nmX8 hown hK.1 hP hD hS 0 rfl rfl 25 (by decide) (hts _ q_704) (fun _ h9 => h9) rfl (by decide +kernel) rfl rfl (Nat.le_of_ble_eq_true rfl) dX8_call_74 (fun H locs hP hD hS => ?_)
          have hP : va_P D vwCl (mW G mo ad (su (su (st (st (st (su σ 0 (0) (0)) 30 (cdF (su σ 0 0 0) j3 name (σ 30) k)) 31 (ffF (su σ 0 0 0) j3 name k (σ 31) k)) 32 (tpF (nrS (caS (su σ 0 0 0) j3 name k) w0 k 0) w0 1 (tpF (caS (su σ 0 0 0) j3 name k) w0 0 (σ 32) k) k)) 22 (0) (0)) 25 (0) (2)) (τ)) H := hP
          have hD : va_D A (mW G mo ad (su (su (st (st (st (su σ 0 (0) (0)) 30 (cdF (su σ 0 0 0) j3 name (σ 30) k)) 31 (ffF (su σ 0 0 0) j3 name k (σ 31) k)) 32 (tpF (nrS (caS (su σ 0 0 0) j3 name k) w0 k 0) w0 1 (tpF (caS (su σ 0 0 0) j3 name k) w0 0 (σ 32) k) k)) 22 (0) (0)) 25 (0) (2)) (τ)) := hD
          refine lv_iload_n hx hb dX8_call_77 rfl (lv_at hl 1 rfl) ?_
          have ho : oCall σ τ n k w0 (nI j3) name = (nrA (nrS (caS (su σ 0 0 0) j3 name k) w0 k 0) w0 k 1, su (su (st (st (st (su σ 0 (0) (0)) 30 (cdF (su σ 0 0 0) j3 name (σ 30) k)) 31 (ffF (su σ 0 0 0) j3 name k (σ 31) k)) 32 (tpF (nrS (caS (su σ 0 0 0) j3 name k) w0 k 0) w0 1 (tpF (caS (su σ 0 0 0) j3 name k) w0 0 (σ 32) k) k)) 22 (0) (0)) 25 (0) (2), τ) := by unfold oCall; simp only [eq_true c2, eq_true c5, eq_true c6, eq_true c8, nI_clamp (show j3 < 2 ^ 31 by omega), not_true, not_false_iff, not_true_eq_false, not_false_eq_true, true_or, or_true, false_or, or_false, or_self, and_self, true_and, and_true, false_and, and_false, if_true, if_false]; try rfl
          exact mu_iret (v0 := nrA (nrS (caS (su σ 0 0 0) j3 name k) w0 k 0) w0 k 1) (z := (su (su (st (st (st (su σ 0 (0) (0)) 30 (cdF (su σ 0 0 0) j3 name (σ 30) k)) 31 (ffF (su σ 0 0 0) j3 name k (σ 31) k)) 32 (tpF (nrS (caS (su σ 0 0 0) j3 name k) w0 k 0) w0 1 (tpF (caS (su σ 0 0 0) j3 name k) w0 0 (σ 32) k) k)) 22 (0) (0)) 25 (0) (2), τ)) hx hb hr hlocks hP hD hS dX8_call_78 (by rw [ho]) (by rw [ho])
        · -- 65 not
          refine lv_iconst (v := 0) hx hb dX8_call_68 (by decide) ?_
          refine lv_goto (tgt := 74) hx hb dX8_call_69 (by decide) ?_
          refine va_put (D := D) (ci := 8) (v := .int 0) (ty := .int) (C := RX8) (T := TX8) (N := 33) hx hb hts iX8 tyX8 tyX8_ok nmX8 hown hK.1 hP hD hS 0 rfl rfl 25 (by decide) (hts _ q_704) (fun _ h9 => h9) rfl (by decide +kernel) rfl rfl (Nat.le_of_ble_eq_true rfl) dX8_call_74 (fun H locs hP hD hS => ?_)
          have hP : va_P D vwCl (mW G mo ad (su (su (st (st (st (su σ 0 (0) (0)) 30 (cdF (su σ 0 0 0) j3 name (σ 30) k)) 31 (ffF (su σ 0 0 0) j3 name k (σ 31) k)) 32 (tpF (nrS (caS (su σ 0 0 0) j3 name k) w0 k 0) w0 1 (tpF (caS (su σ 0 0 0) j3 name k) w0 0 (σ 32) k) k)) 22 (0) (0)) 25 (0) (0)) (τ)) H := hP
          have hD : va_D A (mW G mo ad (su (su (st (st (st (su σ 0 (0) (0)) 30 (cdF (su σ 0 0 0) j3 name (σ 30) k)) 31 (ffF (su σ 0 0 0) j3 name k (σ 31) k)) 32 (tpF (nrS (caS (su σ 0 0 0) j3 name k) w0 k 0) w0 1 (tpF (caS (su σ 0 0 0) j3 name k) w0 0 (σ 32) k) k)) 22 (0) (0)) 25 (0) (0)) (τ)) := hD
          refine lv_iload_n hx hb dX8_call_77 rfl (lv_at hl 1 rfl) ?_
          have ho : oCall σ τ n k w0 (nI j3) name = (nrA (nrS (caS (su σ 0 0 0) j3 name k) w0 k 0) w0 k 1, su (su (st (st (st (su σ 0 (0) (0)) 30 (cdF (su σ 0 0 0) j3 name (σ 30) k)) 31 (ffF (su σ 0 0 0) j3 name k (σ 31) k)) 32 (tpF (nrS (caS (su σ 0 0 0) j3 name k) w0 k 0) w0 1 (tpF (caS (su σ 0 0 0) j3 name k) w0 0 (σ 32) k) k)) 22 (0) (0)) 25 (0) (0), τ) := by unfold oCall; simp only [eq_true c2, eq_true c5, eq_true c6, eq_false c8, nI_clamp (show j3 < 2 ^ 31 by omega), not_true, not_false_iff, not_true_eq_false, not_false_eq_true, true_or, or_true, false_or, or_false, or_self, and_self, true_and, and_true, false_and, and_false, if_true, if_false]; try rfl
          exact mu_iret (v0 := nrA (nrS (caS (su σ 0 0 0) j3 name k) w0 k 0) w0 k 1) (z := (su (su (st (st (st (su σ 0 (0) (0)) 30 (cdF (su σ 0 0 0) j3 name (σ 30) k)) 31 (ffF (su σ 0 0 0) j3 name k (σ 31) k)) 32 (tpF (nrS (caS (su σ 0 0 0) j3 name k) w0 k 0) w0 1 (tpF (caS (su σ 0 0 0) j3 name k) w0 0 (σ 32) k) k)) 22 (0) (0)) 25 (0) (0), τ)) hx hb hr hlocks hP hD hS dX8_call_78 (by rw [ho]) (by rw [ho])
    · -- 23 not
      have c5 := bI_0 c5
      refine lv_bipush (v := -13) hx hb dX8_call_26 (by decide) ?_
      have ho : oCall σ τ n k w0 (nI j3) name = ((-13), su σ 0 (0) (0), τ) := by unfold oCall; simp only [eq_true c2, eq_false c5, nI_clamp (show j3 < 2 ^ 31 by omega), not_true, not_false_iff, not_true_eq_false, not_false_eq_true, true_or, or_true, false_or, or_false, or_self, and_self, true_and, and_true, false_and, and_false, if_true, if_false]; try rfl
      exact mu_iret (v0 := (-13)) (z := (su σ 0 (0) (0), τ)) hx hb hr hlocks hP hD hS dX8_call_28 (by rw [ho]) (by rw [ho])
  · -- 10 not
    have c2 := bI_0 c2
    refine lv_bipush (v := -11) hx hb dX8_call_13 (by decide) ?_
    have ho : oCall σ τ n k w0 t name = ((-11), su σ 0 (0) (0), τ) := by unfold oCall; simp only [eq_false c2, not_true, not_false_iff, not_true_eq_false, not_false_eq_true, true_or, or_true, false_or, or_false, or_self, and_self, true_and, and_true, false_and, and_false, if_true, if_false]; try rfl
    exact mu_iret (v0 := (-11)) (z := (su σ 0 (0) (0), τ)) hx hb hr hlocks hP hD hS dX8_call_15 (by rw [ho]) (by rw [ho])
set_option maxHeartbeats 4000000 in
set_option maxRecDepth 100000 in
theorem m_sought (l : Launch) (D : va_G) (G : Nat → ClassId) (mo : Nat) (ad : Nat → Nat) (σ : MS) (τ : Nat → Int64) (sz : Nat) (n : Nat) (h1 : σ 1 0 = nI n) (hn : n ≤ 12) (k : Nat) (h7 : σ 7 0 = nI k) (hk60 : k ≤ 60) (hk1 : 1 ≤ k ∨ k = 0) (hpa : ∀ i, i < n → okPa σ i) (hfc : ∀ i, i < n → okFa σ i) (hea : ∀ i, i < n → eaP σ i) (t : Int32) (name : Int32) : Met l yX8_sought (ww yX8_sought cX8_sought 6 (some .int)) (rmD 2) (muP D G sz mo ad (σ, τ) [.ref mo, .int t, .int name]) (muQi D G mo ad (muA G mo ad (σ, τ) sz) (oSought σ τ n k t name).1 (oSought σ τ n k t name).2) 0 0 (muA G mo ad (σ, τ) sz) := by
  refine Met.ofW (cc := cX8_sought) (maxL := 6) (ret := (some .int)) (by decide) rfl ?_
  intro p e s m args below meth c s₁ B hml hv
  obtain ⟨rfl, hsz, hP, hK, hD0⟩ := hv
  have hx := B.exec
  have hb := B.bytes
  have hr := B.returns
  have hts : ∀ w ∈ TT, w.before _ s = true := fun w h => atoms_spec (ws := ww yX8_sought cX8_sought 6 (some .int)) B.pre w (List.mem_cons_of_mem _ h)
  have hown : s.vm.findClass RX8 = some m.cls := findClass_of_methodNamed B.named
  have hlocks := B.notSynchronized
  subst hsz
  have hD : va_D (muA G mo ad (σ, τ) s.heap.size) (mW G mo ad σ τ) := hD0.self
  generalize hAe : muA G mo ad (σ, τ) s.heap.size = A at hD ⊢
  have hA : ∀ q : Nat, s.heap.size ≤ q → A q := fun q h => by rw [← hAe]; exact Or.inr h
  have hS : va_S A s.heap s.heap [] := va_S.rf
  have hP : va_P D vwCl (mW G mo ad σ τ) s.heap := hP
  have hl := lv_entry ([.ref mo, .int t, .int name]) (n := 6) (Nat.le_of_ble_eq_true rfl)
  rw [lg_entry_eq]
  generalize (lg_sl ([.ref mo, .int t, .int name]) ++ List.replicate (6 - (lg_sl ([.ref mo, .int t, .int name])).length) Slot.unset).toArray = ls at hl ⊢
  have hl : lv_has ls 6 [(0, .ref mo), (1, .int t), (2, .int name)] := hl
  refine lv_aload_n hx hb dX8_sought_0 rfl (lv_at hl 0 rfl) ?_
  refine lv_iconst (v := 0) hx hb dX8_sought_1 (by decide) ?_
  refine va_put (D := D) (ci := 8) (v := .int 0) (ty := .int) (C := RX8) (T := TX8) (N := 33) hx hb hts iX8 tyX8 tyX8_ok nmX8 hown hK.1 hP hD hS 0 rfl rfl 0 (by decide) (hts _ q_679) (fun _ h9 => h9) rfl (by decide +kernel) rfl rfl (Nat.le_of_ble_eq_true rfl) dX8_sought_2 (fun H locs hP hD hS => ?_)
  have hP : va_P D vwCl (mW G mo ad (su σ 0 (0) (0)) (τ)) H := hP
  have hD : va_D A (mW G mo ad (su σ 0 (0) (0)) (τ)) := hD
  refine lv_aload_n hx hb dX8_sought_5 rfl (lv_at hl 0 rfl) ?_
  refine lv_iload_n hx hb dX8_sought_6 rfl (lv_at hl 1 rfl) ?_
  refine ro_Vi (D := D) (G := G) (As := [.int t]) (rest := []) ⟨hx, hb, hml, hown, hts⟩ (m_isType l D G _ mo ad _ _ hP n h1 hn t) gV_X8_X8_isType hdV_X8_isType ⟨Nat.le_of_ble_eq_true rfl, Nat.le_of_ble_eq_true rfl⟩ hK (va_recv hK.1 hP (ci := 8) (q0 := 0) rfl rfl) rfl hl.1 rfl (Nat.le_of_ble_eq_true rfl) dX8_sought_7 ⟨Nat.le_of_ble_eq_true rfl, Nat.le_of_ble_eq_true rfl⟩ (fun r1 e_r1 => ?_)
  subst e_r1
  refine W.eq (g2 := F0 m 10 ls [.int (bI (okN n t))]) rfl ?_
  refine lv_if_ne (tgt := 16) hx hb dX8_sought_10 (by decide) (fun c2 => ?_) (fun c2 => ?_)
  · -- 10 taken
    have c2 := bI_1 c2
    obtain ⟨j3, h_j3, rfl⟩ := okN_ex (by omega) c2
    refine lv_iload_n hx hb dX8_sought_16 rfl (lv_at hl 2 rfl) ?_
    refine lv_iconst (v := 0) hx hb dX8_sought_17 (by decide) ?_
    refine lv_bipush (v := 49) hx hb dX8_sought_18 (by decide) ?_
    refine ro_Si (D := D) (G := G) (As := [.int name, .int 0, .int 49]) (rest := []) ⟨hx, hb, hml, hown, hts⟩ (m_in l D G _ name 0 49) gS_X8_X8_in hdS_X8_in ⟨Nat.le_of_ble_eq_true rfl, Nat.le_of_ble_eq_true rfl⟩ hK rfl hl.1 rfl (Nat.le_of_ble_eq_true rfl) dX8_sought_20 ⟨Nat.le_of_ble_eq_true rfl, Nat.le_of_ble_eq_true rfl⟩ (fun r4 e_r4 => ?_)
    subst e_r4
    refine W.eq (g2 := F0 m 23 ls [.int (bI (0 ≤ name ∧ name ≤ 49))]) rfl ?_
    refine lv_if_ne (tgt := 29) hx hb dX8_sought_23 (by decide) (fun c5 => ?_) (fun c5 => ?_)
    · -- 23 taken
      have c5 := bI_1 c5
      refine lv_iconst (v := 0) hx hb dX8_sought_29 (by decide) ?_
      refine lv_istore_n (lv' := [(3, .int 0), (0, .ref mo), (1, .int (nI j3)), (2, .int name)]) hx hb dX8_sought_30 rfl hl (by decide) rfl (fun ls hl => ?_)
      refine w_forM (N := (j3 + 1)) 31 (L := fun q9 ls H locs => lv_has ls 6 [(3, .int (nI q9)), (0, .ref mo), (1, .int (nI j3)), (2, .int name)] ∧ va_P D vwCl (mW G mo ad (st (su σ 0 (0) (0)) 29 (skF σ k name (σ 29) q9)) (τ)) H ∧ va_D A (mW G mo ad (st (su σ 0 (0) (0)) 29 (skF σ k name (σ 29) q9)) (τ)) ∧ va_S A s.heap H locs) (fun k9 ls H locs hk hL ih31 => ?_) 0 ls _ _ (by omega) ⟨hl, hP, hD, hS⟩
      obtain ⟨hl, hP, hD, hS⟩ := hL
      have hl : lv_has ls 6 [(3, .int (nI k9)), (0, .ref mo), (1, .int (nI j3)), (2, .int name)] := hl
      refine lv_iload_n hx hb dX8_sought_31 rfl (lv_at hl 0 rfl) ?_
      refine lv_iload_n hx hb dX8_sought_32 rfl (lv_at hl 2 rfl) ?_
      refine lv_icmp_gt (tgt := 188) hx hb dX8_sought_33 (by decide) (fun c6 => ?_) (fun c6 => ?_)
      · -- 33 taken
        have c6 : j3 < k9 := (nI_ltI (a := j3) (b := k9) (by omega) (by omega)).mp (by have h8 := c6; exact h8)
        obtain rfl : (j3 + 1) = k9 := by omega
        have hP : va_P D vwCl (mW G mo ad (st (su σ 0 (0) (0)) 29 (skF σ k name (σ 29) ((j3 + 1)))) (τ)) H := hP
        have hD : va_D A (mW G mo ad (st (su σ 0 (0) (0)) 29 (skF σ k name (σ 29) ((j3 + 1)))) (τ)) := hD
        refine lv_aload_n hx hb dX8_sought_188 rfl (lv_at hl 1 rfl) ?_
        refine va_get (D := D) (ci := 8) (v := .ref ((ad 29))) (C := RX8) (T := TX8) (N := 33) hx hb hts iX8 hown hK.1 hP 0 rfl rfl 29 (by decide) (hts _ q_708) (fun _ h9 => h9) rfl dX8_sought_189 ?_
        refine lv_iload_n hx hb dX8_sought_192 rfl (lv_at hl 2 rfl) ?_
        refine iald_n (f := skF σ k name (σ 29) ((j3 + 1))) hx hb hK.1 hP 23 0 rfl rfl (j3) rfl (by omega) (by decide) dX8_sought_193 ?_
        have ho : oSought σ τ n k (nI j3) name = ((skF σ k name (σ 29) ((j3 + 1))) j3, st (su σ 0 (0) (0)) 29 (skF σ k name (σ 29) ((j3 + 1))), τ) := by unfold oSought; simp only [eq_true c2, eq_true c5, nI_clamp (show j3 < 2 ^ 31 by omega), not_true, not_false_iff, not_true_eq_false, not_false_eq_true, true_or, or_true, false_or, or_false, or_self, and_self, true_and, and_true, false_and, and_false, if_true, if_false]; try rfl
        exact mu_iret (v0 := (skF σ k name (σ 29) ((j3 + 1))) j3) (z := (st (su σ 0 (0) (0)) 29 (skF σ k name (σ 29) ((j3 + 1))), τ)) hx hb hr hlocks hP hD hS dX8_sought_194 (by rw [ho]) (by rw [ho])
      · -- 33 not
        have c6 : ¬ j3 < k9 := fun h9 => c6 (by exact (nI_ltI (a := j3) (b := k9) (by omega) (by omega)).mpr h9)
        have hpk0 := hpa k9 (by omega)
        have hfk := hfc k9 (by omega)
        have hek := hea k9 (by omega)
        have hsk := skF_ok (σ := σ) (K := k) (name := name) (f := σ 29) (by omega) k9 (fun i hi => hea i (by omega))
        refine lv_aload_n hx hb dX8_sought_36 rfl (lv_at hl 1 rfl) ?_
        refine lv_iload_n hx hb dX8_sought_37 rfl (lv_at hl 0 rfl) ?_
        refine lv_iload_n hx hb dX8_sought_38 rfl (lv_at hl 3 rfl) ?_
        refine ro_Vi (D := D) (G := G) (As := [.int (nI k9), .int name]) (rest := []) ⟨hx, hb, hml, hown, hts⟩ (m_fieldOf l D G _ mo ad _ _ hP k h7 hk60 (nI k9) name) gV_X8_X8_fieldOf hdV_X8_fieldOf ⟨Nat.le_of_ble_eq_true rfl, Nat.le_of_ble_eq_true rfl⟩ hK (va_recv hK.1 hP (ci := 8) (q0 := 0) rfl rfl) rfl hl.1 rfl (Nat.le_of_ble_eq_true rfl) dX8_sought_39 ⟨Nat.le_of_ble_eq_true rfl, Nat.le_of_ble_eq_true rfl⟩ (fun r7 e_r7 => ?_)
        subst e_r7
        refine W.eq (g2 := F0 m 42 ls [.int (fld σ k (nI k9) name)]) rfl ?_
        refine lv_istore (lv' := [(4, .int (fld σ k (nI k9) name)), (3, .int (nI k9)), (0, .ref mo), (1, .int (nI j3)), (2, .int name)]) hx hb dX8_sought_42 hl (by decide) rfl (fun ls hl => ?_)
        refine w_joinL (P := fun ls => lv_has ls 6 [(4, .int (f1V σ k name (skF σ k name (σ 29) k9) k9)), (3, .int (nI k9)), (0, .ref mo), (1, .int (nI j3)), (2, .int name)]) 98 (fun ls hl => ?_) (fun JL98 => ?_)
        · -- behind the meeting at 98
          refine w_joinL (P := fun ls => lv_has ls 6 [(4, .int (skV σ k name (skF σ k name (σ 29) k9) k9)), (3, .int (nI k9)), (0, .ref mo), (1, .int (nI j3)), (2, .int name)]) 174 (fun ls hl => ?_) (fun JL174 => ?_)
          · -- behind the meeting at 174
            refine lv_aload_n hx hb dX8_sought_174 rfl (lv_at hl 2 rfl) ?_
            refine va_get (D := D) (ci := 8) (v := .ref ((ad 29))) (C := RX8) (T := TX8) (N := 33) hx hb hts iX8 hown hK.1 hP 0 rfl rfl 29 (by decide) (hts _ q_708) (fun _ h9 => h9) rfl dX8_sought_175 ?_
            refine lv_iload_n hx hb dX8_sought_178 rfl (lv_at hl 1 rfl) ?_
            refine lv_iload hx hb dX8_sought_179 (lv_at hl 0 rfl) ?_
            refine iast_n hx hb hK.1 hP hD hS 23 0 rfl rfl (k9) rfl (by omega) (by decide) dX8_sought_181 (fun H locs hP hD hS => ?_)
            have hP : va_P D vwCl (mW G mo ad (st (su σ 0 (0) (0)) 29 (upd (skF σ k name (σ 29) k9) (k9) (skV σ k name (skF σ k name (σ 29) k9) k9))) (τ)) H := hP
            have hD : va_D A (mW G mo ad (st (su σ 0 (0) (0)) 29 (upd (skF σ k name (σ 29) k9) (k9) (skV σ k name (skF σ k name (σ 29) k9) k9))) (τ)) := hD
            refine lv_iinc (v := nI (k9 + 1)) (lv' := [(3, .int (nI (k9 + 1))), (4, .int (skV σ k name (skF σ k name (σ 29) k9) k9)), (0, .ref mo), (1, .int (nI j3)), (2, .int name)]) hx hb dX8_sought_182 hl (k := 1) rfl (nI_1 _) (by decide) rfl (fun ls hl => ?_)
            refine lv_goto (tgt := 31) hx hb dX8_sought_185 (by decide) ?_
            exact ih31 _ _ _ (by omega) ⟨lv_sub hl [0, 2, 3, 4] rfl, hP, hD, hS⟩
          · -- up to the meeting at 174
            refine lv_iload hx hb dX8_sought_98 (lv_at hl 0 rfl) ?_
            refine lv_iconst (v := -1) hx hb dX8_sought_100 (by decide) ?_
            refine lv_icmp_eq (tgt := 131) hx hb dX8_sought_101 (by decide) (fun c8 => ?_) (fun c8 => ?_)
            · -- 101 taken
              refine lv_iconst (v := 0) hx hb dX8_sought_131 (by decide) ?_
              refine lv_istore (lv' := [(5, .int 0), (4, .int (f1V σ k name (skF σ k name (σ 29) k9) k9)), (3, .int (nI k9)), (0, .ref mo), (1, .int (nI j3)), (2, .int name)]) hx hb dX8_sought_132 hl (by decide) rfl (fun ls hl => ?_)
              refine w_for (N := (σ 5 k9).toNatClampNeg) 134 (L := fun q9 ls => lv_has ls 6 [(5, .int (nI q9)), (4, .int (bfF σ (skF σ k name (σ 29) k9) k9 (f1V σ k name (skF σ k name (σ 29) k9) k9) q9)), (3, .int (nI k9)), (0, .ref mo), (1, .int (nI j3)), (2, .int name)]) (fun k8 ls hk hL ih134 => ?_) 0 ls (Nat.zero_le _) (hl)
              have hl := hL
              have hl : lv_has ls 6 [(5, .int (nI k8)), (4, .int (bfF σ (skF σ k name (σ 29) k9) k9 (f1V σ k name (skF σ k name (σ 29) k9) k9) k8)), (3, .int (nI k9)), (0, .ref mo), (1, .int (nI j3)), (2, .int name)] := hl
              refine lv_iload hx hb dX8_sought_134 (lv_at hl 0 rfl) ?_
              refine lv_aload_n hx hb dX8_sought_136 rfl (lv_at hl 3 rfl) ?_
              refine va_get (D := D) (ci := 8) (v := .ref ((ad 5))) (C := RX8) (T := TX8) (N := 33) hx hb hts iX8 hown hK.1 hP 0 rfl rfl 5 (by decide) (hts _ q_684) (fun _ h9 => h9) rfl dX8_sought_137 ?_
              refine lv_iload_n hx hb dX8_sought_140 rfl (lv_at hl 2 rfl) ?_
              refine iald_n (f := σ 5) hx hb hK.1 hP 4 0 rfl rfl (k9) rfl (by omega) (by decide) dX8_sought_141 ?_
              refine lv_icmp_ge (tgt := 174) hx hb dX8_sought_142 (by decide) (fun c9 => ?_) (fun c9 => ?_)
              · -- 142 taken
                have c9 : (σ 5 k9).toNatClampNeg ≤ k8 := (nI_leI (a := (σ 5 k9).toNatClampNeg) (b := k8) (by omega) (by omega)).mp (by have h8 := c9; rw [hfk.1.1] at h8; exact h8)
                obtain rfl : (σ 5 k9).toNatClampNeg = k8 := by omega
                have hP : va_P D vwCl (mW G mo ad (st (su σ 0 (0) (0)) 29 (skF σ k name (σ 29) k9)) (τ)) H := hP
                have hD : va_D A (mW G mo ad (st (su σ 0 (0) (0)) 29 (skF σ k name (σ 29) k9)) (τ)) := hD
                have hl9 := lv_sub hl [1, 2, 3, 4, 5] rfl
                rw [show bfF σ (skF σ k name (σ 29) k9) k9 (f1V σ k name (skF σ k name (σ 29) k9) k9) ((σ 5 k9).toNatClampNeg) = skV σ k name (skF σ k name (σ 29) k9) k9 from by unfold skV; simp only [eq_true c8, not_true, not_false_iff, not_true_eq_false, not_false_eq_true, true_or, or_true, false_or, or_false, or_self, and_self, true_and, and_true, false_and, and_false, if_true, if_false, sb_cl0]] at hl9
                exact JL174 _ hl9
              · -- 142 not
                have c9 : ¬ (σ 5 k9).toNatClampNeg ≤ k8 := fun h9 => c9 (by rw [hfk.1.1]; exact (nI_leI (a := (σ 5 k9).toNatClampNeg) (b := k8) (by omega) (by omega)).mpr h9)
                refine lv_iload hx hb dX8_sought_145 (lv_at hl 1 rfl) ?_
                refine lv_aload_n hx hb dX8_sought_147 rfl (lv_at hl 3 rfl) ?_
                refine va_get (D := D) (ci := 8) (v := .ref ((ad 29))) (C := RX8) (T := TX8) (N := 33) hx hb hts iX8 hown hK.1 hP 0 rfl rfl 29 (by decide) (hts _ q_708) (fun _ h9 => h9) rfl dX8_sought_148 ?_
                refine lv_aload_n hx hb dX8_sought_151 rfl (lv_at hl 3 rfl) ?_
                refine va_get (D := D) (ci := 8) (v := .ref ((ad 4))) (C := RX8) (T := TX8) (N := 33) hx hb hts iX8 hown hK.1 hP 0 rfl rfl 4 (by decide) (hts _ q_683) (fun _ h9 => h9) rfl dX8_sought_152 ?_
                refine lv_iconst (v := 3) hx hb dX8_sought_155 (by decide) ?_
                refine lv_iload_n hx hb dX8_sought_156 rfl (lv_at hl 2 rfl) ?_
                refine lv_imul hx hb dX8_sought_157 ?_
                refine lv_iload hx hb dX8_sought_158 (lv_at hl 0 rfl) ?_
                refine lv_iadd hx hb dX8_sought_160 ?_
                refine iald_n (f := σ 4) hx hb hK.1 hP 3 0 rfl rfl (((3 * k9) + k8)) (n_add (a := (3 * k9)) (b := k8) (n_mul (a := 3) (b := k9) (rfl : (3 : Int32) = nI 3) rfl) rfl) (by omega) (by decide) dX8_sought_161 ?_
                have hf4 := hfk.2 k8 (by omega)
                have hf5 := hek.2 k8 (by omega)
                refine iald_n (f := skF σ k name (σ 29) k9) hx hb hK.1 hP 23 0 rfl rfl ((σ 4 (3 * k9 + k8)).toNatClampNeg) hf4.1 (by omega) (by decide) dX8_sought_162 ?_
                refine ro_Si (D := D) (G := G) (As := [.int (bfF σ (skF σ k name (σ 29) k9) k9 (f1V σ k name (skF σ k name (σ 29) k9) k9) k8), .int ((skF σ k name (σ 29) k9) ((σ 4 (3 * k9 + k8)).toNatClampNeg))]) (rest := []) ⟨hx, hb, hml, hown, hts⟩ (m_both l D G _ (bfF σ (skF σ k name (σ 29) k9) k9 (f1V σ k name (skF σ k name (σ 29) k9) k9) k8) ((skF σ k name (σ 29) k9) ((σ 4 (3 * k9 + k8)).toNatClampNeg))) gS_X8_X8_both hdS_X8_both ⟨Nat.le_of_ble_eq_true rfl, Nat.le_of_ble_eq_true rfl⟩ hK rfl hl.1 rfl (Nat.le_of_ble_eq_true rfl) dX8_sought_163 ⟨Nat.le_of_ble_eq_true rfl, Nat.le_of_ble_eq_true rfl⟩ (fun r10 e_r10 => ?_)
                subst e_r10
                refine W.eq (g2 := F0 m 166 ls [.int (bothF (bfF σ (skF σ k name (σ 29) k9) k9 (f1V σ k name (skF σ k name (σ 29) k9) k9) k8) ((skF σ k name (σ 29) k9) ((σ 4 (3 * k9 + k8)).toNatClampNeg)))]) rfl ?_
                refine lv_istore (lv' := [(4, .int (bothF (bfF σ (skF σ k name (σ 29) k9) k9 (f1V σ k name (skF σ k name (σ 29) k9) k9) k8) ((skF σ k name (σ 29) k9) ((σ 4 (3 * k9 + k8)).toNatClampNeg)))), (5, .int (nI k8)), (3, .int (nI k9)), (0, .ref mo), (1, .int (nI j3)), (2, .int name)]) hx hb dX8_sought_166 hl (by decide) rfl (fun ls hl => ?_)
                refine lv_iinc (v := nI (k8 + 1)) (lv' := [(5, .int (nI (k8 + 1))), (4, .int (bothF (bfF σ (skF σ k name (σ 29) k9) k9 (f1V σ k name (skF σ k name (σ 29) k9) k9) k8) ((skF σ k name (σ 29) k9) ((σ 4 (3 * k9 + k8)).toNatClampNeg)))), (3, .int (nI k9)), (0, .ref mo), (1, .int (nI j3)), (2, .int name)]) hx hb dX8_sought_168 hl (k := 1) rfl (nI_1 _) (by decide) rfl (fun ls hl => ?_)
                refine lv_goto (tgt := 134) hx hb dX8_sought_171 (by decide) ?_
                exact ih134 _ (by omega) (lv_sub hl [0, 1, 2, 3, 4, 5] rfl)
            · -- 101 not
              refine lv_aload_n hx hb dX8_sought_104 rfl (lv_at hl 2 rfl) ?_
              refine va_get (D := D) (ci := 8) (v := .ref ((ad 9))) (C := RX8) (T := TX8) (N := 33) hx hb hts iX8 hown hK.1 hP 0 rfl rfl 9 (by decide) (hts _ q_688) (fun _ h9 => h9) rfl dX8_sought_105 ?_
              refine lv_iload hx hb dX8_sought_108 (lv_at hl 0 rfl) ?_
              refine lv_if_ge (tgt := 117) hx hb dX8_sought_110 (by decide) (fun c11 => ?_) (fun c11 => ?_)
              · -- 110 taken
                have hv9 := okV_n (f1V_ok (σ := σ) (name := name) (T := skF σ k name (σ 29) k9) (t := k9) (K := k) (by omega) (fun q => hsk _ (hek.1 q))) (fun h9 => by simp only [i_le, i_lt, Int32.reduceToInt] at c11 h9; omega)
                refine lv_iload hx hb dX8_sought_117 (lv_at hl 0 rfl) ?_
                refine iald_n (f := σ 9) hx hb hK.1 hP 7 0 rfl rfl ((f1V σ k name (skF σ k name (σ 29) k9) k9).toNatClampNeg) hv9.1 (by omega) (by decide) dX8_sought_119 ?_
                refine lv_iload_n hx hb dX8_sought_120 rfl (lv_at hl 1 rfl) ?_
                refine lv_icmp_ne (tgt := 131) hx hb dX8_sought_121 (by decide) (fun c12 => ?_) (fun c12 => ?_)
                · -- 121 taken
                  refine lv_iconst (v := 0) hx hb dX8_sought_131 (by decide) ?_
                  refine lv_istore (lv' := [(5, .int 0), (4, .int (f1V σ k name (skF σ k name (σ 29) k9) k9)), (3, .int (nI k9)), (0, .ref mo), (1, .int (nI j3)), (2, .int name)]) hx hb dX8_sought_132 hl (by decide) rfl (fun ls hl => ?_)
                  refine w_for (N := (σ 5 k9).toNatClampNeg) 134 (L := fun q9 ls => lv_has ls 6 [(5, .int (nI q9)), (4, .int (bfF σ (skF σ k name (σ 29) k9) k9 (f1V σ k name (skF σ k name (σ 29) k9) k9) q9)), (3, .int (nI k9)), (0, .ref mo), (1, .int (nI j3)), (2, .int name)]) (fun k8 ls hk hL ih134 => ?_) 0 ls (Nat.zero_le _) (hl)
                  have hl := hL
                  have hl : lv_has ls 6 [(5, .int (nI k8)), (4, .int (bfF σ (skF σ k name (σ 29) k9) k9 (f1V σ k name (skF σ k name (σ 29) k9) k9) k8)), (3, .int (nI k9)), (0, .ref mo), (1, .int (nI j3)), (2, .int name)] := hl
                  refine lv_iload hx hb dX8_sought_134 (lv_at hl 0 rfl) ?_
                  refine lv_aload_n hx hb dX8_sought_136 rfl (lv_at hl 3 rfl) ?_
                  refine va_get (D := D) (ci := 8) (v := .ref ((ad 5))) (C := RX8) (T := TX8) (N := 33) hx hb hts iX8 hown hK.1 hP 0 rfl rfl 5 (by decide) (hts _ q_684) (fun _ h9 => h9) rfl dX8_sought_137 ?_
                  refine lv_iload_n hx hb dX8_sought_140 rfl (lv_at hl 2 rfl) ?_
                  refine iald_n (f := σ 5) hx hb hK.1 hP 4 0 rfl rfl (k9) rfl (by omega) (by decide) dX8_sought_141 ?_
                  refine lv_icmp_ge (tgt := 174) hx hb dX8_sought_142 (by decide) (fun c13 => ?_) (fun c13 => ?_)
                  · -- 142 taken
                    have c13 : (σ 5 k9).toNatClampNeg ≤ k8 := (nI_leI (a := (σ 5 k9).toNatClampNeg) (b := k8) (by omega) (by omega)).mp (by have h8 := c13; rw [hfk.1.1] at h8; exact h8)
                    obtain rfl : (σ 5 k9).toNatClampNeg = k8 := by omega
                    have hP : va_P D vwCl (mW G mo ad (st (su σ 0 (0) (0)) 29 (skF σ k name (σ 29) k9)) (τ)) H := hP
                    have hD : va_D A (mW G mo ad (st (su σ 0 (0) (0)) 29 (skF σ k name (σ 29) k9)) (τ)) := hD
                    have hl9 := lv_sub hl [1, 2, 3, 4, 5] rfl
                    rw [show bfF σ (skF σ k name (σ 29) k9) k9 (f1V σ k name (skF σ k name (σ 29) k9) k9) ((σ 5 k9).toNatClampNeg) = skV σ k name (skF σ k name (σ 29) k9) k9 from by unfold skV; simp only [eq_false c8, eq_true c11, eq_false c12, not_true, not_false_iff, not_true_eq_false, not_false_eq_true, true_or, or_true, false_or, or_false, or_self, and_self, true_and, and_true, false_and, and_false, if_true, if_false, sb_cl0]] at hl9
                    exact JL174 _ hl9
                  · -- 142 not
                    have c13 : ¬ (σ 5 k9).toNatClampNeg ≤ k8 := fun h9 => c13 (by rw [hfk.1.1]; exact (nI_leI (a := (σ 5 k9).toNatClampNeg) (b := k8) (by omega) (by omega)).mpr h9)
                    refine lv_iload hx hb dX8_sought_145 (lv_at hl 1 rfl) ?_
                    refine lv_aload_n hx hb dX8_sought_147 rfl (lv_at hl 3 rfl) ?_
                    refine va_get (D := D) (ci := 8) (v := .ref ((ad 29))) (C := RX8) (T := TX8) (N := 33) hx hb hts iX8 hown hK.1 hP 0 rfl rfl 29 (by decide) (hts _ q_708) (fun _ h9 => h9) rfl dX8_sought_148 ?_
                    refine lv_aload_n hx hb dX8_sought_151 rfl (lv_at hl 3 rfl) ?_
                    refine va_get (D := D) (ci := 8) (v := .ref ((ad 4))) (C := RX8) (T := TX8) (N := 33) hx hb hts iX8 hown hK.1 hP 0 rfl rfl 4 (by decide) (hts _ q_683) (fun _ h9 => h9) rfl dX8_sought_152 ?_
                    refine lv_iconst (v := 3) hx hb dX8_sought_155 (by decide) ?_
                    refine lv_iload_n hx hb dX8_sought_156 rfl (lv_at hl 2 rfl) ?_
                    refine lv_imul hx hb dX8_sought_157 ?_
                    refine lv_iload hx hb dX8_sought_158 (lv_at hl 0 rfl) ?_
                    refine lv_iadd hx hb dX8_sought_160 ?_
                    refine iald_n (f := σ 4) hx hb hK.1 hP 3 0 rfl rfl (((3 * k9) + k8)) (n_add (a := (3 * k9)) (b := k8) (n_mul (a := 3) (b := k9) (rfl : (3 : Int32) = nI 3) rfl) rfl) (by omega) (by decide) dX8_sought_161 ?_
                    have hf4 := hfk.2 k8 (by omega)
                    have hf5 := hek.2 k8 (by omega)
                    refine iald_n (f := skF σ k name (σ 29) k9) hx hb hK.1 hP 23 0 rfl rfl ((σ 4 (3 * k9 + k8)).toNatClampNeg) hf4.1 (by omega) (by decide) dX8_sought_162 ?_
                    refine ro_Si (D := D) (G := G) (As := [.int (bfF σ (skF σ k name (σ 29) k9) k9 (f1V σ k name (skF σ k name (σ 29) k9) k9) k8), .int ((skF σ k name (σ 29) k9) ((σ 4 (3 * k9 + k8)).toNatClampNeg))]) (rest := []) ⟨hx, hb, hml, hown, hts⟩ (m_both l D G _ (bfF σ (skF σ k name (σ 29) k9) k9 (f1V σ k name (skF σ k name (σ 29) k9) k9) k8) ((skF σ k name (σ 29) k9) ((σ 4 (3 * k9 + k8)).toNatClampNeg))) gS_X8_X8_both hdS_X8_both ⟨Nat.le_of_ble_eq_true rfl, Nat.le_of_ble_eq_true rfl⟩ hK rfl hl.1 rfl (Nat.le_of_ble_eq_true rfl) dX8_sought_163 ⟨Nat.le_of_ble_eq_true rfl, Nat.le_of_ble_eq_true rfl⟩ (fun r14 e_r14 => ?_)
                    subst e_r14
                    refine W.eq (g2 := F0 m 166 ls [.int (bothF (bfF σ (skF σ k name (σ 29) k9) k9 (f1V σ k name (skF σ k name (σ 29) k9) k9) k8) ((skF σ k name (σ 29) k9) ((σ 4 (3 * k9 + k8)).toNatClampNeg)))]) rfl ?_
                    refine lv_istore (lv' := [(4, .int (bothF (bfF σ (skF σ k name (σ 29) k9) k9 (f1V σ k name (skF σ k name (σ 29) k9) k9) k8) ((skF σ k name (σ 29) k9) ((σ 4 (3 * k9 + k8)).toNatClampNeg)))), (5, .int (nI k8)), (3, .int (nI k9)), (0, .ref mo), (1, .int (nI j3)), (2, .int name)]) hx hb dX8_sought_166 hl (by decide) rfl (fun ls hl => ?_)
                    refine lv_iinc (v := nI (k8 + 1)) (lv' := [(5, .int (nI (k8 + 1))), (4, .int (bothF (bfF σ (skF σ k name (σ 29) k9) k9 (f1V σ k name (skF σ k name (σ 29) k9) k9) k8) ((skF σ k name (σ 29) k9) ((σ 4 (3 * k9 + k8)).toNatClampNeg)))), (3, .int (nI k9)), (0, .ref mo), (1, .int (nI j3)), (2, .int name)]) hx hb dX8_sought_168 hl (k := 1) rfl (nI_1 _) (by decide) rfl (fun ls hl => ?_)
                    refine lv_goto (tgt := 134) hx hb dX8_sought_171 (by decide) ?_
                    exact ih134 _ (by omega) (lv_sub hl [0, 1, 2, 3, 4, 5] rfl)
                · -- 121 not
                  refine lv_iload hx hb dX8_sought_124 (lv_at hl 0 rfl) ?_
                  refine lv_bipush (v := -2) hx hb dX8_sought_126 (by decide) ?_
                  refine lv_icmp_ne (tgt := 174) hx hb dX8_sought_128 (by decide) (fun c15 => ?_) (fun c15 => ?_)
                  · -- 128 taken
                    have hl9 := lv_sub hl [0, 1, 2, 3, 4] rfl
                    rw [show f1V σ k name (skF σ k name (σ 29) k9) k9 = skV σ k name (skF σ k name (σ 29) k9) k9 from by unfold skV; simp only [eq_false c8, eq_true c11, eq_true c12, eq_false c15, not_true, not_false_iff, not_true_eq_false, not_false_eq_true, true_or, or_true, false_or, or_false, or_self, and_self, true_and, and_true, false_and, and_false, if_true, if_false, sb_cl0]] at hl9
                    exact JL174 _ hl9
                  · -- 128 not
                    refine lv_iconst (v := 0) hx hb dX8_sought_131 (by decide) ?_
                    refine lv_istore (lv' := [(5, .int 0), (4, .int (f1V σ k name (skF σ k name (σ 29) k9) k9)), (3, .int (nI k9)), (0, .ref mo), (1, .int (nI j3)), (2, .int name)]) hx hb dX8_sought_132 hl (by decide) rfl (fun ls hl => ?_)
                    refine w_for (N := (σ 5 k9).toNatClampNeg) 134 (L := fun q9 ls => lv_has ls 6 [(5, .int (nI q9)), (4, .int (bfF σ (skF σ k name (σ 29) k9) k9 (f1V σ k name (skF σ k name (σ 29) k9) k9) q9)), (3, .int (nI k9)), (0, .ref mo), (1, .int (nI j3)), (2, .int name)]) (fun k8 ls hk hL ih134 => ?_) 0 ls (Nat.zero_le _) (hl)
                    have hl := hL
                    have hl : lv_has ls 6 [(5, .int (nI k8)), (4, .int (bfF σ (skF σ k name (σ 29) k9) k9 (f1V σ k name (skF σ k name (σ 29) k9) k9) k8)), (3, .int (nI k9)), (0, .ref mo), (1, .int (nI j3)), (2, .int name)] := hl
                    refine lv_iload hx hb dX8_sought_134 (lv_at hl 0 rfl) ?_
                    refine lv_aload_n hx hb dX8_sought_136 rfl (lv_at hl 3 rfl) ?_
                    refine va_get (D := D) (ci := 8) (v := .ref ((ad 5))) (C := RX8) (T := TX8) (N := 33) hx hb hts iX8 hown hK.1 hP 0 rfl rfl 5 (by decide) (hts _ q_684) (fun _ h9 => h9) rfl dX8_sought_137 ?_
                    refine lv_iload_n hx hb dX8_sought_140 rfl (lv_at hl 2 rfl) ?_
                    refine iald_n (f := σ 5) hx hb hK.1 hP 4 0 rfl rfl (k9) rfl (by omega) (by decide) dX8_sought_141 ?_
                    refine lv_icmp_ge (tgt := 174) hx hb dX8_sought_142 (by decide) (fun c16 => ?_) (fun c16 => ?_)
                    · -- 142 taken
                      have c16 : (σ 5 k9).toNatClampNeg ≤ k8 := (nI_leI (a := (σ 5 k9).toNatClampNeg) (b := k8) (by omega) (by omega)).mp (by have h8 := c16; rw [hfk.1.1] at h8; exact h8)
                      obtain rfl : (σ 5 k9).toNatClampNeg = k8 := by omega
                      have hP : va_P D vwCl (mW G mo ad (st (su σ 0 (0) (0)) 29 (skF σ k name (σ 29) k9)) (τ)) H := hP
                      have hD : va_D A (mW G mo ad (st (su σ 0 (0) (0)) 29 (skF σ k name (σ 29) k9)) (τ)) := hD
                      have hl9 := lv_sub hl [1, 2, 3, 4, 5] rfl
                      rw [show bfF σ (skF σ k name (σ 29) k9) k9 (f1V σ k name (skF σ k name (σ 29) k9) k9) ((σ 5 k9).toNatClampNeg) = skV σ k name (skF σ k name (σ 29) k9) k9 from by unfold skV; simp only [eq_false c8, eq_true c11, eq_true c12, eq_true c15, not_true, not_false_iff, not_true_eq_false, not_false_eq_true, true_or, or_true, false_or, or_false, or_self, and_self, true_and, and_true, false_and, and_false, if_true, if_false, sb_cl0]] at hl9
                      exact JL174 _ hl9
                    · -- 142 not
                      have c16 : ¬ (σ 5 k9).toNatClampNeg ≤ k8 := fun h9 => c16 (by rw [hfk.1.1]; exact (nI_leI (a := (σ 5 k9).toNatClampNeg) (b := k8) (by omega) (by omega)).mpr h9)
                      refine lv_iload hx hb dX8_sought_145 (lv_at hl 1 rfl) ?_
                      refine lv_aload_n hx hb dX8_sought_147 rfl (lv_at hl 3 rfl) ?_
                      refine va_get (D := D) (ci := 8) (v := .ref ((ad 29))) (C := RX8) (T := TX8) (N := 33) hx hb hts iX8 hown hK.1 hP 0 rfl rfl 29 (by decide) (hts _ q_708) (fun _ h9 => h9) rfl dX8_sought_148 ?_
                      refine lv_aload_n hx hb dX8_sought_151 rfl (lv_at hl 3 rfl) ?_
                      refine va_get (D := D) (ci := 8) (v := .ref ((ad 4))) (C := RX8) (T := TX8) (N := 33) hx hb hts iX8 hown hK.1 hP 0 rfl rfl 4 (by decide) (hts _ q_683) (fun _ h9 => h9) rfl dX8_sought_152 ?_
                      refine lv_iconst (v := 3) hx hb dX8_sought_155 (by decide) ?_
                      refine lv_iload_n hx hb dX8_sought_156 rfl (lv_at hl 2 rfl) ?_
                      refine lv_imul hx hb dX8_sought_157 ?_
                      refine lv_iload hx hb dX8_sought_158 (lv_at hl 0 rfl) ?_
                      refine lv_iadd hx hb dX8_sought_160 ?_
                      refine iald_n (f := σ 4) hx hb hK.1 hP 3 0 rfl rfl (((3 * k9) + k8)) (n_add (a := (3 * k9)) (b := k8) (n_mul (a := 3) (b := k9) (rfl : (3 : Int32) = nI 3) rfl) rfl) (by omega) (by decide) dX8_sought_161 ?_
                      have hf4 := hfk.2 k8 (by omega)
                      have hf5 := hek.2 k8 (by omega)
                      refine iald_n (f := skF σ k name (σ 29) k9) hx hb hK.1 hP 23 0 rfl rfl ((σ 4 (3 * k9 + k8)).toNatClampNeg) hf4.1 (by omega) (by decide) dX8_sought_162 ?_
                      refine ro_Si (D := D) (G := G) (As := [.int (bfF σ (skF σ k name (σ 29) k9) k9 (f1V σ k name (skF σ k name (σ 29) k9) k9) k8), .int ((skF σ k name (σ 29) k9) ((σ 4 (3 * k9 + k8)).toNatClampNeg))]) (rest := []) ⟨hx, hb, hml, hown, hts⟩ (m_both l D G _ (bfF σ (skF σ k name (σ 29) k9) k9 (f1V σ k name (skF σ k name (σ 29) k9) k9) k8) ((skF σ k name (σ 29) k9) ((σ 4 (3 * k9 + k8)).toNatClampNeg))) gS_X8_X8_both hdS_X8_both ⟨Nat.le_of_ble_eq_true rfl, Nat.le_of_ble_eq_true rfl⟩ hK rfl hl.1 rfl (Nat.le_of_ble_eq_true rfl) dX8_sought_163 ⟨Nat.le_of_ble_eq_true rfl, Nat.le_of_ble_eq_true rfl⟩ (fun r17 e_r17 => ?_)
                      subst e_r17
                      refine W.eq (g2 := F0 m 166 ls [.int (bothF (bfF σ (skF σ k name (σ 29) k9) k9 (f1V σ k name (skF σ k name (σ 29) k9) k9) k8) ((skF σ k name (σ 29) k9) ((σ 4 (3 * k9 + k8)).toNatClampNeg)))]) rfl ?_
                      refine lv_istore (lv' := [(4, .int (bothF (bfF σ (skF σ k name (σ 29) k9) k9 (f1V σ k name (skF σ k name (σ 29) k9) k9) k8) ((skF σ k name (σ 29) k9) ((σ 4 (3 * k9 + k8)).toNatClampNeg)))), (5, .int (nI k8)), (3, .int (nI k9)), (0, .ref mo), (1, .int (nI j3)), (2, .int name)]) hx hb dX8_sought_166 hl (by decide) rfl (fun ls hl => ?_)
                      refine lv_iinc (v := nI (k8 + 1)) (lv' := [(5, .int (nI (k8 + 1))), (4, .int (bothF (bfF σ (skF σ k name (σ 29) k9) k9 (f1V σ k name (skF σ k name (σ 29) k9) k9) k8) ((skF σ k name (σ 29) k9) ((σ 4 (3 * k9 + k8)).toNatClampNeg)))), (3, .int (nI k9)), (0, .ref mo), (1, .int (nI j3)), (2, .int name)]) hx hb dX8_sought_168 hl (k := 1) rfl (nI_1 _) (by decide) rfl (fun ls hl => ?_)
                      refine lv_goto (tgt := 134) hx hb dX8_sought_171 (by decide) ?_
                      exact ih134 _ (by omega) (lv_sub hl [0, 1, 2, 3, 4, 5] rfl)
              · -- 110 not
                refine lv_iconst (v := 0) hx hb dX8_sought_113 (by decide) ?_
                refine lv_goto (tgt := 119) hx hb dX8_sought_114 (by decide) ?_
                refine iald_n (f := σ 9) hx hb hK.1 hP 7 0 rfl rfl (0) (rfl : (0 : Int32) = nI 0) (by omega) (by decide) dX8_sought_119 ?_
                refine lv_iload_n hx hb dX8_sought_120 rfl (lv_at hl 1 rfl) ?_
                refine lv_icmp_ne (tgt := 131) hx hb dX8_sought_121 (by decide) (fun c18 => ?_) (fun c18 => ?_)
                · -- 121 taken
                  refine lv_iconst (v := 0) hx hb dX8_sought_131 (by decide) ?_
                  refine lv_istore (lv' := [(5, .int 0), (4, .int (f1V σ k name (skF σ k name (σ 29) k9) k9)), (3, .int (nI k9)), (0, .ref mo), (1, .int (nI j3)), (2, .int name)]) hx hb dX8_sought_132 hl (by decide) rfl (fun ls hl => ?_)
                  refine w_for (N := (σ 5 k9).toNatClampNeg) 134 (L := fun q9 ls => lv_has ls 6 [(5, .int (nI q9)), (4, .int (bfF σ (skF σ k name (σ 29) k9) k9 (f1V σ k name (skF σ k name (σ 29) k9) k9) q9)), (3, .int (nI k9)), (0, .ref mo), (1, .int (nI j3)), (2, .int name)]) (fun k8 ls hk hL ih134 => ?_) 0 ls (Nat.zero_le _) (hl)
                  have hl := hL
                  have hl : lv_has ls 6 [(5, .int (nI k8)), (4, .int (bfF σ (skF σ k name (σ 29) k9) k9 (f1V σ k name (skF σ k name (σ 29) k9) k9) k8)), (3, .int (nI k9)), (0, .ref mo), (1, .int (nI j3)), (2, .int name)] := hl
                  refine lv_iload hx hb dX8_sought_134 (lv_at hl 0 rfl) ?_
                  refine lv_aload_n hx hb dX8_sought_136 rfl (lv_at hl 3 rfl) ?_
                  refine va_get (D := D) (ci := 8) (v := .ref ((ad 5))) (C := RX8) (T := TX8) (N := 33) hx hb hts iX8 hown hK.1 hP 0 rfl rfl 5 (by decide) (hts _ q_684) (fun _ h9 => h9) rfl dX8_sought_137 ?_
                  refine lv_iload_n hx hb dX8_sought_140 rfl (lv_at hl 2 rfl) ?_
                  refine iald_n (f := σ 5) hx hb hK.1 hP 4 0 rfl rfl (k9) rfl (by omega) (by decide) dX8_sought_141 ?_
                  refine lv_icmp_ge (tgt := 174) hx hb dX8_sought_142 (by decide) (fun c19 => ?_) (fun c19 => ?_)
                  · -- 142 taken
                    have c19 : (σ 5 k9).toNatClampNeg ≤ k8 := (nI_leI (a := (σ 5 k9).toNatClampNeg) (b := k8) (by omega) (by omega)).mp (by have h8 := c19; rw [hfk.1.1] at h8; exact h8)
                    obtain rfl : (σ 5 k9).toNatClampNeg = k8 := by omega
                    have hP : va_P D vwCl (mW G mo ad (st (su σ 0 (0) (0)) 29 (skF σ k name (σ 29) k9)) (τ)) H := hP
                    have hD : va_D A (mW G mo ad (st (su σ 0 (0) (0)) 29 (skF σ k name (σ 29) k9)) (τ)) := hD
                    have hl9 := lv_sub hl [1, 2, 3, 4, 5] rfl
                    rw [show bfF σ (skF σ k name (σ 29) k9) k9 (f1V σ k name (skF σ k name (σ 29) k9) k9) ((σ 5 k9).toNatClampNeg) = skV σ k name (skF σ k name (σ 29) k9) k9 from by unfold skV; simp only [eq_false c8, eq_false c11, eq_false c18, not_true, not_false_iff, not_true_eq_false, not_false_eq_true, true_or, or_true, false_or, or_false, or_self, and_self, true_and, and_true, false_and, and_false, if_true, if_false, sb_cl0]] at hl9
                    exact JL174 _ hl9
                  · -- 142 not
                    have c19 : ¬ (σ 5 k9).toNatClampNeg ≤ k8 := fun h9 => c19 (by rw [hfk.1.1]; exact (nI_leI (a := (σ 5 k9).toNatClampNeg) (b := k8) (by omega) (by omega)).mpr h9)
                    refine lv_iload hx hb dX8_sought_145 (lv_at hl 1 rfl) ?_
                    refine lv_aload_n hx hb dX8_sought_147 rfl (lv_at hl 3 rfl) ?_
                    refine va_get (D := D) (ci := 8) (v := .ref ((ad 29))) (C := RX8) (T := TX8) (N := 33) hx hb hts iX8 hown hK.1 hP 0 rfl rfl 29 (by decide) (hts _ q_708) (fun _ h9 => h9) rfl dX8_sought_148 ?_
                    refine lv_aload_n hx hb dX8_sought_151 rfl (lv_at hl 3 rfl) ?_
                    refine va_get (D := D) (ci := 8) (v := .ref ((ad 4))) (C := RX8) (T := TX8) (N := 33) hx hb hts iX8 hown hK.1 hP 0 rfl rfl 4 (by decide) (hts _ q_683) (fun _ h9 => h9) rfl dX8_sought_152 ?_
                    refine lv_iconst (v := 3) hx hb dX8_sought_155 (by decide) ?_
                    refine lv_iload_n hx hb dX8_sought_156 rfl (lv_at hl 2 rfl) ?_
                    refine lv_imul hx hb dX8_sought_157 ?_
                    refine lv_iload hx hb dX8_sought_158 (lv_at hl 0 rfl) ?_
                    refine lv_iadd hx hb dX8_sought_160 ?_
                    refine iald_n (f := σ 4) hx hb hK.1 hP 3 0 rfl rfl (((3 * k9) + k8)) (n_add (a := (3 * k9)) (b := k8) (n_mul (a := 3) (b := k9) (rfl : (3 : Int32) = nI 3) rfl) rfl) (by omega) (by decide) dX8_sought_161 ?_
                    have hf4 := hfk.2 k8 (by omega)
                    have hf5 := hek.2 k8 (by omega)
                    refine iald_n (f := skF σ k name (σ 29) k9) hx hb hK.1 hP 23 0 rfl rfl ((σ 4 (3 * k9 + k8)).toNatClampNeg) hf4.1 (by omega) (by decide) dX8_sought_162 ?_
                    refine ro_Si (D := D) (G := G) (As := [.int (bfF σ (skF σ k name (σ 29) k9) k9 (f1V σ k name (skF σ k name (σ 29) k9) k9) k8), .int ((skF σ k name (σ 29) k9) ((σ 4 (3 * k9 + k8)).toNatClampNeg))]) (rest := []) ⟨hx, hb, hml, hown, hts⟩ (m_both l D G _ (bfF σ (skF σ k name (σ 29) k9) k9 (f1V σ k name (skF σ k name (σ 29) k9) k9) k8) ((skF σ k name (σ 29) k9) ((σ 4 (3 * k9 + k8)).toNatClampNeg))) gS_X8_X8_both hdS_X8_both ⟨Nat.le_of_ble_eq_true rfl, Nat.le_of_ble_eq_true rfl⟩ hK rfl hl.1 rfl (Nat.le_of_ble_eq_true rfl) dX8_sought_163 ⟨Nat.le_of_ble_eq_true rfl, Nat.le_of_ble_eq_true rfl⟩ (fun r20 e_r20 => ?_)
                    subst e_r20
                    refine W.eq (g2 := F0 m 166 ls [.int (bothF (bfF σ (skF σ k name (σ 29) k9) k9 (f1V σ k name (skF σ k name (σ 29) k9) k9) k8) ((skF σ k name (σ 29) k9) ((σ 4 (3 * k9 + k8)).toNatClampNeg)))]) rfl ?_
                    refine lv_istore (lv' := [(4, .int (bothF (bfF σ (skF σ k name (σ 29) k9) k9 (f1V σ k name (skF σ k name (σ 29) k9) k9) k8) ((skF σ k name (σ 29) k9) ((σ 4 (3 * k9 + k8)).toNatClampNeg)))), (5, .int (nI k8)), (3, .int (nI k9)), (0, .ref mo), (1, .int (nI j3)), (2, .int name)]) hx hb dX8_sought_166 hl (by decide) rfl (fun ls hl => ?_)
                    refine lv_iinc (v := nI (k8 + 1)) (lv' := [(5, .int (nI (k8 + 1))), (4, .int (bothF (bfF σ (skF σ k name (σ 29) k9) k9 (f1V σ k name (skF σ k name (σ 29) k9) k9) k8) ((skF σ k name (σ 29) k9) ((σ 4 (3 * k9 + k8)).toNatClampNeg)))), (3, .int (nI k9)), (0, .ref mo), (1, .int (nI j3)), (2, .int name)]) hx hb dX8_sought_168 hl (k := 1) rfl (nI_1 _) (by decide) rfl (fun ls hl => ?_)
                    refine lv_goto (tgt := 134) hx hb dX8_sought_171 (by decide) ?_
                    exact ih134 _ (by omega) (lv_sub hl [0, 1, 2, 3, 4, 5] rfl)
                · -- 121 not
                  refine lv_iload hx hb dX8_sought_124 (lv_at hl 0 rfl) ?_
                  refine lv_bipush (v := -2) hx hb dX8_sought_126 (by decide) ?_
                  refine lv_icmp_ne (tgt := 174) hx hb dX8_sought_128 (by decide) (fun c21 => ?_) (fun c21 => ?_)
                  · -- 128 taken
                    have hl9 := lv_sub hl [0, 1, 2, 3, 4] rfl
                    rw [show f1V σ k name (skF σ k name (σ 29) k9) k9 = skV σ k name (skF σ k name (σ 29) k9) k9 from by unfold skV; simp only [eq_false c8, eq_false c11, eq_true c18, eq_false c21, not_true, not_false_iff, not_true_eq_false, not_false_eq_true, true_or, or_true, false_or, or_false, or_self, and_self, true_and, and_true, false_and, and_false, if_true, if_false, sb_cl0]] at hl9
                    exact JL174 _ hl9
                  · -- 128 not
                    refine lv_iconst (v := 0) hx hb dX8_sought_131 (by decide) ?_
                    refine lv_istore (lv' := [(5, .int 0), (4, .int (f1V σ k name (skF σ k name (σ 29) k9) k9)), (3, .int (nI k9)), (0, .ref mo), (1, .int (nI j3)), (2, .int name)]) hx hb dX8_sought_132 hl (by decide) rfl (fun ls hl => ?_)
                    refine w_for (N := (σ 5 k9).toNatClampNeg) 134 (L := fun q9 ls => lv_has ls 6 [(5, .int (nI q9)), (4, .int (bfF σ (skF σ k name (σ 29) k9) k9 (f1V σ k name (skF σ k name (σ 29) k9) k9) q9)), (3, .int (nI k9)), (0, .ref mo), (1, .int (nI j3)), (2, .int name)]) (fun k8 ls hk hL ih134 => ?_) 0 ls (Nat.zero_le _) (hl)
                    have hl := hL
                    have hl : lv_has ls 6 [(5, .int (nI k8)), (4, .int (bfF σ (skF σ k name (σ 29) k9) k9 (f1V σ k name (skF σ k name (σ 29) k9) k9) k8)), (3, .int (nI k9)), (0, .ref mo), (1, .int (nI j3)), (2, .int name)] := hl
                    refine lv_iload hx hb dX8_sought_134 (lv_at hl 0 rfl) ?_
                    refine lv_aload_n hx hb dX8_sought_136 rfl (lv_at hl 3 rfl) ?_
                    refine va_get (D := D) (ci := 8) (v := .ref ((ad 5))) (C := RX8) (T := TX8) (N := 33) hx hb hts iX8 hown hK.1 hP 0 rfl rfl 5 (by decide) (hts _ q_684) (fun _ h9 => h9) rfl dX8_sought_137 ?_
                    refine lv_iload_n hx hb dX8_sought_140 rfl (lv_at hl 2 rfl) ?_
                    refine iald_n (f := σ 5) hx hb hK.1 hP 4 0 rfl rfl (k9) rfl (by omega) (by decide) dX8_sought_141 ?_
                    refine lv_icmp_ge (tgt := 174) hx hb dX8_sought_142 (by decide) (fun c22 => ?_) (fun c22 => ?_)
                    · -- 142 taken
                      have c22 : (σ 5 k9).toNatClampNeg ≤ k8 := (nI_leI (a := (σ 5 k9).toNatClampNeg) (b := k8) (by omega) (by omega)).mp (by have h8 := c22; rw [hfk.1.1] at h8; exact h8)
                      obtain rfl : (σ 5 k9).toNatClampNeg = k8 := by omega
                      have hP : va_P D vwCl (mW G mo ad (st (su σ 0 (0) (0)) 29 (skF σ k name (σ 29) k9)) (τ)) H := hP
                      have hD : va_D A (mW G mo ad (st (su σ 0 (0) (0)) 29 (skF σ k name (σ 29) k9)) (τ)) := hD
                      have hl9 := lv_sub hl [1, 2, 3, 4, 5] rfl
                      rw [show bfF σ (skF σ k name (σ 29) k9) k9 (f1V σ k name (skF σ k name (σ 29) k9) k9) ((σ 5 k9).toNatClampNeg) = skV σ k name (skF σ k name (σ 29) k9) k9 from by unfold skV; simp only [eq_false c8, eq_false c11, eq_true c18, eq_true c21, not_true, not_false_iff, not_true_eq_false, not_false_eq_true, true_or, or_true, false_or, or_false, or_self, and_self, true_and, and_true, false_and, and_false, if_true, if_false, sb_cl0]] at hl9
                      exact JL174 _ hl9
                    · -- 142 not
                      have c22 : ¬ (σ 5 k9).toNatClampNeg ≤ k8 := fun h9 => c22 (by rw [hfk.1.1]; exact (nI_leI (a := (σ 5 k9).toNatClampNeg) (b := k8) (by omega) (by omega)).mpr h9)
                      refine lv_iload hx hb dX8_sought_145 (lv_at hl 1 rfl) ?_
                      refine lv_aload_n hx hb dX8_sought_147 rfl (lv_at hl 3 rfl) ?_
                      refine va_get (D := D) (ci := 8) (v := .ref ((ad 29))) (C := RX8) (T := TX8) (N := 33) hx hb hts iX8 hown hK.1 hP 0 rfl rfl 29 (by decide) (hts _ q_708) (fun _ h9 => h9) rfl dX8_sought_148 ?_
                      refine lv_aload_n hx hb dX8_sought_151 rfl (lv_at hl 3 rfl) ?_
                      refine va_get (D := D) (ci := 8) (v := .ref ((ad 4))) (C := RX8) (T := TX8) (N := 33) hx hb hts iX8 hown hK.1 hP 0 rfl rfl 4 (by decide) (hts _ q_683) (fun _ h9 => h9) rfl dX8_sought_152 ?_
                      refine lv_iconst (v := 3) hx hb dX8_sought_155 (by decide) ?_
                      refine lv_iload_n hx hb dX8_sought_156 rfl (lv_at hl 2 rfl) ?_
                      refine lv_imul hx hb dX8_sought_157 ?_
                      refine lv_iload hx hb dX8_sought_158 (lv_at hl 0 rfl) ?_
                      refine lv_iadd hx hb dX8_sought_160 ?_
                      refine iald_n (f := σ 4) hx hb hK.1 hP 3 0 rfl rfl (((3 * k9) + k8)) (n_add (a := (3 * k9)) (b := k8) (n_mul (a := 3) (b := k9) (rfl : (3 : Int32) = nI 3) rfl) rfl) (by omega) (by decide) dX8_sought_161 ?_
                      have hf4 := hfk.2 k8 (by omega)
                      have hf5 := hek.2 k8 (by omega)
                      refine iald_n (f := skF σ k name (σ 29) k9) hx hb hK.1 hP 23 0 rfl rfl ((σ 4 (3 * k9 + k8)).toNatClampNeg) hf4.1 (by omega) (by decide) dX8_sought_162 ?_
                      refine ro_Si (D := D) (G := G) (As := [.int (bfF σ (skF σ k name (σ 29) k9) k9 (f1V σ k name (skF σ k name (σ 29) k9) k9) k8), .int ((skF σ k name (σ 29) k9) ((σ 4 (3 * k9 + k8)).toNatClampNeg))]) (rest := []) ⟨hx, hb, hml, hown, hts⟩ (m_both l D G _ (bfF σ (skF σ k name (σ 29) k9) k9 (f1V σ k name (skF σ k name (σ 29) k9) k9) k8) ((skF σ k name (σ 29) k9) ((σ 4 (3 * k9 + k8)).toNatClampNeg))) gS_X8_X8_both hdS_X8_both ⟨Nat.le_of_ble_eq_true rfl, Nat.le_of_ble_eq_true rfl⟩ hK rfl hl.1 rfl (Nat.le_of_ble_eq_true rfl) dX8_sought_163 ⟨Nat.le_of_ble_eq_true rfl, Nat.le_of_ble_eq_true rfl⟩ (fun r23 e_r23 => ?_)
                      subst e_r23
                      refine W.eq (g2 := F0 m 166 ls [.int (bothF (bfF σ (skF σ k name (σ 29) k9) k9 (f1V σ k name (skF σ k name (σ 29) k9) k9) k8) ((skF σ k name (σ 29) k9) ((σ 4 (3 * k9 + k8)).toNatClampNeg)))]) rfl ?_
                      refine lv_istore (lv' := [(4, .int (bothF (bfF σ (skF σ k name (σ 29) k9) k9 (f1V σ k name (skF σ k name (σ 29) k9) k9) k8) ((skF σ k name (σ 29) k9) ((σ 4 (3 * k9 + k8)).toNatClampNeg)))), (5, .int (nI k8)), (3, .int (nI k9)), (0, .ref mo), (1, .int (nI j3)), (2, .int name)]) hx hb dX8_sought_166 hl (by decide) rfl (fun ls hl => ?_)
                      refine lv_iinc (v := nI (k8 + 1)) (lv' := [(5, .int (nI (k8 + 1))), (4, .int (bothF (bfF σ (skF σ k name (σ 29) k9) k9 (f1V σ k name (skF σ k name (σ 29) k9) k9) k8) ((skF σ k name (σ 29) k9) ((σ 4 (3 * k9 + k8)).toNatClampNeg)))), (3, .int (nI k9)), (0, .ref mo), (1, .int (nI j3)), (2, .int name)]) hx hb dX8_sought_168 hl (k := 1) rfl (nI_1 _) (by decide) rfl (fun ls hl => ?_)
                      refine lv_goto (tgt := 134) hx hb dX8_sought_171 (by decide) ?_
                      exact ih134 _ (by omega) (lv_sub hl [0, 1, 2, 3, 4, 5] rfl)
        · -- up to the meeting at 98
          refine lv_iload hx hb dX8_sought_44 (lv_at hl 0 rfl) ?_
          refine lv_iconst (v := -1) hx hb dX8_sought_46 (by decide) ?_
          refine lv_icmp_ne (tgt := 98) hx hb dX8_sought_47 (by decide) (fun c24 => ?_) (fun c24 => ?_)
          · -- 47 taken
            have hl9 := lv_sub hl [0, 1, 2, 3, 4] rfl
            rw [show fld σ k (nI k9) name = f1V σ k name (skF σ k name (σ 29) k9) k9 from by unfold f1V; simp only [eq_false c6, eq_false c24, not_true, not_false_iff, not_true_eq_false, not_false_eq_true, true_or, or_true, false_or, or_false, or_self, and_self, true_and, and_true, false_and, and_false, if_true, if_false]] at hl9
            exact JL98 _ hl9
          · -- 47 not
            refine lv_aload_n hx hb dX8_sought_50 rfl (lv_at hl 2 rfl) ?_
            refine va_get (D := D) (ci := 8) (v := .ref ((ad 3))) (C := RX8) (T := TX8) (N := 33) hx hb hts iX8 hown hK.1 hP 0 rfl rfl 3 (by decide) (hts _ q_682) (fun _ h9 => h9) rfl dX8_sought_51 ?_
            refine lv_iload_n hx hb dX8_sought_54 rfl (lv_at hl 1 rfl) ?_
            refine iald_n (f := σ 3) hx hb hK.1 hP 2 0 rfl rfl (k9) rfl (by omega) (by decide) dX8_sought_55 ?_
            refine lv_iconst (v := -1) hx hb dX8_sought_56 (by decide) ?_
            refine lv_icmp_eq (tgt := 98) hx hb dX8_sought_57 (by decide) (fun c25 => ?_) (fun c25 => ?_)
            · -- 57 taken
              have hl9 := lv_sub hl [0, 1, 2, 3, 4] rfl
              rw [show fld σ k (nI k9) name = f1V σ k name (skF σ k name (σ 29) k9) k9 from by unfold f1V; simp only [eq_false c6, eq_true c24, eq_true c25, not_true, not_false_iff, not_true_eq_false, not_false_eq_true, true_or, or_true, false_or, or_false, or_self, and_self, true_and, and_true, false_and, and_false, if_true, if_false]] at hl9
              exact JL98 _ hl9
            · -- 57 not
              have hpk := hpk0 c25
              have hpl := hek.1 c25
              refine lv_aload_n hx hb dX8_sought_60 rfl (lv_at hl 2 rfl) ?_
              refine va_get (D := D) (ci := 8) (v := .ref ((ad 29))) (C := RX8) (T := TX8) (N := 33) hx hb hts iX8 hown hK.1 hP 0 rfl rfl 29 (by decide) (hts _ q_708) (fun _ h9 => h9) rfl dX8_sought_61 ?_
              refine lv_aload_n hx hb dX8_sought_64 rfl (lv_at hl 2 rfl) ?_
              refine va_get (D := D) (ci := 8) (v := .ref ((ad 3))) (C := RX8) (T := TX8) (N := 33) hx hb hts iX8 hown hK.1 hP 0 rfl rfl 3 (by decide) (hts _ q_682) (fun _ h9 => h9) rfl dX8_sought_65 ?_
              refine lv_iload_n hx hb dX8_sought_68 rfl (lv_at hl 1 rfl) ?_
              refine iald_n (f := σ 3) hx hb hK.1 hP 2 0 rfl rfl (k9) rfl (by omega) (by decide) dX8_sought_69 ?_
              refine iald_n (f := skF σ k name (σ 29) k9) hx hb hK.1 hP 23 0 rfl rfl ((σ 3 k9).toNatClampNeg) hpk.1 (by omega) (by decide) dX8_sought_70 ?_
              refine lv_istore (lv' := [(5, .int ((skF σ k name (σ 29) k9) ((σ 3 k9).toNatClampNeg))), (4, .int (fld σ k (nI k9) name)), (3, .int (nI k9)), (0, .ref mo), (1, .int (nI j3)), (2, .int name)]) hx hb dX8_sought_71 hl (by decide) rfl (fun ls hl => ?_)
              refine lv_iload hx hb dX8_sought_73 (lv_at hl 0 rfl) ?_
              refine lv_if_lt (tgt := 94) hx hb dX8_sought_75 (by decide) (fun c26 => ?_) (fun c26 => ?_)
              · -- 75 taken
                refine lv_iload hx hb dX8_sought_94 (lv_at hl 0 rfl) ?_
                refine lv_istore (lv' := [(4, .int ((skF σ k name (σ 29) k9) ((σ 3 k9).toNatClampNeg))), (5, .int ((skF σ k name (σ 29) k9) ((σ 3 k9).toNatClampNeg))), (3, .int (nI k9)), (0, .ref mo), (1, .int (nI j3)), (2, .int name)]) hx hb dX8_sought_96 hl (by decide) rfl (fun ls hl => ?_)
                have hl9 := lv_sub hl [0, 2, 3, 4, 5] rfl
                rw [show (skF σ k name (σ 29) k9) ((σ 3 k9).toNatClampNeg) = f1V σ k name (skF σ k name (σ 29) k9) k9 from by unfold f1V paV; simp only [eq_false c6, eq_true c24, eq_false c25, eq_true c26, not_true, not_false_iff, not_true_eq_false, not_false_eq_true, true_or, or_true, false_or, or_false, or_self, and_self, true_and, and_true, false_and, and_false, if_true, if_false]] at hl9
                exact JL98 _ hl9
              · -- 75 not
                have hvn := okV_n (hsk _ hpl) c26
                refine lv_aload_n hx hb dX8_sought_78 rfl (lv_at hl 3 rfl) ?_
                refine va_get (D := D) (ci := 8) (v := .ref ((ad 13))) (C := RX8) (T := TX8) (N := 33) hx hb hts iX8 hown hK.1 hP 0 rfl rfl 13 (by decide) (hts _ q_692) (fun _ h9 => h9) rfl dX8_sought_79 ?_
                refine lv_iload hx hb dX8_sought_82 (lv_at hl 0 rfl) ?_
                refine iald_n (f := σ 13) hx hb hK.1 hP 11 0 rfl rfl (((skF σ k name (σ 29) k9) ((σ 3 k9).toNatClampNeg)).toNatClampNeg) hvn.1 (by omega) (by decide) dX8_sought_84 ?_
                refine lv_iconst (v := 4) hx hb dX8_sought_85 (by decide) ?_
                refine lv_iand hx hb dX8_sought_86 ?_
                refine lv_if_le (tgt := 94) hx hb dX8_sought_87 (by decide) (fun c27 => ?_) (fun c27 => ?_)
                · -- 87 taken
                  have c27 := and_le (by decide) c27
                  refine lv_iload hx hb dX8_sought_94 (lv_at hl 0 rfl) ?_
                  refine lv_istore (lv' := [(4, .int ((skF σ k name (σ 29) k9) ((σ 3 k9).toNatClampNeg))), (5, .int ((skF σ k name (σ 29) k9) ((σ 3 k9).toNatClampNeg))), (3, .int (nI k9)), (0, .ref mo), (1, .int (nI j3)), (2, .int name)]) hx hb dX8_sought_96 hl (by decide) rfl (fun ls hl => ?_)
                  have hl9 := lv_sub hl [0, 2, 3, 4, 5] rfl
                  rw [show (skF σ k name (σ 29) k9) ((σ 3 k9).toNatClampNeg) = f1V σ k name (skF σ k name (σ 29) k9) k9 from by unfold f1V paV; simp only [eq_false c6, eq_true c24, eq_false c25, eq_false c26, eq_true c27, not_true, not_false_iff, not_true_eq_false, not_false_eq_true, true_or, or_true, false_or, or_false, or_self, and_self, true_and, and_true, false_and, and_false, if_true, if_false]] at hl9
                  exact JL98 _ hl9
                · -- 87 not
                  have c27 := and_nle c27
                  refine lv_iconst (v := -1) hx hb dX8_sought_90 (by decide) ?_
                  refine lv_goto (tgt := 96) hx hb dX8_sought_91 (by decide) ?_
                  refine lv_istore (lv' := [(4, .int ((-1))), (5, .int ((skF σ k name (σ 29) k9) ((σ 3 k9).toNatClampNeg))), (3, .int (nI k9)), (0, .ref mo), (1, .int (nI j3)), (2, .int name)]) hx hb dX8_sought_96 hl (by decide) rfl (fun ls hl => ?_)
                  have hl9 := lv_sub hl [0, 2, 3, 4, 5] rfl
                  rw [show (-1) = f1V σ k name (skF σ k name (σ 29) k9) k9 from by unfold f1V paV; simp only [eq_false c6, eq_true c24, eq_false c25, eq_false c26, eq_false c27, not_true, not_false_iff, not_true_eq_false, not_false_eq_true, true_or, or_true, false_or, or_false, or_self, and_self, true_and, and_true, false_and, and_false, if_true, if_false]] at hl9
                  exact JL98 _ hl9
    · -- 23 not
      have c5 := bI_0 c5
      refine lv_bipush (v := -13) hx hb dX8_sought_26 (by decide) ?_
      have ho : oSought σ τ n k (nI j3) name = ((-13), su σ 0 (0) (0), τ) := by unfold oSought; simp only [eq_true c2, eq_false c5, nI_clamp (show j3 < 2 ^ 31 by omega), not_true, not_false_iff, not_true_eq_false, not_false_eq_true, true_or, or_true, false_or, or_false, or_self, and_self, true_and, and_true, false_and, and_false, if_true, if_false]; try rfl
      exact mu_iret (v0 := (-13)) (z := (su σ 0 (0) (0), τ)) hx hb hr hlocks hP hD hS dX8_sought_28 (by rw [ho]) (by rw [ho])
  · -- 10 not
    have c2 := bI_0 c2
    refine lv_bipush (v := -11) hx hb dX8_sought_13 (by decide) ?_
    have ho : oSought σ τ n k t name = ((-11), su σ 0 (0) (0), τ) := by unfold oSought; simp only [eq_false c2, not_true, not_false_iff, not_true_eq_false, not_false_eq_true, true_or, or_true, false_or, or_false, or_self, and_self, true_and, and_true, false_and, and_false, if_true, if_false]; try rfl
    exact mu_iret (v0 := (-11)) (z := (su σ 0 (0) (0), τ)) hx hb hr hlocks hP hD hS dX8_sought_15 (by rw [ho]) (by rw [ho])
