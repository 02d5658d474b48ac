theorem tt_U {own C owner : String} {idx : Nat} {x y : MethodName} {c : Cond} (h1 : Cond.methodLink own idx x ∈ TT) (h2 : Cond.sameMethod x.cls owner x.name x.desc ∈ TT) (h3 : Cond.selects C x y ∈ TT) (h4 : Cond.instanceMethod y ∈ TT) (h5 : Cond.initialized y.cls ∈ TT) (h6 : c ∈ TT) : GoodIn TT (va_wsU own idx C owner x y (c :: TT)) := tt_good (tt_c h1 (tt_c h2 (tt_c h3 (tt_c h4 (tt_c h5 (tt_c h6 (fun _ h => h)))))))
section RU
variable {p : Program} {l : Launch} {e : Env} {R : Room} {s : State} {m : MethodId} {args : Array Value} {below : List Frame} {meth : Method} {c : Code} {H : Heap} {locs : List Loc} {cells slots : Nat} {Q : State → Prop}
variable {cc : ByteArray} {pc : Nat} {ls : Array Slot} {rest st : List Value} {D : va_G} {G : Nat → ClassId} {x y : MethodName} {bytes : ByteArray} {maxL nL n idx d : Nat} {ret : Option FieldType} {As : List Value} {own C owner : String} {b : Nat}
/-- a method that a class inherits -/
theorem ro_Ui {post : Int32 → Prop} (S : CallFix p m c cc nL s args TT own) (hM : Met l y (.code y bytes maxL ret :: TT) (rmD d) (roP D G H (.ref b :: As)) (vp_Si post) 0 0 (fun _ => False)) (g : GoodIn TT (va_wsU own idx C owner x y (.code y bytes maxL ret :: TT)))
    (hyx : y = ⟨owner, x.name, x.desc⟩) (hd : owner ≠ "java/lang/invoke/MethodHandle" ∧ owner ≠ "java/lang/invoke/VarHandle" ∧ (parseMethodDescriptor x.desc).map (fun d => d.parameters.length) = some n) (hR : d + 1 ≤ R.frames ∧ 8 + (maxL + 11) + 40 * d ≤ R.locals) (hK : KK D G s) (hrv : ∃ cellB : Cell, H[b]? = some cellB ∧ cellB.vm.isStatics = false ∧ s.vm.findClass C = some cellB.cls) (hn : As.length = n) (hsize : ls.size = nL) (hstack : st = As.reverse ++ .ref b :: rest) (hW : (rest.map fun v => v.category).sum ≤ 8) (hdg : decode cc pc = .ok (.invokevirtual idx, 3)) (hc : cells ≤ R.cells ∧ slots ≤ R.slots)
    (kk : ∀ r : Int32, post r → W p l e R s m args below meth c H locs cells slots Q (F0 m (pc + 3) ls (.int r :: rest))) : W p l e R s m args below meth c H locs cells slots Q (F0 m pc ls st) :=
  vp_callSi (va_Run.run (va_runU S hM (va_cwU n S.2.2.2.2 g rfl rfl rfl hyx hd hR) ⟨(ro_pre (As := .ref b :: As) hK).1, hrv, (ro_pre hK).2⟩ rfl hn hsize hstack (lv_room hW) hdg hc)) kk
end RU
def rsb (f g f1 g1 : Nat → Int32) (z z1 n : Nat) : Bool := decide (z = z1 ∧ ∀ j, j < n → f j = f1 j ∧ g j = g1 j)
abbrev rsP (f g f1 g1 : Nat → Int32) (z z1 n : Nat) : Prop := rsb f g f1 g1 z z1 n = true
theorem rsP_def {f g f1 g1 : Nat → Int32} {z z1 n : Nat} : rsP f g f1 g1 z z1 n ↔ (z = z1 ∧ ∀ j, j < n → f j = f1 j ∧ g j = g1 j) := decide_eq_true_iff
theorem rkF_n {f : Nat → Int32} {z j : Nat} (hz : z ≤ 5) (hj : j < z) : rkF f z (nI j) = f j := by
  unfold rkF; rw [if_pos (okN_nI (by omega) hj), nI_clamp (by omega)]
theorem pkF_n {σ : MS} {c e i : Nat} (h : i < mnE σ e) : pkF σ c e i = σ c (5 * e + i) := if_pos h
theorem rs_same {σ : MS} {a b : Nat} (ha : okM σ a) (hb : okM σ b) : rsP (pkF σ 19 a) (pkF σ 20 a) (pkF σ 19 b) (pkF σ 20 b) (mnE σ a) (mnE σ b) (mnE σ a) ↔ sameP σ a b := by
  rw [rsP_def, sameP_def]
  have h18 : σ 18 a = σ 18 b ↔ mnE σ a = mnE σ b := ⟨fun h => by show (σ 18 a).toNatClampNeg = _; rw [h], fun h => by rw [ha.1, hb.1, h]⟩
  constructor
  · rintro ⟨h1, h2⟩
    refine ⟨h18.mpr h1, fun j hj => ?_⟩
    have := h2 j hj
    rw [pkF_n hj, pkF_n (h1 ▸ hj), pkF_n hj, pkF_n (h1 ▸ hj)] at this
    exact this
  · rintro ⟨h1, h2⟩
    refine ⟨h18.mp h1, fun j hj => ?_⟩
    rw [pkF_n hj, pkF_n ((h18.mp h1) ▸ hj), pkF_n hj, pkF_n ((h18.mp h1) ▸ hj)]
    exact h2 j hj
theorem same_sym {σ : MS} {a b : Nat} : sameP σ a b → sameP σ b a := by
  rw [sameP_def, sameP_def]
  rintro ⟨h1, h2⟩
  have hm : mnE σ b = mnE σ a := by show (σ 18 b).toNatClampNeg = _; rw [← h1]
  exact ⟨h1.symm, fun j hj => ⟨(h2 j (hm ▸ hj)).1.symm, (h2 j (hm ▸ hj)).2.symm⟩⟩
theorem same_comm {σ : MS} {a b : Nat} : sameP σ a b ↔ sameP σ b a := ⟨same_sym, same_sym⟩
theorem item_n {j m : Nat} (hj : j < 100) (hm : m ≤ 5) : nI j < nI m - 1 ↔ j < m - 1 := by
  have h1 : (nI m - 1).toInt = (m : Int) - 1 := pk_sub_toInt (a := m) (b := 1) (by omega) (by decide)
  rw [i_lt, h1, n_ti (by omega)]
  omega
theorem lt10 {x : Int32} : x < 10 ↔ x ≤ 9 := by simp only [i_le, i_lt, Int32.reduceToInt]; omega
abbrev kdH (σ : MS) (en p : Nat) (v : Int32) : Prop := (v = 0 → p < mnE σ en) ∧ (¬ v = 0 → 1 ≤ mnE σ en)

theorem dX6_has_0 : decode cX6_has 0 = .ok (.iload_n 1, 1) := by decide +kernel
theorem dX6_has_1 : decode cX6_has 1 = .ok (.ifCond .lt 15, 3) := by decide +kernel
theorem dX6_has_16 : decode cX6_has 16 = .ok (.iconst 0, 1) := by decide +kernel
theorem dX6_has_17 : decode cX6_has 17 = .ok (.ireturn, 1) := by decide +kernel
theorem dX6_has_4 : decode cX6_has 4 = .ok (.iload_n 1, 1) := by decide +kernel
theorem dX6_has_5 : decode cX6_has 5 = .ok (.aload_n 0, 1) := by decide +kernel
theorem q_39 : Cond.fieldLink "FieldMember$Types" 24 "FieldMember$Types" "size" "I" ∈ TT := tt_t (i := 39) (by decide +kernel) (by decide +kernel)
theorem dX6_has_6 : decode cX6_has 6 = .ok (.getfield 24, 3) := by decide +kernel
theorem dX6_has_9 : decode cX6_has 9 = .ok (.if_icmp .ge 7, 3) := by decide +kernel
theorem dX6_has_12 : decode cX6_has 12 = .ok (.iconst 1, 1) := by decide +kernel
theorem dX6_has_13 : decode cX6_has 13 = .ok (.goto 4, 3) := by decide +kernel
theorem dX6_sortOf_0 : decode cX6_sortOf 0 = .ok (.aload_n 0, 1) := by decide +kernel
theorem dX6_sortOf_1 : decode cX6_sortOf 1 = .ok (.iload_n 1, 1) := by decide +kernel
theorem q_120 : Cond.methodLink "FieldMember$Types" 28 ⟨"FieldMember$Types", "has", "(I)Z"⟩ ∈ TT := tt_t (i := 120) (by decide +kernel) (by decide +kernel)
theorem q_123 : Cond.code ⟨"FieldMember$Types", "has", "(I)Z"⟩ prog_8_method_2_code 2 (some .boolean) ∈ TT := tt_t (i := 123) (by decide +kernel) (by decide +kernel)
theorem q_2 : Cond.initialized "FieldMember$Types" ∈ TT := tt_t (i := 2) (by decide +kernel) (by decide +kernel)
theorem q_121 : Cond.instanceMethod ⟨"FieldMember$Types", "has", "(I)Z"⟩ ∈ TT := tt_t (i := 121) (by decide +kernel) (by decide +kernel)
theorem q_122 : Cond.selects "FieldMember$Types" ⟨"FieldMember$Types", "has", "(I)Z"⟩ ⟨"FieldMember$Types", "has", "(I)Z"⟩ ∈ TT := tt_t (i := 122) (by decide +kernel) (by decide +kernel)
theorem gV_X6_X6_has : GoodIn TT (wsV RX6 28 RX6 yX6_has (ww yX6_has cX6_has 2 (some .boolean))) := tt_V q_120 q_121 q_122 q_2 q_123
theorem hdV_X6_has : yX6_has.cls = RX6 ∧ yX6_has.cls ≠ "java/lang/invoke/MethodHandle" ∧ yX6_has.cls ≠ "java/lang/invoke/VarHandle" ∧ (parseMethodDescriptor yX6_has.desc).map (fun d => d.parameters.length) = some 1 := by decide +kernel
theorem dX6_sortOf_2 : decode cX6_sortOf 2 = .ok (.invokevirtual 28, 3) := by decide +kernel
theorem dX6_sortOf_5 : decode cX6_sortOf 5 = .ok (.ifCond .eq 12, 3) := by decide +kernel
theorem dX6_sortOf_17 : decode cX6_sortOf 17 = .ok (.iconst (-1), 1) := by decide +kernel
theorem dX6_sortOf_18 : decode cX6_sortOf 18 = .ok (.ireturn, 1) := by decide +kernel
theorem dX6_sortOf_8 : decode cX6_sortOf 8 = .ok (.aload_n 0, 1) := by decide +kernel
theorem q_35 : Cond.fieldLink "FieldMember$Types" 9 "FieldMember$Types" "sorts" "[I" ∈ TT := tt_t (i := 35) (by decide +kernel) (by decide +kernel)
theorem dX6_sortOf_9 : decode cX6_sortOf 9 = .ok (.getfield 9, 3) := by decide +kernel
theorem dX6_sortOf_12 : decode cX6_sortOf 12 = .ok (.iload_n 1, 1) := by decide +kernel
theorem dX6_sortOf_13 : decode cX6_sortOf 13 = .ok (.iaload, 1) := by decide +kernel
theorem dX6_sortOf_14 : decode cX6_sortOf 14 = .ok (.goto 4, 3) := by decide +kernel
theorem dX6_parentOf_0 : decode cX6_parentOf 0 = .ok (.aload_n 0, 1) := by decide +kernel
theorem dX6_parentOf_1 : decode cX6_parentOf 1 = .ok (.iload_n 1, 1) := by decide +kernel
theorem dX6_parentOf_2 : decode cX6_parentOf 2 = .ok (.invokevirtual 28, 3) := by decide +kernel
theorem dX6_parentOf_5 : decode cX6_parentOf 5 = .ok (.ifCond .eq 12, 3) := by decide +kernel
theorem dX6_parentOf_17 : decode cX6_parentOf 17 = .ok (.iconst (-1), 1) := by decide +kernel
theorem dX6_parentOf_18 : decode cX6_parentOf 18 = .ok (.ireturn, 1) := by decide +kernel
theorem dX6_parentOf_8 : decode cX6_parentOf 8 = .ok (.aload_n 0, 1) := by decide +kernel
theorem q_36 : Cond.fieldLink "FieldMember$Types" 15 "FieldMember$Types" "parents" "[I" ∈ TT := tt_t (i := 36) (by decide +kernel) (by decide +kernel)
theorem dX6_parentOf_9 : decode cX6_parentOf 9 = .ok (.getfield 15, 3) := by decide +kernel
theorem dX6_parentOf_12 : decode cX6_parentOf 12 = .ok (.iload_n 1, 1) := by decide +kernel
theorem dX6_parentOf_13 : decode cX6_parentOf 13 = .ok (.iaload, 1) := by decide +kernel
theorem dX6_parentOf_14 : decode cX6_parentOf 14 = .ok (.goto 4, 3) := by decide +kernel
theorem dX6_isFace_0 : decode cX6_isFace 0 = .ok (.aload_n 0, 1) := by decide +kernel
theorem dX6_isFace_1 : decode cX6_isFace 1 = .ok (.iload_n 1, 1) := by decide +kernel
theorem q_116 : Cond.methodLink "FieldMember$Types" 32 ⟨"FieldMember$Types", "sortOf", "(I)I"⟩ ∈ TT := tt_t (i := 116) (by decide +kernel) (by decide +kernel)
theorem q_119 : Cond.code ⟨"FieldMember$Types", "sortOf", "(I)I"⟩ prog_8_method_3_code 2 (some .int) ∈ TT := tt_t (i := 119) (by decide +kernel) (by decide +kernel)
theorem q_117 : Cond.instanceMethod ⟨"FieldMember$Types", "sortOf", "(I)I"⟩ ∈ TT := tt_t (i := 117) (by decide +kernel) (by decide +kernel)
theorem q_118 : Cond.selects "FieldMember$Types" ⟨"FieldMember$Types", "sortOf", "(I)I"⟩ ⟨"FieldMember$Types", "sortOf", "(I)I"⟩ ∈ TT := tt_t (i := 118) (by decide +kernel) (by decide +kernel)
theorem gV_X6_X6_sortOf : GoodIn TT (wsV RX6 32 RX6 yX6_sortOf (ww yX6_sortOf cX6_sortOf 2 (some .int))) := tt_V q_116 q_117 q_118 q_2 q_119
theorem hdV_X6_sortOf : yX6_sortOf.cls = RX6 ∧ yX6_sortOf.cls ≠ "java/lang/invoke/MethodHandle" ∧ yX6_sortOf.cls ≠ "java/lang/invoke/VarHandle" ∧ (parseMethodDescriptor yX6_sortOf.desc).map (fun d => d.parameters.length) = some 1 := by decide +kernel
theorem dX6_isFace_2 : decode cX6_isFace 2 = .ok (.invokevirtual 32, 3) := by decide +kernel
theorem dX6_isFace_5 : decode cX6_isFace 5 = .ok (.iconst 3, 1) := by decide +kernel
theorem dX6_isFace_6 : decode cX6_isFace 6 = .ok (.if_icmp .ne 7, 3) := by decide +kernel
theorem dX6_isFace_13 : decode cX6_isFace 13 = .ok (.iconst 0, 1) := by decide +kernel
theorem dX6_isFace_14 : decode cX6_isFace 14 = .ok (.ireturn, 1) := by decide +kernel
theorem dX6_isFace_9 : decode cX6_isFace 9 = .ok (.iconst 1, 1) := by decide +kernel
theorem dX6_isFace_10 : decode cX6_isFace 10 = .ok (.goto 4, 3) := by decide +kernel
theorem dX6_mayBeParent_0 : decode cX6_mayBeParent 0 = .ok (.aload_n 0, 1) := by decide +kernel
theorem dX6_mayBeParent_1 : decode cX6_mayBeParent 1 = .ok (.iload_n 1, 1) := by decide +kernel
theorem dX6_mayBeParent_2 : decode cX6_mayBeParent 2 = .ok (.invokevirtual 32, 3) := by decide +kernel
theorem dX6_mayBeParent_5 : decode cX6_mayBeParent 5 = .ok (.ifCond .eq 12, 3) := by decide +kernel
theorem dX6_mayBeParent_17 : decode cX6_mayBeParent 17 = .ok (.iconst 1, 1) := by decide +kernel
theorem dX6_mayBeParent_18 : decode cX6_mayBeParent 18 = .ok (.goto 4, 3) := by decide +kernel
theorem dX6_mayBeParent_22 : decode cX6_mayBeParent 22 = .ok (.ireturn, 1) := by decide +kernel
theorem dX6_mayBeParent_8 : decode cX6_mayBeParent 8 = .ok (.aload_n 0, 1) := by decide +kernel
theorem dX6_mayBeParent_9 : decode cX6_mayBeParent 9 = .ok (.iload_n 1, 1) := by decide +kernel
theorem dX6_mayBeParent_10 : decode cX6_mayBeParent 10 = .ok (.invokevirtual 32, 3) := by decide +kernel
theorem dX6_mayBeParent_13 : decode cX6_mayBeParent 13 = .ok (.iconst 1, 1) := by decide +kernel
theorem dX6_mayBeParent_14 : decode cX6_mayBeParent 14 = .ok (.if_icmp .ne 7, 3) := by decide +kernel
theorem dX6_mayBeParent_21 : decode cX6_mayBeParent 21 = .ok (.iconst 0, 1) := by decide +kernel
theorem dX6_mustLackNothing_0 : decode cX6_mustLackNothing 0 = .ok (.aload_n 0, 1) := by decide +kernel
theorem dX6_mustLackNothing_1 : decode cX6_mustLackNothing 1 = .ok (.iload_n 1, 1) := by decide +kernel
theorem dX6_mustLackNothing_2 : decode cX6_mustLackNothing 2 = .ok (.invokevirtual 32, 3) := by decide +kernel
theorem dX6_mustLackNothing_5 : decode cX6_mustLackNothing 5 = .ok (.ifCond .eq 12, 3) := by decide +kernel
theorem dX6_mustLackNothing_17 : decode cX6_mustLackNothing 17 = .ok (.iconst 1, 1) := by decide +kernel
theorem dX6_mustLackNothing_18 : decode cX6_mustLackNothing 18 = .ok (.goto 4, 3) := by decide +kernel
theorem dX6_mustLackNothing_22 : decode cX6_mustLackNothing 22 = .ok (.ireturn, 1) := by decide +kernel
theorem dX6_mustLackNothing_8 : decode cX6_mustLackNothing 8 = .ok (.aload_n 0, 1) := by decide +kernel
theorem dX6_mustLackNothing_9 : decode cX6_mustLackNothing 9 = .ok (.iload_n 1, 1) := by decide +kernel
theorem dX6_mustLackNothing_10 : decode cX6_mustLackNothing 10 = .ok (.invokevirtual 32, 3) := by decide +kernel
theorem dX6_mustLackNothing_13 : decode cX6_mustLackNothing 13 = .ok (.iconst 2, 1) := by decide +kernel
theorem dX6_mustLackNothing_14 : decode cX6_mustLackNothing 14 = .ok (.if_icmp .ne 7, 3) := by decide +kernel
theorem dX6_mustLackNothing_21 : decode cX6_mustLackNothing 21 = .ok (.iconst 0, 1) := by decide +kernel
theorem dX6_hasFace_0 : decode cX6_hasFace 0 = .ok (.aload_n 0, 1) := by decide +kernel
theorem dX6_hasFace_1 : decode cX6_hasFace 1 = .ok (.iload_n 1, 1) := by decide +kernel
theorem dX6_hasFace_2 : decode cX6_hasFace 2 = .ok (.invokevirtual 28, 3) := by decide +kernel
theorem dX6_hasFace_5 : decode cX6_hasFace 5 = .ok (.ifCond .eq 29, 3) := by decide +kernel
theorem dX6_hasFace_34 : decode cX6_hasFace 34 = .ok (.iconst 0, 1) := by decide +kernel
theorem dX6_hasFace_35 : decode cX6_hasFace 35 = .ok (.ireturn, 1) := by decide +kernel
theorem dX6_hasFace_8 : decode cX6_hasFace 8 = .ok (.aload_n 0, 1) := by decide +kernel
theorem dX6_hasFace_9 : decode cX6_hasFace 9 = .ok (.iload_n 2, 1) := by decide +kernel
theorem dX6_hasFace_10 : decode cX6_hasFace 10 = .ok (.invokevirtual 28, 3) := by decide +kernel
theorem dX6_hasFace_13 : decode cX6_hasFace 13 = .ok (.ifCond .eq 21, 3) := by decide +kernel
theorem dX6_hasFace_16 : decode cX6_hasFace 16 = .ok (.aload_n 0, 1) := by decide +kernel
theorem q_37 : Cond.fieldLink "FieldMember$Types" 18 "FieldMember$Types" "faces" "[I" ∈ TT := tt_t (i := 37) (by decide +kernel) (by decide +kernel)
theorem dX6_hasFace_17 : decode cX6_hasFace 17 = .ok (.getfield 18, 3) := by decide +kernel
theorem dX6_hasFace_20 : decode cX6_hasFace 20 = .ok (.iload_n 1, 1) := by decide +kernel
theorem dX6_hasFace_21 : decode cX6_hasFace 21 = .ok (.iaload, 1) := by decide +kernel
theorem dX6_hasFace_22 : decode cX6_hasFace 22 = .ok (.iload_n 2, 1) := by decide +kernel
theorem dX6_hasFace_23 : decode cX6_hasFace 23 = .ok (.ishr, 1) := by decide +kernel
theorem dX6_hasFace_24 : decode cX6_hasFace 24 = .ok (.iconst 1, 1) := by decide +kernel
theorem dX6_hasFace_25 : decode cX6_hasFace 25 = .ok (.iand, 1) := by decide +kernel
theorem dX6_hasFace_26 : decode cX6_hasFace 26 = .ok (.iconst 1, 1) := by decide +kernel
theorem dX6_hasFace_27 : decode cX6_hasFace 27 = .ok (.if_icmp .ne 7, 3) := by decide +kernel
theorem dX6_hasFace_30 : decode cX6_hasFace 30 = .ok (.iconst 1, 1) := by decide +kernel
theorem dX6_hasFace_31 : decode cX6_hasFace 31 = .ok (.goto 4, 3) := by decide +kernel
theorem dX6_isBelow_0 : decode cX6_isBelow 0 = .ok (.iload_n 1, 1) := by decide +kernel
theorem dX6_isBelow_1 : decode cX6_isBelow 1 = .ok (.ifCond .lt 41, 3) := by decide +kernel
theorem dX6_isBelow_42 : decode cX6_isBelow 42 = .ok (.iconst 0, 1) := by decide +kernel
theorem dX6_isBelow_43 : decode cX6_isBelow 43 = .ok (.ireturn, 1) := by decide +kernel
theorem dX6_isBelow_4 : decode cX6_isBelow 4 = .ok (.iload_n 1, 1) := by decide +kernel
theorem dX6_isBelow_5 : decode cX6_isBelow 5 = .ok (.aload_n 0, 1) := by decide +kernel
theorem dX6_isBelow_6 : decode cX6_isBelow 6 = .ok (.getfield 24, 3) := by decide +kernel
theorem dX6_isBelow_9 : decode cX6_isBelow 9 = .ok (.if_icmp .ge 33, 3) := by decide +kernel
theorem dX6_isBelow_12 : decode cX6_isBelow 12 = .ok (.iload_n 2, 1) := by decide +kernel
theorem dX6_isBelow_13 : decode cX6_isBelow 13 = .ok (.ifCond .lt 29, 3) := by decide +kernel
theorem dX6_isBelow_16 : decode cX6_isBelow 16 = .ok (.iload_n 2, 1) := by decide +kernel
theorem dX6_isBelow_17 : decode cX6_isBelow 17 = .ok (.aload_n 0, 1) := by decide +kernel
theorem dX6_isBelow_18 : decode cX6_isBelow 18 = .ok (.getfield 24, 3) := by decide +kernel
theorem dX6_isBelow_21 : decode cX6_isBelow 21 = .ok (.if_icmp .ge 21, 3) := by decide +kernel
theorem dX6_isBelow_24 : decode cX6_isBelow 24 = .ok (.aload_n 0, 1) := by decide +kernel
theorem q_38 : Cond.fieldLink "FieldMember$Types" 21 "FieldMember$Types" "above" "[I" ∈ TT := tt_t (i := 38) (by decide +kernel) (by decide +kernel)
theorem dX6_isBelow_25 : decode cX6_isBelow 25 = .ok (.getfield 21, 3) := by decide +kernel
theorem dX6_isBelow_28 : decode cX6_isBelow 28 = .ok (.iload_n 1, 1) := by decide +kernel
theorem dX6_isBelow_29 : decode cX6_isBelow 29 = .ok (.iaload, 1) := by decide +kernel
theorem dX6_isBelow_30 : decode cX6_isBelow 30 = .ok (.iload_n 2, 1) := by decide +kernel
theorem dX6_isBelow_31 : decode cX6_isBelow 31 = .ok (.ishr, 1) := by decide +kernel
theorem dX6_isBelow_32 : decode cX6_isBelow 32 = .ok (.iconst 1, 1) := by decide +kernel
theorem dX6_isBelow_33 : decode cX6_isBelow 33 = .ok (.iand, 1) := by decide +kernel
theorem dX6_isBelow_34 : decode cX6_isBelow 34 = .ok (.iconst 1, 1) := by decide +kernel
theorem dX6_isBelow_35 : decode cX6_isBelow 35 = .ok (.if_icmp .ne 7, 3) := by decide +kernel
theorem dX6_isBelow_38 : decode cX6_isBelow 38 = .ok (.iconst 1, 1) := by decide +kernel
theorem dX6_isBelow_39 : decode cX6_isBelow 39 = .ok (.goto 4, 3) := by decide +kernel
theorem dX4_isFull_0 : decode cX4_isFull 0 = .ok (.aload_n 0, 1) := by decide +kernel
theorem q_63 : Cond.fieldLink "FieldMember$Row" 18 "FieldMember$Row" "size" "I" ∈ TT := tt_t (i := 63) (by decide +kernel) (by decide +kernel)
theorem dX4_isFull_1 : decode cX4_isFull 1 = .ok (.getfield 18, 3) := by decide +kernel
theorem dX4_isFull_4 : decode cX4_isFull 4 = .ok (.iconst 5, 1) := by decide +kernel
theorem dX4_isFull_5 : decode cX4_isFull 5 = .ok (.if_icmp .lt 7, 3) := by decide +kernel
theorem dX4_isFull_12 : decode cX4_isFull 12 = .ok (.iconst 0, 1) := by decide +kernel
theorem dX4_isFull_13 : decode cX4_isFull 13 = .ok (.ireturn, 1) := by decide +kernel
theorem dX4_isFull_8 : decode cX4_isFull 8 = .ok (.iconst 1, 1) := by decide +kernel
theorem dX4_isFull_9 : decode cX4_isFull 9 = .ok (.goto 4, 3) := by decide +kernel
theorem dX4_kindAt_0 : decode cX4_kindAt 0 = .ok (.iload_n 1, 1) := by decide +kernel
theorem dX4_kindAt_1 : decode cX4_kindAt 1 = .ok (.ifCond .lt 20, 3) := by decide +kernel
theorem dX4_kindAt_21 : decode cX4_kindAt 21 = .ok (.iconst (-1), 1) := by decide +kernel
theorem dX4_kindAt_22 : decode cX4_kindAt 22 = .ok (.ireturn, 1) := by decide +kernel
theorem dX4_kindAt_4 : decode cX4_kindAt 4 = .ok (.iload_n 1, 1) := by decide +kernel
theorem dX4_kindAt_5 : decode cX4_kindAt 5 = .ok (.aload_n 0, 1) := by decide +kernel
theorem dX4_kindAt_6 : decode cX4_kindAt 6 = .ok (.getfield 18, 3) := by decide +kernel
theorem dX4_kindAt_9 : decode cX4_kindAt 9 = .ok (.if_icmp .ge 12, 3) := by decide +kernel
theorem dX4_kindAt_12 : decode cX4_kindAt 12 = .ok (.aload_n 0, 1) := by decide +kernel
theorem q_61 : Cond.fieldLink "FieldMember$Row" 9 "FieldMember$Row" "kinds" "[I" ∈ TT := tt_t (i := 61) (by decide +kernel) (by decide +kernel)
theorem dX4_kindAt_13 : decode cX4_kindAt 13 = .ok (.getfield 9, 3) := by decide +kernel
theorem dX4_kindAt_16 : decode cX4_kindAt 16 = .ok (.iload_n 1, 1) := by decide +kernel
theorem dX4_kindAt_17 : decode cX4_kindAt 17 = .ok (.iaload, 1) := by decide +kernel
theorem dX4_kindAt_18 : decode cX4_kindAt 18 = .ok (.goto 4, 3) := by decide +kernel
theorem dX4_dimsAt_0 : decode cX4_dimsAt 0 = .ok (.iload_n 1, 1) := by decide +kernel
theorem dX4_dimsAt_1 : decode cX4_dimsAt 1 = .ok (.ifCond .lt 20, 3) := by decide +kernel
theorem dX4_dimsAt_21 : decode cX4_dimsAt 21 = .ok (.iconst (-1), 1) := by decide +kernel
theorem dX4_dimsAt_22 : decode cX4_dimsAt 22 = .ok (.ireturn, 1) := by decide +kernel
theorem dX4_dimsAt_4 : decode cX4_dimsAt 4 = .ok (.iload_n 1, 1) := by decide +kernel
theorem dX4_dimsAt_5 : decode cX4_dimsAt 5 = .ok (.aload_n 0, 1) := by decide +kernel
theorem dX4_dimsAt_6 : decode cX4_dimsAt 6 = .ok (.getfield 18, 3) := by decide +kernel
theorem dX4_dimsAt_9 : decode cX4_dimsAt 9 = .ok (.if_icmp .ge 12, 3) := by decide +kernel
theorem dX4_dimsAt_12 : decode cX4_dimsAt 12 = .ok (.aload_n 0, 1) := by decide +kernel
theorem q_62 : Cond.fieldLink "FieldMember$Row" 15 "FieldMember$Row" "dims" "[I" ∈ TT := tt_t (i := 62) (by decide +kernel) (by decide +kernel)
theorem dX4_dimsAt_13 : decode cX4_dimsAt 13 = .ok (.getfield 15, 3) := by decide +kernel
theorem dX4_dimsAt_16 : decode cX4_dimsAt 16 = .ok (.iload_n 1, 1) := by decide +kernel
theorem dX4_dimsAt_17 : decode cX4_dimsAt 17 = .ok (.iaload, 1) := by decide +kernel
theorem dX4_dimsAt_18 : decode cX4_dimsAt 18 = .ok (.goto 4, 3) := by decide +kernel
theorem dX4_isSame_0 : decode cX4_isSame 0 = .ok (.aload_n 0, 1) := by decide +kernel
theorem dX4_isSame_1 : decode cX4_isSame 1 = .ok (.getfield 18, 3) := by decide +kernel
theorem dX4_isSame_4 : decode cX4_isSame 4 = .ok (.aload_n 1, 1) := by decide +kernel
theorem dX4_isSame_5 : decode cX4_isSame 5 = .ok (.getfield 18, 3) := by decide +kernel
theorem dX4_isSame_8 : decode cX4_isSame 8 = .ok (.if_icmp .eq 5, 3) := by decide +kernel
theorem dX4_isSame_13 : decode cX4_isSame 13 = .ok (.iconst 0, 1) := by decide +kernel
theorem dX4_isSame_14 : decode cX4_isSame 14 = .ok (.istore_n 2, 1) := by decide +kernel
theorem dX4_isSame_15 : decode cX4_isSame 15 = .ok (.iload_n 2, 1) := by decide +kernel
theorem dX4_isSame_16 : decode cX4_isSame 16 = .ok (.aload_n 0, 1) := by decide +kernel
theorem dX4_isSame_17 : decode cX4_isSame 17 = .ok (.getfield 18, 3) := by decide +kernel
theorem dX4_isSame_20 : decode cX4_isSame 20 = .ok (.if_icmp .ge 37, 3) := by decide +kernel
theorem dX4_isSame_57 : decode cX4_isSame 57 = .ok (.iconst 1, 1) := by decide +kernel
theorem dX4_isSame_58 : decode cX4_isSame 58 = .ok (.ireturn, 1) := by decide +kernel
theorem dX4_isSame_23 : decode cX4_isSame 23 = .ok (.aload_n 0, 1) := by decide +kernel
theorem dX4_isSame_24 : decode cX4_isSame 24 = .ok (.iload_n 2, 1) := by decide +kernel
theorem q_368 : Cond.methodLink "FieldMember$Row" 26 ⟨"FieldMember$Row", "kindAt", "(I)I"⟩ ∈ TT := tt_t (i := 368) (by decide +kernel) (by decide +kernel)
theorem q_371 : Cond.code ⟨"FieldMember$Row", "kindAt", "(I)I"⟩ prog_6_method_5_code 2 (some .int) ∈ TT := tt_t (i := 371) (by decide +kernel) (by decide +kernel)
theorem q_3 : Cond.initialized "FieldMember$Row" ∈ TT := tt_t (i := 3) (by decide +kernel) (by decide +kernel)
theorem q_369 : Cond.instanceMethod ⟨"FieldMember$Row", "kindAt", "(I)I"⟩ ∈ TT := tt_t (i := 369) (by decide +kernel) (by decide +kernel)
theorem q_370 : Cond.selects "FieldMember$Row" ⟨"FieldMember$Row", "kindAt", "(I)I"⟩ ⟨"FieldMember$Row", "kindAt", "(I)I"⟩ ∈ TT := tt_t (i := 370) (by decide +kernel) (by decide +kernel)
theorem gV_X4_X4_kindAt : GoodIn TT (wsV RX4 26 RX4 yX4_kindAt (ww yX4_kindAt cX4_kindAt 2 (some .int))) := tt_V q_368 q_369 q_370 q_3 q_371
theorem hdV_X4_kindAt : yX4_kindAt.cls = RX4 ∧ yX4_kindAt.cls ≠ "java/lang/invoke/MethodHandle" ∧ yX4_kindAt.cls ≠ "java/lang/invoke/VarHandle" ∧ (parseMethodDescriptor yX4_kindAt.desc).map (fun d => d.parameters.length) = some 1 := by decide +kernel
theorem dX4_isSame_25 : decode cX4_isSame 25 = .ok (.invokevirtual 26, 3) := by decide +kernel
theorem dX4_isSame_28 : decode cX4_isSame 28 = .ok (.aload_n 1, 1) := by decide +kernel
theorem dX4_isSame_29 : decode cX4_isSame 29 = .ok (.iload_n 2, 1) := by decide +kernel
theorem dX4_isSame_30 : decode cX4_isSame 30 = .ok (.invokevirtual 26, 3) := by decide +kernel
theorem dX4_isSame_33 : decode cX4_isSame 33 = .ok (.if_icmp .ne 16, 3) := by decide +kernel
theorem dX4_isSame_49 : decode cX4_isSame 49 = .ok (.iconst 0, 1) := by decide +kernel
theorem dX4_isSame_50 : decode cX4_isSame 50 = .ok (.ireturn, 1) := by decide +kernel
theorem dX4_isSame_36 : decode cX4_isSame 36 = .ok (.aload_n 0, 1) := by decide +kernel
theorem dX4_isSame_37 : decode cX4_isSame 37 = .ok (.iload_n 2, 1) := by decide +kernel
theorem q_372 : Cond.methodLink "FieldMember$Row" 30 ⟨"FieldMember$Row", "dimsAt", "(I)I"⟩ ∈ TT := tt_t (i := 372) (by decide +kernel) (by decide +kernel)
theorem q_375 : Cond.code ⟨"FieldMember$Row", "dimsAt", "(I)I"⟩ prog_6_method_6_code 2 (some .int) ∈ TT := tt_t (i := 375) (by decide +kernel) (by decide +kernel)
theorem q_373 : Cond.instanceMethod ⟨"FieldMember$Row", "dimsAt", "(I)I"⟩ ∈ TT := tt_t (i := 373) (by decide +kernel) (by decide +kernel)
theorem q_374 : Cond.selects "FieldMember$Row" ⟨"FieldMember$Row", "dimsAt", "(I)I"⟩ ⟨"FieldMember$Row", "dimsAt", "(I)I"⟩ ∈ TT := tt_t (i := 374) (by decide +kernel) (by decide +kernel)
theorem gV_X4_X4_dimsAt : GoodIn TT (wsV RX4 30 RX4 yX4_dimsAt (ww yX4_dimsAt cX4_dimsAt 2 (some .int))) := tt_V q_372 q_373 q_374 q_3 q_375
theorem hdV_X4_dimsAt : yX4_dimsAt.cls = RX4 ∧ yX4_dimsAt.cls ≠ "java/lang/invoke/MethodHandle" ∧ yX4_dimsAt.cls ≠ "java/lang/invoke/VarHandle" ∧ (parseMethodDescriptor yX4_dimsAt.desc).map (fun d => d.parameters.length) = some 1 := by decide +kernel
theorem dX4_isSame_38 : decode cX4_isSame 38 = .ok (.invokevirtual 30, 3) := by decide +kernel
theorem dX4_isSame_41 : decode cX4_isSame 41 = .ok (.aload_n 1, 1) := by decide +kernel
theorem dX4_isSame_42 : decode cX4_isSame 42 = .ok (.iload_n 2, 1) := by decide +kernel
theorem dX4_isSame_43 : decode cX4_isSame 43 = .ok (.invokevirtual 30, 3) := by decide +kernel
theorem dX4_isSame_46 : decode cX4_isSame 46 = .ok (.if_icmp .eq 5, 3) := by decide +kernel
theorem dX4_isSame_51 : decode cX4_isSame 51 = .ok (.iinc 2 1, 3) := by decide +kernel
theorem dX4_isSame_54 : decode cX4_isSame 54 = .ok (.goto (-39), 3) := by decide +kernel
theorem dX4_isSame_11 : decode cX4_isSame 11 = .ok (.iconst 0, 1) := by decide +kernel
theorem dX4_isSame_12 : decode cX4_isSame 12 = .ok (.ireturn, 1) := by decide +kernel
theorem dX1_hasAny_0 : decode cX1_hasAny 0 = .ok (.aload_n 0, 1) := by decide +kernel
theorem q_240 : Cond.fieldLink "FieldMember$Entry" 22 "FieldMember$Entry" "marks" "I" ∈ TT := tt_t (i := 240) (by decide +kernel) (by decide +kernel)
theorem dX1_hasAny_1 : decode cX1_hasAny 1 = .ok (.getfield 22, 3) := by decide +kernel
theorem dX1_hasAny_4 : decode cX1_hasAny 4 = .ok (.iload_n 1, 1) := by decide +kernel
theorem dX1_hasAny_5 : decode cX1_hasAny 5 = .ok (.iand, 1) := by decide +kernel
theorem dX1_hasAny_6 : decode cX1_hasAny 6 = .ok (.ifCond .eq 7, 3) := by decide +kernel
theorem dX1_hasAny_13 : decode cX1_hasAny 13 = .ok (.iconst 0, 1) := by decide +kernel
theorem dX1_hasAny_14 : decode cX1_hasAny 14 = .ok (.ireturn, 1) := by decide +kernel
theorem dX1_hasAny_9 : decode cX1_hasAny 9 = .ok (.iconst 1, 1) := by decide +kernel
theorem dX1_hasAny_10 : decode cX1_hasAny 10 = .ok (.goto 4, 3) := by decide +kernel
theorem dX2_mayHaveConstant_0 : decode cX2_mayHaveConstant 0 = .ok (.aload_n 0, 1) := by decide +kernel
theorem dX2_mayHaveConstant_1 : decode cX2_mayHaveConstant 1 = .ok (.bipush 16, 2) := by decide +kernel
theorem q_275 : Cond.methodLink "FieldMember$Field" 9 ⟨"FieldMember$Field", "hasAny", "(I)Z"⟩ ∈ TT := tt_t (i := 275) (by decide +kernel) (by decide +kernel)
theorem q_276 : Cond.sameMethod "FieldMember$Field" "FieldMember$Entry" "hasAny" "(I)Z" ∈ TT := tt_t (i := 276) (by decide +kernel) (by decide +kernel)
theorem q_278 : Cond.selects "FieldMember$Field" ⟨"FieldMember$Field", "hasAny", "(I)Z"⟩ ⟨"FieldMember$Entry", "hasAny", "(I)Z"⟩ ∈ TT := tt_t (i := 278) (by decide +kernel) (by decide +kernel)
theorem q_279 : Cond.instanceMethod ⟨"FieldMember$Entry", "hasAny", "(I)Z"⟩ ∈ TT := tt_t (i := 279) (by decide +kernel) (by decide +kernel)
theorem q_7 : Cond.initialized "FieldMember$Entry" ∈ TT := tt_t (i := 7) (by decide +kernel) (by decide +kernel)
theorem q_280 : Cond.code ⟨"FieldMember$Entry", "hasAny", "(I)Z"⟩ prog_3_method_2_code 2 (some .boolean) ∈ TT := tt_t (i := 280) (by decide +kernel) (by decide +kernel)
theorem gU_X2_9_X2 : GoodIn TT (va_wsU RX2 9 RX2 "FieldMember$Entry" ⟨"FieldMember$Field", "hasAny", "(I)Z"⟩ yX1_hasAny (ww yX1_hasAny cX1_hasAny 2 (some .boolean))) := tt_U q_275 q_276 q_278 q_279 q_7 q_280
theorem dX2_mayHaveConstant_3 : decode cX2_mayHaveConstant 3 = .ok (.invokevirtual 9, 3) := by decide +kernel
theorem dX2_mayHaveConstant_6 : decode cX2_mayHaveConstant 6 = .ok (.ifCond .eq 31, 3) := by decide +kernel
theorem dX2_mayHaveConstant_37 : decode cX2_mayHaveConstant 37 = .ok (.iconst 0, 1) := by decide +kernel
theorem dX2_mayHaveConstant_38 : decode cX2_mayHaveConstant 38 = .ok (.ireturn, 1) := by decide +kernel
theorem dX2_mayHaveConstant_9 : decode cX2_mayHaveConstant 9 = .ok (.aload_n 0, 1) := by decide +kernel
theorem q_236 : Cond.sameField "FieldMember$Field" "FieldMember$Entry" "dims" "I" ∈ TT := tt_t (i := 236) (by decide +kernel) (by decide +kernel)
theorem q_235 : Cond.fieldLink "FieldMember$Field" 15 "FieldMember$Field" "dims" "I" ∈ TT := tt_t (i := 235) (by decide +kernel) (by decide +kernel)
theorem dX2_mayHaveConstant_10 : decode cX2_mayHaveConstant 10 = .ok (.getfield 15, 3) := by decide +kernel
theorem dX2_mayHaveConstant_13 : decode cX2_mayHaveConstant 13 = .ok (.ifCond .ne 24, 3) := by decide +kernel
theorem dX2_mayHaveConstant_16 : decode cX2_mayHaveConstant 16 = .ok (.aload_n 0, 1) := by decide +kernel
theorem q_229 : Cond.sameField "FieldMember$Field" "FieldMember$Entry" "kind" "I" ∈ TT := tt_t (i := 229) (by decide +kernel) (by decide +kernel)
theorem q_228 : Cond.fieldLink "FieldMember$Field" 19 "FieldMember$Field" "kind" "I" ∈ TT := tt_t (i := 228) (by decide +kernel) (by decide +kernel)
theorem dX2_mayHaveConstant_17 : decode cX2_mayHaveConstant 17 = .ok (.getfield 19, 3) := by decide +kernel
theorem dX2_mayHaveConstant_20 : decode cX2_mayHaveConstant 20 = .ok (.iconst 1, 1) := by decide +kernel
theorem dX2_mayHaveConstant_21 : decode cX2_mayHaveConstant 21 = .ok (.if_icmp .lt 16, 3) := by decide +kernel
theorem dX2_mayHaveConstant_24 : decode cX2_mayHaveConstant 24 = .ok (.aload_n 0, 1) := by decide +kernel
theorem dX2_mayHaveConstant_25 : decode cX2_mayHaveConstant 25 = .ok (.getfield 19, 3) := by decide +kernel
theorem dX2_mayHaveConstant_28 : decode cX2_mayHaveConstant 28 = .ok (.bipush 8, 2) := by decide +kernel
theorem dX2_mayHaveConstant_30 : decode cX2_mayHaveConstant 30 = .ok (.if_icmp .gt 7, 3) := by decide +kernel
theorem dX2_mayHaveConstant_33 : decode cX2_mayHaveConstant 33 = .ok (.iconst 1, 1) := by decide +kernel
theorem dX2_mayHaveConstant_34 : decode cX2_mayHaveConstant 34 = .ok (.goto 4, 3) := by decide +kernel
theorem dX3_isItem_0 : decode cX3_isItem 0 = .ok (.iload_n 1, 1) := by decide +kernel
theorem dX3_isItem_1 : decode cX3_isItem 1 = .ok (.aload_n 0, 1) := by decide +kernel
theorem q_317 : Cond.fieldLink "FieldMember$Member" 20 "FieldMember$Member" "parameters" "LFieldMember$Row;" ∈ TT := tt_t (i := 317) (by decide +kernel) (by decide +kernel)
theorem dX3_isItem_2 : decode cX3_isItem 2 = .ok (.getfield 20, 3) := by decide +kernel
theorem q_64 : Cond.fieldLink "FieldMember$Member" 39 "FieldMember$Row" "size" "I" ∈ TT := tt_t (i := 64) (by decide +kernel) (by decide +kernel)
theorem dX3_isItem_5 : decode cX3_isItem 5 = .ok (.getfield 39, 3) := by decide +kernel
theorem dX3_isItem_8 : decode cX3_isItem 8 = .ok (.iconst 1, 1) := by decide +kernel
theorem dX3_isItem_9 : decode cX3_isItem 9 = .ok (.isub, 1) := by decide +kernel
theorem dX3_isItem_10 : decode cX3_isItem 10 = .ok (.if_icmp .lt 7, 3) := by decide +kernel
theorem dX3_isItem_17 : decode cX3_isItem 17 = .ok (.iconst 0, 1) := by decide +kernel
theorem dX3_isItem_18 : decode cX3_isItem 18 = .ok (.ireturn, 1) := by decide +kernel
theorem dX3_isItem_13 : decode cX3_isItem 13 = .ok (.iconst 1, 1) := by decide +kernel
theorem dX3_isItem_14 : decode cX3_isItem 14 = .ok (.goto 4, 3) := by decide +kernel
theorem dX3_kindAt_0 : decode cX3_kindAt 0 = .ok (.aload_n 0, 1) := by decide +kernel
theorem dX3_kindAt_1 : decode cX3_kindAt 1 = .ok (.getfield 20, 3) := by decide +kernel
theorem dX3_kindAt_4 : decode cX3_kindAt 4 = .ok (.iload_n 2, 1) := by decide +kernel
theorem dX3_kindAt_5 : decode cX3_kindAt 5 = .ok (.ifCond .eq 23, 3) := by decide +kernel
theorem dX3_kindAt_28 : decode cX3_kindAt 28 = .ok (.iload_n 1, 1) := by decide +kernel
theorem q_476 : Cond.methodLink "FieldMember$Member" 42 ⟨"FieldMember$Row", "kindAt", "(I)I"⟩ ∈ TT := tt_t (i := 476) (by decide +kernel) (by decide +kernel)
theorem gV_X3_X4_kindAt : GoodIn TT (wsV RX3 42 RX4 yX4_kindAt (ww yX4_kindAt cX4_kindAt 2 (some .int))) := tt_V q_476 q_369 q_370 q_3 q_371
theorem dX3_kindAt_29 : decode cX3_kindAt 29 = .ok (.invokevirtual 42, 3) := by decide +kernel
theorem dX3_kindAt_32 : decode cX3_kindAt 32 = .ok (.ireturn, 1) := by decide +kernel
theorem dX3_kindAt_8 : decode cX3_kindAt 8 = .ok (.aload_n 0, 1) := by decide +kernel
theorem dX3_kindAt_9 : decode cX3_kindAt 9 = .ok (.iload_n 1, 1) := by decide +kernel
theorem q_472 : Cond.methodLink "FieldMember$Member" 35 ⟨"FieldMember$Member", "isItem", "(I)Z"⟩ ∈ TT := tt_t (i := 472) (by decide +kernel) (by decide +kernel)
theorem q_475 : Cond.code ⟨"FieldMember$Member", "isItem", "(I)Z"⟩ prog_5_method_5_code 2 (some .boolean) ∈ TT := tt_t (i := 475) (by decide +kernel) (by decide +kernel)
theorem q_19 : Cond.initialized "FieldMember$Member" ∈ TT := tt_t (i := 19) (by decide +kernel) (by decide +kernel)
theorem q_474 : Cond.instanceMethod ⟨"FieldMember$Member", "isItem", "(I)Z"⟩ ∈ TT := tt_t (i := 474) (by decide +kernel) (by decide +kernel)
theorem qs_22 : Cond.selects "FieldMember$Member" ⟨"FieldMember$Member", "isItem", "(I)Z"⟩ ⟨"FieldMember$Member", "isItem", "(I)Z"⟩ ∈ TT := tt_s (i := 22) (by decide +kernel) (by decide +kernel)
theorem gV_X3_X3_isItem : GoodIn TT (wsV RX3 35 RX3 yX3_isItem (ww yX3_isItem cX3_isItem 2 (some .boolean))) := tt_V q_472 q_474 qs_22 q_19 q_475
theorem hdV_X3_isItem : yX3_isItem.cls = RX3 ∧ yX3_isItem.cls ≠ "java/lang/invoke/MethodHandle" ∧ yX3_isItem.cls ≠ "java/lang/invoke/VarHandle" ∧ (parseMethodDescriptor yX3_isItem.desc).map (fun d => d.parameters.length) = some 1 := by decide +kernel
theorem dX3_kindAt_10 : decode cX3_kindAt 10 = .ok (.invokevirtual 35, 3) := by decide +kernel
theorem dX3_kindAt_13 : decode cX3_kindAt 13 = .ok (.ifCond .eq 15, 3) := by decide +kernel
theorem dX3_kindAt_16 : decode cX3_kindAt 16 = .ok (.aload_n 0, 1) := by decide +kernel
theorem dX3_kindAt_17 : decode cX3_kindAt 17 = .ok (.getfield 20, 3) := by decide +kernel
theorem dX3_kindAt_20 : decode cX3_kindAt 20 = .ok (.getfield 39, 3) := by decide +kernel
theorem dX3_kindAt_23 : decode cX3_kindAt 23 = .ok (.iconst 1, 1) := by decide +kernel
theorem dX3_kindAt_24 : decode cX3_kindAt 24 = .ok (.isub, 1) := by decide +kernel
theorem dX3_kindAt_25 : decode cX3_kindAt 25 = .ok (.goto 4, 3) := by decide +kernel
theorem dX3_dimsAt_0 : decode cX3_dimsAt 0 = .ok (.iload_n 2, 1) := by decide +kernel
theorem dX3_dimsAt_1 : decode cX3_dimsAt 1 = .ok (.ifCond .eq 32, 3) := by decide +kernel
theorem dX3_dimsAt_33 : decode cX3_dimsAt 33 = .ok (.aload_n 0, 1) := by decide +kernel
theorem dX3_dimsAt_34 : decode cX3_dimsAt 34 = .ok (.getfield 20, 3) := by decide +kernel
theorem dX3_dimsAt_37 : decode cX3_dimsAt 37 = .ok (.iload_n 1, 1) := by decide +kernel
theorem q_481 : Cond.methodLink "FieldMember$Member" 46 ⟨"FieldMember$Row", "dimsAt", "(I)I"⟩ ∈ TT := tt_t (i := 481) (by decide +kernel) (by decide +kernel)
theorem gV_X3_X4_dimsAt : GoodIn TT (wsV RX3 46 RX4 yX4_dimsAt (ww yX4_dimsAt cX4_dimsAt 2 (some .int))) := tt_V q_481 q_373 q_374 q_3 q_375
theorem dX3_dimsAt_38 : decode cX3_dimsAt 38 = .ok (.invokevirtual 46, 3) := by decide +kernel
theorem dX3_dimsAt_41 : decode cX3_dimsAt 41 = .ok (.ireturn, 1) := by decide +kernel
theorem dX3_dimsAt_4 : decode cX3_dimsAt 4 = .ok (.aload_n 0, 1) := by decide +kernel
theorem dX3_dimsAt_5 : decode cX3_dimsAt 5 = .ok (.iload_n 1, 1) := by decide +kernel
theorem dX3_dimsAt_6 : decode cX3_dimsAt 6 = .ok (.invokevirtual 35, 3) := by decide +kernel
theorem dX3_dimsAt_9 : decode cX3_dimsAt 9 = .ok (.ifCond .eq 24, 3) := by decide +kernel
theorem dX3_dimsAt_12 : decode cX3_dimsAt 12 = .ok (.aload_n 0, 1) := by decide +kernel
theorem dX3_dimsAt_13 : decode cX3_dimsAt 13 = .ok (.getfield 20, 3) := by decide +kernel
theorem dX3_dimsAt_16 : decode cX3_dimsAt 16 = .ok (.aload_n 0, 1) := by decide +kernel
theorem dX3_dimsAt_17 : decode cX3_dimsAt 17 = .ok (.getfield 20, 3) := by decide +kernel
theorem dX3_dimsAt_20 : decode cX3_dimsAt 20 = .ok (.getfield 39, 3) := by decide +kernel
theorem dX3_dimsAt_23 : decode cX3_dimsAt 23 = .ok (.iconst 1, 1) := by decide +kernel
theorem dX3_dimsAt_24 : decode cX3_dimsAt 24 = .ok (.isub, 1) := by decide +kernel
theorem dX3_dimsAt_25 : decode cX3_dimsAt 25 = .ok (.invokevirtual 46, 3) := by decide +kernel
theorem dX3_dimsAt_28 : decode cX3_dimsAt 28 = .ok (.iconst 1, 1) := by decide +kernel
theorem dX3_dimsAt_29 : decode cX3_dimsAt 29 = .ok (.isub, 1) := by decide +kernel
theorem dX3_dimsAt_30 : decode cX3_dimsAt 30 = .ok (.goto 11, 3) := by decide +kernel
theorem dX3_isLike_0 : decode cX3_isLike 0 = .ok (.aload_n 0, 1) := by decide +kernel
theorem q_224 : Cond.sameField "FieldMember$Member" "FieldMember$Entry" "name" "I" ∈ TT := tt_t (i := 224) (by decide +kernel) (by decide +kernel)
theorem q_223 : Cond.fieldLink "FieldMember$Member" 28 "FieldMember$Member" "name" "I" ∈ TT := tt_t (i := 223) (by decide +kernel) (by decide +kernel)
theorem dX3_isLike_1 : decode cX3_isLike 1 = .ok (.getfield 28, 3) := by decide +kernel
theorem dX3_isLike_4 : decode cX3_isLike 4 = .ok (.aload_n 1, 1) := by decide +kernel
theorem dX3_isLike_5 : decode cX3_isLike 5 = .ok (.getfield 28, 3) := by decide +kernel
theorem dX3_isLike_8 : decode cX3_isLike 8 = .ok (.if_icmp .ne 21, 3) := by decide +kernel
theorem dX3_isLike_29 : decode cX3_isLike 29 = .ok (.iconst 0, 1) := by decide +kernel
theorem dX3_isLike_30 : decode cX3_isLike 30 = .ok (.ireturn, 1) := by decide +kernel
theorem dX3_isLike_11 : decode cX3_isLike 11 = .ok (.aload_n 0, 1) := by decide +kernel
theorem dX3_isLike_12 : decode cX3_isLike 12 = .ok (.getfield 20, 3) := by decide +kernel
theorem dX3_isLike_15 : decode cX3_isLike 15 = .ok (.aload_n 1, 1) := by decide +kernel
theorem dX3_isLike_16 : decode cX3_isLike 16 = .ok (.getfield 20, 3) := by decide +kernel
theorem q_364 : Cond.methodLink "FieldMember$Member" 31 ⟨"FieldMember$Row", "isSame", "(LFieldMember$Row;)Z"⟩ ∈ TT := tt_t (i := 364) (by decide +kernel) (by decide +kernel)
theorem q_367 : Cond.code ⟨"FieldMember$Row", "isSame", "(LFieldMember$Row;)Z"⟩ prog_6_method_7_code 3 (some .boolean) ∈ TT := tt_t (i := 367) (by decide +kernel) (by decide +kernel)
theorem q_365 : Cond.instanceMethod ⟨"FieldMember$Row", "isSame", "(LFieldMember$Row;)Z"⟩ ∈ TT := tt_t (i := 365) (by decide +kernel) (by decide +kernel)
theorem q_366 : Cond.selects "FieldMember$Row" ⟨"FieldMember$Row", "isSame", "(LFieldMember$Row;)Z"⟩ ⟨"FieldMember$Row", "isSame", "(LFieldMember$Row;)Z"⟩ ∈ TT := tt_t (i := 366) (by decide +kernel) (by decide +kernel)
theorem gV_X3_X4_isSame : GoodIn TT (wsV RX3 31 RX4 yX4_isSame (ww yX4_isSame cX4_isSame 3 (some .boolean))) := tt_V q_364 q_365 q_366 q_3 q_367
theorem hdV_X4_isSame : yX4_isSame.cls = RX4 ∧ yX4_isSame.cls ≠ "java/lang/invoke/MethodHandle" ∧ yX4_isSame.cls ≠ "java/lang/invoke/VarHandle" ∧ (parseMethodDescriptor yX4_isSame.desc).map (fun d => d.parameters.length) = some 1 := by decide +kernel
theorem dX3_isLike_19 : decode cX3_isLike 19 = .ok (.invokevirtual 31, 3) := by decide +kernel
theorem dX3_isLike_22 : decode cX3_isLike 22 = .ok (.ifCond .eq 7, 3) := by decide +kernel
theorem dX3_isLike_25 : decode cX3_isLike 25 = .ok (.iconst 1, 1) := by decide +kernel
theorem dX3_isLike_26 : decode cX3_isLike 26 = .ok (.goto 4, 3) := by decide +kernel
set_option maxHeartbeats 4000000 in
set_option maxRecDepth 100000 in
theorem c_has (l : Launch) (D : va_G) (G : Nat → ClassId) (H : Heap) (ca : Nat → Nat) (σ x : MS) (hP : va_P D vwCl (tyW G ca σ x) H) (n : Nat) (h1 : σ 1 0 = nI n) (hn : n ≤ 12) (t : Int32) : Met l yX6_has (ww yX6_has cX6_has 2 (some .boolean)) (rmD 0) (roP D G H [.ref ((ca 1)), .int t]) (vp_Si (fun r => r = bI (okN n t))) 0 0 (fun _ => False) := by
  refine Met.ofW (cc := cX6_has) (maxL := 2) (ret := (some .boolean)) (by decide) rfl ?_
  intro p e s m args below meth c s₁ B hml hv
  obtain ⟨rfl, hH, hK⟩ := hv
  have hx := B.exec
  have hb := B.bytes
  have hr := B.returns
  have hts : ∀ w ∈ TT, w.before _ s = true := fun w h => atoms_spec (ws := ww yX6_has cX6_has 2 (some .boolean)) B.pre w (List.mem_cons_of_mem _ h)
  have hown : s.vm.findClass RX6 = some m.cls := findClass_of_methodNamed B.named
  have hlocks := B.notSynchronized
  rw [hH]
  have hl := lv_entry ([.ref ((ca 1)), .int t]) (n := 2) (Nat.le_of_ble_eq_true rfl)
  rw [lg_entry_eq]
  generalize (lg_sl ([.ref ((ca 1)), .int t]) ++ List.replicate (2 - (lg_sl ([.ref ((ca 1)), .int t])).length) Slot.unset).toArray = ls at hl ⊢
  have hl : lv_has ls 2 [(0, .ref ((ca 1))), (1, .int t)] := hl
  refine lv_iload_n hx hb dX6_has_0 rfl (lv_at hl 1 rfl) ?_
  refine lv_if_lt (tgt := 16) hx hb dX6_has_1 (by decide) (fun c1 => ?_) (fun c1 => ?_)
  · -- 1 taken
    refine lv_iconst (v := 0) hx hb dX6_has_16 (by decide) ?_
    exact ro_zret (v := 0) hx hb hr hH hlocks dX6_has_17 (Or.inl rfl) ((bI_f (by rw [okN_lt, ← h1]; simp only [eq_true c1, not_true, not_false_iff, not_true_eq_false, not_false_eq_true, true_or, or_true, false_or, or_false, or_self, and_self, true_and, and_true, false_and, and_false, if_true, if_false])).symm)
  · -- 1 not
    refine lv_iload_n hx hb dX6_has_4 rfl (lv_at hl 1 rfl) ?_
    refine lv_aload_n hx hb dX6_has_5 rfl (lv_at hl 0 rfl) ?_
    refine va_get (D := D) (ci := 6) (v := .int (σ 1 0)) (C := RX6) (T := TX6) (N := 5) hx hb hts iX6 hown hK.1 hP 0 rfl rfl 4 (by decide) (hts _ q_39) (fun _ h9 => h9) rfl dX6_has_6 ?_
    refine lv_icmp_ge (tgt := 16) hx hb dX6_has_9 (by decide) (fun c2 => ?_) (fun c2 => ?_)
    · -- 9 taken
      refine lv_iconst (v := 0) hx hb dX6_has_16 (by decide) ?_
      exact ro_zret (v := 0) hx hb hr hH hlocks dX6_has_17 (Or.inl rfl) ((bI_f (by rw [okN_lt, ← h1]; simp only [eq_false c1, eq_true c2, not_true, not_false_iff, not_true_eq_false, not_false_eq_true, true_or, or_true, false_or, or_false, or_self, and_self, true_and, and_true, false_and, and_false, if_true, if_false])).symm)
    · -- 9 not
      refine lv_iconst (v := 1) hx hb dX6_has_12 (by decide) ?_
      refine lv_goto (tgt := 17) hx hb dX6_has_13 (by decide) ?_
      exact ro_zret (v := 1) hx hb hr hH hlocks dX6_has_17 (Or.inr rfl) ((bI_t (by rw [okN_lt, ← h1]; simp only [eq_false c1, eq_false c2, not_true, not_false_iff, not_true_eq_false, not_false_eq_true, true_or, or_true, false_or, or_false, or_self, and_self, true_and, and_true, false_and, and_false, if_true, if_false])).symm)
set_option maxHeartbeats 4000000 in
set_option maxRecDepth 100000 in
theorem c_sortOf (l : Launch) (D : va_G) (G : Nat → ClassId) (H : Heap) (ca : Nat → Nat) (σ x : MS) (hP : va_P D vwCl (tyW G ca σ x) H) (n : Nat) (h1 : σ 1 0 = nI n) (hn : n ≤ 12) (t : Int32) : Met l yX6_sortOf (ww yX6_sortOf cX6_sortOf 2 (some .int)) (rmD 1) (roP D G H [.ref ((ca 1)), .int t]) (vp_Si (fun r => r = soF (σ 2) n t)) 0 0 (fun _ => False) := by
  refine Met.ofW (cc := cX6_sortOf) (maxL := 2) (ret := (some .int)) (by decide) rfl ?_
  intro p e s m args below meth c s₁ B hml hv
  obtain ⟨rfl, hH, hK⟩ := hv
  have hx := B.exec
  have hb := B.bytes
  have hr := B.returns
  have hts : ∀ w ∈ TT, w.before _ s = true := fun w h => atoms_spec (ws := ww yX6_sortOf cX6_sortOf 2 (some .int)) B.pre w (List.mem_cons_of_mem _ h)
  have hown : s.vm.findClass RX6 = some m.cls := findClass_of_methodNamed B.named
  have hlocks := B.notSynchronized
  rw [hH]
  have hl := lv_entry ([.ref ((ca 1)), .int t]) (n := 2) (Nat.le_of_ble_eq_true rfl)
  rw [lg_entry_eq]
  generalize (lg_sl ([.ref ((ca 1)), .int t]) ++ List.replicate (2 - (lg_sl ([.ref ((ca 1)), .int t])).length) Slot.unset).toArray = ls at hl ⊢
  have hl : lv_has ls 2 [(0, .ref ((ca 1))), (1, .int t)] := hl
  refine lv_aload_n hx hb dX6_sortOf_0 rfl (lv_at hl 0 rfl) ?_
  refine lv_iload_n hx hb dX6_sortOf_1 rfl (lv_at hl 1 rfl) ?_
  refine ro_Vi (D := D) (G := G) (As := [.int t]) (rest := []) ⟨hx, hb, hml, hown, hts⟩ (c_has l D G _ ca σ x hP n h1 hn t) gV_X6_X6_has hdV_X6_has ⟨Nat.le_of_ble_eq_true rfl, Nat.le_of_ble_eq_true rfl⟩ hK (va_recv hK.1 hP (ci := 6) (q0 := 0) rfl rfl) rfl hl.1 rfl (Nat.le_of_ble_eq_true rfl) dX6_sortOf_2 ⟨Nat.le_of_ble_eq_true rfl, Nat.le_of_ble_eq_true rfl⟩ (fun r1 e_r1 => ?_)
  subst e_r1
  refine lv_if_eq (tgt := 17) hx hb dX6_sortOf_5 (by decide) (fun c2 => ?_) (fun c2 => ?_)
  · -- 5 taken
    have c2 := bI_0 c2
    refine lv_iconst (v := -1) hx hb dX6_sortOf_17 (by decide) ?_
    exact ro_iret (v := (-1)) hx hb hr hH hlocks dX6_sortOf_18 (by unfold soF; simp only [eq_false c2, not_true, not_false_iff, not_true_eq_false, not_false_eq_true, true_or, or_true, false_or, or_false, or_self, and_self, true_and, and_true, false_and, and_false, if_true, if_false])
  · -- 5 not
    have c2 := bI_1 c2
    obtain ⟨j3, h_j3, rfl⟩ := okN_ex (by omega) c2
    refine lv_aload_n hx hb dX6_sortOf_8 rfl (lv_at hl 0 rfl) ?_
    refine va_get (D := D) (ci := 6) (v := .ref ((ca 2))) (C := RX6) (T := TX6) (N := 5) hx hb hts iX6 hown hK.1 hP 0 rfl rfl 0 (by decide) (hts _ q_35) (fun _ h9 => h9) rfl dX6_sortOf_9 ?_
    refine lv_iload_n hx hb dX6_sortOf_12 rfl (lv_at hl 1 rfl) ?_
    refine iald_n (f := σ 2) hx hb hK.1 hP 1 0 rfl rfl (j3) rfl (by omega) (by decide) dX6_sortOf_13 ?_
    refine lv_goto (tgt := 18) hx hb dX6_sortOf_14 (by decide) ?_
    exact ro_iret (v := σ 2 j3) hx hb hr hH hlocks dX6_sortOf_18 (by unfold soF; simp only [eq_true c2, nI_clamp (show j3 < 2 ^ 31 by omega), not_true, not_false_iff, not_true_eq_false, not_false_eq_true, true_or, or_true, false_or, or_false, or_self, and_self, true_and, and_true, false_and, and_false, if_true, if_false])
set_option maxHeartbeats 4000000 in
set_option maxRecDepth 100000 in
theorem c_parentOf (l : Launch) (D : va_G) (G : Nat → ClassId) (H : Heap) (ca : Nat → Nat) (σ x : MS) (hP : va_P D vwCl (tyW G ca σ x) H) (n : Nat) (h1 : σ 1 0 = nI n) (hn : n ≤ 12) (t : Int32) : Met l yX6_parentOf (ww yX6_parentOf cX6_parentOf 2 (some .int)) (rmD 1) (roP D G H [.ref ((ca 1)), .int t]) (vp_Si (fun r => r = soF (σ 3) n t)) 0 0 (fun _ => False) := by
  refine Met.ofW (cc := cX6_parentOf) (maxL := 2) (ret := (some .int)) (by decide) rfl ?_
  intro p e s m args below meth c s₁ B hml hv
  obtain ⟨rfl, hH, hK⟩ := hv
  have hx := B.exec
  have hb := B.bytes
  have hr := B.returns
  have hts : ∀ w ∈ TT, w.before _ s = true := fun w h => atoms_spec (ws := ww yX6_parentOf cX6_parentOf 2 (some .int)) B.pre w (List.mem_cons_of_mem _ h)
  have hown : s.vm.findClass RX6 = some m.cls := findClass_of_methodNamed B.named
  have hlocks := B.notSynchronized
  rw [hH]
  have hl := lv_entry ([.ref ((ca 1)), .int t]) (n := 2) (Nat.le_of_ble_eq_true rfl)
  rw [lg_entry_eq]
  generalize (lg_sl ([.ref ((ca 1)), .int t]) ++ List.replicate (2 - (lg_sl ([.ref ((ca 1)), .int t])).length) Slot.unset).toArray = ls at hl ⊢
  have hl : lv_has ls 2 [(0, .ref ((ca 1))), (1, .int t)] := hl
  refine lv_aload_n hx hb dX6_parentOf_0 rfl (lv_at hl 0 rfl) ?_
  refine lv_iload_n hx hb dX6_parentOf_1 rfl (lv_at hl 1 rfl) ?_
  refine ro_Vi (D := D) (G := G) (As := [.int t]) (rest := []) ⟨hx, hb, hml, hown, hts⟩ (c_has l D G _ ca σ x hP n h1 hn t) gV_X6_X6_has hdV_X6_has ⟨Nat.le_of_ble_eq_true rfl, Nat.le_of_ble_eq_true rfl⟩ hK (va_recv hK.1 hP (ci := 6) (q0 := 0) rfl rfl) rfl hl.1 rfl (Nat.le_of_ble_eq_true rfl) dX6_parentOf_2 ⟨Nat.le_of_ble_eq_true rfl, Nat.le_of_ble_eq_true rfl⟩ (fun r1 e_r1 => ?_)
  subst e_r1
  refine lv_if_eq (tgt := 17) hx hb dX6_parentOf_5 (by decide) (fun c2 => ?_) (fun c2 => ?_)
  · -- 5 taken
    have c2 := bI_0 c2
    refine lv_iconst (v := -1) hx hb dX6_parentOf_17 (by decide) ?_
    exact ro_iret (v := (-1)) hx hb hr hH hlocks dX6_parentOf_18 (by unfold soF; simp only [eq_false c2, not_true, not_false_iff, not_true_eq_false, not_false_eq_true, true_or, or_true, false_or, or_false, or_self, and_self, true_and, and_true, false_and, and_false, if_true, if_false])
  · -- 5 not
    have c2 := bI_1 c2
    obtain ⟨j3, h_j3, rfl⟩ := okN_ex (by omega) c2
    refine lv_aload_n hx hb dX6_parentOf_8 rfl (lv_at hl 0 rfl) ?_
    refine va_get (D := D) (ci := 6) (v := .ref ((ca 3))) (C := RX6) (T := TX6) (N := 5) hx hb hts iX6 hown hK.1 hP 0 rfl rfl 1 (by decide) (hts _ q_36) (fun _ h9 => h9) rfl dX6_parentOf_9 ?_
    refine lv_iload_n hx hb dX6_parentOf_12 rfl (lv_at hl 1 rfl) ?_
    refine iald_n (f := σ 3) hx hb hK.1 hP 2 0 rfl rfl (j3) rfl (by omega) (by decide) dX6_parentOf_13 ?_
    refine lv_goto (tgt := 18) hx hb dX6_parentOf_14 (by decide) ?_
    exact ro_iret (v := σ 3 j3) hx hb hr hH hlocks dX6_parentOf_18 (by unfold soF; simp only [eq_true c2, nI_clamp (show j3 < 2 ^ 31 by omega), not_true, not_false_iff, not_true_eq_false, not_false_eq_true, true_or, or_true, false_or, or_false, or_self, and_self, true_and, and_true, false_and, and_false, if_true, if_false])
set_option maxHeartbeats 4000000 in
set_option maxRecDepth 100000 in
theorem c_isFace (l : Launch) (D : va_G) (G : Nat → ClassId) (H : Heap) (ca : Nat → Nat) (σ x : MS) (hP : va_P D vwCl (tyW G ca σ x) H) (n : Nat) (h1 : σ 1 0 = nI n) (hn : n ≤ 12) (t : Int32) : Met l yX6_isFace (ww yX6_isFace cX6_isFace 2 (some .boolean)) (rmD 2) (roP D G H [.ref ((ca 1)), .int t]) (vp_Si (fun r => r = bI (soF (σ 2) n t = 3))) 0 0 (fun _ => False) := by
  refine Met.ofW (cc := cX6_isFace) (maxL := 2) (ret := (some .boolean)) (by decide) rfl ?_
  intro p e s m args below meth c s₁ B hml hv
  obtain ⟨rfl, hH, hK⟩ := hv
  have hx := B.exec
  have hb := B.bytes
  have hr := B.returns
  have hts : ∀ w ∈ TT, w.before _ s = true := fun w h => atoms_spec (ws := ww yX6_isFace cX6_isFace 2 (some .boolean)) B.pre w (List.mem_cons_of_mem _ h)
  have hown : s.vm.findClass RX6 = some m.cls := findClass_of_methodNamed B.named
  have hlocks := B.notSynchronized
  rw [hH]
  have hl := lv_entry ([.ref ((ca 1)), .int t]) (n := 2) (Nat.le_of_ble_eq_true rfl)
  rw [lg_entry_eq]
  generalize (lg_sl ([.ref ((ca 1)), .int t]) ++ List.replicate (2 - (lg_sl ([.ref ((ca 1)), .int t])).length) Slot.unset).toArray = ls at hl ⊢
  have hl : lv_has ls 2 [(0, .ref ((ca 1))), (1, .int t)] := hl
  refine lv_aload_n hx hb dX6_isFace_0 rfl (lv_at hl 0 rfl) ?_
  refine lv_iload_n hx hb dX6_isFace_1 rfl (lv_at hl 1 rfl) ?_
  refine ro_Vi (D := D) (G := G) (As := [.int t]) (rest := []) ⟨hx, hb, hml, hown, hts⟩ (c_sortOf l D G _ ca σ x hP n h1 hn t) gV_X6_X6_sortOf hdV_X6_sortOf ⟨Nat.le_of_ble_eq_true rfl, Nat.le_of_ble_eq_true rfl⟩ hK (va_recv hK.1 hP (ci := 6) (q0 := 0) rfl rfl) rfl hl.1 rfl (Nat.le_of_ble_eq_true rfl) dX6_isFace_2 ⟨Nat.le_of_ble_eq_true rfl, Nat.le_of_ble_eq_true rfl⟩ (fun r1 e_r1 => ?_)
  subst e_r1
  refine lv_iconst (v := 3) hx hb dX6_isFace_5 (by decide) ?_
  refine lv_icmp_ne (tgt := 13) hx hb dX6_isFace_6 (by decide) (fun c2 => ?_) (fun c2 => ?_)
  · -- 6 taken
    refine lv_iconst (v := 0) hx hb dX6_isFace_13 (by decide) ?_
    exact ro_zret (v := 0) hx hb hr hH hlocks dX6_isFace_14 (Or.inl rfl) ((bI_f (by simp only [eq_false c2, not_true, not_false_iff, not_true_eq_false, not_false_eq_true, true_or, or_true, false_or, or_false, or_self, and_self, true_and, and_true, false_and, and_false, if_true, if_false])).symm)
  · -- 6 not
    refine lv_iconst (v := 1) hx hb dX6_isFace_9 (by decide) ?_
    refine lv_goto (tgt := 14) hx hb dX6_isFace_10 (by decide) ?_
    exact ro_zret (v := 1) hx hb hr hH hlocks dX6_isFace_14 (Or.inr rfl) ((bI_t (by simp only [eq_true c2, not_true, not_false_iff, not_true_eq_false, not_false_eq_true, true_or, or_true, false_or, or_false, or_self, and_self, true_and, and_true, false_and, and_false, if_true, if_false])).symm)
set_option maxHeartbeats 4000000 in
set_option maxRecDepth 100000 in
theorem c_mayBeParent (l : Launch) (D : va_G) (G : Nat → ClassId) (H : Heap) (ca : Nat → Nat) (σ x : MS) (hP : va_P D vwCl (tyW G ca σ x) H) (n : Nat) (h1 : σ 1 0 = nI n) (hn : n ≤ 12) (t : Int32) : Met l yX6_mayBeParent (ww yX6_mayBeParent cX6_mayBeParent 2 (some .boolean)) (rmD 2) (roP D G H [.ref ((ca 1)), .int t]) (vp_Si (fun r => r = bI (soF (σ 2) n t = 0 ∨ soF (σ 2) n t = 1))) 0 0 (fun _ => False) := by
  refine Met.ofW (cc := cX6_mayBeParent) (maxL := 2) (ret := (some .boolean)) (by decide) rfl ?_
  intro p e s m args below meth c s₁ B hml hv
  obtain ⟨rfl, hH, hK⟩ := hv
  have hx := B.exec
  have hb := B.bytes
  have hr := B.returns
  have hts : ∀ w ∈ TT, w.before _ s = true := fun w h => atoms_spec (ws := ww yX6_mayBeParent cX6_mayBeParent 2 (some .boolean)) B.pre w (List.mem_cons_of_mem _ h)
  have hown : s.vm.findClass RX6 = some m.cls := findClass_of_methodNamed B.named
  have hlocks := B.notSynchronized
  rw [hH]
  have hl := lv_entry ([.ref ((ca 1)), .int t]) (n := 2) (Nat.le_of_ble_eq_true rfl)
  rw [lg_entry_eq]
  generalize (lg_sl ([.ref ((ca 1)), .int t]) ++ List.replicate (2 - (lg_sl ([.ref ((ca 1)), .int t])).length) Slot.unset).toArray = ls at hl ⊢
  have hl : lv_has ls 2 [(0, .ref ((ca 1))), (1, .int t)] := hl
  refine lv_aload_n hx hb dX6_mayBeParent_0 rfl (lv_at hl 0 rfl) ?_
  refine lv_iload_n hx hb dX6_mayBeParent_1 rfl (lv_at hl 1 rfl) ?_
  refine ro_Vi (D := D) (G := G) (As := [.int t]) (rest := []) ⟨hx, hb, hml, hown, hts⟩ (c_sortOf l D G _ ca σ x hP n h1 hn t) gV_X6_X6_sortOf hdV_X6_sortOf ⟨Nat.le_of_ble_eq_true rfl, Nat.le_of_ble_eq_true rfl⟩ hK (va_recv hK.1 hP (ci := 6) (q0 := 0) rfl rfl) rfl hl.1 rfl (Nat.le_of_ble_eq_true rfl) dX6_mayBeParent_2 ⟨Nat.le_of_ble_eq_true rfl, Nat.le_of_ble_eq_true rfl⟩ (fun r1 e_r1 => ?_)
  subst e_r1
  refine lv_if_eq (tgt := 17) hx hb dX6_mayBeParent_5 (by decide) (fun c2 => ?_) (fun c2 => ?_)
  · -- 5 taken
    refine lv_iconst (v := 1) hx hb dX6_mayBeParent_17 (by decide) ?_
    refine lv_goto (tgt := 22) hx hb dX6_mayBeParent_18 (by decide) ?_
    exact ro_zret (v := 1) hx hb hr hH hlocks dX6_mayBeParent_22 (Or.inr rfl) ((bI_t (by simp only [eq_true c2, not_true, not_false_iff, not_true_eq_false, not_false_eq_true, true_or, or_true, false_or, or_false, or_self, and_self, true_and, and_true, false_and, and_false, if_true, if_false])).symm)
  · -- 5 not
    refine lv_aload_n hx hb dX6_mayBeParent_8 rfl (lv_at hl 0 rfl) ?_
    refine lv_iload_n hx hb dX6_mayBeParent_9 rfl (lv_at hl 1 rfl) ?_
    refine ro_Vi (D := D) (G := G) (As := [.int t]) (rest := []) ⟨hx, hb, hml, hown, hts⟩ (c_sortOf l D G _ ca σ x hP n h1 hn t) gV_X6_X6_sortOf hdV_X6_sortOf ⟨Nat.le_of_ble_eq_true rfl, Nat.le_of_ble_eq_true rfl⟩ hK (va_recv hK.1 hP (ci := 6) (q0 := 0) rfl rfl) rfl hl.1 rfl (Nat.le_of_ble_eq_true rfl) dX6_mayBeParent_10 ⟨Nat.le_of_ble_eq_true rfl, Nat.le_of_ble_eq_true rfl⟩ (fun r3 e_r3 => ?_)
    subst e_r3
    refine lv_iconst (v := 1) hx hb dX6_mayBeParent_13 (by decide) ?_
    refine lv_icmp_ne (tgt := 21) hx hb dX6_mayBeParent_14 (by decide) (fun c4 => ?_) (fun c4 => ?_)
    · -- 14 taken
      refine lv_iconst (v := 0) hx hb dX6_mayBeParent_21 (by decide) ?_
      exact ro_zret (v := 0) hx hb hr hH hlocks dX6_mayBeParent_22 (Or.inl rfl) ((bI_f (by simp only [eq_false c2, eq_false c4, not_true, not_false_iff, not_true_eq_false, not_false_eq_true, true_or, or_true, false_or, or_false, or_self, and_self, true_and, and_true, false_and, and_false, if_true, if_false])).symm)
    · -- 14 not
      refine lv_iconst (v := 1) hx hb dX6_mayBeParent_17 (by decide) ?_
      refine lv_goto (tgt := 22) hx hb dX6_mayBeParent_18 (by decide) ?_
      exact ro_zret (v := 1) hx hb hr hH hlocks dX6_mayBeParent_22 (Or.inr rfl) ((bI_t (by simp only [eq_false c2, eq_true c4, not_true, not_false_iff, not_true_eq_false, not_false_eq_true, true_or, or_true, false_or, or_false, or_self, and_self, true_and, and_true, false_and, and_false, if_true, if_false])).symm)
set_option maxHeartbeats 4000000 in
set_option maxRecDepth 100000 in
theorem c_mustLackNothing (l : Launch) (D : va_G) (G : Nat → ClassId) (H : Heap) (ca : Nat → Nat) (σ x : MS) (hP : va_P D vwCl (tyW G ca σ x) H) (n : Nat) (h1 : σ 1 0 = nI n) (hn : n ≤ 12) (t : Int32) : Met l yX6_mustLackNothing (ww yX6_mustLackNothing cX6_mustLackNothing 2 (some .boolean)) (rmD 2) (roP D G H [.ref ((ca 1)), .int t]) (vp_Si (fun r => r = bI (soF (σ 2) n t = 0 ∨ soF (σ 2) n t = 2))) 0 0 (fun _ => False) := by
  refine Met.ofW (cc := cX6_mustLackNothing) (maxL := 2) (ret := (some .boolean)) (by decide) rfl ?_
  intro p e s m args below meth c s₁ B hml hv
  obtain ⟨rfl, hH, hK⟩ := hv
  have hx := B.exec
  have hb := B.bytes
  have hr := B.returns
  have hts : ∀ w ∈ TT, w.before _ s = true := fun w h => atoms_spec (ws := ww yX6_mustLackNothing cX6_mustLackNothing 2 (some .boolean)) B.pre w (List.mem_cons_of_mem _ h)
  have hown : s.vm.findClass RX6 = some m.cls := findClass_of_methodNamed B.named
  have hlocks := B.notSynchronized
  rw [hH]
  have hl := lv_entry ([.ref ((ca 1)), .int t]) (n := 2) (Nat.le_of_ble_eq_true rfl)
  rw [lg_entry_eq]
  generalize (lg_sl ([.ref ((ca 1)), .int t]) ++ List.replicate (2 - (lg_sl ([.ref ((ca 1)), .int t])).length) Slot.unset).toArray = ls at hl ⊢
  have hl : lv_has ls 2 [(0, .ref ((ca 1))), (1, .int t)] := hl
  refine lv_aload_n hx hb dX6_mustLackNothing_0 rfl (lv_at hl 0 rfl) ?_
  refine lv_iload_n hx hb dX6_mustLackNothing_1 rfl (lv_at hl 1 rfl) ?_
  refine ro_Vi (D := D) (G := G) (As := [.int t]) (rest := []) ⟨hx, hb, hml, hown, hts⟩ (c_sortOf l D G _ ca σ x hP n h1 hn t) gV_X6_X6_sortOf hdV_X6_sortOf ⟨Nat.le_of_ble_eq_true rfl, Nat.le_of_ble_eq_true rfl⟩ hK (va_recv hK.1 hP (ci := 6) (q0 := 0) rfl rfl) rfl hl.1 rfl (Nat.le_of_ble_eq_true rfl) dX6_mustLackNothing_2 ⟨Nat.le_of_ble_eq_true rfl, Nat.le_of_ble_eq_true rfl⟩ (fun r1 e_r1 => ?_)
  subst e_r1
  refine lv_if_eq (tgt := 17) hx hb dX6_mustLackNothing_5 (by decide) (fun c2 => ?_) (fun c2 => ?_)
  · -- 5 taken
    refine lv_iconst (v := 1) hx hb dX6_mustLackNothing_17 (by decide) ?_
    refine lv_goto (tgt := 22) hx hb dX6_mustLackNothing_18 (by decide) ?_
    exact ro_zret (v := 1) hx hb hr hH hlocks dX6_mustLackNothing_22 (Or.inr rfl) ((bI_t (by simp only [eq_true c2, not_true, not_false_iff, not_true_eq_false, not_false_eq_true, true_or, or_true, false_or, or_false, or_self, and_self, true_and, and_true, false_and, and_false, if_true, if_false])).symm)
  · -- 5 not
    refine lv_aload_n hx hb dX6_mustLackNothing_8 rfl (lv_at hl 0 rfl) ?_
    refine lv_iload_n hx hb dX6_mustLackNothing_9 rfl (lv_at hl 1 rfl) ?_
    refine ro_Vi (D := D) (G := G) (As := [.int t]) (rest := []) ⟨hx, hb, hml, hown, hts⟩ (c_sortOf l D G _ ca σ x hP n h1 hn t) gV_X6_X6_sortOf hdV_X6_sortOf ⟨Nat.le_of_ble_eq_true rfl, Nat.le_of_ble_eq_true rfl⟩ hK (va_recv hK.1 hP (ci := 6) (q0 := 0) rfl rfl) rfl hl.1 rfl (Nat.le_of_ble_eq_true rfl) dX6_mustLackNothing_10 ⟨Nat.le_of_ble_eq_true rfl, Nat.le_of_ble_eq_true rfl⟩ (fun r3 e_r3 => ?_)
    subst e_r3
    refine lv_iconst (v := 2) hx hb dX6_mustLackNothing_13 (by decide) ?_
    refine lv_icmp_ne (tgt := 21) hx hb dX6_mustLackNothing_14 (by decide) (fun c4 => ?_) (fun c4 => ?_)
    · -- 14 taken
      refine lv_iconst (v := 0) hx hb dX6_mustLackNothing_21 (by decide) ?_
      exact ro_zret (v := 0) hx hb hr hH hlocks dX6_mustLackNothing_22 (Or.inl rfl) ((bI_f (by simp only [eq_false c2, eq_false c4, not_true, not_false_iff, not_true_eq_false, not_false_eq_true, true_or, or_true, false_or, or_false, or_self, and_self, true_and, and_true, false_and, and_false, if_true, if_false])).symm)
    · -- 14 not
      refine lv_iconst (v := 1) hx hb dX6_mustLackNothing_17 (by decide) ?_
      refine lv_goto (tgt := 22) hx hb dX6_mustLackNothing_18 (by decide) ?_
      exact ro_zret (v := 1) hx hb hr hH hlocks dX6_mustLackNothing_22 (Or.inr rfl) ((bI_t (by simp only [eq_false c2, eq_true c4, not_true, not_false_iff, not_true_eq_false, not_false_eq_true, true_or, or_true, false_or, or_false, or_self, and_self, true_and, and_true, false_and, and_false, if_true, if_false])).symm)
set_option maxHeartbeats 4000000 in
set_option maxRecDepth 100000 in
theorem c_hasFace (l : Launch) (D : va_G) (G : Nat → ClassId) (H : Heap) (ca : Nat → Nat) (σ x : MS) (hP : va_P D vwCl (tyW G ca σ x) H) (n : Nat) (h1 : σ 1 0 = nI n) (hn : n ≤ 12) (t : Int32) (o : Int32) : Met l yX6_hasFace (ww yX6_hasFace cX6_hasFace 3 (some .boolean)) (rmD 1) (roP D G H [.ref ((ca 1)), .int t, .int o]) (vp_Si (fun r => r = bI (bitN (x 0) n t o))) 0 0 (fun _ => False) := by
  refine Met.ofW (cc := cX6_hasFace) (maxL := 3) (ret := (some .boolean)) (by decide) rfl ?_
  intro p e s m args below meth c s₁ B hml hv
  obtain ⟨rfl, hH, hK⟩ := hv
  have hx := B.exec
  have hb := B.bytes
  have hr := B.returns
  have hts : ∀ w ∈ TT, w.before _ s = true := fun w h => atoms_spec (ws := ww yX6_hasFace cX6_hasFace 3 (some .boolean)) B.pre w (List.mem_cons_of_mem _ h)
  have hown : s.vm.findClass RX6 = some m.cls := findClass_of_methodNamed B.named
  have hlocks := B.notSynchronized
  rw [hH]
  have hl := lv_entry ([.ref ((ca 1)), .int t, .int o]) (n := 3) (Nat.le_of_ble_eq_true rfl)
  rw [lg_entry_eq]
  generalize (lg_sl ([.ref ((ca 1)), .int t, .int o]) ++ List.replicate (3 - (lg_sl ([.ref ((ca 1)), .int t, .int o])).length) Slot.unset).toArray = ls at hl ⊢
  have hl : lv_has ls 3 [(0, .ref ((ca 1))), (1, .int t), (2, .int o)] := hl
  refine lv_aload_n hx hb dX6_hasFace_0 rfl (lv_at hl 0 rfl) ?_
  refine lv_iload_n hx hb dX6_hasFace_1 rfl (lv_at hl 1 rfl) ?_
  refine ro_Vi (D := D) (G := G) (As := [.int t]) (rest := []) ⟨hx, hb, hml, hown, hts⟩ (c_has l D G _ ca σ x hP n h1 hn t) gV_X6_X6_has hdV_X6_has ⟨Nat.le_of_ble_eq_true rfl, Nat.le_of_ble_eq_true rfl⟩ hK (va_recv hK.1 hP (ci := 6) (q0 := 0) rfl rfl) rfl hl.1 rfl (Nat.le_of_ble_eq_true rfl) dX6_hasFace_2 ⟨Nat.le_of_ble_eq_true rfl, Nat.le_of_ble_eq_true rfl⟩ (fun r1 e_r1 => ?_)
  subst e_r1
  refine lv_if_eq (tgt := 34) hx hb dX6_hasFace_5 (by decide) (fun c2 => ?_) (fun c2 => ?_)
  · -- 5 taken
    have c2 := bI_0 c2
    refine lv_iconst (v := 0) hx hb dX6_hasFace_34 (by decide) ?_
    exact ro_zret (v := 0) hx hb hr hH hlocks dX6_hasFace_35 (Or.inl rfl) ((bI_f (by rw [bitN_def]; simp only [bitP_def, eq_false c2, not_true, not_false_iff, not_true_eq_false, not_false_eq_true, true_or, or_true, false_or, or_false, or_self, and_self, true_and, and_true, false_and, and_false, if_true, if_false])).symm)
  · -- 5 not
    have c2 := bI_1 c2
    obtain ⟨j3, h_j3, rfl⟩ := okN_ex (by omega) c2
    refine lv_aload_n hx hb dX6_hasFace_8 rfl (lv_at hl 0 rfl) ?_
    refine lv_iload_n hx hb dX6_hasFace_9 rfl (lv_at hl 2 rfl) ?_
    refine ro_Vi (D := D) (G := G) (As := [.int o]) (rest := []) ⟨hx, hb, hml, hown, hts⟩ (c_has l D G _ ca σ x hP n h1 hn o) gV_X6_X6_has hdV_X6_has ⟨Nat.le_of_ble_eq_true rfl, Nat.le_of_ble_eq_true rfl⟩ hK (va_recv hK.1 hP (ci := 6) (q0 := 0) rfl rfl) rfl hl.1 rfl (Nat.le_of_ble_eq_true rfl) dX6_hasFace_10 ⟨Nat.le_of_ble_eq_true rfl, Nat.le_of_ble_eq_true rfl⟩ (fun r4 e_r4 => ?_)
    subst e_r4
    refine lv_if_eq (tgt := 34) hx hb dX6_hasFace_13 (by decide) (fun c5 => ?_) (fun c5 => ?_)
    · -- 13 taken
      have c5 := bI_0 c5
      refine lv_iconst (v := 0) hx hb dX6_hasFace_34 (by decide) ?_
      exact ro_zret (v := 0) hx hb hr hH hlocks dX6_hasFace_35 (Or.inl rfl) ((bI_f (by rw [bitN_def]; simp only [bitP_def, eq_true c2, eq_false c5, nI_clamp (show j3 < 2 ^ 31 by omega), not_true, not_false_iff, not_true_eq_false, not_false_eq_true, true_or, or_true, false_or, or_false, or_self, and_self, true_and, and_true, false_and, and_false, if_true, if_false])).symm)
    · -- 13 not
      have c5 := bI_1 c5
      obtain ⟨j6, h_j6, rfl⟩ := okN_ex (by omega) c5
      refine lv_aload_n hx hb dX6_hasFace_16 rfl (lv_at hl 0 rfl) ?_
      refine va_get (D := D) (ci := 6) (v := .ref ((ca 4))) (C := RX6) (T := TX6) (N := 5) hx hb hts iX6 hown hK.1 hP 0 rfl rfl 2 (by decide) (hts _ q_37) (fun _ h9 => h9) rfl dX6_hasFace_17 ?_
      refine lv_iload_n hx hb dX6_hasFace_20 rfl (lv_at hl 1 rfl) ?_
      refine iald_n (f := x 0) hx hb hK.1 hP 3 0 rfl rfl (j3) rfl (by omega) (by decide) dX6_hasFace_21 ?_
      refine lv_iload_n hx hb dX6_hasFace_22 rfl (lv_at hl 2 rfl) ?_
      refine lv_ishr hx hb dX6_hasFace_23 ?_
      refine lv_iconst (v := 1) hx hb dX6_hasFace_24 (by decide) ?_
      refine lv_iand hx hb dX6_hasFace_25 ?_
      refine lv_iconst (v := 1) hx hb dX6_hasFace_26 (by decide) ?_
      refine lv_icmp_ne (tgt := 34) hx hb dX6_hasFace_27 (by decide) (fun c7 => ?_) (fun c7 => ?_)
      · -- 27 taken
        refine lv_iconst (v := 0) hx hb dX6_hasFace_34 (by decide) ?_
        exact ro_zret (v := 0) hx hb hr hH hlocks dX6_hasFace_35 (Or.inl rfl) ((bI_f (by rw [bitN_def]; simp only [bitP_def, eq_true c2, eq_true c5, eq_false c7, nI_clamp (show j3 < 2 ^ 31 by omega), nI_clamp (show j6 < 2 ^ 31 by omega), not_true, not_false_iff, not_true_eq_false, not_false_eq_true, true_or, or_true, false_or, or_false, or_self, and_self, true_and, and_true, false_and, and_false, if_true, if_false])).symm)
      · -- 27 not
        refine lv_iconst (v := 1) hx hb dX6_hasFace_30 (by decide) ?_
        refine lv_goto (tgt := 35) hx hb dX6_hasFace_31 (by decide) ?_
        exact ro_zret (v := 1) hx hb hr hH hlocks dX6_hasFace_35 (Or.inr rfl) ((bI_t (by rw [bitN_def]; simp only [bitP_def, eq_true c2, eq_true c5, eq_true c7, nI_clamp (show j3 < 2 ^ 31 by omega), nI_clamp (show j6 < 2 ^ 31 by omega), not_true, not_false_iff, not_true_eq_false, not_false_eq_true, true_or, or_true, false_or, or_false, or_self, and_self, true_and, and_true, false_and, and_false, if_true, if_false])).symm)
set_option maxHeartbeats 4000000 in
set_option maxRecDepth 100000 in
theorem c_isBelow (l : Launch) (D : va_G) (G : Nat → ClassId) (H : Heap) (ca : Nat → Nat) (σ x : MS) (hP : va_P D vwCl (tyW G ca σ x) H) (n : Nat) (h1 : σ 1 0 = nI n) (hn : n ≤ 12) (t : Int32) (o : Int32) : Met l yX6_isBelow (ww yX6_isBelow cX6_isBelow 3 (some .boolean)) (rmD 0) (roP D G H [.ref ((ca 1)), .int t, .int o]) (vp_Si (fun r => r = bI (bitN (x 1) n t o))) 0 0 (fun _ => False) := by
  refine Met.ofW (cc := cX6_isBelow) (maxL := 3) (ret := (some .boolean)) (by decide) rfl ?_
  intro p e s m args below meth c s₁ B hml hv
  obtain ⟨rfl, hH, hK⟩ := hv
  have hx := B.exec
  have hb := B.bytes
  have hr := B.returns
  have hts : ∀ w ∈ TT, w.before _ s = true := fun w h => atoms_spec (ws := ww yX6_isBelow cX6_isBelow 3 (some .boolean)) B.pre w (List.mem_cons_of_mem _ h)
  have hown : s.vm.findClass RX6 = some m.cls := findClass_of_methodNamed B.named
  have hlocks := B.notSynchronized
  rw [hH]
  have hl := lv_entry ([.ref ((ca 1)), .int t, .int o]) (n := 3) (Nat.le_of_ble_eq_true rfl)
  rw [lg_entry_eq]
  generalize (lg_sl ([.ref ((ca 1)), .int t, .int o]) ++ List.replicate (3 - (lg_sl ([.ref ((ca 1)), .int t, .int o])).length) Slot.unset).toArray = ls at hl ⊢
  have hl : lv_has ls 3 [(0, .ref ((ca 1))), (1, .int t), (2, .int o)] := hl
  refine lv_iload_n hx hb dX6_isBelow_0 rfl (lv_at hl 1 rfl) ?_
  refine lv_if_lt (tgt := 42) hx hb dX6_isBelow_1 (by decide) (fun c1 => ?_) (fun c1 => ?_)
  · -- 1 taken
    refine lv_iconst (v := 0) hx hb dX6_isBelow_42 (by decide) ?_
    exact ro_zret (v := 0) hx hb hr hH hlocks dX6_isBelow_43 (Or.inl rfl) ((bI_f (by simp only [bitN_def, okN_lt, ← h1, bitP_def, eq_true c1, not_true, not_false_iff, not_true_eq_false, not_false_eq_true, true_or, or_true, false_or, or_false, or_self, and_self, true_and, and_true, false_and, and_false, if_true, if_false])).symm)
  · -- 1 not
    refine lv_iload_n hx hb dX6_isBelow_4 rfl (lv_at hl 1 rfl) ?_
    refine lv_aload_n hx hb dX6_isBelow_5 rfl (lv_at hl 0 rfl) ?_
    refine va_get (D := D) (ci := 6) (v := .int (σ 1 0)) (C := RX6) (T := TX6) (N := 5) hx hb hts iX6 hown hK.1 hP 0 rfl rfl 4 (by decide) (hts _ q_39) (fun _ h9 => h9) rfl dX6_isBelow_6 ?_
    refine lv_icmp_ge (tgt := 42) hx hb dX6_isBelow_9 (by decide) (fun c2 => ?_) (fun c2 => ?_)
    · -- 9 taken
      refine lv_iconst (v := 0) hx hb dX6_isBelow_42 (by decide) ?_
      exact ro_zret (v := 0) hx hb hr hH hlocks dX6_isBelow_43 (Or.inl rfl) ((bI_f (by simp only [bitN_def, okN_lt, ← h1, bitP_def, eq_false c1, eq_true c2, not_true, not_false_iff, not_true_eq_false, not_false_eq_true, true_or, or_true, false_or, or_false, or_self, and_self, true_and, and_true, false_and, and_false, if_true, if_false])).symm)
    · -- 9 not
      obtain ⟨j1, h_j1, rfl⟩ := okN_ex (n := n) (by omega) (okN_lt.mpr ⟨c1, by rw [← h1]; exact c2⟩)
      refine lv_iload_n hx hb dX6_isBelow_12 rfl (lv_at hl 2 rfl) ?_
      refine lv_if_lt (tgt := 42) hx hb dX6_isBelow_13 (by decide) (fun c3 => ?_) (fun c3 => ?_)
      · -- 13 taken
        refine lv_iconst (v := 0) hx hb dX6_isBelow_42 (by decide) ?_
        exact ro_zret (v := 0) hx hb hr hH hlocks dX6_isBelow_43 (Or.inl rfl) ((bI_f (by simp only [bitN_def, okN_lt, ← h1, bitP_def, eq_false c1, eq_false c2, eq_true c3, nI_clamp (show j1 < 2 ^ 31 by omega), not_true, not_false_iff, not_true_eq_false, not_false_eq_true, true_or, or_true, false_or, or_false, or_self, and_self, true_and, and_true, false_and, and_false, if_true, if_false])).symm)
      · -- 13 not
        refine lv_iload_n hx hb dX6_isBelow_16 rfl (lv_at hl 2 rfl) ?_
        refine lv_aload_n hx hb dX6_isBelow_17 rfl (lv_at hl 0 rfl) ?_
        refine va_get (D := D) (ci := 6) (v := .int (σ 1 0)) (C := RX6) (T := TX6) (N := 5) hx hb hts iX6 hown hK.1 hP 0 rfl rfl 4 (by decide) (hts _ q_39) (fun _ h9 => h9) rfl dX6_isBelow_18 ?_
        refine lv_icmp_ge (tgt := 42) hx hb dX6_isBelow_21 (by decide) (fun c4 => ?_) (fun c4 => ?_)
        · -- 21 taken
          refine lv_iconst (v := 0) hx hb dX6_isBelow_42 (by decide) ?_
          exact ro_zret (v := 0) hx hb hr hH hlocks dX6_isBelow_43 (Or.inl rfl) ((bI_f (by simp only [bitN_def, okN_lt, ← h1, bitP_def, eq_false c1, eq_false c2, eq_false c3, eq_true c4, nI_clamp (show j1 < 2 ^ 31 by omega), not_true, not_false_iff, not_true_eq_false, not_false_eq_true, true_or, or_true, false_or, or_false, or_self, and_self, true_and, and_true, false_and, and_false, if_true, if_false])).symm)
        · -- 21 not
          obtain ⟨j2, h_j2, rfl⟩ := okN_ex (n := n) (by omega) (okN_lt.mpr ⟨c3, by rw [← h1]; exact c4⟩)
          refine lv_aload_n hx hb dX6_isBelow_24 rfl (lv_at hl 0 rfl) ?_
          refine va_get (D := D) (ci := 6) (v := .ref ((ca 5))) (C := RX6) (T := TX6) (N := 5) hx hb hts iX6 hown hK.1 hP 0 rfl rfl 3 (by decide) (hts _ q_38) (fun _ h9 => h9) rfl dX6_isBelow_25 ?_
          refine lv_iload_n hx hb dX6_isBelow_28 rfl (lv_at hl 1 rfl) ?_
          refine iald_n (f := x 1) hx hb hK.1 hP 4 0 rfl rfl (j1) rfl (by omega) (by decide) dX6_isBelow_29 ?_
          refine lv_iload_n hx hb dX6_isBelow_30 rfl (lv_at hl 2 rfl) ?_
          refine lv_ishr hx hb dX6_isBelow_31 ?_
          refine lv_iconst (v := 1) hx hb dX6_isBelow_32 (by decide) ?_
          refine lv_iand hx hb dX6_isBelow_33 ?_
          refine lv_iconst (v := 1) hx hb dX6_isBelow_34 (by decide) ?_
          refine lv_icmp_ne (tgt := 42) hx hb dX6_isBelow_35 (by decide) (fun c5 => ?_) (fun c5 => ?_)
          · -- 35 taken
            refine lv_iconst (v := 0) hx hb dX6_isBelow_42 (by decide) ?_
            exact ro_zret (v := 0) hx hb hr hH hlocks dX6_isBelow_43 (Or.inl rfl) ((bI_f (by simp only [bitN_def, okN_lt, ← h1, bitP_def, eq_false c1, eq_false c2, eq_false c3, eq_false c4, eq_false c5, nI_clamp (show j1 < 2 ^ 31 by omega), nI_clamp (show j2 < 2 ^ 31 by omega), not_true, not_false_iff, not_true_eq_false, not_false_eq_true, true_or, or_true, false_or, or_false, or_self, and_self, true_and, and_true, false_and, and_false, if_true, if_false])).symm)
          · -- 35 not
            refine lv_iconst (v := 1) hx hb dX6_isBelow_38 (by decide) ?_
            refine lv_goto (tgt := 43) hx hb dX6_isBelow_39 (by decide) ?_
            exact ro_zret (v := 1) hx hb hr hH hlocks dX6_isBelow_43 (Or.inr rfl) ((bI_t (by simp only [bitN_def, okN_lt, ← h1, bitP_def, eq_false c1, eq_false c2, eq_false c3, eq_false c4, eq_true c5, nI_clamp (show j1 < 2 ^ 31 by omega), nI_clamp (show j2 < 2 ^ 31 by omega), not_true, not_false_iff, not_true_eq_false, not_false_eq_true, true_or, or_true, false_or, or_false, or_self, and_self, true_and, and_true, false_and, and_false, if_true, if_false])).symm)
theorem bitN_n {f : Nat → Int32} {n t o : Nat} (hn : n ≤ 12) (ht : t < n) (ho : o < n) : bitN f n (nI t) (nI o) ↔ bitP (f t) o := by
  rw [bitN_def, nI_clamp (by omega), nI_clamp (by omega)]
  exact ⟨fun h => h.2.2, fun h => ⟨okN_nI (by omega) ht, okN_nI (by omega) ho, h⟩⟩
/-- the masks say what the tables say -/
abbrev abO (σ x : MS) (n : Nat) : Prop := ∀ t, t < n → ∀ o, o < n → (bitP (x 1 t) o ↔ lyP σ t o)
abbrev faO (σ x : MS) (n : Nat) : Prop := ∀ t, t < n → ∀ o, o < n → (bitP (x 0 t) o ↔ ∃ i, i < (σ 5 t).toNatClampNeg ∧ σ 4 (3 * t + i) = nI o)
theorem soF_n {f : Nat → Int32} {n t : Nat} (hn : n ≤ 12) (ht : t < n) : soF f n (nI t) = f t := by unfold soF; rw [if_pos (okN_nI (by omega) ht), nI_clamp (by omega)]
theorem c_isBelowN (l : Launch) (D : va_G) (G : Nat → ClassId) (H : Heap) (ca : Nat → Nat) (σ x : MS) (hP : va_P D vwCl (tyW G ca σ x) H) (n : Nat) (h1 : σ 1 0 = nI n) (hn : n ≤ 12) (hab : abO σ x n) (t o : Nat) (ht : t < n) (ho : o < n) : Met l yX6_isBelow (ww yX6_isBelow cX6_isBelow 3 (some .boolean)) (rmD 0) (roP D G H [.ref (ca 1), .int (nI t), .int (nI o)]) (vp_Si (fun r => r = bI (lyP σ t o))) 0 0 (fun _ => False) := by
  have h := c_isBelow l D G H ca σ x hP n h1 hn (nI t) (nI o)
  rwa [bI_c ((bitN_n hn ht ho).trans (hab t ht o ho))] at h
theorem c_isFaceN (l : Launch) (D : va_G) (G : Nat → ClassId) (H : Heap) (ca : Nat → Nat) (σ x : MS) (hP : va_P D vwCl (tyW G ca σ x) H) (n : Nat) (h1 : σ 1 0 = nI n) (hn : n ≤ 12) (t : Nat) (ht : t < n) : Met l yX6_isFace (ww yX6_isFace cX6_isFace 2 (some .boolean)) (rmD 2) (roP D G H [.ref (ca 1), .int (nI t)]) (vp_Si (fun r => r = bI (σ 2 t = 3))) 0 0 (fun _ => False) := by
  have h := c_isFace l D G H ca σ x hP n h1 hn (nI t)
  rwa [soF_n hn ht] at h
set_option maxHeartbeats 4000000 in
set_option maxRecDepth 100000 in
theorem c_isFull (l : Launch) (D : va_G) (G : Nat → ClassId) (H : Heap) (r0 a0 b0 : Nat) (f g : Nat → Int32) (z : Nat) (hz : z ≤ 5) (hP : va_P D vwCl (rwW G r0 a0 b0 f g (nI z)) H)  : Met l yX4_isFull (ww yX4_isFull cX4_isFull 1 (some .boolean)) (rmD 0) (roP D G H [.ref r0]) (vp_Si (fun r => r = bI (z = 5))) 0 0 (fun _ => False) := by
  refine Met.ofW (cc := cX4_isFull) (maxL := 1) (ret := (some .boolean)) (by decide) rfl ?_
  intro p e s m args below meth c s₁ B hml hv
  obtain ⟨rfl, hH, hK⟩ := hv
  have hx := B.exec
  have hb := B.bytes
  have hr := B.returns
  have hts : ∀ w ∈ TT, w.before _ s = true := fun w h => atoms_spec (ws := ww yX4_isFull cX4_isFull 1 (some .boolean)) B.pre w (List.mem_cons_of_mem _ h)
  have hown : s.vm.findClass RX4 = some m.cls := findClass_of_methodNamed B.named
  have hlocks := B.notSynchronized
  rw [hH]
  have hl := lv_entry ([.ref r0]) (n := 1) (Nat.le_of_ble_eq_true rfl)
  rw [lg_entry_eq]
  generalize (lg_sl ([.ref r0]) ++ List.replicate (1 - (lg_sl ([.ref r0])).length) Slot.unset).toArray = ls at hl ⊢
  have hl : lv_has ls 1 [(0, .ref r0)] := hl
  refine lv_aload_n hx hb dX4_isFull_0 rfl (lv_at hl 0 rfl) ?_
  refine va_get (D := D) (ci := 5) (v := .int (nI z)) (C := RX4) (T := TX4) (N := 3) hx hb hts iX4 hown hK.1 hP 0 rfl rfl 2 (by decide) (hts _ q_63) (fun _ h9 => h9) rfl dX4_isFull_1 ?_
  refine lv_iconst (v := 5) hx hb dX4_isFull_4 (by decide) ?_
  refine lv_icmp_lt (tgt := 12) hx hb dX4_isFull_5 (by decide) (fun c1 => ?_) (fun c1 => ?_)
  · -- 5 taken
    refine lv_iconst (v := 0) hx hb dX4_isFull_12 (by decide) ?_
    exact ro_zret (v := 0) hx hb hr hH hlocks dX4_isFull_13 (Or.inl rfl) ((bI_f (by have h8 := c1; simp only [i_lt, n_ti (show z < 2 ^ 31 by omega), Int32.reduceToInt] at h8; omega)).symm)
  · -- 5 not
    refine lv_iconst (v := 1) hx hb dX4_isFull_8 (by decide) ?_
    refine lv_goto (tgt := 13) hx hb dX4_isFull_9 (by decide) ?_
    exact ro_zret (v := 1) hx hb hr hH hlocks dX4_isFull_13 (Or.inr rfl) ((bI_t (by have h8 := c1; simp only [i_lt, n_ti (show z < 2 ^ 31 by omega), Int32.reduceToInt] at h8; omega)).symm)
set_option maxHeartbeats 4000000 in
set_option maxRecDepth 100000 in
theorem c_rkindAt (l : Launch) (D : va_G) (G : Nat → ClassId) (H : Heap) (r0 a0 b0 : Nat) (f g : Nat → Int32) (z : Nat) (hz : z ≤ 5) (hP : va_P D vwCl (rwW G r0 a0 b0 f g (nI z)) H) (i : Int32) : Met l yX4_kindAt (ww yX4_kindAt cX4_kindAt 2 (some .int)) (rmD 0) (roP D G H [.ref r0, .int i]) (vp_Si (fun r => r = rkF f z i)) 0 0 (fun _ => False) := by
  refine Met.ofW (cc := cX4_kindAt) (maxL := 2) (ret := (some .int)) (by decide) rfl ?_
  intro p e s m args below meth c s₁ B hml hv
  obtain ⟨rfl, hH, hK⟩ := hv
  have hx := B.exec
  have hb := B.bytes
  have hr := B.returns
  have hts : ∀ w ∈ TT, w.before _ s = true := fun w h => atoms_spec (ws := ww yX4_kindAt cX4_kindAt 2 (some .int)) B.pre w (List.mem_cons_of_mem _ h)
  have hown : s.vm.findClass RX4 = some m.cls := findClass_of_methodNamed B.named
  have hlocks := B.notSynchronized
  rw [hH]
  have hl := lv_entry ([.ref r0, .int i]) (n := 2) (Nat.le_of_ble_eq_true rfl)
  rw [lg_entry_eq]
  generalize (lg_sl ([.ref r0, .int i]) ++ List.replicate (2 - (lg_sl ([.ref r0, .int i])).length) Slot.unset).toArray = ls at hl ⊢
  have hl : lv_has ls 2 [(0, .ref r0), (1, .int i)] := hl
  refine lv_iload_n hx hb dX4_kindAt_0 rfl (lv_at hl 1 rfl) ?_
  refine lv_if_lt (tgt := 21) hx hb dX4_kindAt_1 (by decide) (fun c1 => ?_) (fun c1 => ?_)
  · -- 1 taken
    refine lv_iconst (v := -1) hx hb dX4_kindAt_21 (by decide) ?_
    exact ro_iret (v := (-1)) hx hb hr hH hlocks dX4_kindAt_22 (by unfold rkF; simp only [okN_lt, eq_true c1, not_true, not_false_iff, not_true_eq_false, not_false_eq_true, true_or, or_true, false_or, or_false, or_self, and_self, true_and, and_true, false_and, and_false, if_true, if_false])
  · -- 1 not
    refine lv_iload_n hx hb dX4_kindAt_4 rfl (lv_at hl 1 rfl) ?_
    refine lv_aload_n hx hb dX4_kindAt_5 rfl (lv_at hl 0 rfl) ?_
    refine va_get (D := D) (ci := 5) (v := .int (nI z)) (C := RX4) (T := TX4) (N := 3) hx hb hts iX4 hown hK.1 hP 0 rfl rfl 2 (by decide) (hts _ q_63) (fun _ h9 => h9) rfl dX4_kindAt_6 ?_
    refine lv_icmp_ge (tgt := 21) hx hb dX4_kindAt_9 (by decide) (fun c2 => ?_) (fun c2 => ?_)
    · -- 9 taken
      refine lv_iconst (v := -1) hx hb dX4_kindAt_21 (by decide) ?_
      exact ro_iret (v := (-1)) hx hb hr hH hlocks dX4_kindAt_22 (by unfold rkF; simp only [okN_lt, eq_false c1, eq_true c2, not_true, not_false_iff, not_true_eq_false, not_false_eq_true, true_or, or_true, false_or, or_false, or_self, and_self, true_and, and_true, false_and, and_false, if_true, if_false])
    · -- 9 not
      obtain ⟨j1, h_j1, rfl⟩ := okN_ex (n := z) (by omega) (okN_lt.mpr ⟨c1, c2⟩)
      refine lv_aload_n hx hb dX4_kindAt_12 rfl (lv_at hl 0 rfl) ?_
      refine va_get (D := D) (ci := 5) (v := .ref a0) (C := RX4) (T := TX4) (N := 3) hx hb hts iX4 hown hK.1 hP 0 rfl rfl 0 (by decide) (hts _ q_61) (fun _ h9 => h9) rfl dX4_kindAt_13 ?_
      refine lv_iload_n hx hb dX4_kindAt_16 rfl (lv_at hl 1 rfl) ?_
      refine iald_n (f := f) hx hb hK.1 hP 1 0 rfl rfl (j1) rfl (by omega) (by decide) dX4_kindAt_17 ?_
      refine lv_goto (tgt := 22) hx hb dX4_kindAt_18 (by decide) ?_
      exact ro_iret (v := f j1) hx hb hr hH hlocks dX4_kindAt_22 (by unfold rkF; simp only [okN_lt, eq_false c1, eq_false c2, nI_clamp (show j1 < 2 ^ 31 by omega), not_true, not_false_iff, not_true_eq_false, not_false_eq_true, true_or, or_true, false_or, or_false, or_self, and_self, true_and, and_true, false_and, and_false, if_true, if_false])
theorem c_rkindAtN (l : Launch) (D : va_G) (G : Nat → ClassId) (H : Heap) (r0 a0 b0 : Nat) (f g : Nat → Int32) (z : Nat) (hz : z ≤ 5) (hP : va_P D vwCl (rwW G r0 a0 b0 f g (nI z)) H) (j : Nat) (hj : j < z) : Met l yX4_kindAt (ww yX4_kindAt cX4_kindAt 2 (some .int)) (rmD 0) (roP D G H [.ref r0, .int (nI j)]) (vp_Si (fun r => r = f j)) 0 0 (fun _ => False) := by
  have h := c_rkindAt l D G H r0 a0 b0 f g z hz hP (nI j)
  rwa [rkF_n hz hj] at h
set_option maxHeartbeats 4000000 in
set_option maxRecDepth 100000 in
theorem c_rdimsAt (l : Launch) (D : va_G) (G : Nat → ClassId) (H : Heap) (r0 a0 b0 : Nat) (f g : Nat → Int32) (z : Nat) (hz : z ≤ 5) (hP : va_P D vwCl (rwW G r0 a0 b0 f g (nI z)) H) (i : Int32) : Met l yX4_dimsAt (ww yX4_dimsAt cX4_dimsAt 2 (some .int)) (rmD 0) (roP D G H [.ref r0, .int i]) (vp_Si (fun r => r = rkF g z i)) 0 0 (fun _ => False) := by
  refine Met.ofW (cc := cX4_dimsAt) (maxL := 2) (ret := (some .int)) (by decide) rfl ?_
  intro p e s m args below meth c s₁ B hml hv
  obtain ⟨rfl, hH, hK⟩ := hv
  have hx := B.exec
  have hb := B.bytes
  have hr := B.returns
  have hts : ∀ w ∈ TT, w.before _ s = true := fun w h => atoms_spec (ws := ww yX4_dimsAt cX4_dimsAt 2 (some .int)) B.pre w (List.mem_cons_of_mem _ h)
  have hown : s.vm.findClass RX4 = some m.cls := findClass_of_methodNamed B.named
  have hlocks := B.notSynchronized
  rw [hH]
  have hl := lv_entry ([.ref r0, .int i]) (n := 2) (Nat.le_of_ble_eq_true rfl)
  rw [lg_entry_eq]
  generalize (lg_sl ([.ref r0, .int i]) ++ List.replicate (2 - (lg_sl ([.ref r0, .int i])).length) Slot.unset).toArray = ls at hl ⊢
  have hl : lv_has ls 2 [(0, .ref r0), (1, .int i)] := hl
  refine lv_iload_n hx hb dX4_dimsAt_0 rfl (lv_at hl 1 rfl) ?_
  refine lv_if_lt (tgt := 21) hx hb dX4_dimsAt_1 (by decide) (fun c1 => ?_) (fun c1 => ?_)
  · -- 1 taken
    refine lv_iconst (v := -1) hx hb dX4_dimsAt_21 (by decide) ?_
    exact ro_iret (v := (-1)) hx hb hr hH hlocks dX4_dimsAt_22 (by unfold rkF; simp only [okN_lt, eq_true c1, not_true, not_false_iff, not_true_eq_false, not_false_eq_true, true_or, or_true, false_or, or_false, or_self, and_self, true_and, and_true, false_and, and_false, if_true, if_false])
  · -- 1 not
    refine lv_iload_n hx hb dX4_dimsAt_4 rfl (lv_at hl 1 rfl) ?_
    refine lv_aload_n hx hb dX4_dimsAt_5 rfl (lv_at hl 0 rfl) ?_
    refine va_get (D := D) (ci := 5) (v := .int (nI z)) (C := RX4) (T := TX4) (N := 3) hx hb hts iX4 hown hK.1 hP 0 rfl rfl 2 (by decide) (hts _ q_63) (fun _ h9 => h9) rfl dX4_dimsAt_6 ?_
    refine lv_icmp_ge (tgt := 21) hx hb dX4_dimsAt_9 (by decide) (fun c2 => ?_) (fun c2 => ?_)
    · -- 9 taken
      refine lv_iconst (v := -1) hx hb dX4_dimsAt_21 (by decide) ?_
      exact ro_iret (v := (-1)) hx hb hr hH hlocks dX4_dimsAt_22 (by unfold rkF; simp only [okN_lt, eq_false c1, eq_true c2, not_true, not_false_iff, not_true_eq_false, not_false_eq_true, true_or, or_true, false_or, or_false, or_self, and_self, true_and, and_true, false_and, and_false, if_true, if_false])
    · -- 9 not
      obtain ⟨j1, h_j1, rfl⟩ := okN_ex (n := z) (by omega) (okN_lt.mpr ⟨c1, c2⟩)
      refine lv_aload_n hx hb dX4_dimsAt_12 rfl (lv_at hl 0 rfl) ?_
      refine va_get (D := D) (ci := 5) (v := .ref b0) (C := RX4) (T := TX4) (N := 3) hx hb hts iX4 hown hK.1 hP 0 rfl rfl 1 (by decide) (hts _ q_62) (fun _ h9 => h9) rfl dX4_dimsAt_13 ?_
      refine lv_iload_n hx hb dX4_dimsAt_16 rfl (lv_at hl 1 rfl) ?_
      refine iald_n (f := g) hx hb hK.1 hP 2 0 rfl rfl (j1) rfl (by omega) (by decide) dX4_dimsAt_17 ?_
      refine lv_goto (tgt := 22) hx hb dX4_dimsAt_18 (by decide) ?_
      exact ro_iret (v := g j1) hx hb hr hH hlocks dX4_dimsAt_22 (by unfold rkF; simp only [okN_lt, eq_false c1, eq_false c2, nI_clamp (show j1 < 2 ^ 31 by omega), not_true, not_false_iff, not_true_eq_false, not_false_eq_true, true_or, or_true, false_or, or_false, or_self, and_self, true_and, and_true, false_and, and_false, if_true, if_false])
theorem c_rdimsAtN (l : Launch) (D : va_G) (G : Nat → ClassId) (H : Heap) (r0 a0 b0 : Nat) (f g : Nat → Int32) (z : Nat) (hz : z ≤ 5) (hP : va_P D vwCl (rwW G r0 a0 b0 f g (nI z)) H) (j : Nat) (hj : j < z) : Met l yX4_dimsAt (ww yX4_dimsAt cX4_dimsAt 2 (some .int)) (rmD 0) (roP D G H [.ref r0, .int (nI j)]) (vp_Si (fun r => r = g j)) 0 0 (fun _ => False) := by
  have h := c_rdimsAt l D G H r0 a0 b0 f g z hz hP (nI j)
  rwa [rkF_n hz hj] at h
set_option maxHeartbeats 4000000 in
set_option maxRecDepth 100000 in
theorem c_isSame (l : Launch) (D : va_G) (G : Nat → ClassId) (H : Heap) (r0 a0 b0 : Nat) (f g : Nat → Int32) (z : Nat) (hz : z ≤ 5) (hP : va_P D vwCl (rwW G r0 a0 b0 f g (nI z)) H) (r1 a1 b1 : Nat) (f1 g1 : Nat → Int32) (z1 : Nat) (hz1 : z1 ≤ 5) (hP2 : va_P D vwCl (rwW G r1 a1 b1 f1 g1 (nI z1)) H) : Met l yX4_isSame (ww yX4_isSame cX4_isSame 3 (some .boolean)) (rmD 1) (roP D G H [.ref r0, .ref r1]) (vp_Si (fun r => r = bI (rsP f g f1 g1 z z1 z))) 0 0 (fun _ => False) := by
  refine Met.ofW (cc := cX4_isSame) (maxL := 3) (ret := (some .boolean)) (by decide) rfl ?_
  intro p e s m args below meth c s₁ B hml hv
  obtain ⟨rfl, hH, hK⟩ := hv
  have hx := B.exec
  have hb := B.bytes
  have hr := B.returns
  have hts : ∀ w ∈ TT, w.before _ s = true := fun w h => atoms_spec (ws := ww yX4_isSame cX4_isSame 3 (some .boolean)) B.pre w (List.mem_cons_of_mem _ h)
  have hown : s.vm.findClass RX4 = some m.cls := findClass_of_methodNamed B.named
  have hlocks := B.notSynchronized
  rw [hH]
  have hl := lv_entry ([.ref r0, .ref r1]) (n := 3) (Nat.le_of_ble_eq_true rfl)
  rw [lg_entry_eq]
  generalize (lg_sl ([.ref r0, .ref r1]) ++ List.replicate (3 - (lg_sl ([.ref r0, .ref r1])).length) Slot.unset).toArray = ls at hl ⊢
  have hl : lv_has ls 3 [(0, .ref r0), (1, .ref r1)] := hl
  refine lv_aload_n hx hb dX4_isSame_0 rfl (lv_at hl 0 rfl) ?_
  refine va_get (D := D) (ci := 5) (v := .int (nI z)) (C := RX4) (T := TX4) (N := 3) hx hb hts iX4 hown hK.1 hP 0 rfl rfl 2 (by decide) (hts _ q_63) (fun _ h9 => h9) rfl dX4_isSame_1 ?_
  refine lv_aload_n hx hb dX4_isSame_4 rfl (lv_at hl 1 rfl) ?_
  refine va_get (D := D) (ci := 5) (v := .int (nI z1)) (C := RX4) (T := TX4) (N := 3) hx hb hts iX4 hown hK.1 hP2 0 rfl rfl 2 (by decide) (hts _ q_63) (fun _ h9 => h9) rfl dX4_isSame_5 ?_
  refine lv_icmp_eq (tgt := 13) hx hb dX4_isSame_8 (by decide) (fun c1 => ?_) (fun c1 => ?_)
  · -- 8 taken
    have c1 := nI_inj (by omega) (by omega) c1
    refine lv_iconst (v := 0) hx hb dX4_isSame_13 (by decide) ?_
    refine lv_istore_n (lv' := [(2, .int 0), (0, .ref r0), (1, .ref r1)]) hx hb dX4_isSame_14 rfl hl (by decide) rfl (fun ls hl => ?_)
    refine w_for (N := z) 15 (L := fun q9 ls => lv_has ls 3 [(2, .int (nI q9)), (0, .ref r0), (1, .ref r1)] ∧ ∀ j, j < q9 → f j = f1 j ∧ g j = g1 j) (fun k9 ls hk hL ih => ?_) 0 ls (Nat.zero_le _) ⟨hl, fun j hj => absurd hj (Nat.not_lt_zero j)⟩
    obtain ⟨hl, hi⟩ := hL
    have hl : lv_has ls 3 [(2, .int (nI k9)), (0, .ref r0), (1, .ref r1)] := hl
    refine lv_iload_n hx hb dX4_isSame_15 rfl (lv_at hl 0 rfl) ?_
    refine lv_aload_n hx hb dX4_isSame_16 rfl (lv_at hl 1 rfl) ?_
    refine va_get (D := D) (ci := 5) (v := .int (nI z)) (C := RX4) (T := TX4) (N := 3) hx hb hts iX4 hown hK.1 hP 0 rfl rfl 2 (by decide) (hts _ q_63) (fun _ h9 => h9) rfl dX4_isSame_17 ?_
    refine lv_icmp_ge (tgt := 57) hx hb dX4_isSame_20 (by decide) (fun c2 => ?_) (fun c2 => ?_)
    · -- 20 taken
      have c2 : z ≤ k9 := (nI_leI (a := z) (b := k9) (by omega) (by omega)).mp (by have h8 := c2; exact h8)
      refine lv_iconst (v := 1) hx hb dX4_isSame_57 (by decide) ?_
      exact ro_zret (v := 1) hx hb hr hH hlocks dX4_isSame_58 (Or.inr rfl) ((bI_t (by rw [rsP_def]; exact ⟨c1, fun j hj => hi j (by omega)⟩)).symm)
    · -- 20 not
      have c2 : ¬ z ≤ k9 := fun h9 => c2 (by exact (nI_leI (a := z) (b := k9) (by omega) (by omega)).mpr h9)
      refine lv_aload_n hx hb dX4_isSame_23 rfl (lv_at hl 1 rfl) ?_
      refine lv_iload_n hx hb dX4_isSame_24 rfl (lv_at hl 0 rfl) ?_
      refine ro_Vi (D := D) (G := G) (As := [.int (nI k9)]) (rest := []) ⟨hx, hb, hml, hown, hts⟩ (c_rkindAtN l D G _ _ _ _ _ _ _ (by omega) hP (k9) (by omega)) gV_X4_X4_kindAt hdV_X4_kindAt ⟨Nat.le_of_ble_eq_true rfl, Nat.le_of_ble_eq_true rfl⟩ hK (va_recv hK.1 hP (ci := 5) (q0 := 0) rfl rfl) rfl hl.1 rfl (Nat.le_of_ble_eq_true rfl) dX4_isSame_25 ⟨Nat.le_of_ble_eq_true rfl, Nat.le_of_ble_eq_true rfl⟩ (fun r3 e_r3 => ?_)
      subst e_r3
      refine lv_aload_n hx hb dX4_isSame_28 rfl (lv_at hl 2 rfl) ?_
      refine lv_iload_n hx hb dX4_isSame_29 rfl (lv_at hl 0 rfl) ?_
      refine ro_Vi (D := D) (G := G) (As := [.int (nI k9)]) (rest := [.int (f k9)]) ⟨hx, hb, hml, hown, hts⟩ (c_rkindAtN l D G _ _ _ _ _ _ _ (by omega) hP2 (k9) (by omega)) gV_X4_X4_kindAt hdV_X4_kindAt ⟨Nat.le_of_ble_eq_true rfl, Nat.le_of_ble_eq_true rfl⟩ hK (va_recv hK.1 hP2 (ci := 5) (q0 := 0) rfl rfl) rfl hl.1 rfl (Nat.le_of_ble_eq_true rfl) dX4_isSame_30 ⟨Nat.le_of_ble_eq_true rfl, Nat.le_of_ble_eq_true rfl⟩ (fun r4 e_r4 => ?_)
      subst e_r4
      refine lv_icmp_ne (tgt := 49) hx hb dX4_isSame_33 (by decide) (fun c5 => ?_) (fun c5 => ?_)
      · -- 33 taken
        refine lv_iconst (v := 0) hx hb dX4_isSame_49 (by decide) ?_
        exact ro_zret (v := 0) hx hb hr hH hlocks dX4_isSame_50 (Or.inl rfl) ((bI_f (by rw [rsP_def]; exact fun h9 => c5 (h9.2 k9 (by omega)).1)).symm)
      · -- 33 not
        refine lv_aload_n hx hb dX4_isSame_36 rfl (lv_at hl 1 rfl) ?_
        refine lv_iload_n hx hb dX4_isSame_37 rfl (lv_at hl 0 rfl) ?_
        refine ro_Vi (D := D) (G := G) (As := [.int (nI k9)]) (rest := []) ⟨hx, hb, hml, hown, hts⟩ (c_rdimsAtN l D G _ _ _ _ _ _ _ (by omega) hP (k9) (by omega)) gV_X4_X4_dimsAt hdV_X4_dimsAt ⟨Nat.le_of_ble_eq_true rfl, Nat.le_of_ble_eq_true rfl⟩ hK (va_recv hK.1 hP (ci := 5) (q0 := 0) rfl rfl) rfl hl.1 rfl (Nat.le_of_ble_eq_true rfl) dX4_isSame_38 ⟨Nat.le_of_ble_eq_true rfl, Nat.le_of_ble_eq_true rfl⟩ (fun r6 e_r6 => ?_)
        subst e_r6
        refine lv_aload_n hx hb dX4_isSame_41 rfl (lv_at hl 2 rfl) ?_
        refine lv_iload_n hx hb dX4_isSame_42 rfl (lv_at hl 0 rfl) ?_
        refine ro_Vi (D := D) (G := G) (As := [.int (nI k9)]) (rest := [.int (g k9)]) ⟨hx, hb, hml, hown, hts⟩ (c_rdimsAtN l D G _ _ _ _ _ _ _ (by omega) hP2 (k9) (by omega)) gV_X4_X4_dimsAt hdV_X4_dimsAt ⟨Nat.le_of_ble_eq_true rfl, Nat.le_of_ble_eq_true rfl⟩ hK (va_recv hK.1 hP2 (ci := 5) (q0 := 0) rfl rfl) rfl hl.1 rfl (Nat.le_of_ble_eq_true rfl) dX4_isSame_43 ⟨Nat.le_of_ble_eq_true rfl, Nat.le_of_ble_eq_true rfl⟩ (fun r7 e_r7 => ?_)
        subst e_r7
        refine lv_icmp_eq (tgt := 51) hx hb dX4_isSame_46 (by decide) (fun c8 => ?_) (fun c8 => ?_)
        · -- 46 taken
          refine lv_iinc (v := nI (k9 + 1)) (lv' := [(2, .int (nI (k9 + 1))), (0, .ref r0), (1, .ref r1)]) hx hb dX4_isSame_51 hl (k := 0) rfl (nI_1 _) (by decide) rfl (fun ls hl => ?_)
          refine lv_goto (tgt := 15) hx hb dX4_isSame_54 (by decide) ?_
          exact ih _ (by omega) ⟨lv_sub hl [0, 1, 2] rfl, fun j h8 => by rcases Nat.lt_or_ge j k9 with h9 | h9; exact hi j h9; rw [show j = k9 by omega]; exact ⟨c5, c8⟩⟩
        · -- 46 not
          refine lv_iconst (v := 0) hx hb dX4_isSame_49 (by decide) ?_
          exact ro_zret (v := 0) hx hb hr hH hlocks dX4_isSame_50 (Or.inl rfl) ((bI_f (by rw [rsP_def]; exact fun h9 => c8 (h9.2 k9 (by omega)).2)).symm)
  · -- 8 not
    have c1 : ¬ z = z1 := fun h9 => c1 (by rw [h9])
    refine lv_iconst (v := 0) hx hb dX4_isSame_11 (by decide) ?_
    exact ro_zret (v := 0) hx hb hr hH hlocks dX4_isSame_12 (Or.inl rfl) ((bI_f (by rw [rsP_def]; exact fun h9 => c1 h9.1)).symm)
set_option maxHeartbeats 4000000 in
set_option maxRecDepth 100000 in
theorem c_hasAnyM (l : Launch) (D : va_G) (G : Nat → ClassId) (H : Heap) (a0 : Nat → Nat) (σ : MS) (en : Nat) (me : Int32) (hP : va_P D vwCl (mbW G a0 σ en me) H) (of : Int32) : Met l yX1_hasAny (ww yX1_hasAny cX1_hasAny 2 (some .boolean)) (rmD 0) (roP D G H [.ref ((a0 0)), .int of]) (vp_Si (fun r => r = bI (¬ σ 13 en &&& of = 0))) 0 0 (fun _ => False) := by
  refine Met.ofW (cc := cX1_hasAny) (maxL := 2) (ret := (some .boolean)) (by decide) rfl ?_
  intro p e s m args below meth c s₁ B hml hv
  obtain ⟨rfl, hH, hK⟩ := hv
  have hx := B.exec
  have hb := B.bytes
  have hr := B.returns
  have hts : ∀ w ∈ TT, w.before _ s = true := fun w h => atoms_spec (ws := ww yX1_hasAny cX1_hasAny 2 (some .boolean)) B.pre w (List.mem_cons_of_mem _ h)
  have hown : s.vm.findClass RX1 = some m.cls := findClass_of_methodNamed B.named
  have hlocks := B.notSynchronized
  rw [hH]
  have hl := lv_entry ([.ref ((a0 0)), .int of]) (n := 2) (Nat.le_of_ble_eq_true rfl)
  rw [lg_entry_eq]
  generalize (lg_sl ([.ref ((a0 0)), .int of]) ++ List.replicate (2 - (lg_sl ([.ref ((a0 0)), .int of])).length) Slot.unset).toArray = ls at hl ⊢
  have hl : lv_has ls 2 [(0, .ref ((a0 0))), (1, .int of)] := hl
  refine lv_aload_n hx hb dX1_hasAny_0 rfl (lv_at hl 0 rfl) ?_
  refine va_get (D := D) (ci := 4) (v := .int (σ 13 en)) (C := RX3) (T := TX3) (N := 9) hx hb hts iX3 hown hK.1 hP 0 rfl rfl 4 (by decide) (hts _ q_240) (fun _ h9 => h9) rfl dX1_hasAny_1 ?_
  refine lv_iload_n hx hb dX1_hasAny_4 rfl (lv_at hl 1 rfl) ?_
  refine lv_iand hx hb dX1_hasAny_5 ?_
  refine lv_if_eq (tgt := 13) hx hb dX1_hasAny_6 (by decide) (fun c1 => ?_) (fun c1 => ?_)
  · -- 6 taken
    refine lv_iconst (v := 0) hx hb dX1_hasAny_13 (by decide) ?_
    exact ro_zret (v := 0) hx hb hr hH hlocks dX1_hasAny_14 (Or.inl rfl) ((bI_f (by simp only [eq_true c1, not_true, not_false_iff, not_true_eq_false, not_false_eq_true, true_or, or_true, false_or, or_false, or_self, and_self, true_and, and_true, false_and, and_false, if_true, if_false])).symm)
  · -- 6 not
    refine lv_iconst (v := 1) hx hb dX1_hasAny_9 (by decide) ?_
    refine lv_goto (tgt := 14) hx hb dX1_hasAny_10 (by decide) ?_
    exact ro_zret (v := 1) hx hb hr hH hlocks dX1_hasAny_14 (Or.inr rfl) ((bI_t (by simp only [eq_false c1, not_true, not_false_iff, not_true_eq_false, not_false_eq_true, true_or, or_true, false_or, or_false, or_self, and_self, true_and, and_true, false_and, and_false, if_true, if_false])).symm)
set_option maxHeartbeats 4000000 in
set_option maxRecDepth 100000 in
theorem c_hasAnyF (l : Launch) (D : va_G) (G : Nat → ClassId) (H : Heap) (a0 : Nat → Nat) (σ : MS) (κ : Nat → Int64) (en : Nat) (hP : va_P D vwCl (fdW a0 σ κ en) H) (of : Int32) : Met l yX1_hasAny (ww yX1_hasAny cX1_hasAny 2 (some .boolean)) (rmD 0) (roP D G H [.ref ((a0 0)), .int of]) (vp_Si (fun r => r = bI (¬ σ 13 en &&& of = 0))) 0 0 (fun _ => False) := by
  refine Met.ofW (cc := cX1_hasAny) (maxL := 2) (ret := (some .boolean)) (by decide) rfl ?_
  intro p e s m args below meth c s₁ B hml hv
  obtain ⟨rfl, hH, hK⟩ := hv
  have hx := B.exec
  have hb := B.bytes
  have hr := B.returns
  have hts : ∀ w ∈ TT, w.before _ s = true := fun w h => atoms_spec (ws := ww yX1_hasAny cX1_hasAny 2 (some .boolean)) B.pre w (List.mem_cons_of_mem _ h)
  have hown : s.vm.findClass RX1 = some m.cls := findClass_of_methodNamed B.named
  have hlocks := B.notSynchronized
  rw [hH]
  have hl := lv_entry ([.ref ((a0 0)), .int of]) (n := 2) (Nat.le_of_ble_eq_true rfl)
  rw [lg_entry_eq]
  generalize (lg_sl ([.ref ((a0 0)), .int of]) ++ List.replicate (2 - (lg_sl ([.ref ((a0 0)), .int of])).length) Slot.unset).toArray = ls at hl ⊢
  have hl : lv_has ls 2 [(0, .ref ((a0 0))), (1, .int of)] := hl
  refine lv_aload_n hx hb dX1_hasAny_0 rfl (lv_at hl 0 rfl) ?_
  refine va_get (D := D) (ci := 3) (v := .int (σ 13 en)) (C := RX2) (T := TX2) (N := 7) hx hb hts iX2 hown hK.1 hP 0 rfl rfl 4 (by decide) (hts _ q_240) (fun _ h9 => h9) rfl dX1_hasAny_1 ?_
  refine lv_iload_n hx hb dX1_hasAny_4 rfl (lv_at hl 1 rfl) ?_
  refine lv_iand hx hb dX1_hasAny_5 ?_
  refine lv_if_eq (tgt := 13) hx hb dX1_hasAny_6 (by decide) (fun c1 => ?_) (fun c1 => ?_)
  · -- 6 taken
    refine lv_iconst (v := 0) hx hb dX1_hasAny_13 (by decide) ?_
    exact ro_zret (v := 0) hx hb hr hH hlocks dX1_hasAny_14 (Or.inl rfl) ((bI_f (by simp only [eq_true c1, not_true, not_false_iff, not_true_eq_false, not_false_eq_true, true_or, or_true, false_or, or_false, or_self, and_self, true_and, and_true, false_and, and_false, if_true, if_false])).symm)
  · -- 6 not
    refine lv_iconst (v := 1) hx hb dX1_hasAny_9 (by decide) ?_
    refine lv_goto (tgt := 14) hx hb dX1_hasAny_10 (by decide) ?_
    exact ro_zret (v := 1) hx hb hr hH hlocks dX1_hasAny_14 (Or.inr rfl) ((bI_t (by simp only [eq_false c1, not_true, not_false_iff, not_true_eq_false, not_false_eq_true, true_or, or_true, false_or, or_false, or_self, and_self, true_and, and_true, false_and, and_false, if_true, if_false])).symm)
def mhb (σ : MS) (en : Nat) : Bool := decide (¬ σ 13 en &&& 16 = 0 ∧ σ 12 en = 0 ∧ ¬ σ 11 en < 1 ∧ ¬ 8 < σ 11 en)
abbrev mhP (σ : MS) (en : Nat) : Prop := mhb σ en = true
theorem mhP_def {σ : MS} {en : Nat} : mhP σ en ↔ (¬ σ 13 en &&& 16 = 0 ∧ σ 12 en = 0 ∧ ¬ σ 11 en < 1 ∧ ¬ 8 < σ 11 en) := decide_eq_true_iff
set_option maxHeartbeats 4000000 in
set_option maxRecDepth 100000 in
theorem c_mayHaveConstant (l : Launch) (D : va_G) (G : Nat → ClassId) (H : Heap) (a0 : Nat → Nat) (σ : MS) (κ : Nat → Int64) (en : Nat) (hP : va_P D vwCl (fdW a0 σ κ en) H)  : Met l yX2_mayHaveConstant (ww yX2_mayHaveConstant cX2_mayHaveConstant 1 (some .boolean)) (rmD 1) (roP D G H [.ref ((a0 0))]) (vp_Si (fun r => r = bI (mhP σ en))) 0 0 (fun _ => False) := by
  refine Met.ofW (cc := cX2_mayHaveConstant) (maxL := 1) (ret := (some .boolean)) (by decide) rfl ?_
  intro p e s m args below meth c s₁ B hml hv
  obtain ⟨rfl, hH, hK⟩ := hv
  have hx := B.exec
  have hb := B.bytes
  have hr := B.returns
  have hts : ∀ w ∈ TT, w.before _ s = true := fun w h => atoms_spec (ws := ww yX2_mayHaveConstant cX2_mayHaveConstant 1 (some .boolean)) B.pre w (List.mem_cons_of_mem _ h)
  have hown : s.vm.findClass RX2 = some m.cls := findClass_of_methodNamed B.named
  have hlocks := B.notSynchronized
  rw [hH]
  have hl := lv_entry ([.ref ((a0 0))]) (n := 1) (Nat.le_of_ble_eq_true rfl)
  rw [lg_entry_eq]
  generalize (lg_sl ([.ref ((a0 0))]) ++ List.replicate (1 - (lg_sl ([.ref ((a0 0))])).length) Slot.unset).toArray = ls at hl ⊢
  have hl : lv_has ls 1 [(0, .ref ((a0 0)))] := hl
  refine lv_aload_n hx hb dX2_mayHaveConstant_0 rfl (lv_at hl 0 rfl) ?_
  refine lv_bipush (v := 16) hx hb dX2_mayHaveConstant_1 (by decide) ?_
  refine ro_Ui (D := D) (G := G) (As := [.int 16]) (rest := []) ⟨hx, hb, hml, hown, hts⟩ (c_hasAnyF l D G _ _ σ κ (en) hP 16) gU_X2_9_X2 rfl (by decide +kernel) ⟨Nat.le_of_ble_eq_true rfl, Nat.le_of_ble_eq_true rfl⟩ hK (va_recv hK.1 hP (ci := 3) (q0 := 0) rfl rfl) rfl hl.1 rfl (Nat.le_of_ble_eq_true rfl) dX2_mayHaveConstant_3 ⟨Nat.le_of_ble_eq_true rfl, Nat.le_of_ble_eq_true rfl⟩ (fun r1 e_r1 => ?_)
  subst e_r1
  refine lv_if_eq (tgt := 37) hx hb dX2_mayHaveConstant_6 (by decide) (fun c2 => ?_) (fun c2 => ?_)
  · -- 6 taken
    have c2 := bI_0 c2
    refine lv_iconst (v := 0) hx hb dX2_mayHaveConstant_37 (by decide) ?_
    exact ro_zret (v := 0) hx hb hr hH hlocks dX2_mayHaveConstant_38 (Or.inl rfl) ((bI_f (by rw [mhP_def]; simp only [eq_true (Decidable.of_not_not c2), not_true, not_false_iff, not_true_eq_false, not_false_eq_true, true_or, or_true, false_or, or_false, or_self, and_self, true_and, and_true, false_and, and_false, if_true, if_false])).symm)
  · -- 6 not
    have c2 := bI_1 c2
    refine lv_aload_n hx hb dX2_mayHaveConstant_9 rfl (lv_at hl 0 rfl) ?_
    refine va_get (D := D) (ci := 3) (v := .int (σ 12 en)) (C := RX2) (T := TX2) (N := 7) hx hb hts iX2 hown hK.1 hP 0 rfl rfl 3 (by decide) (hts _ q_235) (fun x9 h9 => u_same (hts _ q_236) x9 h9) rfl dX2_mayHaveConstant_10 ?_
    refine lv_if_ne (tgt := 37) hx hb dX2_mayHaveConstant_13 (by decide) (fun c3 => ?_) (fun c3 => ?_)
    · -- 13 taken
      refine lv_iconst (v := 0) hx hb dX2_mayHaveConstant_37 (by decide) ?_
      exact ro_zret (v := 0) hx hb hr hH hlocks dX2_mayHaveConstant_38 (Or.inl rfl) ((bI_f (by rw [mhP_def]; simp only [eq_false c2, eq_false c3, not_true, not_false_iff, not_true_eq_false, not_false_eq_true, true_or, or_true, false_or, or_false, or_self, and_self, true_and, and_true, false_and, and_false, if_true, if_false])).symm)
    · -- 13 not
      refine lv_aload_n hx hb dX2_mayHaveConstant_16 rfl (lv_at hl 0 rfl) ?_
      refine va_get (D := D) (ci := 3) (v := .int (σ 11 en)) (C := RX2) (T := TX2) (N := 7) hx hb hts iX2 hown hK.1 hP 0 rfl rfl 2 (by decide) (hts _ q_228) (fun x9 h9 => u_same (hts _ q_229) x9 h9) rfl dX2_mayHaveConstant_17 ?_
      refine lv_iconst (v := 1) hx hb dX2_mayHaveConstant_20 (by decide) ?_
      refine lv_icmp_lt (tgt := 37) hx hb dX2_mayHaveConstant_21 (by decide) (fun c4 => ?_) (fun c4 => ?_)
      · -- 21 taken
        refine lv_iconst (v := 0) hx hb dX2_mayHaveConstant_37 (by decide) ?_
        exact ro_zret (v := 0) hx hb hr hH hlocks dX2_mayHaveConstant_38 (Or.inl rfl) ((bI_f (by rw [mhP_def]; simp only [eq_false c2, eq_true c3, eq_true c4, not_true, not_false_iff, not_true_eq_false, not_false_eq_true, true_or, or_true, false_or, or_false, or_self, and_self, true_and, and_true, false_and, and_false, if_true, if_false])).symm)
      · -- 21 not
        refine lv_aload_n hx hb dX2_mayHaveConstant_24 rfl (lv_at hl 0 rfl) ?_
        refine va_get (D := D) (ci := 3) (v := .int (σ 11 en)) (C := RX2) (T := TX2) (N := 7) hx hb hts iX2 hown hK.1 hP 0 rfl rfl 2 (by decide) (hts _ q_228) (fun x9 h9 => u_same (hts _ q_229) x9 h9) rfl dX2_mayHaveConstant_25 ?_
        refine lv_bipush (v := 8) hx hb dX2_mayHaveConstant_28 (by decide) ?_
        refine lv_icmp_gt (tgt := 37) hx hb dX2_mayHaveConstant_30 (by decide) (fun c5 => ?_) (fun c5 => ?_)
        · -- 30 taken
          refine lv_iconst (v := 0) hx hb dX2_mayHaveConstant_37 (by decide) ?_
          exact ro_zret (v := 0) hx hb hr hH hlocks dX2_mayHaveConstant_38 (Or.inl rfl) ((bI_f (by rw [mhP_def]; simp only [eq_false c2, eq_true c3, eq_false c4, eq_true c5, not_true, not_false_iff, not_true_eq_false, not_false_eq_true, true_or, or_true, false_or, or_false, or_self, and_self, true_and, and_true, false_and, and_false, if_true, if_false])).symm)
        · -- 30 not
          refine lv_iconst (v := 1) hx hb dX2_mayHaveConstant_33 (by decide) ?_
          refine lv_goto (tgt := 38) hx hb dX2_mayHaveConstant_34 (by decide) ?_
          exact ro_zret (v := 1) hx hb hr hH hlocks dX2_mayHaveConstant_38 (Or.inr rfl) ((bI_t (by rw [mhP_def]; simp only [eq_false c2, eq_true c3, eq_false c4, eq_false c5, not_true, not_false_iff, not_true_eq_false, not_false_eq_true, true_or, or_true, false_or, or_false, or_self, and_self, true_and, and_true, false_and, and_false, if_true, if_false])).symm)
set_option maxHeartbeats 4000000 in
set_option maxRecDepth 100000 in
theorem c_isItem (l : Launch) (D : va_G) (G : Nat → ClassId) (H : Heap) (a0 : Nat → Nat) (σ : MS) (en : Nat) (me : Int32) (hP : va_P D vwCl (mbW G a0 σ en me) H) (hm : okM σ en) (j : Nat) (hj : j < 100) : Met l yX3_isItem (ww yX3_isItem cX3_isItem 2 (some .boolean)) (rmD 0) (roP D G H [.ref ((a0 0)), .int (nI j)]) (vp_Si (fun r => r = bI (¬ j < mnE σ en - 1))) 0 0 (fun _ => False) := by
  refine Met.ofW (cc := cX3_isItem) (maxL := 2) (ret := (some .boolean)) (by decide) rfl ?_
  intro p e s m args below meth c s₁ B hml hv
  obtain ⟨rfl, hH, hK⟩ := hv
  have hx := B.exec
  have hb := B.bytes
  have hr := B.returns
  have hts : ∀ w ∈ TT, w.before _ s = true := fun w h => atoms_spec (ws := ww yX3_isItem cX3_isItem 2 (some .boolean)) B.pre w (List.mem_cons_of_mem _ h)
  have hown : s.vm.findClass RX3 = some m.cls := findClass_of_methodNamed B.named
  have hlocks := B.notSynchronized
  rw [hH]
  have hl := lv_entry ([.ref ((a0 0)), .int (nI j)]) (n := 2) (Nat.le_of_ble_eq_true rfl)
  rw [lg_entry_eq]
  generalize (lg_sl ([.ref ((a0 0)), .int (nI j)]) ++ List.replicate (2 - (lg_sl ([.ref ((a0 0)), .int (nI j)])).length) Slot.unset).toArray = ls at hl ⊢
  have hl : lv_has ls 2 [(0, .ref ((a0 0))), (1, .int (nI j))] := hl
  refine lv_iload_n hx hb dX3_isItem_0 rfl (lv_at hl 1 rfl) ?_
  refine lv_aload_n hx hb dX3_isItem_1 rfl (lv_at hl 0 rfl) ?_
  refine va_get (D := D) (ci := 4) (v := .ref ((a0 1))) (C := RX3) (T := TX3) (N := 9) hx hb hts iX3 hown hK.1 hP 0 rfl rfl 6 (by decide) (hts _ q_317) (fun _ h9 => h9) rfl dX3_isItem_2 ?_
  refine va_get (D := D) (ci := 5) (v := .int (σ 18 en)) (C := RX4) (T := TX4) (N := 3) hx hb hts iX4 hown hK.1 hP 1 rfl rfl 2 (by decide) (hts _ q_64) (fun _ h9 => h9) rfl dX3_isItem_5 ?_
  refine lv_iconst (v := 1) hx hb dX3_isItem_8 (by decide) ?_
  refine lv_isub hx hb dX3_isItem_9 ?_
  refine lv_icmp_lt (tgt := 17) hx hb dX3_isItem_10 (by decide) (fun c1 => ?_) (fun c1 => ?_)
  · -- 10 taken
    refine lv_iconst (v := 0) hx hb dX3_isItem_17 (by decide) ?_
    exact ro_zret (v := 0) hx hb hr hH hlocks dX3_isItem_18 (Or.inl rfl) ((bI_f (by have h8 := c1; rw [hm.1] at h8; exact fun h9 => h9 ((item_n hj hm.2).mp h8))).symm)
  · -- 10 not
    refine lv_iconst (v := 1) hx hb dX3_isItem_13 (by decide) ?_
    refine lv_goto (tgt := 18) hx hb dX3_isItem_14 (by decide) ?_
    exact ro_zret (v := 1) hx hb hr hH hlocks dX3_isItem_18 (Or.inr rfl) ((bI_t (by have h8 := c1; rw [hm.1] at h8; exact fun h9 => h8 ((item_n hj hm.2).mpr h9))).symm)
set_option maxHeartbeats 4000000 in
set_option maxRecDepth 100000 in
theorem c_mkindAt (l : Launch) (D : va_G) (G : Nat → ClassId) (H : Heap) (a0 : Nat → Nat) (σ : MS) (en : Nat) (me : Int32) (hP : va_P D vwCl (mbW G a0 σ en me) H) (hm : okM σ en) (j : Nat) (hj : j < 100) (v : Int32) (hv : kdH σ en j v) : Met l yX3_kindAt (ww yX3_kindAt cX3_kindAt 3 (some .int)) (rmD 1) (roP D G H [.ref ((a0 0)), .int (nI j), .int v]) (vp_Si (fun r => r = kindF σ en j v)) 0 0 (fun _ => False) := by
  refine Met.ofW (cc := cX3_kindAt) (maxL := 3) (ret := (some .int)) (by decide) rfl ?_
  intro p e s m args below meth c s₁ B hml hv
  obtain ⟨rfl, hH, hK⟩ := hv
  have hx := B.exec
  have hb := B.bytes
  have hr := B.returns
  have hts : ∀ w ∈ TT, w.before _ s = true := fun w h => atoms_spec (ws := ww yX3_kindAt cX3_kindAt 3 (some .int)) B.pre w (List.mem_cons_of_mem _ h)
  have hown : s.vm.findClass RX3 = some m.cls := findClass_of_methodNamed B.named
  have hlocks := B.notSynchronized
  rw [hH]
  have hl := lv_entry ([.ref ((a0 0)), .int (nI j), .int v]) (n := 3) (Nat.le_of_ble_eq_true rfl)
  rw [lg_entry_eq]
  generalize (lg_sl ([.ref ((a0 0)), .int (nI j), .int v]) ++ List.replicate (3 - (lg_sl ([.ref ((a0 0)), .int (nI j), .int v])).length) Slot.unset).toArray = ls at hl ⊢
  have hl : lv_has ls 3 [(0, .ref ((a0 0))), (1, .int (nI j)), (2, .int v)] := hl
  refine lv_aload_n hx hb dX3_kindAt_0 rfl (lv_at hl 0 rfl) ?_
  refine va_get (D := D) (ci := 4) (v := .ref ((a0 1))) (C := RX3) (T := TX3) (N := 9) hx hb hts iX3 hown hK.1 hP 0 rfl rfl 6 (by decide) (hts _ q_317) (fun _ h9 => h9) rfl dX3_kindAt_1 ?_
  refine lv_iload_n hx hb dX3_kindAt_4 rfl (lv_at hl 2 rfl) ?_
  refine lv_if_eq (tgt := 28) hx hb dX3_kindAt_5 (by decide) (fun c1 => ?_) (fun c1 => ?_)
  · -- 5 taken
    have hv9 := hv.1 c1
    refine lv_iload_n hx hb dX3_kindAt_28 rfl (lv_at hl 1 rfl) ?_
    refine ro_Vi (D := D) (G := G) (As := [.int (nI j)]) (rest := []) ⟨hx, hb, hml, hown, hts⟩ (c_rkindAtN l D G _ _ _ _ _ _ _ (by omega) (mb_row hP hm) (j) (by omega)) gV_X3_X4_kindAt hdV_X4_kindAt ⟨Nat.le_of_ble_eq_true rfl, Nat.le_of_ble_eq_true rfl⟩ hK (va_recv hK.1 hP (ci := 5) (q0 := 1) rfl rfl) rfl hl.1 rfl (Nat.le_of_ble_eq_true rfl) dX3_kindAt_29 ⟨Nat.le_of_ble_eq_true rfl, Nat.le_of_ble_eq_true rfl⟩ (fun r2 e_r2 => ?_)
    subst e_r2
    exact ro_iret (v := (pkF σ 19 en) j) hx hb hr hH hlocks dX3_kindAt_32 (by rw [pkF_n (by omega)]; unfold kindF; rw [if_neg (fun h9 => h9.1 c1)])
  · -- 5 not
    have hv9 := hv.2 c1
    refine lv_aload_n hx hb dX3_kindAt_8 rfl (lv_at hl 0 rfl) ?_
    refine lv_iload_n hx hb dX3_kindAt_9 rfl (lv_at hl 1 rfl) ?_
    refine ro_Vi (D := D) (G := G) (As := [.int (nI j)]) (rest := [.ref ((a0 1))]) ⟨hx, hb, hml, hown, hts⟩ (c_isItem l D G _ _ σ (en) _ hP hm (j) (by omega)) gV_X3_X3_isItem hdV_X3_isItem ⟨Nat.le_of_ble_eq_true rfl, Nat.le_of_ble_eq_true rfl⟩ hK (va_recv hK.1 hP (ci := 4) (q0 := 0) rfl rfl) rfl hl.1 rfl (Nat.le_of_ble_eq_true rfl) dX3_kindAt_10 ⟨Nat.le_of_ble_eq_true rfl, Nat.le_of_ble_eq_true rfl⟩ (fun r3 e_r3 => ?_)
    subst e_r3
    refine lv_if_eq (tgt := 28) hx hb dX3_kindAt_13 (by decide) (fun c4 => ?_) (fun c4 => ?_)
    · -- 13 taken
      have c4 := bI_0 c4
      have c4 := Decidable.of_not_not c4
      refine lv_iload_n hx hb dX3_kindAt_28 rfl (lv_at hl 1 rfl) ?_
      refine ro_Vi (D := D) (G := G) (As := [.int (nI j)]) (rest := []) ⟨hx, hb, hml, hown, hts⟩ (c_rkindAtN l D G _ _ _ _ _ _ _ (by omega) (mb_row hP hm) (j) (by omega)) gV_X3_X4_kindAt hdV_X4_kindAt ⟨Nat.le_of_ble_eq_true rfl, Nat.le_of_ble_eq_true rfl⟩ hK (va_recv hK.1 hP (ci := 5) (q0 := 1) rfl rfl) rfl hl.1 rfl (Nat.le_of_ble_eq_true rfl) dX3_kindAt_29 ⟨Nat.le_of_ble_eq_true rfl, Nat.le_of_ble_eq_true rfl⟩ (fun r5 e_r5 => ?_)
      subst e_r5
      exact ro_iret (v := (pkF σ 19 en) j) hx hb hr hH hlocks dX3_kindAt_32 (by rw [pkF_n (by omega)]; unfold kindF; rw [if_neg (fun h9 => h9.2 (by omega))])
    · -- 13 not
      have c4 := bI_1 c4
      refine lv_aload_n hx hb dX3_kindAt_16 rfl (lv_at hl 0 rfl) ?_
      refine va_get (D := D) (ci := 4) (v := .ref ((a0 1))) (C := RX3) (T := TX3) (N := 9) hx hb hts iX3 hown hK.1 hP 0 rfl rfl 6 (by decide) (hts _ q_317) (fun _ h9 => h9) rfl dX3_kindAt_17 ?_
      refine va_get (D := D) (ci := 5) (v := .int (σ 18 en)) (C := RX4) (T := TX4) (N := 3) hx hb hts iX4 hown hK.1 hP 1 rfl rfl 2 (by decide) (hts _ q_64) (fun _ h9 => h9) rfl dX3_kindAt_20 ?_
      refine lv_iconst (v := 1) hx hb dX3_kindAt_23 (by decide) ?_
      refine lv_isub hx hb dX3_kindAt_24 ?_
      refine lv_goto (tgt := 29) hx hb dX3_kindAt_25 (by decide) ?_
      refine W.eq (g2 := F0 m 29 ls [.int (nI ((mnE σ en) - 1)), .ref ((a0 1))]) (congrArg (fun z9 => F0 m 29 ls [.int z9, .ref ((a0 1))]) (n_sub (a := (mnE σ en)) (b := 1) hm.1 (rfl : (1 : Int32) = nI 1) (by omega))) ?_
      refine ro_Vi (D := D) (G := G) (As := [.int (nI ((mnE σ en) - 1))]) (rest := []) ⟨hx, hb, hml, hown, hts⟩ (c_rkindAtN l D G _ _ _ _ _ _ _ (by omega) (mb_row hP hm) (((mnE σ en) - 1)) (by omega)) gV_X3_X4_kindAt hdV_X4_kindAt ⟨Nat.le_of_ble_eq_true rfl, Nat.le_of_ble_eq_true rfl⟩ hK (va_recv hK.1 hP (ci := 5) (q0 := 1) rfl rfl) rfl hl.1 rfl (Nat.le_of_ble_eq_true rfl) dX3_kindAt_29 ⟨Nat.le_of_ble_eq_true rfl, Nat.le_of_ble_eq_true rfl⟩ (fun r6 e_r6 => ?_)
      subst e_r6
      exact ro_iret (v := (pkF σ 19 en) (((mnE σ en) - 1))) hx hb hr hH hlocks dX3_kindAt_32 (by rw [pkF_n (by omega)]; unfold kindF; by_cases h8 : j < mnE σ en; rw [if_neg (fun h9 => h9.2 h8), show j = mnE σ en - 1 by omega]; rw [if_pos ⟨c1, h8⟩])
set_option maxHeartbeats 4000000 in
set_option maxRecDepth 100000 in
theorem c_mdimsAt (l : Launch) (D : va_G) (G : Nat → ClassId) (H : Heap) (a0 : Nat → Nat) (σ : MS) (en : Nat) (me : Int32) (hP : va_P D vwCl (mbW G a0 σ en me) H) (hm : okM σ en) (j : Nat) (hj : j < 100) (v : Int32) (hv : kdH σ en j v) : Met l yX3_dimsAt (ww yX3_dimsAt cX3_dimsAt 3 (some .int)) (rmD 1) (roP D G H [.ref ((a0 0)), .int (nI j), .int v]) (vp_Si (fun r => r = dimF σ en j v)) 0 0 (fun _ => False) := by
  refine Met.ofW (cc := cX3_dimsAt) (maxL := 3) (ret := (some .int)) (by decide) rfl ?_
  intro p e s m args below meth c s₁ B hml hv
  obtain ⟨rfl, hH, hK⟩ := hv
  have hx := B.exec
  have hb := B.bytes
  have hr := B.returns
  have hts : ∀ w ∈ TT, w.before _ s = true := fun w h => atoms_spec (ws := ww yX3_dimsAt cX3_dimsAt 3 (some .int)) B.pre w (List.mem_cons_of_mem _ h)
  have hown : s.vm.findClass RX3 = some m.cls := findClass_of_methodNamed B.named
  have hlocks := B.notSynchronized
  rw [hH]
  have hl := lv_entry ([.ref ((a0 0)), .int (nI j), .int v]) (n := 3) (Nat.le_of_ble_eq_true rfl)
  rw [lg_entry_eq]
  generalize (lg_sl ([.ref ((a0 0)), .int (nI j), .int v]) ++ List.replicate (3 - (lg_sl ([.ref ((a0 0)), .int (nI j), .int v])).length) Slot.unset).toArray = ls at hl ⊢
  have hl : lv_has ls 3 [(0, .ref ((a0 0))), (1, .int (nI j)), (2, .int v)] := hl
  refine lv_iload_n hx hb dX3_dimsAt_0 rfl (lv_at hl 2 rfl) ?_
  refine lv_if_eq (tgt := 33) hx hb dX3_dimsAt_1 (by decide) (fun c1 => ?_) (fun c1 => ?_)
  · -- 1 taken
    have hv9 := hv.1 c1
    refine lv_aload_n hx hb dX3_dimsAt_33 rfl (lv_at hl 0 rfl) ?_
    refine va_get (D := D) (ci := 4) (v := .ref ((a0 1))) (C := RX3) (T := TX3) (N := 9) hx hb hts iX3 hown hK.1 hP 0 rfl rfl 6 (by decide) (hts _ q_317) (fun _ h9 => h9) rfl dX3_dimsAt_34 ?_
    refine lv_iload_n hx hb dX3_dimsAt_37 rfl (lv_at hl 1 rfl) ?_
    refine ro_Vi (D := D) (G := G) (As := [.int (nI j)]) (rest := []) ⟨hx, hb, hml, hown, hts⟩ (c_rdimsAtN l D G _ _ _ _ _ _ _ (by omega) (mb_row hP hm) (j) (by omega)) gV_X3_X4_dimsAt hdV_X4_dimsAt ⟨Nat.le_of_ble_eq_true rfl, Nat.le_of_ble_eq_true rfl⟩ hK (va_recv hK.1 hP (ci := 5) (q0 := 1) rfl rfl) rfl hl.1 rfl (Nat.le_of_ble_eq_true rfl) dX3_dimsAt_38 ⟨Nat.le_of_ble_eq_true rfl, Nat.le_of_ble_eq_true rfl⟩ (fun r2 e_r2 => ?_)
    subst e_r2
    exact ro_iret (v := (pkF σ 20 en) j) hx hb hr hH hlocks dX3_dimsAt_41 (by rw [pkF_n (by omega)]; unfold dimF; rw [if_neg (fun h9 => h9.1 c1)])
  · -- 1 not
    have hv9 := hv.2 c1
    refine lv_aload_n hx hb dX3_dimsAt_4 rfl (lv_at hl 0 rfl) ?_
    refine lv_iload_n hx hb dX3_dimsAt_5 rfl (lv_at hl 1 rfl) ?_
    refine ro_Vi (D := D) (G := G) (As := [.int (nI j)]) (rest := []) ⟨hx, hb, hml, hown, hts⟩ (c_isItem l D G _ _ σ (en) _ hP hm (j) (by omega)) gV_X3_X3_isItem hdV_X3_isItem ⟨Nat.le_of_ble_eq_true rfl, Nat.le_of_ble_eq_true rfl⟩ hK (va_recv hK.1 hP (ci := 4) (q0 := 0) rfl rfl) rfl hl.1 rfl (Nat.le_of_ble_eq_true rfl) dX3_dimsAt_6 ⟨Nat.le_of_ble_eq_true rfl, Nat.le_of_ble_eq_true rfl⟩ (fun r3 e_r3 => ?_)
    subst e_r3
    refine lv_if_eq (tgt := 33) hx hb dX3_dimsAt_9 (by decide) (fun c4 => ?_) (fun c4 => ?_)
    · -- 9 taken
      have c4 := bI_0 c4
      have c4 := Decidable.of_not_not c4
      refine lv_aload_n hx hb dX3_dimsAt_33 rfl (lv_at hl 0 rfl) ?_
      refine va_get (D := D) (ci := 4) (v := .ref ((a0 1))) (C := RX3) (T := TX3) (N := 9) hx hb hts iX3 hown hK.1 hP 0 rfl rfl 6 (by decide) (hts _ q_317) (fun _ h9 => h9) rfl dX3_dimsAt_34 ?_
      refine lv_iload_n hx hb dX3_dimsAt_37 rfl (lv_at hl 1 rfl) ?_
      refine ro_Vi (D := D) (G := G) (As := [.int (nI j)]) (rest := []) ⟨hx, hb, hml, hown, hts⟩ (c_rdimsAtN l D G _ _ _ _ _ _ _ (by omega) (mb_row hP hm) (j) (by omega)) gV_X3_X4_dimsAt hdV_X4_dimsAt ⟨Nat.le_of_ble_eq_true rfl, Nat.le_of_ble_eq_true rfl⟩ hK (va_recv hK.1 hP (ci := 5) (q0 := 1) rfl rfl) rfl hl.1 rfl (Nat.le_of_ble_eq_true rfl) dX3_dimsAt_38 ⟨Nat.le_of_ble_eq_true rfl, Nat.le_of_ble_eq_true rfl⟩ (fun r5 e_r5 => ?_)
      subst e_r5
      exact ro_iret (v := (pkF σ 20 en) j) hx hb hr hH hlocks dX3_dimsAt_41 (by rw [pkF_n (by omega)]; unfold dimF; rw [if_neg (fun h9 => h9.2 c4)])
    · -- 9 not
      have c4 := bI_1 c4
      refine lv_aload_n hx hb dX3_dimsAt_12 rfl (lv_at hl 0 rfl) ?_
      refine va_get (D := D) (ci := 4) (v := .ref ((a0 1))) (C := RX3) (T := TX3) (N := 9) hx hb hts iX3 hown hK.1 hP 0 rfl rfl 6 (by decide) (hts _ q_317) (fun _ h9 => h9) rfl dX3_dimsAt_13 ?_
      refine lv_aload_n hx hb dX3_dimsAt_16 rfl (lv_at hl 0 rfl) ?_
      refine va_get (D := D) (ci := 4) (v := .ref ((a0 1))) (C := RX3) (T := TX3) (N := 9) hx hb hts iX3 hown hK.1 hP 0 rfl rfl 6 (by decide) (hts _ q_317) (fun _ h9 => h9) rfl dX3_dimsAt_17 ?_
      refine va_get (D := D) (ci := 5) (v := .int (σ 18 en)) (C := RX4) (T := TX4) (N := 3) hx hb hts iX4 hown hK.1 hP 1 rfl rfl 2 (by decide) (hts _ q_64) (fun _ h9 => h9) rfl dX3_dimsAt_20 ?_
      refine lv_iconst (v := 1) hx hb dX3_dimsAt_23 (by decide) ?_
      refine lv_isub hx hb dX3_dimsAt_24 ?_
      refine W.eq (g2 := F0 m 25 ls [.int (nI ((mnE σ en) - 1)), .ref ((a0 1))]) (congrArg (fun z9 => F0 m 25 ls [.int z9, .ref ((a0 1))]) (n_sub (a := (mnE σ en)) (b := 1) hm.1 (rfl : (1 : Int32) = nI 1) (by omega))) ?_
      refine ro_Vi (D := D) (G := G) (As := [.int (nI ((mnE σ en) - 1))]) (rest := []) ⟨hx, hb, hml, hown, hts⟩ (c_rdimsAtN l D G _ _ _ _ _ _ _ (by omega) (mb_row hP hm) (((mnE σ en) - 1)) (by omega)) gV_X3_X4_dimsAt hdV_X4_dimsAt ⟨Nat.le_of_ble_eq_true rfl, Nat.le_of_ble_eq_true rfl⟩ hK (va_recv hK.1 hP (ci := 5) (q0 := 1) rfl rfl) rfl hl.1 rfl (Nat.le_of_ble_eq_true rfl) dX3_dimsAt_25 ⟨Nat.le_of_ble_eq_true rfl, Nat.le_of_ble_eq_true rfl⟩ (fun r6 e_r6 => ?_)
      subst e_r6
      refine lv_iconst (v := 1) hx hb dX3_dimsAt_28 (by decide) ?_
      refine lv_isub hx hb dX3_dimsAt_29 ?_
      refine lv_goto (tgt := 41) hx hb dX3_dimsAt_30 (by decide) ?_
      exact ro_iret (v := ((pkF σ 20 en) (((mnE σ en) - 1))) - 1) hx hb hr hH hlocks dX3_dimsAt_41 (by rw [pkF_n (by omega)]; unfold dimF; rw [if_pos ⟨c1, c4⟩, show 5 * en + mnE σ en - 1 = 5 * en + (mnE σ en - 1) by omega])
theorem c_isSameM (l : Launch) (D : va_G) (G : Nat → ClassId) (H : Heap) (σ : MS) (a b : Nat) (ha : okM σ a) (hb : okM σ b) (r0 a0 b0 r1 a1 b1 : Nat) (hP : va_P D vwCl (rwW G r0 a0 b0 (pkF σ 19 a) (pkF σ 20 a) (nI (mnE σ a))) H) (hP2 : va_P D vwCl (rwW G r1 a1 b1 (pkF σ 19 b) (pkF σ 20 b) (nI (mnE σ b))) H) : Met l yX4_isSame (ww yX4_isSame cX4_isSame 3 (some .boolean)) (rmD 1) (roP D G H [.ref r0, .ref r1]) (vp_Si (fun r => r = bI (sameP σ a b))) 0 0 (fun _ => False) := by
  have h := c_isSame l D G H r0 a0 b0 _ _ _ ha.2 hP r1 a1 b1 _ _ _ hb.2 hP2
  rwa [bI_c (rs_same ha hb)] at h
set_option maxHeartbeats 4000000 in
set_option maxRecDepth 100000 in
theorem c_isLike (l : Launch) (D : va_G) (G : Nat → ClassId) (H : Heap) (a0 : Nat → Nat) (σ : MS) (en : Nat) (me : Int32) (hP : va_P D vwCl (mbW G a0 σ en me) H) (hm : okM σ en) (a1 : Nat → Nat) (en1 : Nat) (me1 : Int32) (hP2 : va_P D vwCl (mbW G a1 σ en1 me1) H) (hm1 : okM σ en1) : Met l yX3_isLike (ww yX3_isLike cX3_isLike 2 (some .boolean)) (rmD 2) (roP D G H [.ref ((a0 0)), .ref ((a1 0))]) (vp_Si (fun r => r = bI (σ 10 en = σ 10 en1 ∧ sameP σ en en1))) 0 0 (fun _ => False) := by
  refine Met.ofW (cc := cX3_isLike) (maxL := 2) (ret := (some .boolean)) (by decide) rfl ?_
  intro p e s m args below meth c s₁ B hml hv
  obtain ⟨rfl, hH, hK⟩ := hv
  have hx := B.exec
  have hb := B.bytes
  have hr := B.returns
  have hts : ∀ w ∈ TT, w.before _ s = true := fun w h => atoms_spec (ws := ww yX3_isLike cX3_isLike 2 (some .boolean)) B.pre w (List.mem_cons_of_mem _ h)
  have hown : s.vm.findClass RX3 = some m.cls := findClass_of_methodNamed B.named
  have hlocks := B.notSynchronized
  rw [hH]
  have hl := lv_entry ([.ref ((a0 0)), .ref ((a1 0))]) (n := 2) (Nat.le_of_ble_eq_true rfl)
  rw [lg_entry_eq]
  generalize (lg_sl ([.ref ((a0 0)), .ref ((a1 0))]) ++ List.replicate (2 - (lg_sl ([.ref ((a0 0)), .ref ((a1 0))])).length) Slot.unset).toArray = ls at hl ⊢
  have hl : lv_has ls 2 [(0, .ref ((a0 0))), (1, .ref ((a1 0)))] := hl
  refine lv_aload_n hx hb dX3_isLike_0 rfl (lv_at hl 0 rfl) ?_
  refine va_get (D := D) (ci := 4) (v := .int (σ 10 en)) (C := RX3) (T := TX3) (N := 9) hx hb hts iX3 hown hK.1 hP 0 rfl rfl 1 (by decide) (hts _ q_223) (fun x9 h9 => u_same (hts _ q_224) x9 h9) rfl dX3_isLike_1 ?_
  refine lv_aload_n hx hb dX3_isLike_4 rfl (lv_at hl 1 rfl) ?_
  refine va_get (D := D) (ci := 4) (v := .int (σ 10 en1)) (C := RX3) (T := TX3) (N := 9) hx hb hts iX3 hown hK.1 hP2 0 rfl rfl 1 (by decide) (hts _ q_223) (fun x9 h9 => u_same (hts _ q_224) x9 h9) rfl dX3_isLike_5 ?_
  refine lv_icmp_ne (tgt := 29) hx hb dX3_isLike_8 (by decide) (fun c1 => ?_) (fun c1 => ?_)
  · -- 8 taken
    refine lv_iconst (v := 0) hx hb dX3_isLike_29 (by decide) ?_
    exact ro_zret (v := 0) hx hb hr hH hlocks dX3_isLike_30 (Or.inl rfl) ((bI_f (by simp only [eq_false c1, not_true, not_false_iff, not_true_eq_false, not_false_eq_true, true_or, or_true, false_or, or_false, or_self, and_self, true_and, and_true, false_and, and_false, if_true, if_false])).symm)
  · -- 8 not
    refine lv_aload_n hx hb dX3_isLike_11 rfl (lv_at hl 0 rfl) ?_
    refine va_get (D := D) (ci := 4) (v := .ref ((a0 1))) (C := RX3) (T := TX3) (N := 9) hx hb hts iX3 hown hK.1 hP 0 rfl rfl 6 (by decide) (hts _ q_317) (fun _ h9 => h9) rfl dX3_isLike_12 ?_
    refine lv_aload_n hx hb dX3_isLike_15 rfl (lv_at hl 1 rfl) ?_
    refine va_get (D := D) (ci := 4) (v := .ref ((a1 1))) (C := RX3) (T := TX3) (N := 9) hx hb hts iX3 hown hK.1 hP2 0 rfl rfl 6 (by decide) (hts _ q_317) (fun _ h9 => h9) rfl dX3_isLike_16 ?_
    refine ro_Vi (D := D) (G := G) (As := [.ref ((a1 1))]) (rest := []) ⟨hx, hb, hml, hown, hts⟩ ((c_isSameM l D G _ σ _ _ hm hm1 _ _ _ _ _ _ (mb_row hP hm) (mb_row hP2 hm1))) gV_X3_X4_isSame hdV_X4_isSame ⟨Nat.le_of_ble_eq_true rfl, Nat.le_of_ble_eq_true rfl⟩ hK (va_recv hK.1 hP (ci := 5) (q0 := 1) rfl rfl) rfl hl.1 rfl (Nat.le_of_ble_eq_true rfl) dX3_isLike_19 ⟨Nat.le_of_ble_eq_true rfl, Nat.le_of_ble_eq_true rfl⟩ (fun r2 e_r2 => ?_)
    subst e_r2
    refine lv_if_eq (tgt := 29) hx hb dX3_isLike_22 (by decide) (fun c3 => ?_) (fun c3 => ?_)
    · -- 22 taken
      have c3 := bI_0 c3
      refine lv_iconst (v := 0) hx hb dX3_isLike_29 (by decide) ?_
      exact ro_zret (v := 0) hx hb hr hH hlocks dX3_isLike_30 (Or.inl rfl) ((bI_f (by simp only [eq_true c1, eq_false c3, not_true, not_false_iff, not_true_eq_false, not_false_eq_true, true_or, or_true, false_or, or_false, or_self, and_self, true_and, and_true, false_and, and_false, if_true, if_false])).symm)
    · -- 22 not
      have c3 := bI_1 c3
      refine lv_iconst (v := 1) hx hb dX3_isLike_25 (by decide) ?_
      refine lv_goto (tgt := 30) hx hb dX3_isLike_26 (by decide) ?_
      exact ro_zret (v := 1) hx hb hr hH hlocks dX3_isLike_30 (Or.inr rfl) ((bI_t (by simp only [eq_true c1, eq_true c3, not_true, not_false_iff, not_true_eq_false, not_false_eq_true, true_or, or_true, false_or, or_false, or_self, and_self, true_and, and_true, false_and, and_false, if_true, if_false])).symm)
