def oCall (σ : MS) (τ : Nat → Int64) (n k w : Nat) (t name : Int32) : Int32 × MU :=
  if ¬ okN n t then (-11, su σ 0 0 0, τ) else if ¬ (0 ≤ name ∧ name ≤ 49) then (-13, su σ 0 0 0, τ)
  else if ¬ nrA (caS (su σ 0 0 0) t.toNatClampNeg name k) w k 0 = -1 then
    (nrA (caS (su σ 0 0 0) t.toNatClampNeg name k) w k 0, su (su (nrS (caS (su σ 0 0 0) t.toNatClampNeg name k) w k 0) 22 0 0) 25 0 (if 0 ≤ nrA (caS (su σ 0 0 0) t.toNatClampNeg name k) w k 0 then 1 else 0), τ)
  else (nrA (nrS (caS (su σ 0 0 0) t.toNatClampNeg name k) w k 0) w k 1, su (su (st (caS (su σ 0 0 0) t.toNatClampNeg name k) 32 (tpF (nrS (caS (su σ 0 0 0) t.toNatClampNeg name k) w k 0) w 1 (tpF (caS (su σ 0 0 0) t.toNatClampNeg name k) w 0 (σ 32) k) k)) 22 0 0) 25 0 (if 0 ≤ nrA (nrS (caS (su σ 0 0 0) t.toNatClampNeg name k) w k 0) w k 1 then 2 else 0), τ)
-- a name that is looked for
/-- what a place of the found ones holds: none, a clash, or an entry -/
abbrev okV (K : Nat) (x : Int32) : Prop := x = -1 ∨ x = -2 ∨ (x = nI x.toNatClampNeg ∧ x.toNatClampNeg < K)
def paV (σ : MS) (T : Nat → Int32) (t : Nat) : Int32 := if ¬ T (σ 3 t).toNatClampNeg < 0 ∧ ¬ σ 13 (T (σ 3 t).toNatClampNeg).toNatClampNeg &&& 4 = 0 then -1 else T (σ 3 t).toNatClampNeg
def f1V (σ : MS) (K : Nat) (name : Int32) (T : Nat → Int32) (t : Nat) : Int32 := if fld σ K (nI t) name = -1 ∧ ¬ σ 3 t = -1 then paV σ T t else fld σ K (nI t) name
def bfF (σ : MS) (T : Nat → Int32) (t : Nat) (x : Int32) : Nat → Int32
  | 0 => x
  | i + 1 => bothF (bfF σ T t x i) (T (σ 4 (3 * t + i)).toNatClampNeg)
def skV (σ : MS) (K : Nat) (name : Int32) (T : Nat → Int32) (t : Nat) : Int32 :=
  if f1V σ K name T t = -1 ∨ ¬ σ 9 (if 0 ≤ f1V σ K name T t then f1V σ K name T t else 0).toNatClampNeg = nI t ∨ f1V σ K name T t = -2 then bfF σ T t (f1V σ K name T t) (σ 5 t).toNatClampNeg else f1V σ K name T t
def skF (σ : MS) (K : Nat) (name : Int32) (f : Nat → Int32) : Nat → Nat → Int32
  | 0 => f
  | t + 1 => upd (skF σ K name f t) t (skV σ K name (skF σ K name f t) t)
def oSought (σ : MS) (τ : Nat → Int64) (n k : Nat) (t name : Int32) : Int32 × MU :=
  if ¬ okN n t then (-11, su σ 0 0 0, τ) else if ¬ (0 ≤ name ∧ name ≤ 49) then (-13, su σ 0 0 0, τ)
  else (skF σ k name (σ 29) (t.toNatClampNeg + 1) t.toNatClampNeg, st (su σ 0 0 0) 29 (skF σ k name (σ 29) (t.toNatClampNeg + 1)), τ)
theorem fnd_ok {P : Nat → Prop} [DecidablePred P] {K : Nat} (hK : K < 2 ^ 31) : ∀ (f i : Nat), i + f ≤ K → okV K (fnd P f i)
  | 0, _, _ => Or.inl rfl
  | f + 1, i, h => by
    unfold fnd; split
    · right; right; rw [nI_clamp (by omega)]; exact ⟨rfl, by omega⟩
    · exact fnd_ok hK f (i + 1) (by omega)
theorem both_ok {K : Nat} {x y : Int32} (hx : okV K x) (hy : okV K y) : okV K (bothF x y) := by
  unfold bothF; repeat' split
  · exact hy
  · exact hx
  · exact Or.inr (Or.inl rfl)
theorem paV_ok {σ : MS} {K : Nat} {T : Nat → Int32} {t : Nat} (h : okV K (T (σ 3 t).toNatClampNeg)) : okV K (paV σ T t) := by unfold paV; split; exact Or.inl rfl; exact h
theorem f1V_ok {σ : MS} {K : Nat} {name : Int32} {T : Nat → Int32} {t : Nat} (hK : K < 2 ^ 31) (h : ¬ σ 3 t = -1 → okV K (T (σ 3 t).toNatClampNeg)) : okV K (f1V σ K name T t) := by
  unfold f1V; split
  · rename_i q; exact paV_ok (h q.2)
  · exact fnd_ok hK K 0 (by omega)
theorem bfF_ok {σ : MS} {K : Nat} {T : Nat → Int32} {t : Nat} {x : Int32} (hx : okV K x) : ∀ i, (∀ q, q < i → okV K (T (σ 4 (3 * t + q)).toNatClampNeg)) → okV K (bfF σ T t x i)
  | 0, _ => hx
  | i + 1, h => both_ok (bfF_ok hx i (fun q hq => h q (by omega))) (h i (by omega))
/-- parents and faces are earlier types -/
abbrev eaP (σ : MS) (t : Nat) : Prop := (¬ σ 3 t = -1 → (σ 3 t).toNatClampNeg < t) ∧ ∀ q, q < (σ 5 t).toNatClampNeg → (σ 4 (3 * t + q)).toNatClampNeg < t
theorem skV_ok {σ : MS} {K : Nat} {name : Int32} {T : Nat → Int32} {t : Nat} (hK : K < 2 ^ 31) (he : eaP σ t) (h : ∀ i, i < t → okV K (T i)) : okV K (skV σ K name T t) := by
  have h1 := f1V_ok (σ := σ) (name := name) (T := T) (t := t) hK (fun q => h _ (he.1 q))
  have h2 := bfF_ok h1 _ (fun q hq => h _ (he.2 q hq))
  unfold skV; repeat' split
  all_goals first | exact h2 | exact h1
theorem skF_ok {σ : MS} {K : Nat} {name : Int32} {f : Nat → Int32} (hK : K < 2 ^ 31) : ∀ t, (∀ i, i < t → eaP σ i) → ∀ i, i < t → okV K (skF σ K name f t i)
  | t + 1, he, i, hi => by
    show okV K (upd (skF σ K name f t) t _ i)
    by_cases q : i = t
    · rw [q, pk_us]; exact skV_ok hK (he t (by omega)) (skF_ok hK t (fun j hj => he j (by omega)))
    · rw [pk_un q]; exact skF_ok hK t (fun j hj => he j (by omega)) i (by omega)
theorem okV_n {K : Nat} {x : Int32} (h : okV K x) (hx : ¬ x < 0) : x = nI x.toNatClampNeg ∧ x.toNatClampNeg < K := by
  rcases h with rfl | rfl | h
  · exact absurd (by decide) hx
  · exact absurd (by decide) hx
  · exact h

theorem dX8_call_0 : decode cX8_call 0 = .ok (.aload_n 0, 1) := by decide +kernel
theorem dX8_call_1 : decode cX8_call 1 = .ok (.iconst 0, 1) := by decide +kernel
theorem dX8_call_2 : decode cX8_call 2 = .ok (.putfield 90, 3) := by decide +kernel
theorem dX8_call_5 : decode cX8_call 5 = .ok (.aload_n 0, 1) := by decide +kernel
theorem dX8_call_6 : decode cX8_call 6 = .ok (.iload_n 1, 1) := by decide +kernel
theorem dX8_call_7 : decode cX8_call 7 = .ok (.invokevirtual 104, 3) := by decide +kernel
theorem dX8_call_10 : decode cX8_call 10 = .ok (.ifCond .ne 6, 3) := by decide +kernel
theorem dX8_call_16 : decode cX8_call 16 = .ok (.iload_n 2, 1) := by decide +kernel
theorem dX8_call_17 : decode cX8_call 17 = .ok (.iconst 0, 1) := by decide +kernel
theorem dX8_call_18 : decode cX8_call 18 = .ok (.bipush 49, 2) := by decide +kernel
theorem dX8_call_20 : decode cX8_call 20 = .ok (.invokestatic 97, 3) := by decide +kernel
theorem dX8_call_23 : decode cX8_call 23 = .ok (.ifCond .ne 6, 3) := by decide +kernel
theorem dX8_call_29 : decode cX8_call 29 = .ok (.aload_n 0, 1) := by decide +kernel
theorem dX8_call_30 : decode cX8_call 30 = .ok (.iload_n 1, 1) := by decide +kernel
theorem dX8_call_31 : decode cX8_call 31 = .ok (.iload_n 2, 1) := by decide +kernel
theorem q_949 : Cond.methodLink "FieldMemberModel" 220 ⟨"FieldMemberModel", "candidates", "(II)V"⟩ ∈ TT := tt_t (i := 949) (by decide +kernel) (by decide +kernel)
theorem q_952 : Cond.code ⟨"FieldMemberModel", "candidates", "(II)V"⟩ prog_10_method_41_code 6 none ∈ TT := tt_t (i := 952) (by decide +kernel) (by decide +kernel)
theorem q_951 : Cond.instanceMethod ⟨"FieldMemberModel", "candidates", "(II)V"⟩ ∈ TT := tt_t (i := 951) (by decide +kernel) (by decide +kernel)
theorem qs_50 : Cond.selects "FieldMemberModel" ⟨"FieldMemberModel", "candidates", "(II)V"⟩ ⟨"FieldMemberModel", "candidates", "(II)V"⟩ ∈ TT := tt_s (i := 50) (by decide +kernel) (by decide +kernel)
theorem gV_X8_X8_candidates : GoodIn TT (wsV RX8 220 RX8 yX8_candidates (ww yX8_candidates cX8_candidates 6 none)) := tt_V q_949 q_951 qs_50 q_4 q_952
theorem hdV_X8_candidates : yX8_candidates.cls = RX8 ∧ yX8_candidates.cls ≠ "java/lang/invoke/MethodHandle" ∧ yX8_candidates.cls ≠ "java/lang/invoke/VarHandle" ∧ (parseMethodDescriptor yX8_candidates.desc).map (fun d => d.parameters.length) = some 2 := by decide +kernel
theorem dX8_call_32 : decode cX8_call 32 = .ok (.invokevirtual 220, 3) := by decide +kernel
theorem dX8_call_35 : decode cX8_call 35 = .ok (.aload_n 0, 1) := by decide +kernel
theorem dX8_call_36 : decode cX8_call 36 = .ok (.iconst 0, 1) := by decide +kernel
theorem q_953 : Cond.methodLink "FieldMemberModel" 223 ⟨"FieldMemberModel", "nearest", "(Z)I"⟩ ∈ TT := tt_t (i := 953) (by decide +kernel) (by decide +kernel)
theorem q_956 : Cond.code ⟨"FieldMemberModel", "nearest", "(Z)I"⟩ prog_10_method_46_code 7 (some .int) ∈ TT := tt_t (i := 956) (by decide +kernel) (by decide +kernel)
theorem q_955 : Cond.instanceMethod ⟨"FieldMemberModel", "nearest", "(Z)I"⟩ ∈ TT := tt_t (i := 955) (by decide +kernel) (by decide +kernel)
theorem qs_51 : Cond.selects "FieldMemberModel" ⟨"FieldMemberModel", "nearest", "(Z)I"⟩ ⟨"FieldMemberModel", "nearest", "(Z)I"⟩ ∈ TT := tt_s (i := 51) (by decide +kernel) (by decide +kernel)
theorem gV_X8_X8_nearest : GoodIn TT (wsV RX8 223 RX8 yX8_nearest (ww yX8_nearest cX8_nearest 7 (some .int))) := tt_V q_953 q_955 qs_51 q_4 q_956
theorem hdV_X8_nearest : yX8_nearest.cls = RX8 ∧ yX8_nearest.cls ≠ "java/lang/invoke/MethodHandle" ∧ yX8_nearest.cls ≠ "java/lang/invoke/VarHandle" ∧ (parseMethodDescriptor yX8_nearest.desc).map (fun d => d.parameters.length) = some 1 := by decide +kernel
theorem dX8_call_37 : decode cX8_call 37 = .ok (.invokevirtual 223, 3) := by decide +kernel
theorem dX8_call_40 : decode cX8_call 40 = .ok (.istore_n 3, 1) := by decide +kernel
theorem dX8_call_41 : decode cX8_call 41 = .ok (.iconst 1, 1) := by decide +kernel
theorem dX8_call_42 : decode cX8_call 42 = .ok (.istore 4, 2) := by decide +kernel
theorem dX8_call_44 : decode cX8_call 44 = .ok (.iload_n 3, 1) := by decide +kernel
theorem dX8_call_45 : decode cX8_call 45 = .ok (.iconst (-1), 1) := by decide +kernel
theorem dX8_call_46 : decode cX8_call 46 = .ok (.if_icmp .ne 12, 3) := by decide +kernel
theorem dX8_call_58 : decode cX8_call 58 = .ok (.aload_n 0, 1) := by decide +kernel
theorem dX8_call_59 : decode cX8_call 59 = .ok (.iconst 0, 1) := by decide +kernel
theorem dX8_call_60 : decode cX8_call 60 = .ok (.putfield 196, 3) := by decide +kernel
theorem dX8_call_63 : decode cX8_call 63 = .ok (.aload_n 0, 1) := by decide +kernel
theorem dX8_call_64 : decode cX8_call 64 = .ok (.iload_n 3, 1) := by decide +kernel
theorem dX8_call_65 : decode cX8_call 65 = .ok (.ifCond .ge 7, 3) := by decide +kernel
theorem dX8_call_72 : decode cX8_call 72 = .ok (.iload 4, 2) := by decide +kernel
theorem dX8_call_74 : decode cX8_call 74 = .ok (.putfield 227, 3) := by decide +kernel
theorem dX8_call_77 : decode cX8_call 77 = .ok (.iload_n 3, 1) := by decide +kernel
theorem dX8_call_78 : decode cX8_call 78 = .ok (.ireturn, 1) := by decide +kernel
theorem dX8_call_68 : decode cX8_call 68 = .ok (.iconst 0, 1) := by decide +kernel
theorem dX8_call_69 : decode cX8_call 69 = .ok (.goto 5, 3) := by decide +kernel
theorem dX8_call_49 : decode cX8_call 49 = .ok (.aload_n 0, 1) := by decide +kernel
theorem dX8_call_50 : decode cX8_call 50 = .ok (.iconst 1, 1) := by decide +kernel
theorem dX8_call_51 : decode cX8_call 51 = .ok (.invokevirtual 223, 3) := by decide +kernel
theorem dX8_call_54 : decode cX8_call 54 = .ok (.istore_n 3, 1) := by decide +kernel
theorem dX8_call_55 : decode cX8_call 55 = .ok (.iconst 2, 1) := by decide +kernel
theorem dX8_call_56 : decode cX8_call 56 = .ok (.istore 4, 2) := by decide +kernel
theorem dX8_call_26 : decode cX8_call 26 = .ok (.bipush (-13), 2) := by decide +kernel
theorem dX8_call_28 : decode cX8_call 28 = .ok (.ireturn, 1) := by decide +kernel
theorem dX8_call_13 : decode cX8_call 13 = .ok (.bipush (-11), 2) := by decide +kernel
theorem dX8_call_15 : decode cX8_call 15 = .ok (.ireturn, 1) := by decide +kernel
set_option maxHeartbeats 4000000 in
set_option maxRecDepth 100000 in
theorem m_call (l : Launch) (D : va_G) (G : Nat → ClassId) (mo : Nat) (ad : Nat → Nat) (σ : MS) (τ : Nat → Int64) (sz : Nat) (n : Nat) (h1 : σ 1 0 = nI n) (hn : n ≤ 12) (k : Nat) (h7 : σ 7 0 = nI k) (hk60 : k ≤ 60) (w0 : Nat) (h22 : σ 22 0 = nI w0) (hw : w0 ≤ 5) (hmo : ∀ i, i < k → okM σ i) (hvo : ∀ i, i < k → ¬ σ 17 i = 0 → 1 ≤ mnE σ i) (hkp : ∀ i, i < k → ∀ q, q < mnE σ i → kdO (σ 19 (5 * i + q))) (hkg : ∀ q, q < w0 → kdO (σ 23 q)) (hb6 : ∀ i, σ 6 i = 0 ∨ σ 6 i = 1) (heo : ∀ i, i < k → okE σ i) (t : Int32) (name : Int32) : Met l yX8_call (ww yX8_call cX8_call 5 (some .int)) (rmD 5) (muP D G sz mo ad (σ, τ) [.ref mo, .int t, .int name]) (muQi D G mo ad (muA G mo ad (σ, τ) sz) (oCall σ τ n k w0 t name).1 (oCall σ τ n k w0 t name).2) 0 0 (muA G mo ad (σ, τ) sz) := by
  refine Met.ofW (cc := cX8_call) (maxL := 5) (ret := (some .int)) (by decide) rfl ?_
  intro p e s m args below meth c s₁ B hml hv
  obtain ⟨rfl, hsz, hP, hK, hD0⟩ := hv
  have hx := B.exec
  have hb := B.bytes
  have hr := B.returns
  have hts : ∀ w ∈ TT, w.before _ s = true := fun w h => atoms_spec (ws := ww yX8_call cX8_call 5 (some .int)) B.pre w (List.mem_cons_of_mem _ h)
  have hown : s.vm.findClass RX8 = some m.cls := findClass_of_methodNamed B.named
  have hlocks := B.notSynchronized
  subst hsz
  have hD : va_D (muA G mo ad (σ, τ) s.heap.size) (mW G mo ad σ τ) := hD0.self
  generalize hAe : muA G mo ad (σ, τ) s.heap.size = A at hD ⊢
  have hA : ∀ q : Nat, s.heap.size ≤ q → A q := fun q h => by rw [← hAe]; exact Or.inr h
  have hS : va_S A s.heap s.heap [] := va_S.rf
  have hP : va_P D vwCl (mW G mo ad σ τ) s.heap := hP
  have hl := lv_entry ([.ref mo, .int t, .int name]) (n := 5) (Nat.le_of_ble_eq_true rfl)
  rw [lg_entry_eq]
  generalize (lg_sl ([.ref mo, .int t, .int name]) ++ List.replicate (5 - (lg_sl ([.ref mo, .int t, .int name])).length) Slot.unset).toArray = ls at hl ⊢
  have hl : lv_has ls 5 [(0, .ref mo), (1, .int t), (2, .int name)] := hl
  refine lv_aload_n hx hb dX8_call_0 rfl (lv_at hl 0 rfl) ?_
  refine lv_iconst (v := 0) hx hb dX8_call_1 (by decide) ?_
  refine va_put (D := D) (ci := 8) (v := .int 0) (ty := .int) (C := RX8) (T := TX8) (N := 33) hx hb hts iX8 tyX8 tyX8_ok nmX8 hown hK.1 hP hD hS 0 rfl rfl 0 (by decide) (hts _ q_679) (fun _ h9 => h9) rfl (by decide +kernel) rfl rfl (Nat.le_of_ble_eq_true rfl) dX8_call_2 (fun H locs hP hD hS => ?_)
  have hP : va_P D vwCl (mW G mo ad (su σ 0 (0) (0)) (τ)) H := hP
  have hD : va_D A (mW G mo ad (su σ 0 (0) (0)) (τ)) := hD
  refine lv_aload_n hx hb dX8_call_5 rfl (lv_at hl 0 rfl) ?_
  refine lv_iload_n hx hb dX8_call_6 rfl (lv_at hl 1 rfl) ?_
  refine ro_Vi (D := D) (G := G) (As := [.int t]) (rest := []) ⟨hx, hb, hml, hown, hts⟩ (m_isType l D G _ mo ad _ _ hP n h1 hn t) gV_X8_X8_isType hdV_X8_isType ⟨Nat.le_of_ble_eq_true rfl, Nat.le_of_ble_eq_true rfl⟩ hK (va_recv hK.1 hP (ci := 8) (q0 := 0) rfl rfl) rfl hl.1 rfl (Nat.le_of_ble_eq_true rfl) dX8_call_7 ⟨Nat.le_of_ble_eq_true rfl, Nat.le_of_ble_eq_true rfl⟩ (fun r1 e_r1 => ?_)
  subst e_r1
  refine W.eq (g2 := F0 m 10 ls [.int (bI (okN n t))]) rfl ?_
  refine lv_if_ne (tgt := 16) hx hb dX8_call_10 (by decide) (fun c2 => ?_) (fun c2 => ?_)
  · -- 10 taken
    have c2 := bI_1 c2
    obtain ⟨j3, h_j3, rfl⟩ := okN_ex (by omega) c2
    refine lv_iload_n hx hb dX8_call_16 rfl (lv_at hl 2 rfl) ?_
    refine lv_iconst (v := 0) hx hb dX8_call_17 (by decide) ?_
    refine lv_bipush (v := 49) hx hb dX8_call_18 (by decide) ?_
    refine ro_Si (D := D) (G := G) (As := [.int name, .int 0, .int 49]) (rest := []) ⟨hx, hb, hml, hown, hts⟩ (m_in l D G _ name 0 49) gS_X8_X8_in hdS_X8_in ⟨Nat.le_of_ble_eq_true rfl, Nat.le_of_ble_eq_true rfl⟩ hK rfl hl.1 rfl (Nat.le_of_ble_eq_true rfl) dX8_call_20 ⟨Nat.le_of_ble_eq_true rfl, Nat.le_of_ble_eq_true rfl⟩ (fun r4 e_r4 => ?_)
    subst e_r4
    refine W.eq (g2 := F0 m 23 ls [.int (bI (0 ≤ name ∧ name ≤ 49))]) rfl ?_
    refine lv_if_ne (tgt := 29) hx hb dX8_call_23 (by decide) (fun c5 => ?_) (fun c5 => ?_)
    · -- 23 taken
      have c5 := bI_1 c5
      refine lv_aload_n hx hb dX8_call_29 rfl (lv_at hl 0 rfl) ?_
      refine lv_iload_n hx hb dX8_call_30 rfl (lv_at hl 1 rfl) ?_
      refine lv_iload_n hx hb dX8_call_31 rfl (lv_at hl 2 rfl) ?_
      refine mu_Vv (D := D) (G := G) (mo := mo) (ad := ad) (u := (su σ 0 (0) (0), τ)) (As := [.int (nI j3), .int name]) (rest := []) ⟨hx, hb, hml, hown, hts⟩ (m_candidates l D G mo ad (su σ 0 (0) (0)) (τ) _ k h7 hk60 (j3) (by omega) name heo hmo hb6) gV_X8_X8_candidates hdV_X8_candidates ⟨Nat.le_of_ble_eq_true rfl, Nat.le_of_ble_eq_true rfl⟩ hK hP hD hS hA rfl hl.1 rfl (Nat.le_of_ble_eq_true rfl) dX8_call_32 ⟨Nat.le_of_ble_eq_true rfl, Nat.le_of_ble_eq_true rfl⟩ (fun H locs hP hD hS => ?_)
      have hP : va_P D vwCl (mW G mo ad (st (st (su σ 0 (0) (0)) 30 (cdF (su σ 0 0 0) j3 name (σ 30) k)) 31 (ffF (su σ 0 0 0) j3 name k (σ 31) k)) (τ)) H := hP
      have hD : va_D A (mW G mo ad (st (st (su σ 0 (0) (0)) 30 (cdF (su σ 0 0 0) j3 name (σ 30) k)) 31 (ffF (su σ 0 0 0) j3 name k (σ 31) k)) (τ)) := hD
      refine lv_aload_n hx hb dX8_call_35 rfl (lv_at hl 0 rfl) ?_
      refine lv_iconst (v := 0) hx hb dX8_call_36 (by decide) ?_
      refine mu_Vi (D := D) (G := G) (mo := mo) (ad := ad) (u := (st (st (su σ 0 (0) (0)) 30 (cdF (su σ 0 0 0) j3 name (σ 30) k)) 31 (ffF (su σ 0 0 0) j3 name k (σ 31) k), τ)) (As := [.int 0]) (rest := []) ⟨hx, hb, hml, hown, hts⟩ (m_nearest l D G mo ad (st (st (su σ 0 (0) (0)) 30 (cdF (su σ 0 0 0) j3 name (σ 30) k)) 31 (ffF (su σ 0 0 0) j3 name k (σ 31) k)) (τ) _ k h7 hk60 w0 h22 hw hmo hvo hkp hkg 0 hb6) gV_X8_X8_nearest hdV_X8_nearest ⟨Nat.le_of_ble_eq_true rfl, Nat.le_of_ble_eq_true rfl⟩ hK hP hD hS hA rfl hl.1 rfl (Nat.le_of_ble_eq_true rfl) dX8_call_37 ⟨Nat.le_of_ble_eq_true rfl, Nat.le_of_ble_eq_true rfl⟩ (fun H locs hP hD hS => ?_)
      have hP : va_P D vwCl (mW G mo ad (st (st (st (su σ 0 (0) (0)) 30 (cdF (su σ 0 0 0) j3 name (σ 30) k)) 31 (ffF (su σ 0 0 0) j3 name k (σ 31) k)) 32 (tpF (caS (su σ 0 0 0) j3 name k) w0 0 (σ 32) k)) (τ)) H := hP
      have hD : va_D A (mW G mo ad (st (st (st (su σ 0 (0) (0)) 30 (cdF (su σ 0 0 0) j3 name (σ 30) k)) 31 (ffF (su σ 0 0 0) j3 name k (σ 31) k)) 32 (tpF (caS (su σ 0 0 0) j3 name k) w0 0 (σ 32) k)) (τ)) := hD
      refine W.eq (g2 := F0 m 40 ls [.int (nrA (caS (su σ 0 0 0) j3 name k) w0 k 0)]) rfl ?_
      refine lv_istore_n (lv' := [(3, .int (nrA (caS (su σ 0 0 0) j3 name k) w0 k 0)), (0, .ref mo), (1, .int (nI j3)), (2, .int name)]) hx hb dX8_call_40 rfl hl (by decide) rfl (fun ls hl => ?_)
      refine lv_iconst (v := 1) hx hb dX8_call_41 (by decide) ?_
      refine lv_istore (lv' := [(4, .int 1), (3, .int (nrA (caS (su σ 0 0 0) j3 name k) w0 k 0)), (0, .ref mo), (1, .int (nI j3)), (2, .int name)]) hx hb dX8_call_42 hl (by decide) rfl (fun ls hl => ?_)
      refine lv_iload_n hx hb dX8_call_44 rfl (lv_at hl 1 rfl) ?_
      refine lv_iconst (v := -1) hx hb dX8_call_45 (by decide) ?_
      refine lv_icmp_ne (tgt := 58) hx hb dX8_call_46 (by decide) (fun c6 => ?_) (fun c6 => ?_)
      · -- 46 taken
        refine lv_aload_n hx hb dX8_call_58 rfl (lv_at hl 2 rfl) ?_
        refine lv_iconst (v := 0) hx hb dX8_call_59 (by decide) ?_
        refine va_put (D := D) (ci := 8) (v := .int 0) (ty := .int) (C := RX8) (T := TX8) (N := 33) hx hb hts iX8 tyX8 tyX8_ok nmX8 hown hK.1 hP hD hS 0 rfl rfl 22 (by decide) (hts _ q_701) (fun _ h9 => h9) rfl (by decide +kernel) rfl rfl (Nat.le_of_ble_eq_true rfl) dX8_call_60 (fun H locs hP hD hS => ?_)
        have hP : va_P D vwCl (mW G mo ad (su (st (st (st (su σ 0 (0) (0)) 30 (cdF (su σ 0 0 0) j3 name (σ 30) k)) 31 (ffF (su σ 0 0 0) j3 name k (σ 31) k)) 32 (tpF (caS (su σ 0 0 0) j3 name k) w0 0 (σ 32) k)) 22 (0) (0)) (τ)) H := hP
        have hD : va_D A (mW G mo ad (su (st (st (st (su σ 0 (0) (0)) 30 (cdF (su σ 0 0 0) j3 name (σ 30) k)) 31 (ffF (su σ 0 0 0) j3 name k (σ 31) k)) 32 (tpF (caS (su σ 0 0 0) j3 name k) w0 0 (σ 32) k)) 22 (0) (0)) (τ)) := hD
        refine lv_aload_n hx hb dX8_call_63 rfl (lv_at hl 2 rfl) ?_
        refine lv_iload_n hx hb dX8_call_64 rfl (lv_at hl 1 rfl) ?_
        refine lv_if_ge (tgt := 72) hx hb dX8_call_65 (by decide) (fun c7 => ?_) (fun c7 => ?_)
        · -- 65 taken
          refine lv_iload hx hb dX8_call_72 (lv_at hl 0 rfl) ?_
          refine va_put (D := D) (ci := 8) (v := .int 1) (ty := .int) (C := RX8) (T := TX8) (N := 33) hx hb hts iX8 tyX8 tyX8_ok nmX8 hown hK.1 hP hD hS 0 rfl rfl 25 (by decide) (hts _ q_704) (fun _ h9 => h9) rfl (by decide +kernel) rfl rfl (Nat.le_of_ble_eq_true rfl) dX8_call_74 (fun H locs hP hD hS => ?_)
          have hP : va_P D vwCl (mW G mo ad (su (su (st (st (st (su σ 0 (0) (0)) 30 (cdF (su σ 0 0 0) j3 name (σ 30) k)) 31 (ffF (su σ 0 0 0) j3 name k (σ 31) k)) 32 (tpF (caS (su σ 0 0 0) j3 name k) w0 0 (σ 32) k)) 22 (0) (0)) 25 (0) (1)) (τ)) H := hP
          have hD : va_D A (mW G mo ad (su (su (st (st (st (su σ 0 (0) (0)) 30 (cdF (su σ 0 0 0) j3 name (σ 30) k)) 31 (ffF (su σ 0 0 0) j3 name k (σ 31) k)) 32 (tpF (caS (su σ 0 0 0) j3 name k) w0 0 (σ 32) k)) 22 (0) (0)) 25 (0) (1)) (τ)) := hD
          refine lv_iload_n hx hb dX8_call_77 rfl (lv_at hl 1 rfl) ?_
          have ho : oCall σ τ n k w0 (nI j3) name = (nrA (caS (su σ 0 0 0) j3 name k) w0 k 0, su (su (st (st (st (su σ 0 (0) (0)) 30 (cdF (su σ 0 0 0) j3 name (σ 30) k)) 31 (ffF (su σ 0 0 0) j3 name k (σ 31) k)) 32 (tpF (caS (su σ 0 0 0) j3 name k) w0 0 (σ 32) k)) 22 (0) (0)) 25 (0) (1), τ) := by unfold oCall; simp only [eq_true c2, eq_true c5, eq_false c6, eq_true c7, nI_clamp (show j3 < 2 ^ 31 by omega), not_true, not_false_iff, not_true_eq_false, not_false_eq_true, true_or, or_true, false_or, or_false, or_self, and_self, true_and, and_true, false_and, and_false, if_true, if_false]; try rfl
          exact mu_iret (v0 := nrA (caS (su σ 0 0 0) j3 name k) w0 k 0) (z := (su (su (st (st (st (su σ 0 (0) (0)) 30 (cdF (su σ 0 0 0) j3 name (σ 30) k)) 31 (ffF (su σ 0 0 0) j3 name k (σ 31) k)) 32 (tpF (caS (su σ 0 0 0) j3 name k) w0 0 (σ 32) k)) 22 (0) (0)) 25 (0) (1), τ)) hx hb hr hlocks hP hD hS dX8_call_78 (by rw [ho]) (by rw [ho])
        · -- 65 not
          refine lv_iconst (v := 0) hx hb dX8_call_68 (by decide) ?_
          refine lv_goto (tgt := 74) hx hb dX8_call_69 (by decide) ?_
          refine va_put (D := D) (ci := 8) (v := .int 0) (ty := .int) (C := RX8) (T := TX8) (N := 33) hx hb hts iX8 tyX8 tyX8_ok nmX8 hown hK.1 hP hD hS 0 rfl rfl 25 (by decide) (hts _ q_704) (fun _ h9 => h9) rfl (by decide +kernel) rfl rfl (Nat.le_of_ble_eq_true rfl) dX8_call_74 (fun H locs hP hD hS => ?_)
          have hP : va_P D vwCl (mW G mo ad (su (su (st (st (st (su σ 0 (0) (0)) 30 (cdF (su σ 0 0 0) j3 name (σ 30) k)) 31 (ffF (su σ 0 0 0) j3 name k (σ 31) k)) 32 (tpF (caS (su σ 0 0 0) j3 name k) w0 0 (σ 32) k)) 22 (0) (0)) 25 (0) (0)) (τ)) H := hP
          have hD : va_D A (mW G mo ad (su (su (st (st (st (su σ 0 (0) (0)) 30 (cdF (su σ 0 0 0) j3 name (σ 30) k)) 31 (ffF (su σ 0 0 0) j3 name k (σ 31) k)) 32 (tpF (caS (su σ 0 0 0) j3 name k) w0 0 (σ 32) k)) 22 (0) (0)) 25 (0) (0)) (τ)) := hD
          refine lv_iload_n hx hb dX8_call_77 rfl (lv_at hl 1 rfl) ?_
          have ho : oCall σ τ n k w0 (nI j3) name = (nrA (caS (su σ 0 0 0) j3 name k) w0 k 0, su (su (st (st (st (su σ 0 (0) (0)) 30 (cdF (su σ 0 0 0) j3 name (σ 30) k)) 31 (ffF (su σ 0 0 0) j3 name k (σ 31) k)) 32 (tpF (caS (su σ 0 0 0) j3 name k) w0 0 (σ 32) k)) 22 (0) (0)) 25 (0) (0), τ) := by unfold oCall; simp only [eq_true c2, eq_true c5, eq_false c6, eq_false c7, nI_clamp (show j3 < 2 ^ 31 by omega), not_true, not_false_iff, not_true_eq_false, not_false_eq_true, true_or, or_true, false_or, or_false, or_self, and_self, true_and, and_true, false_and, and_false, if_true, if_false]; try rfl
          exact mu_iret (v0 := nrA (caS (su σ 0 0 0) j3 name k) w0 k 0) (z := (su (su (st (st (st (su σ 0 (0) (0)) 30 (cdF (su σ 0 0 0) j3 name (σ 30) k)) 31 (ffF (su σ 0 0 0) j3 name k (σ 31) k)) 32 (tpF (caS (su σ 0 0 0) j3 name k) w0 0 (σ 32) k)) 22 (0) (0)) 25 (0) (0), τ)) hx hb hr hlocks hP hD hS dX8_call_78 (by rw [ho]) (by rw [ho])
      · -- 46 not
        refine lv_aload_n hx hb dX8_call_49 rfl (lv_at hl 2 rfl) ?_
        refine lv_iconst (v := 1) hx hb dX8_call_50 (by decide) ?_
        refine mu_Vi (D := D) (G := G) (mo := mo) (ad := ad) (u := (st (st (st (su σ 0 (0) (0)) 30 (cdF (su σ 0 0 0) j3 name (σ 30) k)) 31 (ffF (su σ 0 0 0) j3 name k (σ 31) k)) 32 (tpF (caS (su σ 0 0 0) j3 name k) w0 0 (σ 32) k), τ)) (As := [.int 1]) (rest := []) ⟨hx, hb, hml, hown, hts⟩ (m_nearest l D G mo ad (st (st (st (su σ 0 (0) (0)) 30 (cdF (su σ 0 0 0) j3 name (σ 30) k)) 31 (ffF (su σ 0 0 0) j3 name k (σ 31) k)) 32 (tpF (caS (su σ 0 0 0) j3 name k) w0 0 (σ 32) k)) (τ) _ k h7 hk60 w0 h22 hw hmo hvo hkp hkg 1 hb6) gV_X8_X8_nearest hdV_X8_nearest ⟨Nat.le_of_ble_eq_true rfl, Nat.le_of_ble_eq_true rfl⟩ hK hP hD hS hA rfl hl.1 rfl (Nat.le_of_ble_eq_true rfl) dX8_call_51 ⟨Nat.le_of_ble_eq_true rfl, Nat.le_of_ble_eq_true rfl⟩ (fun H locs hP hD hS => ?_)
        have hP : va_P D vwCl (mW G mo ad (st (st (st (su σ 0 (0) (0)) 30 (cdF (su σ 0 0 0) j3 name (σ 30) k)) 31 (ffF (su σ 0 0 0) j3 name k (σ 31) k)) 32 (tpF (nrS (caS (su σ 0 0 0) j3 name k) w0 k 0) w0 1 (tpF (caS (su σ 0 0 0) j3 name k) w0 0 (σ 32) k) k)) (τ)) H := hP
        have hD : va_D A (mW G mo ad (st (st (st (su σ 0 (0) (0)) 30 (cdF (su σ 0 0 0) j3 name (σ 30) k)) 31 (ffF (su σ 0 0 0) j3 name k (σ 31) k)) 32 (tpF (nrS (caS (su σ 0 0 0) j3 name k) w0 k 0) w0 1 (tpF (caS (su σ 0 0 0) j3 name k) w0 0 (σ 32) k) k)) (τ)) := hD
        refine W.eq (g2 := F0 m 54 ls [.int (nrA (nrS (caS (su σ 0 0 0) j3 name k) w0 k 0) w0 k 1)]) rfl ?_
        refine lv_istore_n (lv' := [(3, .int (nrA (nrS (caS (su σ 0 0 0) j3 name k) w0 k 0) w0 k 1)), (4, .int 1), (0, .ref mo), (1, .int (nI j3)), (2, .int name)]) hx hb dX8_call_54 rfl hl (by decide) rfl (fun ls hl => ?_)
        refine lv_iconst (v := 2) hx hb dX8_call_55 (by decide) ?_
        refine lv_istore (lv' := [(4, .int 2), (3, .int (nrA (nrS (caS (su σ 0 0 0) j3 name k) w0 k 0) w0 k 1)), (0, .ref mo), (1, .int (nI j3)), (2, .int name)]) hx hb dX8_call_56 hl (by decide) rfl (fun ls hl => ?_)
        refine lv_aload_n hx hb dX8_call_58 rfl (lv_at hl 2 rfl) ?_
        refine lv_iconst (v := 0) hx hb dX8_call_59 (by decide) ?_
        refine va_put (D := D) (ci := 8) (v := .int 0) (ty := .int) (C := RX8) (T := TX8) (N := 33) hx hb hts iX8 tyX8 tyX8_ok nmX8 hown hK.1 hP hD hS 0 rfl rfl 22 (by decide) (hts _ q_701) (fun _ h9 => h9) rfl (by decide +kernel) rfl rfl (Nat.le_of_ble_eq_true rfl) dX8_call_60 (fun H locs hP hD hS => ?_)
        have hP : va_P D vwCl (mW G mo ad (su (st (st (st (su σ 0 (0) (0)) 30 (cdF (su σ 0 0 0) j3 name (σ 30) k)) 31 (ffF (su σ 0 0 0) j3 name k (σ 31) k)) 32 (tpF (nrS (caS (su σ 0 0 0) j3 name k) w0 k 0) w0 1 (tpF (caS (su σ 0 0 0) j3 name k) w0 0 (σ 32) k) k)) 22 (0) (0)) (τ)) H := hP
        have hD : va_D A (mW G mo ad (su (st (st (st (su σ 0 (0) (0)) 30 (cdF (su σ 0 0 0) j3 name (σ 30) k)) 31 (ffF (su σ 0 0 0) j3 name k (σ 31) k)) 32 (tpF (nrS (caS (su σ 0 0 0) j3 name k) w0 k 0) w0 1 (tpF (caS (su σ 0 0 0) j3 name k) w0 0 (σ 32) k) k)) 22 (0) (0)) (τ)) := hD
        refine lv_aload_n hx hb dX8_call_63 rfl (lv_at hl 2 rfl) ?_
        refine lv_iload_n hx hb dX8_call_64 rfl (lv_at hl 1 rfl) ?_
        refine lv_if_ge (tgt := 72) hx hb dX8_call_65 (by decide) (fun c8 => ?_) (fun c8 => ?_)
        · -- 65 taken
          refine lv_iload hx hb dX8_call_72 (lv_at hl 0 rfl) ?_
          refine va_put (D := D) (ci := 8) (v := .int 2) (ty := .int) (C := RX8) (T := TX8) (N := 33) hx hb hts iX8 tyX8 tyX8_ok nmX8 hown hK.1 hP hD hS 0 rfl rfl 25 (by decide) (hts _ q_704) (fun _ h9 => h9) rfl (by decide +kernel) rfl rfl (Nat.le_of_ble_eq_true rfl) dX8_call_74 (fun H locs hP hD hS => ?_)
          have hP : va_P D vwCl (mW G mo ad (su (su (st (st (st (su σ 0 (0) (0)) 30 (cdF (su σ 0 0 0) j3 name (σ 30) k)) 31 (ffF (su σ 0 0 0) j3 name k (σ 31) k)) 32 (tpF (nrS (caS (su σ 0 0 0) j3 name k) w0 k 0) w0 1 (tpF (caS (su σ 0 0 0) j3 name k) w0 0 (σ 32) k) k)) 22 (0) (0)) 25 (0) (2)) (τ)) H := hP
          have hD : va_D A (mW G mo ad (su (su (st (st (st (su σ 0 (0) (0)) 30 (cdF (su σ 0 0 0) j3 name (σ 30) k)) 31 (ffF (su σ 0 0 0) j3 name k (σ 31) k)) 32 (tpF (nrS (caS (su σ 0 0 0) j3 name k) w0 k 0) w0 1 (tpF (caS (su σ 0 0 0) j3 name k) w0 0 (σ 32) k) k)) 22 (0) (0)) 25 (0) (2)) (τ)) := hD
          refine lv_iload_n hx hb dX8_call_77 rfl (lv_at hl 1 rfl) ?_
          have ho : oCall σ τ n k w0 (nI j3) name = (nrA (nrS (caS (su σ 0 0 0) j3 name k) w0 k 0) w0 k 1, su (su (st (st (st (su σ 0 (0) (0)) 30 (cdF (su σ 0 0 0) j3 name (σ 30) k)) 31 (ffF (su σ 0 0 0) j3 name k (σ 31) k)) 32 (tpF (nrS (caS (su σ 0 0 0) j3 name k) w0 k 0) w0 1 (tpF (caS (su σ 0 0 0) j3 name k) w0 0 (σ 32) k) k)) 22 (0) (0)) 25 (0) (2), τ) := by unfold oCall; simp only [eq_true c2, eq_true c5, eq_true c6, eq_true c8, nI_clamp (show j3 < 2 ^ 31 by omega), not_true, not_false_iff, not_true_eq_false, not_false_eq_true, true_or, or_true, false_or, or_false, or_self, and_self, true_and, and_true, false_and, and_false, if_true, if_false]; try rfl
          exact mu_iret (v0 := nrA (nrS (caS (su σ 0 0 0) j3 name k) w0 k 0) w0 k 1) (z := (su (su (st (st (st (su σ 0 (0) (0)) 30 (cdF (su σ 0 0 0) j3 name (σ 30) k)) 31 (ffF (su σ 0 0 0) j3 name k (σ 31) k)) 32 (tpF (nrS (caS (su σ 0 0 0) j3 name k) w0 k 0) w0 1 (tpF (caS (su σ 0 0 0) j3 name k) w0 0 (σ 32) k) k)) 22 (0) (0)) 25 (0) (2), τ)) hx hb hr hlocks hP hD hS dX8_call_78 (by rw [ho]) (by rw [ho])
        · -- 65 not
          refine lv_iconst (v := 0) hx hb dX8_call_68 (by decide) ?_
          refine lv_goto (tgt := 74) hx hb dX8_call_69 (by decide) ?_
          refine va_put (D := D) (ci := 8) (v := .int 0) (ty := .int) (C := RX8) (T := TX8) (N := 33) hx hb hts iX8 tyX8 tyX8_ok nmX8 hown hK.1 hP hD hS 0 rfl rfl 25 (by decide) (hts _ q_704) (fun _ h9 => h9) rfl (by decide +kernel) rfl rfl (Nat.le_of_ble_eq_true rfl) dX8_call_74 (fun H locs hP hD hS => ?_)
          have hP : va_P D vwCl (mW G mo ad (su (su (st (st (st (su σ 0 (0) (0)) 30 (cdF (su σ 0 0 0) j3 name (σ 30) k)) 31 (ffF (su σ 0 0 0) j3 name k (σ 31) k)) 32 (tpF (nrS (caS (su σ 0 0 0) j3 name k) w0 k 0) w0 1 (tpF (caS (su σ 0 0 0) j3 name k) w0 0 (σ 32) k) k)) 22 (0) (0)) 25 (0) (0)) (τ)) H := hP
          have hD : va_D A (mW G mo ad (su (su (st (st (st (su σ 0 (0) (0)) 30 (cdF (su σ 0 0 0) j3 name (σ 30) k)) 31 (ffF (su σ 0 0 0) j3 name k (σ 31) k)) 32 (tpF (nrS (caS (su σ 0 0 0) j3 name k) w0 k 0) w0 1 (tpF (caS (su σ 0 0 0) j3 name k) w0 0 (σ 32) k) k)) 22 (0) (0)) 25 (0) (0)) (τ)) := hD
          refine lv_iload_n hx hb dX8_call_77 rfl (lv_at hl 1 rfl) ?_
          have ho : oCall σ τ n k w0 (nI j3) name = (nrA (nrS (caS (su σ 0 0 0) j3 name k) w0 k 0) w0 k 1, su (su (st (st (st (su σ 0 (0) (0)) 30 (cdF (su σ 0 0 0) j3 name (σ 30) k)) 31 (ffF (su σ 0 0 0) j3 name k (σ 31) k)) 32 (tpF (nrS (caS (su σ 0 0 0) j3 name k) w0 k 0) w0 1 (tpF (caS (su σ 0 0 0) j3 name k) w0 0 (σ 32) k) k)) 22 (0) (0)) 25 (0) (0), τ) := by unfold oCall; simp only [eq_true c2, eq_true c5, eq_true c6, eq_false c8, nI_clamp (show j3 < 2 ^ 31 by omega), not_true, not_false_iff, not_true_eq_false, not_false_eq_true, true_or, or_true, false_or, or_false, or_self, and_self, true_and, and_true, false_and, and_false, if_true, if_false]; try rfl
          exact mu_iret (v0 := nrA (nrS (caS (su σ 0 0 0) j3 name k) w0 k 0) w0 k 1) (z := (su (su (st (st (st (su σ 0 (0) (0)) 30 (cdF (su σ 0 0 0) j3 name (σ 30) k)) 31 (ffF (su σ 0 0 0) j3 name k (σ 31) k)) 32 (tpF (nrS (caS (su σ 0 0 0) j3 name k) w0 k 0) w0 1 (tpF (caS (su σ 0 0 0) j3 name k) w0 0 (σ 32) k) k)) 22 (0) (0)) 25 (0) (0), τ)) hx hb hr hlocks hP hD hS dX8_call_78 (by rw [ho]) (by rw [ho])
    · -- 23 not
      have c5 := bI_0 c5
      refine lv_bipush (v := -13) hx hb dX8_call_26 (by decide) ?_
      have ho : oCall σ τ n k w0 (nI j3) name = ((-13), su σ 0 (0) (0), τ) := by unfold oCall; simp only [eq_true c2, eq_false c5, nI_clamp (show j3 < 2 ^ 31 by omega), not_true, not_false_iff, not_true_eq_false, not_false_eq_true, true_or, or_true, false_or, or_false, or_self, and_self, true_and, and_true, false_and, and_false, if_true, if_false]; try rfl
      exact mu_iret (v0 := (-13)) (z := (su σ 0 (0) (0), τ)) hx hb hr hlocks hP hD hS dX8_call_28 (by rw [ho]) (by rw [ho])
  · -- 10 not
    have c2 := bI_0 c2
    refine lv_bipush (v := -11) hx hb dX8_call_13 (by decide) ?_
    have ho : oCall σ τ n k w0 t name = ((-11), su σ 0 (0) (0), τ) := by unfold oCall; simp only [eq_false c2, not_true, not_false_iff, not_true_eq_false, not_false_eq_true, true_or, or_true, false_or, or_false, or_self, and_self, true_and, and_true, false_and, and_false, if_true, if_false]; try rfl
    exact mu_iret (v0 := (-11)) (z := (su σ 0 (0) (0), τ)) hx hb hr hlocks hP hD hS dX8_call_15 (by rw [ho]) (by rw [ho])
