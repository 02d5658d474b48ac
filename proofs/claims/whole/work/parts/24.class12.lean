-- worlds: order does not matter; a call that gets a part
theorem P_perm {D : va_G} {cl : List vw_C} {ws ws' : va_W} {H : Heap} (h : va_P D cl ws H) (p : ws.Perm ws') : va_P D cl ws' H := fun _ q hq => by
  obtain ⟨j, hj⟩ := List.getElem?_of_mem (p.mem_iff.mpr (List.mem_of_getElem? hq))
  exact h j q hj
theorem D_cons {A : Nat → Prop} {c : Nat × va_E} {ws : va_W} : va_D A (c :: ws) ↔ (A c.1 ∧ (∀ q ∈ ws, q.1 ≠ c.1) ∧ va_D A ws) := by
  constructor
  · intro h
    refine ⟨h.2 0 c rfl, fun q hq e => ?_, ⟨fun i j x y hx hy e => ?_, fun k q hk => h.2 (k + 1) q (by rw [List.getElem?_cons_succ]; exact hk)⟩⟩
    · obtain ⟨j, hj⟩ := List.getElem?_of_mem hq
      have := h.1 (j + 1) 0 q c (by rw [List.getElem?_cons_succ]; exact hj) rfl e
      omega
    · have := h.1 (i + 1) (j + 1) x y (by rw [List.getElem?_cons_succ]; exact hx) (by rw [List.getElem?_cons_succ]; exact hy) e
      omega
  · rintro ⟨h1, h2, h3⟩
    refine ⟨fun i j x y hx hy e => ?_, fun k q hk => ?_⟩
    · match i, j with
      | 0, 0 => rfl
      | 0, j + 1 =>
        rw [List.getElem?_cons_zero] at hx; rw [List.getElem?_cons_succ] at hy
        cases hx
        exact absurd e.symm (h2 y (List.mem_of_getElem? hy))
      | i + 1, 0 =>
        rw [List.getElem?_cons_succ] at hx; rw [List.getElem?_cons_zero] at hy
        cases hy
        exact absurd e (h2 x (List.mem_of_getElem? hx))
      | i + 1, j + 1 =>
        rw [List.getElem?_cons_succ] at hx hy
        rw [h3.1 i j x y hx hy e]
    · match k with
      | 0 => rw [List.getElem?_cons_zero] at hk; cases hk; exact h1
      | k + 1 => rw [List.getElem?_cons_succ] at hk; exact h3.2 k q hk
theorem D_perm {A : Nat → Prop} {ws ws' : va_W} (p : ws.Perm ws') : va_D A ws → va_D A ws' := by
  induction p with
  | nil => exact id
  | cons x p ih => exact fun h => D_cons.mpr ⟨(D_cons.mp h).1, fun q hq => (D_cons.mp h).2.1 q (p.mem_iff.mpr hq), ih (D_cons.mp h).2.2⟩
  | swap x y l =>
    intro h
    obtain ⟨h1, h2, h3⟩ := D_cons.mp h
    obtain ⟨h4, h5, h6⟩ := D_cons.mp h3
    refine D_cons.mpr ⟨h4, fun q hq => ?_, D_cons.mpr ⟨h1, fun q hq => h2 q (List.mem_cons_of_mem _ hq), h6⟩⟩
    rcases List.mem_cons.mp hq with rfl | hq
    · exact fun e => h2 x List.mem_cons_self e.symm
    · exact h5 q hq
  | trans p q ih1 ih2 => exact fun h => ih2 (ih1 h)
section FR
variable {D : va_G} {cl : List vw_C} {A : Nat → Prop} {wr wc w1 : va_W} {H H1 H0 : Heap} {locs : List Loc}
theorem fr_P (hP : va_P D cl (wr ++ wc) H) : va_P D cl wc H := fun k q hq => by
  obtain ⟨j, hj⟩ := List.getElem?_of_mem (List.mem_append_right wr (List.mem_of_getElem? hq))
  exact hP j q hj
theorem fr_Pl (hP : va_P D cl (wr ++ wc) H) : va_P D cl wr H := fun k q hq => by
  obtain ⟨j, hj⟩ := List.getElem?_of_mem (List.mem_append_left wc (List.mem_of_getElem? hq))
  exact hP j q hj
theorem fr_D2 : ∀ {wr : va_W}, va_D A (wr ++ wc) → va_D A wc
  | [], h => h
  | _ :: _, h => fr_D2 (D_cons.mp h).2.2
theorem fr_D1 : ∀ {wr : va_W}, va_D A (wr ++ wc) → va_D A wr
  | [], _ => ⟨fun i j x y hx => by simp at hx, fun k q h => by simp at h⟩
  | c :: wr, h => by
    obtain ⟨h1, h2, h3⟩ := D_cons.mp (show va_D A (c :: (wr ++ wc)) from h)
    exact D_cons.mpr ⟨h1, fun q hq => h2 q (List.mem_append_left _ hq), fr_D1 h3⟩
theorem fr_dis (hD : va_D A (wr ++ wc)) : ∀ x ∈ wr, ∀ y ∈ wc, x.1 ≠ y.1 := fun x hx y hy e => by
  obtain ⟨i, hi⟩ := List.getElem?_of_mem hx
  obtain ⟨j, hj⟩ := List.getElem?_of_mem hy
  have hil := (List.getElem?_eq_some_iff.mp hi).1
  have := hD.1 i (wr.length + j) x y (by rw [List.getElem?_append_left hil]; exact hi) (by rw [List.getElem?_append_right (Nat.le_add_right _ _), Nat.add_sub_cancel_left]; exact hj) e
  omega
theorem fr_free (hD : va_D A (wr ++ wc)) (hS : va_S A H0 H locs) (hA : ∀ q, H0.size ≤ q → A q) : ∀ q, va_A wc H.size q → A q := by
  intro q h
  rcases h with ⟨k, e, h⟩ | h
  · exact (fr_D2 hD).2 k (q, e) h
  · exact hA q (Nat.le_trans hS.1 h)
theorem fr_join (hP : va_P D cl (wr ++ wc) H) (hD : va_D A (wr ++ wc)) (hk : ∀ q : Nat, q < H.size → ¬ va_A wc H.size q → H1[q]? = H[q]?) (hF : ∀ q, va_A wc H.size q → A q) (hP1 : va_P D cl w1 H1) (hD1 : va_D (va_A wc H.size) w1) : va_P D cl (wr ++ w1) H1 ∧ va_D A (wr ++ w1) := by
  have apart : ∀ (k : Nat) (q : Nat × va_E), wr[k]? = some q → q.1 < H.size ∧ ¬ va_A wc H.size q.1 := by
    intro k q hq
    have hl := (fr_Pl hP k q hq).lt
    refine ⟨hl, fun h => ?_⟩
    rcases h with ⟨k2, e, h⟩ | h
    · exact fr_dis hD q (List.mem_of_getElem? hq) (q.1, e) (List.mem_of_getElem? h) rfl
    · omega
  refine ⟨va_P.app (fun k q hq => ?_) hP1, va_D.app (fr_D1 hD) (hD1.weaken (fun k q _ h => hF q.1 h)) (fun i j x y hx hy hxy => ?_)⟩
  · obtain ⟨g1, g2⟩ := apart k q hq
    exact (fr_Pl hP k q hq).kept (hk q.1 g1 g2)
  · exact (apart i x hx).2 (by rw [hxy]; exact hD1.2 j y hy)
end FR
section CI
variable {p : Program} {l : Launch} {e : Env} {R : Room} {s : State} {m : MethodId} {args : Array Value} {below : List Frame} {meth : Method} {c : Code} {H : Heap} {locs : List Loc} {cells slots mc ms : Nat} {Q : State → Prop}
variable {cc : ByteArray} {pc : Nat} {ls : Array Slot} {rest stk : List Value} {D : va_G} {G : Nat → ClassId} {y : MethodName} {bytes : ByteArray} {maxL nL n idx d : Nat} {As : List Value} {own host : String} {A : Nat → Prop} {wr wc : va_W} {b : Nat} {Wp : va_W → Prop}
/-- a constructor of a part of the world -/
theorem cm_I (S : CallFix p m c cc nL s args TT own) (hM : Met l y (.code y bytes maxL none :: TT) (rmC d mc ms) (cmP D G H.size wc (.ref b :: As)) (cmQv D (va_A wc H.size) Wp) mc ms (va_A wc H.size)) (q0 : Cond.code y bytes maxL none ∈ TT) (q1 : Cond.initialized y.cls ∈ TT) (q2 : Cond.methodLink own idx y ∈ TT) (q3 : Cond.instanceMethod y ∈ TT) (hy : y.name = "<init>")
    (hd : y.cls ≠ "java/lang/invoke/MethodHandle" ∧ y.cls ≠ "java/lang/invoke/VarHandle" ∧ (parseMethodDescriptor y.desc).map (fun d => d.parameters.length) = some n) (hR : d + 1 ≤ R.frames ∧ 8 + (maxL + 11) + 40 * d ≤ R.locals) (hK : KK D G s) (hP : va_P D vwCl (wr ++ wc) H) (hD : va_D A (wr ++ wc)) (hS : va_S A s.heap H locs) (hA : ∀ q, s.heap.size ≤ q → A q) (hn : As.length = n) (hsize : ls.size = nL) (hstack : stk = As.reverse ++ .ref b :: rest) (hW : (rest.map fun v => v.category).sum ≤ 8) (hdg : decode cc pc = .ok (.invokespecial idx, 3)) (hc : cells + mc ≤ R.cells ∧ slots + ms ≤ R.slots)
    (kk : ∀ (w1 : va_W) (H : Heap) (locs : List Loc), Wp w1 → va_P D vwCl (wr ++ w1) H → va_D A (wr ++ w1) → va_S A s.heap H locs → W p l e R s m args below meth c H locs (cells + mc) (slots + ms) Q (F0 m (pc + 3) ls rest)) : W p l e R s m args below meth c H locs cells slots Q (F0 m pc ls stk) := by
  have hF := fr_free hD hS hA
  have hp := cm_pre (As := .ref b :: As) hK (fr_P hP) (fr_D2 hD)
  refine va_callv (va_runI S hM (cwI n S.2.2.2.2 (tt_I q0) rfl rfl rfl (S.2.2.2.2 _ q1) (S.2.2.2.2 _ q2) (S.2.2.2.2 _ q3) hy hd hR) hp rfl hn hsize hstack (lv_room hW) hdg hc) hS (fun q _ h => hF q h) hF (fun z t H1 locs1 ht hvm hw hB hz1 hk1 hS1 => ?_)
  obtain ⟨hP1, hD1⟩ := hB
  rw [ht] at hP1
  obtain ⟨hP2, hD2⟩ := fr_join hP hD hk1 hF hP1 hD1
  exact kk z H1 locs1 hw hP2 hD2 hS1
theorem cm_IN (S : CallFix p m c cc nL s args TT own) (hM : Met l y (.code y bytes maxL none :: TT) (rmC d mc ms) (cmP D G H.size wc (.ref b :: As)) (cmQv D (va_A wc H.size) Wp) mc ms (va_A wc H.size)) (q0 : Cond.code y bytes maxL none ∈ TT) (q1 : Cond.initialized y.cls ∈ TT) (q2 : va_Nw (.methodLinkNest own idx y host) s) (q3 : Cond.instanceMethod y ∈ TT) (hy : y.name = "<init>")
    (hd : y.cls ≠ "java/lang/invoke/MethodHandle" ∧ y.cls ≠ "java/lang/invoke/VarHandle" ∧ (parseMethodDescriptor y.desc).map (fun d => d.parameters.length) = some n) (hR : d + 1 ≤ R.frames ∧ 8 + (maxL + 11) + 40 * d ≤ R.locals) (hK : KK D G s) (hP : va_P D vwCl (wr ++ wc) H) (hD : va_D A (wr ++ wc)) (hS : va_S A s.heap H locs) (hA : ∀ q, s.heap.size ≤ q → A q) (hn : As.length = n) (hsize : ls.size = nL) (hstack : stk = As.reverse ++ .ref b :: rest) (hW : (rest.map fun v => v.category).sum ≤ 8) (hdg : decode cc pc = .ok (.invokespecial idx, 3)) (hc : cells + mc ≤ R.cells ∧ slots + ms ≤ R.slots)
    (kk : ∀ (w1 : va_W) (H : Heap) (locs : List Loc), Wp w1 → va_P D vwCl (wr ++ w1) H → va_D A (wr ++ w1) → va_S A s.heap H locs → W p l e R s m args below meth c H locs (cells + mc) (slots + ms) Q (F0 m (pc + 3) ls rest)) : W p l e R s m args below meth c H locs cells slots Q (F0 m pc ls stk) := by
  have hF := fr_free hD hS hA
  have hp := cm_pre (As := .ref b :: As) hK (fr_P hP) (fr_D2 hD)
  refine va_callv (va_runIN S hM ⟨va_cnB n S.2.2.2.2 (tt_I q0) rfl rfl rfl q2 (S.2.2.2.2 _ q1) hd hR, hy, S.2.2.2.2 _ q3⟩ hp rfl hn hsize hstack (lv_room hW) hdg hc) hS (fun q _ h => hF q h) hF (fun z t H1 locs1 ht hvm hw hB hz1 hk1 hS1 => ?_)
  obtain ⟨hP1, hD1⟩ := hB
  rw [ht] at hP1
  obtain ⟨hP2, hD2⟩ := fr_join hP hD hk1 hF hP1 hD1
  exact kk z H1 locs1 hw hP2 hD2 hS1
variable {ws : va_W} {H0 : Heap}
/-- a new row of numbers: its class is the known one -/
theorem newa_i (hx : p.tables.exec = Jvm.exec) (hb : c.code = cc) (q1 : Cond.arrayClass .int ∈ TT) (hts : ∀ w ∈ TT, w.before args s = true) (hK : KK D G s) (hP : va_P D vwCl ws H) (hD : va_D A ws) (hS : va_S A H0 H locs) (hA : ∀ q, H0.size ≤ q → A q) {i : Int32} {N' : Nat} (hi : i = nI N') (hN : N' < 1000) (hcells : cells + 1 ≤ R.cells) (hslots : slots + N' ≤ R.slots) (hdg : decode cc pc = .ok (.newarray .int, 2))
    (kk : ∀ (q : Nat) (H1 : Heap), va_P D vwCl (ws ++ [(q, .inl (G 0, N', .inl (fun _ => 0)))]) H1 → va_D A (ws ++ [(q, .inl (G 0, N', .inl (fun _ => 0)))]) → va_S A H0 H1 locs → W p l e R s m args below meth c H1 locs (cells + 1) (slots + N') Q (F0 m (pc + 2) ls (.ref q :: rest))) : W p l e R s m args below meth c H locs cells slots Q (F0 m pc ls (.int i :: rest)) := by
  subst hi
  refine va_newa (atype := .int) (ty := .int) (N' := N') (a0 := (N', .inl (fun _ => 0))) hx hb (hts _ q1) rfl hK.1 hP hD hS hA (fun _ => rfl) (nI_pos (by omega)) (nI_clamp (by omega)) (by show N' * 4 ≤ _; omega) hcells hslots hdg (fun q cA H1 hK1 hP1 hD1 hS1 => ?_)
  have h1 := va_nm_int (hK1.2 4 _ rfl).2
  have h2 := va_nm_int (hK.1.2 0 _ rfl).2
  obtain rfl : cA = G 0 := Option.some.inj (h1.symm.trans h2)
  exact kk q H1 hP1 hD1 hS1
theorem newa_z (hx : p.tables.exec = Jvm.exec) (hb : c.code = cc) (q1 : Cond.arrayClass .boolean ∈ TT) (hts : ∀ w ∈ TT, w.before args s = true) (hK : KK D G s) (hP : va_P D vwCl ws H) (hD : va_D A ws) (hS : va_S A H0 H locs) (hA : ∀ q, H0.size ≤ q → A q) {i : Int32} {N' : Nat} (hi : i = nI N') (hN : N' < 1000) (hcells : cells + 1 ≤ R.cells) (hslots : slots + N' ≤ R.slots) (hdg : decode cc pc = .ok (.newarray .boolean, 2))
    (kk : ∀ (q : Nat) (H1 : Heap), va_P D vwCl (ws ++ [(q, .inl (G 2, N', .inl (fun _ => 0)))]) H1 → va_D A (ws ++ [(q, .inl (G 2, N', .inl (fun _ => 0)))]) → va_S A H0 H1 locs → W p l e R s m args below meth c H1 locs (cells + 1) (slots + N') Q (F0 m (pc + 2) ls (.ref q :: rest))) : W p l e R s m args below meth c H locs cells slots Q (F0 m pc ls (.int i :: rest)) := by
  subst hi
  refine va_newa (atype := .boolean) (ty := .boolean) (N' := N') (a0 := (N', .inl (fun _ => 0))) hx hb (hts _ q1) rfl hK.1 hP hD hS hA (fun _ => rfl) (nI_pos (by omega)) (nI_clamp (by omega)) (by show N' * 1 ≤ _; omega) hcells hslots hdg (fun q cA H1 hK1 hP1 hD1 hS1 => ?_)
  have h1 : s.vm.findClass "[Z" = some cA := (hK1.2 4 _ rfl).2
  have h2 : s.vm.findClass "[Z" = some (G 2) := (hK.1.2 2 _ rfl).2
  obtain rfl : cA = G 2 := Option.some.inj (h1.symm.trans h2)
  exact kk q H1 hP1 hD1 hS1
theorem newa_j (hx : p.tables.exec = Jvm.exec) (hb : c.code = cc) (q1 : Cond.arrayClass .long ∈ TT) (hts : ∀ w ∈ TT, w.before args s = true) (hK : KK D G s) (hP : va_P D vwCl ws H) (hD : va_D A ws) (hS : va_S A H0 H locs) (hA : ∀ q, H0.size ≤ q → A q) {i : Int32} {N' : Nat} (hi : i = nI N') (hN : N' < 1000) (hcells : cells + 1 ≤ R.cells) (hslots : slots + N' ≤ R.slots) (hdg : decode cc pc = .ok (.newarray .long, 2))
    (kk : ∀ (q : Nat) (H1 : Heap), va_P D vwCl (ws ++ [(q, .inl (G 1, N', .inr (.inl (fun _ => 0))))]) H1 → va_D A (ws ++ [(q, .inl (G 1, N', .inr (.inl (fun _ => 0))))]) → va_S A H0 H1 locs → W p l e R s m args below meth c H1 locs (cells + 1) (slots + N') Q (F0 m (pc + 2) ls (.ref q :: rest))) : W p l e R s m args below meth c H locs cells slots Q (F0 m pc ls (.int i :: rest)) := by
  subst hi
  refine va_newa (atype := .long) (ty := .long) (N' := N') (a0 := (N', .inr (.inl (fun _ => 0)))) hx hb (hts _ q1) rfl hK.1 hP hD hS hA (fun _ => rfl) (nI_pos (by omega)) (nI_clamp (by omega)) (by show N' * 8 ≤ _; omega) hcells hslots hdg (fun q cA H1 hK1 hP1 hD1 hS1 => ?_)
  have h1 := va_nm_long (hK1.2 4 _ rfl).2
  have h2 := va_nm_long (hK.1.2 1 _ rfl).2
  obtain rfl : cA = G 1 := Option.some.inj (h1.symm.trans h2)
  exact kk q H1 hP1 hD1 hS1
/-- a new row of entries -/
theorem newa_q (hx : p.tables.exec = Jvm.exec) (hb : c.code = cc) {own : String} {index : Nat} (hown : s.vm.findClass own = some m.cls) (q1 : (Cond.classLink own index "FieldMember$Entry").before args s = true) (hK : KK D G s) (hP : va_P D vwCl ws H) (hD : va_D A ws) (hS : va_S A H0 H locs) (hA : ∀ q, H0.size ≤ q → A q) {i : Int32} {N' : Nat} (hi : i = nI N') (hN : N' < 1000) (hcells : cells + 1 ≤ R.cells) (hslots : slots + N' ≤ R.slots) (hdg : decode cc pc = .ok (.anewarray index, 3))
    (kk : ∀ (q : Nat) (H1 : Heap), va_P D vwCl (ws ++ [(q, .inl (G 3, N', .inr (.inr (.inr (.inr (fun _ => none))))))]) H1 → va_D A (ws ++ [(q, .inl (G 3, N', .inr (.inr (.inr (.inr (fun _ => none))))))]) → va_S A H0 H1 locs → W p l e R s m args below meth c H1 locs (cells + 1) (slots + N') Q (F0 m (pc + 3) ls (.ref q :: rest))) : W p l e R s m args below meth c H locs cells slots Q (F0 m pc ls (.int i :: rest)) := by
  subst hi
  refine va_newq hx hb hown q1 hK.2.2.2.2.2.2.2.2.2.2 hK.1 hP hD hS hA (nI_pos (by omega)) (nI_clamp (by omega)) (by omega) hcells hslots hdg (fun q cA H1 hK1 hP1 hD1 hS1 => ?_)
  obtain ⟨_, _, _, _, _, h1⟩ := (hK1.2 4 _ rfl).2
  obtain ⟨_, _, _, _, _, h2⟩ := (hK.1.2 3 _ rfl).2
  obtain rfl : cA = G 3 := Option.some.inj (h1.symm.trans h2)
  exact kk q H1 hP1 hD1 hS1
end CI

theorem dX1_init_0 : decode cX1_init 0 = .ok (.aload_n 0, 1) := by decide +kernel
theorem q_215 : Cond.methodLink "FieldMember$Entry" 1 ⟨"java/lang/Object", "<init>", "()V"⟩ ∈ TT := tt_t (i := 215) (by decide +kernel) (by decide +kernel)
theorem q_27 : Cond.instanceMethod ⟨"java/lang/Object", "<init>", "()V"⟩ ∈ TT := tt_t (i := 27) (by decide +kernel) (by decide +kernel)
theorem q_28 : Cond.code ⟨"java/lang/Object", "<init>", "()V"⟩ object_method_1_code 1 none ∈ TT := tt_t (i := 28) (by decide +kernel) (by decide +kernel)
theorem dX1_init_1 : decode cX1_init 1 = .ok (.invokespecial 1, 3) := by decide +kernel
theorem dX1_init_4 : decode cX1_init 4 = .ok (.aload_n 0, 1) := by decide +kernel
theorem dX1_init_5 : decode cX1_init 5 = .ok (.iload_n 1, 1) := by decide +kernel
theorem q_218 : Cond.fieldLink "FieldMember$Entry" 7 "FieldMember$Entry" "type" "I" ∈ TT := tt_t (i := 218) (by decide +kernel) (by decide +kernel)
theorem dX1_init_6 : decode cX1_init 6 = .ok (.putfield 7, 3) := by decide +kernel
theorem dX1_init_9 : decode cX1_init 9 = .ok (.aload_n 0, 1) := by decide +kernel
theorem dX1_init_10 : decode cX1_init 10 = .ok (.iload_n 2, 1) := by decide +kernel
theorem q_222 : Cond.fieldLink "FieldMember$Entry" 13 "FieldMember$Entry" "name" "I" ∈ TT := tt_t (i := 222) (by decide +kernel) (by decide +kernel)
theorem dX1_init_11 : decode cX1_init 11 = .ok (.putfield 13, 3) := by decide +kernel
theorem dX1_init_14 : decode cX1_init 14 = .ok (.aload_n 0, 1) := by decide +kernel
theorem dX1_init_15 : decode cX1_init 15 = .ok (.iload_n 3, 1) := by decide +kernel
theorem q_227 : Cond.fieldLink "FieldMember$Entry" 16 "FieldMember$Entry" "kind" "I" ∈ TT := tt_t (i := 227) (by decide +kernel) (by decide +kernel)
theorem dX1_init_16 : decode cX1_init 16 = .ok (.putfield 16, 3) := by decide +kernel
theorem dX1_init_19 : decode cX1_init 19 = .ok (.aload_n 0, 1) := by decide +kernel
theorem dX1_init_20 : decode cX1_init 20 = .ok (.iload 4, 2) := by decide +kernel
theorem q_234 : Cond.fieldLink "FieldMember$Entry" 19 "FieldMember$Entry" "dims" "I" ∈ TT := tt_t (i := 234) (by decide +kernel) (by decide +kernel)
theorem dX1_init_22 : decode cX1_init 22 = .ok (.putfield 19, 3) := by decide +kernel
theorem dX1_init_25 : decode cX1_init 25 = .ok (.aload_n 0, 1) := by decide +kernel
theorem dX1_init_26 : decode cX1_init 26 = .ok (.iload 5, 2) := by decide +kernel
theorem dX1_init_28 : decode cX1_init 28 = .ok (.putfield 22, 3) := by decide +kernel
theorem dX1_init_31 : decode cX1_init 31 = .ok (.return_, 1) := by decide +kernel
theorem dX2_init_0 : decode cX2_init 0 = .ok (.aload_n 0, 1) := by decide +kernel
theorem dX2_init_1 : decode cX2_init 1 = .ok (.iload_n 1, 1) := by decide +kernel
theorem dX2_init_2 : decode cX2_init 2 = .ok (.iload_n 2, 1) := by decide +kernel
theorem dX2_init_3 : decode cX2_init 3 = .ok (.iload_n 3, 1) := by decide +kernel
theorem dX2_init_4 : decode cX2_init 4 = .ok (.iload 4, 2) := by decide +kernel
theorem dX2_init_6 : decode cX2_init 6 = .ok (.iload 5, 2) := by decide +kernel
theorem q_212 : Cond.methodLink "FieldMember$Field" 3 ⟨"FieldMember$Entry", "<init>", "(IIIII)V"⟩ ∈ TT := tt_t (i := 212) (by decide +kernel) (by decide +kernel)
theorem q_214 : Cond.code ⟨"FieldMember$Entry", "<init>", "(IIIII)V"⟩ prog_3_method_1_code 6 none ∈ TT := tt_t (i := 214) (by decide +kernel) (by decide +kernel)
theorem q_213 : Cond.instanceMethod ⟨"FieldMember$Entry", "<init>", "(IIIII)V"⟩ ∈ TT := tt_t (i := 213) (by decide +kernel) (by decide +kernel)
theorem dX2_init_8 : decode cX2_init 8 = .ok (.invokespecial 3, 3) := by decide +kernel
theorem dX2_init_11 : decode cX2_init 11 = .ok (.return_, 1) := by decide +kernel
theorem dX4_init_0 : decode cX4_init 0 = .ok (.aload_n 0, 1) := by decide +kernel
theorem q_60 : Cond.methodLink "FieldMember$Row" 3 ⟨"java/lang/Object", "<init>", "()V"⟩ ∈ TT := tt_t (i := 60) (by decide +kernel) (by decide +kernel)
theorem dX4_init_1 : decode cX4_init 1 = .ok (.invokespecial 3, 3) := by decide +kernel
theorem dX4_init_4 : decode cX4_init 4 = .ok (.aload_n 0, 1) := by decide +kernel
theorem dX4_init_5 : decode cX4_init 5 = .ok (.iconst 5, 1) := by decide +kernel
theorem q_52 : Cond.arrayClass .int ∈ TT := tt_t (i := 52) (by decide +kernel) (by decide +kernel)
theorem dX4_init_6 : decode cX4_init 6 = .ok (.newarray .int, 2) := by decide +kernel
theorem dX4_init_8 : decode cX4_init 8 = .ok (.putfield 9, 3) := by decide +kernel
theorem dX4_init_11 : decode cX4_init 11 = .ok (.aload_n 0, 1) := by decide +kernel
theorem dX4_init_12 : decode cX4_init 12 = .ok (.iconst 5, 1) := by decide +kernel
theorem dX4_init_13 : decode cX4_init 13 = .ok (.newarray .int, 2) := by decide +kernel
theorem dX4_init_15 : decode cX4_init 15 = .ok (.putfield 15, 3) := by decide +kernel
theorem dX4_init_18 : decode cX4_init 18 = .ok (.return_, 1) := by decide +kernel
theorem dX3_init_0 : decode cX3_init 0 = .ok (.aload_n 0, 1) := by decide +kernel
theorem dX3_init_1 : decode cX3_init 1 = .ok (.iload_n 1, 1) := by decide +kernel
theorem dX3_init_2 : decode cX3_init 2 = .ok (.iload_n 2, 1) := by decide +kernel
theorem dX3_init_3 : decode cX3_init 3 = .ok (.iload_n 3, 1) := by decide +kernel
theorem dX3_init_4 : decode cX3_init 4 = .ok (.iload 4, 2) := by decide +kernel
theorem dX3_init_6 : decode cX3_init 6 = .ok (.iload 5, 2) := by decide +kernel
theorem q_312 : Cond.methodLink "FieldMember$Member" 3 ⟨"FieldMember$Entry", "<init>", "(IIIII)V"⟩ ∈ TT := tt_t (i := 312) (by decide +kernel) (by decide +kernel)
theorem dX3_init_8 : decode cX3_init 8 = .ok (.invokespecial 3, 3) := by decide +kernel
theorem dX3_init_11 : decode cX3_init 11 = .ok (.aload_n 0, 1) := by decide +kernel
theorem dX3_init_12 : decode cX3_init 12 = .ok (.iload 6, 2) := by decide +kernel
theorem q_315 : Cond.fieldLink "FieldMember$Member" 9 "FieldMember$Member" "body" "Z" ∈ TT := tt_t (i := 315) (by decide +kernel) (by decide +kernel)
theorem dX3_init_14 : decode cX3_init 14 = .ok (.putfield 9, 3) := by decide +kernel
theorem dX3_init_17 : decode cX3_init 17 = .ok (.aload_n 0, 1) := by decide +kernel
theorem q_313 : Cond.classLink "FieldMember$Member" 15 "FieldMember$Row" ∈ TT := tt_t (i := 313) (by decide +kernel) (by decide +kernel)
theorem q_56 : Cond.instantiable "FieldMember$Row" 3 ∈ TT := tt_t (i := 56) (by decide +kernel) (by decide +kernel)
theorem dX3_init_18 : decode cX3_init 18 = .ok (.new 15, 3) := by decide +kernel
theorem dX3_init_21 : decode cX3_init 21 = .ok (.dup, 1) := by decide +kernel
theorem q_59 : Cond.code ⟨"FieldMember$Row", "<init>", "()V"⟩ prog_6_method_1_code 1 none ∈ TT := tt_t (i := 59) (by decide +kernel) (by decide +kernel)
theorem q_58 : Cond.instanceMethod ⟨"FieldMember$Row", "<init>", "()V"⟩ ∈ TT := tt_t (i := 58) (by decide +kernel) (by decide +kernel)
theorem dX3_init_22 : decode cX3_init 22 = .ok (.invokespecial 17, 3) := by decide +kernel
theorem dX3_init_25 : decode cX3_init 25 = .ok (.putfield 20, 3) := by decide +kernel
theorem dX3_init_28 : decode cX3_init 28 = .ok (.aload_n 0, 1) := by decide +kernel
theorem dX3_init_29 : decode cX3_init 29 = .ok (.iconst (-1), 1) := by decide +kernel
theorem q_320 : Cond.fieldLink "FieldMember$Member" 24 "FieldMember$Member" "met" "I" ∈ TT := tt_t (i := 320) (by decide +kernel) (by decide +kernel)
theorem dX3_init_30 : decode cX3_init 30 = .ok (.putfield 24, 3) := by decide +kernel
theorem dX3_init_33 : decode cX3_init 33 = .ok (.return_, 1) := by decide +kernel
set_option maxHeartbeats 800000 in
set_option maxRecDepth 100000 in
theorem c_entryM (l : Launch) (D : va_G) (G : Nat → ClassId) (q sz : Nat) (t : Int32) (nm : Int32) (kd : Int32) (dd : Int32) (mk : Int32) : Met l yX1_init (ww yX1_init cX1_init 6 none) (rmC 1 0 0) (cmP D G sz ([(q, .inr (4, [.int 0, .int 0, .int 0, .int 0, .int 0, .int 0, .null, .int 0, .int 0]))]) [.ref q, .int t, .int nm, .int kd, .int dd, .int mk]) (cmQv D (va_A ([(q, .inr (4, [.int 0, .int 0, .int 0, .int 0, .int 0, .int 0, .null, .int 0, .int 0]))]) sz) (fun z8 => z8 = [(q, .inr (4, [.int t, .int nm, .int kd, .int dd, .int mk, .int 0, .null, .int 0, .int 0]))])) 0 0 (va_A ([(q, .inr (4, [.int 0, .int 0, .int 0, .int 0, .int 0, .int 0, .null, .int 0, .int 0]))]) sz) := by
  refine Met.ofW (cc := cX1_init) (maxL := 6) (ret := none) (by decide) rfl ?_
  intro p e s m args below meth c s₁ B hml hv
  obtain ⟨rfl, hsz, hP, hK, hD0⟩ := hv
  have hx := B.exec
  have hb := B.bytes
  have hr := B.returns
  have hts : ∀ w ∈ TT, w.before _ s = true := fun w h => atoms_spec (ws := ww yX1_init cX1_init 6 none) B.pre w (List.mem_cons_of_mem _ h)
  have hown : s.vm.findClass RX1 = some m.cls := findClass_of_methodNamed B.named
  have hlocks := B.notSynchronized
  have hin : meth.name = "<init>" := (name_of_methodNamed B.named B.method).1
  subst hsz
  have hD : va_D (va_A ([(q, .inr (4, [.int 0, .int 0, .int 0, .int 0, .int 0, .int 0, .null, .int 0, .int 0]))]) s.heap.size) ([(q, .inr (4, [.int 0, .int 0, .int 0, .int 0, .int 0, .int 0, .null, .int 0, .int 0]))]) := hD0.self
  generalize hAe : va_A ([(q, .inr (4, [.int 0, .int 0, .int 0, .int 0, .int 0, .int 0, .null, .int 0, .int 0]))]) s.heap.size = A at hD ⊢
  have hA : ∀ q : Nat, s.heap.size ≤ q → A q := fun q h => by rw [← hAe]; exact Or.inr h
  have hS : va_S A s.heap s.heap [] := va_S.rf
  have hP : va_P D vwCl ([(q, .inr (4, [.int 0, .int 0, .int 0, .int 0, .int 0, .int 0, .null, .int 0, .int 0]))]) s.heap := hP
  have hl := lv_entry ([.ref q, .int t, .int nm, .int kd, .int dd, .int mk]) (n := 6) (Nat.le_of_ble_eq_true rfl)
  rw [lg_entry_eq]
  generalize (lg_sl ([.ref q, .int t, .int nm, .int kd, .int dd, .int mk]) ++ List.replicate (6 - (lg_sl ([.ref q, .int t, .int nm, .int kd, .int dd, .int mk])).length) Slot.unset).toArray = ls at hl ⊢
  have hl : lv_has ls 6 [(0, .ref q), (1, .int t), (2, .int nm), (3, .int kd), (4, .int dd), (5, .int mk)] := hl
  refine lv_aload_n hx hb dX1_init_0 rfl (lv_at hl 0 rfl) ?_
  refine W.objInit hx hb hown (hts _ q_215) (hts _ q_27) (hts _ q_28) rfl (by rw [hml]; exact hl.1) rfl dX1_init_1 (Nat.le_of_ble_eq_true rfl) (Nat.le_of_ble_eq_true rfl) ?_
  refine W.eq (g2 := F0 m 4 ls []) rfl ?_
  refine lv_aload_n hx hb dX1_init_4 rfl (lv_at hl 0 rfl) ?_
  refine lv_iload_n hx hb dX1_init_5 rfl (lv_at hl 1 rfl) ?_
  refine va_putF (D := D) (ci := 4) (v := .int t) (ty := .int) (C := RX3) (T := TX3) (N := 9) hx hb hts iX3 tyX3 tyX3_ok nmX3 hown hK.1 hP hD hS 0 rfl rfl 0 (by decide) (hts _ q_218) (fun _ h9 => h9) rfl hin rfl (by decide +kernel) rfl rfl (Nat.le_of_ble_eq_true rfl) dX1_init_6 (fun H locs hP hD hS => ?_)
  have hP : va_P D vwCl ([(q, .inr (4, [.int t, .int 0, .int 0, .int 0, .int 0, .int 0, .null, .int 0, .int 0]))]) H := hP
  have hD : va_D A ([(q, .inr (4, [.int t, .int 0, .int 0, .int 0, .int 0, .int 0, .null, .int 0, .int 0]))]) := hD
  refine lv_aload_n hx hb dX1_init_9 rfl (lv_at hl 0 rfl) ?_
  refine lv_iload_n hx hb dX1_init_10 rfl (lv_at hl 2 rfl) ?_
  refine va_putF (D := D) (ci := 4) (v := .int nm) (ty := .int) (C := RX3) (T := TX3) (N := 9) hx hb hts iX3 tyX3 tyX3_ok nmX3 hown hK.1 hP hD hS 0 rfl rfl 1 (by decide) (hts _ q_222) (fun _ h9 => h9) rfl hin rfl (by decide +kernel) rfl rfl (Nat.le_of_ble_eq_true rfl) dX1_init_11 (fun H locs hP hD hS => ?_)
  have hP : va_P D vwCl ([(q, .inr (4, [.int t, .int nm, .int 0, .int 0, .int 0, .int 0, .null, .int 0, .int 0]))]) H := hP
  have hD : va_D A ([(q, .inr (4, [.int t, .int nm, .int 0, .int 0, .int 0, .int 0, .null, .int 0, .int 0]))]) := hD
  refine lv_aload_n hx hb dX1_init_14 rfl (lv_at hl 0 rfl) ?_
  refine lv_iload_n hx hb dX1_init_15 rfl (lv_at hl 3 rfl) ?_
  refine va_putF (D := D) (ci := 4) (v := .int kd) (ty := .int) (C := RX3) (T := TX3) (N := 9) hx hb hts iX3 tyX3 tyX3_ok nmX3 hown hK.1 hP hD hS 0 rfl rfl 2 (by decide) (hts _ q_227) (fun _ h9 => h9) rfl hin rfl (by decide +kernel) rfl rfl (Nat.le_of_ble_eq_true rfl) dX1_init_16 (fun H locs hP hD hS => ?_)
  have hP : va_P D vwCl ([(q, .inr (4, [.int t, .int nm, .int kd, .int 0, .int 0, .int 0, .null, .int 0, .int 0]))]) H := hP
  have hD : va_D A ([(q, .inr (4, [.int t, .int nm, .int kd, .int 0, .int 0, .int 0, .null, .int 0, .int 0]))]) := hD
  refine lv_aload_n hx hb dX1_init_19 rfl (lv_at hl 0 rfl) ?_
  refine lv_iload hx hb dX1_init_20 (lv_at hl 4 rfl) ?_
  refine va_putF (D := D) (ci := 4) (v := .int dd) (ty := .int) (C := RX3) (T := TX3) (N := 9) hx hb hts iX3 tyX3 tyX3_ok nmX3 hown hK.1 hP hD hS 0 rfl rfl 3 (by decide) (hts _ q_234) (fun _ h9 => h9) rfl hin rfl (by decide +kernel) rfl rfl (Nat.le_of_ble_eq_true rfl) dX1_init_22 (fun H locs hP hD hS => ?_)
  have hP : va_P D vwCl ([(q, .inr (4, [.int t, .int nm, .int kd, .int dd, .int 0, .int 0, .null, .int 0, .int 0]))]) H := hP
  have hD : va_D A ([(q, .inr (4, [.int t, .int nm, .int kd, .int dd, .int 0, .int 0, .null, .int 0, .int 0]))]) := hD
  refine lv_aload_n hx hb dX1_init_25 rfl (lv_at hl 0 rfl) ?_
  refine lv_iload hx hb dX1_init_26 (lv_at hl 5 rfl) ?_
  refine va_putF (D := D) (ci := 4) (v := .int mk) (ty := .int) (C := RX3) (T := TX3) (N := 9) hx hb hts iX3 tyX3 tyX3_ok nmX3 hown hK.1 hP hD hS 0 rfl rfl 4 (by decide) (hts _ q_240) (fun _ h9 => h9) rfl hin rfl (by decide +kernel) rfl rfl (Nat.le_of_ble_eq_true rfl) dX1_init_28 (fun H locs hP hD hS => ?_)
  have hP : va_P D vwCl ([(q, .inr (4, [.int t, .int nm, .int kd, .int dd, .int mk, .int 0, .null, .int 0, .int 0]))]) H := hP
  have hD : va_D A ([(q, .inr (4, [.int t, .int nm, .int kd, .int dd, .int mk, .int 0, .null, .int 0, .int 0]))]) := hD
  exact cm_vret hx hb hr hlocks hP hD hS dX1_init_31 (rfl)
set_option maxHeartbeats 800000 in
set_option maxRecDepth 100000 in
theorem c_entryF (l : Launch) (D : va_G) (G : Nat → ClassId) (q sz : Nat) (t : Int32) (nm : Int32) (kd : Int32) (dd : Int32) (mk : Int32) : Met l yX1_init (ww yX1_init cX1_init 6 none) (rmC 1 0 0) (cmP D G sz ([(q, .inr (3, [.int 0, .int 0, .int 0, .int 0, .int 0, .int 0, .long 0]))]) [.ref q, .int t, .int nm, .int kd, .int dd, .int mk]) (cmQv D (va_A ([(q, .inr (3, [.int 0, .int 0, .int 0, .int 0, .int 0, .int 0, .long 0]))]) sz) (fun z8 => z8 = [(q, .inr (3, [.int t, .int nm, .int kd, .int dd, .int mk, .int 0, .long 0]))])) 0 0 (va_A ([(q, .inr (3, [.int 0, .int 0, .int 0, .int 0, .int 0, .int 0, .long 0]))]) sz) := by
  refine Met.ofW (cc := cX1_init) (maxL := 6) (ret := none) (by decide) rfl ?_
  intro p e s m args below meth c s₁ B hml hv
  obtain ⟨rfl, hsz, hP, hK, hD0⟩ := hv
  have hx := B.exec
  have hb := B.bytes
  have hr := B.returns
  have hts : ∀ w ∈ TT, w.before _ s = true := fun w h => atoms_spec (ws := ww yX1_init cX1_init 6 none) B.pre w (List.mem_cons_of_mem _ h)
  have hown : s.vm.findClass RX1 = some m.cls := findClass_of_methodNamed B.named
  have hlocks := B.notSynchronized
  have hin : meth.name = "<init>" := (name_of_methodNamed B.named B.method).1
  subst hsz
  have hD : va_D (va_A ([(q, .inr (3, [.int 0, .int 0, .int 0, .int 0, .int 0, .int 0, .long 0]))]) s.heap.size) ([(q, .inr (3, [.int 0, .int 0, .int 0, .int 0, .int 0, .int 0, .long 0]))]) := hD0.self
  generalize hAe : va_A ([(q, .inr (3, [.int 0, .int 0, .int 0, .int 0, .int 0, .int 0, .long 0]))]) s.heap.size = A at hD ⊢
  have hA : ∀ q : Nat, s.heap.size ≤ q → A q := fun q h => by rw [← hAe]; exact Or.inr h
  have hS : va_S A s.heap s.heap [] := va_S.rf
  have hP : va_P D vwCl ([(q, .inr (3, [.int 0, .int 0, .int 0, .int 0, .int 0, .int 0, .long 0]))]) s.heap := hP
  have hl := lv_entry ([.ref q, .int t, .int nm, .int kd, .int dd, .int mk]) (n := 6) (Nat.le_of_ble_eq_true rfl)
  rw [lg_entry_eq]
  generalize (lg_sl ([.ref q, .int t, .int nm, .int kd, .int dd, .int mk]) ++ List.replicate (6 - (lg_sl ([.ref q, .int t, .int nm, .int kd, .int dd, .int mk])).length) Slot.unset).toArray = ls at hl ⊢
  have hl : lv_has ls 6 [(0, .ref q), (1, .int t), (2, .int nm), (3, .int kd), (4, .int dd), (5, .int mk)] := hl
  refine lv_aload_n hx hb dX1_init_0 rfl (lv_at hl 0 rfl) ?_
  refine W.objInit hx hb hown (hts _ q_215) (hts _ q_27) (hts _ q_28) rfl (by rw [hml]; exact hl.1) rfl dX1_init_1 (Nat.le_of_ble_eq_true rfl) (Nat.le_of_ble_eq_true rfl) ?_
  refine W.eq (g2 := F0 m 4 ls []) rfl ?_
  refine lv_aload_n hx hb dX1_init_4 rfl (lv_at hl 0 rfl) ?_
  refine lv_iload_n hx hb dX1_init_5 rfl (lv_at hl 1 rfl) ?_
  refine va_putF (D := D) (ci := 3) (v := .int t) (ty := .int) (C := RX2) (T := TX2) (N := 7) hx hb hts iX2 tyX2 tyX2_ok nmX2 hown hK.1 hP hD hS 0 rfl rfl 0 (by decide) (hts _ q_218) (fun _ h9 => h9) rfl hin rfl (by decide +kernel) rfl rfl (Nat.le_of_ble_eq_true rfl) dX1_init_6 (fun H locs hP hD hS => ?_)
  have hP : va_P D vwCl ([(q, .inr (3, [.int t, .int 0, .int 0, .int 0, .int 0, .int 0, .long 0]))]) H := hP
  have hD : va_D A ([(q, .inr (3, [.int t, .int 0, .int 0, .int 0, .int 0, .int 0, .long 0]))]) := hD
  refine lv_aload_n hx hb dX1_init_9 rfl (lv_at hl 0 rfl) ?_
  refine lv_iload_n hx hb dX1_init_10 rfl (lv_at hl 2 rfl) ?_
  refine va_putF (D := D) (ci := 3) (v := .int nm) (ty := .int) (C := RX2) (T := TX2) (N := 7) hx hb hts iX2 tyX2 tyX2_ok nmX2 hown hK.1 hP hD hS 0 rfl rfl 1 (by decide) (hts _ q_222) (fun _ h9 => h9) rfl hin rfl (by decide +kernel) rfl rfl (Nat.le_of_ble_eq_true rfl) dX1_init_11 (fun H locs hP hD hS => ?_)
  have hP : va_P D vwCl ([(q, .inr (3, [.int t, .int nm, .int 0, .int 0, .int 0, .int 0, .long 0]))]) H := hP
  have hD : va_D A ([(q, .inr (3, [.int t, .int nm, .int 0, .int 0, .int 0, .int 0, .long 0]))]) := hD
  refine lv_aload_n hx hb dX1_init_14 rfl (lv_at hl 0 rfl) ?_
  refine lv_iload_n hx hb dX1_init_15 rfl (lv_at hl 3 rfl) ?_
  refine va_putF (D := D) (ci := 3) (v := .int kd) (ty := .int) (C := RX2) (T := TX2) (N := 7) hx hb hts iX2 tyX2 tyX2_ok nmX2 hown hK.1 hP hD hS 0 rfl rfl 2 (by decide) (hts _ q_227) (fun _ h9 => h9) rfl hin rfl (by decide +kernel) rfl rfl (Nat.le_of_ble_eq_true rfl) dX1_init_16 (fun H locs hP hD hS => ?_)
  have hP : va_P D vwCl ([(q, .inr (3, [.int t, .int nm, .int kd, .int 0, .int 0, .int 0, .long 0]))]) H := hP
  have hD : va_D A ([(q, .inr (3, [.int t, .int nm, .int kd, .int 0, .int 0, .int 0, .long 0]))]) := hD
  refine lv_aload_n hx hb dX1_init_19 rfl (lv_at hl 0 rfl) ?_
  refine lv_iload hx hb dX1_init_20 (lv_at hl 4 rfl) ?_
  refine va_putF (D := D) (ci := 3) (v := .int dd) (ty := .int) (C := RX2) (T := TX2) (N := 7) hx hb hts iX2 tyX2 tyX2_ok nmX2 hown hK.1 hP hD hS 0 rfl rfl 3 (by decide) (hts _ q_234) (fun _ h9 => h9) rfl hin rfl (by decide +kernel) rfl rfl (Nat.le_of_ble_eq_true rfl) dX1_init_22 (fun H locs hP hD hS => ?_)
  have hP : va_P D vwCl ([(q, .inr (3, [.int t, .int nm, .int kd, .int dd, .int 0, .int 0, .long 0]))]) H := hP
  have hD : va_D A ([(q, .inr (3, [.int t, .int nm, .int kd, .int dd, .int 0, .int 0, .long 0]))]) := hD
  refine lv_aload_n hx hb dX1_init_25 rfl (lv_at hl 0 rfl) ?_
  refine lv_iload hx hb dX1_init_26 (lv_at hl 5 rfl) ?_
  refine va_putF (D := D) (ci := 3) (v := .int mk) (ty := .int) (C := RX2) (T := TX2) (N := 7) hx hb hts iX2 tyX2 tyX2_ok nmX2 hown hK.1 hP hD hS 0 rfl rfl 4 (by decide) (hts _ q_240) (fun _ h9 => h9) rfl hin rfl (by decide +kernel) rfl rfl (Nat.le_of_ble_eq_true rfl) dX1_init_28 (fun H locs hP hD hS => ?_)
  have hP : va_P D vwCl ([(q, .inr (3, [.int t, .int nm, .int kd, .int dd, .int mk, .int 0, .long 0]))]) H := hP
  have hD : va_D A ([(q, .inr (3, [.int t, .int nm, .int kd, .int dd, .int mk, .int 0, .long 0]))]) := hD
  exact cm_vret hx hb hr hlocks hP hD hS dX1_init_31 (rfl)
set_option maxHeartbeats 800000 in
set_option maxRecDepth 100000 in
theorem c_fieldInit (l : Launch) (D : va_G) (G : Nat → ClassId) (q sz : Nat) (t : Int32) (nm : Int32) (kd : Int32) (dd : Int32) (mk : Int32) : Met l yX2_init (ww yX2_init cX2_init 6 none) (rmC 2 0 0) (cmP D G sz ([(q, .inr (3, [.int 0, .int 0, .int 0, .int 0, .int 0, .int 0, .long 0]))]) [.ref q, .int t, .int nm, .int kd, .int dd, .int mk]) (cmQv D (va_A ([(q, .inr (3, [.int 0, .int 0, .int 0, .int 0, .int 0, .int 0, .long 0]))]) sz) (fun z8 => z8 = [(q, .inr (3, [.int t, .int nm, .int kd, .int dd, .int mk, .int 0, .long 0]))])) 0 0 (va_A ([(q, .inr (3, [.int 0, .int 0, .int 0, .int 0, .int 0, .int 0, .long 0]))]) sz) := by
  refine Met.ofW (cc := cX2_init) (maxL := 6) (ret := none) (by decide) rfl ?_
  intro p e s m args below meth c s₁ B hml hv
  obtain ⟨rfl, hsz, hP, hK, hD0⟩ := hv
  have hx := B.exec
  have hb := B.bytes
  have hr := B.returns
  have hts : ∀ w ∈ TT, w.before _ s = true := fun w h => atoms_spec (ws := ww yX2_init cX2_init 6 none) B.pre w (List.mem_cons_of_mem _ h)
  have hown : s.vm.findClass RX2 = some m.cls := findClass_of_methodNamed B.named
  have hlocks := B.notSynchronized
  have hin : meth.name = "<init>" := (name_of_methodNamed B.named B.method).1
  subst hsz
  have hD : va_D (va_A ([(q, .inr (3, [.int 0, .int 0, .int 0, .int 0, .int 0, .int 0, .long 0]))]) s.heap.size) ([(q, .inr (3, [.int 0, .int 0, .int 0, .int 0, .int 0, .int 0, .long 0]))]) := hD0.self
  generalize hAe : va_A ([(q, .inr (3, [.int 0, .int 0, .int 0, .int 0, .int 0, .int 0, .long 0]))]) s.heap.size = A at hD ⊢
  have hA : ∀ q : Nat, s.heap.size ≤ q → A q := fun q h => by rw [← hAe]; exact Or.inr h
  have hS : va_S A s.heap s.heap [] := va_S.rf
  have hP : va_P D vwCl ([(q, .inr (3, [.int 0, .int 0, .int 0, .int 0, .int 0, .int 0, .long 0]))]) s.heap := hP
  have hl := lv_entry ([.ref q, .int t, .int nm, .int kd, .int dd, .int mk]) (n := 6) (Nat.le_of_ble_eq_true rfl)
  rw [lg_entry_eq]
  generalize (lg_sl ([.ref q, .int t, .int nm, .int kd, .int dd, .int mk]) ++ List.replicate (6 - (lg_sl ([.ref q, .int t, .int nm, .int kd, .int dd, .int mk])).length) Slot.unset).toArray = ls at hl ⊢
  have hl : lv_has ls 6 [(0, .ref q), (1, .int t), (2, .int nm), (3, .int kd), (4, .int dd), (5, .int mk)] := hl
  refine lv_aload_n hx hb dX2_init_0 rfl (lv_at hl 0 rfl) ?_
  refine lv_iload_n hx hb dX2_init_1 rfl (lv_at hl 1 rfl) ?_
  refine lv_iload_n hx hb dX2_init_2 rfl (lv_at hl 2 rfl) ?_
  refine lv_iload_n hx hb dX2_init_3 rfl (lv_at hl 3 rfl) ?_
  refine lv_iload hx hb dX2_init_4 (lv_at hl 4 rfl) ?_
  refine lv_iload hx hb dX2_init_6 (lv_at hl 5 rfl) ?_
  refine cm_I (n := 5) (wr := []) (wc := [(q, .inr (3, [.int 0, .int 0, .int 0, .int 0, .int 0, .int 0, .long 0]))]) (D := D) (G := G) (As := [.int t, .int nm, .int kd, .int dd, .int mk]) (rest := []) ⟨hx, hb, hml, hown, hts⟩ (c_entryF l D G q _ t nm kd dd mk) q_214 q_7 q_212 q_213 rfl (by decide +kernel) ⟨(Nat.le_of_ble_eq_true rfl), (Nat.le_of_ble_eq_true rfl)⟩ hK hP hD hS hA rfl hl.1 rfl (Nat.le_of_ble_eq_true rfl) dX2_init_8 ⟨(Nat.le_of_ble_eq_true rfl), (Nat.le_of_ble_eq_true rfl)⟩ (fun w1 H locs hw hP hD hS => ?_)
  subst hw
  have hP : va_P D vwCl ([(q, .inr (3, [.int t, .int nm, .int kd, .int dd, .int mk, .int 0, .long 0]))]) H := hP
  have hD : va_D A ([(q, .inr (3, [.int t, .int nm, .int kd, .int dd, .int mk, .int 0, .long 0]))]) := hD
  exact cm_vret hx hb hr hlocks hP hD hS dX2_init_11 (rfl)
set_option maxHeartbeats 800000 in
set_option maxRecDepth 100000 in
theorem c_rowInit (l : Launch) (D : va_G) (G : Nat → ClassId) (q sz : Nat)  : Met l yX4_init (ww yX4_init cX4_init 1 none) (rmC 1 2 10) (cmP D G sz ([(q, .inr (5, [.null, .null, .int 0]))]) [.ref q]) (cmQv D (va_A ([(q, .inr (5, [.null, .null, .int 0]))]) sz) (fun z8 => ∃ a b : Nat, z8 = rwW G q a b (fun _ => 0) (fun _ => 0) 0)) 2 10 (va_A ([(q, .inr (5, [.null, .null, .int 0]))]) sz) := by
  refine Met.ofW (cc := cX4_init) (maxL := 1) (ret := none) (by decide) rfl ?_
  intro p e s m args below meth c s₁ B hml hv
  obtain ⟨rfl, hsz, hP, hK, hD0⟩ := hv
  have hx := B.exec
  have hb := B.bytes
  have hr := B.returns
  have hts : ∀ w ∈ TT, w.before _ s = true := fun w h => atoms_spec (ws := ww yX4_init cX4_init 1 none) B.pre w (List.mem_cons_of_mem _ h)
  have hown : s.vm.findClass RX4 = some m.cls := findClass_of_methodNamed B.named
  have hlocks := B.notSynchronized
  have hin : meth.name = "<init>" := (name_of_methodNamed B.named B.method).1
  subst hsz
  have hD : va_D (va_A ([(q, .inr (5, [.null, .null, .int 0]))]) s.heap.size) ([(q, .inr (5, [.null, .null, .int 0]))]) := hD0.self
  generalize hAe : va_A ([(q, .inr (5, [.null, .null, .int 0]))]) s.heap.size = A at hD ⊢
  have hA : ∀ q : Nat, s.heap.size ≤ q → A q := fun q h => by rw [← hAe]; exact Or.inr h
  have hS : va_S A s.heap s.heap [] := va_S.rf
  have hP : va_P D vwCl ([(q, .inr (5, [.null, .null, .int 0]))]) s.heap := hP
  have hl := lv_entry ([.ref q]) (n := 1) (Nat.le_of_ble_eq_true rfl)
  rw [lg_entry_eq]
  generalize (lg_sl ([.ref q]) ++ List.replicate (1 - (lg_sl ([.ref q])).length) Slot.unset).toArray = ls at hl ⊢
  have hl : lv_has ls 1 [(0, .ref q)] := hl
  refine lv_aload_n hx hb dX4_init_0 rfl (lv_at hl 0 rfl) ?_
  refine W.objInit hx hb hown (hts _ q_60) (hts _ q_27) (hts _ q_28) rfl (by rw [hml]; exact hl.1) rfl dX4_init_1 (Nat.le_of_ble_eq_true rfl) (Nat.le_of_ble_eq_true rfl) ?_
  refine W.eq (g2 := F0 m 4 ls []) rfl ?_
  refine lv_aload_n hx hb dX4_init_4 rfl (lv_at hl 0 rfl) ?_
  refine lv_iconst (v := 5) hx hb dX4_init_5 (by decide) ?_
  refine newa_i hx hb q_52 hts hK hP hD hS hA (N' := 5) rfl (by decide) (Nat.le_of_ble_eq_true rfl) (Nat.le_of_ble_eq_true rfl) dX4_init_6 (fun q1 H hP hD hS => ?_)
  have hP : va_P D vwCl ([(q, .inr (5, [.null, .null, .int 0])), (q1, .inl ((G 0, 5, .inl (fun _ => 0))))]) H := hP
  have hD : va_D A ([(q, .inr (5, [.null, .null, .int 0])), (q1, .inl ((G 0, 5, .inl (fun _ => 0))))]) := hD
  refine va_putF (D := D) (ci := 5) (v := .ref q1) (ty := .array .int) (C := RX4) (T := TX4) (N := 3) hx hb hts iX4 tyX4 tyX4_ok nmX4 hown hK.1 hP hD hS 0 rfl rfl 0 (by decide) (hts _ q_61) (fun _ h9 => h9) rfl hin rfl (by decide +kernel) rfl rfl (Nat.le_of_ble_eq_true rfl) dX4_init_8 (fun H locs hP hD hS => ?_)
  have hP : va_P D vwCl ([(q, .inr (5, [.ref q1, .null, .int 0])), (q1, .inl ((G 0, 5, .inl (fun _ => 0))))]) H := hP
  have hD : va_D A ([(q, .inr (5, [.ref q1, .null, .int 0])), (q1, .inl ((G 0, 5, .inl (fun _ => 0))))]) := hD
  refine lv_aload_n hx hb dX4_init_11 rfl (lv_at hl 0 rfl) ?_
  refine lv_iconst (v := 5) hx hb dX4_init_12 (by decide) ?_
  refine newa_i hx hb q_52 hts hK hP hD hS hA (N' := 5) rfl (by decide) (Nat.le_of_ble_eq_true rfl) (Nat.le_of_ble_eq_true rfl) dX4_init_13 (fun q2 H hP hD hS => ?_)
  have hP : va_P D vwCl ([(q, .inr (5, [.ref q1, .null, .int 0])), (q1, .inl ((G 0, 5, .inl (fun _ => 0)))), (q2, .inl ((G 0, 5, .inl (fun _ => 0))))]) H := hP
  have hD : va_D A ([(q, .inr (5, [.ref q1, .null, .int 0])), (q1, .inl ((G 0, 5, .inl (fun _ => 0)))), (q2, .inl ((G 0, 5, .inl (fun _ => 0))))]) := hD
  refine va_putF (D := D) (ci := 5) (v := .ref q2) (ty := .array .int) (C := RX4) (T := TX4) (N := 3) hx hb hts iX4 tyX4 tyX4_ok nmX4 hown hK.1 hP hD hS 0 rfl rfl 1 (by decide) (hts _ q_62) (fun _ h9 => h9) rfl hin rfl (by decide +kernel) rfl rfl (Nat.le_of_ble_eq_true rfl) dX4_init_15 (fun H locs hP hD hS => ?_)
  have hP : va_P D vwCl ([(q, .inr (5, [.ref q1, .ref q2, .int 0])), (q1, .inl ((G 0, 5, .inl (fun _ => 0)))), (q2, .inl ((G 0, 5, .inl (fun _ => 0))))]) H := hP
  have hD : va_D A ([(q, .inr (5, [.ref q1, .ref q2, .int 0])), (q1, .inl ((G 0, 5, .inl (fun _ => 0)))), (q2, .inl ((G 0, 5, .inl (fun _ => 0))))]) := hD
  exact cm_vret hx hb hr hlocks hP hD hS dX4_init_18 (⟨_, _, rfl⟩)
set_option maxHeartbeats 800000 in
set_option maxRecDepth 100000 in
theorem c_memberInit (l : Launch) (D : va_G) (G : Nat → ClassId) (q sz : Nat) (t : Int32) (nm : Int32) (kd : Int32) (dd : Int32) (mk : Int32) (bd : Int32) (hbd : bd = 0 ∨ bd = 1) : Met l yX3_init (ww yX3_init cX3_init 7 none) (rmC 2 3 13) (cmP D G sz ([(q, .inr (4, [.int 0, .int 0, .int 0, .int 0, .int 0, .int 0, .null, .int 0, .int 0]))]) [.ref q, .int t, .int nm, .int kd, .int dd, .int mk, .int bd]) (cmQv D (va_A ([(q, .inr (4, [.int 0, .int 0, .int 0, .int 0, .int 0, .int 0, .null, .int 0, .int 0]))]) sz) (fun z8 => ∃ a : Nat → Nat, a 0 = q ∧ z8 = bgW G a t nm kd dd mk bd 0 0 (fun _ => 0) (fun _ => 0) (-1))) 3 13 (va_A ([(q, .inr (4, [.int 0, .int 0, .int 0, .int 0, .int 0, .int 0, .null, .int 0, .int 0]))]) sz) := by
  refine Met.ofW (cc := cX3_init) (maxL := 7) (ret := none) (by decide) rfl ?_
  intro p e s m args below meth c s₁ B hml hv
  obtain ⟨rfl, hsz, hP, hK, hD0⟩ := hv
  have hx := B.exec
  have hb := B.bytes
  have hr := B.returns
  have hts : ∀ w ∈ TT, w.before _ s = true := fun w h => atoms_spec (ws := ww yX3_init cX3_init 7 none) B.pre w (List.mem_cons_of_mem _ h)
  have hown : s.vm.findClass RX3 = some m.cls := findClass_of_methodNamed B.named
  have hlocks := B.notSynchronized
  have hin : meth.name = "<init>" := (name_of_methodNamed B.named B.method).1
  subst hsz
  have hD : va_D (va_A ([(q, .inr (4, [.int 0, .int 0, .int 0, .int 0, .int 0, .int 0, .null, .int 0, .int 0]))]) s.heap.size) ([(q, .inr (4, [.int 0, .int 0, .int 0, .int 0, .int 0, .int 0, .null, .int 0, .int 0]))]) := hD0.self
  generalize hAe : va_A ([(q, .inr (4, [.int 0, .int 0, .int 0, .int 0, .int 0, .int 0, .null, .int 0, .int 0]))]) s.heap.size = A at hD ⊢
  have hA : ∀ q : Nat, s.heap.size ≤ q → A q := fun q h => by rw [← hAe]; exact Or.inr h
  have hS : va_S A s.heap s.heap [] := va_S.rf
  have hP : va_P D vwCl ([(q, .inr (4, [.int 0, .int 0, .int 0, .int 0, .int 0, .int 0, .null, .int 0, .int 0]))]) s.heap := hP
  have hl := lv_entry ([.ref q, .int t, .int nm, .int kd, .int dd, .int mk, .int bd]) (n := 7) (Nat.le_of_ble_eq_true rfl)
  rw [lg_entry_eq]
  generalize (lg_sl ([.ref q, .int t, .int nm, .int kd, .int dd, .int mk, .int bd]) ++ List.replicate (7 - (lg_sl ([.ref q, .int t, .int nm, .int kd, .int dd, .int mk, .int bd])).length) Slot.unset).toArray = ls at hl ⊢
  have hl : lv_has ls 7 [(0, .ref q), (1, .int t), (2, .int nm), (3, .int kd), (4, .int dd), (5, .int mk), (6, .int bd)] := hl
  refine lv_aload_n hx hb dX3_init_0 rfl (lv_at hl 0 rfl) ?_
  refine lv_iload_n hx hb dX3_init_1 rfl (lv_at hl 1 rfl) ?_
  refine lv_iload_n hx hb dX3_init_2 rfl (lv_at hl 2 rfl) ?_
  refine lv_iload_n hx hb dX3_init_3 rfl (lv_at hl 3 rfl) ?_
  refine lv_iload hx hb dX3_init_4 (lv_at hl 4 rfl) ?_
  refine lv_iload hx hb dX3_init_6 (lv_at hl 5 rfl) ?_
  refine cm_I (n := 5) (wr := []) (wc := [(q, .inr (4, [.int 0, .int 0, .int 0, .int 0, .int 0, .int 0, .null, .int 0, .int 0]))]) (D := D) (G := G) (As := [.int t, .int nm, .int kd, .int dd, .int mk]) (rest := []) ⟨hx, hb, hml, hown, hts⟩ (c_entryM l D G q _ t nm kd dd mk) q_214 q_7 q_312 q_213 rfl (by decide +kernel) ⟨(Nat.le_of_ble_eq_true rfl), (Nat.le_of_ble_eq_true rfl)⟩ hK hP hD hS hA rfl hl.1 rfl (Nat.le_of_ble_eq_true rfl) dX3_init_8 ⟨(Nat.le_of_ble_eq_true rfl), (Nat.le_of_ble_eq_true rfl)⟩ (fun w1 H locs hw hP hD hS => ?_)
  subst hw
  have hP : va_P D vwCl ([(q, .inr (4, [.int t, .int nm, .int kd, .int dd, .int mk, .int 0, .null, .int 0, .int 0]))]) H := hP
  have hD : va_D A ([(q, .inr (4, [.int t, .int nm, .int kd, .int dd, .int mk, .int 0, .null, .int 0, .int 0]))]) := hD
  refine lv_aload_n hx hb dX3_init_11 rfl (lv_at hl 0 rfl) ?_
  refine lv_iload hx hb dX3_init_12 (lv_at hl 6 rfl) ?_
  refine va_putF (D := D) (ci := 4) (v := .int bd) (ty := .boolean) (C := RX3) (T := TX3) (N := 9) hx hb hts iX3 tyX3 tyX3_ok nmX3 hown hK.1 hP hD hS 0 rfl rfl 5 (by decide) (hts _ q_315) (fun _ h9 => h9) rfl hin rfl (by decide +kernel) (by rcases hbd with h9 | h9 <;> rw [h9] <;> rfl) (by rcases hbd with h9 | h9 <;> rw [h9] <;> rfl) (Nat.le_of_ble_eq_true rfl) dX3_init_14 (fun H locs hP hD hS => ?_)
  have hP : va_P D vwCl ([(q, .inr (4, [.int t, .int nm, .int kd, .int dd, .int mk, .int bd, .null, .int 0, .int 0]))]) H := hP
  have hD : va_D A ([(q, .inr (4, [.int t, .int nm, .int kd, .int dd, .int mk, .int bd, .null, .int 0, .int 0]))]) := hD
  refine lv_aload_n hx hb dX3_init_17 rfl (lv_at hl 0 rfl) ?_
  refine va_new (ci := 5) (fs := [.null, .null, .int 0]) (C := RX4) (T := TX4) (N := 3) hx hb hts iX4 tyX4 tyX4_ok hown (hts _ q_313) (hts _ q_56) (hts _ q_3) hK.1 hP hD hS hA rfl (fun j hj => by rcases (show j = 0 ∨ j = 1 ∨ j = 2 by omega) with rfl | rfl | rfl <;> rfl) (Nat.le_of_ble_eq_true rfl) (Nat.le_of_ble_eq_true rfl) dX3_init_18 (fun q2 H hP hD hS => ?_)
  have hP : va_P D vwCl ([(q, .inr (4, [.int t, .int nm, .int kd, .int dd, .int mk, .int bd, .null, .int 0, .int 0])), (q2, .inr (5, [.null, .null, .int 0]))]) H := hP
  have hD : va_D A ([(q, .inr (4, [.int t, .int nm, .int kd, .int dd, .int mk, .int bd, .null, .int 0, .int 0])), (q2, .inr (5, [.null, .null, .int 0]))]) := hD
  refine lv_dup hx hb dX3_init_21 rfl ?_
  refine cm_IN (n := 0) (wr := [(q, .inr (4, [.int t, .int nm, .int kd, .int dd, .int mk, .int bd, .null, .int 0, .int 0]))]) (wc := [(q2, .inr (5, [.null, .null, .int 0]))]) (D := D) (G := G) (As := []) (rest := [.ref q2, .ref q]) ⟨hx, hb, hml, hown, hts⟩ (c_rowInit l D G q2 _ ) q_59 q_3 hK.2.2.2.2.2.2.2.2.2.1 q_58 rfl (by decide +kernel) ⟨(Nat.le_of_ble_eq_true rfl), (Nat.le_of_ble_eq_true rfl)⟩ hK hP hD hS hA rfl hl.1 rfl (Nat.le_of_ble_eq_true rfl) dX3_init_22 ⟨(Nat.le_of_ble_eq_true rfl), (Nat.le_of_ble_eq_true rfl)⟩ (fun w1 H locs hw hP hD hS => ?_)
  obtain ⟨an3, bn3, rfl⟩ := hw
  have hP : va_P D vwCl ([(q, .inr (4, [.int t, .int nm, .int kd, .int dd, .int mk, .int bd, .null, .int 0, .int 0])), (q2, .inr (5, [.ref an3, .ref bn3, .int 0])), (an3, .inl ((G 0, 5, .inl (fun _ => 0)))), (bn3, .inl ((G 0, 5, .inl (fun _ => 0))))]) H := hP
  have hD : va_D A ([(q, .inr (4, [.int t, .int nm, .int kd, .int dd, .int mk, .int bd, .null, .int 0, .int 0])), (q2, .inr (5, [.ref an3, .ref bn3, .int 0])), (an3, .inl ((G 0, 5, .inl (fun _ => 0)))), (bn3, .inl ((G 0, 5, .inl (fun _ => 0))))]) := hD
  refine va_putF (D := D) (ci := 4) (v := .ref q2) (ty := .object "FieldMember$Row") (C := RX3) (T := TX3) (N := 9) hx hb hts iX3 tyX3 tyX3_ok nmX3 hown hK.1 hP hD hS 0 rfl rfl 6 (by decide) (hts _ q_317) (fun _ h9 => h9) rfl hin rfl (by decide +kernel) rfl rfl (Nat.le_of_ble_eq_true rfl) dX3_init_25 (fun H locs hP hD hS => ?_)
  have hP : va_P D vwCl ([(q, .inr (4, [.int t, .int nm, .int kd, .int dd, .int mk, .int bd, .ref q2, .int 0, .int 0])), (q2, .inr (5, [.ref an3, .ref bn3, .int 0])), (an3, .inl ((G 0, 5, .inl (fun _ => 0)))), (bn3, .inl ((G 0, 5, .inl (fun _ => 0))))]) H := hP
  have hD : va_D A ([(q, .inr (4, [.int t, .int nm, .int kd, .int dd, .int mk, .int bd, .ref q2, .int 0, .int 0])), (q2, .inr (5, [.ref an3, .ref bn3, .int 0])), (an3, .inl ((G 0, 5, .inl (fun _ => 0)))), (bn3, .inl ((G 0, 5, .inl (fun _ => 0))))]) := hD
  refine lv_aload_n hx hb dX3_init_28 rfl (lv_at hl 0 rfl) ?_
  refine lv_iconst (v := -1) hx hb dX3_init_29 (by decide) ?_
  refine va_put (D := D) (ci := 4) (v := .int ((-1))) (ty := .int) (C := RX3) (T := TX3) (N := 9) hx hb hts iX3 tyX3 tyX3_ok nmX3 hown hK.1 hP hD hS 0 rfl rfl 8 (by decide) (hts _ q_320) (fun _ h9 => h9) rfl (by decide +kernel) rfl rfl (Nat.le_of_ble_eq_true rfl) dX3_init_30 (fun H locs hP hD hS => ?_)
  have hP : va_P D vwCl ([(q, .inr (4, [.int t, .int nm, .int kd, .int dd, .int mk, .int bd, .ref q2, .int 0, .int ((-1))])), (q2, .inr (5, [.ref an3, .ref bn3, .int 0])), (an3, .inl ((G 0, 5, .inl (fun _ => 0)))), (bn3, .inl ((G 0, 5, .inl (fun _ => 0))))]) H := hP
  have hD : va_D A ([(q, .inr (4, [.int t, .int nm, .int kd, .int dd, .int mk, .int bd, .ref q2, .int 0, .int ((-1))])), (q2, .inr (5, [.ref an3, .ref bn3, .int 0])), (an3, .inl ((G 0, 5, .inl (fun _ => 0)))), (bn3, .inl ((G 0, 5, .inl (fun _ => 0))))]) := hD
  exact cm_vret hx hb hr hlocks hP hD hS dX3_init_33 (⟨fun i => if i = 0 then q else if i = 1 then q2 else if i = 2 then an3 else bn3, rfl, rfl⟩)
