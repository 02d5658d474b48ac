-- the tables' good words, one list for all methods
def TT : List Cond := lw_tbl.filter goodWord
theorem tt_of {w : Cond} (h : w ∈ lw_tbl) (g : goodWord w = true) : w ∈ TT := List.mem_filter.mpr ⟨h, g⟩
theorem tt_t {w : Cond} {i : Nat} (h : tables_1[i]? = some w) (g : goodWord w = true) : w ∈ TT := tt_of (List.mem_append_right _ (List.mem_of_getElem? h)) g
theorem tt_s {w : Cond} {i : Nat} (h : (k2_sels lw_privs)[i]? = some w) (g : goodWord w = true) : w ∈ TT := tt_of (List.mem_append_left _ (List.mem_of_getElem? h)) g
theorem tt_good {ws : List Cond} (h : ∀ w ∈ ws, w ∈ TT) : GoodIn TT ws := fun w hw => ⟨h w hw, good_of_word (List.mem_filter.mp (h w hw)).2⟩
theorem tt_goodL {ws : List Cond} (h : ∀ w ∈ ws, w ∈ TT) : GoodIn lw_tbl ws := fun w hw => ⟨(List.mem_filter.mp (h w hw)).1, good_of_word (List.mem_filter.mp (h w hw)).2⟩
theorem tt_c {w : Cond} {ws : List Cond} (h : w ∈ TT) (t : ∀ w ∈ ws, w ∈ TT) : ∀ w' ∈ w :: ws, w' ∈ TT := fun w' h' => (List.mem_cons.mp h').elim (fun e => by rw [e]; exact h) (t w')
theorem tt_S {own : String} {idx : Nat} {y : MethodName} {c : Cond} (h1 : Cond.methodLink own idx y ∈ TT) (h2 : Cond.static y ∈ TT) (h3 : Cond.initialized y.cls ∈ TT) (h4 : c ∈ TT) : GoodIn TT (va_wsS own idx y (c :: TT)) := tt_good (tt_c h1 (tt_c h2 (tt_c h3 (tt_c h4 (fun _ h => h)))))
theorem tt_V {own C : String} {idx : Nat} {y : MethodName} {c : Cond} (h1 : Cond.methodLink own idx y ∈ TT) (h2 : Cond.instanceMethod y ∈ TT) (h3 : Cond.selects C y y ∈ TT) (h4 : Cond.initialized C ∈ TT) (h5 : c ∈ TT) : GoodIn TT (wsV own idx C y (c :: TT)) := tt_good (tt_c h1 (tt_c h2 (tt_c h3 (tt_c h4 (tt_c h5 (fun _ h => h))))))
theorem tt_I {c : Cond} (h5 : c ∈ TT) : GoodIn TT (c :: TT) := tt_good (tt_c h5 (fun _ h => h))
abbrev ww (y : MethodName) (cc : ByteArray) (n : Nat) (r : Option FieldType) : List Cond := .code y cc n r :: TT
abbrev rmD (d : Nat) : Room := { frames := d, cells := 0, slots := 0, locals := 40 * d }
abbrev rmC (d mc ms : Nat) : Room := { frames := d, cells := mc, slots := ms, locals := 40 * d }
-- the array classes, and what the tables say beside the good words
abbrev tyG (G : Nat → ClassId) : List (ClassId × FieldType) := [(G 0, .int), (G 1, .long), (G 2, .boolean), (G 3, .object "FieldMember$Entry")]
def XN (U : State) : Prop := va_Nw (.castable "FieldMember$Field" "FieldMember$Field") U ∧ va_Nw (.castable "FieldMember$Member" "FieldMember$Member") U ∧ va_Nw (.castable "FieldMember$Field" "FieldMember$Entry") U ∧ va_Nw (.castable "FieldMember$Member" "FieldMember$Entry") U ∧ va_Nc "FieldMember$Field" "FieldMember$Member" U ∧ va_Nc "FieldMember$Member" "FieldMember$Field" U ∧ va_Nw (.methodLinkNest "FieldMember" 11 ⟨"FieldMember$Types", "<init>", "()V"⟩ "FieldMember") U ∧ va_Nw (.methodLinkNest "FieldMember" 24 ⟨"FieldMember$Row", "<init>", "()V"⟩ "FieldMember") U ∧ va_Nw (.methodLinkNest "FieldMember$Member" 17 ⟨"FieldMember$Row", "<init>", "()V"⟩ "FieldMember") U ∧ va_AO "FieldMember$Entry" U
theorem XN.warm {s U : State} (hW : s.WarmedH U.vm) (h : XN s) : XN U := by
  obtain ⟨h1, h2, h3, h4, h5, h6, h7, h8, h9, h10⟩ := h
  exact ⟨h1.warmC hW, h2.warmC hW, h3.warmC hW, h4.warmC hW, h5.moved hW.alike, h6.moved hW.alike, h7.warmM hW, h8.warmM hW, h9.warmM hW, h10.moved hW.alike⟩
def KK (D : va_G) (G : Nat → ClassId) (U : State) : Prop := va_K D vwCl (tyG G) U ∧ XN U
theorem KK.warm {D : va_G} {G : Nat → ClassId} {s U : State} (hW : s.WarmedH U.vm) (h : KK D G s) : KK D G U := ⟨va_K.moved hW.alike h.1, h.2.warm hW⟩
theorem KK.call {D : va_G} {G : Nat → ClassId} {U : State} {g : JFrame} {mk : MethodId} {a : Array Value} (h : KK D G U) : KK D G (U.calling g mk a) := h
-- a start that only names the heap
abbrev roP (D : va_G) (G : Nat → ClassId) (H : Heap) (As : List Value) : Array Value → State → Prop := va_Pc As (fun U => U.heap = H ∧ KK D G U)
section RO
variable {p : Program} {l : Launch} {e : Env} {R : Room} {s : State} {m : MethodId} {args : Array Value} {below : List Frame} {meth : Method} {c : Code} {H : Heap} {locs : List Loc} {cells slots : Nat} {Q : State → Prop}
variable {cc : ByteArray} {pc : Nat} {ls : Array Slot} {rest st : List Value} {D : va_G} {G : Nat → ClassId} {y : MethodName} {bytes : ByteArray} {maxL nL n idx d : Nat} {ret : Option FieldType} {As : List Value} {own C : String} {b : Nat}
theorem ro_pre (hK : KK D G s) : PreS s H (roP D G H As) As := ⟨fun _ _ _ _ q => ⟨q.1, q.2.1, q.2.2.call⟩, fun _ hU hW => ⟨rfl, hU, hK.warm hW⟩⟩
theorem ro_Si {post : Int32 → Prop} (S : CallFix p m c cc nL s args TT own) (hM : Met l y (.code y bytes maxL ret :: TT) (rmD d) (roP D G H As) (vp_Si post) 0 0 (fun _ => False)) (g : GoodIn TT (va_wsS own idx y (.code y bytes maxL ret :: TT)))
    (hd : y.cls ≠ "java/lang/invoke/MethodHandle" ∧ y.cls ≠ "java/lang/invoke/VarHandle" ∧ (parseMethodDescriptor y.desc).map (fun d => d.parameters.length) = some n) (hR : d + 1 ≤ R.frames ∧ 8 + (maxL + 11) + 40 * d ≤ R.locals) (hK : KK D G s) (hn : As.length = n) (hsize : ls.size = nL) (hstack : st = As.reverse ++ rest) (hW : (rest.map fun v => v.category).sum ≤ 8) (hdg : decode cc pc = .ok (.invokestatic idx, 3)) (hc : cells ≤ R.cells ∧ slots ≤ R.slots)
    (kk : ∀ r : Int32, post r → W p l e R s m args below meth c H locs cells slots Q (F0 m (pc + 3) ls (.int r :: rest))) : W p l e R s m args below meth c H locs cells slots Q (F0 m pc ls st) :=
  vp_callSi (W.runS S hM (va_cwS n S.2.2.2.2 g rfl rfl rfl hd hR) (ro_pre hK) rfl hn hsize hstack (lv_room hW) hdg hc) kk
theorem ro_Sl {post : Int64 → Prop} (S : CallFix p m c cc nL s args TT own) (hM : Met l y (.code y bytes maxL ret :: TT) (rmD d) (roP D G H As) (vp_Sl post) 0 0 (fun _ => False)) (g : GoodIn TT (va_wsS own idx y (.code y bytes maxL ret :: TT)))
    (hd : y.cls ≠ "java/lang/invoke/MethodHandle" ∧ y.cls ≠ "java/lang/invoke/VarHandle" ∧ (parseMethodDescriptor y.desc).map (fun d => d.parameters.length) = some n) (hR : d + 1 ≤ R.frames ∧ 8 + (maxL + 11) + 40 * d ≤ R.locals) (hK : KK D G s) (hn : As.length = n) (hsize : ls.size = nL) (hstack : st = As.reverse ++ rest) (hW : (rest.map fun v => v.category).sum ≤ 8) (hdg : decode cc pc = .ok (.invokestatic idx, 3)) (hc : cells ≤ R.cells ∧ slots ≤ R.slots)
    (kk : ∀ r : Int64, post r → W p l e R s m args below meth c H locs cells slots Q (F0 m (pc + 3) ls (.long r :: rest))) : W p l e R s m args below meth c H locs cells slots Q (F0 m pc ls st) :=
  vp_callSl (W.runS S hM (va_cwS n S.2.2.2.2 g rfl rfl rfl hd hR) (ro_pre hK) rfl hn hsize hstack (lv_room hW) hdg hc) kk
theorem ro_Vi {post : Int32 → Prop} (S : CallFix p m c cc nL s args TT own) (hM : Met l y (.code y bytes maxL ret :: TT) (rmD d) (roP D G H (.ref b :: As)) (vp_Si post) 0 0 (fun _ => False)) (g : GoodIn TT (wsV own idx C y (.code y bytes maxL ret :: TT)))
    (hd : y.cls = C ∧ y.cls ≠ "java/lang/invoke/MethodHandle" ∧ y.cls ≠ "java/lang/invoke/VarHandle" ∧ (parseMethodDescriptor y.desc).map (fun d => d.parameters.length) = some n) (hR : d + 1 ≤ R.frames ∧ 8 + (maxL + 11) + 40 * d ≤ R.locals) (hK : KK D G s) (hrv : ∃ cellB : Cell, H[b]? = some cellB ∧ cellB.vm.isStatics = false ∧ s.vm.findClass C = some cellB.cls) (hn : As.length = n) (hsize : ls.size = nL) (hstack : st = As.reverse ++ .ref b :: rest) (hW : (rest.map fun v => v.category).sum ≤ 8) (hdg : decode cc pc = .ok (.invokevirtual idx, 3)) (hc : cells ≤ R.cells ∧ slots ≤ R.slots)
    (kk : ∀ r : Int32, post r → W p l e R s m args below meth c H locs cells slots Q (F0 m (pc + 3) ls (.int r :: rest))) : W p l e R s m args below meth c H locs cells slots Q (F0 m pc ls st) :=
  vp_callSi (W.runV S hM (cwV n S.2.2.2.2 g rfl rfl rfl hd hR) ⟨(ro_pre (As := .ref b :: As) hK).1, hrv, (ro_pre hK).2⟩ rfl hn hsize hstack (lv_room hW) hdg hc) kk
theorem ro_Vq {post : Option Nat → Prop} (S : CallFix p m c cc nL s args TT own) (hM : Met l y (.code y bytes maxL ret :: TT) (rmD d) (roP D G H (.ref b :: As)) (va_Sq post) 0 0 (fun _ => False)) (g : GoodIn TT (wsV own idx C y (.code y bytes maxL ret :: TT)))
    (hd : y.cls = C ∧ y.cls ≠ "java/lang/invoke/MethodHandle" ∧ y.cls ≠ "java/lang/invoke/VarHandle" ∧ (parseMethodDescriptor y.desc).map (fun d => d.parameters.length) = some n) (hR : d + 1 ≤ R.frames ∧ 8 + (maxL + 11) + 40 * d ≤ R.locals) (hK : KK D G s) (hrv : ∃ cellB : Cell, H[b]? = some cellB ∧ cellB.vm.isStatics = false ∧ s.vm.findClass C = some cellB.cls) (hn : As.length = n) (hsize : ls.size = nL) (hstack : st = As.reverse ++ .ref b :: rest) (hW : (rest.map fun v => v.category).sum ≤ 8) (hdg : decode cc pc = .ok (.invokevirtual idx, 3)) (hc : cells ≤ R.cells ∧ slots ≤ R.slots)
    (kk : ∀ r : Option Nat, post r → W p l e R s m args below meth c H locs cells slots Q (F0 m (pc + 3) ls (va_rf r :: rest))) : W p l e R s m args below meth c H locs cells slots Q (F0 m pc ls st) :=
  va_csq (W.runV S hM (cwV n S.2.2.2.2 g rfl rfl rfl hd hR) ⟨(ro_pre (As := .ref b :: As) hK).1, hrv, (ro_pre hK).2⟩ rfl hn hsize hstack (lv_room hW) hdg hc) kk
-- ends of a method that only reads
theorem ro_iret {v : Int32} {post : Int32 → Prop} {free : Addr → Prop} (hx : p.tables.exec = Jvm.exec) (hb : c.code = cc) (hr : meth.sig.returnType = some .int) (hH : s.heap = H) (hlocks : meth.locks = false) (hdg : decode cc pc = .ok (.ireturn, 1)) (hp : post v) : W p l e R s m args below meth c H [] cells slots (MQ below (vp_Si post) args s cells slots free) (F0 m pc ls [.int v]) :=
  W.iret hx hb hr (fun t ht _ => ⟨v, rfl, hp, ht.trans hH.symm⟩) (fun _ h => nomatch h) hdg hlocks
theorem ro_zret {v : Int32} {post : Int32 → Prop} {free : Addr → Prop} (hx : p.tables.exec = Jvm.exec) (hb : c.code = cc) (hr : meth.sig.returnType = some .boolean) (hH : s.heap = H) (hlocks : meth.locks = false) (hdg : decode cc pc = .ok (.ireturn, 1)) (hv : v = 0 ∨ v = 1) (hp : post v) : W p l e R s m args below meth c H [] cells slots (MQ below (vp_Si post) args s cells slots free) (F0 m pc ls [.int v]) :=
  W.zret hx hb hr (by rcases hv with rfl | rfl <;> rfl) (fun t ht _ => ⟨v, rfl, hp, ht.trans hH.symm⟩) (fun _ h => nomatch h) hdg hlocks
theorem ro_lret {v : Int64} {post : Int64 → Prop} {free : Addr → Prop} (hx : p.tables.exec = Jvm.exec) (hb : c.code = cc) (hr : meth.sig.returnType = some .long) (hH : s.heap = H) (hlocks : meth.locks = false) (hdg : decode cc pc = .ok (.lreturn, 1)) (hp : post v) : W p l e R s m args below meth c H [] cells slots (MQ below (vp_Sl post) args s cells slots free) (F0 m pc ls [.long v]) :=
  W.lret hx hb hr (fun t ht _ => ⟨v, rfl, hp, ht.trans hH.symm⟩) (fun _ h => nomatch h) hdg hlocks
-- array places by naturals
variable {A : Nat → Prop} {a : Nat} {tys : List (ClassId × FieldType)} {ws : va_W} {H0 : Heap} {cl : List vw_C}
theorem in_n {i : Int32} {j n : Nat} (hi : i = nI j) (hj : j < n) (hn : n < 2 ^ 31) : vp_in i n ∧ i.toNatClampNeg = j := by
  subst hi; exact ⟨vp_in_nI hj hn, nI_clamp (by omega)⟩
theorem iald_n (hx : p.tables.exec = Jvm.exec) (hb : c.code = cc) (hK : va_K D cl tys s) (hP : va_P D cl ws H) (q0 t0 : Nat) {cA : ClassId} {n : Nat} {f : Nat → Int32} (ha : ws[q0]? = some (a, .inl (cA, n, .inl f))) (ht : tys[t0]? = some (cA, .int)) {i : Int32} (j : Nat) (hi : i = nI j) (hj : j < n) (hn : n < 2 ^ 31) (hdg : decode cc pc = .ok (.iaload, 1))
    (kk : W p l e R s m args below meth c H locs cells slots Q (F0 m (pc + 1) ls (.int (f j) :: rest))) : W p l e R s m args below meth c H locs cells slots Q (F0 m pc ls (.int i :: .ref a :: rest)) :=
  va_iald hx hb hK hP q0 t0 ha ht (in_n hi hj hn).1 hdg (by rw [(in_n hi hj hn).2]; exact kk)
theorem zald_n (hx : p.tables.exec = Jvm.exec) (hb : c.code = cc) (hK : va_K D cl tys s) (hP : va_P D cl ws H) (q0 t0 : Nat) {cA : ClassId} {n : Nat} {f : Nat → Int32} (ha : ws[q0]? = some (a, .inl (cA, n, .inl f))) (ht : tys[t0]? = some (cA, .boolean)) {i : Int32} (j : Nat) (hi : i = nI j) (hj : j < n) (hn : n < 2 ^ 31) (hdg : decode cc pc = .ok (.baload, 1))
    (kk : W p l e R s m args below meth c H locs cells slots Q (F0 m (pc + 1) ls (.int (f j) :: rest))) : W p l e R s m args below meth c H locs cells slots Q (F0 m pc ls (.int i :: .ref a :: rest)) :=
  va_zald hx hb hK hP q0 t0 ha ht (in_n hi hj hn).1 hdg (by rw [(in_n hi hj hn).2]; exact kk)
theorem lald_n (hx : p.tables.exec = Jvm.exec) (hb : c.code = cc) (hK : va_K D cl tys s) (hP : va_P D cl ws H) (q0 t0 : Nat) {cA : ClassId} {n : Nat} {f : Nat → Int64} (ha : ws[q0]? = some (a, .inl (cA, n, .inr (.inl f)))) (ht : tys[t0]? = some (cA, .long)) {i : Int32} (j : Nat) (hi : i = nI j) (hj : j < n) (hn : n < 2 ^ 31) (hdg : decode cc pc = .ok (.laload, 1))
    (kk : W p l e R s m args below meth c H locs cells slots Q (F0 m (pc + 1) ls (.long (f j) :: rest))) : W p l e R s m args below meth c H locs cells slots Q (F0 m pc ls (.int i :: .ref a :: rest)) :=
  va_lald hx hb hK hP q0 t0 ha ht (in_n hi hj hn).1 hdg (by rw [(in_n hi hj hn).2]; exact kk)
theorem iast_n (hx : p.tables.exec = Jvm.exec) (hb : c.code = cc) (hK : va_K D cl tys s) (hP : va_P D cl ws H) (hD : va_D A ws) (hS : va_S A H0 H locs) (q0 t0 : Nat) {cA : ClassId} {n : Nat} {f : Nat → Int32} (ha : ws[q0]? = some (a, .inl (cA, n, .inl f))) (ht : tys[t0]? = some (cA, .int)) {i x : Int32} (j : Nat) (hi : i = nI j) (hj : j < n) (hn : n < 2 ^ 31) (hdg : decode cc pc = .ok (.iastore, 1))
    (kk : ∀ (H1 : Heap) (locs1 : List Loc), va_P D cl (ws.set q0 (a, .inl (cA, n, .inl (upd f j x)))) H1 → va_D A (ws.set q0 (a, .inl (cA, n, .inl (upd f j x)))) → va_S A H0 H1 locs1 → W p l e R s m args below meth c H1 locs1 cells slots Q (F0 m (pc + 1) ls rest)) : W p l e R s m args below meth c H locs cells slots Q (F0 m pc ls (.int x :: .int i :: .ref a :: rest)) :=
  va_iast hx hb hK hP hD hS q0 t0 ha ht (in_n hi hj hn).1 hdg (by rw [(in_n hi hj hn).2]; exact kk)
theorem zast_n (hx : p.tables.exec = Jvm.exec) (hb : c.code = cc) (hK : va_K D cl tys s) (hP : va_P D cl ws H) (hD : va_D A ws) (hS : va_S A H0 H locs) (q0 t0 : Nat) {cA : ClassId} {n : Nat} {f : Nat → Int32} (ha : ws[q0]? = some (a, .inl (cA, n, .inl f))) (ht : tys[t0]? = some (cA, .boolean)) {i x : Int32} (j : Nat) (hi : i = nI j) (hj : j < n) (hn : n < 2 ^ 31) (hv : x = 0 ∨ x = 1) (hdg : decode cc pc = .ok (.bastore, 1))
    (kk : ∀ (H1 : Heap) (locs1 : List Loc), va_P D cl (ws.set q0 (a, .inl (cA, n, .inl (upd f j x)))) H1 → va_D A (ws.set q0 (a, .inl (cA, n, .inl (upd f j x)))) → va_S A H0 H1 locs1 → W p l e R s m args below meth c H1 locs1 cells slots Q (F0 m (pc + 1) ls rest)) : W p l e R s m args below meth c H locs cells slots Q (F0 m pc ls (.int x :: .int i :: .ref a :: rest)) :=
  va_zast hx hb hK hP hD hS q0 t0 ha ht (in_n hi hj hn).1 hdg (by rw [(in_n hi hj hn).2, show vp_nar .boolean x = x by rcases hv with rfl | rfl <;> rfl]; exact kk)
theorem last_n (hx : p.tables.exec = Jvm.exec) (hb : c.code = cc) (hK : va_K D cl tys s) (hP : va_P D cl ws H) (hD : va_D A ws) (hS : va_S A H0 H locs) (q0 t0 : Nat) {cA : ClassId} {n : Nat} {f : Nat → Int64} (ha : ws[q0]? = some (a, .inl (cA, n, .inr (.inl f)))) (ht : tys[t0]? = some (cA, .long)) {i : Int32} {x : Int64} (j : Nat) (hi : i = nI j) (hj : j < n) (hn : n < 2 ^ 31) (hdg : decode cc pc = .ok (.lastore, 1))
    (kk : ∀ (H1 : Heap) (locs1 : List Loc), va_P D cl (ws.set q0 (a, .inl (cA, n, .inr (.inl (vp_updL f j x))))) H1 → va_D A (ws.set q0 (a, .inl (cA, n, .inr (.inl (vp_updL f j x))))) → va_S A H0 H1 locs1 → W p l e R s m args below meth c H1 locs1 cells slots Q (F0 m (pc + 1) ls rest)) : W p l e R s m args below meth c H locs cells slots Q (F0 m pc ls (.long x :: .int i :: .ref a :: rest)) :=
  va_last hx hb hK hP hD hS q0 t0 ha ht (in_n hi hj hn).1 hdg (by rw [(in_n hi hj hn).2]; exact kk)
end RO
-- truth as an int
def bI (p : Prop) [Decidable p] : Int32 := if p then 1 else 0
theorem bI_t {p : Prop} [Decidable p] (h : p) : bI p = 1 := if_pos h
theorem bI_f {p : Prop} [Decidable p] (h : ¬ p) : bI p = 0 := if_neg h
theorem bI_0 {p : Prop} [Decidable p] (h : bI p = 0) : ¬ p := fun hp => by rw [bI_t hp] at h; exact absurd h (by decide)
theorem bI_1 {p : Prop} [Decidable p] (h : ¬ bI p = 0) : p := Decidable.byContradiction fun hp => h (bI_f hp)
theorem bI_b {p : Prop} [Decidable p] : bI p = 0 ∨ bI p = 1 := by by_cases h : p; exact Or.inr (bI_t h); exact Or.inl (bI_f h)
theorem bI_c {p q : Prop} [Decidable p] [Decidable q] (h : p ↔ q) : bI p = bI q := by unfold bI; simp only [h]
theorem nI_3 : (3 : Int32) = nI 3 := rfl
-- small numbers
theorem n_add {x y : Int32} {a b : Nat} (hx : x = nI a) (hy : y = nI b) : x + y = nI (a + b) := by rw [hx, hy, nI_add]
theorem n_mul {x y : Int32} {a b : Nat} (hx : x = nI a) (hy : y = nI b) : x * y = nI (a * b) := by rw [hx, hy, pk_mul]
theorem n_sub {x y : Int32} {a b : Nat} (hx : x = nI a) (hy : y = nI b) (h : b ≤ a) : x - y = nI (a - b) := by rw [hx, hy, pk_sub h]
theorem n_ti {a : Nat} (h : a < 2 ^ 31) : (nI a).toInt = (a : Int) := nI_toInt h
theorem i_lt {x y : Int32} : x < y ↔ x.toInt < y.toInt := Int32.lt_iff_toInt_lt
theorem i_le {x y : Int32} : x ≤ y ↔ x.toInt ≤ y.toInt := Int32.le_iff_toInt_le
theorem i_eq {x y : Int32} : x = y ↔ x.toInt = y.toInt := Int32.toInt_inj.symm
abbrev MS : Type := Nat → Nat → Int32
/-- a table of the reference gets v at place i -/
def su (σ : MS) (k i : Nat) (v : Int32) : MS := fun a => if a = k then upd (σ k) i v else σ a
/-- the cells of the reference: its object, its arrays; the fields by their slots: a number is σ k 0, an array is σ k, the longs are τ -/
abbrev mW (G : Nat → ClassId) (mo : Nat) (ad : Nat → Nat) (σ : MS) (τ : Nat → Int64) : va_W := [(mo, .inr (8, [.int (σ 0 0), .int (σ 1 0), .ref (ad 2), .ref (ad 3), .ref (ad 4), .ref (ad 5), .ref (ad 6), .int (σ 7 0), .ref (ad 8), .ref (ad 9), .ref (ad 10), .ref (ad 11), .ref (ad 12), .ref (ad 13), .ref (ad 14), .ref (ad 15), .ref (ad 16), .ref (ad 17), .ref (ad 18), .ref (ad 19), .ref (ad 20), .int (σ 21 0), .int (σ 22 0), .ref (ad 23), .ref (ad 24), .int (σ 25 0), .int (σ 26 0), .ref (ad 27), .ref (ad 28), .ref (ad 29), .ref (ad 30), .ref (ad 31), .ref (ad 32)])), (ad 2, .inl (G 0, 12, .inl (σ 2))), (ad 3, .inl (G 0, 12, .inl (σ 3))), (ad 4, .inl (G 0, 36, .inl (σ 4))), (ad 5, .inl (G 0, 12, .inl (σ 5))), (ad 6, .inl (G 2, 144, .inl (σ 6))), (ad 8, .inl (G 2, 60, .inl (σ 8))), (ad 9, .inl (G 0, 60, .inl (σ 9))), (ad 10, .inl (G 0, 60, .inl (σ 10))), (ad 11, .inl (G 0, 60, .inl (σ 11))), (ad 12, .inl (G 0, 60, .inl (σ 12))), (ad 13, .inl (G 0, 60, .inl (σ 13))), (ad 14, .inl (G 2, 60, .inl (σ 14))), (ad 15, .inl (G 1, 60, .inr (.inl τ))), (ad 16, .inl (G 2, 60, .inl (σ 16))), (ad 17, .inl (G 2, 60, .inl (σ 17))), (ad 18, .inl (G 0, 60, .inl (σ 18))), (ad 19, .inl (G 0, 300, .inl (σ 19))), (ad 20, .inl (G 0, 300, .inl (σ 20))), (ad 23, .inl (G 0, 5, .inl (σ 23))), (ad 24, .inl (G 0, 5, .inl (σ 24))), (ad 27, .inl (G 0, 26, .inl (σ 27))), (ad 28, .inl (G 0, 60, .inl (σ 28))), (ad 29, .inl (G 0, 12, .inl (σ 29))), (ad 30, .inl (G 2, 60, .inl (σ 30))), (ad 31, .inl (G 2, 60, .inl (σ 31))), (ad 32, .inl (G 2, 60, .inl (σ 32)))]
