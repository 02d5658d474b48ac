-- the tables' good words, one list for all methods
def TT : List Cond := lw_tbl.filter goodWord
theorem tt_of {w : Cond} (h : w ∈ lw_tbl) (g : goodWord w = true) : w ∈ TT := List.mem_filter.mpr ⟨h, g⟩
theorem tt_t {w : Cond} {i : Nat} (h : tables_1[i]? = some w) (g : goodWord w = true) : w ∈ TT := tt_of (List.mem_append_right _ (List.mem_of_getElem? h)) g
theorem tt_s {w : Cond} {i : Nat} (h : (k2_sels lw_privs)[i]? = some w) (g : goodWord w = true) : w ∈ TT := tt_of (List.mem_append_left _ (List.mem_of_getElem? h)) g
theorem tt_good {ws : List Cond} (h : ∀ w ∈ ws, w ∈ TT) : GoodIn TT ws := fun w hw => ⟨h w hw, good_of_word (List.mem_filter.mp (h w hw)).2⟩
theorem tt_goodL {ws : List Cond} (h : ∀ w ∈ ws, w ∈ TT) : GoodIn lw_tbl ws := fun w hw => ⟨(List.mem_filter.mp (h w hw)).1, good_of_word (List.mem_filter.mp (h w hw)).2⟩
theorem tt_c {w : Cond} {ws : List Cond} (h : w ∈ TT) (t : ∀ w ∈ ws, w ∈ TT) : ∀ w' ∈ w :: ws, w' ∈ TT := fun w' h' => (List.mem_cons.mp h').elim (fun e => by rw [e]; exact h) (t w')
theorem tt_S {own : String} {idx : Nat} {y : MethodName} {c : Cond} (h1 : Cond.methodLink own idx y ∈ TT) (h2 : Cond.static y ∈ TT) (h3 : Cond.initialized y.cls ∈ TT) (h4 : c ∈ TT) : GoodIn TT (va_wsS own idx y (c :: TT)) := tt_good (tt_c h1 (tt_c h2 (tt_c h3 (tt_c h4 (fun _ h => h)))))
theorem tt_V {own C : String} {idx : Nat} {y : MethodName} {c : Cond} (h1 : Cond.methodLink own idx y ∈ TT) (h2 : Cond.instanceMethod y ∈ TT) (h3 : Cond.selects C y y ∈ TT) (h4 : Cond.initialized C ∈ TT) (h5 : c ∈ TT) : GoodIn TT (wsV own idx C y (c :: TT)) := tt_good (tt_c h1 (tt_c h2 (tt_c h3 (tt_c h4 (tt_c h5 (fun _ h => h))))))
theorem tt_I {c : Cond} (h5 : c ∈ TT) : GoodIn TT (c :: TT) := tt_good (tt_c h5 (fun _ h => h))
abbrev ww (y : MethodName) (cc : ByteArray) (n : Nat) (r : Option FieldType) : List Cond := .code y cc n r :: TT
abbrev rmD (d : Nat) : Room := { frames := d, cells := 0, slots := 0, locals := 40 * d }
abbrev rmC (d mc ms : Nat) : Room := { frames := d, cells := mc, slots := ms, locals := 40 * d }
-- the array classes, and what the tables say beside the good words
abbrev tyG (G : Nat → ClassId) : List (ClassId × FieldType) := [(G 0, .int), (G 1, .long), (G 2, .boolean), (G 3, .object "FieldMember$Entry")]
def XN (U : State) : Prop := va_Nw (.castable "FieldMember$Field" "FieldMember$Field") U ∧ va_Nw (.castable "FieldMember$Member" "FieldMember$Member") U ∧ va_Nw (.castable "FieldMember$Field" "FieldMember$Entry") U ∧ va_Nw (.castable "FieldMember$Member" "FieldMember$Entry") U ∧ va_Nc "FieldMember$Field" "FieldMember$Member" U ∧ va_Nc "FieldMember$Member" "FieldMember$Field" U ∧ va_Nw (.methodLinkNest "FieldMember" 11 ⟨"FieldMember$Types", "<init>", "()V"⟩ "FieldMember") U ∧ va_Nw (.methodLinkNest "FieldMember" 24 ⟨"FieldMember$Row", "<init>", "()V"⟩ "FieldMember") U ∧ va_Nw (.methodLinkNest "FieldMember$Member" 17 ⟨"FieldMember$Row", "<init>", "()V"⟩ "FieldMember") U ∧ va_AO "FieldMember$Entry" U
theorem XN.warm {s U : State} (hW : s.WarmedH U.vm) (h : XN s) : XN U := by
  obtain ⟨h1, h2, h3, h4, h5, h6, h7, h8, h9, h10⟩ := h
  exact ⟨h1.warmC hW, h2.warmC hW, h3.warmC hW, h4.warmC hW, h5.moved hW.alike, h6.moved hW.alike, h7.warmM hW, h8.warmM hW, h9.warmM hW, h10.moved hW.alike⟩
def KK (D : va_G) (G : Nat → ClassId) (U : State) : Prop := va_K D vwCl (tyG G) U ∧ XN U
theorem KK.warm {D : va_G} {G : Nat → ClassId} {s U : State} (hW : s.WarmedH U.vm) (h : KK D G s) : KK D G U := ⟨va_K.moved hW.alike h.1, h.2.warm hW⟩
theorem KK.call {D : va_G} {G : Nat → ClassId} {U : State} {g : JFrame} {mk : MethodId} {a : Array Value} (h : KK D G U) : KK D G (U.calling g mk a) := h
-- a start that only names the heap
abbrev roP (D : va_G) (G : Nat → ClassId) (H : Heap) (As : List Value) : Array Value → State → Prop := va_Pc As (fun U => U.heap = H ∧ KK D G U)
section RO
variable {p : Program} {l : Launch} {e : Env} {R : Room} {s : State} {m : MethodId} {args : Array Value} {below : List Frame} {meth : Method} {c : Code} {H : Heap} {locs : List Loc} {cells slots : Nat} {Q : State → Prop}
variable {cc : ByteArray} {pc : Nat} {ls : Array Slot} {rest st : List Value} {D : va_G} {G : Nat → ClassId} {y : MethodName} {bytes : ByteArray} {maxL nL n idx d : Nat} {ret : Option FieldType} {As : List Value} {own C : String} {b : Nat}
theorem ro_pre (hK : KK D G s) : PreS s H (roP D G H As) As := ⟨fun _ _ _ _ q => ⟨q.1, q.2.1, q.2.2.call⟩, fun _ hU hW => ⟨rfl, hU, hK.warm hW⟩⟩
theorem ro_Si {post : Int32 → Prop} (S : CallFix p m c cc nL s args TT own) (hM : Met l y (.code y bytes maxL ret :: TT) (rmD d) (roP D G H As) (vp_Si post) 0 0 (fun _ => False)) (g : GoodIn TT (va_wsS own idx y (.code y bytes maxL ret :: TT)))
    (hd : y.cls ≠ "java/lang/invoke/MethodHandle" ∧ y.cls ≠ "java/lang/invoke/VarHandle" ∧ (parseMethodDescriptor y.desc).map (fun d => d.parameters.length) = some n) (hR : d + 1 ≤ R.frames ∧ 8 + (maxL + 11) + 40 * d ≤ R.locals) (hK : KK D G s) (hn : As.length = n) (hsize : ls.size = nL) (hstack : st = As.reverse ++ rest) (hW : (rest.map fun v => v.category).sum ≤ 8) (hdg : decode cc pc = .ok (.invokestatic idx, 3)) (hc : cells ≤ R.cells ∧ slots ≤ R.slots)
    (kk : ∀ r : Int32, post r → W p l e R s m args below meth c H locs cells slots Q (F0 m (pc + 3) ls (.int r :: rest))) : W p l e R s m args below meth c H locs cells slots Q (F0 m pc ls st) :=
  vp_callSi (W.runS S hM (va_cwS n S.2.2.2.2 g rfl rfl rfl hd hR) (ro_pre hK) rfl hn hsize hstack (lv_room hW) hdg hc) kk
theorem ro_Sl {post : Int64 → Prop} (S : CallFix p m c cc nL s args TT own) (hM : Met l y (.code y bytes maxL ret :: TT) (rmD d) (roP D G H As) (vp_Sl post) 0 0 (fun _ => False)) (g : GoodIn TT (va_wsS own idx y (.code y bytes maxL ret :: TT)))
    (hd : y.cls ≠ "java/lang/invoke/MethodHandle" ∧ y.cls ≠ "java/lang/invoke/VarHandle" ∧ (parseMethodDescriptor y.desc).map (fun d => d.parameters.length) = some n) (hR : d + 1 ≤ R.frames ∧ 8 + (maxL + 11) + 40 * d ≤ R.locals) (hK : KK D G s) (hn : As.length = n) (hsize : ls.size = nL) (hstack : st = As.reverse ++ rest) (hW : (rest.map fun v => v.category).sum ≤ 8) (hdg : decode cc pc = .ok (.invokestatic idx, 3)) (hc : cells ≤ R.cells ∧ slots ≤ R.slots)
    (kk : ∀ r : Int64, post r → W p l e R s m args below meth c H locs cells slots Q (F0 m (pc + 3) ls (.long r :: rest))) : W p l e R s m args below meth c H locs cells slots Q (F0 m pc ls st) :=
  vp_callSl (W.runS S hM (va_cwS n S.2.2.2.2 g rfl rfl rfl hd hR) (ro_pre hK) rfl hn hsize hstack (lv_room hW) hdg hc) kk
theorem ro_Vi {post : Int32 → Prop} (S : CallFix p m c cc nL s args TT own) (hM : Met l y (.code y bytes maxL ret :: TT) (rmD d) (roP D G H (.ref b :: As)) (vp_Si post) 0 0 (fun _ => False)) (g : GoodIn TT (wsV own idx C y (.code y bytes maxL ret :: TT)))
    (hd : y.cls = C ∧ y.cls ≠ "java/lang/invoke/MethodHandle" ∧ y.cls ≠ "java/lang/invoke/VarHandle" ∧ (parseMethodDescriptor y.desc).map (fun d => d.parameters.length) = some n) (hR : d + 1 ≤ R.frames ∧ 8 + (maxL + 11) + 40 * d ≤ R.locals) (hK : KK D G s) (hrv : ∃ cellB : Cell, H[b]? = some cellB ∧ cellB.vm.isStatics = false ∧ s.vm.findClass C = some cellB.cls) (hn : As.length = n) (hsize : ls.size = nL) (hstack : st = As.reverse ++ .ref b :: rest) (hW : (rest.map fun v => v.category).sum ≤ 8) (hdg : decode cc pc = .ok (.invokevirtual idx, 3)) (hc : cells ≤ R.cells ∧ slots ≤ R.slots)
    (kk : ∀ r : Int32, post r → W p l e R s m args below meth c H locs cells slots Q (F0 m (pc + 3) ls (.int r :: rest))) : W p l e R s m args below meth c H locs cells slots Q (F0 m pc ls st) :=
  vp_callSi (W.runV S hM (cwV n S.2.2.2.2 g rfl rfl rfl hd hR) ⟨(ro_pre (As := .ref b :: As) hK).1, hrv, (ro_pre hK).2⟩ rfl hn hsize hstack (lv_room hW) hdg hc) kk
theorem ro_Vq {post : Option Nat → Prop} (S : CallFix p m c cc nL s args TT own) (hM : Met l y (.code y bytes maxL ret :: TT) (rmD d) (roP D G H (.ref b :: As)) (va_Sq post) 0 0 (fun _ => False)) (g : GoodIn TT (wsV own idx C y (.code y bytes maxL ret :: TT)))
    (hd : y.cls = C ∧ y.cls ≠ "java/lang/invoke/MethodHandle" ∧ y.cls ≠ "java/lang/invoke/VarHandle" ∧ (parseMethodDescriptor y.desc).map (fun d => d.parameters.length) = some n) (hR : d + 1 ≤ R.frames ∧ 8 + (maxL + 11) + 40 * d ≤ R.locals) (hK : KK D G s) (hrv : ∃ cellB : Cell, H[b]? = some cellB ∧ cellB.vm.isStatics = false ∧ s.vm.findClass C = some cellB.cls) (hn : As.length = n) (hsize : ls.size = nL) (hstack : st = As.reverse ++ .ref b :: rest) (hW : (rest.map fun v => v.category).sum ≤ 8) (hdg : decode cc pc = .ok (.invokevirtual idx, 3)) (hc : cells ≤ R.cells ∧ slots ≤ R.slots)
    (kk : ∀ r : Option Nat, post r → W p l e R s m args below meth c H locs cells slots Q (F0 m (pc + 3) ls (va_rf r :: rest))) : W p l e R s m args below meth c H locs cells slots Q (F0 m pc ls st) :=
  va_csq (W.runV S hM (cwV n S.2.2.2.2 g rfl rfl rfl hd hR) ⟨(ro_pre (As := .ref b :: As) hK).1, hrv, (ro_pre hK).2⟩ rfl hn hsize hstack (lv_room hW) hdg hc) kk
-- ends of a method that only reads
theorem ro_iret {v : Int32} {post : Int32 → Prop} {free : Addr → Prop} (hx : p.tables.exec = Jvm.exec) (hb : c.code = cc) (hr : meth.sig.returnType = some .int) (hH : s.heap = H) (hlocks : meth.locks = false) (hdg : decode cc pc = .ok (.ireturn, 1)) (hp : post v) : W p l e R s m args below meth c H [] cells slots (MQ below (vp_Si post) args s cells slots free) (F0 m pc ls [.int v]) :=
  W.iret hx hb hr (fun t ht _ => ⟨v, rfl, hp, ht.trans hH.symm⟩) (fun _ h => nomatch h) hdg hlocks
theorem ro_zret {v : Int32} {post : Int32 → Prop} {free : Addr → Prop} (hx : p.tables.exec = Jvm.exec) (hb : c.code = cc) (hr : meth.sig.returnType = some .boolean) (hH : s.heap = H) (hlocks : meth.locks = false) (hdg : decode cc pc = .ok (.ireturn, 1)) (hv : v = 0 ∨ v = 1) (hp : post v) : W p l e R s m args below meth c H [] cells slots (MQ below (vp_Si post) args s cells slots free) (F0 m pc ls [.int v]) :=
  W.zret hx hb hr (by rcases hv with rfl | rfl <;> rfl) (fun t ht _ => ⟨v, rfl, hp, ht.trans hH.symm⟩) (fun _ h => nomatch h) hdg hlocks
theorem ro_lret {v : Int64} {post : Int64 → Prop} {free : Addr → Prop} (hx : p.tables.exec = Jvm.exec) (hb : c.code = cc) (hr : meth.sig.returnType = some .long) (hH : s.heap = H) (hlocks : meth.locks = false) (hdg : decode cc pc = .ok (.lreturn, 1)) (hp : post v) : W p l e R s m args below meth c H [] cells slots (MQ below (vp_Sl post) args s cells slots free) (F0 m pc ls [.long v]) :=
  W.lret hx hb hr (fun t ht _ => ⟨v, rfl, hp, ht.trans hH.symm⟩) (fun _ h => nomatch h) hdg hlocks
-- array places by naturals
variable {A : Nat → Prop} {a : Nat} {tys : List (ClassId × FieldType)} {ws : va_W} {H0 : Heap} {cl : List vw_C}
theorem in_n {i : Int32} {j n : Nat} (hi : i = nI j) (hj : j < n) (hn : n < 2 ^ 31) : vp_in i n ∧ i.toNatClampNeg = j := by
  subst hi; exact ⟨vp_in_nI hj hn, nI_clamp (by omega)⟩
theorem iald_n (hx : p.tables.exec = Jvm.exec) (hb : c.code = cc) (hK : va_K D cl tys s) (hP : va_P D cl ws H) (q0 t0 : Nat) {cA : ClassId} {n : Nat} {f : Nat → Int32} (ha : ws[q0]? = some (a, .inl (cA, n, .inl f))) (ht : tys[t0]? = some (cA, .int)) {i : Int32} (j : Nat) (hi : i = nI j) (hj : j < n) (hn : n < 2 ^ 31) (hdg : decode cc pc = .ok (.iaload, 1))
    (kk : W p l e R s m args below meth c H locs cells slots Q (F0 m (pc + 1) ls (.int (f j) :: rest))) : W p l e R s m args below meth c H locs cells slots Q (F0 m pc ls (.int i :: .ref a :: rest)) :=
  va_iald hx hb hK hP q0 t0 ha ht (in_n hi hj hn).1 hdg (by rw [(in_n hi hj hn).2]; exact kk)
theorem zald_n (hx : p.tables.exec = Jvm.exec) (hb : c.code = cc) (hK : va_K D cl tys s) (hP : va_P D cl ws H) (q0 t0 : Nat) {cA : ClassId} {n : Nat} {f : Nat → Int32} (ha : ws[q0]? = some (a, .inl (cA, n, .inl f))) (ht : tys[t0]? = some (cA, .boolean)) {i : Int32} (j : Nat) (hi : i = nI j) (hj : j < n) (hn : n < 2 ^ 31) (hdg : decode cc pc = .ok (.baload, 1))
    (kk : W p l e R s m args below meth c H locs cells slots Q (F0 m (pc + 1) ls (.int (f j) :: rest))) : W p l e R s m args below meth c H locs cells slots Q (F0 m pc ls (.int i :: .ref a :: rest)) :=
  va_zald hx hb hK hP q0 t0 ha ht (in_n hi hj hn).1 hdg (by rw [(in_n hi hj hn).2]; exact kk)
theorem lald_n (hx : p.tables.exec = Jvm.exec) (hb : c.code = cc) (hK : va_K D cl tys s) (hP : va_P D cl ws H) (q0 t0 : Nat) {cA : ClassId} {n : Nat} {f : Nat → Int64} (ha : ws[q0]? = some (a, .inl (cA, n, .inr (.inl f)))) (ht : tys[t0]? = some (cA, .long)) {i : Int32} (j : Nat) (hi : i = nI j) (hj : j < n) (hn : n < 2 ^ 31) (hdg : decode cc pc = .ok (.laload, 1))
    (kk : W p l e R s m args below meth c H locs cells slots Q (F0 m (pc + 1) ls (.long (f j) :: rest))) : W p l e R s m args below meth c H locs cells slots Q (F0 m pc ls (.int i :: .ref a :: rest)) :=
  va_lald hx hb hK hP q0 t0 ha ht (in_n hi hj hn).1 hdg (by rw [(in_n hi hj hn).2]; exact kk)
theorem iast_n (hx : p.tables.exec = Jvm.exec) (hb : c.code = cc) (hK : va_K D cl tys s) (hP : va_P D cl ws H) (hD : va_D A ws) (hS : va_S A H0 H locs) (q0 t0 : Nat) {cA : ClassId} {n : Nat} {f : Nat → Int32} (ha : ws[q0]? = some (a, .inl (cA, n, .inl f))) (ht : tys[t0]? = some (cA, .int)) {i x : Int32} (j : Nat) (hi : i = nI j) (hj : j < n) (hn : n < 2 ^ 31) (hdg : decode cc pc = .ok (.iastore, 1))
    (kk : ∀ (H1 : Heap) (locs1 : List Loc), va_P D cl (ws.set q0 (a, .inl (cA, n, .inl (upd f j x)))) H1 → va_D A (ws.set q0 (a, .inl (cA, n, .inl (upd f j x)))) → va_S A H0 H1 locs1 → W p l e R s m args below meth c H1 locs1 cells slots Q (F0 m (pc + 1) ls rest)) : W p l e R s m args below meth c H locs cells slots Q (F0 m pc ls (.int x :: .int i :: .ref a :: rest)) :=
  va_iast hx hb hK hP hD hS q0 t0 ha ht (in_n hi hj hn).1 hdg (by rw [(in_n hi hj hn).2]; exact kk)
theorem zast_n (hx : p.tables.exec = Jvm.exec) (hb : c.code = cc) (hK : va_K D cl tys s) (hP : va_P D cl ws H) (hD : va_D A ws) (hS : va_S A H0 H locs) (q0 t0 : Nat) {cA : ClassId} {n : Nat} {f : Nat → Int32} (ha : ws[q0]? = some (a, .inl (cA, n, .inl f))) (ht : tys[t0]? = some (cA, .boolean)) {i x : Int32} (j : Nat) (hi : i = nI j) (hj : j < n) (hn : n < 2 ^ 31) (hv : x = 0 ∨ x = 1) (hdg : decode cc pc = .ok (.bastore, 1))
    (kk : ∀ (H1 : Heap) (locs1 : List Loc), va_P D cl (ws.set q0 (a, .inl (cA, n, .inl (upd f j x)))) H1 → va_D A (ws.set q0 (a, .inl (cA, n, .inl (upd f j x)))) → va_S A H0 H1 locs1 → W p l e R s m args below meth c H1 locs1 cells slots Q (F0 m (pc + 1) ls rest)) : W p l e R s m args below meth c H locs cells slots Q (F0 m pc ls (.int x :: .int i :: .ref a :: rest)) :=
  va_zast hx hb hK hP hD hS q0 t0 ha ht (in_n hi hj hn).1 hdg (by rw [(in_n hi hj hn).2, show vp_nar .boolean x = x by rcases hv with rfl | rfl <;> rfl]; exact kk)
theorem last_n (hx : p.tables.exec = Jvm.exec) (hb : c.code = cc) (hK : va_K D cl tys s) (hP : va_P D cl ws H) (hD : va_D A ws) (hS : va_S A H0 H locs) (q0 t0 : Nat) {cA : ClassId} {n : Nat} {f : Nat → Int64} (ha : ws[q0]? = some (a, .inl (cA, n, .inr (.inl f)))) (ht : tys[t0]? = some (cA, .long)) {i : Int32} {x : Int64} (j : Nat) (hi : i = nI j) (hj : j < n) (hn : n < 2 ^ 31) (hdg : decode cc pc = .ok (.lastore, 1))
    (kk : ∀ (H1 : Heap) (locs1 : List Loc), va_P D cl (ws.set q0 (a, .inl (cA, n, .inr (.inl (vp_updL f j x))))) H1 → va_D A (ws.set q0 (a, .inl (cA, n, .inr (.inl (vp_updL f j x))))) → va_S A H0 H1 locs1 → W p l e R s m args below meth c H1 locs1 cells slots Q (F0 m (pc + 1) ls rest)) : W p l e R s m args below meth c H locs cells slots Q (F0 m pc ls (.long x :: .int i :: .ref a :: rest)) :=
  va_last hx hb hK hP hD hS q0 t0 ha ht (in_n hi hj hn).1 hdg (by rw [(in_n hi hj hn).2]; exact kk)
end RO
-- truth as an int
def bI (p : Prop) [Decidable p] : Int32 := if p then 1 else 0
theorem bI_t {p : Prop} [Decidable p] (h : p) : bI p = 1 := if_pos h
theorem bI_f {p : Prop} [Decidable p] (h : ¬ p) : bI p = 0 := if_neg h
theorem bI_0 {p : Prop} [Decidable p] (h : bI p = 0) : ¬ p := fun hp => by rw [bI_t hp] at h; exact absurd h (by decide)
theorem bI_1 {p : Prop} [Decidable p] (h : ¬ bI p = 0) : p := Decidable.byContradiction fun hp => h (bI_f hp)
theorem bI_b {p : Prop} [Decidable p] : bI p = 0 ∨ bI p = 1 := by by_cases h : p; exact Or.inr (bI_t h); exact Or.inl (bI_f h)
theorem bI_c {p q : Prop} [Decidable p] [Decidable q] (h : p ↔ q) : bI p = bI q := by unfold bI; simp only [h]
theorem nI_3 : (3 : Int32) = nI 3 := rfl
-- small numbers
theorem n_add {x y : Int32} {a b : Nat} (hx : x = nI a) (hy : y = nI b) : x + y = nI (a + b) := by rw [hx, hy, nI_add]
theorem n_mul {x y : Int32} {a b : Nat} (hx : x = nI a) (hy : y = nI b) : x * y = nI (a * b) := by rw [hx, hy, pk_mul]
theorem n_sub {x y : Int32} {a b : Nat} (hx : x = nI a) (hy : y = nI b) (h : b ≤ a) : x - y = nI (a - b) := by rw [hx, hy, pk_sub h]
theorem n_ti {a : Nat} (h : a < 2 ^ 31) : (nI a).toInt = (a : Int) := nI_toInt h
theorem i_lt {x y : Int32} : x < y ↔ x.toInt < y.toInt := Int32.lt_iff_toInt_lt
theorem i_le {x y : Int32} : x ≤ y ↔ x.toInt ≤ y.toInt := Int32.le_iff_toInt_le
theorem i_eq {x y : Int32} : x = y ↔ x.toInt = y.toInt := Int32.toInt_inj.symm
section LP
variable {p : Program} {l : Launch} {e : Env} {R : Room} {s : State} {m : MethodId} {args : Array Value} {below : List Frame} {meth : Method} {c : Code} {H : Heap} {locs : List Loc} {cells slots : Nat} {Q : State → Prop}
/-- two roads meet with a number on the stack -/
theorem w_join {P : Int32 → Prop} (pcJ : Nat) {ls : Array Slot} {rest : List Value} {g : JFrame} (j : ∀ b : Int32, P b → W p l e R s m args below meth c H locs cells slots Q (F0 m pcJ ls (.int b :: rest))) (k : (∀ b : Int32, P b → W p l e R s m args below meth c H locs cells slots Q (F0 m pcJ ls (.int b :: rest))) → W p l e R s m args below meth c H locs cells slots Q g) : W p l e R s m args below meth c H locs cells slots Q g := k j
/-- a loop whose state is in the locals alone: k goes up to N -/
theorem w_for {N : Nat} (head : Nat) {L : Nat → Array Slot → Prop} (body : ∀ (k : Nat) (ls : Array Slot), k ≤ N → L k ls → (∀ ls' : Array Slot, k < N → L (k + 1) ls' → W p l e R s m args below meth c H locs cells slots Q (F0 m head ls' [])) → W p l e R s m args below meth c H locs cells slots Q (F0 m head ls [])) (k0 : Nat) (ls0 : Array Slot) (h0 : k0 ≤ N) (hL : L k0 ls0) : W p l e R s m args below meth c H locs cells slots Q (F0 m head ls0 []) := by
  obtain ⟨n, hn⟩ : ∃ n, n = N - k0 := ⟨_, rfl⟩
  induction n generalizing k0 ls0 with
  | zero => exact body k0 ls0 h0 hL (fun ls' h _ => absurd h (by omega))
  | succ n ih => exact body k0 ls0 h0 hL (fun ls' h h2 => ih (k0 + 1) ls' (by omega) h2 (by omega))
/-- a loop that writes -/
theorem w_forM {N : Nat} (head : Nat) {L : Nat → Array Slot → Heap → List Loc → Prop} (body : ∀ (k : Nat) (ls : Array Slot) (H : Heap) (locs : List Loc), k ≤ N → L k ls H locs → (∀ (ls' : Array Slot) (H' : Heap) (locs' : List Loc), k < N → L (k + 1) ls' H' locs' → W p l e R s m args below meth c H' locs' cells slots Q (F0 m head ls' [])) → W p l e R s m args below meth c H locs cells slots Q (F0 m head ls [])) (k0 : Nat) (ls0 : Array Slot) (H0 : Heap) (locs0 : List Loc) (h0 : k0 ≤ N) (hL : L k0 ls0 H0 locs0) : W p l e R s m args below meth c H0 locs0 cells slots Q (F0 m head ls0 []) := by
  obtain ⟨n, hn⟩ : ∃ n, n = N - k0 := ⟨_, rfl⟩
  induction n generalizing k0 ls0 H0 locs0 with
  | zero => exact body k0 ls0 H0 locs0 h0 hL (fun ls' _ _ h _ => absurd h (by omega))
  | succ n ih => exact body k0 ls0 H0 locs0 h0 hL (fun ls' H' locs' h h2 => ih (k0 + 1) ls' H' locs' (by omega) h2 (by omega))
end LP
-- places of a list, by a number
def okb (n : Nat) (t : Int32) : Bool := decide (0 ≤ t ∧ t < nI n)
abbrev okN (n : Nat) (t : Int32) : Prop := okb n t = true
theorem okN_def {n : Nat} {t : Int32} : okN n t ↔ (0 ≤ t ∧ t < nI n) := decide_eq_true_iff
theorem okN_ex {n : Nat} {t : Int32} (hn : n < 2 ^ 31) (h : okN n t) : ∃ j : Nat, j < n ∧ t = nI j := by
  have h := okN_def.mp h
  obtain ⟨j, hj, e⟩ := nI_of (x := t) (fun hq => by have h1 := h.1; simp only [i_lt, i_le, Int32.reduceToInt] at h1 hq; omega)
  subst e
  exact ⟨j, (nI_ltI hj hn).mp h.2, rfl⟩
theorem okN_nI {n j : Nat} (hn : n < 2 ^ 31) (h : j < n) : okN n (nI j) := okN_def.mpr ⟨nI_pos' (by omega), nI_lt h hn⟩
theorem okN_iff {n : Nat} {t : Int32} (hn : n < 2 ^ 30) : (0 ≤ t ∧ t ≤ nI n - 1) ↔ okN n t := by
  have h1 : (nI n - 1).toInt = (n : Int) - 1 := pk_sub_toInt (a := n) (b := 1) hn (by decide)
  rw [okN_def]
  simp only [i_le, i_lt, h1, n_ti (show n < 2 ^ 31 by omega), Int32.reduceToInt]
  omega
theorem nI_inj {a b : Nat} (ha : a < 2 ^ 31) (hb : b < 2 ^ 31) (h : nI a = nI b) : a = b := (nI_eq ha hb).mp h
/-- the first place from i on, of f places, with P -/
def fnd (P : Nat → Prop) [DecidablePred P] : Nat → Nat → Int32
  | 0, _ => -1
  | f + 1, i => if P i then nI i else fnd P f (i + 1)
theorem fnd_t {P : Nat → Prop} [DecidablePred P] {f i N : Nat} (h : i < N) (hP : P i) (hf : f = N - i) : fnd P f i = nI i := by
  subst hf; obtain ⟨z, hz⟩ : ∃ z, N - i = z + 1 := ⟨N - i - 1, by omega⟩
  rw [hz]; exact if_pos hP
theorem fnd_f {P : Nat → Prop} [DecidablePred P] {i N : Nat} (h : i < N) (hP : ¬ P i) : fnd P (N - i) i = fnd P (N - (i + 1)) (i + 1) := by
  obtain ⟨z, hz⟩ : ∃ z, N - i = z + 1 := ⟨N - i - 1, by omega⟩
  rw [hz, show N - (i + 1) = z by omega]; exact if_neg hP
theorem bI_self {x : Int32} (h : x = 0 ∨ x = 1) : x = bI (¬ x = 0) := by rcases h with rfl | rfl <;> rfl
theorem and_nn {x c : Int32} (hc : c.toBitVec.msb = false) : 0 ≤ x &&& c := by
  rw [i_le]
  have h : (x &&& c).toBitVec.msb = false := by
    rw [show (x &&& c).toBitVec = x.toBitVec &&& c.toBitVec from rfl, BitVec.msb_and, hc, Bool.and_false]
  rw [BitVec.msb_eq_toInt] at h
  have h2 : ¬ (x &&& c).toBitVec.toInt < 0 := by simpa using h
  show (0 : Int) ≤ (x &&& c).toBitVec.toInt
  omega
theorem and_le {x c : Int32} (hc : c.toBitVec.msb = false) (h : x &&& c ≤ 0) : x &&& c = 0 := by
  have := and_nn (x := x) hc; simp only [i_le, i_eq, Int32.reduceToInt] at *; omega
theorem and_nle {x c : Int32} (h : ¬ x &&& c ≤ 0) : ¬ x &&& c = 0 := fun e => h (by rw [e]; decide)
theorem and_gt {x c : Int32} (h : 0 < x &&& c) : ¬ x &&& c = 0 := fun e => by rw [e] at h; exact absurd h (by decide)
theorem and_ngt {x c : Int32} (hc : c.toBitVec.msb = false) (h : ¬ 0 < x &&& c) : x &&& c = 0 := by
  have := and_nn (x := x) hc; simp only [i_le, i_lt, i_eq, Int32.reduceToInt] at *; omega
abbrev MS : Type := Nat → Nat → Int32
/-- a table of the reference gets v at place i -/
def su (σ : MS) (k i : Nat) (v : Int32) : MS := fun a => if a = k then upd (σ k) i v else σ a
/-- the cells of the reference: its object, its arrays; the fields by their slots: a number is σ k 0, an array is σ k, the longs are τ -/
abbrev mW (G : Nat → ClassId) (mo : Nat) (ad : Nat → Nat) (σ : MS) (τ : Nat → Int64) : va_W := [(mo, .inr (8, [.int (σ 0 0), .int (σ 1 0), .ref (ad 2), .ref (ad 3), .ref (ad 4), .ref (ad 5), .ref (ad 6), .int (σ 7 0), .ref (ad 8), .ref (ad 9), .ref (ad 10), .ref (ad 11), .ref (ad 12), .ref (ad 13), .ref (ad 14), .ref (ad 15), .ref (ad 16), .ref (ad 17), .ref (ad 18), .ref (ad 19), .ref (ad 20), .int (σ 21 0), .int (σ 22 0), .ref (ad 23), .ref (ad 24), .int (σ 25 0), .int (σ 26 0), .ref (ad 27), .ref (ad 28), .ref (ad 29), .ref (ad 30), .ref (ad 31), .ref (ad 32)])), (ad 2, .inl (G 0, 12, .inl (σ 2))), (ad 3, .inl (G 0, 12, .inl (σ 3))), (ad 4, .inl (G 0, 36, .inl (σ 4))), (ad 5, .inl (G 0, 12, .inl (σ 5))), (ad 6, .inl (G 2, 144, .inl (σ 6))), (ad 8, .inl (G 2, 60, .inl (σ 8))), (ad 9, .inl (G 0, 60, .inl (σ 9))), (ad 10, .inl (G 0, 60, .inl (σ 10))), (ad 11, .inl (G 0, 60, .inl (σ 11))), (ad 12, .inl (G 0, 60, .inl (σ 12))), (ad 13, .inl (G 0, 60, .inl (σ 13))), (ad 14, .inl (G 2, 60, .inl (σ 14))), (ad 15, .inl (G 1, 60, .inr (.inl τ))), (ad 16, .inl (G 2, 60, .inl (σ 16))), (ad 17, .inl (G 2, 60, .inl (σ 17))), (ad 18, .inl (G 0, 60, .inl (σ 18))), (ad 19, .inl (G 0, 300, .inl (σ 19))), (ad 20, .inl (G 0, 300, .inl (σ 20))), (ad 23, .inl (G 0, 5, .inl (σ 23))), (ad 24, .inl (G 0, 5, .inl (σ 24))), (ad 27, .inl (G 0, 26, .inl (σ 27))), (ad 28, .inl (G 0, 60, .inl (σ 28))), (ad 29, .inl (G 0, 12, .inl (σ 29))), (ad 30, .inl (G 2, 60, .inl (σ 30))), (ad 31, .inl (G 2, 60, .inl (σ 31))), (ad 32, .inl (G 2, 60, .inl (σ 32)))]
-- what the reference's methods say, by its tables
abbrev lyP (σ : MS) (t o : Nat) : Prop := ¬ σ 6 (12 * t + o) = 0
def nokb (n : Nat) (kind : Int32) : Bool := decide (¬ kind ≤ 9 ∧ ¬ okN n (kind - 10))
abbrev noK (n : Nat) (kind : Int32) : Prop := nokb n kind = true
theorem noK_def {n : Nat} {kind : Int32} : noK n kind ↔ (¬ kind ≤ 9 ∧ ¬ okN n (kind - 10)) := decide_eq_true_iff
def aRef (σ : MS) (n : Nat) (t name kind d m : Int32) : Int32 :=
  if ¬ okN n t ∨ noK n kind then -11
  else if ¬ (0 ≤ name ∧ name ≤ 49) ∨ kind < 0 ∨ kind = 9 ∨ ¬ (0 ≤ d ∧ d ≤ 3) ∨ (kind = 0 ∧ 0 < d) ∨ ¬ (0 ≤ m ∧ m ≤ 2047) then -13
  else if ¬ σ 21 0 = 0 then -14 else if σ 7 0 = 60 then -15 else 0
def bitsF (m : Int32) : Nat → Int32
  | 0 => 0
  | k + 1 => bitsF m k + ((m >>> (nI k &&& 31)) &&& 1)
abbrev fldP (σ : MS) (t name : Int32) (e : Nat) : Prop := σ 8 e = 0 ∧ σ 9 e = t ∧ σ 10 e = name
def fld (σ : MS) (k : Nat) (t name : Int32) : Int32 := fnd (fldP σ t name) k 0
def aRF (σ : MS) (k t : Nat) (name kind m : Int32) : Int32 :=
  if ¬ m ≤ 127 then 1 else if ¬ bitsF (m &&& 7) 11 ≤ 1 then 2 else if ¬ m &&& 16 = 0 ∧ ¬ m &&& 32 = 0 then 3
  else if σ 2 t = 3 ∧ ¬ m &&& (-26) ≤ 0 then 4 else if kind = 0 then 5 else if fld σ k (nI t) name = -1 then 0 else 6
def badb (m : Int32) : Bool := decide (¬ m &&& 786 = 0 ∨ 1 < bitsF (m &&& 1160) 11 ∨ (¬ m &&& 4 = 0 ∧ ¬ m &&& 1152 = 0))
abbrev badF (m : Int32) : Prop := badb m = true
theorem badF_def {m : Int32} : badF m ↔ (¬ m &&& 786 = 0 ∨ 1 < bitsF (m &&& 1160) 11 ∨ (¬ m &&& 4 = 0 ∧ ¬ m &&& 1152 = 0)) := decide_eq_true_iff
def bareb (sort m : Int32) : Bool := decide (¬ m &&& 128 = 0 ∨ ¬ m &&& 256 = 0 ∨ (sort = 3 ∧ m &&& 1036 = 0))
abbrev bare (sort m : Int32) : Prop := bareb sort m = true
theorem bare_def {sort m : Int32} : bare sort m ↔ (¬ m &&& 128 = 0 ∨ ¬ m &&& 256 = 0 ∨ (sort = 3 ∧ m &&& 1036 = 0)) := decide_eq_true_iff
def aRM (sort m body : Int32) : Int32 :=
  if ¬ m &&& 96 = 0 then 11 else if ¬ bitsF (m &&& 7) 11 ≤ 1 then 12 else if (sort = 3 ∧ badF m) ∨ (¬ sort = 3 ∧ ¬ m &&& 1024 = 0) then 13
  else if ¬ sort = 3 ∧ ¬ m &&& 128 = 0 ∧ ¬ m &&& 796 = 0 then 14 else if ¬ sort = 3 ∧ ¬ m &&& 128 = 0 ∧ ¬ sort = 1 then 15
  else if bI (bare sort m) = body then (if body = 0 then 17 else 16) else 0
/-- the type of an entry; how many parameters it has -/
abbrev tyE (σ : MS) (e : Nat) : Nat := (σ 9 e).toNatClampNeg
abbrev mnE (σ : MS) (e : Nat) : Nat := (σ 18 e).toNatClampNeg
abbrev okE (σ : MS) (e : Nat) : Prop := σ 9 e = nI (tyE σ e) ∧ tyE σ e < 12
abbrev okM (σ : MS) (e : Nat) : Prop := σ 18 e = nI (mnE σ e) ∧ mnE σ e ≤ 5
abbrev eqP (σ : MS) (a b j : Nat) : Prop := σ 19 (5 * a + j) = σ 19 (5 * b + j) ∧ σ 20 (5 * a + j) = σ 20 (5 * b + j)
abbrev eqN (σ : MS) (a b n : Nat) : Prop := σ 18 a = σ 18 b ∧ ∀ j, j < n → eqP σ a b j
def sameb (σ : MS) (a b : Nat) : Bool := decide (eqN σ a b (mnE σ a))
abbrev sameP (σ : MS) (a b : Nat) : Prop := sameb σ a b = true
theorem sameP_def {σ : MS} {a b : Nat} : sameP σ a b ↔ eqN σ a b (mnE σ a) := decide_eq_true_iff
theorem eqN_0 {σ : MS} {a b : Nat} : bI (σ 18 a = σ 18 b) = bI (eqN σ a b 0) := bI_c ⟨fun h => ⟨h, fun j hj => absurd hj (Nat.not_lt_zero j)⟩, fun h => h.1⟩
theorem eqN_s {σ : MS} {a b k : Nat} (h : eqN σ a b k) : bI (eqP σ a b k) = bI (eqN σ a b (k + 1)) := bI_c ⟨fun q => ⟨h.1, fun j hj => by
  rcases Nat.lt_or_ge j k with h1 | h1
  · exact h.2 j h1
  · rw [show j = k by omega]; exact q⟩, fun q => q.2 k (Nat.lt_succ_self _)⟩
theorem eqN_f {σ : MS} {a b k : Nat} (hk : k ≤ mnE σ a) (h : ¬ eqN σ a b k) : bI (eqN σ a b k) = bI (sameP σ a b) := by
  rw [bI_f h, bI_f (fun q => h ⟨(sameP_def.mp q).1, fun j hj => (sameP_def.mp q).2 j (by omega)⟩)]
def stb (σ : MS) (e : Nat) : Bool := decide (¬ σ 13 e &&& 8 = 0 ∧ σ 2 (tyE σ e) = 3)
abbrev stP (σ : MS) (e : Nat) : Prop := stb σ e = true
theorem stP_def {σ : MS} {e : Nat} : stP σ e ↔ (¬ σ 13 e &&& 8 = 0 ∧ σ 2 (tyE σ e) = 3) := decide_eq_true_iff
def meetb (σ : MS) (a b : Nat) : Bool := decide (¬ σ 8 b = 0 ∧ ¬ a = b ∧ σ 13 a &&& 4 = 0 ∧ σ 13 b &&& 4 = 0 ∧ ¬ stP σ a ∧ ¬ stP σ b ∧ σ 10 a = σ 10 b ∧ ¬ σ 9 a = σ 9 b ∧ lyP σ (tyE σ a) (tyE σ b) ∧ sameP σ a b)
abbrev meetP (σ : MS) (a b : Nat) : Prop := meetb σ a b = true
theorem meetP_def {σ : MS} {a b : Nat} : meetP σ a b ↔ (¬ σ 8 b = 0 ∧ ¬ a = b ∧ σ 13 a &&& 4 = 0 ∧ σ 13 b &&& 4 = 0 ∧ ¬ stP σ a ∧ ¬ stP σ b ∧ σ 10 a = σ 10 b ∧ ¬ σ 9 a = σ 9 b ∧ lyP σ (tyE σ a) (tyE σ b) ∧ sameP σ a b) := decide_eq_true_iff
def seenF (m : Int32) : Int32 := if ¬ m &&& 1 = 0 then 3 else if ¬ m &&& 2 = 0 then 2 else if ¬ m &&& 4 = 0 then 0 else 1
/-- the type of a kind -/
abbrev tyK (x : Int32) : Nat := (x - 10).toNatClampNeg
abbrev kdO (x : Int32) : Prop := ¬ x ≤ 9 → x - 10 = nI (tyK x) ∧ tyK x < 12
def undb (σ : MS) (x y : Int32) : Bool := decide (¬ x ≤ 9 ∧ ¬ y ≤ 9 ∧ lyP σ (tyK x) (tyK y))
abbrev undP (σ : MS) (x y : Int32) : Prop := undb σ x y = true
theorem undP_def {σ : MS} {x y : Int32} : undP σ x y ↔ (¬ x ≤ 9 ∧ ¬ y ≤ 9 ∧ lyP σ (tyK x) (tyK y)) := decide_eq_true_iff
abbrev eqR (σ : MS) (a b : Nat) : Prop := σ 11 a = σ 11 b ∧ σ 12 a = σ 12 b
abbrev unR (σ : MS) (a b : Nat) : Prop := σ 12 a = 0 ∧ σ 12 b = 0 ∧ undP σ (σ 11 a) (σ 11 b)
def aRA (σ : MS) (a b : Nat) : Int32 :=
  if ¬ σ 13 b &&& 16 = 0 then 22 else if ¬ σ 13 a &&& 8 = σ 13 b &&& 8 then 23
  else if ¬ eqR σ a b ∧ ¬ unR σ a b then 24
  else if ¬ seenF (σ 13 b) ≤ seenF (σ 13 a) then 25 else 0
def bothF (a b : Int32) : Int32 := if a = -1 then b else if b = -1 ∨ a = b then a else -2
def wdb (a b : Int32) : Bool := decide (if a = 4 then 5 ≤ b ∧ b ≤ 8 else (2 ≤ a ∧ a ≤ 7) ∧ (3 ≤ b ∧ b ≤ 8) ∧ ¬ b ≤ a ∧ ¬ b = 4)
abbrev wdP (a b : Int32) : Prop := wdb a b = true
theorem wdP_def {a b : Int32} : wdP a b ↔ (if a = 4 then 5 ≤ b ∧ b ≤ 8 else (2 ≤ a ∧ a ≤ 7) ∧ (3 ≤ b ∧ b ≤ 8) ∧ ¬ b ≤ a ∧ ¬ b = 4) := decide_eq_true_iff
def fitb (σ : MS) (k d kind dim : Int32) : Bool := decide ((k = kind ∧ d = dim) ∨ (¬ (k = kind ∧ d = dim) ∧ (if k = 9 then 0 < dim ∨ ¬ kind ≤ 9 else if d = 0 ∧ dim = 0 ∧ ¬ 9 ≤ k then wdP k kind else d = dim ∧ undP σ k kind)))
abbrev fitP (σ : MS) (k d kind dim : Int32) : Prop := fitb σ k d kind dim = true
theorem fitP_def {σ : MS} {k d kind dim : Int32} : fitP σ k d kind dim ↔ ((k = kind ∧ d = dim) ∨ (¬ (k = kind ∧ d = dim) ∧ (if k = 9 then 0 < dim ∨ ¬ kind ≤ 9 else if d = 0 ∧ dim = 0 ∧ ¬ 9 ≤ k then wdP k kind else d = dim ∧ undP σ k kind))) := decide_eq_true_iff
def kindF (σ : MS) (e p : Nat) (v : Int32) : Int32 := if ¬ v = 0 ∧ ¬ p < mnE σ e then σ 19 (5 * e + (mnE σ e - 1)) else σ 19 (5 * e + p)
def dimF (σ : MS) (e p : Nat) (v : Int32) : Int32 := if ¬ v = 0 ∧ ¬ p < mnE σ e - 1 then σ 20 (5 * e + mnE σ e - 1) - 1 else σ 20 (5 * e + p)
def tkb (σ : MS) (w e : Nat) (v : Int32) (n : Nat) : Bool := decide ((if ¬ v = 0 then ¬ σ 17 e = 0 ∧ ¬ w < mnE σ e - 1 else w = mnE σ e) ∧ ∀ p, p < n → fitP σ (σ 23 p) (σ 24 p) (kindF σ e p v) (dimF σ e p v))
abbrev tkN (σ : MS) (w e : Nat) (v : Int32) (n : Nat) : Prop := tkb σ w e v n = true
theorem tkN_def {σ : MS} {w e : Nat} {v : Int32} {n : Nat} : tkN σ w e v n ↔ ((if ¬ v = 0 then ¬ σ 17 e = 0 ∧ ¬ w < mnE σ e - 1 else w = mnE σ e) ∧ ∀ p, p < n → fitP σ (σ 23 p) (σ 24 p) (kindF σ e p v) (dimF σ e p v)) := decide_eq_true_iff
theorem tkN_s {σ : MS} {w e : Nat} {v : Int32} {k : Nat} (h : tkN σ w e v k) : bI (fitP σ (σ 23 k) (σ 24 k) (kindF σ e k v) (dimF σ e k v)) = bI (tkN σ w e v (k + 1)) := by
  have h := tkN_def.mp h
  refine bI_c ⟨fun q => tkN_def.mpr ⟨h.1, fun j hj => ?_⟩, fun q => (tkN_def.mp q).2 k (Nat.lt_succ_self _)⟩
  rcases Nat.lt_or_ge j k with h1 | h1
  · exact h.2 j h1
  · rw [show j = k by omega]; exact q
theorem tkN_f {σ : MS} {w e : Nat} {v : Int32} {k n : Nat} (hk : k ≤ n) (h : ¬ tkN σ w e v k) : bI (tkN σ w e v k) = bI (tkN σ w e v n) := by
  rw [bI_f h, bI_f (fun q => h (tkN_def.mpr ⟨(tkN_def.mp q).1, fun j hj => (tkN_def.mp q).2 j (by omega)⟩))]
def nrb (σ : MS) (a b : Nat) (v : Int32) (n : Nat) : Bool := decide (∀ p, p < n → fitP σ (kindF σ a p v) (dimF σ a p v) (kindF σ b p v) (dimF σ b p v))
abbrev nrN (σ : MS) (a b : Nat) (v : Int32) (n : Nat) : Prop := nrb σ a b v n = true
theorem nrN_def {σ : MS} {a b : Nat} {v : Int32} {n : Nat} : nrN σ a b v n ↔ (∀ p, p < n → fitP σ (kindF σ a p v) (dimF σ a p v) (kindF σ b p v) (dimF σ b p v)) := decide_eq_true_iff
theorem nrN_0 {σ : MS} {a b : Nat} {v : Int32} : (1 : Int32) = bI (nrN σ a b v 0) := (bI_t (nrN_def.mpr (fun j hj => absurd hj (Nat.not_lt_zero j)))).symm
theorem nrN_s {σ : MS} {a b : Nat} {v : Int32} {k : Nat} (h : nrN σ a b v k) : bI (fitP σ (kindF σ a k v) (dimF σ a k v) (kindF σ b k v) (dimF σ b k v)) = bI (nrN σ a b v (k + 1)) := by
  have h := nrN_def.mp h
  refine bI_c ⟨fun q => nrN_def.mpr (fun j hj => ?_), fun q => (nrN_def.mp q) k (Nat.lt_succ_self _)⟩
  rcases Nat.lt_or_ge j k with h1 | h1
  · exact h j h1
  · rw [show j = k by omega]; exact q
theorem nrN_f {σ : MS} {a b : Nat} {v : Int32} {k n : Nat} (hk : k ≤ n) (h : ¬ nrN σ a b v k) : bI (nrN σ a b v k) = bI (nrN σ a b v n) := by
  rw [bI_f h, bI_f (fun q => h (nrN_def.mpr (fun j hj => (nrN_def.mp q) j (by omega))))]
/-- how many places are compared -/
def plO (σ : MS) (w a : Nat) (v : Int32) : Nat := if v = 0 then w else max w (mnE σ a)
abbrev plN (σ : MS) (w a b : Nat) (v : Int32) : Nat := plO σ (plO σ w a v) b v
theorem plO_le {σ : MS} {w a : Nat} {v : Int32} (h : w ≤ 5) (ha : mnE σ a ≤ 5) : plO σ w a v ≤ 5 := by unfold plO; split <;> omega
def mkb (σ : MS) (t e wa : Nat) : Bool := decide (¬ σ 8 e = 0 ∧ lyP σ t (tyE σ e) ∧ σ 10 e = σ 10 wa ∧ sameP σ e wa ∧ (if σ 2 (tyE σ e) = 3 then ¬ σ 13 e &&& 1024 = 0 else (¬ σ 16 e = 0 ∨ ¬ σ 13 e &&& 256 = 0) ∧ σ 13 e &&& 12 = 0))
abbrev mkP (σ : MS) (t e wa : Nat) : Prop := mkb σ t e wa = true
theorem mkP_def {σ : MS} {t e wa : Nat} : mkP σ t e wa ↔ (¬ σ 8 e = 0 ∧ lyP σ t (tyE σ e) ∧ σ 10 e = σ 10 wa ∧ sameP σ e wa ∧ (if σ 2 (tyE σ e) = 3 then ¬ σ 13 e &&& 1024 = 0 else (¬ σ 16 e = 0 ∨ ¬ σ 13 e &&& 256 = 0) ∧ σ 13 e &&& 12 = 0)) := decide_eq_true_iff
def lkb (σ : MS) (t e n : Nat) : Bool := decide (¬ σ 8 e = 0 ∧ ¬ σ 13 e &&& 128 = 0 ∧ lyP σ t (tyE σ e) ∧ ∀ o, o < n → ¬ mkP σ t o e)
abbrev lkN (σ : MS) (t e n : Nat) : Prop := lkb σ t e n = true
theorem lkN_def {σ : MS} {t e n : Nat} : lkN σ t e n ↔ (¬ σ 8 e = 0 ∧ ¬ σ 13 e &&& 128 = 0 ∧ lyP σ t (tyE σ e) ∧ ∀ o, o < n → ¬ mkP σ t o e) := decide_eq_true_iff
theorem lkN_s {σ : MS} {t e k : Nat} (h : lkN σ t e k) : bI (¬ mkP σ t k e) = bI (lkN σ t e (k + 1)) := by
  have h := lkN_def.mp h
  refine bI_c ⟨fun q => lkN_def.mpr ⟨h.1, h.2.1, h.2.2.1, fun j hj => ?_⟩, fun q => (lkN_def.mp q).2.2.2 k (Nat.lt_succ_self _)⟩
  rcases Nat.lt_or_ge j k with h1 | h1
  · exact h.2.2.2 j h1
  · rw [show j = k by omega]; exact q
theorem lkN_f {σ : MS} {t e k n : Nat} (hk : k ≤ n) (h : ¬ lkN σ t e k) : bI (lkN σ t e k) = bI (lkN σ t e n) := by
  rw [bI_f h, bI_f (fun q => h (by have q := lkN_def.mp q; exact lkN_def.mpr ⟨q.1, q.2.1, q.2.2.1, fun j hj => q.2.2.2 j (by omega)⟩))]
theorem plO_0 {σ : MS} {w a : Nat} {v : Int32} (h : v = 0) : plO σ w a v = w := if_pos h
theorem plO_1 {σ : MS} {w a : Nat} {v : Int32} (h : ¬ v = 0) (q : mnE σ a ≤ w) : plO σ w a v = w := by unfold plO; rw [if_neg h]; omega
theorem plO_2 {σ : MS} {w a : Nat} {v : Int32} (h : ¬ v = 0) (q : ¬ mnE σ a ≤ w) : plO σ w a v = mnE σ a := by unfold plO; rw [if_neg h]; omega
-- methods of the reference that write
abbrev MU : Type := MS × (Nat → Int64)
/-- a table of the reference is another -/
def st (σ : MS) (k : Nat) (f : Nat → Int32) : MS := fun a => if a = k then f else σ a
abbrev muP (D : va_G) (G : Nat → ClassId) (sz mo : Nat) (ad : Nat → Nat) (u : MU) (As : List Value) : Array Value → State → Prop := va_Pc As (fun U => U.heap.size = sz ∧ va_P D vwCl (mW G mo ad u.1 u.2) U.heap ∧ KK D G U ∧ va_D (fun _ => True) (mW G mo ad u.1 u.2))
abbrev muA (G : Nat → ClassId) (mo : Nat) (ad : Nat → Nat) (u : MU) (sz : Nat) : Nat → Prop := va_A (mW G mo ad u.1 u.2) sz
abbrev muB (D : va_G) (G : Nat → ClassId) (mo : Nat) (ad : Nat → Nat) (A : Nat → Prop) (z : MU) (t : State) : Prop := va_P D vwCl (mW G mo ad z.1 z.2) t.heap ∧ va_D A (mW G mo ad z.1 z.2)
abbrev muQi (D : va_G) (G : Nat → ClassId) (mo : Nat) (ad : Nat → Nat) (A : Nat → Prop) (ans : Int32) (v : MU) : Array Value → State → Outcome → State → Prop := va_Qi (fun r (z : MU) => r = ans ∧ z = v) (muB D G mo ad A) A
abbrev muQl (D : va_G) (G : Nat → ClassId) (mo : Nat) (ad : Nat → Nat) (A : Nat → Prop) (ans : Int64) (v : MU) : Array Value → State → Outcome → State → Prop := va_Ql (fun r (z : MU) => r = ans ∧ z = v) (muB D G mo ad A) A
abbrev muQv (D : va_G) (G : Nat → ClassId) (mo : Nat) (ad : Nat → Nat) (A : Nat → Prop) (v : MU) : Array Value → State → Outcome → State → Prop := va_Qv (fun (z : MU) => z = v) (muB D G mo ad A) A
section MUT
variable {p : Program} {l : Launch} {e : Env} {R : Room} {s : State} {m : MethodId} {args : Array Value} {below : List Frame} {meth : Method} {c : Code} {H : Heap} {locs : List Loc} {cells slots : Nat} {Q : State → Prop}
variable {cc : ByteArray} {pc : Nat} {ls : Array Slot} {rest stk : List Value} {D : va_G} {G : Nat → ClassId} {y : MethodName} {bytes : ByteArray} {maxL nL n idx d : Nat} {ret : Option FieldType} {As : List Value} {own C : String} {A : Nat → Prop} {mo : Nat} {ad : Nat → Nat} {u v : MU}
theorem mu_pre (hK : KK D G s) (hP : va_P D vwCl (mW G mo ad u.1 u.2) H) (hD : va_D A (mW G mo ad u.1 u.2)) : PreS s H (muP D G H.size mo ad u As) As :=
  ⟨fun _ _ _ _ q => ⟨q.1, q.2.1, q.2.2.1, q.2.2.2.1.call, q.2.2.2.2⟩, fun U hU hW => ⟨rfl, by rw [hU], by rw [hU]; exact hP, hK.warm hW, hD.weaken (fun _ _ _ _ => trivial)⟩⟩
theorem mu_fr (hD : va_D A (mW G mo ad u.1 u.2)) (hS : va_S A s.heap H locs) (hA : ∀ q, s.heap.size ≤ q → A q) : ∀ q, muA G mo ad u H.size q → A q := by
  intro q h
  rcases h with ⟨k, e, h⟩ | h
  · exact hD.2 k (q, e) h
  · exact hA q (Nat.le_trans hS.1 h)
theorem mu_Vi {ans : Int32} (S : CallFix p m c cc nL s args TT own) (hM : Met l y (.code y bytes maxL ret :: TT) (rmD d) (muP D G H.size mo ad u (.ref mo :: As)) (muQi D G mo ad (muA G mo ad u H.size) ans v) 0 0 (muA G mo ad u H.size)) (g : GoodIn TT (wsV own idx RX8 y (.code y bytes maxL ret :: TT)))
    (hd : y.cls = RX8 ∧ y.cls ≠ "java/lang/invoke/MethodHandle" ∧ y.cls ≠ "java/lang/invoke/VarHandle" ∧ (parseMethodDescriptor y.desc).map (fun d => d.parameters.length) = some n) (hR : d + 1 ≤ R.frames ∧ 8 + (maxL + 11) + 40 * d ≤ R.locals) (hK : KK D G s) (hP : va_P D vwCl (mW G mo ad u.1 u.2) H) (hD : va_D A (mW G mo ad u.1 u.2)) (hS : va_S A s.heap H locs) (hA : ∀ q, s.heap.size ≤ q → A q) (hn : As.length = n) (hsize : ls.size = nL) (hstack : stk = As.reverse ++ .ref mo :: rest) (hW : (rest.map fun v => v.category).sum ≤ 8) (hdg : decode cc pc = .ok (.invokevirtual idx, 3)) (hc : cells ≤ R.cells ∧ slots ≤ R.slots)
    (kk : ∀ (H : Heap) (locs : List Loc), va_P D vwCl (mW G mo ad v.1 v.2) H → va_D A (mW G mo ad v.1 v.2) → va_S A s.heap H locs → W p l e R s m args below meth c H locs cells slots Q (F0 m (pc + 3) ls (.int ans :: rest))) : W p l e R s m args below meth c H locs cells slots Q (F0 m pc ls stk) := by
  refine va_calli (va_runV S hM (cwV n S.2.2.2.2 g rfl rfl rfl hd hR) ⟨(mu_pre (As := .ref mo :: As) hK hP hD).1, va_recv hK.1 hP (ci := 8) (q0 := 0) rfl rfl, (mu_pre hK hP hD).2⟩ rfl hn hsize hstack (lv_room hW) hdg hc) hS (fun q _ h => mu_fr hD hS hA q h) (mu_fr hD hS hA) (fun r z t H1 locs1 ht hvm hw hB hz1 hk1 hS1 => ?_)
  obtain ⟨rfl, rfl⟩ := hw
  obtain ⟨hP1, hD1⟩ := hB
  rw [ht] at hP1
  exact kk H1 locs1 hP1 (hD1.weaken (fun k q _ h => mu_fr hD hS hA q.1 h)) hS1
theorem mu_Vv (S : CallFix p m c cc nL s args TT own) (hM : Met l y (.code y bytes maxL ret :: TT) (rmD d) (muP D G H.size mo ad u (.ref mo :: As)) (muQv D G mo ad (muA G mo ad u H.size) v) 0 0 (muA G mo ad u H.size)) (g : GoodIn TT (wsV own idx RX8 y (.code y bytes maxL ret :: TT)))
    (hd : y.cls = RX8 ∧ y.cls ≠ "java/lang/invoke/MethodHandle" ∧ y.cls ≠ "java/lang/invoke/VarHandle" ∧ (parseMethodDescriptor y.desc).map (fun d => d.parameters.length) = some n) (hR : d + 1 ≤ R.frames ∧ 8 + (maxL + 11) + 40 * d ≤ R.locals) (hK : KK D G s) (hP : va_P D vwCl (mW G mo ad u.1 u.2) H) (hD : va_D A (mW G mo ad u.1 u.2)) (hS : va_S A s.heap H locs) (hA : ∀ q, s.heap.size ≤ q → A q) (hn : As.length = n) (hsize : ls.size = nL) (hstack : stk = As.reverse ++ .ref mo :: rest) (hW : (rest.map fun v => v.category).sum ≤ 8) (hdg : decode cc pc = .ok (.invokevirtual idx, 3)) (hc : cells ≤ R.cells ∧ slots ≤ R.slots)
    (kk : ∀ (H : Heap) (locs : List Loc), va_P D vwCl (mW G mo ad v.1 v.2) H → va_D A (mW G mo ad v.1 v.2) → va_S A s.heap H locs → W p l e R s m args below meth c H locs cells slots Q (F0 m (pc + 3) ls rest)) : W p l e R s m args below meth c H locs cells slots Q (F0 m pc ls stk) := by
  refine va_callv (va_runV S hM (cwV n S.2.2.2.2 g rfl rfl rfl hd hR) ⟨(mu_pre (As := .ref mo :: As) hK hP hD).1, va_recv hK.1 hP (ci := 8) (q0 := 0) rfl rfl, (mu_pre hK hP hD).2⟩ rfl hn hsize hstack (lv_room hW) hdg hc) hS (fun q _ h => mu_fr hD hS hA q h) (mu_fr hD hS hA) (fun z t H1 locs1 ht hvm hw hB hz1 hk1 hS1 => ?_)
  subst hw
  obtain ⟨hP1, hD1⟩ := hB
  rw [ht] at hP1
  exact kk H1 locs1 hP1 (hD1.weaken (fun k q _ h => mu_fr hD hS hA q.1 h)) hS1
theorem mu_iret {v0 ans : Int32} {z : MU} (hx : p.tables.exec = Jvm.exec) (hb : c.code = cc) (hr : meth.sig.returnType = some .int) (hlocks : meth.locks = false) (hP : va_P D vwCl (mW G mo ad z.1 z.2) H) (hD : va_D A (mW G mo ad z.1 z.2)) (hS : va_S A s.heap H locs) (hdg : decode cc pc = .ok (.ireturn, 1)) (h1 : v0 = ans) (h2 : z = v) : W p l e R s m args below meth c H locs cells slots (MQ below (muQi D G mo ad A ans v) args s cells slots A) (F0 m pc ls [.int v0]) :=
  W.iret hx hb hr (fun t ht _ => ⟨⟨v0, z, rfl, ⟨h1, h2⟩, by rw [ht]; exact hP, hD⟩, hS.F ht⟩) hS.2.2 hdg hlocks
theorem mu_lret {v0 ans : Int64} {z : MU} (hx : p.tables.exec = Jvm.exec) (hb : c.code = cc) (hr : meth.sig.returnType = some .long) (hlocks : meth.locks = false) (hP : va_P D vwCl (mW G mo ad z.1 z.2) H) (hD : va_D A (mW G mo ad z.1 z.2)) (hS : va_S A s.heap H locs) (hdg : decode cc pc = .ok (.lreturn, 1)) (h1 : v0 = ans) (h2 : z = v) : W p l e R s m args below meth c H locs cells slots (MQ below (muQl D G mo ad A ans v) args s cells slots A) (F0 m pc ls [.long v0]) :=
  W.lret hx hb hr (fun t ht _ => ⟨⟨v0, z, rfl, ⟨h1, h2⟩, by rw [ht]; exact hP, hD⟩, hS.F ht⟩) hS.2.2 hdg hlocks
theorem mu_vret {z : MU} (hx : p.tables.exec = Jvm.exec) (hb : c.code = cc) (hr : meth.sig.returnType = none) (hlocks : meth.locks = false) (hP : va_P D vwCl (mW G mo ad z.1 z.2) H) (hD : va_D A (mW G mo ad z.1 z.2)) (hS : va_S A s.heap H locs) (hdg : decode cc pc = .ok (.return_, 1)) (h2 : z = v) : W p l e R s m args below meth c H locs cells slots (MQ below (muQv D G mo ad A v) args s cells slots A) (F0 m pc ls []) :=
  W.vret hx hb hr (fun t ht _ => ⟨⟨z, rfl, h2, by rw [ht]; exact hP, hD⟩, hS.F ht⟩) hS.2.2 hdg hlocks
end MUT
def rsF (f : Nat → Int32) (t : Nat) : Nat → Nat → Int32
  | 0 => f
  | k + 1 => upd (rsF f t k) (12 * t + k) (bI (k = t))
def addF (f : Nat → Int32) (t ab : Nat) : Nat → Nat → Int32
  | 0 => f
  | k + 1 => upd (addF f t ab k) (12 * t + k) (addF f t ab k (12 * t + k) ||| addF f t ab k (12 * ab + k))
/-- the faces' rows are added, one after the other -/
def afF (f fa : Nat → Int32) (t : Nat) : Nat → Nat → Int32
  | 0 => f
  | k + 1 => addF (afF f fa t k) t (fa (3 * t + k)).toNatClampNeg 12
def recF (f pa fc fa : Nat → Int32) (t : Nat) : Nat → Int32 := afF (if pa t = -1 then rsF f t 12 else addF (rsF f t 12) t (pa t).toNatClampNeg 12) fa t (fc t).toNatClampNeg
abbrev b01 (f : Nat → Int32) : Prop := ∀ i, f i = 0 ∨ f i = 1
theorem b01_or {x y : Int32} (hx : x = 0 ∨ x = 1) (hy : y = 0 ∨ y = 1) : x ||| y = 0 ∨ x ||| y = 1 := by rcases hx with rfl | rfl <;> rcases hy with rfl | rfl <;> decide
theorem b01_upd {f : Nat → Int32} (h : b01 f) {j : Nat} {x : Int32} (hx : x = 0 ∨ x = 1) : b01 (upd f j x) := fun i => by unfold upd; split; exact hx; exact h i
theorem b01_rs {f : Nat → Int32} (h : b01 f) (t : Nat) : ∀ k, b01 (rsF f t k)
  | 0 => h
  | k + 1 => b01_upd (b01_rs h t k) bI_b
theorem b01_add {f : Nat → Int32} (h : b01 f) (t ab : Nat) : ∀ k, b01 (addF f t ab k)
  | 0 => h
  | k + 1 => b01_upd (b01_add h t ab k) (b01_or (b01_add h t ab k _) (b01_add h t ab k _))
theorem b01_af {f fa : Nat → Int32} (h : b01 f) (t : Nat) : ∀ k, b01 (afF f fa t k)
  | 0 => h
  | k + 1 => b01_add (b01_af h t k) t _ 12
theorem b01_rec {f pa fc fa : Nat → Int32} (h : b01 f) (t : Nat) : b01 (recF f pa fc fa t) := by
  unfold recF; split
  · exact b01_af (b01_rs h t 12) t _
  · exact b01_af (b01_add (b01_rs h t 12) t _ 12) t _
/-- a place of a table is a type's number -/
abbrev okT (x : Int32) : Prop := x = nI x.toNatClampNeg ∧ x.toNatClampNeg < 12
